section
-- ===== PART A: goes FIRST, ahead of the names: the tables' words, and 'selects' of the private methods out of them =====
/-- a private method of a class that the tables say can be made, by its rows of tables_1 -/
def lw_okq (q : MethodName × Nat) : Prop := (q.1.cls ≠ "java/lang/invoke/MethodHandle" ∧ q.1.cls ≠ "java/lang/invoke/VarHandle") ∧ Cond.instantiable q.1.cls q.2 ∈ tables_1 ∧ Cond.privateMethod q.1 ∈ tables_1 ∧ Cond.instanceMethod q.1 ∈ tables_1
theorem lw_p0 : lw_okq (⟨"AtticSweep", "empty", "(II)V"⟩, 13) := ⟨⟨by decide +kernel, by decide +kernel⟩, List.mem_of_getElem? (i := 10) (by decide +kernel), List.mem_of_getElem? (i := 121) (by decide +kernel), List.mem_of_getElem? (i := 122) (by decide +kernel)⟩
theorem lw_p1 : lw_okq (⟨"AtticSweep", "colourOfNew", "()I"⟩, 13) := ⟨⟨by decide +kernel, by decide +kernel⟩, List.mem_of_getElem? (i := 10) (by decide +kernel), List.mem_of_getElem? (i := 184) (by decide +kernel), List.mem_of_getElem? (i := 185) (by decide +kernel)⟩
theorem lw_p2 : lw_okq (⟨"AtticSweep", "placeOfNew", "(II)I"⟩, 13) := ⟨⟨by decide +kernel, by decide +kernel⟩, List.mem_of_getElem? (i := 10) (by decide +kernel), List.mem_of_getElem? (i := 188) (by decide +kernel), List.mem_of_getElem? (i := 189) (by decide +kernel)⟩
theorem lw_p3 : lw_okq (⟨"AtticSweep", "inRegister", "(II)I"⟩, 13) := ⟨⟨by decide +kernel, by decide +kernel⟩, List.mem_of_getElem? (i := 10) (by decide +kernel), List.mem_of_getElem? (i := 244) (by decide +kernel), List.mem_of_getElem? (i := 245) (by decide +kernel)⟩
theorem lw_p4 : lw_okq (⟨"AtticSweep", "refusalOfField", "(II)I"⟩, 13) := ⟨⟨by decide +kernel, by decide +kernel⟩, List.mem_of_getElem? (i := 10) (by decide +kernel), List.mem_of_getElem? (i := 256) (by decide +kernel), List.mem_of_getElem? (i := 257) (by decide +kernel)⟩
theorem lw_p5 : lw_okq (⟨"AtticSweep", "note", "(I)V"⟩, 13) := ⟨⟨by decide +kernel, by decide +kernel⟩, List.mem_of_getElem? (i := 10) (by decide +kernel), List.mem_of_getElem? (i := 270) (by decide +kernel), List.mem_of_getElem? (i := 271) (by decide +kernel)⟩
theorem lw_p6 : lw_okq (⟨"AtticSweep", "shade", "(I)V"⟩, 13) := ⟨⟨by decide +kernel, by decide +kernel⟩, List.mem_of_getElem? (i := 10) (by decide +kernel), List.mem_of_getElem? (i := 274) (by decide +kernel), List.mem_of_getElem? (i := 275) (by decide +kernel)⟩
theorem lw_p7 : lw_okq (⟨"AtticSweep", "noteWeakRead", "(I)V"⟩, 13) := ⟨⟨by decide +kernel, by decide +kernel⟩, List.mem_of_getElem? (i := 10) (by decide +kernel), List.mem_of_getElem? (i := 339) (by decide +kernel), List.mem_of_getElem? (i := 340) (by decide +kernel)⟩
theorem lw_p8 : lw_okq (⟨"AtticSweep", "startRound", "()V"⟩, 13) := ⟨⟨by decide +kernel, by decide +kernel⟩, List.mem_of_getElem? (i := 10) (by decide +kernel), List.mem_of_getElem? (i := 377) (by decide +kernel), List.mem_of_getElem? (i := 378) (by decide +kernel)⟩
theorem lw_p9 : lw_okq (⟨"AtticSweep", "shadeHeld", "()V"⟩, 13) := ⟨⟨by decide +kernel, by decide +kernel⟩, List.mem_of_getElem? (i := 10) (by decide +kernel), List.mem_of_getElem? (i := 390) (by decide +kernel), List.mem_of_getElem? (i := 391) (by decide +kernel)⟩
theorem lw_p10 : lw_okq (⟨"AtticSweep", "takeSteps", "(I)I"⟩, 13) := ⟨⟨by decide +kernel, by decide +kernel⟩, List.mem_of_getElem? (i := 10) (by decide +kernel), List.mem_of_getElem? (i := 407) (by decide +kernel), List.mem_of_getElem? (i := 408) (by decide +kernel)⟩
theorem lw_p11 : lw_okq (⟨"AtticSweep", "markStep", "()V"⟩, 13) := ⟨⟨by decide +kernel, by decide +kernel⟩, List.mem_of_getElem? (i := 10) (by decide +kernel), List.mem_of_getElem? (i := 411) (by decide +kernel), List.mem_of_getElem? (i := 412) (by decide +kernel)⟩
theorem lw_p12 : lw_okq (⟨"AtticSweep", "shadeFieldsOf", "(I)V"⟩, 13) := ⟨⟨by decide +kernel, by decide +kernel⟩, List.mem_of_getElem? (i := 10) (by decide +kernel), List.mem_of_getElem? (i := 419) (by decide +kernel), List.mem_of_getElem? (i := 420) (by decide +kernel)⟩
theorem lw_p13 : lw_okq (⟨"AtticSweep", "shadeValues", "()V"⟩, 13) := ⟨⟨by decide +kernel, by decide +kernel⟩, List.mem_of_getElem? (i := 10) (by decide +kernel), List.mem_of_getElem? (i := 423) (by decide +kernel), List.mem_of_getElem? (i := 424) (by decide +kernel)⟩
theorem lw_p14 : lw_okq (⟨"AtticSweep", "grantWishes", "()V"⟩, 13) := ⟨⟨by decide +kernel, by decide +kernel⟩, List.mem_of_getElem? (i := 10) (by decide +kernel), List.mem_of_getElem? (i := 431) (by decide +kernel), List.mem_of_getElem? (i := 432) (by decide +kernel)⟩
theorem lw_p15 : lw_okq (⟨"AtticSweep", "endMarking", "()V"⟩, 13) := ⟨⟨by decide +kernel, by decide +kernel⟩, List.mem_of_getElem? (i := 10) (by decide +kernel), List.mem_of_getElem? (i := 447) (by decide +kernel), List.mem_of_getElem? (i := 448) (by decide +kernel)⟩
def lw_privs_1 : List (MethodName × Nat) := [(⟨"AtticSweep", "empty", "(II)V"⟩, 13), (⟨"AtticSweep", "colourOfNew", "()I"⟩, 13), (⟨"AtticSweep", "placeOfNew", "(II)I"⟩, 13), (⟨"AtticSweep", "inRegister", "(II)I"⟩, 13), (⟨"AtticSweep", "refusalOfField", "(II)I"⟩, 13), (⟨"AtticSweep", "note", "(I)V"⟩, 13), (⟨"AtticSweep", "shade", "(I)V"⟩, 13), (⟨"AtticSweep", "noteWeakRead", "(I)V"⟩, 13), (⟨"AtticSweep", "startRound", "()V"⟩, 13), (⟨"AtticSweep", "shadeHeld", "()V"⟩, 13), (⟨"AtticSweep", "takeSteps", "(I)I"⟩, 13), (⟨"AtticSweep", "markStep", "()V"⟩, 13), (⟨"AtticSweep", "shadeFieldsOf", "(I)V"⟩, 13), (⟨"AtticSweep", "shadeValues", "()V"⟩, 13), (⟨"AtticSweep", "grantWishes", "()V"⟩, 13), (⟨"AtticSweep", "endMarking", "()V"⟩, 13)]
theorem lw_r1 : ∀ q ∈ lw_privs_1, lw_okq q := List.forall_mem_cons.mpr ⟨lw_p0, List.forall_mem_cons.mpr ⟨lw_p1, List.forall_mem_cons.mpr ⟨lw_p2, List.forall_mem_cons.mpr ⟨lw_p3, List.forall_mem_cons.mpr ⟨lw_p4, List.forall_mem_cons.mpr ⟨lw_p5, List.forall_mem_cons.mpr ⟨lw_p6, List.forall_mem_cons.mpr ⟨lw_p7, List.forall_mem_cons.mpr ⟨lw_p8, List.forall_mem_cons.mpr ⟨lw_p9, List.forall_mem_cons.mpr ⟨lw_p10, List.forall_mem_cons.mpr ⟨lw_p11, List.forall_mem_cons.mpr ⟨lw_p12, List.forall_mem_cons.mpr ⟨lw_p13, List.forall_mem_cons.mpr ⟨lw_p14, List.forall_mem_cons.mpr ⟨lw_p15, fun _ h => absurd h List.not_mem_nil⟩⟩⟩⟩⟩⟩⟩⟩⟩⟩⟩⟩⟩⟩⟩⟩
theorem lw_p16 : lw_okq (⟨"AtticSweep", "freeIfWhite", "(I)V"⟩, 13) := ⟨⟨by decide +kernel, by decide +kernel⟩, List.mem_of_getElem? (i := 10) (by decide +kernel), List.mem_of_getElem? (i := 455) (by decide +kernel), List.mem_of_getElem? (i := 456) (by decide +kernel)⟩
theorem lw_p17 : lw_okq (⟨"AtticSweep", "endRound", "()V"⟩, 13) := ⟨⟨by decide +kernel, by decide +kernel⟩, List.mem_of_getElem? (i := 10) (by decide +kernel), List.mem_of_getElem? (i := 463) (by decide +kernel), List.mem_of_getElem? (i := 464) (by decide +kernel)⟩
theorem lw_p18 : lw_okq (⟨"AtticSweep", "sweepStep", "()V"⟩, 13) := ⟨⟨by decide +kernel, by decide +kernel⟩, List.mem_of_getElem? (i := 10) (by decide +kernel), List.mem_of_getElem? (i := 467) (by decide +kernel), List.mem_of_getElem? (i := 468) (by decide +kernel)⟩
theorem lw_p19 : lw_okq (⟨"AtticSweep", "isReached", "(I)Z"⟩, 13) := ⟨⟨by decide +kernel, by decide +kernel⟩, List.mem_of_getElem? (i := 10) (by decide +kernel), List.mem_of_getElem? (i := 493) (by decide +kernel), List.mem_of_getElem? (i := 494) (by decide +kernel)⟩
theorem lw_p20 : lw_okq (⟨"AtticSweep$Reach", "forget", "()V"⟩, 3) := ⟨⟨by decide +kernel, by decide +kernel⟩, List.mem_of_getElem? (i := 105) (by decide +kernel), List.mem_of_getElem? (i := 501) (by decide +kernel), List.mem_of_getElem? (i := 502) (by decide +kernel)⟩
theorem lw_p21 : lw_okq (⟨"AtticSweep$Reach", "add", "(I)V"⟩, 3) := ⟨⟨by decide +kernel, by decide +kernel⟩, List.mem_of_getElem? (i := 105) (by decide +kernel), List.mem_of_getElem? (i := 506) (by decide +kernel), List.mem_of_getElem? (i := 507) (by decide +kernel)⟩
theorem lw_p22 : lw_okq (⟨"AtticSweep$Reach", "addValues", "(LAtticSweep$Pairs;)V"⟩, 3) := ⟨⟨by decide +kernel, by decide +kernel⟩, List.mem_of_getElem? (i := 105) (by decide +kernel), List.mem_of_getElem? (i := 510) (by decide +kernel), List.mem_of_getElem? (i := 511) (by decide +kernel)⟩
theorem lw_p23 : lw_okq (⟨"AtticSweep$Reach", "addFields", "(LAtticSweep$Things;I)V"⟩, 3) := ⟨⟨by decide +kernel, by decide +kernel⟩, List.mem_of_getElem? (i := 105) (by decide +kernel), List.mem_of_getElem? (i := 520) (by decide +kernel), List.mem_of_getElem? (i := 521) (by decide +kernel)⟩
theorem lw_p24 : lw_okq (⟨"AtticSweep", "countByReach", "(I)I"⟩, 13) := ⟨⟨by decide +kernel, by decide +kernel⟩, List.mem_of_getElem? (i := 10) (by decide +kernel), List.mem_of_getElem? (i := 555) (by decide +kernel), List.mem_of_getElem? (i := 556) (by decide +kernel)⟩
theorem lw_p25 : lw_okq (⟨"AtticSweepModel", "empties", "()V"⟩, 30) := ⟨⟨by decide +kernel, by decide +kernel⟩, List.mem_of_getElem? (i := 586) (by decide +kernel), List.mem_of_getElem? (i := 592) (by decide +kernel), List.mem_of_getElem? (i := 593) (by decide +kernel)⟩
theorem lw_p26 : lw_okq (⟨"AtticSweepModel", "shadeHeld", "()V"⟩, 30) := ⟨⟨by decide +kernel, by decide +kernel⟩, List.mem_of_getElem? (i := 586) (by decide +kernel), List.mem_of_getElem? (i := 698) (by decide +kernel), List.mem_of_getElem? (i := 699) (by decide +kernel)⟩
theorem lw_p27 : lw_okq (⟨"AtticSweepModel", "shade", "(I)V"⟩, 30) := ⟨⟨by decide +kernel, by decide +kernel⟩, List.mem_of_getElem? (i := 586) (by decide +kernel), List.mem_of_getElem? (i := 702) (by decide +kernel), List.mem_of_getElem? (i := 703) (by decide +kernel)⟩
theorem lw_p28 : lw_okq (⟨"AtticSweepModel", "step", "()V"⟩, 30) := ⟨⟨by decide +kernel, by decide +kernel⟩, List.mem_of_getElem? (i := 586) (by decide +kernel), List.mem_of_getElem? (i := 706) (by decide +kernel), List.mem_of_getElem? (i := 707) (by decide +kernel)⟩
theorem lw_p29 : lw_okq (⟨"AtticSweepModel", "marks", "()V"⟩, 30) := ⟨⟨by decide +kernel, by decide +kernel⟩, List.mem_of_getElem? (i := 586) (by decide +kernel), List.mem_of_getElem? (i := 710) (by decide +kernel), List.mem_of_getElem? (i := 711) (by decide +kernel)⟩
theorem lw_p30 : lw_okq (⟨"AtticSweepModel", "leastGray", "()I"⟩, 30) := ⟨⟨by decide +kernel, by decide +kernel⟩, List.mem_of_getElem? (i := 586) (by decide +kernel), List.mem_of_getElem? (i := 714) (by decide +kernel), List.mem_of_getElem? (i := 715) (by decide +kernel)⟩
theorem lw_p31 : lw_okq (⟨"AtticSweepModel", "findsMore", "()Z"⟩, 30) := ⟨⟨by decide +kernel, by decide +kernel⟩, List.mem_of_getElem? (i := 586) (by decide +kernel), List.mem_of_getElem? (i := 718) (by decide +kernel), List.mem_of_getElem? (i := 719) (by decide +kernel)⟩
def lw_privs_2 : List (MethodName × Nat) := [(⟨"AtticSweep", "freeIfWhite", "(I)V"⟩, 13), (⟨"AtticSweep", "endRound", "()V"⟩, 13), (⟨"AtticSweep", "sweepStep", "()V"⟩, 13), (⟨"AtticSweep", "isReached", "(I)Z"⟩, 13), (⟨"AtticSweep$Reach", "forget", "()V"⟩, 3), (⟨"AtticSweep$Reach", "add", "(I)V"⟩, 3), (⟨"AtticSweep$Reach", "addValues", "(LAtticSweep$Pairs;)V"⟩, 3), (⟨"AtticSweep$Reach", "addFields", "(LAtticSweep$Things;I)V"⟩, 3), (⟨"AtticSweep", "countByReach", "(I)I"⟩, 13), (⟨"AtticSweepModel", "empties", "()V"⟩, 30), (⟨"AtticSweepModel", "shadeHeld", "()V"⟩, 30), (⟨"AtticSweepModel", "shade", "(I)V"⟩, 30), (⟨"AtticSweepModel", "step", "()V"⟩, 30), (⟨"AtticSweepModel", "marks", "()V"⟩, 30), (⟨"AtticSweepModel", "leastGray", "()I"⟩, 30), (⟨"AtticSweepModel", "findsMore", "()Z"⟩, 30)]
theorem lw_r2 : ∀ q ∈ lw_privs_2, lw_okq q := List.forall_mem_cons.mpr ⟨lw_p16, List.forall_mem_cons.mpr ⟨lw_p17, List.forall_mem_cons.mpr ⟨lw_p18, List.forall_mem_cons.mpr ⟨lw_p19, List.forall_mem_cons.mpr ⟨lw_p20, List.forall_mem_cons.mpr ⟨lw_p21, List.forall_mem_cons.mpr ⟨lw_p22, List.forall_mem_cons.mpr ⟨lw_p23, List.forall_mem_cons.mpr ⟨lw_p24, List.forall_mem_cons.mpr ⟨lw_p25, List.forall_mem_cons.mpr ⟨lw_p26, List.forall_mem_cons.mpr ⟨lw_p27, List.forall_mem_cons.mpr ⟨lw_p28, List.forall_mem_cons.mpr ⟨lw_p29, List.forall_mem_cons.mpr ⟨lw_p30, List.forall_mem_cons.mpr ⟨lw_p31, fun _ h => absurd h List.not_mem_nil⟩⟩⟩⟩⟩⟩⟩⟩⟩⟩⟩⟩⟩⟩⟩⟩
theorem lw_p32 : lw_okq (⟨"AtticSweepModel", "isWhite", "(I)Z"⟩, 30) := ⟨⟨by decide +kernel, by decide +kernel⟩, List.mem_of_getElem? (i := 586) (by decide +kernel), List.mem_of_getElem? (i := 722) (by decide +kernel), List.mem_of_getElem? (i := 723) (by decide +kernel)⟩
theorem lw_p33 : lw_okq (⟨"AtticSweepModel", "wishes", "(I)V"⟩, 30) := ⟨⟨by decide +kernel, by decide +kernel⟩, List.mem_of_getElem? (i := 586) (by decide +kernel), List.mem_of_getElem? (i := 726) (by decide +kernel), List.mem_of_getElem? (i := 727) (by decide +kernel)⟩
theorem lw_p34 : lw_okq (⟨"AtticSweepModel", "frees", "(I)V"⟩, 30) := ⟨⟨by decide +kernel, by decide +kernel⟩, List.mem_of_getElem? (i := 586) (by decide +kernel), List.mem_of_getElem? (i := 730) (by decide +kernel), List.mem_of_getElem? (i := 731) (by decide +kernel)⟩
theorem lw_p35 : lw_okq (⟨"AtticSweepModel", "over", "()V"⟩, 30) := ⟨⟨by decide +kernel, by decide +kernel⟩, List.mem_of_getElem? (i := 586) (by decide +kernel), List.mem_of_getElem? (i := 734) (by decide +kernel), List.mem_of_getElem? (i := 735) (by decide +kernel)⟩
theorem lw_p36 : lw_okq (⟨"AtticSweepModel", "sweeps", "()V"⟩, 30) := ⟨⟨by decide +kernel, by decide +kernel⟩, List.mem_of_getElem? (i := 586) (by decide +kernel), List.mem_of_getElem? (i := 738) (by decide +kernel), List.mem_of_getElem? (i := 739) (by decide +kernel)⟩
theorem lw_p37 : lw_okq (⟨"AtticSweepModel", "newPlace", "(I)I"⟩, 30) := ⟨⟨by decide +kernel, by decide +kernel⟩, List.mem_of_getElem? (i := 586) (by decide +kernel), List.mem_of_getElem? (i := 757) (by decide +kernel), List.mem_of_getElem? (i := 758) (by decide +kernel)⟩
theorem lw_p38 : lw_okq (⟨"AtticSweepModel", "whiteCells", "()I"⟩, 30) := ⟨⟨by decide +kernel, by decide +kernel⟩, List.mem_of_getElem? (i := 586) (by decide +kernel), List.mem_of_getElem? (i := 761) (by decide +kernel), List.mem_of_getElem? (i := 762) (by decide +kernel)⟩
theorem lw_p39 : lw_okq (⟨"AtticSweepModel", "newColour", "()I"⟩, 30) := ⟨⟨by decide +kernel, by decide +kernel⟩, List.mem_of_getElem? (i := 586) (by decide +kernel), List.mem_of_getElem? (i := 765) (by decide +kernel), List.mem_of_getElem? (i := 766) (by decide +kernel)⟩
theorem lw_p40 : lw_okq (⟨"AtticSweepModel", "isFree", "(II)Z"⟩, 30) := ⟨⟨by decide +kernel, by decide +kernel⟩, List.mem_of_getElem? (i := 586) (by decide +kernel), List.mem_of_getElem? (i := 769) (by decide +kernel), List.mem_of_getElem? (i := 770) (by decide +kernel)⟩
theorem lw_p41 : lw_okq (⟨"AtticSweepModel", "holds", "(III)I"⟩, 30) := ⟨⟨by decide +kernel, by decide +kernel⟩, List.mem_of_getElem? (i := 586) (by decide +kernel), List.mem_of_getElem? (i := 773) (by decide +kernel), List.mem_of_getElem? (i := 774) (by decide +kernel)⟩
theorem lw_p42 : lw_okq (⟨"AtticSweepModel", "held", "(II)I"⟩, 30) := ⟨⟨by decide +kernel, by decide +kernel⟩, List.mem_of_getElem? (i := 586) (by decide +kernel), List.mem_of_getElem? (i := 781) (by decide +kernel), List.mem_of_getElem? (i := 782) (by decide +kernel)⟩
theorem lw_p43 : lw_okq (⟨"AtticSweepModel", "against", "(III)I"⟩, 30) := ⟨⟨by decide +kernel, by decide +kernel⟩, List.mem_of_getElem? (i := 586) (by decide +kernel), List.mem_of_getElem? (i := 789) (by decide +kernel), List.mem_of_getElem? (i := 790) (by decide +kernel)⟩
theorem lw_p44 : lw_okq (⟨"AtticSweepModel", "notes", "()Z"⟩, 30) := ⟨⟨by decide +kernel, by decide +kernel⟩, List.mem_of_getElem? (i := 586) (by decide +kernel), List.mem_of_getElem? (i := 793) (by decide +kernel), List.mem_of_getElem? (i := 794) (by decide +kernel)⟩
theorem lw_p45 : lw_okq (⟨"AtticSweepModel", "notesRead", "(I)V"⟩, 30) := ⟨⟨by decide +kernel, by decide +kernel⟩, List.mem_of_getElem? (i := 586) (by decide +kernel), List.mem_of_getElem? (i := 825) (by decide +kernel), List.mem_of_getElem? (i := 826) (by decide +kernel)⟩
theorem lw_p46 : lw_okq (⟨"AtticSweepModel", "isThing", "(I)Z"⟩, 30) := ⟨⟨by decide +kernel, by decide +kernel⟩, List.mem_of_getElem? (i := 586) (by decide +kernel), List.mem_of_getElem? (i := 845) (by decide +kernel), List.mem_of_getElem? (i := 846) (by decide +kernel)⟩
theorem lw_p47 : lw_okq (⟨"AtticSweepModel", "aboutOf", "(II)I"⟩, 30) := ⟨⟨by decide +kernel, by decide +kernel⟩, List.mem_of_getElem? (i := 586) (by decide +kernel), List.mem_of_getElem? (i := 849) (by decide +kernel), List.mem_of_getElem? (i := 850) (by decide +kernel)⟩
def lw_privs_3 : List (MethodName × Nat) := [(⟨"AtticSweepModel", "isWhite", "(I)Z"⟩, 30), (⟨"AtticSweepModel", "wishes", "(I)V"⟩, 30), (⟨"AtticSweepModel", "frees", "(I)V"⟩, 30), (⟨"AtticSweepModel", "over", "()V"⟩, 30), (⟨"AtticSweepModel", "sweeps", "()V"⟩, 30), (⟨"AtticSweepModel", "newPlace", "(I)I"⟩, 30), (⟨"AtticSweepModel", "whiteCells", "()I"⟩, 30), (⟨"AtticSweepModel", "newColour", "()I"⟩, 30), (⟨"AtticSweepModel", "isFree", "(II)Z"⟩, 30), (⟨"AtticSweepModel", "holds", "(III)I"⟩, 30), (⟨"AtticSweepModel", "held", "(II)I"⟩, 30), (⟨"AtticSweepModel", "against", "(III)I"⟩, 30), (⟨"AtticSweepModel", "notes", "()Z"⟩, 30), (⟨"AtticSweepModel", "notesRead", "(I)V"⟩, 30), (⟨"AtticSweepModel", "isThing", "(I)Z"⟩, 30), (⟨"AtticSweepModel", "aboutOf", "(II)I"⟩, 30)]
theorem lw_r3 : ∀ q ∈ lw_privs_3, lw_okq q := List.forall_mem_cons.mpr ⟨lw_p32, List.forall_mem_cons.mpr ⟨lw_p33, List.forall_mem_cons.mpr ⟨lw_p34, List.forall_mem_cons.mpr ⟨lw_p35, List.forall_mem_cons.mpr ⟨lw_p36, List.forall_mem_cons.mpr ⟨lw_p37, List.forall_mem_cons.mpr ⟨lw_p38, List.forall_mem_cons.mpr ⟨lw_p39, List.forall_mem_cons.mpr ⟨lw_p40, List.forall_mem_cons.mpr ⟨lw_p41, List.forall_mem_cons.mpr ⟨lw_p42, List.forall_mem_cons.mpr ⟨lw_p43, List.forall_mem_cons.mpr ⟨lw_p44, List.forall_mem_cons.mpr ⟨lw_p45, List.forall_mem_cons.mpr ⟨lw_p46, List.forall_mem_cons.mpr ⟨lw_p47, fun _ h => absurd h List.not_mem_nil⟩⟩⟩⟩⟩⟩⟩⟩⟩⟩⟩⟩⟩⟩⟩⟩
theorem lw_p48 : lw_okq (⟨"AtticSweepModel", "findReached", "()V"⟩, 30) := ⟨⟨by decide +kernel, by decide +kernel⟩, List.mem_of_getElem? (i := 586) (by decide +kernel), List.mem_of_getElem? (i := 853) (by decide +kernel), List.mem_of_getElem? (i := 854) (by decide +kernel)⟩
theorem lw_p49 : lw_okq (⟨"AtticSweepModel", "reach", "(I)V"⟩, 30) := ⟨⟨by decide +kernel, by decide +kernel⟩, List.mem_of_getElem? (i := 586) (by decide +kernel), List.mem_of_getElem? (i := 857) (by decide +kernel), List.mem_of_getElem? (i := 858) (by decide +kernel)⟩
theorem lw_p50 : lw_okq (⟨"AtticSweepModel", "cellOf", "(I)I"⟩, 30) := ⟨⟨by decide +kernel, by decide +kernel⟩, List.mem_of_getElem? (i := 586) (by decide +kernel), List.mem_of_getElem? (i := 873) (by decide +kernel), List.mem_of_getElem? (i := 874) (by decide +kernel)⟩
theorem lw_p51 : lw_okq (⟨"AtticSweepModel", "countThings", "(I)I"⟩, 30) := ⟨⟨by decide +kernel, by decide +kernel⟩, List.mem_of_getElem? (i := 586) (by decide +kernel), List.mem_of_getElem? (i := 881) (by decide +kernel), List.mem_of_getElem? (i := 882) (by decide +kernel)⟩
theorem lw_p52 : lw_okq (⟨"AtticSweepModel", "freeCells", "(Z)I"⟩, 30) := ⟨⟨by decide +kernel, by decide +kernel⟩, List.mem_of_getElem? (i := 586) (by decide +kernel), List.mem_of_getElem? (i := 885) (by decide +kernel), List.mem_of_getElem? (i := 886) (by decide +kernel)⟩
def lw_privs_4 : List (MethodName × Nat) := [(⟨"AtticSweepModel", "findReached", "()V"⟩, 30), (⟨"AtticSweepModel", "reach", "(I)V"⟩, 30), (⟨"AtticSweepModel", "cellOf", "(I)I"⟩, 30), (⟨"AtticSweepModel", "countThings", "(I)I"⟩, 30), (⟨"AtticSweepModel", "freeCells", "(Z)I"⟩, 30)]
theorem lw_r4 : ∀ q ∈ lw_privs_4, lw_okq q := List.forall_mem_cons.mpr ⟨lw_p48, List.forall_mem_cons.mpr ⟨lw_p49, List.forall_mem_cons.mpr ⟨lw_p50, List.forall_mem_cons.mpr ⟨lw_p51, List.forall_mem_cons.mpr ⟨lw_p52, fun _ h => absurd h List.not_mem_nil⟩⟩⟩⟩⟩
def lw_privs : List (MethodName × Nat) := lw_privs_1 ++ (lw_privs_2 ++ (lw_privs_3 ++ (lw_privs_4)))
def lw_tbl : List Cond := k2_sels lw_privs ++ tables_1
theorem lw_privs_ok : ∀ q ∈ lw_privs, lw_okq q := by
  show ∀ q ∈ lw_privs_1 ++ (lw_privs_2 ++ (lw_privs_3 ++ (lw_privs_4))), lw_okq q
  exact List.forall_mem_append.mpr ⟨lw_r1, List.forall_mem_append.mpr ⟨lw_r2, List.forall_mem_append.mpr ⟨lw_r3, lw_r4⟩⟩⟩

def RX0 : String := "AtticSweep$Cells"
def TX0 : u_T := fun k => match k with
  | 0 => ("AtticSweep$Cells", "things", "[I", true)
  | 1 => ("AtticSweep$Cells", "halfEnd", "I", false)
  | _ => ("AtticSweep$Cells", "behind", "I", false)
def tyX0 : Nat → FieldType := fun k => match k with
  | 0 => .array .int
  | 1 => .int
  | _ => .int
abbrev wsX00 : List Cond := u_ws RX0 TX0 3
theorem nmX0 : ∀ a, a < 3 → ∀ b, b < 3 → a ≠ b → (TX0 a).2.1 ≠ (TX0 b).2.1 := by decide +kernel
theorem tyX0_ok : ∀ k, k < 3 → parseFieldDescriptor (TX0 k).2.2.1 = some (tyX0 k) := by decide +kernel
abbrev cX0_init : ByteArray := prog_2_method_1_code
def yX0_init : MethodName := ⟨RX0, "<init>", "()V"⟩
abbrev cX0_empty : ByteArray := prog_2_method_2_code
def yX0_empty : MethodName := ⟨RX0, "empty", "()V"⟩
abbrev cX0_changeHalves : ByteArray := prog_2_method_3_code
def yX0_changeHalves : MethodName := ⟨RX0, "changeHalves", "()V"⟩
abbrev cX0_leftBehind : ByteArray := prog_2_method_4_code
def yX0_leftBehind : MethodName := ⟨RX0, "leftBehind", "()I"⟩
abbrev cX0_thingAt : ByteArray := prog_2_method_5_code
def yX0_thingAt : MethodName := ⟨RX0, "thingAt", "(I)I"⟩
abbrev cX0_assign : ByteArray := prog_2_method_6_code
def yX0_assign : MethodName := ⟨RX0, "assign", "(III)V"⟩
abbrev cX0_takeBehind : ByteArray := prog_2_method_7_code
def yX0_takeBehind : MethodName := ⟨RX0, "takeBehind", "(II)V"⟩
abbrev cX0_leastPlace : ByteArray := prog_2_method_8_code
def yX0_leastPlace : MethodName := ⟨RX0, "leastPlace", "(I)I"⟩
abbrev cX0_countFree : ByteArray := prog_2_method_9_code
def yX0_countFree : MethodName := ⟨RX0, "countFree", "()I"⟩
abbrev cX0_longestFree : ByteArray := prog_2_method_10_code
def yX0_longestFree : MethodName := ⟨RX0, "longestFree", "()I"⟩
def RX1 : String := "AtticSweep$Holders"
def TX1 : u_T := fun k => match k with
  | 0 => ("AtticSweep$Holders", "held", "[I", true)
  | 1 => ("AtticSweep$Holders", "named", "[I", true)
  | _ => ("AtticSweep$Holders", "wishes", "I", false)
def tyX1 : Nat → FieldType := fun k => match k with
  | 0 => .array .int
  | 1 => .array .int
  | _ => .int
abbrev wsX10 : List Cond := u_ws RX1 TX1 3
theorem nmX1 : ∀ a, a < 3 → ∀ b, b < 3 → a ≠ b → (TX1 a).2.1 ≠ (TX1 b).2.1 := by decide +kernel
theorem tyX1_ok : ∀ k, k < 3 → parseFieldDescriptor (TX1 k).2.2.1 = some (tyX1 k) := by decide +kernel
abbrev cX1_init : ByteArray := prog_3_method_1_code
def yX1_init : MethodName := ⟨RX1, "<init>", "()V"⟩
abbrev cX1_empty : ByteArray := prog_3_method_2_code
def yX1_empty : MethodName := ⟨RX1, "empty", "()V"⟩
abbrev cX1_heldAt : ByteArray := prog_3_method_3_code
def yX1_heldAt : MethodName := ⟨RX1, "heldAt", "(I)I"⟩
abbrev cX1_hold : ByteArray := prog_3_method_4_code
def yX1_hold : MethodName := ⟨RX1, "hold", "(II)I"⟩
abbrev cX1_namedBy : ByteArray := prog_3_method_5_code
def yX1_namedBy : MethodName := ⟨RX1, "namedBy", "(I)I"⟩
abbrev cX1_name : ByteArray := prog_3_method_6_code
def yX1_name : MethodName := ⟨RX1, "name", "(II)V"⟩
abbrev cX1_wishAt : ByteArray := prog_3_method_7_code
def yX1_wishAt : MethodName := ⟨RX1, "wishAt", "(I)I"⟩
abbrev cX1_addWish : ByteArray := prog_3_method_8_code
def yX1_addWish : MethodName := ⟨RX1, "addWish", "(I)V"⟩
abbrev cX1_takeFirstWish : ByteArray := prog_3_method_9_code
def yX1_takeFirstWish : MethodName := ⟨RX1, "takeFirstWish", "()I"⟩
def RX2 : String := "AtticSweep$Pairs"
def TX2 : u_T := fun k => match k with
  | 0 => ("AtticSweep$Pairs", "made", "I", false)
  | 1 => ("AtticSweep$Pairs", "keys", "[I", true)
  | _ => ("AtticSweep$Pairs", "values", "[I", true)
def tyX2 : Nat → FieldType := fun k => match k with
  | 0 => .int
  | 1 => .array .int
  | _ => .array .int
abbrev wsX20 : List Cond := u_ws RX2 TX2 3
theorem nmX2 : ∀ a, a < 3 → ∀ b, b < 3 → a ≠ b → (TX2 a).2.1 ≠ (TX2 b).2.1 := by decide +kernel
theorem tyX2_ok : ∀ k, k < 3 → parseFieldDescriptor (TX2 k).2.2.1 = some (tyX2 k) := by decide +kernel
abbrev cX2_init : ByteArray := prog_4_method_1_code
def yX2_init : MethodName := ⟨RX2, "<init>", "()V"⟩
abbrev cX2_isPair : ByteArray := prog_4_method_2_code
def yX2_isPair : MethodName := ⟨RX2, "isPair", "(I)Z"⟩
abbrev cX2_add : ByteArray := prog_4_method_3_code
def yX2_add : MethodName := ⟨RX2, "add", "(II)I"⟩
abbrev cX2_end : ByteArray := prog_4_method_4_code
def yX2_end : MethodName := ⟨RX2, "end", "(I)V"⟩
abbrev cX2_keyOf : ByteArray := prog_4_method_5_code
def yX2_keyOf : MethodName := ⟨RX2, "keyOf", "(I)I"⟩
abbrev cX2_valueOf : ByteArray := prog_4_method_6_code
def yX2_valueOf : MethodName := ⟨RX2, "valueOf", "(I)I"⟩
abbrev cX2_countNotDropped : ByteArray := prog_4_method_7_code
def yX2_countNotDropped : MethodName := ⟨RX2, "countNotDropped", "()I"⟩
def RX3 : String := "AtticSweep$Reach"
def TX3 : u_T := fun k => match k with
  | 0 => ("AtticSweep$Reach", "found", "[Z", true)
  | 1 => ("AtticSweep$Reach", "order", "[I", true)
  | _ => ("AtticSweep$Reach", "count", "I", false)
def tyX3 : Nat → FieldType := fun k => match k with
  | 0 => .array .boolean
  | 1 => .array .int
  | _ => .int
abbrev wsX30 : List Cond := u_ws RX3 TX3 3
theorem nmX3 : ∀ a, a < 3 → ∀ b, b < 3 → a ≠ b → (TX3 a).2.1 ≠ (TX3 b).2.1 := by decide +kernel
theorem tyX3_ok : ∀ k, k < 3 → parseFieldDescriptor (TX3 k).2.2.1 = some (tyX3 k) := by decide +kernel
abbrev cX3_init : ByteArray := prog_5_method_1_code
def yX3_init : MethodName := ⟨RX3, "<init>", "()V"⟩
abbrev cX3_has : ByteArray := prog_5_method_2_code
def yX3_has : MethodName := ⟨RX3, "has", "(I)Z"⟩
abbrev cX3_find : ByteArray := prog_5_method_3_code
def yX3_find : MethodName := ⟨RX3, "find", "(LAtticSweep$Things;LAtticSweep$Holders;LAtticSweep$Pairs;)V"⟩
abbrev cX3_forget : ByteArray := prog_5_method_4_code
def yX3_forget : MethodName := ⟨RX3, "forget", "()V"⟩
abbrev cX3_add : ByteArray := prog_5_method_5_code
def yX3_add : MethodName := ⟨RX3, "add", "(I)V"⟩
abbrev cX3_addFields : ByteArray := prog_5_method_6_code
def yX3_addFields : MethodName := ⟨RX3, "addFields", "(LAtticSweep$Things;I)V"⟩
abbrev cX3_addValues : ByteArray := prog_5_method_7_code
def yX3_addValues : MethodName := ⟨RX3, "addValues", "(LAtticSweep$Pairs;)V"⟩
def RX4 : String := "AtticSweep$Things"
def TX4 : u_T := fun k => match k with
  | 0 => ("AtticSweep$Things", "made", "I", false)
  | 1 => ("AtticSweep$Things", "sizes", "[I", true)
  | 2 => ("AtticSweep$Things", "places", "[I", true)
  | 3 => ("AtticSweep$Things", "colours", "[I", true)
  | 4 => ("AtticSweep$Things", "moves", "[I", true)
  | 5 => ("AtticSweep$Things", "freed", "[Z", true)
  | 6 => ("AtticSweep$Things", "wishing", "[Z", true)
  | _ => ("AtticSweep$Things", "held", "[I", true)
def tyX4 : Nat → FieldType := fun k => match k with
  | 0 => .int
  | 1 => .array .int
  | 2 => .array .int
  | 3 => .array .int
  | 4 => .array .int
  | 5 => .array .boolean
  | 6 => .array .boolean
  | _ => .array .int
abbrev wsX40 : List Cond := u_ws RX4 TX4 8
theorem nmX4 : ∀ a, a < 8 → ∀ b, b < 8 → a ≠ b → (TX4 a).2.1 ≠ (TX4 b).2.1 := by decide +kernel
theorem tyX4_ok : ∀ k, k < 8 → parseFieldDescriptor (TX4 k).2.2.1 = some (tyX4 k) := by decide +kernel
abbrev cX4_init : ByteArray := prog_6_method_1_code
def yX4_init : MethodName := ⟨RX4, "<init>", "()V"⟩
abbrev cX4_add : ByteArray := prog_6_method_2_code
def yX4_add : MethodName := ⟨RX4, "add", "(IZII)I"⟩
abbrev cX4_isThing : ByteArray := prog_6_method_3_code
def yX4_isThing : MethodName := ⟨RX4, "isThing", "(I)Z"⟩
abbrev cX4_sizeOf : ByteArray := prog_6_method_4_code
def yX4_sizeOf : MethodName := ⟨RX4, "sizeOf", "(I)I"⟩
abbrev cX4_fieldsOf : ByteArray := prog_6_method_5_code
def yX4_fieldsOf : MethodName := ⟨RX4, "fieldsOf", "(I)I"⟩
abbrev cX4_placeOf : ByteArray := prog_6_method_6_code
def yX4_placeOf : MethodName := ⟨RX4, "placeOf", "(I)I"⟩
abbrev cX4_colourOf : ByteArray := prog_6_method_7_code
def yX4_colourOf : MethodName := ⟨RX4, "colourOf", "(I)I"⟩
abbrev cX4_movesOf : ByteArray := prog_6_method_8_code
def yX4_movesOf : MethodName := ⟨RX4, "movesOf", "(I)I"⟩
abbrev cX4_isWhite : ByteArray := prog_6_method_9_code
def yX4_isWhite : MethodName := ⟨RX4, "isWhite", "(I)Z"⟩
abbrev cX4_isFreed : ByteArray := prog_6_method_10_code
def yX4_isFreed : MethodName := ⟨RX4, "isFreed", "(I)Z"⟩
abbrev cX4_hasWish : ByteArray := prog_6_method_11_code
def yX4_hasWish : MethodName := ⟨RX4, "hasWish", "(I)Z"⟩
abbrev cX4_hasField : ByteArray := prog_6_method_12_code
def yX4_hasField : MethodName := ⟨RX4, "hasField", "(II)Z"⟩
abbrev cX4_inField : ByteArray := prog_6_method_13_code
def yX4_inField : MethodName := ⟨RX4, "inField", "(II)I"⟩
abbrev cX4_setField : ByteArray := prog_6_method_14_code
def yX4_setField : MethodName := ⟨RX4, "setField", "(III)V"⟩
abbrev cX4_paint : ByteArray := prog_6_method_15_code
def yX4_paint : MethodName := ⟨RX4, "paint", "(II)V"⟩
abbrev cX4_moveTo : ByteArray := prog_6_method_16_code
def yX4_moveTo : MethodName := ⟨RX4, "moveTo", "(II)V"⟩
abbrev cX4_free : ByteArray := prog_6_method_17_code
def yX4_free : MethodName := ⟨RX4, "free", "(I)V"⟩
abbrev cX4_endWish : ByteArray := prog_6_method_18_code
def yX4_endWish : MethodName := ⟨RX4, "endWish", "(I)V"⟩
abbrev cX4_whitenAll : ByteArray := prog_6_method_19_code
def yX4_whitenAll : MethodName := ⟨RX4, "whitenAll", "()V"⟩
abbrev cX4_leastGray : ByteArray := prog_6_method_20_code
def yX4_leastGray : MethodName := ⟨RX4, "leastGray", "()I"⟩
abbrev cX4_nextNotFreed : ByteArray := prog_6_method_21_code
def yX4_nextNotFreed : MethodName := ⟨RX4, "nextNotFreed", "(I)I"⟩
abbrev cX4_countGray : ByteArray := prog_6_method_22_code
def yX4_countGray : MethodName := ⟨RX4, "countGray", "()I"⟩
abbrev cX4_countNotFreed : ByteArray := prog_6_method_23_code
def yX4_countNotFreed : MethodName := ⟨RX4, "countNotFreed", "()I"⟩
abbrev cX4_cellsOfWhite : ByteArray := prog_6_method_24_code
def yX4_cellsOfWhite : MethodName := ⟨RX4, "cellsOfWhite", "()I"⟩
def RX5 : String := "AtticSweep"
def TX5 : u_T := fun k => match k with
  | 0 => ("AtticSweep", "things", "LAtticSweep$Things;", true)
  | 1 => ("AtticSweep", "cells", "LAtticSweep$Cells;", true)
  | 2 => ("AtticSweep", "holders", "LAtticSweep$Holders;", true)
  | 3 => ("AtticSweep", "pairs", "LAtticSweep$Pairs;", true)
  | 4 => ("AtticSweep", "reach", "LAtticSweep$Reach;", true)
  | 5 => ("AtticSweep", "manner", "I", false)
  | 6 => ("AtticSweep", "fault", "I", false)
  | 7 => ("AtticSweep", "underWay", "I", false)
  | 8 => ("AtticSweep", "nextToSweep", "I", false)
  | 9 => ("AtticSweep", "rounds", "I", false)
  | 10 => ("AtticSweep", "steps", "I", false)
  | 11 => ("AtticSweep", "shaded", "I", false)
  | _ => ("AtticSweep", "moved", "I", false)
def tyX5 : Nat → FieldType := fun k => match k with
  | 0 => .object "AtticSweep$Things"
  | 1 => .object "AtticSweep$Cells"
  | 2 => .object "AtticSweep$Holders"
  | 3 => .object "AtticSweep$Pairs"
  | 4 => .object "AtticSweep$Reach"
  | 5 => .int
  | 6 => .int
  | 7 => .int
  | 8 => .int
  | 9 => .int
  | 10 => .int
  | 11 => .int
  | _ => .int
abbrev wsX50 : List Cond := u_ws RX5 TX5 13
theorem nmX5 : ∀ a, a < 13 → ∀ b, b < 13 → a ≠ b → (TX5 a).2.1 ≠ (TX5 b).2.1 := by decide +kernel
theorem tyX5_ok : ∀ k, k < 13 → parseFieldDescriptor (TX5 k).2.2.1 = some (tyX5 k) := by decide +kernel
abbrev cX5_init : ByteArray := prog_1_method_1_code
def yX5_init : MethodName := ⟨RX5, "<init>", "()V"⟩
abbrev cX5_attic : ByteArray := prog_1_method_2_code
def yX5_attic : MethodName := ⟨RX5, "attic", "(II)I"⟩
abbrev cX5_empty : ByteArray := prog_1_method_3_code
def yX5_empty : MethodName := ⟨RX5, "empty", "(II)V"⟩
abbrev cX5_make : ByteArray := prog_1_method_4_code
def yX5_make : MethodName := ⟨RX5, "make", "(IIIZ)I"⟩
abbrev cX5_colourOfNew : ByteArray := prog_1_method_5_code
def yX5_colourOfNew : MethodName := ⟨RX5, "colourOfNew", "()I"⟩
abbrev cX5_placeOfNew : ByteArray := prog_1_method_6_code
def yX5_placeOfNew : MethodName := ⟨RX5, "placeOfNew", "(II)I"⟩
abbrev cX5_move : ByteArray := prog_1_method_7_code
def yX5_move : MethodName := ⟨RX5, "move", "(III)I"⟩
abbrev cX5_get : ByteArray := prog_1_method_8_code
def yX5_get : MethodName := ⟨RX5, "get", "(IIII)I"⟩
abbrev cX5_put : ByteArray := prog_1_method_9_code
def yX5_put : MethodName := ⟨RX5, "put", "(IIII)I"⟩
abbrev cX5_refusalOfField : ByteArray := prog_1_method_10_code
def yX5_refusalOfField : MethodName := ⟨RX5, "refusalOfField", "(II)I"⟩
abbrev cX5_drop : ByteArray := prog_1_method_11_code
def yX5_drop : MethodName := ⟨RX5, "drop", "(II)I"⟩
abbrev cX5_store : ByteArray := prog_1_method_12_code
def yX5_store : MethodName := ⟨RX5, "store", "(III)I"⟩
abbrev cX5_load : ByteArray := prog_1_method_13_code
def yX5_load : MethodName := ⟨RX5, "load", "(III)I"⟩
abbrev cX5_same : ByteArray := prog_1_method_14_code
def yX5_same : MethodName := ⟨RX5, "same", "(IIII)I"⟩
abbrev cX5_weak : ByteArray := prog_1_method_15_code
def yX5_weak : MethodName := ⟨RX5, "weak", "(III)I"⟩
abbrev cX5_strong : ByteArray := prog_1_method_16_code
def yX5_strong : MethodName := ⟨RX5, "strong", "(III)I"⟩
abbrev cX5_pair : ByteArray := prog_1_method_17_code
def yX5_pair : MethodName := ⟨RX5, "pair", "(III)I"⟩
abbrev cX5_value : ByteArray := prog_1_method_18_code
def yX5_value : MethodName := ⟨RX5, "value", "(III)I"⟩
abbrev cX5_wish : ByteArray := prog_1_method_19_code
def yX5_wish : MethodName := ⟨RX5, "wish", "(II)I"⟩
abbrev cX5_isRegister : ByteArray := prog_1_method_20_code
def yX5_isRegister : MethodName := ⟨RX5, "isRegister", "(II)Z"⟩
abbrev cX5_isSlot : ByteArray := prog_1_method_21_code
def yX5_isSlot : MethodName := ⟨RX5, "isSlot", "(I)Z"⟩
abbrev cX5_isWeakHolder : ByteArray := prog_1_method_22_code
def yX5_isWeakHolder : MethodName := ⟨RX5, "isWeakHolder", "(I)Z"⟩
abbrev cX5_registerAt : ByteArray := prog_1_method_23_code
def yX5_registerAt : MethodName := ⟨RX5, "registerAt", "(II)I"⟩
abbrev cX5_inRegister : ByteArray := prog_1_method_24_code
def yX5_inRegister : MethodName := ⟨RX5, "inRegister", "(II)I"⟩
abbrev cX5_noteWeakRead : ByteArray := prog_1_method_25_code
def yX5_noteWeakRead : MethodName := ⟨RX5, "noteWeakRead", "(I)V"⟩
abbrev cX5_note : ByteArray := prog_1_method_26_code
def yX5_note : MethodName := ⟨RX5, "note", "(I)V"⟩
abbrev cX5_begin : ByteArray := prog_1_method_27_code
def yX5_begin : MethodName := ⟨RX5, "begin", "()I"⟩
abbrev cX5_sweep : ByteArray := prog_1_method_28_code
def yX5_sweep : MethodName := ⟨RX5, "sweep", "(I)I"⟩
abbrev cX5_under : ByteArray := prog_1_method_29_code
def yX5_under : MethodName := ⟨RX5, "under", "()I"⟩
abbrev cX5_startRound : ByteArray := prog_1_method_30_code
def yX5_startRound : MethodName := ⟨RX5, "startRound", "()V"⟩
abbrev cX5_takeSteps : ByteArray := prog_1_method_31_code
def yX5_takeSteps : MethodName := ⟨RX5, "takeSteps", "(I)I"⟩
abbrev cX5_markStep : ByteArray := prog_1_method_32_code
def yX5_markStep : MethodName := ⟨RX5, "markStep", "()V"⟩
abbrev cX5_shadeFieldsOf : ByteArray := prog_1_method_33_code
def yX5_shadeFieldsOf : MethodName := ⟨RX5, "shadeFieldsOf", "(I)V"⟩
abbrev cX5_shadeHeld : ByteArray := prog_1_method_34_code
def yX5_shadeHeld : MethodName := ⟨RX5, "shadeHeld", "()V"⟩
abbrev cX5_shadeValues : ByteArray := prog_1_method_35_code
def yX5_shadeValues : MethodName := ⟨RX5, "shadeValues", "()V"⟩
abbrev cX5_grantWishes : ByteArray := prog_1_method_36_code
def yX5_grantWishes : MethodName := ⟨RX5, "grantWishes", "()V"⟩
abbrev cX5_shade : ByteArray := prog_1_method_37_code
def yX5_shade : MethodName := ⟨RX5, "shade", "(I)V"⟩
abbrev cX5_endMarking : ByteArray := prog_1_method_38_code
def yX5_endMarking : MethodName := ⟨RX5, "endMarking", "()V"⟩
abbrev cX5_sweepStep : ByteArray := prog_1_method_39_code
def yX5_sweepStep : MethodName := ⟨RX5, "sweepStep", "()V"⟩
abbrev cX5_freeIfWhite : ByteArray := prog_1_method_40_code
def yX5_freeIfWhite : MethodName := ⟨RX5, "freeIfWhite", "(I)V"⟩
abbrev cX5_endRound : ByteArray := prog_1_method_41_code
def yX5_endRound : MethodName := ⟨RX5, "endRound", "()V"⟩
abbrev cX5_about : ByteArray := prog_1_method_42_code
def yX5_about : MethodName := ⟨RX5, "about", "(II)I"⟩
abbrev cX5_field : ByteArray := prog_1_method_43_code
def yX5_field : MethodName := ⟨RX5, "field", "(II)I"⟩
abbrev cX5_holder : ByteArray := prog_1_method_44_code
def yX5_holder : MethodName := ⟨RX5, "holder", "(I)I"⟩
abbrev cX5_cell : ByteArray := prog_1_method_45_code
def yX5_cell : MethodName := ⟨RX5, "cell", "(I)I"⟩
abbrev cX5_count : ByteArray := prog_1_method_46_code
def yX5_count : MethodName := ⟨RX5, "count", "(I)I"⟩
abbrev cX5_countByReach : ByteArray := prog_1_method_47_code
def yX5_countByReach : MethodName := ⟨RX5, "countByReach", "(I)I"⟩
abbrev cX5_lost : ByteArray := prog_1_method_48_code
def yX5_lost : MethodName := ⟨RX5, "lost", "()I"⟩
abbrev cX5_isReached : ByteArray := prog_1_method_49_code
def yX5_isReached : MethodName := ⟨RX5, "isReached", "(I)Z"⟩
abbrev cX5_digest : ByteArray := prog_1_method_50_code
def yX5_digest : MethodName := ⟨RX5, "digest", "()J"⟩
def RX6 : String := "AtticSweepModel"
def TX6 : u_T := fun k => match k with
  | 0 => ("AtticSweepModel", "manner", "I", false)
  | 1 => ("AtticSweepModel", "fault", "I", false)
  | 2 => ("AtticSweepModel", "things", "I", false)
  | 3 => ("AtticSweepModel", "many", "[I", true)
  | 4 => ("AtticSweepModel", "field", "[I", true)
  | 5 => ("AtticSweepModel", "place", "[I", true)
  | 6 => ("AtticSweepModel", "colour", "[I", true)
  | 7 => ("AtticSweepModel", "isFreed", "[Z", true)
  | 8 => ("AtticSweepModel", "hasWish", "[Z", true)
  | 9 => ("AtticSweepModel", "moved", "[I", true)
  | 10 => ("AtticSweepModel", "register", "[I", true)
  | 11 => ("AtticSweepModel", "slot", "[I", true)
  | 12 => ("AtticSweepModel", "wishes", "I", false)
  | 13 => ("AtticSweepModel", "wishAt", "[I", true)
  | 14 => ("AtticSweepModel", "weakAt", "[I", true)
  | 15 => ("AtticSweepModel", "pairs", "I", false)
  | 16 => ("AtticSweepModel", "key", "[I", true)
  | 17 => ("AtticSweepModel", "value", "[I", true)
  | 18 => ("AtticSweepModel", "isPair", "[Z", true)
  | 19 => ("AtticSweepModel", "half", "I", false)
  | 20 => ("AtticSweepModel", "top", "I", false)
  | 21 => ("AtticSweepModel", "way", "I", false)
  | 22 => ("AtticSweepModel", "next", "I", false)
  | 23 => ("AtticSweepModel", "freedMany", "I", false)
  | 24 => ("AtticSweepModel", "rounds", "I", false)
  | 25 => ("AtticSweepModel", "steps", "I", false)
  | 26 => ("AtticSweepModel", "shaded", "I", false)
  | 27 => ("AtticSweepModel", "movedMany", "I", false)
  | 28 => ("AtticSweepModel", "isReached", "[Z", true)
  | _ => ("AtticSweepModel", "more", "Z", false)
def tyX6 : Nat → FieldType := fun k => match k with
  | 0 => .int
  | 1 => .int
  | 2 => .int
  | 3 => .array .int
  | 4 => .array .int
  | 5 => .array .int
  | 6 => .array .int
  | 7 => .array .boolean
  | 8 => .array .boolean
  | 9 => .array .int
  | 10 => .array .int
  | 11 => .array .int
  | 12 => .int
  | 13 => .array .int
  | 14 => .array .int
  | 15 => .int
  | 16 => .array .int
  | 17 => .array .int
  | 18 => .array .boolean
  | 19 => .int
  | 20 => .int
  | 21 => .int
  | 22 => .int
  | 23 => .int
  | 24 => .int
  | 25 => .int
  | 26 => .int
  | 27 => .int
  | 28 => .array .boolean
  | _ => .boolean
abbrev wsX60 : List Cond := u_ws RX6 TX6 30
theorem nmX6 : ∀ a, a < 30 → ∀ b, b < 30 → a ≠ b → (TX6 a).2.1 ≠ (TX6 b).2.1 := by decide +kernel
theorem tyX6_ok : ∀ k, k < 30 → parseFieldDescriptor (TX6 k).2.2.1 = some (tyX6 k) := by decide +kernel
abbrev cX6_in : ByteArray := prog_8_method_2_code
def yX6_in : MethodName := ⟨RX6, "in", "(III)Z"⟩
abbrev cX6_init : ByteArray := prog_8_method_3_code
def yX6_init : MethodName := ⟨RX6, "<init>", "()V"⟩
abbrev cX6_empties : ByteArray := prog_8_method_4_code
def yX6_empties : MethodName := ⟨RX6, "empties", "()V"⟩
abbrev cX6_attic : ByteArray := prog_8_method_5_code
def yX6_attic : MethodName := ⟨RX6, "attic", "(II)I"⟩
abbrev cX6_isRegister : ByteArray := prog_8_method_6_code
def yX6_isRegister : MethodName := ⟨RX6, "isRegister", "(II)Z"⟩
abbrev cX6_held : ByteArray := prog_8_method_7_code
def yX6_held : MethodName := ⟨RX6, "held", "(II)I"⟩
abbrev cX6_holds : ByteArray := prog_8_method_8_code
def yX6_holds : MethodName := ⟨RX6, "holds", "(III)I"⟩
abbrev cX6_shade : ByteArray := prog_8_method_9_code
def yX6_shade : MethodName := ⟨RX6, "shade", "(I)V"⟩
abbrev cX6_shadeHeld : ByteArray := prog_8_method_10_code
def yX6_shadeHeld : MethodName := ⟨RX6, "shadeHeld", "()V"⟩
abbrev cX6_frees : ByteArray := prog_8_method_11_code
def yX6_frees : MethodName := ⟨RX6, "frees", "(I)V"⟩
abbrev cX6_leastGray : ByteArray := prog_8_method_12_code
def yX6_leastGray : MethodName := ⟨RX6, "leastGray", "()I"⟩
abbrev cX6_isWhite : ByteArray := prog_8_method_13_code
def yX6_isWhite : MethodName := ⟨RX6, "isWhite", "(I)Z"⟩
abbrev cX6_wishes : ByteArray := prog_8_method_14_code
def yX6_wishes : MethodName := ⟨RX6, "wishes", "(I)V"⟩
abbrev cX6_findsMore : ByteArray := prog_8_method_15_code
def yX6_findsMore : MethodName := ⟨RX6, "findsMore", "()Z"⟩
abbrev cX6_marks : ByteArray := prog_8_method_16_code
def yX6_marks : MethodName := ⟨RX6, "marks", "()V"⟩
abbrev cX6_over : ByteArray := prog_8_method_17_code
def yX6_over : MethodName := ⟨RX6, "over", "()V"⟩
abbrev cX6_sweeps : ByteArray := prog_8_method_18_code
def yX6_sweeps : MethodName := ⟨RX6, "sweeps", "()V"⟩
abbrev cX6_step : ByteArray := prog_8_method_19_code
def yX6_step : MethodName := ⟨RX6, "step", "()V"⟩
abbrev cX6_begin : ByteArray := prog_8_method_20_code
def yX6_begin : MethodName := ⟨RX6, "begin", "()I"⟩
abbrev cX6_sweep : ByteArray := prog_8_method_21_code
def yX6_sweep : MethodName := ⟨RX6, "sweep", "(I)I"⟩
abbrev cX6_under : ByteArray := prog_8_method_22_code
def yX6_under : MethodName := ⟨RX6, "under", "()I"⟩
abbrev cX6_notes : ByteArray := prog_8_method_23_code
def yX6_notes : MethodName := ⟨RX6, "notes", "()Z"⟩
abbrev cX6_isFree : ByteArray := prog_8_method_24_code
def yX6_isFree : MethodName := ⟨RX6, "isFree", "(II)Z"⟩
abbrev cX6_whiteCells : ByteArray := prog_8_method_25_code
def yX6_whiteCells : MethodName := ⟨RX6, "whiteCells", "()I"⟩
abbrev cX6_newColour : ByteArray := prog_8_method_26_code
def yX6_newColour : MethodName := ⟨RX6, "newColour", "()I"⟩
abbrev cX6_newPlace : ByteArray := prog_8_method_27_code
def yX6_newPlace : MethodName := ⟨RX6, "newPlace", "(I)I"⟩
abbrev cX6_make : ByteArray := prog_8_method_28_code
def yX6_make : MethodName := ⟨RX6, "make", "(IIIZ)I"⟩
abbrev cX6_move : ByteArray := prog_8_method_29_code
def yX6_move : MethodName := ⟨RX6, "move", "(III)I"⟩
abbrev cX6_against : ByteArray := prog_8_method_30_code
def yX6_against : MethodName := ⟨RX6, "against", "(III)I"⟩
abbrev cX6_get : ByteArray := prog_8_method_31_code
def yX6_get : MethodName := ⟨RX6, "get", "(IIII)I"⟩
abbrev cX6_put : ByteArray := prog_8_method_32_code
def yX6_put : MethodName := ⟨RX6, "put", "(IIII)I"⟩
abbrev cX6_drop : ByteArray := prog_8_method_33_code
def yX6_drop : MethodName := ⟨RX6, "drop", "(II)I"⟩
abbrev cX6_store : ByteArray := prog_8_method_34_code
def yX6_store : MethodName := ⟨RX6, "store", "(III)I"⟩
abbrev cX6_load : ByteArray := prog_8_method_35_code
def yX6_load : MethodName := ⟨RX6, "load", "(III)I"⟩
abbrev cX6_same : ByteArray := prog_8_method_36_code
def yX6_same : MethodName := ⟨RX6, "same", "(IIII)I"⟩
abbrev cX6_weak : ByteArray := prog_8_method_37_code
def yX6_weak : MethodName := ⟨RX6, "weak", "(III)I"⟩
abbrev cX6_notesRead : ByteArray := prog_8_method_38_code
def yX6_notesRead : MethodName := ⟨RX6, "notesRead", "(I)V"⟩
abbrev cX6_strong : ByteArray := prog_8_method_39_code
def yX6_strong : MethodName := ⟨RX6, "strong", "(III)I"⟩
abbrev cX6_pair : ByteArray := prog_8_method_40_code
def yX6_pair : MethodName := ⟨RX6, "pair", "(III)I"⟩
abbrev cX6_value : ByteArray := prog_8_method_41_code
def yX6_value : MethodName := ⟨RX6, "value", "(III)I"⟩
abbrev cX6_wish : ByteArray := prog_8_method_42_code
def yX6_wish : MethodName := ⟨RX6, "wish", "(II)I"⟩
abbrev cX6_reach : ByteArray := prog_8_method_43_code
def yX6_reach : MethodName := ⟨RX6, "reach", "(I)V"⟩
abbrev cX6_findReached : ByteArray := prog_8_method_44_code
def yX6_findReached : MethodName := ⟨RX6, "findReached", "()V"⟩
abbrev cX6_isThing : ByteArray := prog_8_method_45_code
def yX6_isThing : MethodName := ⟨RX6, "isThing", "(I)Z"⟩
abbrev cX6_aboutOf : ByteArray := prog_8_method_46_code
def yX6_aboutOf : MethodName := ⟨RX6, "aboutOf", "(II)I"⟩
abbrev cX6_about : ByteArray := prog_8_method_47_code
def yX6_about : MethodName := ⟨RX6, "about", "(II)I"⟩
abbrev cX6_field : ByteArray := prog_8_method_48_code
def yX6_field : MethodName := ⟨RX6, "field", "(II)I"⟩
abbrev cX6_holder : ByteArray := prog_8_method_49_code
def yX6_holder : MethodName := ⟨RX6, "holder", "(I)I"⟩
abbrev cX6_cellOf : ByteArray := prog_8_method_50_code
def yX6_cellOf : MethodName := ⟨RX6, "cellOf", "(I)I"⟩
abbrev cX6_cell : ByteArray := prog_8_method_51_code
def yX6_cell : MethodName := ⟨RX6, "cell", "(I)I"⟩
abbrev cX6_freeCells : ByteArray := prog_8_method_52_code
def yX6_freeCells : MethodName := ⟨RX6, "freeCells", "(Z)I"⟩
abbrev cX6_countThings : ByteArray := prog_8_method_53_code
def yX6_countThings : MethodName := ⟨RX6, "countThings", "(I)I"⟩
abbrev cX6_count : ByteArray := prog_8_method_54_code
def yX6_count : MethodName := ⟨RX6, "count", "(I)I"⟩
abbrev cX6_lost : ByteArray := prog_8_method_55_code
def yX6_lost : MethodName := ⟨RX6, "lost", "()I"⟩
abbrev cX6_digest : ByteArray := prog_8_method_56_code
def yX6_digest : MethodName := ⟨RX6, "digest", "()J"⟩
def RJ9 : String := "java/lang/Math"
def TJ9 : u_T := fun k => match k with
  | _ => ("", "", "", false)
def tyJ9 : Nat → FieldType := fun k => match k with
  | _ => .int
theorem nmJ9 : ∀ a, a < 0 → ∀ b, b < 0 → a ≠ b → (TJ9 a).2.1 ≠ (TJ9 b).2.1 := by decide +kernel
theorem tyJ9_ok : ∀ k, k < 0 → parseFieldDescriptor (TJ9 k).2.2.1 = some (tyJ9 k) := by decide +kernel
abbrev cJ9_max_7cf53 : ByteArray := prog_9_method_65_code
def yJ9_max_7cf53 : MethodName := ⟨RJ9, "max", "(II)I"⟩
def RL : String := "AtticSweepLaw"
abbrev cL_law : ByteArray := code
def yL_law : MethodName := ⟨RL, "law", "([I)Z"⟩
abbrev vwCl : List vw_C := [(RX0, TX0, 3), (RX1, TX1, 3), (RX2, TX2, 3), (RX3, TX3, 3), (RX4, TX4, 8), (RX5, TX5, 13), (RX6, TX6, 30)]
end
section
def WW : List Cond := lw_tbl.filter goodWord
theorem wm_tables_1_1 : ∀ w ∈ tables_1_1, w ∈ lw_tbl := fun _ h => List.mem_append_right _ (List.mem_append_left _ h)
theorem wm_tables_1_2 : ∀ w ∈ tables_1_2, w ∈ lw_tbl := fun _ h => List.mem_append_right _ (List.mem_append_right _ (List.mem_append_left _ h))
theorem wm_tables_1_3 : ∀ w ∈ tables_1_3, w ∈ lw_tbl := fun _ h => List.mem_append_right _ (List.mem_append_right _ (List.mem_append_right _ (List.mem_append_left _ h)))
theorem wm_tables_1_4 : ∀ w ∈ tables_1_4, w ∈ lw_tbl := fun _ h => List.mem_append_right _ (List.mem_append_right _ (List.mem_append_right _ (List.mem_append_right _ h)))
theorem wm_p1 : ∀ w ∈ k2_sels lw_privs_1, w ∈ lw_tbl := fun w h => List.mem_append_left _ (by rw [show k2_sels lw_privs = k2_sels lw_privs_1 ++ (k2_sels lw_privs_2 ++ (k2_sels lw_privs_3 ++ k2_sels lw_privs_4)) from by simp only [lw_privs, k2_sels, List.map_append]]; exact List.mem_append_left _ h)
theorem wm_p2 : ∀ w ∈ k2_sels lw_privs_2, w ∈ lw_tbl := fun w h => List.mem_append_left _ (by rw [show k2_sels lw_privs = k2_sels lw_privs_1 ++ (k2_sels lw_privs_2 ++ (k2_sels lw_privs_3 ++ k2_sels lw_privs_4)) from by simp only [lw_privs, k2_sels, List.map_append]]; exact List.mem_append_right _ (List.mem_append_left _ h))
theorem wm_p3 : ∀ w ∈ k2_sels lw_privs_3, w ∈ lw_tbl := fun w h => List.mem_append_left _ (by rw [show k2_sels lw_privs = k2_sels lw_privs_1 ++ (k2_sels lw_privs_2 ++ (k2_sels lw_privs_3 ++ k2_sels lw_privs_4)) from by simp only [lw_privs, k2_sels, List.map_append]]; exact List.mem_append_right _ (List.mem_append_right _ (List.mem_append_left _ h)))
theorem wm_p4 : ∀ w ∈ k2_sels lw_privs_4, w ∈ lw_tbl := fun w h => List.mem_append_left _ (by rw [show k2_sels lw_privs = k2_sels lw_privs_1 ++ (k2_sels lw_privs_2 ++ (k2_sels lw_privs_3 ++ k2_sels lw_privs_4)) from by simp only [lw_privs, k2_sels, List.map_append]]; exact List.mem_append_right _ (List.mem_append_right _ (List.mem_append_right _ h)))
theorem wi_L : Cond.initialized RL ∈ WW := List.mem_filter.mpr ⟨wm_tables_1_1 _ (List.mem_of_getElem? (i := 0) rfl), rfl⟩
theorem wi_X5 : Cond.initialized RX5 ∈ WW := List.mem_filter.mpr ⟨wm_tables_1_1 _ (List.mem_of_getElem? (i := 1) rfl), rfl⟩
theorem wi_X4 : Cond.initialized RX4 ∈ WW := List.mem_filter.mpr ⟨wm_tables_1_1 _ (List.mem_of_getElem? (i := 2) rfl), rfl⟩
theorem wi_X0 : Cond.initialized RX0 ∈ WW := List.mem_filter.mpr ⟨wm_tables_1_1 _ (List.mem_of_getElem? (i := 3) rfl), rfl⟩
theorem wi_X1 : Cond.initialized RX1 ∈ WW := List.mem_filter.mpr ⟨wm_tables_1_1 _ (List.mem_of_getElem? (i := 4) rfl), rfl⟩
theorem wi_X2 : Cond.initialized RX2 ∈ WW := List.mem_filter.mpr ⟨wm_tables_1_1 _ (List.mem_of_getElem? (i := 5) rfl), rfl⟩
theorem wi_X3 : Cond.initialized RX3 ∈ WW := List.mem_filter.mpr ⟨wm_tables_1_1 _ (List.mem_of_getElem? (i := 6) rfl), rfl⟩
theorem wi_X6 : Cond.initialized RX6 ∈ WW := List.mem_filter.mpr ⟨wm_tables_1_1 _ (List.mem_of_getElem? (i := 7) rfl), rfl⟩
theorem wi_J9 : Cond.initialized "java/lang/Math" ∈ WW := List.mem_filter.mpr ⟨wm_tables_1_1 _ (List.mem_of_getElem? (i := 8) rfl), rfl⟩
theorem wc_L_7 : Cond.classLink RL 7 RX5 ∈ WW := List.mem_filter.mpr ⟨wm_tables_1_1 _ (List.mem_of_getElem? (i := 9) rfl), rfl⟩
theorem wn_X5 : Cond.instantiable RX5 13 ∈ WW := List.mem_filter.mpr ⟨wm_tables_1_1 _ (List.mem_of_getElem? (i := 10) rfl), rfl⟩
theorem wl_L_9 : Cond.methodLink RL 9 yX5_init ∈ WW := List.mem_filter.mpr ⟨wm_tables_1_1 _ (List.mem_of_getElem? (i := 11) rfl), rfl⟩
theorem wt_yX5_init : Cond.instanceMethod yX5_init ∈ WW := List.mem_filter.mpr ⟨wm_tables_1_1 _ (List.mem_of_getElem? (i := 12) rfl), rfl⟩
theorem wk_yX5_init : Cond.code yX5_init cX5_init 1 none ∈ WW := List.mem_filter.mpr ⟨wm_tables_1_1 _ (List.mem_of_getElem? (i := 13) rfl), rfl⟩
theorem wl_X5_3 : Cond.methodLink RX5 3 objectInit ∈ WW := List.mem_filter.mpr ⟨wm_tables_1_1 _ (List.mem_of_getElem? (i := 14) rfl), rfl⟩
theorem wt_objectInit : Cond.instanceMethod objectInit ∈ WW := List.mem_filter.mpr ⟨wm_tables_1_1 _ (List.mem_of_getElem? (i := 15) rfl), rfl⟩
theorem wk_objectInit : Cond.code objectInit ⟨#[0xb1]⟩ 1 none ∈ WW := List.mem_filter.mpr ⟨wm_tables_1_1 _ (List.mem_of_getElem? (i := 16) rfl), rfl⟩
theorem wc_X5_9 : Cond.classLink RX5 9 RX4 ∈ WW := List.mem_filter.mpr ⟨wm_tables_1_1 _ (List.mem_of_getElem? (i := 17) rfl), rfl⟩
theorem wn_X4 : Cond.instantiable RX4 8 ∈ WW := List.mem_filter.mpr ⟨wm_tables_1_1 _ (List.mem_of_getElem? (i := 18) rfl), rfl⟩
theorem wt_yX4_init : Cond.instanceMethod yX4_init ∈ WW := List.mem_filter.mpr ⟨wm_tables_1_1 _ (List.mem_of_getElem? (i := 20) rfl), rfl⟩
theorem wk_yX4_init : Cond.code yX4_init cX4_init 1 none ∈ WW := List.mem_filter.mpr ⟨wm_tables_1_1 _ (List.mem_of_getElem? (i := 21) rfl), rfl⟩
theorem wl_X4_3 : Cond.methodLink RX4 3 objectInit ∈ WW := List.mem_filter.mpr ⟨wm_tables_1_1 _ (List.mem_of_getElem? (i := 22) rfl), rfl⟩
theorem wf_X4_34 : Cond.fieldLink RX4 34 "AtticSweep$Things" "made" "I" ∈ WW := List.mem_filter.mpr ⟨wm_tables_1_1 _ (List.mem_of_getElem? (i := 23) rfl), rfl⟩
theorem wf_X4_9 : Cond.fieldLink RX4 9 "AtticSweep$Things" "sizes" "[I" ∈ WW := List.mem_filter.mpr ⟨wm_tables_1_1 _ (List.mem_of_getElem? (i := 25) rfl), rfl⟩
theorem wf_X4_15 : Cond.fieldLink RX4 15 "AtticSweep$Things" "places" "[I" ∈ WW := List.mem_filter.mpr ⟨wm_tables_1_1 _ (List.mem_of_getElem? (i := 26) rfl), rfl⟩
theorem wf_X4_18 : Cond.fieldLink RX4 18 "AtticSweep$Things" "colours" "[I" ∈ WW := List.mem_filter.mpr ⟨wm_tables_1_1 _ (List.mem_of_getElem? (i := 27) rfl), rfl⟩
theorem wf_X4_21 : Cond.fieldLink RX4 21 "AtticSweep$Things" "moves" "[I" ∈ WW := List.mem_filter.mpr ⟨wm_tables_1_1 _ (List.mem_of_getElem? (i := 28) rfl), rfl⟩
theorem wf_X4_24 : Cond.fieldLink RX4 24 "AtticSweep$Things" "freed" "[Z" ∈ WW := List.mem_filter.mpr ⟨wm_tables_1_1 _ (List.mem_of_getElem? (i := 29) rfl), rfl⟩
theorem wf_X4_28 : Cond.fieldLink RX4 28 "AtticSweep$Things" "wishing" "[Z" ∈ WW := List.mem_filter.mpr ⟨wm_tables_1_1 _ (List.mem_of_getElem? (i := 30) rfl), rfl⟩
theorem wf_X4_31 : Cond.fieldLink RX4 31 "AtticSweep$Things" "held" "[I" ∈ WW := List.mem_filter.mpr ⟨wm_tables_1_1 _ (List.mem_of_getElem? (i := 31) rfl), rfl⟩
theorem wy_X4_made : Cond.lays RX4 "AtticSweep$Things" "made" "I" ∈ WW := List.mem_filter.mpr ⟨wm_tables_1_1 _ (List.mem_of_getElem? (i := 32) rfl), rfl⟩
theorem wy_X4_sizes : Cond.laysFinal RX4 "AtticSweep$Things" "sizes" "[I" ∈ WW := List.mem_filter.mpr ⟨wm_tables_1_1 _ (List.mem_of_getElem? (i := 34) rfl), rfl⟩
theorem wy_X4_places : Cond.laysFinal RX4 "AtticSweep$Things" "places" "[I" ∈ WW := List.mem_filter.mpr ⟨wm_tables_1_1 _ (List.mem_of_getElem? (i := 36) rfl), rfl⟩
theorem wy_X4_colours : Cond.laysFinal RX4 "AtticSweep$Things" "colours" "[I" ∈ WW := List.mem_filter.mpr ⟨wm_tables_1_1 _ (List.mem_of_getElem? (i := 38) rfl), rfl⟩
theorem wy_X4_moves : Cond.laysFinal RX4 "AtticSweep$Things" "moves" "[I" ∈ WW := List.mem_filter.mpr ⟨wm_tables_1_1 _ (List.mem_of_getElem? (i := 40) rfl), rfl⟩
theorem wy_X4_freed : Cond.laysFinal RX4 "AtticSweep$Things" "freed" "[Z" ∈ WW := List.mem_filter.mpr ⟨wm_tables_1_1 _ (List.mem_of_getElem? (i := 42) rfl), rfl⟩
theorem wy_X4_wishing : Cond.laysFinal RX4 "AtticSweep$Things" "wishing" "[Z" ∈ WW := List.mem_filter.mpr ⟨wm_tables_1_1 _ (List.mem_of_getElem? (i := 44) rfl), rfl⟩
theorem wy_X4_held : Cond.laysFinal RX4 "AtticSweep$Things" "held" "[I" ∈ WW := List.mem_filter.mpr ⟨wm_tables_1_1 _ (List.mem_of_getElem? (i := 46) rfl), rfl⟩
theorem wa_int : Cond.arrayClass .int ∈ WW := List.mem_filter.mpr ⟨wm_tables_1_1 _ (List.mem_of_getElem? (i := 49) rfl), rfl⟩
theorem wa_boolean : Cond.arrayClass .boolean ∈ WW := List.mem_filter.mpr ⟨wm_tables_1_1 _ (List.mem_of_getElem? (i := 50) rfl), rfl⟩
theorem wc_X5_16 : Cond.classLink RX5 16 RX0 ∈ WW := List.mem_filter.mpr ⟨wm_tables_1_1 _ (List.mem_of_getElem? (i := 51) rfl), rfl⟩
theorem wn_X0 : Cond.instantiable RX0 3 ∈ WW := List.mem_filter.mpr ⟨wm_tables_1_1 _ (List.mem_of_getElem? (i := 52) rfl), rfl⟩
theorem wt_yX0_init : Cond.instanceMethod yX0_init ∈ WW := List.mem_filter.mpr ⟨wm_tables_1_1 _ (List.mem_of_getElem? (i := 54) rfl), rfl⟩
theorem wk_yX0_init : Cond.code yX0_init cX0_init 1 none ∈ WW := List.mem_filter.mpr ⟨wm_tables_1_1 _ (List.mem_of_getElem? (i := 55) rfl), rfl⟩
theorem wl_X0_3 : Cond.methodLink RX0 3 objectInit ∈ WW := List.mem_filter.mpr ⟨wm_tables_1_1 _ (List.mem_of_getElem? (i := 56) rfl), rfl⟩
theorem wf_X0_9 : Cond.fieldLink RX0 9 "AtticSweep$Cells" "things" "[I" ∈ WW := List.mem_filter.mpr ⟨wm_tables_1_1 _ (List.mem_of_getElem? (i := 57) rfl), rfl⟩
theorem wf_X0_19 : Cond.fieldLink RX0 19 "AtticSweep$Cells" "halfEnd" "I" ∈ WW := List.mem_filter.mpr ⟨wm_tables_1_1 _ (List.mem_of_getElem? (i := 58) rfl), rfl⟩
theorem wf_X0_15 : Cond.fieldLink RX0 15 "AtticSweep$Cells" "behind" "I" ∈ WW := List.mem_filter.mpr ⟨wm_tables_1_1 _ (List.mem_of_getElem? (i := 59) rfl), rfl⟩
theorem wy_X0_things : Cond.laysFinal RX0 "AtticSweep$Cells" "things" "[I" ∈ WW := List.mem_filter.mpr ⟨wm_tables_1_1 _ (List.mem_of_getElem? (i := 61) rfl), rfl⟩
theorem wy_X0_halfEnd : Cond.lays RX0 "AtticSweep$Cells" "halfEnd" "I" ∈ WW := List.mem_filter.mpr ⟨wm_tables_1_1 _ (List.mem_of_getElem? (i := 63) rfl), rfl⟩
theorem wy_X0_behind : Cond.lays RX0 "AtticSweep$Cells" "behind" "I" ∈ WW := List.mem_filter.mpr ⟨wm_tables_1_1 _ (List.mem_of_getElem? (i := 65) rfl), rfl⟩
theorem wc_X5_23 : Cond.classLink RX5 23 RX1 ∈ WW := List.mem_filter.mpr ⟨wm_tables_1_1 _ (List.mem_of_getElem? (i := 68) rfl), rfl⟩
theorem wn_X1 : Cond.instantiable RX1 3 ∈ WW := List.mem_filter.mpr ⟨wm_tables_1_1 _ (List.mem_of_getElem? (i := 69) rfl), rfl⟩
theorem wt_yX1_init : Cond.instanceMethod yX1_init ∈ WW := List.mem_filter.mpr ⟨wm_tables_1_1 _ (List.mem_of_getElem? (i := 71) rfl), rfl⟩
theorem wk_yX1_init : Cond.code yX1_init cX1_init 1 none ∈ WW := List.mem_filter.mpr ⟨wm_tables_1_1 _ (List.mem_of_getElem? (i := 72) rfl), rfl⟩
theorem wl_X1_3 : Cond.methodLink RX1 3 objectInit ∈ WW := List.mem_filter.mpr ⟨wm_tables_1_1 _ (List.mem_of_getElem? (i := 73) rfl), rfl⟩
theorem wf_X1_9 : Cond.fieldLink RX1 9 "AtticSweep$Holders" "held" "[I" ∈ WW := List.mem_filter.mpr ⟨wm_tables_1_1 _ (List.mem_of_getElem? (i := 74) rfl), rfl⟩
theorem wf_X1_15 : Cond.fieldLink RX1 15 "AtticSweep$Holders" "named" "[I" ∈ WW := List.mem_filter.mpr ⟨wm_tables_1_1 _ (List.mem_of_getElem? (i := 75) rfl), rfl⟩
theorem wf_X1_18 : Cond.fieldLink RX1 18 "AtticSweep$Holders" "wishes" "I" ∈ WW := List.mem_filter.mpr ⟨wm_tables_1_1 _ (List.mem_of_getElem? (i := 76) rfl), rfl⟩
theorem wy_X1_held : Cond.laysFinal RX1 "AtticSweep$Holders" "held" "[I" ∈ WW := List.mem_filter.mpr ⟨wm_tables_1_1 _ (List.mem_of_getElem? (i := 79) rfl), rfl⟩
theorem wy_X1_named : Cond.laysFinal RX1 "AtticSweep$Holders" "named" "[I" ∈ WW := List.mem_filter.mpr ⟨wm_tables_1_1 _ (List.mem_of_getElem? (i := 81) rfl), rfl⟩
theorem wy_X1_wishes : Cond.lays RX1 "AtticSweep$Holders" "wishes" "I" ∈ WW := List.mem_filter.mpr ⟨wm_tables_1_1 _ (List.mem_of_getElem? (i := 83) rfl), rfl⟩
theorem wc_X5_30 : Cond.classLink RX5 30 RX2 ∈ WW := List.mem_filter.mpr ⟨wm_tables_1_1 _ (List.mem_of_getElem? (i := 86) rfl), rfl⟩
theorem wn_X2 : Cond.instantiable RX2 3 ∈ WW := List.mem_filter.mpr ⟨wm_tables_1_1 _ (List.mem_of_getElem? (i := 87) rfl), rfl⟩
theorem wt_yX2_init : Cond.instanceMethod yX2_init ∈ WW := List.mem_filter.mpr ⟨wm_tables_1_1 _ (List.mem_of_getElem? (i := 89) rfl), rfl⟩
theorem wk_yX2_init : Cond.code yX2_init cX2_init 1 none ∈ WW := List.mem_filter.mpr ⟨wm_tables_1_1 _ (List.mem_of_getElem? (i := 90) rfl), rfl⟩
theorem wl_X2_3 : Cond.methodLink RX2 3 objectInit ∈ WW := List.mem_filter.mpr ⟨wm_tables_1_1 _ (List.mem_of_getElem? (i := 91) rfl), rfl⟩
theorem wf_X2_18 : Cond.fieldLink RX2 18 "AtticSweep$Pairs" "made" "I" ∈ WW := List.mem_filter.mpr ⟨wm_tables_1_1 _ (List.mem_of_getElem? (i := 92) rfl), rfl⟩
theorem wf_X2_9 : Cond.fieldLink RX2 9 "AtticSweep$Pairs" "keys" "[I" ∈ WW := List.mem_filter.mpr ⟨wm_tables_1_1 _ (List.mem_of_getElem? (i := 95) rfl), rfl⟩
theorem wf_X2_15 : Cond.fieldLink RX2 15 "AtticSweep$Pairs" "values" "[I" ∈ WW := List.mem_filter.mpr ⟨wm_tables_1_1 _ (List.mem_of_getElem? (i := 96) rfl), rfl⟩
theorem wy_X2_made : Cond.lays RX2 "AtticSweep$Pairs" "made" "I" ∈ WW := List.mem_filter.mpr ⟨wm_tables_1_1 _ (List.mem_of_getElem? (i := 97) rfl), rfl⟩
theorem wy_X2_keys : Cond.laysFinal RX2 "AtticSweep$Pairs" "keys" "[I" ∈ WW := List.mem_filter.mpr ⟨wm_tables_1_1 _ (List.mem_of_getElem? (i := 99) rfl), rfl⟩
theorem wy_X2_values : Cond.laysFinal RX2 "AtticSweep$Pairs" "values" "[I" ∈ WW := List.mem_filter.mpr ⟨wm_tables_1_1 _ (List.mem_of_getElem? (i := 101) rfl), rfl⟩
theorem wc_X5_37 : Cond.classLink RX5 37 RX3 ∈ WW := List.mem_filter.mpr ⟨wm_tables_1_1 _ (List.mem_of_getElem? (i := 104) rfl), rfl⟩
theorem wn_X3 : Cond.instantiable RX3 3 ∈ WW := List.mem_filter.mpr ⟨wm_tables_1_1 _ (List.mem_of_getElem? (i := 105) rfl), rfl⟩
theorem wt_yX3_init : Cond.instanceMethod yX3_init ∈ WW := List.mem_filter.mpr ⟨wm_tables_1_1 _ (List.mem_of_getElem? (i := 107) rfl), rfl⟩
theorem wk_yX3_init : Cond.code yX3_init cX3_init 1 none ∈ WW := List.mem_filter.mpr ⟨wm_tables_1_1 _ (List.mem_of_getElem? (i := 108) rfl), rfl⟩
theorem wl_X3_3 : Cond.methodLink RX3 3 objectInit ∈ WW := List.mem_filter.mpr ⟨wm_tables_1_1 _ (List.mem_of_getElem? (i := 109) rfl), rfl⟩
theorem wf_X3_9 : Cond.fieldLink RX3 9 "AtticSweep$Reach" "found" "[Z" ∈ WW := List.mem_filter.mpr ⟨wm_tables_1_1 _ (List.mem_of_getElem? (i := 110) rfl), rfl⟩
theorem wf_X3_15 : Cond.fieldLink RX3 15 "AtticSweep$Reach" "order" "[I" ∈ WW := List.mem_filter.mpr ⟨wm_tables_1_1 _ (List.mem_of_getElem? (i := 111) rfl), rfl⟩
theorem wf_X3_36 : Cond.fieldLink RX3 36 "AtticSweep$Reach" "count" "I" ∈ WW := List.mem_filter.mpr ⟨wm_tables_1_1 _ (List.mem_of_getElem? (i := 112) rfl), rfl⟩
theorem wy_X3_found : Cond.laysFinal RX3 "AtticSweep$Reach" "found" "[Z" ∈ WW := List.mem_filter.mpr ⟨wm_tables_1_1 _ (List.mem_of_getElem? (i := 113) rfl), rfl⟩
theorem wy_X3_order : Cond.laysFinal RX3 "AtticSweep$Reach" "order" "[I" ∈ WW := List.mem_filter.mpr ⟨wm_tables_1_1 _ (List.mem_of_getElem? (i := 115) rfl), rfl⟩
theorem wy_X3_count : Cond.lays RX3 "AtticSweep$Reach" "count" "I" ∈ WW := List.mem_filter.mpr ⟨wm_tables_1_1 _ (List.mem_of_getElem? (i := 117) rfl), rfl⟩
theorem wl_X5_44 : Cond.methodLink RX5 44 yX5_empty ∈ WW := List.mem_filter.mpr ⟨wm_tables_1_1 _ (List.mem_of_getElem? (i := 120) rfl), rfl⟩
theorem wt_yX5_empty : Cond.instanceMethod yX5_empty ∈ WW := List.mem_filter.mpr ⟨wm_tables_1_1 _ (List.mem_of_getElem? (i := 122) rfl), rfl⟩
theorem wk_yX5_empty : Cond.code yX5_empty cX5_empty 3 none ∈ WW := List.mem_filter.mpr ⟨wm_tables_1_1 _ (List.mem_of_getElem? (i := 123) rfl), rfl⟩
theorem wl_X5_77 : Cond.methodLink RX5 77 yX0_empty ∈ WW := List.mem_filter.mpr ⟨wm_tables_1_1 _ (List.mem_of_getElem? (i := 124) rfl), rfl⟩
theorem wt_yX0_empty : Cond.instanceMethod yX0_empty ∈ WW := List.mem_filter.mpr ⟨wm_tables_1_1 _ (List.mem_of_getElem? (i := 125) rfl), rfl⟩
theorem ws_yX0_empty : Cond.selects RX0 yX0_empty yX0_empty ∈ WW := List.mem_filter.mpr ⟨wm_tables_1_1 _ (List.mem_of_getElem? (i := 126) rfl), rfl⟩
theorem wk_yX0_empty : Cond.code yX0_empty cX0_empty 2 none ∈ WW := List.mem_filter.mpr ⟨wm_tables_1_1 _ (List.mem_of_getElem? (i := 127) rfl), rfl⟩
theorem wl_X5_79 : Cond.methodLink RX5 79 yX1_empty ∈ WW := List.mem_filter.mpr ⟨wm_tables_1_1 _ (List.mem_of_getElem? (i := 128) rfl), rfl⟩
theorem wt_yX1_empty : Cond.instanceMethod yX1_empty ∈ WW := List.mem_filter.mpr ⟨wm_tables_1_1 _ (List.mem_of_getElem? (i := 129) rfl), rfl⟩
theorem ws_yX1_empty : Cond.selects RX1 yX1_empty yX1_empty ∈ WW := List.mem_filter.mpr ⟨wm_tables_1_1 _ (List.mem_of_getElem? (i := 130) rfl), rfl⟩
theorem wk_yX1_empty : Cond.code yX1_empty cX1_empty 2 none ∈ WW := List.mem_filter.mpr ⟨wm_tables_1_1 _ (List.mem_of_getElem? (i := 131) rfl), rfl⟩
theorem wf_X5_12 : Cond.fieldLink RX5 12 "AtticSweep" "things" "LAtticSweep$Things;" ∈ WW := List.mem_filter.mpr ⟨wm_tables_1_1 _ (List.mem_of_getElem? (i := 132) rfl), rfl⟩
theorem wf_X5_19 : Cond.fieldLink RX5 19 "AtticSweep" "cells" "LAtticSweep$Cells;" ∈ WW := List.mem_filter.mpr ⟨wm_tables_1_1 _ (List.mem_of_getElem? (i := 133) rfl), rfl⟩
theorem wf_X5_26 : Cond.fieldLink RX5 26 "AtticSweep" "holders" "LAtticSweep$Holders;" ∈ WW := List.mem_filter.mpr ⟨wm_tables_1_1 _ (List.mem_of_getElem? (i := 134) rfl), rfl⟩
theorem wf_X5_33 : Cond.fieldLink RX5 33 "AtticSweep" "pairs" "LAtticSweep$Pairs;" ∈ WW := List.mem_filter.mpr ⟨wm_tables_1_1 _ (List.mem_of_getElem? (i := 135) rfl), rfl⟩
theorem wf_X5_40 : Cond.fieldLink RX5 40 "AtticSweep" "reach" "LAtticSweep$Reach;" ∈ WW := List.mem_filter.mpr ⟨wm_tables_1_1 _ (List.mem_of_getElem? (i := 136) rfl), rfl⟩
theorem wf_X5_52 : Cond.fieldLink RX5 52 "AtticSweep" "manner" "I" ∈ WW := List.mem_filter.mpr ⟨wm_tables_1_1 _ (List.mem_of_getElem? (i := 137) rfl), rfl⟩
theorem wf_X5_55 : Cond.fieldLink RX5 55 "AtticSweep" "fault" "I" ∈ WW := List.mem_filter.mpr ⟨wm_tables_1_1 _ (List.mem_of_getElem? (i := 138) rfl), rfl⟩
theorem wf_X5_58 : Cond.fieldLink RX5 58 "AtticSweep" "underWay" "I" ∈ WW := List.mem_filter.mpr ⟨wm_tables_1_1 _ (List.mem_of_getElem? (i := 139) rfl), rfl⟩
theorem wf_X5_61 : Cond.fieldLink RX5 61 "AtticSweep" "nextToSweep" "I" ∈ WW := List.mem_filter.mpr ⟨wm_tables_1_1 _ (List.mem_of_getElem? (i := 140) rfl), rfl⟩
theorem wf_X5_64 : Cond.fieldLink RX5 64 "AtticSweep" "rounds" "I" ∈ WW := List.mem_filter.mpr ⟨wm_tables_1_1 _ (List.mem_of_getElem? (i := 141) rfl), rfl⟩
theorem wf_X5_67 : Cond.fieldLink RX5 67 "AtticSweep" "steps" "I" ∈ WW := List.mem_filter.mpr ⟨wm_tables_1_1 _ (List.mem_of_getElem? (i := 142) rfl), rfl⟩
theorem wf_X5_70 : Cond.fieldLink RX5 70 "AtticSweep" "shaded" "I" ∈ WW := List.mem_filter.mpr ⟨wm_tables_1_1 _ (List.mem_of_getElem? (i := 143) rfl), rfl⟩
theorem wf_X5_73 : Cond.fieldLink RX5 73 "AtticSweep" "moved" "I" ∈ WW := List.mem_filter.mpr ⟨wm_tables_1_1 _ (List.mem_of_getElem? (i := 144) rfl), rfl⟩
theorem wy_X5_things : Cond.laysFinal RX5 "AtticSweep" "things" "LAtticSweep$Things;" ∈ WW := List.mem_filter.mpr ⟨wm_tables_1_1 _ (List.mem_of_getElem? (i := 145) rfl), rfl⟩
theorem wy_X5_cells : Cond.laysFinal RX5 "AtticSweep" "cells" "LAtticSweep$Cells;" ∈ WW := List.mem_filter.mpr ⟨wm_tables_1_1 _ (List.mem_of_getElem? (i := 147) rfl), rfl⟩
theorem wy_X5_holders : Cond.laysFinal RX5 "AtticSweep" "holders" "LAtticSweep$Holders;" ∈ WW := List.mem_filter.mpr ⟨wm_tables_1_1 _ (List.mem_of_getElem? (i := 149) rfl), rfl⟩
theorem wy_X5_pairs : Cond.laysFinal RX5 "AtticSweep" "pairs" "LAtticSweep$Pairs;" ∈ WW := List.mem_filter.mpr ⟨wm_tables_1_1 _ (List.mem_of_getElem? (i := 151) rfl), rfl⟩
theorem wy_X5_reach : Cond.laysFinal RX5 "AtticSweep" "reach" "LAtticSweep$Reach;" ∈ WW := List.mem_filter.mpr ⟨wm_tables_1_1 _ (List.mem_of_getElem? (i := 153) rfl), rfl⟩
theorem wy_X5_manner : Cond.lays RX5 "AtticSweep" "manner" "I" ∈ WW := List.mem_filter.mpr ⟨wm_tables_1_1 _ (List.mem_of_getElem? (i := 155) rfl), rfl⟩
theorem wy_X5_fault : Cond.lays RX5 "AtticSweep" "fault" "I" ∈ WW := List.mem_filter.mpr ⟨wm_tables_1_1 _ (List.mem_of_getElem? (i := 157) rfl), rfl⟩
theorem wy_X5_underWay : Cond.lays RX5 "AtticSweep" "underWay" "I" ∈ WW := List.mem_filter.mpr ⟨wm_tables_1_1 _ (List.mem_of_getElem? (i := 159) rfl), rfl⟩
theorem wy_X5_nextToSweep : Cond.lays RX5 "AtticSweep" "nextToSweep" "I" ∈ WW := List.mem_filter.mpr ⟨wm_tables_1_1 _ (List.mem_of_getElem? (i := 161) rfl), rfl⟩
theorem wy_X5_rounds : Cond.lays RX5 "AtticSweep" "rounds" "I" ∈ WW := List.mem_filter.mpr ⟨wm_tables_1_1 _ (List.mem_of_getElem? (i := 163) rfl), rfl⟩
theorem wy_X5_steps : Cond.lays RX5 "AtticSweep" "steps" "I" ∈ WW := List.mem_filter.mpr ⟨wm_tables_1_1 _ (List.mem_of_getElem? (i := 165) rfl), rfl⟩
theorem wy_X5_shaded : Cond.lays RX5 "AtticSweep" "shaded" "I" ∈ WW := List.mem_filter.mpr ⟨wm_tables_1_1 _ (List.mem_of_getElem? (i := 167) rfl), rfl⟩
theorem wy_X5_moved : Cond.lays RX5 "AtticSweep" "moved" "I" ∈ WW := List.mem_filter.mpr ⟨wm_tables_1_1 _ (List.mem_of_getElem? (i := 169) rfl), rfl⟩
theorem wl_L_13 : Cond.methodLink RL 13 yX5_attic ∈ WW := List.mem_filter.mpr ⟨wm_tables_1_1 _ (List.mem_of_getElem? (i := 172) rfl), rfl⟩
theorem wt_yX5_attic : Cond.instanceMethod yX5_attic ∈ WW := List.mem_filter.mpr ⟨wm_tables_1_1 _ (List.mem_of_getElem? (i := 173) rfl), rfl⟩
theorem ws_yX5_attic : Cond.selects RX5 yX5_attic yX5_attic ∈ WW := List.mem_filter.mpr ⟨wm_tables_1_1 _ (List.mem_of_getElem? (i := 174) rfl), rfl⟩
theorem wk_yX5_attic : Cond.code yX5_attic cX5_attic 4 (some .int) ∈ WW := List.mem_filter.mpr ⟨wm_tables_1_1 _ (List.mem_of_getElem? (i := 175) rfl), rfl⟩
theorem wl_L_18 : Cond.methodLink RL 18 yX5_make ∈ WW := List.mem_filter.mpr ⟨wm_tables_1_1 _ (List.mem_of_getElem? (i := 176) rfl), rfl⟩
theorem wt_yX5_make : Cond.instanceMethod yX5_make ∈ WW := List.mem_filter.mpr ⟨wm_tables_1_1 _ (List.mem_of_getElem? (i := 177) rfl), rfl⟩
theorem ws_yX5_make : Cond.selects RX5 yX5_make yX5_make ∈ WW := List.mem_filter.mpr ⟨wm_tables_1_1 _ (List.mem_of_getElem? (i := 178) rfl), rfl⟩
theorem wk_yX5_make : Cond.code yX5_make cX5_make 8 (some .int) ∈ WW := List.mem_filter.mpr ⟨wm_tables_1_1 _ (List.mem_of_getElem? (i := 179) rfl), rfl⟩
theorem wl_X5_80 : Cond.methodLink RX5 80 yX5_isRegister ∈ WW := List.mem_filter.mpr ⟨wm_tables_1_1 _ (List.mem_of_getElem? (i := 180) rfl), rfl⟩
theorem wz_yX5_isRegister : Cond.static yX5_isRegister ∈ WW := List.mem_filter.mpr ⟨wm_tables_1_1 _ (List.mem_of_getElem? (i := 181) rfl), rfl⟩
theorem wk_yX5_isRegister : Cond.code yX5_isRegister cX5_isRegister 2 (some .boolean) ∈ WW := List.mem_filter.mpr ⟨wm_tables_1_1 _ (List.mem_of_getElem? (i := 182) rfl), rfl⟩
theorem wl_X5_84 : Cond.methodLink RX5 84 yX5_colourOfNew ∈ WW := List.mem_filter.mpr ⟨wm_tables_1_1 _ (List.mem_of_getElem? (i := 183) rfl), rfl⟩
theorem wt_yX5_colourOfNew : Cond.instanceMethod yX5_colourOfNew ∈ WW := List.mem_filter.mpr ⟨wm_tables_1_1 _ (List.mem_of_getElem? (i := 185) rfl), rfl⟩
theorem wk_yX5_colourOfNew : Cond.code yX5_colourOfNew cX5_colourOfNew 1 (some .int) ∈ WW := List.mem_filter.mpr ⟨wm_tables_1_1 _ (List.mem_of_getElem? (i := 186) rfl), rfl⟩
theorem wl_X5_88 : Cond.methodLink RX5 88 yX5_placeOfNew ∈ WW := List.mem_filter.mpr ⟨wm_tables_1_1 _ (List.mem_of_getElem? (i := 187) rfl), rfl⟩
theorem wt_yX5_placeOfNew : Cond.instanceMethod yX5_placeOfNew ∈ WW := List.mem_filter.mpr ⟨wm_tables_1_1 _ (List.mem_of_getElem? (i := 189) rfl), rfl⟩
theorem wk_yX5_placeOfNew : Cond.code yX5_placeOfNew cX5_placeOfNew 4 (some .int) ∈ WW := List.mem_filter.mpr ⟨wm_tables_1_1 _ (List.mem_of_getElem? (i := 190) rfl), rfl⟩
theorem wl_X5_109 : Cond.methodLink RX5 109 yX0_leastPlace ∈ WW := List.mem_filter.mpr ⟨wm_tables_1_1 _ (List.mem_of_getElem? (i := 191) rfl), rfl⟩
theorem wt_yX0_leastPlace : Cond.instanceMethod yX0_leastPlace ∈ WW := List.mem_filter.mpr ⟨wm_tables_1_1 _ (List.mem_of_getElem? (i := 192) rfl), rfl⟩
theorem ws_yX0_leastPlace : Cond.selects RX0 yX0_leastPlace yX0_leastPlace ∈ WW := List.mem_filter.mpr ⟨wm_tables_1_1 _ (List.mem_of_getElem? (i := 193) rfl), rfl⟩
theorem wk_yX0_leastPlace : Cond.code yX0_leastPlace cX0_leastPlace 4 (some .int) ∈ WW := List.mem_filter.mpr ⟨wm_tables_1_1 _ (List.mem_of_getElem? (i := 194) rfl), rfl⟩
theorem wl_X5_113 : Cond.methodLink RX5 113 yX4_cellsOfWhite ∈ WW := List.mem_filter.mpr ⟨wm_tables_1_1 _ (List.mem_of_getElem? (i := 195) rfl), rfl⟩
theorem wt_yX4_cellsOfWhite : Cond.instanceMethod yX4_cellsOfWhite ∈ WW := List.mem_filter.mpr ⟨wm_tables_1_1 _ (List.mem_of_getElem? (i := 196) rfl), rfl⟩
theorem ws_yX4_cellsOfWhite : Cond.selects RX4 yX4_cellsOfWhite yX4_cellsOfWhite ∈ WW := List.mem_filter.mpr ⟨wm_tables_1_1 _ (List.mem_of_getElem? (i := 197) rfl), rfl⟩
theorem wk_yX4_cellsOfWhite : Cond.code yX4_cellsOfWhite cX4_cellsOfWhite 3 (some .int) ∈ WW := List.mem_filter.mpr ⟨wm_tables_1_1 _ (List.mem_of_getElem? (i := 198) rfl), rfl⟩
theorem wl_X4_57 : Cond.methodLink RX4 57 yX4_isWhite ∈ WW := List.mem_filter.mpr ⟨wm_tables_1_1 _ (List.mem_of_getElem? (i := 199) rfl), rfl⟩
theorem wt_yX4_isWhite : Cond.instanceMethod yX4_isWhite ∈ WW := List.mem_filter.mpr ⟨wm_tables_1_1 _ (List.mem_of_getElem? (i := 200) rfl), rfl⟩
theorem ws_yX4_isWhite : Cond.selects RX4 yX4_isWhite yX4_isWhite ∈ WW := List.mem_filter.mpr ⟨wm_tables_1_1 _ (List.mem_of_getElem? (i := 201) rfl), rfl⟩
theorem wk_yX4_isWhite : Cond.code yX4_isWhite cX4_isWhite 2 (some .boolean) ∈ WW := List.mem_filter.mpr ⟨wm_tables_1_1 _ (List.mem_of_getElem? (i := 202) rfl), rfl⟩
theorem wl_X4_38 : Cond.methodLink RX4 38 yX4_isThing ∈ WW := List.mem_filter.mpr ⟨wm_tables_1_1 _ (List.mem_of_getElem? (i := 203) rfl), rfl⟩
theorem wt_yX4_isThing : Cond.instanceMethod yX4_isThing ∈ WW := List.mem_filter.mpr ⟨wm_tables_1_1 _ (List.mem_of_getElem? (i := 204) rfl), rfl⟩
theorem ws_yX4_isThing : Cond.selects RX4 yX4_isThing yX4_isThing ∈ WW := List.mem_filter.mpr ⟨wm_tables_1_1 _ (List.mem_of_getElem? (i := 205) rfl), rfl⟩
theorem wk_yX4_isThing : Cond.code yX4_isThing cX4_isThing 2 (some .boolean) ∈ WW := List.mem_filter.mpr ⟨wm_tables_1_1 _ (List.mem_of_getElem? (i := 206) rfl), rfl⟩
theorem wl_X4_46 : Cond.methodLink RX4 46 yX4_isFreed ∈ WW := List.mem_filter.mpr ⟨wm_tables_1_1 _ (List.mem_of_getElem? (i := 207) rfl), rfl⟩
theorem wt_yX4_isFreed : Cond.instanceMethod yX4_isFreed ∈ WW := List.mem_filter.mpr ⟨wm_tables_1_1 _ (List.mem_of_getElem? (i := 208) rfl), rfl⟩
theorem ws_yX4_isFreed : Cond.selects RX4 yX4_isFreed yX4_isFreed ∈ WW := List.mem_filter.mpr ⟨wm_tables_1_1 _ (List.mem_of_getElem? (i := 209) rfl), rfl⟩
theorem wk_yX4_isFreed : Cond.code yX4_isFreed cX4_isFreed 2 (some .boolean) ∈ WW := List.mem_filter.mpr ⟨wm_tables_1_1 _ (List.mem_of_getElem? (i := 210) rfl), rfl⟩
theorem wl_X4_60 : Cond.methodLink RX4 60 yX4_sizeOf ∈ WW := List.mem_filter.mpr ⟨wm_tables_1_1 _ (List.mem_of_getElem? (i := 211) rfl), rfl⟩
theorem wt_yX4_sizeOf : Cond.instanceMethod yX4_sizeOf ∈ WW := List.mem_filter.mpr ⟨wm_tables_1_1 _ (List.mem_of_getElem? (i := 212) rfl), rfl⟩
theorem ws_yX4_sizeOf : Cond.selects RX4 yX4_sizeOf yX4_sizeOf ∈ WW := List.mem_filter.mpr ⟨wm_tables_1_1 _ (List.mem_of_getElem? (i := 213) rfl), rfl⟩
theorem wk_yX4_sizeOf : Cond.code yX4_sizeOf cX4_sizeOf 2 (some .int) ∈ WW := List.mem_filter.mpr ⟨wm_tables_1_1 _ (List.mem_of_getElem? (i := 214) rfl), rfl⟩
theorem wl_X5_116 : Cond.methodLink RX5 116 yX0_leftBehind ∈ WW := List.mem_filter.mpr ⟨wm_tables_1_1 _ (List.mem_of_getElem? (i := 215) rfl), rfl⟩
theorem wt_yX0_leftBehind : Cond.instanceMethod yX0_leftBehind ∈ WW := List.mem_filter.mpr ⟨wm_tables_1_1 _ (List.mem_of_getElem? (i := 216) rfl), rfl⟩
theorem ws_yX0_leftBehind : Cond.selects RX0 yX0_leftBehind yX0_leftBehind ∈ WW := List.mem_filter.mpr ⟨wm_tables_1_1 _ (List.mem_of_getElem? (i := 217) rfl), rfl⟩
theorem wk_yX0_leftBehind : Cond.code yX0_leftBehind cX0_leftBehind 1 (some .int) ∈ WW := List.mem_filter.mpr ⟨wm_tables_1_1 _ (List.mem_of_getElem? (i := 218) rfl), rfl⟩
theorem wl_X5_92 : Cond.methodLink RX5 92 yX4_add ∈ WW := List.mem_filter.mpr ⟨wm_tables_1_1 _ (List.mem_of_getElem? (i := 219) rfl), rfl⟩
theorem wt_yX4_add : Cond.instanceMethod yX4_add ∈ WW := List.mem_filter.mpr ⟨wm_tables_1_1 _ (List.mem_of_getElem? (i := 220) rfl), rfl⟩
theorem ws_yX4_add : Cond.selects RX4 yX4_add yX4_add ∈ WW := List.mem_filter.mpr ⟨wm_tables_1_1 _ (List.mem_of_getElem? (i := 221) rfl), rfl⟩
theorem wk_yX4_add : Cond.code yX4_add cX4_add 7 (some .int) ∈ WW := List.mem_filter.mpr ⟨wm_tables_1_1 _ (List.mem_of_getElem? (i := 222) rfl), rfl⟩
theorem wl_X5_96 : Cond.methodLink RX5 96 yX0_takeBehind ∈ WW := List.mem_filter.mpr ⟨wm_tables_1_1 _ (List.mem_of_getElem? (i := 223) rfl), rfl⟩
theorem wt_yX0_takeBehind : Cond.instanceMethod yX0_takeBehind ∈ WW := List.mem_filter.mpr ⟨wm_tables_1_1 _ (List.mem_of_getElem? (i := 224) rfl), rfl⟩
theorem ws_yX0_takeBehind : Cond.selects RX0 yX0_takeBehind yX0_takeBehind ∈ WW := List.mem_filter.mpr ⟨wm_tables_1_1 _ (List.mem_of_getElem? (i := 225) rfl), rfl⟩
theorem wk_yX0_takeBehind : Cond.code yX0_takeBehind cX0_takeBehind 3 none ∈ WW := List.mem_filter.mpr ⟨wm_tables_1_1 _ (List.mem_of_getElem? (i := 226) rfl), rfl⟩
theorem wl_X0_22 : Cond.methodLink RX0 22 yX0_assign ∈ WW := List.mem_filter.mpr ⟨wm_tables_1_1 _ (List.mem_of_getElem? (i := 227) rfl), rfl⟩
theorem wt_yX0_assign : Cond.instanceMethod yX0_assign ∈ WW := List.mem_filter.mpr ⟨wm_tables_1_1 _ (List.mem_of_getElem? (i := 228) rfl), rfl⟩
theorem ws_yX0_assign : Cond.selects RX0 yX0_assign yX0_assign ∈ WW := List.mem_filter.mpr ⟨wm_tables_1_1 _ (List.mem_of_getElem? (i := 229) rfl), rfl⟩
theorem wk_yX0_assign : Cond.code yX0_assign cX0_assign 5 none ∈ WW := List.mem_filter.mpr ⟨wm_tables_1_1 _ (List.mem_of_getElem? (i := 230) rfl), rfl⟩
theorem wl_X5_99 : Cond.methodLink RX5 99 yX0_assign ∈ WW := List.mem_filter.mpr ⟨wm_tables_1_1 _ (List.mem_of_getElem? (i := 231) rfl), rfl⟩
theorem wl_X5_103 : Cond.methodLink RX5 103 yX5_registerAt ∈ WW := List.mem_filter.mpr ⟨wm_tables_1_1 _ (List.mem_of_getElem? (i := 232) rfl), rfl⟩
theorem wz_yX5_registerAt : Cond.static yX5_registerAt ∈ WW := List.mem_filter.mpr ⟨wm_tables_1_1 _ (List.mem_of_getElem? (i := 233) rfl), rfl⟩
theorem wk_yX5_registerAt : Cond.code yX5_registerAt cX5_registerAt 2 (some .int) ∈ WW := List.mem_filter.mpr ⟨wm_tables_1_1 _ (List.mem_of_getElem? (i := 234) rfl), rfl⟩
theorem wl_X5_106 : Cond.methodLink RX5 106 yX1_hold ∈ WW := List.mem_filter.mpr ⟨wm_tables_1_1 _ (List.mem_of_getElem? (i := 235) rfl), rfl⟩
theorem wt_yX1_hold : Cond.instanceMethod yX1_hold ∈ WW := List.mem_filter.mpr ⟨wm_tables_1_1 _ (List.mem_of_getElem? (i := 236) rfl), rfl⟩
theorem ws_yX1_hold : Cond.selects RX1 yX1_hold yX1_hold ∈ WW := List.mem_filter.mpr ⟨wm_tables_1_1 _ (List.mem_of_getElem? (i := 237) rfl), rfl⟩
theorem wk_yX1_hold : Cond.code yX1_hold cX1_hold 3 (some .int) ∈ WW := List.mem_filter.mpr ⟨wm_tables_1_1 _ (List.mem_of_getElem? (i := 238) rfl), rfl⟩
theorem wl_L_23 : Cond.methodLink RL 23 yX5_move ∈ WW := List.mem_filter.mpr ⟨wm_tables_1_1 _ (List.mem_of_getElem? (i := 239) rfl), rfl⟩
theorem wt_yX5_move : Cond.instanceMethod yX5_move ∈ WW := List.mem_filter.mpr ⟨wm_tables_1_2 _ (List.mem_of_getElem? (i := 0) rfl), rfl⟩
theorem ws_yX5_move : Cond.selects RX5 yX5_move yX5_move ∈ WW := List.mem_filter.mpr ⟨wm_tables_1_2 _ (List.mem_of_getElem? (i := 1) rfl), rfl⟩
theorem wk_yX5_move : Cond.code yX5_move cX5_move 4 (some .int) ∈ WW := List.mem_filter.mpr ⟨wm_tables_1_2 _ (List.mem_of_getElem? (i := 2) rfl), rfl⟩
theorem wl_X5_122 : Cond.methodLink RX5 122 yX5_inRegister ∈ WW := List.mem_filter.mpr ⟨wm_tables_1_2 _ (List.mem_of_getElem? (i := 3) rfl), rfl⟩
theorem wt_yX5_inRegister : Cond.instanceMethod yX5_inRegister ∈ WW := List.mem_filter.mpr ⟨wm_tables_1_2 _ (List.mem_of_getElem? (i := 5) rfl), rfl⟩
theorem wk_yX5_inRegister : Cond.code yX5_inRegister cX5_inRegister 3 (some .int) ∈ WW := List.mem_filter.mpr ⟨wm_tables_1_2 _ (List.mem_of_getElem? (i := 6) rfl), rfl⟩
theorem wl_X5_148 : Cond.methodLink RX5 148 yX1_heldAt ∈ WW := List.mem_filter.mpr ⟨wm_tables_1_2 _ (List.mem_of_getElem? (i := 7) rfl), rfl⟩
theorem wt_yX1_heldAt : Cond.instanceMethod yX1_heldAt ∈ WW := List.mem_filter.mpr ⟨wm_tables_1_2 _ (List.mem_of_getElem? (i := 8) rfl), rfl⟩
theorem ws_yX1_heldAt : Cond.selects RX1 yX1_heldAt yX1_heldAt ∈ WW := List.mem_filter.mpr ⟨wm_tables_1_2 _ (List.mem_of_getElem? (i := 9) rfl), rfl⟩
theorem wk_yX1_heldAt : Cond.code yX1_heldAt cX1_heldAt 2 (some .int) ∈ WW := List.mem_filter.mpr ⟨wm_tables_1_2 _ (List.mem_of_getElem? (i := 10) rfl), rfl⟩
theorem wl_L_28 : Cond.methodLink RL 28 yX5_get ∈ WW := List.mem_filter.mpr ⟨wm_tables_1_2 _ (List.mem_of_getElem? (i := 11) rfl), rfl⟩
theorem wt_yX5_get : Cond.instanceMethod yX5_get ∈ WW := List.mem_filter.mpr ⟨wm_tables_1_2 _ (List.mem_of_getElem? (i := 12) rfl), rfl⟩
theorem ws_yX5_get : Cond.selects RX5 yX5_get yX5_get ∈ WW := List.mem_filter.mpr ⟨wm_tables_1_2 _ (List.mem_of_getElem? (i := 13) rfl), rfl⟩
theorem wk_yX5_get : Cond.code yX5_get cX5_get 8 (some .int) ∈ WW := List.mem_filter.mpr ⟨wm_tables_1_2 _ (List.mem_of_getElem? (i := 14) rfl), rfl⟩
theorem wl_X5_125 : Cond.methodLink RX5 125 yX5_refusalOfField ∈ WW := List.mem_filter.mpr ⟨wm_tables_1_2 _ (List.mem_of_getElem? (i := 15) rfl), rfl⟩
theorem wt_yX5_refusalOfField : Cond.instanceMethod yX5_refusalOfField ∈ WW := List.mem_filter.mpr ⟨wm_tables_1_2 _ (List.mem_of_getElem? (i := 17) rfl), rfl⟩
theorem wk_yX5_refusalOfField : Cond.code yX5_refusalOfField cX5_refusalOfField 3 (some .int) ∈ WW := List.mem_filter.mpr ⟨wm_tables_1_2 _ (List.mem_of_getElem? (i := 18) rfl), rfl⟩
theorem wl_X5_138 : Cond.methodLink RX5 138 yX4_hasField ∈ WW := List.mem_filter.mpr ⟨wm_tables_1_2 _ (List.mem_of_getElem? (i := 19) rfl), rfl⟩
theorem wt_yX4_hasField : Cond.instanceMethod yX4_hasField ∈ WW := List.mem_filter.mpr ⟨wm_tables_1_2 _ (List.mem_of_getElem? (i := 20) rfl), rfl⟩
theorem ws_yX4_hasField : Cond.selects RX4 yX4_hasField yX4_hasField ∈ WW := List.mem_filter.mpr ⟨wm_tables_1_2 _ (List.mem_of_getElem? (i := 21) rfl), rfl⟩
theorem wk_yX4_hasField : Cond.code yX4_hasField cX4_hasField 3 (some .boolean) ∈ WW := List.mem_filter.mpr ⟨wm_tables_1_2 _ (List.mem_of_getElem? (i := 22) rfl), rfl⟩
theorem wl_X5_141 : Cond.methodLink RX5 141 yX4_isFreed ∈ WW := List.mem_filter.mpr ⟨wm_tables_1_2 _ (List.mem_of_getElem? (i := 23) rfl), rfl⟩
theorem wl_X5_128 : Cond.methodLink RX5 128 yX4_inField ∈ WW := List.mem_filter.mpr ⟨wm_tables_1_2 _ (List.mem_of_getElem? (i := 24) rfl), rfl⟩
theorem wt_yX4_inField : Cond.instanceMethod yX4_inField ∈ WW := List.mem_filter.mpr ⟨wm_tables_1_2 _ (List.mem_of_getElem? (i := 25) rfl), rfl⟩
theorem ws_yX4_inField : Cond.selects RX4 yX4_inField yX4_inField ∈ WW := List.mem_filter.mpr ⟨wm_tables_1_2 _ (List.mem_of_getElem? (i := 26) rfl), rfl⟩
theorem wk_yX4_inField : Cond.code yX4_inField cX4_inField 3 (some .int) ∈ WW := List.mem_filter.mpr ⟨wm_tables_1_2 _ (List.mem_of_getElem? (i := 27) rfl), rfl⟩
theorem wl_X4_42 : Cond.methodLink RX4 42 yX4_hasField ∈ WW := List.mem_filter.mpr ⟨wm_tables_1_2 _ (List.mem_of_getElem? (i := 28) rfl), rfl⟩
theorem wl_X5_131 : Cond.methodLink RX5 131 yX5_note ∈ WW := List.mem_filter.mpr ⟨wm_tables_1_2 _ (List.mem_of_getElem? (i := 29) rfl), rfl⟩
theorem wt_yX5_note : Cond.instanceMethod yX5_note ∈ WW := List.mem_filter.mpr ⟨wm_tables_1_2 _ (List.mem_of_getElem? (i := 31) rfl), rfl⟩
theorem wk_yX5_note : Cond.code yX5_note cX5_note 2 none ∈ WW := List.mem_filter.mpr ⟨wm_tables_1_2 _ (List.mem_of_getElem? (i := 32) rfl), rfl⟩
theorem wl_X5_177 : Cond.methodLink RX5 177 yX5_shade ∈ WW := List.mem_filter.mpr ⟨wm_tables_1_2 _ (List.mem_of_getElem? (i := 33) rfl), rfl⟩
theorem wt_yX5_shade : Cond.instanceMethod yX5_shade ∈ WW := List.mem_filter.mpr ⟨wm_tables_1_2 _ (List.mem_of_getElem? (i := 35) rfl), rfl⟩
theorem wk_yX5_shade : Cond.code yX5_shade cX5_shade 2 none ∈ WW := List.mem_filter.mpr ⟨wm_tables_1_2 _ (List.mem_of_getElem? (i := 36) rfl), rfl⟩
theorem wl_X5_229 : Cond.methodLink RX5 229 yX4_isWhite ∈ WW := List.mem_filter.mpr ⟨wm_tables_1_2 _ (List.mem_of_getElem? (i := 37) rfl), rfl⟩
theorem wl_X5_214 : Cond.methodLink RX5 214 yX4_paint ∈ WW := List.mem_filter.mpr ⟨wm_tables_1_2 _ (List.mem_of_getElem? (i := 38) rfl), rfl⟩
theorem wt_yX4_paint : Cond.instanceMethod yX4_paint ∈ WW := List.mem_filter.mpr ⟨wm_tables_1_2 _ (List.mem_of_getElem? (i := 39) rfl), rfl⟩
theorem ws_yX4_paint : Cond.selects RX4 yX4_paint yX4_paint ∈ WW := List.mem_filter.mpr ⟨wm_tables_1_2 _ (List.mem_of_getElem? (i := 40) rfl), rfl⟩
theorem wk_yX4_paint : Cond.code yX4_paint cX4_paint 3 none ∈ WW := List.mem_filter.mpr ⟨wm_tables_1_2 _ (List.mem_of_getElem? (i := 41) rfl), rfl⟩
theorem wl_X5_241 : Cond.methodLink RX5 241 yX4_placeOf ∈ WW := List.mem_filter.mpr ⟨wm_tables_1_2 _ (List.mem_of_getElem? (i := 42) rfl), rfl⟩
theorem wt_yX4_placeOf : Cond.instanceMethod yX4_placeOf ∈ WW := List.mem_filter.mpr ⟨wm_tables_1_2 _ (List.mem_of_getElem? (i := 43) rfl), rfl⟩
theorem ws_yX4_placeOf : Cond.selects RX4 yX4_placeOf yX4_placeOf ∈ WW := List.mem_filter.mpr ⟨wm_tables_1_2 _ (List.mem_of_getElem? (i := 44) rfl), rfl⟩
theorem wk_yX4_placeOf : Cond.code yX4_placeOf cX4_placeOf 2 (some .int) ∈ WW := List.mem_filter.mpr ⟨wm_tables_1_2 _ (List.mem_of_getElem? (i := 45) rfl), rfl⟩
theorem wl_X5_244 : Cond.methodLink RX5 244 yX4_sizeOf ∈ WW := List.mem_filter.mpr ⟨wm_tables_1_2 _ (List.mem_of_getElem? (i := 46) rfl), rfl⟩
theorem wl_X5_247 : Cond.methodLink RX5 247 yX4_moveTo ∈ WW := List.mem_filter.mpr ⟨wm_tables_1_2 _ (List.mem_of_getElem? (i := 47) rfl), rfl⟩
theorem wt_yX4_moveTo : Cond.instanceMethod yX4_moveTo ∈ WW := List.mem_filter.mpr ⟨wm_tables_1_2 _ (List.mem_of_getElem? (i := 48) rfl), rfl⟩
theorem ws_yX4_moveTo : Cond.selects RX4 yX4_moveTo yX4_moveTo ∈ WW := List.mem_filter.mpr ⟨wm_tables_1_2 _ (List.mem_of_getElem? (i := 49) rfl), rfl⟩
theorem wk_yX4_moveTo : Cond.code yX4_moveTo cX4_moveTo 3 none ∈ WW := List.mem_filter.mpr ⟨wm_tables_1_2 _ (List.mem_of_getElem? (i := 50) rfl), rfl⟩
theorem wl_L_33 : Cond.methodLink RL 33 yX5_put ∈ WW := List.mem_filter.mpr ⟨wm_tables_1_2 _ (List.mem_of_getElem? (i := 51) rfl), rfl⟩
theorem wt_yX5_put : Cond.instanceMethod yX5_put ∈ WW := List.mem_filter.mpr ⟨wm_tables_1_2 _ (List.mem_of_getElem? (i := 52) rfl), rfl⟩
theorem ws_yX5_put : Cond.selects RX5 yX5_put yX5_put ∈ WW := List.mem_filter.mpr ⟨wm_tables_1_2 _ (List.mem_of_getElem? (i := 53) rfl), rfl⟩
theorem wk_yX5_put : Cond.code yX5_put cX5_put 8 (some .int) ∈ WW := List.mem_filter.mpr ⟨wm_tables_1_2 _ (List.mem_of_getElem? (i := 54) rfl), rfl⟩
theorem wl_X5_135 : Cond.methodLink RX5 135 yX4_setField ∈ WW := List.mem_filter.mpr ⟨wm_tables_1_2 _ (List.mem_of_getElem? (i := 55) rfl), rfl⟩
theorem wt_yX4_setField : Cond.instanceMethod yX4_setField ∈ WW := List.mem_filter.mpr ⟨wm_tables_1_2 _ (List.mem_of_getElem? (i := 56) rfl), rfl⟩
theorem ws_yX4_setField : Cond.selects RX4 yX4_setField yX4_setField ∈ WW := List.mem_filter.mpr ⟨wm_tables_1_2 _ (List.mem_of_getElem? (i := 57) rfl), rfl⟩
theorem wk_yX4_setField : Cond.code yX4_setField cX4_setField 4 none ∈ WW := List.mem_filter.mpr ⟨wm_tables_1_2 _ (List.mem_of_getElem? (i := 58) rfl), rfl⟩
theorem wl_L_37 : Cond.methodLink RL 37 yX5_drop ∈ WW := List.mem_filter.mpr ⟨wm_tables_1_2 _ (List.mem_of_getElem? (i := 59) rfl), rfl⟩
theorem wt_yX5_drop : Cond.instanceMethod yX5_drop ∈ WW := List.mem_filter.mpr ⟨wm_tables_1_2 _ (List.mem_of_getElem? (i := 60) rfl), rfl⟩
theorem ws_yX5_drop : Cond.selects RX5 yX5_drop yX5_drop ∈ WW := List.mem_filter.mpr ⟨wm_tables_1_2 _ (List.mem_of_getElem? (i := 61) rfl), rfl⟩
theorem wk_yX5_drop : Cond.code yX5_drop cX5_drop 4 (some .int) ∈ WW := List.mem_filter.mpr ⟨wm_tables_1_2 _ (List.mem_of_getElem? (i := 62) rfl), rfl⟩
theorem wl_L_41 : Cond.methodLink RL 41 yX5_store ∈ WW := List.mem_filter.mpr ⟨wm_tables_1_2 _ (List.mem_of_getElem? (i := 63) rfl), rfl⟩
theorem wt_yX5_store : Cond.instanceMethod yX5_store ∈ WW := List.mem_filter.mpr ⟨wm_tables_1_2 _ (List.mem_of_getElem? (i := 64) rfl), rfl⟩
theorem ws_yX5_store : Cond.selects RX5 yX5_store yX5_store ∈ WW := List.mem_filter.mpr ⟨wm_tables_1_2 _ (List.mem_of_getElem? (i := 65) rfl), rfl⟩
theorem wk_yX5_store : Cond.code yX5_store cX5_store 5 (some .int) ∈ WW := List.mem_filter.mpr ⟨wm_tables_1_2 _ (List.mem_of_getElem? (i := 66) rfl), rfl⟩
theorem wl_X5_145 : Cond.methodLink RX5 145 yX5_isSlot ∈ WW := List.mem_filter.mpr ⟨wm_tables_1_2 _ (List.mem_of_getElem? (i := 67) rfl), rfl⟩
theorem wz_yX5_isSlot : Cond.static yX5_isSlot ∈ WW := List.mem_filter.mpr ⟨wm_tables_1_2 _ (List.mem_of_getElem? (i := 68) rfl), rfl⟩
theorem wk_yX5_isSlot : Cond.code yX5_isSlot cX5_isSlot 1 (some .boolean) ∈ WW := List.mem_filter.mpr ⟨wm_tables_1_2 _ (List.mem_of_getElem? (i := 69) rfl), rfl⟩
theorem wl_L_45 : Cond.methodLink RL 45 yX5_load ∈ WW := List.mem_filter.mpr ⟨wm_tables_1_2 _ (List.mem_of_getElem? (i := 70) rfl), rfl⟩
theorem wt_yX5_load : Cond.instanceMethod yX5_load ∈ WW := List.mem_filter.mpr ⟨wm_tables_1_2 _ (List.mem_of_getElem? (i := 71) rfl), rfl⟩
theorem ws_yX5_load : Cond.selects RX5 yX5_load yX5_load ∈ WW := List.mem_filter.mpr ⟨wm_tables_1_2 _ (List.mem_of_getElem? (i := 72) rfl), rfl⟩
theorem wk_yX5_load : Cond.code yX5_load cX5_load 4 (some .int) ∈ WW := List.mem_filter.mpr ⟨wm_tables_1_2 _ (List.mem_of_getElem? (i := 73) rfl), rfl⟩
theorem wl_L_49 : Cond.methodLink RL 49 yX5_same ∈ WW := List.mem_filter.mpr ⟨wm_tables_1_2 _ (List.mem_of_getElem? (i := 74) rfl), rfl⟩
theorem wt_yX5_same : Cond.instanceMethod yX5_same ∈ WW := List.mem_filter.mpr ⟨wm_tables_1_2 _ (List.mem_of_getElem? (i := 75) rfl), rfl⟩
theorem ws_yX5_same : Cond.selects RX5 yX5_same yX5_same ∈ WW := List.mem_filter.mpr ⟨wm_tables_1_2 _ (List.mem_of_getElem? (i := 76) rfl), rfl⟩
theorem wk_yX5_same : Cond.code yX5_same cX5_same 5 (some .int) ∈ WW := List.mem_filter.mpr ⟨wm_tables_1_2 _ (List.mem_of_getElem? (i := 77) rfl), rfl⟩
theorem wl_L_53 : Cond.methodLink RL 53 yX5_weak ∈ WW := List.mem_filter.mpr ⟨wm_tables_1_2 _ (List.mem_of_getElem? (i := 78) rfl), rfl⟩
theorem wt_yX5_weak : Cond.instanceMethod yX5_weak ∈ WW := List.mem_filter.mpr ⟨wm_tables_1_2 _ (List.mem_of_getElem? (i := 79) rfl), rfl⟩
theorem ws_yX5_weak : Cond.selects RX5 yX5_weak yX5_weak ∈ WW := List.mem_filter.mpr ⟨wm_tables_1_2 _ (List.mem_of_getElem? (i := 80) rfl), rfl⟩
theorem wk_yX5_weak : Cond.code yX5_weak cX5_weak 5 (some .int) ∈ WW := List.mem_filter.mpr ⟨wm_tables_1_2 _ (List.mem_of_getElem? (i := 81) rfl), rfl⟩
theorem wl_X5_151 : Cond.methodLink RX5 151 yX5_isWeakHolder ∈ WW := List.mem_filter.mpr ⟨wm_tables_1_2 _ (List.mem_of_getElem? (i := 82) rfl), rfl⟩
theorem wz_yX5_isWeakHolder : Cond.static yX5_isWeakHolder ∈ WW := List.mem_filter.mpr ⟨wm_tables_1_2 _ (List.mem_of_getElem? (i := 83) rfl), rfl⟩
theorem wk_yX5_isWeakHolder : Cond.code yX5_isWeakHolder cX5_isWeakHolder 1 (some .boolean) ∈ WW := List.mem_filter.mpr ⟨wm_tables_1_2 _ (List.mem_of_getElem? (i := 84) rfl), rfl⟩
theorem wl_X5_154 : Cond.methodLink RX5 154 yX1_name ∈ WW := List.mem_filter.mpr ⟨wm_tables_1_2 _ (List.mem_of_getElem? (i := 85) rfl), rfl⟩
theorem wt_yX1_name : Cond.instanceMethod yX1_name ∈ WW := List.mem_filter.mpr ⟨wm_tables_1_2 _ (List.mem_of_getElem? (i := 86) rfl), rfl⟩
theorem ws_yX1_name : Cond.selects RX1 yX1_name yX1_name ∈ WW := List.mem_filter.mpr ⟨wm_tables_1_2 _ (List.mem_of_getElem? (i := 87) rfl), rfl⟩
theorem wk_yX1_name : Cond.code yX1_name cX1_name 3 none ∈ WW := List.mem_filter.mpr ⟨wm_tables_1_2 _ (List.mem_of_getElem? (i := 88) rfl), rfl⟩
theorem wl_L_57 : Cond.methodLink RL 57 yX5_strong ∈ WW := List.mem_filter.mpr ⟨wm_tables_1_2 _ (List.mem_of_getElem? (i := 90) rfl), rfl⟩
theorem wt_yX5_strong : Cond.instanceMethod yX5_strong ∈ WW := List.mem_filter.mpr ⟨wm_tables_1_2 _ (List.mem_of_getElem? (i := 91) rfl), rfl⟩
theorem ws_yX5_strong : Cond.selects RX5 yX5_strong yX5_strong ∈ WW := List.mem_filter.mpr ⟨wm_tables_1_2 _ (List.mem_of_getElem? (i := 92) rfl), rfl⟩
theorem wk_yX5_strong : Cond.code yX5_strong cX5_strong 5 (some .int) ∈ WW := List.mem_filter.mpr ⟨wm_tables_1_2 _ (List.mem_of_getElem? (i := 93) rfl), rfl⟩
theorem wl_X5_157 : Cond.methodLink RX5 157 yX1_namedBy ∈ WW := List.mem_filter.mpr ⟨wm_tables_1_2 _ (List.mem_of_getElem? (i := 94) rfl), rfl⟩
theorem wt_yX1_namedBy : Cond.instanceMethod yX1_namedBy ∈ WW := List.mem_filter.mpr ⟨wm_tables_1_2 _ (List.mem_of_getElem? (i := 95) rfl), rfl⟩
theorem ws_yX1_namedBy : Cond.selects RX1 yX1_namedBy yX1_namedBy ∈ WW := List.mem_filter.mpr ⟨wm_tables_1_2 _ (List.mem_of_getElem? (i := 96) rfl), rfl⟩
theorem wk_yX1_namedBy : Cond.code yX1_namedBy cX1_namedBy 2 (some .int) ∈ WW := List.mem_filter.mpr ⟨wm_tables_1_2 _ (List.mem_of_getElem? (i := 97) rfl), rfl⟩
theorem wl_X5_160 : Cond.methodLink RX5 160 yX5_noteWeakRead ∈ WW := List.mem_filter.mpr ⟨wm_tables_1_2 _ (List.mem_of_getElem? (i := 98) rfl), rfl⟩
theorem wt_yX5_noteWeakRead : Cond.instanceMethod yX5_noteWeakRead ∈ WW := List.mem_filter.mpr ⟨wm_tables_1_2 _ (List.mem_of_getElem? (i := 100) rfl), rfl⟩
theorem wk_yX5_noteWeakRead : Cond.code yX5_noteWeakRead cX5_noteWeakRead 2 none ∈ WW := List.mem_filter.mpr ⟨wm_tables_1_2 _ (List.mem_of_getElem? (i := 101) rfl), rfl⟩
theorem wl_L_61 : Cond.methodLink RL 61 yX5_pair ∈ WW := List.mem_filter.mpr ⟨wm_tables_1_2 _ (List.mem_of_getElem? (i := 102) rfl), rfl⟩
theorem wt_yX5_pair : Cond.instanceMethod yX5_pair ∈ WW := List.mem_filter.mpr ⟨wm_tables_1_2 _ (List.mem_of_getElem? (i := 103) rfl), rfl⟩
theorem ws_yX5_pair : Cond.selects RX5 yX5_pair yX5_pair ∈ WW := List.mem_filter.mpr ⟨wm_tables_1_2 _ (List.mem_of_getElem? (i := 104) rfl), rfl⟩
theorem wk_yX5_pair : Cond.code yX5_pair cX5_pair 6 (some .int) ∈ WW := List.mem_filter.mpr ⟨wm_tables_1_2 _ (List.mem_of_getElem? (i := 105) rfl), rfl⟩
theorem wl_X5_163 : Cond.methodLink RX5 163 yX2_add ∈ WW := List.mem_filter.mpr ⟨wm_tables_1_2 _ (List.mem_of_getElem? (i := 106) rfl), rfl⟩
theorem wt_yX2_add : Cond.instanceMethod yX2_add ∈ WW := List.mem_filter.mpr ⟨wm_tables_1_2 _ (List.mem_of_getElem? (i := 107) rfl), rfl⟩
theorem ws_yX2_add : Cond.selects RX2 yX2_add yX2_add ∈ WW := List.mem_filter.mpr ⟨wm_tables_1_2 _ (List.mem_of_getElem? (i := 108) rfl), rfl⟩
theorem wk_yX2_add : Cond.code yX2_add cX2_add 3 (some .int) ∈ WW := List.mem_filter.mpr ⟨wm_tables_1_2 _ (List.mem_of_getElem? (i := 109) rfl), rfl⟩
theorem wl_L_65 : Cond.methodLink RL 65 yX5_value ∈ WW := List.mem_filter.mpr ⟨wm_tables_1_2 _ (List.mem_of_getElem? (i := 110) rfl), rfl⟩
theorem wt_yX5_value : Cond.instanceMethod yX5_value ∈ WW := List.mem_filter.mpr ⟨wm_tables_1_2 _ (List.mem_of_getElem? (i := 111) rfl), rfl⟩
theorem ws_yX5_value : Cond.selects RX5 yX5_value yX5_value ∈ WW := List.mem_filter.mpr ⟨wm_tables_1_2 _ (List.mem_of_getElem? (i := 112) rfl), rfl⟩
theorem wk_yX5_value : Cond.code yX5_value cX5_value 5 (some .int) ∈ WW := List.mem_filter.mpr ⟨wm_tables_1_2 _ (List.mem_of_getElem? (i := 113) rfl), rfl⟩
theorem wl_X5_165 : Cond.methodLink RX5 165 yX2_isPair ∈ WW := List.mem_filter.mpr ⟨wm_tables_1_2 _ (List.mem_of_getElem? (i := 114) rfl), rfl⟩
theorem wt_yX2_isPair : Cond.instanceMethod yX2_isPair ∈ WW := List.mem_filter.mpr ⟨wm_tables_1_2 _ (List.mem_of_getElem? (i := 115) rfl), rfl⟩
theorem ws_yX2_isPair : Cond.selects RX2 yX2_isPair yX2_isPair ∈ WW := List.mem_filter.mpr ⟨wm_tables_1_2 _ (List.mem_of_getElem? (i := 116) rfl), rfl⟩
theorem wk_yX2_isPair : Cond.code yX2_isPair cX2_isPair 2 (some .boolean) ∈ WW := List.mem_filter.mpr ⟨wm_tables_1_2 _ (List.mem_of_getElem? (i := 117) rfl), rfl⟩
theorem wl_X5_168 : Cond.methodLink RX5 168 yX2_valueOf ∈ WW := List.mem_filter.mpr ⟨wm_tables_1_2 _ (List.mem_of_getElem? (i := 118) rfl), rfl⟩
theorem wt_yX2_valueOf : Cond.instanceMethod yX2_valueOf ∈ WW := List.mem_filter.mpr ⟨wm_tables_1_2 _ (List.mem_of_getElem? (i := 119) rfl), rfl⟩
theorem ws_yX2_valueOf : Cond.selects RX2 yX2_valueOf yX2_valueOf ∈ WW := List.mem_filter.mpr ⟨wm_tables_1_2 _ (List.mem_of_getElem? (i := 120) rfl), rfl⟩
theorem wk_yX2_valueOf : Cond.code yX2_valueOf cX2_valueOf 2 (some .int) ∈ WW := List.mem_filter.mpr ⟨wm_tables_1_2 _ (List.mem_of_getElem? (i := 121) rfl), rfl⟩
theorem wl_X2_22 : Cond.methodLink RX2 22 yX2_isPair ∈ WW := List.mem_filter.mpr ⟨wm_tables_1_2 _ (List.mem_of_getElem? (i := 122) rfl), rfl⟩
theorem wl_L_69 : Cond.methodLink RL 69 yX5_wish ∈ WW := List.mem_filter.mpr ⟨wm_tables_1_2 _ (List.mem_of_getElem? (i := 123) rfl), rfl⟩
theorem wt_yX5_wish : Cond.instanceMethod yX5_wish ∈ WW := List.mem_filter.mpr ⟨wm_tables_1_2 _ (List.mem_of_getElem? (i := 124) rfl), rfl⟩
theorem ws_yX5_wish : Cond.selects RX5 yX5_wish yX5_wish ∈ WW := List.mem_filter.mpr ⟨wm_tables_1_2 _ (List.mem_of_getElem? (i := 125) rfl), rfl⟩
theorem wk_yX5_wish : Cond.code yX5_wish cX5_wish 3 (some .int) ∈ WW := List.mem_filter.mpr ⟨wm_tables_1_2 _ (List.mem_of_getElem? (i := 126) rfl), rfl⟩
theorem wl_X5_174 : Cond.methodLink RX5 174 yX1_takeFirstWish ∈ WW := List.mem_filter.mpr ⟨wm_tables_1_2 _ (List.mem_of_getElem? (i := 127) rfl), rfl⟩
theorem wt_yX1_takeFirstWish : Cond.instanceMethod yX1_takeFirstWish ∈ WW := List.mem_filter.mpr ⟨wm_tables_1_2 _ (List.mem_of_getElem? (i := 128) rfl), rfl⟩
theorem ws_yX1_takeFirstWish : Cond.selects RX1 yX1_takeFirstWish yX1_takeFirstWish ∈ WW := List.mem_filter.mpr ⟨wm_tables_1_2 _ (List.mem_of_getElem? (i := 129) rfl), rfl⟩
theorem wk_yX1_takeFirstWish : Cond.code yX1_takeFirstWish cX1_takeFirstWish 3 (some .int) ∈ WW := List.mem_filter.mpr ⟨wm_tables_1_2 _ (List.mem_of_getElem? (i := 130) rfl), rfl⟩
theorem wl_X1_26 : Cond.methodLink RX1 26 yX1_heldAt ∈ WW := List.mem_filter.mpr ⟨wm_tables_1_2 _ (List.mem_of_getElem? (i := 131) rfl), rfl⟩
theorem wl_L_73 : Cond.methodLink RL 73 yX5_begin ∈ WW := List.mem_filter.mpr ⟨wm_tables_1_2 _ (List.mem_of_getElem? (i := 132) rfl), rfl⟩
theorem wt_yX5_begin : Cond.instanceMethod yX5_begin ∈ WW := List.mem_filter.mpr ⟨wm_tables_1_2 _ (List.mem_of_getElem? (i := 133) rfl), rfl⟩
theorem ws_yX5_begin : Cond.selects RX5 yX5_begin yX5_begin ∈ WW := List.mem_filter.mpr ⟨wm_tables_1_2 _ (List.mem_of_getElem? (i := 134) rfl), rfl⟩
theorem wk_yX5_begin : Cond.code yX5_begin cX5_begin 2 (some .int) ∈ WW := List.mem_filter.mpr ⟨wm_tables_1_2 _ (List.mem_of_getElem? (i := 135) rfl), rfl⟩
theorem wl_X5_180 : Cond.methodLink RX5 180 yX5_startRound ∈ WW := List.mem_filter.mpr ⟨wm_tables_1_2 _ (List.mem_of_getElem? (i := 136) rfl), rfl⟩
theorem wt_yX5_startRound : Cond.instanceMethod yX5_startRound ∈ WW := List.mem_filter.mpr ⟨wm_tables_1_2 _ (List.mem_of_getElem? (i := 138) rfl), rfl⟩
theorem wk_yX5_startRound : Cond.code yX5_startRound cX5_startRound 1 none ∈ WW := List.mem_filter.mpr ⟨wm_tables_1_2 _ (List.mem_of_getElem? (i := 139) rfl), rfl⟩
theorem wl_X5_193 : Cond.methodLink RX5 193 yX4_whitenAll ∈ WW := List.mem_filter.mpr ⟨wm_tables_1_2 _ (List.mem_of_getElem? (i := 140) rfl), rfl⟩
theorem wt_yX4_whitenAll : Cond.instanceMethod yX4_whitenAll ∈ WW := List.mem_filter.mpr ⟨wm_tables_1_2 _ (List.mem_of_getElem? (i := 141) rfl), rfl⟩
theorem ws_yX4_whitenAll : Cond.selects RX4 yX4_whitenAll yX4_whitenAll ∈ WW := List.mem_filter.mpr ⟨wm_tables_1_2 _ (List.mem_of_getElem? (i := 142) rfl), rfl⟩
theorem wk_yX4_whitenAll : Cond.code yX4_whitenAll cX4_whitenAll 2 none ∈ WW := List.mem_filter.mpr ⟨wm_tables_1_2 _ (List.mem_of_getElem? (i := 143) rfl), rfl⟩
theorem wl_X4_49 : Cond.methodLink RX4 49 yX4_paint ∈ WW := List.mem_filter.mpr ⟨wm_tables_1_2 _ (List.mem_of_getElem? (i := 144) rfl), rfl⟩
theorem wl_X5_196 : Cond.methodLink RX5 196 yX0_changeHalves ∈ WW := List.mem_filter.mpr ⟨wm_tables_1_2 _ (List.mem_of_getElem? (i := 145) rfl), rfl⟩
theorem wt_yX0_changeHalves : Cond.instanceMethod yX0_changeHalves ∈ WW := List.mem_filter.mpr ⟨wm_tables_1_2 _ (List.mem_of_getElem? (i := 146) rfl), rfl⟩
theorem ws_yX0_changeHalves : Cond.selects RX0 yX0_changeHalves yX0_changeHalves ∈ WW := List.mem_filter.mpr ⟨wm_tables_1_2 _ (List.mem_of_getElem? (i := 147) rfl), rfl⟩
theorem wk_yX0_changeHalves : Cond.code yX0_changeHalves cX0_changeHalves 1 none ∈ WW := List.mem_filter.mpr ⟨wm_tables_1_2 _ (List.mem_of_getElem? (i := 148) rfl), rfl⟩
theorem wl_X5_199 : Cond.methodLink RX5 199 yX5_shadeHeld ∈ WW := List.mem_filter.mpr ⟨wm_tables_1_2 _ (List.mem_of_getElem? (i := 149) rfl), rfl⟩
theorem wt_yX5_shadeHeld : Cond.instanceMethod yX5_shadeHeld ∈ WW := List.mem_filter.mpr ⟨wm_tables_1_2 _ (List.mem_of_getElem? (i := 151) rfl), rfl⟩
theorem wk_yX5_shadeHeld : Cond.code yX5_shadeHeld cX5_shadeHeld 2 none ∈ WW := List.mem_filter.mpr ⟨wm_tables_1_2 _ (List.mem_of_getElem? (i := 152) rfl), rfl⟩
theorem wl_X5_183 : Cond.methodLink RX5 183 yX4_countGray ∈ WW := List.mem_filter.mpr ⟨wm_tables_1_2 _ (List.mem_of_getElem? (i := 153) rfl), rfl⟩
theorem wt_yX4_countGray : Cond.instanceMethod yX4_countGray ∈ WW := List.mem_filter.mpr ⟨wm_tables_1_2 _ (List.mem_of_getElem? (i := 154) rfl), rfl⟩
theorem ws_yX4_countGray : Cond.selects RX4 yX4_countGray yX4_countGray ∈ WW := List.mem_filter.mpr ⟨wm_tables_1_2 _ (List.mem_of_getElem? (i := 155) rfl), rfl⟩
theorem wk_yX4_countGray : Cond.code yX4_countGray cX4_countGray 3 (some .int) ∈ WW := List.mem_filter.mpr ⟨wm_tables_1_2 _ (List.mem_of_getElem? (i := 156) rfl), rfl⟩
theorem wl_X4_53 : Cond.methodLink RX4 53 yX4_colourOf ∈ WW := List.mem_filter.mpr ⟨wm_tables_1_2 _ (List.mem_of_getElem? (i := 157) rfl), rfl⟩
theorem wt_yX4_colourOf : Cond.instanceMethod yX4_colourOf ∈ WW := List.mem_filter.mpr ⟨wm_tables_1_2 _ (List.mem_of_getElem? (i := 158) rfl), rfl⟩
theorem ws_yX4_colourOf : Cond.selects RX4 yX4_colourOf yX4_colourOf ∈ WW := List.mem_filter.mpr ⟨wm_tables_1_2 _ (List.mem_of_getElem? (i := 159) rfl), rfl⟩
theorem wk_yX4_colourOf : Cond.code yX4_colourOf cX4_colourOf 2 (some .int) ∈ WW := List.mem_filter.mpr ⟨wm_tables_1_2 _ (List.mem_of_getElem? (i := 160) rfl), rfl⟩
theorem wl_X5_186 : Cond.methodLink RX5 186 yX4_countNotFreed ∈ WW := List.mem_filter.mpr ⟨wm_tables_1_2 _ (List.mem_of_getElem? (i := 161) rfl), rfl⟩
theorem wt_yX4_countNotFreed : Cond.instanceMethod yX4_countNotFreed ∈ WW := List.mem_filter.mpr ⟨wm_tables_1_2 _ (List.mem_of_getElem? (i := 162) rfl), rfl⟩
theorem ws_yX4_countNotFreed : Cond.selects RX4 yX4_countNotFreed yX4_countNotFreed ∈ WW := List.mem_filter.mpr ⟨wm_tables_1_2 _ (List.mem_of_getElem? (i := 163) rfl), rfl⟩
theorem wk_yX4_countNotFreed : Cond.code yX4_countNotFreed cX4_countNotFreed 3 (some .int) ∈ WW := List.mem_filter.mpr ⟨wm_tables_1_2 _ (List.mem_of_getElem? (i := 164) rfl), rfl⟩
theorem wv_X5_189 : Cond.constant RX5 189 (1000000) ∈ WW := List.mem_filter.mpr ⟨wm_tables_1_2 _ (List.mem_of_getElem? (i := 165) rfl), rfl⟩
theorem wl_X5_190 : Cond.methodLink RX5 190 yX5_takeSteps ∈ WW := List.mem_filter.mpr ⟨wm_tables_1_2 _ (List.mem_of_getElem? (i := 166) rfl), rfl⟩
theorem wt_yX5_takeSteps : Cond.instanceMethod yX5_takeSteps ∈ WW := List.mem_filter.mpr ⟨wm_tables_1_2 _ (List.mem_of_getElem? (i := 168) rfl), rfl⟩
theorem wk_yX5_takeSteps : Cond.code yX5_takeSteps cX5_takeSteps 3 (some .int) ∈ WW := List.mem_filter.mpr ⟨wm_tables_1_2 _ (List.mem_of_getElem? (i := 169) rfl), rfl⟩
theorem wl_X5_202 : Cond.methodLink RX5 202 yX5_markStep ∈ WW := List.mem_filter.mpr ⟨wm_tables_1_2 _ (List.mem_of_getElem? (i := 170) rfl), rfl⟩
theorem wt_yX5_markStep : Cond.instanceMethod yX5_markStep ∈ WW := List.mem_filter.mpr ⟨wm_tables_1_2 _ (List.mem_of_getElem? (i := 172) rfl), rfl⟩
theorem wk_yX5_markStep : Cond.code yX5_markStep cX5_markStep 3 none ∈ WW := List.mem_filter.mpr ⟨wm_tables_1_2 _ (List.mem_of_getElem? (i := 173) rfl), rfl⟩
theorem wl_X5_208 : Cond.methodLink RX5 208 yX4_leastGray ∈ WW := List.mem_filter.mpr ⟨wm_tables_1_2 _ (List.mem_of_getElem? (i := 174) rfl), rfl⟩
theorem wt_yX4_leastGray : Cond.instanceMethod yX4_leastGray ∈ WW := List.mem_filter.mpr ⟨wm_tables_1_2 _ (List.mem_of_getElem? (i := 175) rfl), rfl⟩
theorem ws_yX4_leastGray : Cond.selects RX4 yX4_leastGray yX4_leastGray ∈ WW := List.mem_filter.mpr ⟨wm_tables_1_2 _ (List.mem_of_getElem? (i := 176) rfl), rfl⟩
theorem wk_yX4_leastGray : Cond.code yX4_leastGray cX4_leastGray 2 (some .int) ∈ WW := List.mem_filter.mpr ⟨wm_tables_1_2 _ (List.mem_of_getElem? (i := 177) rfl), rfl⟩
theorem wl_X5_211 : Cond.methodLink RX5 211 yX5_shadeFieldsOf ∈ WW := List.mem_filter.mpr ⟨wm_tables_1_2 _ (List.mem_of_getElem? (i := 178) rfl), rfl⟩
theorem wt_yX5_shadeFieldsOf : Cond.instanceMethod yX5_shadeFieldsOf ∈ WW := List.mem_filter.mpr ⟨wm_tables_1_2 _ (List.mem_of_getElem? (i := 180) rfl), rfl⟩
theorem wk_yX5_shadeFieldsOf : Cond.code yX5_shadeFieldsOf cX5_shadeFieldsOf 3 none ∈ WW := List.mem_filter.mpr ⟨wm_tables_1_2 _ (List.mem_of_getElem? (i := 181) rfl), rfl⟩
theorem wl_X5_217 : Cond.methodLink RX5 217 yX5_shadeValues ∈ WW := List.mem_filter.mpr ⟨wm_tables_1_2 _ (List.mem_of_getElem? (i := 182) rfl), rfl⟩
theorem wt_yX5_shadeValues : Cond.instanceMethod yX5_shadeValues ∈ WW := List.mem_filter.mpr ⟨wm_tables_1_2 _ (List.mem_of_getElem? (i := 184) rfl), rfl⟩
theorem wk_yX5_shadeValues : Cond.code yX5_shadeValues cX5_shadeValues 3 none ∈ WW := List.mem_filter.mpr ⟨wm_tables_1_2 _ (List.mem_of_getElem? (i := 185) rfl), rfl⟩
theorem wl_X5_226 : Cond.methodLink RX5 226 yX2_keyOf ∈ WW := List.mem_filter.mpr ⟨wm_tables_1_2 _ (List.mem_of_getElem? (i := 186) rfl), rfl⟩
theorem wt_yX2_keyOf : Cond.instanceMethod yX2_keyOf ∈ WW := List.mem_filter.mpr ⟨wm_tables_1_2 _ (List.mem_of_getElem? (i := 187) rfl), rfl⟩
theorem ws_yX2_keyOf : Cond.selects RX2 yX2_keyOf yX2_keyOf ∈ WW := List.mem_filter.mpr ⟨wm_tables_1_2 _ (List.mem_of_getElem? (i := 188) rfl), rfl⟩
theorem wk_yX2_keyOf : Cond.code yX2_keyOf cX2_keyOf 2 (some .int) ∈ WW := List.mem_filter.mpr ⟨wm_tables_1_2 _ (List.mem_of_getElem? (i := 189) rfl), rfl⟩
theorem wl_X5_220 : Cond.methodLink RX5 220 yX5_grantWishes ∈ WW := List.mem_filter.mpr ⟨wm_tables_1_2 _ (List.mem_of_getElem? (i := 190) rfl), rfl⟩
theorem wt_yX5_grantWishes : Cond.instanceMethod yX5_grantWishes ∈ WW := List.mem_filter.mpr ⟨wm_tables_1_2 _ (List.mem_of_getElem? (i := 192) rfl), rfl⟩
theorem wk_yX5_grantWishes : Cond.code yX5_grantWishes cX5_grantWishes 2 none ∈ WW := List.mem_filter.mpr ⟨wm_tables_1_2 _ (List.mem_of_getElem? (i := 193) rfl), rfl⟩
theorem wl_X5_232 : Cond.methodLink RX5 232 yX4_hasWish ∈ WW := List.mem_filter.mpr ⟨wm_tables_1_2 _ (List.mem_of_getElem? (i := 194) rfl), rfl⟩
theorem wt_yX4_hasWish : Cond.instanceMethod yX4_hasWish ∈ WW := List.mem_filter.mpr ⟨wm_tables_1_2 _ (List.mem_of_getElem? (i := 195) rfl), rfl⟩
theorem ws_yX4_hasWish : Cond.selects RX4 yX4_hasWish yX4_hasWish ∈ WW := List.mem_filter.mpr ⟨wm_tables_1_2 _ (List.mem_of_getElem? (i := 196) rfl), rfl⟩
theorem wk_yX4_hasWish : Cond.code yX4_hasWish cX4_hasWish 2 (some .boolean) ∈ WW := List.mem_filter.mpr ⟨wm_tables_1_2 _ (List.mem_of_getElem? (i := 197) rfl), rfl⟩
theorem wl_X5_235 : Cond.methodLink RX5 235 yX4_endWish ∈ WW := List.mem_filter.mpr ⟨wm_tables_1_2 _ (List.mem_of_getElem? (i := 198) rfl), rfl⟩
theorem wt_yX4_endWish : Cond.instanceMethod yX4_endWish ∈ WW := List.mem_filter.mpr ⟨wm_tables_1_2 _ (List.mem_of_getElem? (i := 199) rfl), rfl⟩
theorem ws_yX4_endWish : Cond.selects RX4 yX4_endWish yX4_endWish ∈ WW := List.mem_filter.mpr ⟨wm_tables_1_2 _ (List.mem_of_getElem? (i := 200) rfl), rfl⟩
theorem wk_yX4_endWish : Cond.code yX4_endWish cX4_endWish 2 none ∈ WW := List.mem_filter.mpr ⟨wm_tables_1_2 _ (List.mem_of_getElem? (i := 201) rfl), rfl⟩
theorem wl_X5_238 : Cond.methodLink RX5 238 yX1_addWish ∈ WW := List.mem_filter.mpr ⟨wm_tables_1_2 _ (List.mem_of_getElem? (i := 202) rfl), rfl⟩
theorem wt_yX1_addWish : Cond.instanceMethod yX1_addWish ∈ WW := List.mem_filter.mpr ⟨wm_tables_1_2 _ (List.mem_of_getElem? (i := 203) rfl), rfl⟩
theorem ws_yX1_addWish : Cond.selects RX1 yX1_addWish yX1_addWish ∈ WW := List.mem_filter.mpr ⟨wm_tables_1_2 _ (List.mem_of_getElem? (i := 204) rfl), rfl⟩
theorem wk_yX1_addWish : Cond.code yX1_addWish cX1_addWish 2 none ∈ WW := List.mem_filter.mpr ⟨wm_tables_1_2 _ (List.mem_of_getElem? (i := 205) rfl), rfl⟩
theorem wl_X5_223 : Cond.methodLink RX5 223 yX5_endMarking ∈ WW := List.mem_filter.mpr ⟨wm_tables_1_2 _ (List.mem_of_getElem? (i := 206) rfl), rfl⟩
theorem wt_yX5_endMarking : Cond.instanceMethod yX5_endMarking ∈ WW := List.mem_filter.mpr ⟨wm_tables_1_2 _ (List.mem_of_getElem? (i := 208) rfl), rfl⟩
theorem wk_yX5_endMarking : Cond.code yX5_endMarking cX5_endMarking 2 none ∈ WW := List.mem_filter.mpr ⟨wm_tables_1_2 _ (List.mem_of_getElem? (i := 209) rfl), rfl⟩
theorem wl_X5_250 : Cond.methodLink RX5 250 yX2_end ∈ WW := List.mem_filter.mpr ⟨wm_tables_1_2 _ (List.mem_of_getElem? (i := 210) rfl), rfl⟩
theorem wt_yX2_end : Cond.instanceMethod yX2_end ∈ WW := List.mem_filter.mpr ⟨wm_tables_1_2 _ (List.mem_of_getElem? (i := 211) rfl), rfl⟩
theorem ws_yX2_end : Cond.selects RX2 yX2_end yX2_end ∈ WW := List.mem_filter.mpr ⟨wm_tables_1_2 _ (List.mem_of_getElem? (i := 212) rfl), rfl⟩
theorem wk_yX2_end : Cond.code yX2_end cX2_end 2 none ∈ WW := List.mem_filter.mpr ⟨wm_tables_1_2 _ (List.mem_of_getElem? (i := 213) rfl), rfl⟩
theorem wl_X5_253 : Cond.methodLink RX5 253 yX5_freeIfWhite ∈ WW := List.mem_filter.mpr ⟨wm_tables_1_2 _ (List.mem_of_getElem? (i := 214) rfl), rfl⟩
theorem wt_yX5_freeIfWhite : Cond.instanceMethod yX5_freeIfWhite ∈ WW := List.mem_filter.mpr ⟨wm_tables_1_2 _ (List.mem_of_getElem? (i := 216) rfl), rfl⟩
theorem wk_yX5_freeIfWhite : Cond.code yX5_freeIfWhite cX5_freeIfWhite 2 none ∈ WW := List.mem_filter.mpr ⟨wm_tables_1_2 _ (List.mem_of_getElem? (i := 217) rfl), rfl⟩
theorem wl_X5_262 : Cond.methodLink RX5 262 yX4_free ∈ WW := List.mem_filter.mpr ⟨wm_tables_1_2 _ (List.mem_of_getElem? (i := 218) rfl), rfl⟩
theorem wt_yX4_free : Cond.instanceMethod yX4_free ∈ WW := List.mem_filter.mpr ⟨wm_tables_1_2 _ (List.mem_of_getElem? (i := 219) rfl), rfl⟩
theorem ws_yX4_free : Cond.selects RX4 yX4_free yX4_free ∈ WW := List.mem_filter.mpr ⟨wm_tables_1_2 _ (List.mem_of_getElem? (i := 220) rfl), rfl⟩
theorem wk_yX4_free : Cond.code yX4_free cX4_free 2 none ∈ WW := List.mem_filter.mpr ⟨wm_tables_1_2 _ (List.mem_of_getElem? (i := 221) rfl), rfl⟩
theorem wl_X5_256 : Cond.methodLink RX5 256 yX5_endRound ∈ WW := List.mem_filter.mpr ⟨wm_tables_1_2 _ (List.mem_of_getElem? (i := 222) rfl), rfl⟩
theorem wt_yX5_endRound : Cond.instanceMethod yX5_endRound ∈ WW := List.mem_filter.mpr ⟨wm_tables_1_2 _ (List.mem_of_getElem? (i := 224) rfl), rfl⟩
theorem wk_yX5_endRound : Cond.code yX5_endRound cX5_endRound 1 none ∈ WW := List.mem_filter.mpr ⟨wm_tables_1_2 _ (List.mem_of_getElem? (i := 225) rfl), rfl⟩
theorem wl_X5_205 : Cond.methodLink RX5 205 yX5_sweepStep ∈ WW := List.mem_filter.mpr ⟨wm_tables_1_2 _ (List.mem_of_getElem? (i := 226) rfl), rfl⟩
theorem wt_yX5_sweepStep : Cond.instanceMethod yX5_sweepStep ∈ WW := List.mem_filter.mpr ⟨wm_tables_1_2 _ (List.mem_of_getElem? (i := 228) rfl), rfl⟩
theorem wk_yX5_sweepStep : Cond.code yX5_sweepStep cX5_sweepStep 2 none ∈ WW := List.mem_filter.mpr ⟨wm_tables_1_2 _ (List.mem_of_getElem? (i := 229) rfl), rfl⟩
theorem wl_X5_259 : Cond.methodLink RX5 259 yX4_nextNotFreed ∈ WW := List.mem_filter.mpr ⟨wm_tables_1_2 _ (List.mem_of_getElem? (i := 230) rfl), rfl⟩
theorem wt_yX4_nextNotFreed : Cond.instanceMethod yX4_nextNotFreed ∈ WW := List.mem_filter.mpr ⟨wm_tables_1_2 _ (List.mem_of_getElem? (i := 231) rfl), rfl⟩
theorem ws_yX4_nextNotFreed : Cond.selects RX4 yX4_nextNotFreed yX4_nextNotFreed ∈ WW := List.mem_filter.mpr ⟨wm_tables_1_2 _ (List.mem_of_getElem? (i := 232) rfl), rfl⟩
theorem wk_yX4_nextNotFreed : Cond.code yX4_nextNotFreed cX4_nextNotFreed 3 (some .int) ∈ WW := List.mem_filter.mpr ⟨wm_tables_1_2 _ (List.mem_of_getElem? (i := 233) rfl), rfl⟩
theorem wl_L_78 : Cond.methodLink RL 78 yX5_sweep ∈ WW := List.mem_filter.mpr ⟨wm_tables_1_2 _ (List.mem_of_getElem? (i := 234) rfl), rfl⟩
theorem wt_yX5_sweep : Cond.instanceMethod yX5_sweep ∈ WW := List.mem_filter.mpr ⟨wm_tables_1_2 _ (List.mem_of_getElem? (i := 235) rfl), rfl⟩
theorem ws_yX5_sweep : Cond.selects RX5 yX5_sweep yX5_sweep ∈ WW := List.mem_filter.mpr ⟨wm_tables_1_2 _ (List.mem_of_getElem? (i := 236) rfl), rfl⟩
theorem wk_yX5_sweep : Cond.code yX5_sweep cX5_sweep 2 (some .int) ∈ WW := List.mem_filter.mpr ⟨wm_tables_1_2 _ (List.mem_of_getElem? (i := 237) rfl), rfl⟩
theorem wl_L_83 : Cond.methodLink RL 83 yX5_under ∈ WW := List.mem_filter.mpr ⟨wm_tables_1_2 _ (List.mem_of_getElem? (i := 238) rfl), rfl⟩
theorem wt_yX5_under : Cond.instanceMethod yX5_under ∈ WW := List.mem_filter.mpr ⟨wm_tables_1_2 _ (List.mem_of_getElem? (i := 239) rfl), rfl⟩
theorem ws_yX5_under : Cond.selects RX5 yX5_under yX5_under ∈ WW := List.mem_filter.mpr ⟨wm_tables_1_3 _ (List.mem_of_getElem? (i := 0) rfl), rfl⟩
theorem wk_yX5_under : Cond.code yX5_under cX5_under 1 (some .int) ∈ WW := List.mem_filter.mpr ⟨wm_tables_1_3 _ (List.mem_of_getElem? (i := 1) rfl), rfl⟩
theorem wl_L_87 : Cond.methodLink RL 87 yX5_about ∈ WW := List.mem_filter.mpr ⟨wm_tables_1_3 _ (List.mem_of_getElem? (i := 2) rfl), rfl⟩
theorem wt_yX5_about : Cond.instanceMethod yX5_about ∈ WW := List.mem_filter.mpr ⟨wm_tables_1_3 _ (List.mem_of_getElem? (i := 3) rfl), rfl⟩
theorem ws_yX5_about : Cond.selects RX5 yX5_about yX5_about ∈ WW := List.mem_filter.mpr ⟨wm_tables_1_3 _ (List.mem_of_getElem? (i := 4) rfl), rfl⟩
theorem wk_yX5_about : Cond.code yX5_about cX5_about 3 (some .int) ∈ WW := List.mem_filter.mpr ⟨wm_tables_1_3 _ (List.mem_of_getElem? (i := 5) rfl), rfl⟩
theorem wl_X5_265 : Cond.methodLink RX5 265 yX4_isThing ∈ WW := List.mem_filter.mpr ⟨wm_tables_1_3 _ (List.mem_of_getElem? (i := 6) rfl), rfl⟩
theorem wl_X5_268 : Cond.methodLink RX5 268 yX4_fieldsOf ∈ WW := List.mem_filter.mpr ⟨wm_tables_1_3 _ (List.mem_of_getElem? (i := 7) rfl), rfl⟩
theorem wt_yX4_fieldsOf : Cond.instanceMethod yX4_fieldsOf ∈ WW := List.mem_filter.mpr ⟨wm_tables_1_3 _ (List.mem_of_getElem? (i := 8) rfl), rfl⟩
theorem ws_yX4_fieldsOf : Cond.selects RX4 yX4_fieldsOf yX4_fieldsOf ∈ WW := List.mem_filter.mpr ⟨wm_tables_1_3 _ (List.mem_of_getElem? (i := 9) rfl), rfl⟩
theorem wk_yX4_fieldsOf : Cond.code yX4_fieldsOf cX4_fieldsOf 2 (some .int) ∈ WW := List.mem_filter.mpr ⟨wm_tables_1_3 _ (List.mem_of_getElem? (i := 10) rfl), rfl⟩
theorem wl_X5_271 : Cond.methodLink RX5 271 yX4_colourOf ∈ WW := List.mem_filter.mpr ⟨wm_tables_1_3 _ (List.mem_of_getElem? (i := 11) rfl), rfl⟩
theorem wl_X5_274 : Cond.methodLink RX5 274 yX5_isReached ∈ WW := List.mem_filter.mpr ⟨wm_tables_1_3 _ (List.mem_of_getElem? (i := 12) rfl), rfl⟩
theorem wt_yX5_isReached : Cond.instanceMethod yX5_isReached ∈ WW := List.mem_filter.mpr ⟨wm_tables_1_3 _ (List.mem_of_getElem? (i := 14) rfl), rfl⟩
theorem wk_yX5_isReached : Cond.code yX5_isReached cX5_isReached 2 (some .boolean) ∈ WW := List.mem_filter.mpr ⟨wm_tables_1_3 _ (List.mem_of_getElem? (i := 15) rfl), rfl⟩
theorem wl_X5_298 : Cond.methodLink RX5 298 yX3_find ∈ WW := List.mem_filter.mpr ⟨wm_tables_1_3 _ (List.mem_of_getElem? (i := 16) rfl), rfl⟩
theorem wt_yX3_find : Cond.instanceMethod yX3_find ∈ WW := List.mem_filter.mpr ⟨wm_tables_1_3 _ (List.mem_of_getElem? (i := 17) rfl), rfl⟩
theorem ws_yX3_find : Cond.selects RX3 yX3_find yX3_find ∈ WW := List.mem_filter.mpr ⟨wm_tables_1_3 _ (List.mem_of_getElem? (i := 18) rfl), rfl⟩
theorem wk_yX3_find : Cond.code yX3_find cX3_find 5 none ∈ WW := List.mem_filter.mpr ⟨wm_tables_1_3 _ (List.mem_of_getElem? (i := 19) rfl), rfl⟩
theorem wl_X3_19 : Cond.methodLink RX3 19 yX3_forget ∈ WW := List.mem_filter.mpr ⟨wm_tables_1_3 _ (List.mem_of_getElem? (i := 20) rfl), rfl⟩
theorem wt_yX3_forget : Cond.instanceMethod yX3_forget ∈ WW := List.mem_filter.mpr ⟨wm_tables_1_3 _ (List.mem_of_getElem? (i := 22) rfl), rfl⟩
theorem wk_yX3_forget : Cond.code yX3_forget cX3_forget 2 none ∈ WW := List.mem_filter.mpr ⟨wm_tables_1_3 _ (List.mem_of_getElem? (i := 23) rfl), rfl⟩
theorem wl_X3_28 : Cond.methodLink RX3 28 yX1_heldAt ∈ WW := List.mem_filter.mpr ⟨wm_tables_1_3 _ (List.mem_of_getElem? (i := 24) rfl), rfl⟩
theorem wl_X3_32 : Cond.methodLink RX3 32 yX3_add ∈ WW := List.mem_filter.mpr ⟨wm_tables_1_3 _ (List.mem_of_getElem? (i := 25) rfl), rfl⟩
theorem wt_yX3_add : Cond.instanceMethod yX3_add ∈ WW := List.mem_filter.mpr ⟨wm_tables_1_3 _ (List.mem_of_getElem? (i := 27) rfl), rfl⟩
theorem wk_yX3_add : Cond.code yX3_add cX3_add 2 none ∈ WW := List.mem_filter.mpr ⟨wm_tables_1_3 _ (List.mem_of_getElem? (i := 28) rfl), rfl⟩
theorem wl_X3_39 : Cond.methodLink RX3 39 yX3_addValues ∈ WW := List.mem_filter.mpr ⟨wm_tables_1_3 _ (List.mem_of_getElem? (i := 29) rfl), rfl⟩
theorem wt_yX3_addValues : Cond.instanceMethod yX3_addValues ∈ WW := List.mem_filter.mpr ⟨wm_tables_1_3 _ (List.mem_of_getElem? (i := 31) rfl), rfl⟩
theorem wk_yX3_addValues : Cond.code yX3_addValues cX3_addValues 3 none ∈ WW := List.mem_filter.mpr ⟨wm_tables_1_3 _ (List.mem_of_getElem? (i := 32) rfl), rfl⟩
theorem wl_X3_62 : Cond.methodLink RX3 62 yX2_keyOf ∈ WW := List.mem_filter.mpr ⟨wm_tables_1_3 _ (List.mem_of_getElem? (i := 33) rfl), rfl⟩
theorem wl_X3_65 : Cond.methodLink RX3 65 yX3_has ∈ WW := List.mem_filter.mpr ⟨wm_tables_1_3 _ (List.mem_of_getElem? (i := 34) rfl), rfl⟩
theorem wt_yX3_has : Cond.instanceMethod yX3_has ∈ WW := List.mem_filter.mpr ⟨wm_tables_1_3 _ (List.mem_of_getElem? (i := 35) rfl), rfl⟩
theorem ws_yX3_has : Cond.selects RX3 yX3_has yX3_has ∈ WW := List.mem_filter.mpr ⟨wm_tables_1_3 _ (List.mem_of_getElem? (i := 36) rfl), rfl⟩
theorem wk_yX3_has : Cond.code yX3_has cX3_has 2 (some .boolean) ∈ WW := List.mem_filter.mpr ⟨wm_tables_1_3 _ (List.mem_of_getElem? (i := 37) rfl), rfl⟩
theorem wl_X3_68 : Cond.methodLink RX3 68 yX2_valueOf ∈ WW := List.mem_filter.mpr ⟨wm_tables_1_3 _ (List.mem_of_getElem? (i := 38) rfl), rfl⟩
theorem wl_X3_43 : Cond.methodLink RX3 43 yX3_addFields ∈ WW := List.mem_filter.mpr ⟨wm_tables_1_3 _ (List.mem_of_getElem? (i := 39) rfl), rfl⟩
theorem wt_yX3_addFields : Cond.instanceMethod yX3_addFields ∈ WW := List.mem_filter.mpr ⟨wm_tables_1_3 _ (List.mem_of_getElem? (i := 41) rfl), rfl⟩
theorem wk_yX3_addFields : Cond.code yX3_addFields cX3_addFields 4 none ∈ WW := List.mem_filter.mpr ⟨wm_tables_1_3 _ (List.mem_of_getElem? (i := 42) rfl), rfl⟩
theorem wl_X3_47 : Cond.methodLink RX3 47 yX4_isFreed ∈ WW := List.mem_filter.mpr ⟨wm_tables_1_3 _ (List.mem_of_getElem? (i := 43) rfl), rfl⟩
theorem wl_X3_53 : Cond.methodLink RX3 53 yX4_inField ∈ WW := List.mem_filter.mpr ⟨wm_tables_1_3 _ (List.mem_of_getElem? (i := 44) rfl), rfl⟩
theorem wl_X5_302 : Cond.methodLink RX5 302 yX3_has ∈ WW := List.mem_filter.mpr ⟨wm_tables_1_3 _ (List.mem_of_getElem? (i := 45) rfl), rfl⟩
theorem wl_X5_277 : Cond.methodLink RX5 277 yX4_movesOf ∈ WW := List.mem_filter.mpr ⟨wm_tables_1_3 _ (List.mem_of_getElem? (i := 46) rfl), rfl⟩
theorem wt_yX4_movesOf : Cond.instanceMethod yX4_movesOf ∈ WW := List.mem_filter.mpr ⟨wm_tables_1_3 _ (List.mem_of_getElem? (i := 47) rfl), rfl⟩
theorem ws_yX4_movesOf : Cond.selects RX4 yX4_movesOf yX4_movesOf ∈ WW := List.mem_filter.mpr ⟨wm_tables_1_3 _ (List.mem_of_getElem? (i := 48) rfl), rfl⟩
theorem wk_yX4_movesOf : Cond.code yX4_movesOf cX4_movesOf 2 (some .int) ∈ WW := List.mem_filter.mpr ⟨wm_tables_1_3 _ (List.mem_of_getElem? (i := 49) rfl), rfl⟩
theorem wl_L_91 : Cond.methodLink RL 91 yX5_field ∈ WW := List.mem_filter.mpr ⟨wm_tables_1_3 _ (List.mem_of_getElem? (i := 50) rfl), rfl⟩
theorem wt_yX5_field : Cond.instanceMethod yX5_field ∈ WW := List.mem_filter.mpr ⟨wm_tables_1_3 _ (List.mem_of_getElem? (i := 51) rfl), rfl⟩
theorem ws_yX5_field : Cond.selects RX5 yX5_field yX5_field ∈ WW := List.mem_filter.mpr ⟨wm_tables_1_3 _ (List.mem_of_getElem? (i := 52) rfl), rfl⟩
theorem wk_yX5_field : Cond.code yX5_field cX5_field 3 (some .int) ∈ WW := List.mem_filter.mpr ⟨wm_tables_1_3 _ (List.mem_of_getElem? (i := 53) rfl), rfl⟩
theorem wl_L_95 : Cond.methodLink RL 95 yX5_holder ∈ WW := List.mem_filter.mpr ⟨wm_tables_1_3 _ (List.mem_of_getElem? (i := 54) rfl), rfl⟩
theorem wt_yX5_holder : Cond.instanceMethod yX5_holder ∈ WW := List.mem_filter.mpr ⟨wm_tables_1_3 _ (List.mem_of_getElem? (i := 55) rfl), rfl⟩
theorem ws_yX5_holder : Cond.selects RX5 yX5_holder yX5_holder ∈ WW := List.mem_filter.mpr ⟨wm_tables_1_3 _ (List.mem_of_getElem? (i := 56) rfl), rfl⟩
theorem wk_yX5_holder : Cond.code yX5_holder cX5_holder 2 (some .int) ∈ WW := List.mem_filter.mpr ⟨wm_tables_1_3 _ (List.mem_of_getElem? (i := 57) rfl), rfl⟩
theorem wl_X5_280 : Cond.methodLink RX5 280 yX1_wishAt ∈ WW := List.mem_filter.mpr ⟨wm_tables_1_3 _ (List.mem_of_getElem? (i := 58) rfl), rfl⟩
theorem wt_yX1_wishAt : Cond.instanceMethod yX1_wishAt ∈ WW := List.mem_filter.mpr ⟨wm_tables_1_3 _ (List.mem_of_getElem? (i := 59) rfl), rfl⟩
theorem ws_yX1_wishAt : Cond.selects RX1 yX1_wishAt yX1_wishAt ∈ WW := List.mem_filter.mpr ⟨wm_tables_1_3 _ (List.mem_of_getElem? (i := 60) rfl), rfl⟩
theorem wk_yX1_wishAt : Cond.code yX1_wishAt cX1_wishAt 2 (some .int) ∈ WW := List.mem_filter.mpr ⟨wm_tables_1_3 _ (List.mem_of_getElem? (i := 61) rfl), rfl⟩
theorem wl_L_99 : Cond.methodLink RL 99 yX5_cell ∈ WW := List.mem_filter.mpr ⟨wm_tables_1_3 _ (List.mem_of_getElem? (i := 62) rfl), rfl⟩
theorem wt_yX5_cell : Cond.instanceMethod yX5_cell ∈ WW := List.mem_filter.mpr ⟨wm_tables_1_3 _ (List.mem_of_getElem? (i := 63) rfl), rfl⟩
theorem ws_yX5_cell : Cond.selects RX5 yX5_cell yX5_cell ∈ WW := List.mem_filter.mpr ⟨wm_tables_1_3 _ (List.mem_of_getElem? (i := 64) rfl), rfl⟩
theorem wk_yX5_cell : Cond.code yX5_cell cX5_cell 2 (some .int) ∈ WW := List.mem_filter.mpr ⟨wm_tables_1_3 _ (List.mem_of_getElem? (i := 65) rfl), rfl⟩
theorem wl_X5_283 : Cond.methodLink RX5 283 yX0_thingAt ∈ WW := List.mem_filter.mpr ⟨wm_tables_1_3 _ (List.mem_of_getElem? (i := 66) rfl), rfl⟩
theorem wt_yX0_thingAt : Cond.instanceMethod yX0_thingAt ∈ WW := List.mem_filter.mpr ⟨wm_tables_1_3 _ (List.mem_of_getElem? (i := 67) rfl), rfl⟩
theorem ws_yX0_thingAt : Cond.selects RX0 yX0_thingAt yX0_thingAt ∈ WW := List.mem_filter.mpr ⟨wm_tables_1_3 _ (List.mem_of_getElem? (i := 68) rfl), rfl⟩
theorem wk_yX0_thingAt : Cond.code yX0_thingAt cX0_thingAt 2 (some .int) ∈ WW := List.mem_filter.mpr ⟨wm_tables_1_3 _ (List.mem_of_getElem? (i := 69) rfl), rfl⟩
theorem wl_L_103 : Cond.methodLink RL 103 yX5_count ∈ WW := List.mem_filter.mpr ⟨wm_tables_1_3 _ (List.mem_of_getElem? (i := 70) rfl), rfl⟩
theorem wt_yX5_count : Cond.instanceMethod yX5_count ∈ WW := List.mem_filter.mpr ⟨wm_tables_1_3 _ (List.mem_of_getElem? (i := 71) rfl), rfl⟩
theorem ws_yX5_count : Cond.selects RX5 yX5_count yX5_count ∈ WW := List.mem_filter.mpr ⟨wm_tables_1_3 _ (List.mem_of_getElem? (i := 72) rfl), rfl⟩
theorem wk_yX5_count : Cond.code yX5_count cX5_count 2 (some .int) ∈ WW := List.mem_filter.mpr ⟨wm_tables_1_3 _ (List.mem_of_getElem? (i := 73) rfl), rfl⟩
theorem wl_X5_286 : Cond.methodLink RX5 286 yX5_countByReach ∈ WW := List.mem_filter.mpr ⟨wm_tables_1_3 _ (List.mem_of_getElem? (i := 74) rfl), rfl⟩
theorem wt_yX5_countByReach : Cond.instanceMethod yX5_countByReach ∈ WW := List.mem_filter.mpr ⟨wm_tables_1_3 _ (List.mem_of_getElem? (i := 76) rfl), rfl⟩
theorem wk_yX5_countByReach : Cond.code yX5_countByReach cX5_countByReach 7 (some .int) ∈ WW := List.mem_filter.mpr ⟨wm_tables_1_3 _ (List.mem_of_getElem? (i := 77) rfl), rfl⟩
theorem wl_X5_289 : Cond.methodLink RX5 289 yX0_countFree ∈ WW := List.mem_filter.mpr ⟨wm_tables_1_3 _ (List.mem_of_getElem? (i := 78) rfl), rfl⟩
theorem wt_yX0_countFree : Cond.instanceMethod yX0_countFree ∈ WW := List.mem_filter.mpr ⟨wm_tables_1_3 _ (List.mem_of_getElem? (i := 79) rfl), rfl⟩
theorem ws_yX0_countFree : Cond.selects RX0 yX0_countFree yX0_countFree ∈ WW := List.mem_filter.mpr ⟨wm_tables_1_3 _ (List.mem_of_getElem? (i := 80) rfl), rfl⟩
theorem wk_yX0_countFree : Cond.code yX0_countFree cX0_countFree 3 (some .int) ∈ WW := List.mem_filter.mpr ⟨wm_tables_1_3 _ (List.mem_of_getElem? (i := 81) rfl), rfl⟩
theorem wl_X5_292 : Cond.methodLink RX5 292 yX0_longestFree ∈ WW := List.mem_filter.mpr ⟨wm_tables_1_3 _ (List.mem_of_getElem? (i := 82) rfl), rfl⟩
theorem wt_yX0_longestFree : Cond.instanceMethod yX0_longestFree ∈ WW := List.mem_filter.mpr ⟨wm_tables_1_3 _ (List.mem_of_getElem? (i := 83) rfl), rfl⟩
theorem ws_yX0_longestFree : Cond.selects RX0 yX0_longestFree yX0_longestFree ∈ WW := List.mem_filter.mpr ⟨wm_tables_1_3 _ (List.mem_of_getElem? (i := 84) rfl), rfl⟩
theorem wk_yX0_longestFree : Cond.code yX0_longestFree cX0_longestFree 4 (some .int) ∈ WW := List.mem_filter.mpr ⟨wm_tables_1_3 _ (List.mem_of_getElem? (i := 85) rfl), rfl⟩
theorem wl_X0_26 : Cond.methodLink RX0 26 Lib.Math.max.name ∈ WW := List.mem_filter.mpr ⟨wm_tables_1_3 _ (List.mem_of_getElem? (i := 86) rfl), rfl⟩
theorem wz_Lib_Math_max_name : Cond.static Lib.Math.max.name ∈ WW := List.mem_filter.mpr ⟨wm_tables_1_3 _ (List.mem_of_getElem? (i := 87) rfl), rfl⟩
theorem wk_Lib_Math_max_name : Cond.code Lib.Math.max.name Lib.Math.max.code 2 (some .int) ∈ WW := List.mem_filter.mpr ⟨wm_tables_1_3 _ (List.mem_of_getElem? (i := 88) rfl), rfl⟩
theorem wl_X5_295 : Cond.methodLink RX5 295 yX2_countNotDropped ∈ WW := List.mem_filter.mpr ⟨wm_tables_1_3 _ (List.mem_of_getElem? (i := 89) rfl), rfl⟩
theorem wt_yX2_countNotDropped : Cond.instanceMethod yX2_countNotDropped ∈ WW := List.mem_filter.mpr ⟨wm_tables_1_3 _ (List.mem_of_getElem? (i := 90) rfl), rfl⟩
theorem ws_yX2_countNotDropped : Cond.selects RX2 yX2_countNotDropped yX2_countNotDropped ∈ WW := List.mem_filter.mpr ⟨wm_tables_1_3 _ (List.mem_of_getElem? (i := 91) rfl), rfl⟩
theorem wk_yX2_countNotDropped : Cond.code yX2_countNotDropped cX2_countNotDropped 3 (some .int) ∈ WW := List.mem_filter.mpr ⟨wm_tables_1_3 _ (List.mem_of_getElem? (i := 92) rfl), rfl⟩
theorem wl_X2_26 : Cond.methodLink RX2 26 yX2_keyOf ∈ WW := List.mem_filter.mpr ⟨wm_tables_1_3 _ (List.mem_of_getElem? (i := 93) rfl), rfl⟩
theorem wl_L_107 : Cond.methodLink RL 107 yX5_lost ∈ WW := List.mem_filter.mpr ⟨wm_tables_1_3 _ (List.mem_of_getElem? (i := 94) rfl), rfl⟩
theorem wt_yX5_lost : Cond.instanceMethod yX5_lost ∈ WW := List.mem_filter.mpr ⟨wm_tables_1_3 _ (List.mem_of_getElem? (i := 95) rfl), rfl⟩
theorem ws_yX5_lost : Cond.selects RX5 yX5_lost yX5_lost ∈ WW := List.mem_filter.mpr ⟨wm_tables_1_3 _ (List.mem_of_getElem? (i := 96) rfl), rfl⟩
theorem wk_yX5_lost : Cond.code yX5_lost cX5_lost 2 (some .int) ∈ WW := List.mem_filter.mpr ⟨wm_tables_1_3 _ (List.mem_of_getElem? (i := 97) rfl), rfl⟩
theorem wl_L_111 : Cond.methodLink RL 111 yX5_digest ∈ WW := List.mem_filter.mpr ⟨wm_tables_1_3 _ (List.mem_of_getElem? (i := 98) rfl), rfl⟩
theorem wt_yX5_digest : Cond.instanceMethod yX5_digest ∈ WW := List.mem_filter.mpr ⟨wm_tables_1_3 _ (List.mem_of_getElem? (i := 99) rfl), rfl⟩
theorem ws_yX5_digest : Cond.selects RX5 yX5_digest yX5_digest ∈ WW := List.mem_filter.mpr ⟨wm_tables_1_3 _ (List.mem_of_getElem? (i := 100) rfl), rfl⟩
theorem wk_yX5_digest : Cond.code yX5_digest cX5_digest 5 (some .long) ∈ WW := List.mem_filter.mpr ⟨wm_tables_1_3 _ (List.mem_of_getElem? (i := 101) rfl), rfl⟩
theorem wv_X5_305 : Cond.constantLong RX5 305 (3) ∈ WW := List.mem_filter.mpr ⟨wm_tables_1_3 _ (List.mem_of_getElem? (i := 102) rfl), rfl⟩
theorem wv_X5_307 : Cond.constantLong RX5 307 (31) ∈ WW := List.mem_filter.mpr ⟨wm_tables_1_3 _ (List.mem_of_getElem? (i := 103) rfl), rfl⟩
theorem wl_X5_309 : Cond.methodLink RX5 309 yX5_holder ∈ WW := List.mem_filter.mpr ⟨wm_tables_1_3 _ (List.mem_of_getElem? (i := 104) rfl), rfl⟩
theorem wc_L_10 : Cond.classLink RL 10 RX6 ∈ WW := List.mem_filter.mpr ⟨wm_tables_1_3 _ (List.mem_of_getElem? (i := 105) rfl), rfl⟩
theorem wn_X6 : Cond.instantiable RX6 30 ∈ WW := List.mem_filter.mpr ⟨wm_tables_1_3 _ (List.mem_of_getElem? (i := 106) rfl), rfl⟩
theorem wl_L_12 : Cond.methodLink RL 12 yX6_init ∈ WW := List.mem_filter.mpr ⟨wm_tables_1_3 _ (List.mem_of_getElem? (i := 107) rfl), rfl⟩
theorem wt_yX6_init : Cond.instanceMethod yX6_init ∈ WW := List.mem_filter.mpr ⟨wm_tables_1_3 _ (List.mem_of_getElem? (i := 108) rfl), rfl⟩
theorem wk_yX6_init : Cond.code yX6_init cX6_init 1 none ∈ WW := List.mem_filter.mpr ⟨wm_tables_1_3 _ (List.mem_of_getElem? (i := 109) rfl), rfl⟩
theorem wl_X6_1 : Cond.methodLink RX6 1 objectInit ∈ WW := List.mem_filter.mpr ⟨wm_tables_1_3 _ (List.mem_of_getElem? (i := 110) rfl), rfl⟩
theorem wl_X6_56 : Cond.methodLink RX6 56 yX6_empties ∈ WW := List.mem_filter.mpr ⟨wm_tables_1_3 _ (List.mem_of_getElem? (i := 111) rfl), rfl⟩
theorem wt_yX6_empties : Cond.instanceMethod yX6_empties ∈ WW := List.mem_filter.mpr ⟨wm_tables_1_3 _ (List.mem_of_getElem? (i := 113) rfl), rfl⟩
theorem wk_yX6_empties : Cond.code yX6_empties cX6_empties 2 none ∈ WW := List.mem_filter.mpr ⟨wm_tables_1_3 _ (List.mem_of_getElem? (i := 114) rfl), rfl⟩
theorem wf_X6_94 : Cond.fieldLink RX6 94 "AtticSweepModel" "manner" "I" ∈ WW := List.mem_filter.mpr ⟨wm_tables_1_3 _ (List.mem_of_getElem? (i := 115) rfl), rfl⟩
theorem wf_X6_97 : Cond.fieldLink RX6 97 "AtticSweepModel" "fault" "I" ∈ WW := List.mem_filter.mpr ⟨wm_tables_1_3 _ (List.mem_of_getElem? (i := 116) rfl), rfl⟩
theorem wf_X6_59 : Cond.fieldLink RX6 59 "AtticSweepModel" "things" "I" ∈ WW := List.mem_filter.mpr ⟨wm_tables_1_3 _ (List.mem_of_getElem? (i := 117) rfl), rfl⟩
theorem wf_X6_7 : Cond.fieldLink RX6 7 "AtticSweepModel" "many" "[I" ∈ WW := List.mem_filter.mpr ⟨wm_tables_1_3 _ (List.mem_of_getElem? (i := 118) rfl), rfl⟩
theorem wf_X6_13 : Cond.fieldLink RX6 13 "AtticSweepModel" "field" "[I" ∈ WW := List.mem_filter.mpr ⟨wm_tables_1_3 _ (List.mem_of_getElem? (i := 119) rfl), rfl⟩
theorem wf_X6_16 : Cond.fieldLink RX6 16 "AtticSweepModel" "place" "[I" ∈ WW := List.mem_filter.mpr ⟨wm_tables_1_3 _ (List.mem_of_getElem? (i := 120) rfl), rfl⟩
theorem wf_X6_19 : Cond.fieldLink RX6 19 "AtticSweepModel" "colour" "[I" ∈ WW := List.mem_filter.mpr ⟨wm_tables_1_3 _ (List.mem_of_getElem? (i := 121) rfl), rfl⟩
theorem wf_X6_22 : Cond.fieldLink RX6 22 "AtticSweepModel" "isFreed" "[Z" ∈ WW := List.mem_filter.mpr ⟨wm_tables_1_3 _ (List.mem_of_getElem? (i := 122) rfl), rfl⟩
theorem wf_X6_26 : Cond.fieldLink RX6 26 "AtticSweepModel" "hasWish" "[Z" ∈ WW := List.mem_filter.mpr ⟨wm_tables_1_3 _ (List.mem_of_getElem? (i := 123) rfl), rfl⟩
theorem wf_X6_29 : Cond.fieldLink RX6 29 "AtticSweepModel" "moved" "[I" ∈ WW := List.mem_filter.mpr ⟨wm_tables_1_3 _ (List.mem_of_getElem? (i := 124) rfl), rfl⟩
theorem wf_X6_32 : Cond.fieldLink RX6 32 "AtticSweepModel" "register" "[I" ∈ WW := List.mem_filter.mpr ⟨wm_tables_1_3 _ (List.mem_of_getElem? (i := 125) rfl), rfl⟩
theorem wf_X6_35 : Cond.fieldLink RX6 35 "AtticSweepModel" "slot" "[I" ∈ WW := List.mem_filter.mpr ⟨wm_tables_1_3 _ (List.mem_of_getElem? (i := 126) rfl), rfl⟩
theorem wf_X6_63 : Cond.fieldLink RX6 63 "AtticSweepModel" "wishes" "I" ∈ WW := List.mem_filter.mpr ⟨wm_tables_1_3 _ (List.mem_of_getElem? (i := 127) rfl), rfl⟩
theorem wf_X6_38 : Cond.fieldLink RX6 38 "AtticSweepModel" "wishAt" "[I" ∈ WW := List.mem_filter.mpr ⟨wm_tables_1_3 _ (List.mem_of_getElem? (i := 128) rfl), rfl⟩
theorem wf_X6_41 : Cond.fieldLink RX6 41 "AtticSweepModel" "weakAt" "[I" ∈ WW := List.mem_filter.mpr ⟨wm_tables_1_3 _ (List.mem_of_getElem? (i := 129) rfl), rfl⟩
theorem wf_X6_66 : Cond.fieldLink RX6 66 "AtticSweepModel" "pairs" "I" ∈ WW := List.mem_filter.mpr ⟨wm_tables_1_3 _ (List.mem_of_getElem? (i := 130) rfl), rfl⟩
theorem wf_X6_44 : Cond.fieldLink RX6 44 "AtticSweepModel" "key" "[I" ∈ WW := List.mem_filter.mpr ⟨wm_tables_1_3 _ (List.mem_of_getElem? (i := 131) rfl), rfl⟩
theorem wf_X6_47 : Cond.fieldLink RX6 47 "AtticSweepModel" "value" "[I" ∈ WW := List.mem_filter.mpr ⟨wm_tables_1_3 _ (List.mem_of_getElem? (i := 132) rfl), rfl⟩
theorem wf_X6_50 : Cond.fieldLink RX6 50 "AtticSweepModel" "isPair" "[Z" ∈ WW := List.mem_filter.mpr ⟨wm_tables_1_3 _ (List.mem_of_getElem? (i := 133) rfl), rfl⟩
theorem wf_X6_69 : Cond.fieldLink RX6 69 "AtticSweepModel" "half" "I" ∈ WW := List.mem_filter.mpr ⟨wm_tables_1_3 _ (List.mem_of_getElem? (i := 134) rfl), rfl⟩
theorem wf_X6_72 : Cond.fieldLink RX6 72 "AtticSweepModel" "top" "I" ∈ WW := List.mem_filter.mpr ⟨wm_tables_1_3 _ (List.mem_of_getElem? (i := 135) rfl), rfl⟩
theorem wf_X6_75 : Cond.fieldLink RX6 75 "AtticSweepModel" "way" "I" ∈ WW := List.mem_filter.mpr ⟨wm_tables_1_3 _ (List.mem_of_getElem? (i := 136) rfl), rfl⟩
theorem wf_X6_124 : Cond.fieldLink RX6 124 "AtticSweepModel" "next" "I" ∈ WW := List.mem_filter.mpr ⟨wm_tables_1_3 _ (List.mem_of_getElem? (i := 137) rfl), rfl⟩
theorem wf_X6_104 : Cond.fieldLink RX6 104 "AtticSweepModel" "freedMany" "I" ∈ WW := List.mem_filter.mpr ⟨wm_tables_1_3 _ (List.mem_of_getElem? (i := 138) rfl), rfl⟩
theorem wf_X6_78 : Cond.fieldLink RX6 78 "AtticSweepModel" "rounds" "I" ∈ WW := List.mem_filter.mpr ⟨wm_tables_1_3 _ (List.mem_of_getElem? (i := 139) rfl), rfl⟩
theorem wf_X6_81 : Cond.fieldLink RX6 81 "AtticSweepModel" "steps" "I" ∈ WW := List.mem_filter.mpr ⟨wm_tables_1_3 _ (List.mem_of_getElem? (i := 140) rfl), rfl⟩
theorem wf_X6_84 : Cond.fieldLink RX6 84 "AtticSweepModel" "shaded" "I" ∈ WW := List.mem_filter.mpr ⟨wm_tables_1_3 _ (List.mem_of_getElem? (i := 141) rfl), rfl⟩
theorem wf_X6_87 : Cond.fieldLink RX6 87 "AtticSweepModel" "movedMany" "I" ∈ WW := List.mem_filter.mpr ⟨wm_tables_1_3 _ (List.mem_of_getElem? (i := 142) rfl), rfl⟩
theorem wf_X6_53 : Cond.fieldLink RX6 53 "AtticSweepModel" "isReached" "[Z" ∈ WW := List.mem_filter.mpr ⟨wm_tables_1_3 _ (List.mem_of_getElem? (i := 143) rfl), rfl⟩
theorem wf_X6_176 : Cond.fieldLink RX6 176 "AtticSweepModel" "more" "Z" ∈ WW := List.mem_filter.mpr ⟨wm_tables_1_3 _ (List.mem_of_getElem? (i := 144) rfl), rfl⟩
theorem wy_X6_manner : Cond.lays RX6 "AtticSweepModel" "manner" "I" ∈ WW := List.mem_filter.mpr ⟨wm_tables_1_3 _ (List.mem_of_getElem? (i := 145) rfl), rfl⟩
theorem wy_X6_fault : Cond.lays RX6 "AtticSweepModel" "fault" "I" ∈ WW := List.mem_filter.mpr ⟨wm_tables_1_3 _ (List.mem_of_getElem? (i := 147) rfl), rfl⟩
theorem wy_X6_things : Cond.lays RX6 "AtticSweepModel" "things" "I" ∈ WW := List.mem_filter.mpr ⟨wm_tables_1_3 _ (List.mem_of_getElem? (i := 149) rfl), rfl⟩
theorem wy_X6_many : Cond.laysFinal RX6 "AtticSweepModel" "many" "[I" ∈ WW := List.mem_filter.mpr ⟨wm_tables_1_3 _ (List.mem_of_getElem? (i := 151) rfl), rfl⟩
theorem wy_X6_field : Cond.laysFinal RX6 "AtticSweepModel" "field" "[I" ∈ WW := List.mem_filter.mpr ⟨wm_tables_1_3 _ (List.mem_of_getElem? (i := 153) rfl), rfl⟩
theorem wy_X6_place : Cond.laysFinal RX6 "AtticSweepModel" "place" "[I" ∈ WW := List.mem_filter.mpr ⟨wm_tables_1_3 _ (List.mem_of_getElem? (i := 155) rfl), rfl⟩
theorem wy_X6_colour : Cond.laysFinal RX6 "AtticSweepModel" "colour" "[I" ∈ WW := List.mem_filter.mpr ⟨wm_tables_1_3 _ (List.mem_of_getElem? (i := 157) rfl), rfl⟩
theorem wy_X6_isFreed : Cond.laysFinal RX6 "AtticSweepModel" "isFreed" "[Z" ∈ WW := List.mem_filter.mpr ⟨wm_tables_1_3 _ (List.mem_of_getElem? (i := 159) rfl), rfl⟩
theorem wy_X6_hasWish : Cond.laysFinal RX6 "AtticSweepModel" "hasWish" "[Z" ∈ WW := List.mem_filter.mpr ⟨wm_tables_1_3 _ (List.mem_of_getElem? (i := 161) rfl), rfl⟩
theorem wy_X6_moved : Cond.laysFinal RX6 "AtticSweepModel" "moved" "[I" ∈ WW := List.mem_filter.mpr ⟨wm_tables_1_3 _ (List.mem_of_getElem? (i := 163) rfl), rfl⟩
theorem wy_X6_register : Cond.laysFinal RX6 "AtticSweepModel" "register" "[I" ∈ WW := List.mem_filter.mpr ⟨wm_tables_1_3 _ (List.mem_of_getElem? (i := 165) rfl), rfl⟩
theorem wy_X6_slot : Cond.laysFinal RX6 "AtticSweepModel" "slot" "[I" ∈ WW := List.mem_filter.mpr ⟨wm_tables_1_3 _ (List.mem_of_getElem? (i := 167) rfl), rfl⟩
theorem wy_X6_wishes : Cond.lays RX6 "AtticSweepModel" "wishes" "I" ∈ WW := List.mem_filter.mpr ⟨wm_tables_1_3 _ (List.mem_of_getElem? (i := 169) rfl), rfl⟩
theorem wy_X6_wishAt : Cond.laysFinal RX6 "AtticSweepModel" "wishAt" "[I" ∈ WW := List.mem_filter.mpr ⟨wm_tables_1_3 _ (List.mem_of_getElem? (i := 171) rfl), rfl⟩
theorem wy_X6_weakAt : Cond.laysFinal RX6 "AtticSweepModel" "weakAt" "[I" ∈ WW := List.mem_filter.mpr ⟨wm_tables_1_3 _ (List.mem_of_getElem? (i := 173) rfl), rfl⟩
theorem wy_X6_pairs : Cond.lays RX6 "AtticSweepModel" "pairs" "I" ∈ WW := List.mem_filter.mpr ⟨wm_tables_1_3 _ (List.mem_of_getElem? (i := 175) rfl), rfl⟩
theorem wy_X6_key : Cond.laysFinal RX6 "AtticSweepModel" "key" "[I" ∈ WW := List.mem_filter.mpr ⟨wm_tables_1_3 _ (List.mem_of_getElem? (i := 177) rfl), rfl⟩
theorem wy_X6_value : Cond.laysFinal RX6 "AtticSweepModel" "value" "[I" ∈ WW := List.mem_filter.mpr ⟨wm_tables_1_3 _ (List.mem_of_getElem? (i := 179) rfl), rfl⟩
theorem wy_X6_isPair : Cond.laysFinal RX6 "AtticSweepModel" "isPair" "[Z" ∈ WW := List.mem_filter.mpr ⟨wm_tables_1_3 _ (List.mem_of_getElem? (i := 181) rfl), rfl⟩
theorem wy_X6_half : Cond.lays RX6 "AtticSweepModel" "half" "I" ∈ WW := List.mem_filter.mpr ⟨wm_tables_1_3 _ (List.mem_of_getElem? (i := 183) rfl), rfl⟩
theorem wy_X6_top : Cond.lays RX6 "AtticSweepModel" "top" "I" ∈ WW := List.mem_filter.mpr ⟨wm_tables_1_3 _ (List.mem_of_getElem? (i := 185) rfl), rfl⟩
theorem wy_X6_way : Cond.lays RX6 "AtticSweepModel" "way" "I" ∈ WW := List.mem_filter.mpr ⟨wm_tables_1_3 _ (List.mem_of_getElem? (i := 187) rfl), rfl⟩
theorem wy_X6_next : Cond.lays RX6 "AtticSweepModel" "next" "I" ∈ WW := List.mem_filter.mpr ⟨wm_tables_1_3 _ (List.mem_of_getElem? (i := 189) rfl), rfl⟩
theorem wy_X6_freedMany : Cond.lays RX6 "AtticSweepModel" "freedMany" "I" ∈ WW := List.mem_filter.mpr ⟨wm_tables_1_3 _ (List.mem_of_getElem? (i := 191) rfl), rfl⟩
theorem wy_X6_rounds : Cond.lays RX6 "AtticSweepModel" "rounds" "I" ∈ WW := List.mem_filter.mpr ⟨wm_tables_1_3 _ (List.mem_of_getElem? (i := 193) rfl), rfl⟩
theorem wy_X6_steps : Cond.lays RX6 "AtticSweepModel" "steps" "I" ∈ WW := List.mem_filter.mpr ⟨wm_tables_1_3 _ (List.mem_of_getElem? (i := 195) rfl), rfl⟩
theorem wy_X6_shaded : Cond.lays RX6 "AtticSweepModel" "shaded" "I" ∈ WW := List.mem_filter.mpr ⟨wm_tables_1_3 _ (List.mem_of_getElem? (i := 197) rfl), rfl⟩
theorem wy_X6_movedMany : Cond.lays RX6 "AtticSweepModel" "movedMany" "I" ∈ WW := List.mem_filter.mpr ⟨wm_tables_1_3 _ (List.mem_of_getElem? (i := 199) rfl), rfl⟩
theorem wy_X6_isReached : Cond.laysFinal RX6 "AtticSweepModel" "isReached" "[Z" ∈ WW := List.mem_filter.mpr ⟨wm_tables_1_3 _ (List.mem_of_getElem? (i := 201) rfl), rfl⟩
theorem wy_X6_more : Cond.lays RX6 "AtticSweepModel" "more" "Z" ∈ WW := List.mem_filter.mpr ⟨wm_tables_1_3 _ (List.mem_of_getElem? (i := 203) rfl), rfl⟩
theorem wl_L_17 : Cond.methodLink RL 17 yX6_attic ∈ WW := List.mem_filter.mpr ⟨wm_tables_1_3 _ (List.mem_of_getElem? (i := 206) rfl), rfl⟩
theorem wt_yX6_attic : Cond.instanceMethod yX6_attic ∈ WW := List.mem_filter.mpr ⟨wm_tables_1_3 _ (List.mem_of_getElem? (i := 207) rfl), rfl⟩
theorem ws_yX6_attic : Cond.selects RX6 yX6_attic yX6_attic ∈ WW := List.mem_filter.mpr ⟨wm_tables_1_3 _ (List.mem_of_getElem? (i := 208) rfl), rfl⟩
theorem wk_yX6_attic : Cond.code yX6_attic cX6_attic 4 (some .int) ∈ WW := List.mem_filter.mpr ⟨wm_tables_1_3 _ (List.mem_of_getElem? (i := 209) rfl), rfl⟩
theorem wl_X6_90 : Cond.methodLink RX6 90 yX6_in ∈ WW := List.mem_filter.mpr ⟨wm_tables_1_3 _ (List.mem_of_getElem? (i := 210) rfl), rfl⟩
theorem wz_yX6_in : Cond.static yX6_in ∈ WW := List.mem_filter.mpr ⟨wm_tables_1_3 _ (List.mem_of_getElem? (i := 211) rfl), rfl⟩
theorem wk_yX6_in : Cond.code yX6_in cX6_in 3 (some .boolean) ∈ WW := List.mem_filter.mpr ⟨wm_tables_1_3 _ (List.mem_of_getElem? (i := 212) rfl), rfl⟩
theorem wl_L_77 : Cond.methodLink RL 77 yX6_begin ∈ WW := List.mem_filter.mpr ⟨wm_tables_1_3 _ (List.mem_of_getElem? (i := 213) rfl), rfl⟩
theorem wt_yX6_begin : Cond.instanceMethod yX6_begin ∈ WW := List.mem_filter.mpr ⟨wm_tables_1_3 _ (List.mem_of_getElem? (i := 214) rfl), rfl⟩
theorem ws_yX6_begin : Cond.selects RX6 yX6_begin yX6_begin ∈ WW := List.mem_filter.mpr ⟨wm_tables_1_3 _ (List.mem_of_getElem? (i := 215) rfl), rfl⟩
theorem wk_yX6_begin : Cond.code yX6_begin cX6_begin 3 (some .int) ∈ WW := List.mem_filter.mpr ⟨wm_tables_1_3 _ (List.mem_of_getElem? (i := 216) rfl), rfl⟩
theorem wl_X6_107 : Cond.methodLink RX6 107 yX6_shadeHeld ∈ WW := List.mem_filter.mpr ⟨wm_tables_1_3 _ (List.mem_of_getElem? (i := 217) rfl), rfl⟩
theorem wt_yX6_shadeHeld : Cond.instanceMethod yX6_shadeHeld ∈ WW := List.mem_filter.mpr ⟨wm_tables_1_3 _ (List.mem_of_getElem? (i := 219) rfl), rfl⟩
theorem wk_yX6_shadeHeld : Cond.code yX6_shadeHeld cX6_shadeHeld 2 none ∈ WW := List.mem_filter.mpr ⟨wm_tables_1_3 _ (List.mem_of_getElem? (i := 220) rfl), rfl⟩
theorem wl_X6_100 : Cond.methodLink RX6 100 yX6_shade ∈ WW := List.mem_filter.mpr ⟨wm_tables_1_3 _ (List.mem_of_getElem? (i := 221) rfl), rfl⟩
theorem wt_yX6_shade : Cond.instanceMethod yX6_shade ∈ WW := List.mem_filter.mpr ⟨wm_tables_1_3 _ (List.mem_of_getElem? (i := 223) rfl), rfl⟩
theorem wk_yX6_shade : Cond.code yX6_shade cX6_shade 2 none ∈ WW := List.mem_filter.mpr ⟨wm_tables_1_3 _ (List.mem_of_getElem? (i := 224) rfl), rfl⟩
theorem wl_X6_139 : Cond.methodLink RX6 139 yX6_step ∈ WW := List.mem_filter.mpr ⟨wm_tables_1_3 _ (List.mem_of_getElem? (i := 225) rfl), rfl⟩
theorem wt_yX6_step : Cond.instanceMethod yX6_step ∈ WW := List.mem_filter.mpr ⟨wm_tables_1_3 _ (List.mem_of_getElem? (i := 227) rfl), rfl⟩
theorem wk_yX6_step : Cond.code yX6_step cX6_step 1 none ∈ WW := List.mem_filter.mpr ⟨wm_tables_1_3 _ (List.mem_of_getElem? (i := 228) rfl), rfl⟩
theorem wl_X6_133 : Cond.methodLink RX6 133 yX6_marks ∈ WW := List.mem_filter.mpr ⟨wm_tables_1_3 _ (List.mem_of_getElem? (i := 229) rfl), rfl⟩
theorem wt_yX6_marks : Cond.instanceMethod yX6_marks ∈ WW := List.mem_filter.mpr ⟨wm_tables_1_3 _ (List.mem_of_getElem? (i := 231) rfl), rfl⟩
theorem wk_yX6_marks : Cond.code yX6_marks cX6_marks 3 none ∈ WW := List.mem_filter.mpr ⟨wm_tables_1_3 _ (List.mem_of_getElem? (i := 232) rfl), rfl⟩
theorem wl_X6_116 : Cond.methodLink RX6 116 yX6_leastGray ∈ WW := List.mem_filter.mpr ⟨wm_tables_1_3 _ (List.mem_of_getElem? (i := 233) rfl), rfl⟩
theorem wt_yX6_leastGray : Cond.instanceMethod yX6_leastGray ∈ WW := List.mem_filter.mpr ⟨wm_tables_1_3 _ (List.mem_of_getElem? (i := 235) rfl), rfl⟩
theorem wk_yX6_leastGray : Cond.code yX6_leastGray cX6_leastGray 2 (some .int) ∈ WW := List.mem_filter.mpr ⟨wm_tables_1_3 _ (List.mem_of_getElem? (i := 236) rfl), rfl⟩
theorem wl_X6_120 : Cond.methodLink RX6 120 yX6_findsMore ∈ WW := List.mem_filter.mpr ⟨wm_tables_1_3 _ (List.mem_of_getElem? (i := 237) rfl), rfl⟩
theorem wt_yX6_findsMore : Cond.instanceMethod yX6_findsMore ∈ WW := List.mem_filter.mpr ⟨wm_tables_1_3 _ (List.mem_of_getElem? (i := 239) rfl), rfl⟩
theorem wk_yX6_findsMore : Cond.code yX6_findsMore cX6_findsMore 3 (some .boolean) ∈ WW := List.mem_filter.mpr ⟨wm_tables_1_4 _ (List.mem_of_getElem? (i := 0) rfl), rfl⟩
theorem wl_X6_110 : Cond.methodLink RX6 110 yX6_isWhite ∈ WW := List.mem_filter.mpr ⟨wm_tables_1_4 _ (List.mem_of_getElem? (i := 1) rfl), rfl⟩
theorem wt_yX6_isWhite : Cond.instanceMethod yX6_isWhite ∈ WW := List.mem_filter.mpr ⟨wm_tables_1_4 _ (List.mem_of_getElem? (i := 3) rfl), rfl⟩
theorem wk_yX6_isWhite : Cond.code yX6_isWhite cX6_isWhite 2 (some .boolean) ∈ WW := List.mem_filter.mpr ⟨wm_tables_1_4 _ (List.mem_of_getElem? (i := 4) rfl), rfl⟩
theorem wl_X6_114 : Cond.methodLink RX6 114 yX6_wishes ∈ WW := List.mem_filter.mpr ⟨wm_tables_1_4 _ (List.mem_of_getElem? (i := 5) rfl), rfl⟩
theorem wt_yX6_wishes : Cond.instanceMethod yX6_wishes ∈ WW := List.mem_filter.mpr ⟨wm_tables_1_4 _ (List.mem_of_getElem? (i := 7) rfl), rfl⟩
theorem wk_yX6_wishes : Cond.code yX6_wishes cX6_wishes 2 none ∈ WW := List.mem_filter.mpr ⟨wm_tables_1_4 _ (List.mem_of_getElem? (i := 8) rfl), rfl⟩
theorem wl_X6_127 : Cond.methodLink RX6 127 yX6_frees ∈ WW := List.mem_filter.mpr ⟨wm_tables_1_4 _ (List.mem_of_getElem? (i := 9) rfl), rfl⟩
theorem wt_yX6_frees : Cond.instanceMethod yX6_frees ∈ WW := List.mem_filter.mpr ⟨wm_tables_1_4 _ (List.mem_of_getElem? (i := 11) rfl), rfl⟩
theorem wk_yX6_frees : Cond.code yX6_frees cX6_frees 2 none ∈ WW := List.mem_filter.mpr ⟨wm_tables_1_4 _ (List.mem_of_getElem? (i := 12) rfl), rfl⟩
theorem wl_X6_130 : Cond.methodLink RX6 130 yX6_over ∈ WW := List.mem_filter.mpr ⟨wm_tables_1_4 _ (List.mem_of_getElem? (i := 13) rfl), rfl⟩
theorem wt_yX6_over : Cond.instanceMethod yX6_over ∈ WW := List.mem_filter.mpr ⟨wm_tables_1_4 _ (List.mem_of_getElem? (i := 15) rfl), rfl⟩
theorem wk_yX6_over : Cond.code yX6_over cX6_over 1 none ∈ WW := List.mem_filter.mpr ⟨wm_tables_1_4 _ (List.mem_of_getElem? (i := 16) rfl), rfl⟩
theorem wl_X6_136 : Cond.methodLink RX6 136 yX6_sweeps ∈ WW := List.mem_filter.mpr ⟨wm_tables_1_4 _ (List.mem_of_getElem? (i := 17) rfl), rfl⟩
theorem wt_yX6_sweeps : Cond.instanceMethod yX6_sweeps ∈ WW := List.mem_filter.mpr ⟨wm_tables_1_4 _ (List.mem_of_getElem? (i := 19) rfl), rfl⟩
theorem wk_yX6_sweeps : Cond.code yX6_sweeps cX6_sweeps 1 none ∈ WW := List.mem_filter.mpr ⟨wm_tables_1_4 _ (List.mem_of_getElem? (i := 20) rfl), rfl⟩
theorem wl_L_82 : Cond.methodLink RL 82 yX6_sweep ∈ WW := List.mem_filter.mpr ⟨wm_tables_1_4 _ (List.mem_of_getElem? (i := 21) rfl), rfl⟩
theorem wt_yX6_sweep : Cond.instanceMethod yX6_sweep ∈ WW := List.mem_filter.mpr ⟨wm_tables_1_4 _ (List.mem_of_getElem? (i := 22) rfl), rfl⟩
theorem ws_yX6_sweep : Cond.selects RX6 yX6_sweep yX6_sweep ∈ WW := List.mem_filter.mpr ⟨wm_tables_1_4 _ (List.mem_of_getElem? (i := 23) rfl), rfl⟩
theorem wk_yX6_sweep : Cond.code yX6_sweep cX6_sweep 3 (some .int) ∈ WW := List.mem_filter.mpr ⟨wm_tables_1_4 _ (List.mem_of_getElem? (i := 24) rfl), rfl⟩
theorem wl_L_86 : Cond.methodLink RL 86 yX6_under ∈ WW := List.mem_filter.mpr ⟨wm_tables_1_4 _ (List.mem_of_getElem? (i := 25) rfl), rfl⟩
theorem wt_yX6_under : Cond.instanceMethod yX6_under ∈ WW := List.mem_filter.mpr ⟨wm_tables_1_4 _ (List.mem_of_getElem? (i := 26) rfl), rfl⟩
theorem ws_yX6_under : Cond.selects RX6 yX6_under yX6_under ∈ WW := List.mem_filter.mpr ⟨wm_tables_1_4 _ (List.mem_of_getElem? (i := 27) rfl), rfl⟩
theorem wk_yX6_under : Cond.code yX6_under cX6_under 1 (some .int) ∈ WW := List.mem_filter.mpr ⟨wm_tables_1_4 _ (List.mem_of_getElem? (i := 28) rfl), rfl⟩
theorem wl_L_22 : Cond.methodLink RL 22 yX6_make ∈ WW := List.mem_filter.mpr ⟨wm_tables_1_4 _ (List.mem_of_getElem? (i := 29) rfl), rfl⟩
theorem wt_yX6_make : Cond.instanceMethod yX6_make ∈ WW := List.mem_filter.mpr ⟨wm_tables_1_4 _ (List.mem_of_getElem? (i := 30) rfl), rfl⟩
theorem ws_yX6_make : Cond.selects RX6 yX6_make yX6_make ∈ WW := List.mem_filter.mpr ⟨wm_tables_1_4 _ (List.mem_of_getElem? (i := 31) rfl), rfl⟩
theorem wk_yX6_make : Cond.code yX6_make cX6_make 8 (some .int) ∈ WW := List.mem_filter.mpr ⟨wm_tables_1_4 _ (List.mem_of_getElem? (i := 32) rfl), rfl⟩
theorem wl_X6_152 : Cond.methodLink RX6 152 yX6_isRegister ∈ WW := List.mem_filter.mpr ⟨wm_tables_1_4 _ (List.mem_of_getElem? (i := 33) rfl), rfl⟩
theorem wz_yX6_isRegister : Cond.static yX6_isRegister ∈ WW := List.mem_filter.mpr ⟨wm_tables_1_4 _ (List.mem_of_getElem? (i := 34) rfl), rfl⟩
theorem wk_yX6_isRegister : Cond.code yX6_isRegister cX6_isRegister 2 (some .boolean) ∈ WW := List.mem_filter.mpr ⟨wm_tables_1_4 _ (List.mem_of_getElem? (i := 35) rfl), rfl⟩
theorem wl_X6_155 : Cond.methodLink RX6 155 yX6_newPlace ∈ WW := List.mem_filter.mpr ⟨wm_tables_1_4 _ (List.mem_of_getElem? (i := 36) rfl), rfl⟩
theorem wt_yX6_newPlace : Cond.instanceMethod yX6_newPlace ∈ WW := List.mem_filter.mpr ⟨wm_tables_1_4 _ (List.mem_of_getElem? (i := 38) rfl), rfl⟩
theorem wk_yX6_newPlace : Cond.code yX6_newPlace cX6_newPlace 4 (some .int) ∈ WW := List.mem_filter.mpr ⟨wm_tables_1_4 _ (List.mem_of_getElem? (i := 39) rfl), rfl⟩
theorem wl_X6_142 : Cond.methodLink RX6 142 yX6_whiteCells ∈ WW := List.mem_filter.mpr ⟨wm_tables_1_4 _ (List.mem_of_getElem? (i := 40) rfl), rfl⟩
theorem wt_yX6_whiteCells : Cond.instanceMethod yX6_whiteCells ∈ WW := List.mem_filter.mpr ⟨wm_tables_1_4 _ (List.mem_of_getElem? (i := 42) rfl), rfl⟩
theorem wk_yX6_whiteCells : Cond.code yX6_whiteCells cX6_whiteCells 3 (some .int) ∈ WW := List.mem_filter.mpr ⟨wm_tables_1_4 _ (List.mem_of_getElem? (i := 43) rfl), rfl⟩
theorem wl_X6_145 : Cond.methodLink RX6 145 yX6_newColour ∈ WW := List.mem_filter.mpr ⟨wm_tables_1_4 _ (List.mem_of_getElem? (i := 44) rfl), rfl⟩
theorem wt_yX6_newColour : Cond.instanceMethod yX6_newColour ∈ WW := List.mem_filter.mpr ⟨wm_tables_1_4 _ (List.mem_of_getElem? (i := 46) rfl), rfl⟩
theorem wk_yX6_newColour : Cond.code yX6_newColour cX6_newColour 1 (some .int) ∈ WW := List.mem_filter.mpr ⟨wm_tables_1_4 _ (List.mem_of_getElem? (i := 47) rfl), rfl⟩
theorem wl_X6_148 : Cond.methodLink RX6 148 yX6_isFree ∈ WW := List.mem_filter.mpr ⟨wm_tables_1_4 _ (List.mem_of_getElem? (i := 48) rfl), rfl⟩
theorem wt_yX6_isFree : Cond.instanceMethod yX6_isFree ∈ WW := List.mem_filter.mpr ⟨wm_tables_1_4 _ (List.mem_of_getElem? (i := 50) rfl), rfl⟩
theorem wk_yX6_isFree : Cond.code yX6_isFree cX6_isFree 4 (some .boolean) ∈ WW := List.mem_filter.mpr ⟨wm_tables_1_4 _ (List.mem_of_getElem? (i := 51) rfl), rfl⟩
theorem wl_X6_159 : Cond.methodLink RX6 159 yX6_holds ∈ WW := List.mem_filter.mpr ⟨wm_tables_1_4 _ (List.mem_of_getElem? (i := 52) rfl), rfl⟩
theorem wt_yX6_holds : Cond.instanceMethod yX6_holds ∈ WW := List.mem_filter.mpr ⟨wm_tables_1_4 _ (List.mem_of_getElem? (i := 54) rfl), rfl⟩
theorem wk_yX6_holds : Cond.code yX6_holds cX6_holds 4 (some .int) ∈ WW := List.mem_filter.mpr ⟨wm_tables_1_4 _ (List.mem_of_getElem? (i := 55) rfl), rfl⟩
theorem wl_L_27 : Cond.methodLink RL 27 yX6_move ∈ WW := List.mem_filter.mpr ⟨wm_tables_1_4 _ (List.mem_of_getElem? (i := 56) rfl), rfl⟩
theorem wt_yX6_move : Cond.instanceMethod yX6_move ∈ WW := List.mem_filter.mpr ⟨wm_tables_1_4 _ (List.mem_of_getElem? (i := 57) rfl), rfl⟩
theorem ws_yX6_move : Cond.selects RX6 yX6_move yX6_move ∈ WW := List.mem_filter.mpr ⟨wm_tables_1_4 _ (List.mem_of_getElem? (i := 58) rfl), rfl⟩
theorem wk_yX6_move : Cond.code yX6_move cX6_move 4 (some .int) ∈ WW := List.mem_filter.mpr ⟨wm_tables_1_4 _ (List.mem_of_getElem? (i := 59) rfl), rfl⟩
theorem wl_X6_163 : Cond.methodLink RX6 163 yX6_held ∈ WW := List.mem_filter.mpr ⟨wm_tables_1_4 _ (List.mem_of_getElem? (i := 60) rfl), rfl⟩
theorem wt_yX6_held : Cond.instanceMethod yX6_held ∈ WW := List.mem_filter.mpr ⟨wm_tables_1_4 _ (List.mem_of_getElem? (i := 62) rfl), rfl⟩
theorem wk_yX6_held : Cond.code yX6_held cX6_held 3 (some .int) ∈ WW := List.mem_filter.mpr ⟨wm_tables_1_4 _ (List.mem_of_getElem? (i := 63) rfl), rfl⟩
theorem wl_L_32 : Cond.methodLink RL 32 yX6_get ∈ WW := List.mem_filter.mpr ⟨wm_tables_1_4 _ (List.mem_of_getElem? (i := 64) rfl), rfl⟩
theorem wt_yX6_get : Cond.instanceMethod yX6_get ∈ WW := List.mem_filter.mpr ⟨wm_tables_1_4 _ (List.mem_of_getElem? (i := 65) rfl), rfl⟩
theorem ws_yX6_get : Cond.selects RX6 yX6_get yX6_get ∈ WW := List.mem_filter.mpr ⟨wm_tables_1_4 _ (List.mem_of_getElem? (i := 66) rfl), rfl⟩
theorem wk_yX6_get : Cond.code yX6_get cX6_get 7 (some .int) ∈ WW := List.mem_filter.mpr ⟨wm_tables_1_4 _ (List.mem_of_getElem? (i := 67) rfl), rfl⟩
theorem wl_X6_167 : Cond.methodLink RX6 167 yX6_against ∈ WW := List.mem_filter.mpr ⟨wm_tables_1_4 _ (List.mem_of_getElem? (i := 68) rfl), rfl⟩
theorem wt_yX6_against : Cond.instanceMethod yX6_against ∈ WW := List.mem_filter.mpr ⟨wm_tables_1_4 _ (List.mem_of_getElem? (i := 70) rfl), rfl⟩
theorem wk_yX6_against : Cond.code yX6_against cX6_against 5 (some .int) ∈ WW := List.mem_filter.mpr ⟨wm_tables_1_4 _ (List.mem_of_getElem? (i := 71) rfl), rfl⟩
theorem wl_X6_170 : Cond.methodLink RX6 170 yX6_notes ∈ WW := List.mem_filter.mpr ⟨wm_tables_1_4 _ (List.mem_of_getElem? (i := 72) rfl), rfl⟩
theorem wt_yX6_notes : Cond.instanceMethod yX6_notes ∈ WW := List.mem_filter.mpr ⟨wm_tables_1_4 _ (List.mem_of_getElem? (i := 74) rfl), rfl⟩
theorem wk_yX6_notes : Cond.code yX6_notes cX6_notes 1 (some .boolean) ∈ WW := List.mem_filter.mpr ⟨wm_tables_1_4 _ (List.mem_of_getElem? (i := 75) rfl), rfl⟩
theorem wl_L_36 : Cond.methodLink RL 36 yX6_put ∈ WW := List.mem_filter.mpr ⟨wm_tables_1_4 _ (List.mem_of_getElem? (i := 76) rfl), rfl⟩
theorem wt_yX6_put : Cond.instanceMethod yX6_put ∈ WW := List.mem_filter.mpr ⟨wm_tables_1_4 _ (List.mem_of_getElem? (i := 77) rfl), rfl⟩
theorem ws_yX6_put : Cond.selects RX6 yX6_put yX6_put ∈ WW := List.mem_filter.mpr ⟨wm_tables_1_4 _ (List.mem_of_getElem? (i := 78) rfl), rfl⟩
theorem wk_yX6_put : Cond.code yX6_put cX6_put 7 (some .int) ∈ WW := List.mem_filter.mpr ⟨wm_tables_1_4 _ (List.mem_of_getElem? (i := 79) rfl), rfl⟩
theorem wl_L_40 : Cond.methodLink RL 40 yX6_drop ∈ WW := List.mem_filter.mpr ⟨wm_tables_1_4 _ (List.mem_of_getElem? (i := 80) rfl), rfl⟩
theorem wt_yX6_drop : Cond.instanceMethod yX6_drop ∈ WW := List.mem_filter.mpr ⟨wm_tables_1_4 _ (List.mem_of_getElem? (i := 81) rfl), rfl⟩
theorem ws_yX6_drop : Cond.selects RX6 yX6_drop yX6_drop ∈ WW := List.mem_filter.mpr ⟨wm_tables_1_4 _ (List.mem_of_getElem? (i := 82) rfl), rfl⟩
theorem wk_yX6_drop : Cond.code yX6_drop cX6_drop 4 (some .int) ∈ WW := List.mem_filter.mpr ⟨wm_tables_1_4 _ (List.mem_of_getElem? (i := 83) rfl), rfl⟩
theorem wl_L_44 : Cond.methodLink RL 44 yX6_store ∈ WW := List.mem_filter.mpr ⟨wm_tables_1_4 _ (List.mem_of_getElem? (i := 84) rfl), rfl⟩
theorem wt_yX6_store : Cond.instanceMethod yX6_store ∈ WW := List.mem_filter.mpr ⟨wm_tables_1_4 _ (List.mem_of_getElem? (i := 85) rfl), rfl⟩
theorem ws_yX6_store : Cond.selects RX6 yX6_store yX6_store ∈ WW := List.mem_filter.mpr ⟨wm_tables_1_4 _ (List.mem_of_getElem? (i := 86) rfl), rfl⟩
theorem wk_yX6_store : Cond.code yX6_store cX6_store 5 (some .int) ∈ WW := List.mem_filter.mpr ⟨wm_tables_1_4 _ (List.mem_of_getElem? (i := 87) rfl), rfl⟩
theorem wl_L_48 : Cond.methodLink RL 48 yX6_load ∈ WW := List.mem_filter.mpr ⟨wm_tables_1_4 _ (List.mem_of_getElem? (i := 88) rfl), rfl⟩
theorem wt_yX6_load : Cond.instanceMethod yX6_load ∈ WW := List.mem_filter.mpr ⟨wm_tables_1_4 _ (List.mem_of_getElem? (i := 89) rfl), rfl⟩
theorem ws_yX6_load : Cond.selects RX6 yX6_load yX6_load ∈ WW := List.mem_filter.mpr ⟨wm_tables_1_4 _ (List.mem_of_getElem? (i := 90) rfl), rfl⟩
theorem wk_yX6_load : Cond.code yX6_load cX6_load 4 (some .int) ∈ WW := List.mem_filter.mpr ⟨wm_tables_1_4 _ (List.mem_of_getElem? (i := 91) rfl), rfl⟩
theorem wl_L_52 : Cond.methodLink RL 52 yX6_same ∈ WW := List.mem_filter.mpr ⟨wm_tables_1_4 _ (List.mem_of_getElem? (i := 92) rfl), rfl⟩
theorem wt_yX6_same : Cond.instanceMethod yX6_same ∈ WW := List.mem_filter.mpr ⟨wm_tables_1_4 _ (List.mem_of_getElem? (i := 93) rfl), rfl⟩
theorem ws_yX6_same : Cond.selects RX6 yX6_same yX6_same ∈ WW := List.mem_filter.mpr ⟨wm_tables_1_4 _ (List.mem_of_getElem? (i := 94) rfl), rfl⟩
theorem wk_yX6_same : Cond.code yX6_same cX6_same 5 (some .int) ∈ WW := List.mem_filter.mpr ⟨wm_tables_1_4 _ (List.mem_of_getElem? (i := 95) rfl), rfl⟩
theorem wl_L_56 : Cond.methodLink RL 56 yX6_weak ∈ WW := List.mem_filter.mpr ⟨wm_tables_1_4 _ (List.mem_of_getElem? (i := 96) rfl), rfl⟩
theorem wt_yX6_weak : Cond.instanceMethod yX6_weak ∈ WW := List.mem_filter.mpr ⟨wm_tables_1_4 _ (List.mem_of_getElem? (i := 97) rfl), rfl⟩
theorem ws_yX6_weak : Cond.selects RX6 yX6_weak yX6_weak ∈ WW := List.mem_filter.mpr ⟨wm_tables_1_4 _ (List.mem_of_getElem? (i := 98) rfl), rfl⟩
theorem wk_yX6_weak : Cond.code yX6_weak cX6_weak 4 (some .int) ∈ WW := List.mem_filter.mpr ⟨wm_tables_1_4 _ (List.mem_of_getElem? (i := 99) rfl), rfl⟩
theorem wl_L_60 : Cond.methodLink RL 60 yX6_strong ∈ WW := List.mem_filter.mpr ⟨wm_tables_1_4 _ (List.mem_of_getElem? (i := 100) rfl), rfl⟩
theorem wt_yX6_strong : Cond.instanceMethod yX6_strong ∈ WW := List.mem_filter.mpr ⟨wm_tables_1_4 _ (List.mem_of_getElem? (i := 101) rfl), rfl⟩
theorem ws_yX6_strong : Cond.selects RX6 yX6_strong yX6_strong ∈ WW := List.mem_filter.mpr ⟨wm_tables_1_4 _ (List.mem_of_getElem? (i := 102) rfl), rfl⟩
theorem wk_yX6_strong : Cond.code yX6_strong cX6_strong 4 (some .int) ∈ WW := List.mem_filter.mpr ⟨wm_tables_1_4 _ (List.mem_of_getElem? (i := 103) rfl), rfl⟩
theorem wl_X6_173 : Cond.methodLink RX6 173 yX6_notesRead ∈ WW := List.mem_filter.mpr ⟨wm_tables_1_4 _ (List.mem_of_getElem? (i := 104) rfl), rfl⟩
theorem wt_yX6_notesRead : Cond.instanceMethod yX6_notesRead ∈ WW := List.mem_filter.mpr ⟨wm_tables_1_4 _ (List.mem_of_getElem? (i := 106) rfl), rfl⟩
theorem wk_yX6_notesRead : Cond.code yX6_notesRead cX6_notesRead 2 none ∈ WW := List.mem_filter.mpr ⟨wm_tables_1_4 _ (List.mem_of_getElem? (i := 107) rfl), rfl⟩
theorem wl_L_64 : Cond.methodLink RL 64 yX6_pair ∈ WW := List.mem_filter.mpr ⟨wm_tables_1_4 _ (List.mem_of_getElem? (i := 108) rfl), rfl⟩
theorem wt_yX6_pair : Cond.instanceMethod yX6_pair ∈ WW := List.mem_filter.mpr ⟨wm_tables_1_4 _ (List.mem_of_getElem? (i := 109) rfl), rfl⟩
theorem ws_yX6_pair : Cond.selects RX6 yX6_pair yX6_pair ∈ WW := List.mem_filter.mpr ⟨wm_tables_1_4 _ (List.mem_of_getElem? (i := 110) rfl), rfl⟩
theorem wk_yX6_pair : Cond.code yX6_pair cX6_pair 4 (some .int) ∈ WW := List.mem_filter.mpr ⟨wm_tables_1_4 _ (List.mem_of_getElem? (i := 111) rfl), rfl⟩
theorem wl_L_68 : Cond.methodLink RL 68 yX6_value ∈ WW := List.mem_filter.mpr ⟨wm_tables_1_4 _ (List.mem_of_getElem? (i := 112) rfl), rfl⟩
theorem wt_yX6_value : Cond.instanceMethod yX6_value ∈ WW := List.mem_filter.mpr ⟨wm_tables_1_4 _ (List.mem_of_getElem? (i := 113) rfl), rfl⟩
theorem ws_yX6_value : Cond.selects RX6 yX6_value yX6_value ∈ WW := List.mem_filter.mpr ⟨wm_tables_1_4 _ (List.mem_of_getElem? (i := 114) rfl), rfl⟩
theorem wk_yX6_value : Cond.code yX6_value cX6_value 5 (some .int) ∈ WW := List.mem_filter.mpr ⟨wm_tables_1_4 _ (List.mem_of_getElem? (i := 115) rfl), rfl⟩
theorem wl_L_72 : Cond.methodLink RL 72 yX6_wish ∈ WW := List.mem_filter.mpr ⟨wm_tables_1_4 _ (List.mem_of_getElem? (i := 116) rfl), rfl⟩
theorem wt_yX6_wish : Cond.instanceMethod yX6_wish ∈ WW := List.mem_filter.mpr ⟨wm_tables_1_4 _ (List.mem_of_getElem? (i := 117) rfl), rfl⟩
theorem ws_yX6_wish : Cond.selects RX6 yX6_wish yX6_wish ∈ WW := List.mem_filter.mpr ⟨wm_tables_1_4 _ (List.mem_of_getElem? (i := 118) rfl), rfl⟩
theorem wk_yX6_wish : Cond.code yX6_wish cX6_wish 5 (some .int) ∈ WW := List.mem_filter.mpr ⟨wm_tables_1_4 _ (List.mem_of_getElem? (i := 119) rfl), rfl⟩
theorem wl_L_90 : Cond.methodLink RL 90 yX6_about ∈ WW := List.mem_filter.mpr ⟨wm_tables_1_4 _ (List.mem_of_getElem? (i := 120) rfl), rfl⟩
theorem wt_yX6_about : Cond.instanceMethod yX6_about ∈ WW := List.mem_filter.mpr ⟨wm_tables_1_4 _ (List.mem_of_getElem? (i := 121) rfl), rfl⟩
theorem ws_yX6_about : Cond.selects RX6 yX6_about yX6_about ∈ WW := List.mem_filter.mpr ⟨wm_tables_1_4 _ (List.mem_of_getElem? (i := 122) rfl), rfl⟩
theorem wk_yX6_about : Cond.code yX6_about cX6_about 3 (some .int) ∈ WW := List.mem_filter.mpr ⟨wm_tables_1_4 _ (List.mem_of_getElem? (i := 123) rfl), rfl⟩
theorem wl_X6_186 : Cond.methodLink RX6 186 yX6_isThing ∈ WW := List.mem_filter.mpr ⟨wm_tables_1_4 _ (List.mem_of_getElem? (i := 124) rfl), rfl⟩
theorem wt_yX6_isThing : Cond.instanceMethod yX6_isThing ∈ WW := List.mem_filter.mpr ⟨wm_tables_1_4 _ (List.mem_of_getElem? (i := 126) rfl), rfl⟩
theorem wk_yX6_isThing : Cond.code yX6_isThing cX6_isThing 2 (some .boolean) ∈ WW := List.mem_filter.mpr ⟨wm_tables_1_4 _ (List.mem_of_getElem? (i := 127) rfl), rfl⟩
theorem wl_X6_189 : Cond.methodLink RX6 189 yX6_aboutOf ∈ WW := List.mem_filter.mpr ⟨wm_tables_1_4 _ (List.mem_of_getElem? (i := 128) rfl), rfl⟩
theorem wt_yX6_aboutOf : Cond.instanceMethod yX6_aboutOf ∈ WW := List.mem_filter.mpr ⟨wm_tables_1_4 _ (List.mem_of_getElem? (i := 130) rfl), rfl⟩
theorem wk_yX6_aboutOf : Cond.code yX6_aboutOf cX6_aboutOf 3 (some .int) ∈ WW := List.mem_filter.mpr ⟨wm_tables_1_4 _ (List.mem_of_getElem? (i := 131) rfl), rfl⟩
theorem wl_X6_183 : Cond.methodLink RX6 183 yX6_findReached ∈ WW := List.mem_filter.mpr ⟨wm_tables_1_4 _ (List.mem_of_getElem? (i := 132) rfl), rfl⟩
theorem wt_yX6_findReached : Cond.instanceMethod yX6_findReached ∈ WW := List.mem_filter.mpr ⟨wm_tables_1_4 _ (List.mem_of_getElem? (i := 134) rfl), rfl⟩
theorem wk_yX6_findReached : Cond.code yX6_findReached cX6_findReached 3 none ∈ WW := List.mem_filter.mpr ⟨wm_tables_1_4 _ (List.mem_of_getElem? (i := 135) rfl), rfl⟩
theorem wl_X6_180 : Cond.methodLink RX6 180 yX6_reach ∈ WW := List.mem_filter.mpr ⟨wm_tables_1_4 _ (List.mem_of_getElem? (i := 136) rfl), rfl⟩
theorem wt_yX6_reach : Cond.instanceMethod yX6_reach ∈ WW := List.mem_filter.mpr ⟨wm_tables_1_4 _ (List.mem_of_getElem? (i := 138) rfl), rfl⟩
theorem wk_yX6_reach : Cond.code yX6_reach cX6_reach 2 none ∈ WW := List.mem_filter.mpr ⟨wm_tables_1_4 _ (List.mem_of_getElem? (i := 139) rfl), rfl⟩
theorem wl_L_94 : Cond.methodLink RL 94 yX6_field ∈ WW := List.mem_filter.mpr ⟨wm_tables_1_4 _ (List.mem_of_getElem? (i := 140) rfl), rfl⟩
theorem wt_yX6_field : Cond.instanceMethod yX6_field ∈ WW := List.mem_filter.mpr ⟨wm_tables_1_4 _ (List.mem_of_getElem? (i := 141) rfl), rfl⟩
theorem ws_yX6_field : Cond.selects RX6 yX6_field yX6_field ∈ WW := List.mem_filter.mpr ⟨wm_tables_1_4 _ (List.mem_of_getElem? (i := 142) rfl), rfl⟩
theorem wk_yX6_field : Cond.code yX6_field cX6_field 3 (some .int) ∈ WW := List.mem_filter.mpr ⟨wm_tables_1_4 _ (List.mem_of_getElem? (i := 143) rfl), rfl⟩
theorem wl_L_98 : Cond.methodLink RL 98 yX6_holder ∈ WW := List.mem_filter.mpr ⟨wm_tables_1_4 _ (List.mem_of_getElem? (i := 144) rfl), rfl⟩
theorem wt_yX6_holder : Cond.instanceMethod yX6_holder ∈ WW := List.mem_filter.mpr ⟨wm_tables_1_4 _ (List.mem_of_getElem? (i := 145) rfl), rfl⟩
theorem ws_yX6_holder : Cond.selects RX6 yX6_holder yX6_holder ∈ WW := List.mem_filter.mpr ⟨wm_tables_1_4 _ (List.mem_of_getElem? (i := 146) rfl), rfl⟩
theorem wk_yX6_holder : Cond.code yX6_holder cX6_holder 2 (some .int) ∈ WW := List.mem_filter.mpr ⟨wm_tables_1_4 _ (List.mem_of_getElem? (i := 147) rfl), rfl⟩
theorem wl_L_102 : Cond.methodLink RL 102 yX6_cell ∈ WW := List.mem_filter.mpr ⟨wm_tables_1_4 _ (List.mem_of_getElem? (i := 148) rfl), rfl⟩
theorem wt_yX6_cell : Cond.instanceMethod yX6_cell ∈ WW := List.mem_filter.mpr ⟨wm_tables_1_4 _ (List.mem_of_getElem? (i := 149) rfl), rfl⟩
theorem ws_yX6_cell : Cond.selects RX6 yX6_cell yX6_cell ∈ WW := List.mem_filter.mpr ⟨wm_tables_1_4 _ (List.mem_of_getElem? (i := 150) rfl), rfl⟩
theorem wk_yX6_cell : Cond.code yX6_cell cX6_cell 2 (some .int) ∈ WW := List.mem_filter.mpr ⟨wm_tables_1_4 _ (List.mem_of_getElem? (i := 151) rfl), rfl⟩
theorem wl_X6_192 : Cond.methodLink RX6 192 yX6_cellOf ∈ WW := List.mem_filter.mpr ⟨wm_tables_1_4 _ (List.mem_of_getElem? (i := 152) rfl), rfl⟩
theorem wt_yX6_cellOf : Cond.instanceMethod yX6_cellOf ∈ WW := List.mem_filter.mpr ⟨wm_tables_1_4 _ (List.mem_of_getElem? (i := 154) rfl), rfl⟩
theorem wk_yX6_cellOf : Cond.code yX6_cellOf cX6_cellOf 3 (some .int) ∈ WW := List.mem_filter.mpr ⟨wm_tables_1_4 _ (List.mem_of_getElem? (i := 155) rfl), rfl⟩
theorem wl_L_106 : Cond.methodLink RL 106 yX6_count ∈ WW := List.mem_filter.mpr ⟨wm_tables_1_4 _ (List.mem_of_getElem? (i := 156) rfl), rfl⟩
theorem wt_yX6_count : Cond.instanceMethod yX6_count ∈ WW := List.mem_filter.mpr ⟨wm_tables_1_4 _ (List.mem_of_getElem? (i := 157) rfl), rfl⟩
theorem ws_yX6_count : Cond.selects RX6 yX6_count yX6_count ∈ WW := List.mem_filter.mpr ⟨wm_tables_1_4 _ (List.mem_of_getElem? (i := 158) rfl), rfl⟩
theorem wk_yX6_count : Cond.code yX6_count cX6_count 4 (some .int) ∈ WW := List.mem_filter.mpr ⟨wm_tables_1_4 _ (List.mem_of_getElem? (i := 159) rfl), rfl⟩
theorem wl_X6_195 : Cond.methodLink RX6 195 yX6_countThings ∈ WW := List.mem_filter.mpr ⟨wm_tables_1_4 _ (List.mem_of_getElem? (i := 160) rfl), rfl⟩
theorem wt_yX6_countThings : Cond.instanceMethod yX6_countThings ∈ WW := List.mem_filter.mpr ⟨wm_tables_1_4 _ (List.mem_of_getElem? (i := 162) rfl), rfl⟩
theorem wk_yX6_countThings : Cond.code yX6_countThings cX6_countThings 5 (some .int) ∈ WW := List.mem_filter.mpr ⟨wm_tables_1_4 _ (List.mem_of_getElem? (i := 163) rfl), rfl⟩
theorem wl_X6_198 : Cond.methodLink RX6 198 yX6_freeCells ∈ WW := List.mem_filter.mpr ⟨wm_tables_1_4 _ (List.mem_of_getElem? (i := 164) rfl), rfl⟩
theorem wt_yX6_freeCells : Cond.instanceMethod yX6_freeCells ∈ WW := List.mem_filter.mpr ⟨wm_tables_1_4 _ (List.mem_of_getElem? (i := 166) rfl), rfl⟩
theorem wk_yX6_freeCells : Cond.code yX6_freeCells cX6_freeCells 7 (some .int) ∈ WW := List.mem_filter.mpr ⟨wm_tables_1_4 _ (List.mem_of_getElem? (i := 167) rfl), rfl⟩
theorem wl_L_110 : Cond.methodLink RL 110 yX6_lost ∈ WW := List.mem_filter.mpr ⟨wm_tables_1_4 _ (List.mem_of_getElem? (i := 168) rfl), rfl⟩
theorem wt_yX6_lost : Cond.instanceMethod yX6_lost ∈ WW := List.mem_filter.mpr ⟨wm_tables_1_4 _ (List.mem_of_getElem? (i := 169) rfl), rfl⟩
theorem ws_yX6_lost : Cond.selects RX6 yX6_lost yX6_lost ∈ WW := List.mem_filter.mpr ⟨wm_tables_1_4 _ (List.mem_of_getElem? (i := 170) rfl), rfl⟩
theorem wk_yX6_lost : Cond.code yX6_lost cX6_lost 2 (some .int) ∈ WW := List.mem_filter.mpr ⟨wm_tables_1_4 _ (List.mem_of_getElem? (i := 171) rfl), rfl⟩
theorem wl_L_115 : Cond.methodLink RL 115 yX6_digest ∈ WW := List.mem_filter.mpr ⟨wm_tables_1_4 _ (List.mem_of_getElem? (i := 172) rfl), rfl⟩
theorem wt_yX6_digest : Cond.instanceMethod yX6_digest ∈ WW := List.mem_filter.mpr ⟨wm_tables_1_4 _ (List.mem_of_getElem? (i := 173) rfl), rfl⟩
theorem ws_yX6_digest : Cond.selects RX6 yX6_digest yX6_digest ∈ WW := List.mem_filter.mpr ⟨wm_tables_1_4 _ (List.mem_of_getElem? (i := 174) rfl), rfl⟩
theorem wk_yX6_digest : Cond.code yX6_digest cX6_digest 5 (some .long) ∈ WW := List.mem_filter.mpr ⟨wm_tables_1_4 _ (List.mem_of_getElem? (i := 175) rfl), rfl⟩
theorem wv_X6_202 : Cond.constantLong RX6 202 (3) ∈ WW := List.mem_filter.mpr ⟨wm_tables_1_4 _ (List.mem_of_getElem? (i := 176) rfl), rfl⟩
theorem wv_X6_204 : Cond.constantLong RX6 204 (31) ∈ WW := List.mem_filter.mpr ⟨wm_tables_1_4 _ (List.mem_of_getElem? (i := 177) rfl), rfl⟩
theorem wl_X6_206 : Cond.methodLink RX6 206 yX6_holder ∈ WW := List.mem_filter.mpr ⟨wm_tables_1_4 _ (List.mem_of_getElem? (i := 178) rfl), rfl⟩
theorem ws_yX5_empty : Cond.selects RX5 yX5_empty yX5_empty ∈ WW := List.mem_filter.mpr ⟨wm_p1 _ (List.mem_of_getElem? (i := 0) rfl), rfl⟩
theorem ws_yX5_colourOfNew : Cond.selects RX5 yX5_colourOfNew yX5_colourOfNew ∈ WW := List.mem_filter.mpr ⟨wm_p1 _ (List.mem_of_getElem? (i := 1) rfl), rfl⟩
theorem ws_yX5_placeOfNew : Cond.selects RX5 yX5_placeOfNew yX5_placeOfNew ∈ WW := List.mem_filter.mpr ⟨wm_p1 _ (List.mem_of_getElem? (i := 2) rfl), rfl⟩
theorem ws_yX5_inRegister : Cond.selects RX5 yX5_inRegister yX5_inRegister ∈ WW := List.mem_filter.mpr ⟨wm_p1 _ (List.mem_of_getElem? (i := 3) rfl), rfl⟩
theorem ws_yX5_refusalOfField : Cond.selects RX5 yX5_refusalOfField yX5_refusalOfField ∈ WW := List.mem_filter.mpr ⟨wm_p1 _ (List.mem_of_getElem? (i := 4) rfl), rfl⟩
theorem ws_yX5_note : Cond.selects RX5 yX5_note yX5_note ∈ WW := List.mem_filter.mpr ⟨wm_p1 _ (List.mem_of_getElem? (i := 5) rfl), rfl⟩
theorem ws_yX5_shade : Cond.selects RX5 yX5_shade yX5_shade ∈ WW := List.mem_filter.mpr ⟨wm_p1 _ (List.mem_of_getElem? (i := 6) rfl), rfl⟩
theorem ws_yX5_noteWeakRead : Cond.selects RX5 yX5_noteWeakRead yX5_noteWeakRead ∈ WW := List.mem_filter.mpr ⟨wm_p1 _ (List.mem_of_getElem? (i := 7) rfl), rfl⟩
theorem ws_yX5_startRound : Cond.selects RX5 yX5_startRound yX5_startRound ∈ WW := List.mem_filter.mpr ⟨wm_p1 _ (List.mem_of_getElem? (i := 8) rfl), rfl⟩
theorem ws_yX5_shadeHeld : Cond.selects RX5 yX5_shadeHeld yX5_shadeHeld ∈ WW := List.mem_filter.mpr ⟨wm_p1 _ (List.mem_of_getElem? (i := 9) rfl), rfl⟩
theorem ws_yX5_takeSteps : Cond.selects RX5 yX5_takeSteps yX5_takeSteps ∈ WW := List.mem_filter.mpr ⟨wm_p1 _ (List.mem_of_getElem? (i := 10) rfl), rfl⟩
theorem ws_yX5_markStep : Cond.selects RX5 yX5_markStep yX5_markStep ∈ WW := List.mem_filter.mpr ⟨wm_p1 _ (List.mem_of_getElem? (i := 11) rfl), rfl⟩
theorem ws_yX5_shadeFieldsOf : Cond.selects RX5 yX5_shadeFieldsOf yX5_shadeFieldsOf ∈ WW := List.mem_filter.mpr ⟨wm_p1 _ (List.mem_of_getElem? (i := 12) rfl), rfl⟩
theorem ws_yX5_shadeValues : Cond.selects RX5 yX5_shadeValues yX5_shadeValues ∈ WW := List.mem_filter.mpr ⟨wm_p1 _ (List.mem_of_getElem? (i := 13) rfl), rfl⟩
theorem ws_yX5_grantWishes : Cond.selects RX5 yX5_grantWishes yX5_grantWishes ∈ WW := List.mem_filter.mpr ⟨wm_p1 _ (List.mem_of_getElem? (i := 14) rfl), rfl⟩
theorem ws_yX5_endMarking : Cond.selects RX5 yX5_endMarking yX5_endMarking ∈ WW := List.mem_filter.mpr ⟨wm_p1 _ (List.mem_of_getElem? (i := 15) rfl), rfl⟩
theorem ws_yX5_freeIfWhite : Cond.selects RX5 yX5_freeIfWhite yX5_freeIfWhite ∈ WW := List.mem_filter.mpr ⟨wm_p2 _ (List.mem_of_getElem? (i := 0) rfl), rfl⟩
theorem ws_yX5_endRound : Cond.selects RX5 yX5_endRound yX5_endRound ∈ WW := List.mem_filter.mpr ⟨wm_p2 _ (List.mem_of_getElem? (i := 1) rfl), rfl⟩
theorem ws_yX5_sweepStep : Cond.selects RX5 yX5_sweepStep yX5_sweepStep ∈ WW := List.mem_filter.mpr ⟨wm_p2 _ (List.mem_of_getElem? (i := 2) rfl), rfl⟩
theorem ws_yX5_isReached : Cond.selects RX5 yX5_isReached yX5_isReached ∈ WW := List.mem_filter.mpr ⟨wm_p2 _ (List.mem_of_getElem? (i := 3) rfl), rfl⟩
theorem ws_yX3_forget : Cond.selects RX3 yX3_forget yX3_forget ∈ WW := List.mem_filter.mpr ⟨wm_p2 _ (List.mem_of_getElem? (i := 4) rfl), rfl⟩
theorem ws_yX3_add : Cond.selects RX3 yX3_add yX3_add ∈ WW := List.mem_filter.mpr ⟨wm_p2 _ (List.mem_of_getElem? (i := 5) rfl), rfl⟩
theorem ws_yX3_addValues : Cond.selects RX3 yX3_addValues yX3_addValues ∈ WW := List.mem_filter.mpr ⟨wm_p2 _ (List.mem_of_getElem? (i := 6) rfl), rfl⟩
theorem ws_yX3_addFields : Cond.selects RX3 yX3_addFields yX3_addFields ∈ WW := List.mem_filter.mpr ⟨wm_p2 _ (List.mem_of_getElem? (i := 7) rfl), rfl⟩
theorem ws_yX5_countByReach : Cond.selects RX5 yX5_countByReach yX5_countByReach ∈ WW := List.mem_filter.mpr ⟨wm_p2 _ (List.mem_of_getElem? (i := 8) rfl), rfl⟩
theorem ws_yX6_empties : Cond.selects RX6 yX6_empties yX6_empties ∈ WW := List.mem_filter.mpr ⟨wm_p2 _ (List.mem_of_getElem? (i := 9) rfl), rfl⟩
theorem ws_yX6_shadeHeld : Cond.selects RX6 yX6_shadeHeld yX6_shadeHeld ∈ WW := List.mem_filter.mpr ⟨wm_p2 _ (List.mem_of_getElem? (i := 10) rfl), rfl⟩
theorem ws_yX6_shade : Cond.selects RX6 yX6_shade yX6_shade ∈ WW := List.mem_filter.mpr ⟨wm_p2 _ (List.mem_of_getElem? (i := 11) rfl), rfl⟩
theorem ws_yX6_step : Cond.selects RX6 yX6_step yX6_step ∈ WW := List.mem_filter.mpr ⟨wm_p2 _ (List.mem_of_getElem? (i := 12) rfl), rfl⟩
theorem ws_yX6_marks : Cond.selects RX6 yX6_marks yX6_marks ∈ WW := List.mem_filter.mpr ⟨wm_p2 _ (List.mem_of_getElem? (i := 13) rfl), rfl⟩
theorem ws_yX6_leastGray : Cond.selects RX6 yX6_leastGray yX6_leastGray ∈ WW := List.mem_filter.mpr ⟨wm_p2 _ (List.mem_of_getElem? (i := 14) rfl), rfl⟩
theorem ws_yX6_findsMore : Cond.selects RX6 yX6_findsMore yX6_findsMore ∈ WW := List.mem_filter.mpr ⟨wm_p2 _ (List.mem_of_getElem? (i := 15) rfl), rfl⟩
theorem ws_yX6_isWhite : Cond.selects RX6 yX6_isWhite yX6_isWhite ∈ WW := List.mem_filter.mpr ⟨wm_p3 _ (List.mem_of_getElem? (i := 0) rfl), rfl⟩
theorem ws_yX6_wishes : Cond.selects RX6 yX6_wishes yX6_wishes ∈ WW := List.mem_filter.mpr ⟨wm_p3 _ (List.mem_of_getElem? (i := 1) rfl), rfl⟩
theorem ws_yX6_frees : Cond.selects RX6 yX6_frees yX6_frees ∈ WW := List.mem_filter.mpr ⟨wm_p3 _ (List.mem_of_getElem? (i := 2) rfl), rfl⟩
theorem ws_yX6_over : Cond.selects RX6 yX6_over yX6_over ∈ WW := List.mem_filter.mpr ⟨wm_p3 _ (List.mem_of_getElem? (i := 3) rfl), rfl⟩
theorem ws_yX6_sweeps : Cond.selects RX6 yX6_sweeps yX6_sweeps ∈ WW := List.mem_filter.mpr ⟨wm_p3 _ (List.mem_of_getElem? (i := 4) rfl), rfl⟩
theorem ws_yX6_newPlace : Cond.selects RX6 yX6_newPlace yX6_newPlace ∈ WW := List.mem_filter.mpr ⟨wm_p3 _ (List.mem_of_getElem? (i := 5) rfl), rfl⟩
theorem ws_yX6_whiteCells : Cond.selects RX6 yX6_whiteCells yX6_whiteCells ∈ WW := List.mem_filter.mpr ⟨wm_p3 _ (List.mem_of_getElem? (i := 6) rfl), rfl⟩
theorem ws_yX6_newColour : Cond.selects RX6 yX6_newColour yX6_newColour ∈ WW := List.mem_filter.mpr ⟨wm_p3 _ (List.mem_of_getElem? (i := 7) rfl), rfl⟩
theorem ws_yX6_isFree : Cond.selects RX6 yX6_isFree yX6_isFree ∈ WW := List.mem_filter.mpr ⟨wm_p3 _ (List.mem_of_getElem? (i := 8) rfl), rfl⟩
theorem ws_yX6_holds : Cond.selects RX6 yX6_holds yX6_holds ∈ WW := List.mem_filter.mpr ⟨wm_p3 _ (List.mem_of_getElem? (i := 9) rfl), rfl⟩
theorem ws_yX6_held : Cond.selects RX6 yX6_held yX6_held ∈ WW := List.mem_filter.mpr ⟨wm_p3 _ (List.mem_of_getElem? (i := 10) rfl), rfl⟩
theorem ws_yX6_against : Cond.selects RX6 yX6_against yX6_against ∈ WW := List.mem_filter.mpr ⟨wm_p3 _ (List.mem_of_getElem? (i := 11) rfl), rfl⟩
theorem ws_yX6_notes : Cond.selects RX6 yX6_notes yX6_notes ∈ WW := List.mem_filter.mpr ⟨wm_p3 _ (List.mem_of_getElem? (i := 12) rfl), rfl⟩
theorem ws_yX6_notesRead : Cond.selects RX6 yX6_notesRead yX6_notesRead ∈ WW := List.mem_filter.mpr ⟨wm_p3 _ (List.mem_of_getElem? (i := 13) rfl), rfl⟩
theorem ws_yX6_isThing : Cond.selects RX6 yX6_isThing yX6_isThing ∈ WW := List.mem_filter.mpr ⟨wm_p3 _ (List.mem_of_getElem? (i := 14) rfl), rfl⟩
theorem ws_yX6_aboutOf : Cond.selects RX6 yX6_aboutOf yX6_aboutOf ∈ WW := List.mem_filter.mpr ⟨wm_p3 _ (List.mem_of_getElem? (i := 15) rfl), rfl⟩
theorem ws_yX6_findReached : Cond.selects RX6 yX6_findReached yX6_findReached ∈ WW := List.mem_filter.mpr ⟨wm_p4 _ (List.mem_of_getElem? (i := 0) rfl), rfl⟩
theorem ws_yX6_reach : Cond.selects RX6 yX6_reach yX6_reach ∈ WW := List.mem_filter.mpr ⟨wm_p4 _ (List.mem_of_getElem? (i := 1) rfl), rfl⟩
theorem ws_yX6_cellOf : Cond.selects RX6 yX6_cellOf yX6_cellOf ∈ WW := List.mem_filter.mpr ⟨wm_p4 _ (List.mem_of_getElem? (i := 2) rfl), rfl⟩
theorem ws_yX6_countThings : Cond.selects RX6 yX6_countThings yX6_countThings ∈ WW := List.mem_filter.mpr ⟨wm_p4 _ (List.mem_of_getElem? (i := 3) rfl), rfl⟩
theorem ws_yX6_freeCells : Cond.selects RX6 yX6_freeCells yX6_freeCells ∈ WW := List.mem_filter.mpr ⟨wm_p4 _ (List.mem_of_getElem? (i := 4) rfl), rfl⟩
def NWl : List Cond := [.methodLinkNest RX5 11 yX4_init "AtticSweep", .fieldLinkNest RX5 48 "AtticSweep$Things" "made" "I" "AtticSweep", .methodLinkNest RX5 18 yX0_init "AtticSweep", .fieldLinkNest RX5 119 "AtticSweep$Cells" "behind" "I" "AtticSweep", .methodLinkNest RX5 25 yX1_init "AtticSweep", .fieldLinkNest RX3 22 "AtticSweep$Holders" "wishes" "I" "AtticSweep", .fieldLinkNest RX5 171 "AtticSweep$Holders" "wishes" "I" "AtticSweep", .methodLinkNest RX5 32 yX2_init "AtticSweep", .fieldLinkNest RX5 76 "AtticSweep$Pairs" "made" "I" "AtticSweep", .fieldLinkNest RX3 57 "AtticSweep$Pairs" "made" "I" "AtticSweep", .methodLinkNest RX5 39 yX3_init "AtticSweep", .methodLinkNest RX1 22 yX5_isWeakHolder "AtticSweep"]
theorem NWl_in : ∀ w ∈ NWl, w ∈ lw_tbl := by
  intro w hw
  simp only [NWl, List.mem_cons, List.not_mem_nil, or_false] at hw
  rcases hw with rfl | rfl | rfl | rfl | rfl | rfl | rfl | rfl | rfl | rfl | rfl | rfl
  · exact wm_tables_1_1 _ (List.mem_of_getElem? (i := 19) rfl)
  · exact wm_tables_1_1 _ (List.mem_of_getElem? (i := 24) rfl)
  · exact wm_tables_1_1 _ (List.mem_of_getElem? (i := 53) rfl)
  · exact wm_tables_1_1 _ (List.mem_of_getElem? (i := 60) rfl)
  · exact wm_tables_1_1 _ (List.mem_of_getElem? (i := 70) rfl)
  · exact wm_tables_1_1 _ (List.mem_of_getElem? (i := 77) rfl)
  · exact wm_tables_1_1 _ (List.mem_of_getElem? (i := 78) rfl)
  · exact wm_tables_1_1 _ (List.mem_of_getElem? (i := 88) rfl)
  · exact wm_tables_1_1 _ (List.mem_of_getElem? (i := 93) rfl)
  · exact wm_tables_1_1 _ (List.mem_of_getElem? (i := 94) rfl)
  · exact wm_tables_1_1 _ (List.mem_of_getElem? (i := 106) rfl)
  · exact wm_tables_1_2 _ (List.mem_of_getElem? (i := 89) rfl)
theorem wx_X0 : ∀ w ∈ wsX00, w ∈ WW := by
  intro w hw
  obtain ⟨k, hk, rfl⟩ := List.mem_map.mp hw
  have hk : k < 3 := List.mem_range.mp hk
  match k, hk with
  | 0, _ => exact wy_X0_things
  | 1, _ => exact wy_X0_halfEnd
  | 2, _ => exact wy_X0_behind
  | k + 3, h => exact absurd h (by omega)
theorem wx_X1 : ∀ w ∈ wsX10, w ∈ WW := by
  intro w hw
  obtain ⟨k, hk, rfl⟩ := List.mem_map.mp hw
  have hk : k < 3 := List.mem_range.mp hk
  match k, hk with
  | 0, _ => exact wy_X1_held
  | 1, _ => exact wy_X1_named
  | 2, _ => exact wy_X1_wishes
  | k + 3, h => exact absurd h (by omega)
theorem wx_X2 : ∀ w ∈ wsX20, w ∈ WW := by
  intro w hw
  obtain ⟨k, hk, rfl⟩ := List.mem_map.mp hw
  have hk : k < 3 := List.mem_range.mp hk
  match k, hk with
  | 0, _ => exact wy_X2_made
  | 1, _ => exact wy_X2_keys
  | 2, _ => exact wy_X2_values
  | k + 3, h => exact absurd h (by omega)
theorem wx_X3 : ∀ w ∈ wsX30, w ∈ WW := by
  intro w hw
  obtain ⟨k, hk, rfl⟩ := List.mem_map.mp hw
  have hk : k < 3 := List.mem_range.mp hk
  match k, hk with
  | 0, _ => exact wy_X3_found
  | 1, _ => exact wy_X3_order
  | 2, _ => exact wy_X3_count
  | k + 3, h => exact absurd h (by omega)
theorem wx_X4 : ∀ w ∈ wsX40, w ∈ WW := by
  intro w hw
  obtain ⟨k, hk, rfl⟩ := List.mem_map.mp hw
  have hk : k < 8 := List.mem_range.mp hk
  match k, hk with
  | 0, _ => exact wy_X4_made
  | 1, _ => exact wy_X4_sizes
  | 2, _ => exact wy_X4_places
  | 3, _ => exact wy_X4_colours
  | 4, _ => exact wy_X4_moves
  | 5, _ => exact wy_X4_freed
  | 6, _ => exact wy_X4_wishing
  | 7, _ => exact wy_X4_held
  | k + 8, h => exact absurd h (by omega)
theorem wx_X5 : ∀ w ∈ wsX50, w ∈ WW := by
  intro w hw
  obtain ⟨k, hk, rfl⟩ := List.mem_map.mp hw
  have hk : k < 13 := List.mem_range.mp hk
  match k, hk with
  | 0, _ => exact wy_X5_things
  | 1, _ => exact wy_X5_cells
  | 2, _ => exact wy_X5_holders
  | 3, _ => exact wy_X5_pairs
  | 4, _ => exact wy_X5_reach
  | 5, _ => exact wy_X5_manner
  | 6, _ => exact wy_X5_fault
  | 7, _ => exact wy_X5_underWay
  | 8, _ => exact wy_X5_nextToSweep
  | 9, _ => exact wy_X5_rounds
  | 10, _ => exact wy_X5_steps
  | 11, _ => exact wy_X5_shaded
  | 12, _ => exact wy_X5_moved
  | k + 13, h => exact absurd h (by omega)
theorem wx_X6 : ∀ w ∈ wsX60, w ∈ WW := by
  intro w hw
  obtain ⟨k, hk, rfl⟩ := List.mem_map.mp hw
  have hk : k < 30 := List.mem_range.mp hk
  match k, hk with
  | 0, _ => exact wy_X6_manner
  | 1, _ => exact wy_X6_fault
  | 2, _ => exact wy_X6_things
  | 3, _ => exact wy_X6_many
  | 4, _ => exact wy_X6_field
  | 5, _ => exact wy_X6_place
  | 6, _ => exact wy_X6_colour
  | 7, _ => exact wy_X6_isFreed
  | 8, _ => exact wy_X6_hasWish
  | 9, _ => exact wy_X6_moved
  | 10, _ => exact wy_X6_register
  | 11, _ => exact wy_X6_slot
  | 12, _ => exact wy_X6_wishes
  | 13, _ => exact wy_X6_wishAt
  | 14, _ => exact wy_X6_weakAt
  | 15, _ => exact wy_X6_pairs
  | 16, _ => exact wy_X6_key
  | 17, _ => exact wy_X6_value
  | 18, _ => exact wy_X6_isPair
  | 19, _ => exact wy_X6_half
  | 20, _ => exact wy_X6_top
  | 21, _ => exact wy_X6_way
  | 22, _ => exact wy_X6_next
  | 23, _ => exact wy_X6_freedMany
  | 24, _ => exact wy_X6_rounds
  | 25, _ => exact wy_X6_steps
  | 26, _ => exact wy_X6_shaded
  | 27, _ => exact wy_X6_movedMany
  | 28, _ => exact wy_X6_isReached
  | 29, _ => exact wy_X6_more
  | k + 30, h => exact absurd h (by omega)
end
section
theorem dX0_init_0 : decode cX0_init 0 = .ok (.aload_n 0, 1) := by decide +kernel
theorem dX0_init_1 : decode cX0_init 1 = .ok (.invokespecial 3, 3) := by decide +kernel
theorem dX0_init_4 : decode cX0_init 4 = .ok (.aload_n 0, 1) := by decide +kernel
theorem dX0_init_5 : decode cX0_init 5 = .ok (.sipush 200, 3) := by decide +kernel
theorem dX0_init_8 : decode cX0_init 8 = .ok (.newarray .int, 2) := by decide +kernel
theorem dX0_init_10 : decode cX0_init 10 = .ok (.putfield 9, 3) := by decide +kernel
theorem dX0_init_13 : decode cX0_init 13 = .ok (.return_, 1) := by decide +kernel
theorem dX0_empty_0 : decode cX0_empty 0 = .ok (.iconst 0, 1) := by decide +kernel
theorem dX0_empty_1 : decode cX0_empty 1 = .ok (.istore_n 1, 1) := by decide +kernel
theorem dX0_empty_2 : decode cX0_empty 2 = .ok (.iload_n 1, 1) := by decide +kernel
theorem dX0_empty_3 : decode cX0_empty 3 = .ok (.sipush 200, 3) := by decide +kernel
theorem dX0_empty_6 : decode cX0_empty 6 = .ok (.if_icmp .ge 16, 3) := by decide +kernel
theorem dX0_empty_9 : decode cX0_empty 9 = .ok (.aload_n 0, 1) := by decide +kernel
theorem dX0_empty_10 : decode cX0_empty 10 = .ok (.getfield 9, 3) := by decide +kernel
theorem dX0_empty_13 : decode cX0_empty 13 = .ok (.iload_n 1, 1) := by decide +kernel
theorem dX0_empty_14 : decode cX0_empty 14 = .ok (.iconst (-1), 1) := by decide +kernel
theorem dX0_empty_15 : decode cX0_empty 15 = .ok (.iastore, 1) := by decide +kernel
theorem dX0_empty_16 : decode cX0_empty 16 = .ok (.iinc 1 1, 3) := by decide +kernel
theorem dX0_empty_19 : decode cX0_empty 19 = .ok (.goto (-17), 3) := by decide +kernel
theorem dX0_empty_22 : decode cX0_empty 22 = .ok (.aload_n 0, 1) := by decide +kernel
theorem dX0_empty_23 : decode cX0_empty 23 = .ok (.iconst 0, 1) := by decide +kernel
theorem dX0_empty_24 : decode cX0_empty 24 = .ok (.putfield 15, 3) := by decide +kernel
theorem dX0_empty_27 : decode cX0_empty 27 = .ok (.aload_n 0, 1) := by decide +kernel
theorem dX0_empty_28 : decode cX0_empty 28 = .ok (.bipush 100, 2) := by decide +kernel
theorem dX0_empty_30 : decode cX0_empty 30 = .ok (.putfield 19, 3) := by decide +kernel
theorem dX0_empty_33 : decode cX0_empty 33 = .ok (.return_, 1) := by decide +kernel
theorem dX0_changeHalves_0 : decode cX0_changeHalves 0 = .ok (.aload_n 0, 1) := by decide +kernel
theorem dX0_changeHalves_1 : decode cX0_changeHalves 1 = .ok (.aload_n 0, 1) := by decide +kernel
theorem dX0_changeHalves_2 : decode cX0_changeHalves 2 = .ok (.getfield 19, 3) := by decide +kernel
theorem dX0_changeHalves_5 : decode cX0_changeHalves 5 = .ok (.bipush 100, 2) := by decide +kernel
theorem dX0_changeHalves_7 : decode cX0_changeHalves 7 = .ok (.if_icmp .ne 8, 3) := by decide +kernel
theorem dX0_changeHalves_10 : decode cX0_changeHalves 10 = .ok (.bipush 100, 2) := by decide +kernel
theorem dX0_changeHalves_12 : decode cX0_changeHalves 12 = .ok (.goto 4, 3) := by decide +kernel
theorem dX0_changeHalves_15 : decode cX0_changeHalves 15 = .ok (.iconst 0, 1) := by decide +kernel
theorem dX0_changeHalves_16 : decode cX0_changeHalves 16 = .ok (.putfield 15, 3) := by decide +kernel
theorem dX0_changeHalves_19 : decode cX0_changeHalves 19 = .ok (.aload_n 0, 1) := by decide +kernel
theorem dX0_changeHalves_20 : decode cX0_changeHalves 20 = .ok (.aload_n 0, 1) := by decide +kernel
theorem dX0_changeHalves_21 : decode cX0_changeHalves 21 = .ok (.getfield 15, 3) := by decide +kernel
theorem dX0_changeHalves_24 : decode cX0_changeHalves 24 = .ok (.bipush 100, 2) := by decide +kernel
theorem dX0_changeHalves_26 : decode cX0_changeHalves 26 = .ok (.iadd, 1) := by decide +kernel
theorem dX0_changeHalves_27 : decode cX0_changeHalves 27 = .ok (.putfield 19, 3) := by decide +kernel
theorem dX0_changeHalves_30 : decode cX0_changeHalves 30 = .ok (.return_, 1) := by decide +kernel
theorem dX0_leftBehind_0 : decode cX0_leftBehind 0 = .ok (.aload_n 0, 1) := by decide +kernel
theorem dX0_leftBehind_1 : decode cX0_leftBehind 1 = .ok (.getfield 19, 3) := by decide +kernel
theorem dX0_leftBehind_4 : decode cX0_leftBehind 4 = .ok (.aload_n 0, 1) := by decide +kernel
theorem dX0_leftBehind_5 : decode cX0_leftBehind 5 = .ok (.getfield 15, 3) := by decide +kernel
theorem dX0_leftBehind_8 : decode cX0_leftBehind 8 = .ok (.isub, 1) := by decide +kernel
theorem dX0_leftBehind_9 : decode cX0_leftBehind 9 = .ok (.ireturn, 1) := by decide +kernel
theorem dX0_thingAt_0 : decode cX0_thingAt 0 = .ok (.iload_n 1, 1) := by decide +kernel
theorem dX0_thingAt_1 : decode cX0_thingAt 1 = .ok (.ifCond .lt 19, 3) := by decide +kernel
theorem dX0_thingAt_4 : decode cX0_thingAt 4 = .ok (.iload_n 1, 1) := by decide +kernel
theorem dX0_thingAt_5 : decode cX0_thingAt 5 = .ok (.sipush 200, 3) := by decide +kernel
theorem dX0_thingAt_8 : decode cX0_thingAt 8 = .ok (.if_icmp .ge 12, 3) := by decide +kernel
theorem dX0_thingAt_11 : decode cX0_thingAt 11 = .ok (.aload_n 0, 1) := by decide +kernel
theorem dX0_thingAt_12 : decode cX0_thingAt 12 = .ok (.getfield 9, 3) := by decide +kernel
theorem dX0_thingAt_15 : decode cX0_thingAt 15 = .ok (.iload_n 1, 1) := by decide +kernel
theorem dX0_thingAt_16 : decode cX0_thingAt 16 = .ok (.iaload, 1) := by decide +kernel
theorem dX0_thingAt_17 : decode cX0_thingAt 17 = .ok (.goto 4, 3) := by decide +kernel
theorem dX0_thingAt_20 : decode cX0_thingAt 20 = .ok (.iconst (-1), 1) := by decide +kernel
theorem dX0_thingAt_21 : decode cX0_thingAt 21 = .ok (.ireturn, 1) := by decide +kernel
theorem dX0_assign_0 : decode cX0_assign 0 = .ok (.iload_n 1, 1) := by decide +kernel
theorem dX0_assign_1 : decode cX0_assign 1 = .ok (.istore 4, 2) := by decide +kernel
theorem dX0_assign_3 : decode cX0_assign 3 = .ok (.iload 4, 2) := by decide +kernel
theorem dX0_assign_5 : decode cX0_assign 5 = .ok (.iload_n 1, 1) := by decide +kernel
theorem dX0_assign_6 : decode cX0_assign 6 = .ok (.iload_n 2, 1) := by decide +kernel
theorem dX0_assign_7 : decode cX0_assign 7 = .ok (.iadd, 1) := by decide +kernel
theorem dX0_assign_8 : decode cX0_assign 8 = .ok (.if_icmp .ge 30, 3) := by decide +kernel
theorem dX0_assign_11 : decode cX0_assign 11 = .ok (.iload 4, 2) := by decide +kernel
theorem dX0_assign_13 : decode cX0_assign 13 = .ok (.ifCond .lt 19, 3) := by decide +kernel
theorem dX0_assign_16 : decode cX0_assign 16 = .ok (.iload 4, 2) := by decide +kernel
theorem dX0_assign_18 : decode cX0_assign 18 = .ok (.sipush 200, 3) := by decide +kernel
theorem dX0_assign_21 : decode cX0_assign 21 = .ok (.if_icmp .ge 11, 3) := by decide +kernel
theorem dX0_assign_24 : decode cX0_assign 24 = .ok (.aload_n 0, 1) := by decide +kernel
theorem dX0_assign_25 : decode cX0_assign 25 = .ok (.getfield 9, 3) := by decide +kernel
theorem dX0_assign_28 : decode cX0_assign 28 = .ok (.iload 4, 2) := by decide +kernel
theorem dX0_assign_30 : decode cX0_assign 30 = .ok (.iload_n 3, 1) := by decide +kernel
theorem dX0_assign_31 : decode cX0_assign 31 = .ok (.iastore, 1) := by decide +kernel
theorem dX0_assign_32 : decode cX0_assign 32 = .ok (.iinc 4 1, 3) := by decide +kernel
theorem dX0_assign_35 : decode cX0_assign 35 = .ok (.goto (-32), 3) := by decide +kernel
theorem dX0_assign_38 : decode cX0_assign 38 = .ok (.return_, 1) := by decide +kernel
theorem dX0_takeBehind_0 : decode cX0_takeBehind 0 = .ok (.aload_n 0, 1) := by decide +kernel
theorem dX0_takeBehind_1 : decode cX0_takeBehind 1 = .ok (.aload_n 0, 1) := by decide +kernel
theorem dX0_takeBehind_2 : decode cX0_takeBehind 2 = .ok (.getfield 15, 3) := by decide +kernel
theorem dX0_takeBehind_5 : decode cX0_takeBehind 5 = .ok (.iload_n 1, 1) := by decide +kernel
theorem dX0_takeBehind_6 : decode cX0_takeBehind 6 = .ok (.iload_n 2, 1) := by decide +kernel
theorem dX0_takeBehind_7 : decode cX0_takeBehind 7 = .ok (.invokevirtual 22, 3) := by decide +kernel
theorem dX0_takeBehind_10 : decode cX0_takeBehind 10 = .ok (.aload_n 0, 1) := by decide +kernel
theorem dX0_takeBehind_11 : decode cX0_takeBehind 11 = .ok (.dup, 1) := by decide +kernel
theorem dX0_takeBehind_12 : decode cX0_takeBehind 12 = .ok (.getfield 15, 3) := by decide +kernel
theorem dX0_takeBehind_15 : decode cX0_takeBehind 15 = .ok (.iload_n 1, 1) := by decide +kernel
theorem dX0_takeBehind_16 : decode cX0_takeBehind 16 = .ok (.iadd, 1) := by decide +kernel
theorem dX0_takeBehind_17 : decode cX0_takeBehind 17 = .ok (.putfield 15, 3) := by decide +kernel
theorem dX0_takeBehind_20 : decode cX0_takeBehind 20 = .ok (.return_, 1) := by decide +kernel
theorem dX0_leastPlace_0 : decode cX0_leastPlace 0 = .ok (.iconst 0, 1) := by decide +kernel
theorem dX0_leastPlace_1 : decode cX0_leastPlace 1 = .ok (.istore_n 2, 1) := by decide +kernel
theorem dX0_leastPlace_2 : decode cX0_leastPlace 2 = .ok (.iconst 0, 1) := by decide +kernel
theorem dX0_leastPlace_3 : decode cX0_leastPlace 3 = .ok (.istore_n 3, 1) := by decide +kernel
theorem dX0_leastPlace_4 : decode cX0_leastPlace 4 = .ok (.iload_n 3, 1) := by decide +kernel
theorem dX0_leastPlace_5 : decode cX0_leastPlace 5 = .ok (.sipush 200, 3) := by decide +kernel
theorem dX0_leastPlace_8 : decode cX0_leastPlace 8 = .ok (.if_icmp .ge 38, 3) := by decide +kernel
theorem dX0_leastPlace_11 : decode cX0_leastPlace 11 = .ok (.aload_n 0, 1) := by decide +kernel
theorem dX0_leastPlace_12 : decode cX0_leastPlace 12 = .ok (.getfield 9, 3) := by decide +kernel
theorem dX0_leastPlace_15 : decode cX0_leastPlace 15 = .ok (.iload_n 3, 1) := by decide +kernel
theorem dX0_leastPlace_16 : decode cX0_leastPlace 16 = .ok (.iaload, 1) := by decide +kernel
theorem dX0_leastPlace_17 : decode cX0_leastPlace 17 = .ok (.iconst (-1), 1) := by decide +kernel
theorem dX0_leastPlace_18 : decode cX0_leastPlace 18 = .ok (.if_icmp .ne 9, 3) := by decide +kernel
theorem dX0_leastPlace_21 : decode cX0_leastPlace 21 = .ok (.iload_n 2, 1) := by decide +kernel
theorem dX0_leastPlace_22 : decode cX0_leastPlace 22 = .ok (.iconst 1, 1) := by decide +kernel
theorem dX0_leastPlace_23 : decode cX0_leastPlace 23 = .ok (.iadd, 1) := by decide +kernel
theorem dX0_leastPlace_24 : decode cX0_leastPlace 24 = .ok (.goto 4, 3) := by decide +kernel
theorem dX0_leastPlace_27 : decode cX0_leastPlace 27 = .ok (.iconst 0, 1) := by decide +kernel
theorem dX0_leastPlace_28 : decode cX0_leastPlace 28 = .ok (.istore_n 2, 1) := by decide +kernel
theorem dX0_leastPlace_29 : decode cX0_leastPlace 29 = .ok (.iload_n 2, 1) := by decide +kernel
theorem dX0_leastPlace_30 : decode cX0_leastPlace 30 = .ok (.iload_n 1, 1) := by decide +kernel
theorem dX0_leastPlace_31 : decode cX0_leastPlace 31 = .ok (.if_icmp .ne 9, 3) := by decide +kernel
theorem dX0_leastPlace_34 : decode cX0_leastPlace 34 = .ok (.iload_n 3, 1) := by decide +kernel
theorem dX0_leastPlace_35 : decode cX0_leastPlace 35 = .ok (.iconst 1, 1) := by decide +kernel
theorem dX0_leastPlace_36 : decode cX0_leastPlace 36 = .ok (.iadd, 1) := by decide +kernel
theorem dX0_leastPlace_37 : decode cX0_leastPlace 37 = .ok (.iload_n 1, 1) := by decide +kernel
theorem dX0_leastPlace_38 : decode cX0_leastPlace 38 = .ok (.isub, 1) := by decide +kernel
theorem dX0_leastPlace_39 : decode cX0_leastPlace 39 = .ok (.ireturn, 1) := by decide +kernel
theorem dX0_leastPlace_40 : decode cX0_leastPlace 40 = .ok (.iinc 3 1, 3) := by decide +kernel
theorem dX0_leastPlace_43 : decode cX0_leastPlace 43 = .ok (.goto (-39), 3) := by decide +kernel
theorem dX0_leastPlace_46 : decode cX0_leastPlace 46 = .ok (.iconst (-1), 1) := by decide +kernel
theorem dX0_leastPlace_47 : decode cX0_leastPlace 47 = .ok (.ireturn, 1) := by decide +kernel
theorem dX0_countFree_0 : decode cX0_countFree 0 = .ok (.iconst 0, 1) := by decide +kernel
theorem dX0_countFree_1 : decode cX0_countFree 1 = .ok (.istore_n 1, 1) := by decide +kernel
theorem dX0_countFree_2 : decode cX0_countFree 2 = .ok (.iconst 0, 1) := by decide +kernel
theorem dX0_countFree_3 : decode cX0_countFree 3 = .ok (.istore_n 2, 1) := by decide +kernel
theorem dX0_countFree_4 : decode cX0_countFree 4 = .ok (.iload_n 2, 1) := by decide +kernel
theorem dX0_countFree_5 : decode cX0_countFree 5 = .ok (.sipush 200, 3) := by decide +kernel
theorem dX0_countFree_8 : decode cX0_countFree 8 = .ok (.if_icmp .ge 22, 3) := by decide +kernel
theorem dX0_countFree_11 : decode cX0_countFree 11 = .ok (.aload_n 0, 1) := by decide +kernel
theorem dX0_countFree_12 : decode cX0_countFree 12 = .ok (.getfield 9, 3) := by decide +kernel
theorem dX0_countFree_15 : decode cX0_countFree 15 = .ok (.iload_n 2, 1) := by decide +kernel
theorem dX0_countFree_16 : decode cX0_countFree 16 = .ok (.iaload, 1) := by decide +kernel
theorem dX0_countFree_17 : decode cX0_countFree 17 = .ok (.iconst (-1), 1) := by decide +kernel
theorem dX0_countFree_18 : decode cX0_countFree 18 = .ok (.if_icmp .ne 6, 3) := by decide +kernel
theorem dX0_countFree_21 : decode cX0_countFree 21 = .ok (.iinc 1 1, 3) := by decide +kernel
theorem dX0_countFree_24 : decode cX0_countFree 24 = .ok (.iinc 2 1, 3) := by decide +kernel
theorem dX0_countFree_27 : decode cX0_countFree 27 = .ok (.goto (-23), 3) := by decide +kernel
theorem dX0_countFree_30 : decode cX0_countFree 30 = .ok (.iload_n 1, 1) := by decide +kernel
theorem dX0_countFree_31 : decode cX0_countFree 31 = .ok (.ireturn, 1) := by decide +kernel
theorem dX0_longestFree_0 : decode cX0_longestFree 0 = .ok (.iconst 0, 1) := by decide +kernel
theorem dX0_longestFree_1 : decode cX0_longestFree 1 = .ok (.istore_n 1, 1) := by decide +kernel
theorem dX0_longestFree_2 : decode cX0_longestFree 2 = .ok (.iconst 0, 1) := by decide +kernel
theorem dX0_longestFree_3 : decode cX0_longestFree 3 = .ok (.istore_n 2, 1) := by decide +kernel
theorem dX0_longestFree_4 : decode cX0_longestFree 4 = .ok (.iconst 0, 1) := by decide +kernel
theorem dX0_longestFree_5 : decode cX0_longestFree 5 = .ok (.istore_n 3, 1) := by decide +kernel
theorem dX0_longestFree_6 : decode cX0_longestFree 6 = .ok (.iload_n 3, 1) := by decide +kernel
theorem dX0_longestFree_7 : decode cX0_longestFree 7 = .ok (.sipush 200, 3) := by decide +kernel
theorem dX0_longestFree_10 : decode cX0_longestFree 10 = .ok (.if_icmp .ge 33, 3) := by decide +kernel
theorem dX0_longestFree_13 : decode cX0_longestFree 13 = .ok (.aload_n 0, 1) := by decide +kernel
theorem dX0_longestFree_14 : decode cX0_longestFree 14 = .ok (.getfield 9, 3) := by decide +kernel
theorem dX0_longestFree_17 : decode cX0_longestFree 17 = .ok (.iload_n 3, 1) := by decide +kernel
theorem dX0_longestFree_18 : decode cX0_longestFree 18 = .ok (.iaload, 1) := by decide +kernel
theorem dX0_longestFree_19 : decode cX0_longestFree 19 = .ok (.iconst (-1), 1) := by decide +kernel
theorem dX0_longestFree_20 : decode cX0_longestFree 20 = .ok (.if_icmp .ne 9, 3) := by decide +kernel
theorem dX0_longestFree_23 : decode cX0_longestFree 23 = .ok (.iload_n 2, 1) := by decide +kernel
theorem dX0_longestFree_24 : decode cX0_longestFree 24 = .ok (.iconst 1, 1) := by decide +kernel
theorem dX0_longestFree_25 : decode cX0_longestFree 25 = .ok (.iadd, 1) := by decide +kernel
theorem dX0_longestFree_26 : decode cX0_longestFree 26 = .ok (.goto 4, 3) := by decide +kernel
theorem dX0_longestFree_29 : decode cX0_longestFree 29 = .ok (.iconst 0, 1) := by decide +kernel
theorem dX0_longestFree_30 : decode cX0_longestFree 30 = .ok (.istore_n 2, 1) := by decide +kernel
theorem dX0_longestFree_31 : decode cX0_longestFree 31 = .ok (.iload_n 1, 1) := by decide +kernel
theorem dX0_longestFree_32 : decode cX0_longestFree 32 = .ok (.iload_n 2, 1) := by decide +kernel
theorem dX0_longestFree_33 : decode cX0_longestFree 33 = .ok (.invokestatic 26, 3) := by decide +kernel
theorem dX0_longestFree_36 : decode cX0_longestFree 36 = .ok (.istore_n 1, 1) := by decide +kernel
theorem dX0_longestFree_37 : decode cX0_longestFree 37 = .ok (.iinc 3 1, 3) := by decide +kernel
theorem dX0_longestFree_40 : decode cX0_longestFree 40 = .ok (.goto (-34), 3) := by decide +kernel
theorem dX0_longestFree_43 : decode cX0_longestFree 43 = .ok (.iload_n 1, 1) := by decide +kernel
theorem dX0_longestFree_44 : decode cX0_longestFree 44 = .ok (.ireturn, 1) := by decide +kernel
theorem dX1_init_0 : decode cX1_init 0 = .ok (.aload_n 0, 1) := by decide +kernel
theorem dX1_init_1 : decode cX1_init 1 = .ok (.invokespecial 3, 3) := by decide +kernel
theorem dX1_init_4 : decode cX1_init 4 = .ok (.aload_n 0, 1) := by decide +kernel
theorem dX1_init_5 : decode cX1_init 5 = .ok (.sipush 136, 3) := by decide +kernel
theorem dX1_init_8 : decode cX1_init 8 = .ok (.newarray .int, 2) := by decide +kernel
theorem dX1_init_10 : decode cX1_init 10 = .ok (.putfield 9, 3) := by decide +kernel
theorem dX1_init_13 : decode cX1_init 13 = .ok (.aload_n 0, 1) := by decide +kernel
theorem dX1_init_14 : decode cX1_init 14 = .ok (.bipush 6, 2) := by decide +kernel
theorem dX1_init_16 : decode cX1_init 16 = .ok (.newarray .int, 2) := by decide +kernel
theorem dX1_init_18 : decode cX1_init 18 = .ok (.putfield 15, 3) := by decide +kernel
theorem dX1_init_21 : decode cX1_init 21 = .ok (.return_, 1) := by decide +kernel
theorem dX1_empty_0 : decode cX1_empty 0 = .ok (.iconst 0, 1) := by decide +kernel
theorem dX1_empty_1 : decode cX1_empty 1 = .ok (.istore_n 1, 1) := by decide +kernel
theorem dX1_empty_2 : decode cX1_empty 2 = .ok (.iload_n 1, 1) := by decide +kernel
theorem dX1_empty_3 : decode cX1_empty 3 = .ok (.bipush 16, 2) := by decide +kernel
theorem dX1_empty_5 : decode cX1_empty 5 = .ok (.if_icmp .ge 16, 3) := by decide +kernel
theorem dX1_empty_8 : decode cX1_empty 8 = .ok (.aload_n 0, 1) := by decide +kernel
theorem dX1_empty_9 : decode cX1_empty 9 = .ok (.getfield 9, 3) := by decide +kernel
theorem dX1_empty_12 : decode cX1_empty 12 = .ok (.iload_n 1, 1) := by decide +kernel
theorem dX1_empty_13 : decode cX1_empty 13 = .ok (.iconst (-1), 1) := by decide +kernel
theorem dX1_empty_14 : decode cX1_empty 14 = .ok (.iastore, 1) := by decide +kernel
theorem dX1_empty_15 : decode cX1_empty 15 = .ok (.iinc 1 1, 3) := by decide +kernel
theorem dX1_empty_18 : decode cX1_empty 18 = .ok (.goto (-16), 3) := by decide +kernel
theorem dX1_empty_21 : decode cX1_empty 21 = .ok (.iconst 0, 1) := by decide +kernel
theorem dX1_empty_22 : decode cX1_empty 22 = .ok (.istore_n 1, 1) := by decide +kernel
theorem dX1_empty_23 : decode cX1_empty 23 = .ok (.iload_n 1, 1) := by decide +kernel
theorem dX1_empty_24 : decode cX1_empty 24 = .ok (.bipush 6, 2) := by decide +kernel
theorem dX1_empty_26 : decode cX1_empty 26 = .ok (.if_icmp .ge 16, 3) := by decide +kernel
theorem dX1_empty_29 : decode cX1_empty 29 = .ok (.aload_n 0, 1) := by decide +kernel
theorem dX1_empty_30 : decode cX1_empty 30 = .ok (.getfield 15, 3) := by decide +kernel
theorem dX1_empty_33 : decode cX1_empty 33 = .ok (.iload_n 1, 1) := by decide +kernel
theorem dX1_empty_34 : decode cX1_empty 34 = .ok (.iconst (-1), 1) := by decide +kernel
theorem dX1_empty_35 : decode cX1_empty 35 = .ok (.iastore, 1) := by decide +kernel
theorem dX1_empty_36 : decode cX1_empty 36 = .ok (.iinc 1 1, 3) := by decide +kernel
theorem dX1_empty_39 : decode cX1_empty 39 = .ok (.goto (-16), 3) := by decide +kernel
theorem dX1_empty_42 : decode cX1_empty 42 = .ok (.aload_n 0, 1) := by decide +kernel
theorem dX1_empty_43 : decode cX1_empty 43 = .ok (.iconst 0, 1) := by decide +kernel
theorem dX1_empty_44 : decode cX1_empty 44 = .ok (.putfield 18, 3) := by decide +kernel
theorem dX1_empty_47 : decode cX1_empty 47 = .ok (.return_, 1) := by decide +kernel
theorem dX1_heldAt_0 : decode cX1_heldAt 0 = .ok (.iload_n 1, 1) := by decide +kernel
theorem dX1_heldAt_1 : decode cX1_heldAt 1 = .ok (.ifCond .lt 32, 3) := by decide +kernel
theorem dX1_heldAt_4 : decode cX1_heldAt 4 = .ok (.iload_n 1, 1) := by decide +kernel
theorem dX1_heldAt_5 : decode cX1_heldAt 5 = .ok (.bipush 16, 2) := by decide +kernel
theorem dX1_heldAt_7 : decode cX1_heldAt 7 = .ok (.aload_n 0, 1) := by decide +kernel
theorem dX1_heldAt_8 : decode cX1_heldAt 8 = .ok (.getfield 18, 3) := by decide +kernel
theorem dX1_heldAt_11 : decode cX1_heldAt 11 = .ok (.iadd, 1) := by decide +kernel
theorem dX1_heldAt_12 : decode cX1_heldAt 12 = .ok (.if_icmp .ge 21, 3) := by decide +kernel
theorem dX1_heldAt_15 : decode cX1_heldAt 15 = .ok (.iload_n 1, 1) := by decide +kernel
theorem dX1_heldAt_16 : decode cX1_heldAt 16 = .ok (.aload_n 0, 1) := by decide +kernel
theorem dX1_heldAt_17 : decode cX1_heldAt 17 = .ok (.getfield 9, 3) := by decide +kernel
theorem dX1_heldAt_20 : decode cX1_heldAt 20 = .ok (.arraylength, 1) := by decide +kernel
theorem dX1_heldAt_21 : decode cX1_heldAt 21 = .ok (.if_icmp .ge 12, 3) := by decide +kernel
theorem dX1_heldAt_24 : decode cX1_heldAt 24 = .ok (.aload_n 0, 1) := by decide +kernel
theorem dX1_heldAt_25 : decode cX1_heldAt 25 = .ok (.getfield 9, 3) := by decide +kernel
theorem dX1_heldAt_28 : decode cX1_heldAt 28 = .ok (.iload_n 1, 1) := by decide +kernel
theorem dX1_heldAt_29 : decode cX1_heldAt 29 = .ok (.iaload, 1) := by decide +kernel
theorem dX1_heldAt_30 : decode cX1_heldAt 30 = .ok (.goto 4, 3) := by decide +kernel
theorem dX1_heldAt_33 : decode cX1_heldAt 33 = .ok (.iconst (-1), 1) := by decide +kernel
theorem dX1_heldAt_34 : decode cX1_heldAt 34 = .ok (.ireturn, 1) := by decide +kernel
theorem dX1_hold_0 : decode cX1_hold 0 = .ok (.iload_n 1, 1) := by decide +kernel
theorem dX1_hold_1 : decode cX1_hold 1 = .ok (.ifCond .lt 16, 3) := by decide +kernel
theorem dX1_hold_4 : decode cX1_hold 4 = .ok (.iload_n 1, 1) := by decide +kernel
theorem dX1_hold_5 : decode cX1_hold 5 = .ok (.bipush 16, 2) := by decide +kernel
theorem dX1_hold_7 : decode cX1_hold 7 = .ok (.if_icmp .ge 10, 3) := by decide +kernel
theorem dX1_hold_10 : decode cX1_hold 10 = .ok (.aload_n 0, 1) := by decide +kernel
theorem dX1_hold_11 : decode cX1_hold 11 = .ok (.getfield 9, 3) := by decide +kernel
theorem dX1_hold_14 : decode cX1_hold 14 = .ok (.iload_n 1, 1) := by decide +kernel
theorem dX1_hold_15 : decode cX1_hold 15 = .ok (.iload_n 2, 1) := by decide +kernel
theorem dX1_hold_16 : decode cX1_hold 16 = .ok (.iastore, 1) := by decide +kernel
theorem dX1_hold_17 : decode cX1_hold 17 = .ok (.iload_n 2, 1) := by decide +kernel
theorem dX1_hold_18 : decode cX1_hold 18 = .ok (.ireturn, 1) := by decide +kernel
theorem dX1_namedBy_0 : decode cX1_namedBy 0 = .ok (.iload_n 1, 1) := by decide +kernel
theorem dX1_namedBy_1 : decode cX1_namedBy 1 = .ok (.invokestatic 22, 3) := by decide +kernel
theorem dX1_namedBy_4 : decode cX1_namedBy 4 = .ok (.ifCond .eq 12, 3) := by decide +kernel
theorem dX1_namedBy_7 : decode cX1_namedBy 7 = .ok (.aload_n 0, 1) := by decide +kernel
theorem dX1_namedBy_8 : decode cX1_namedBy 8 = .ok (.getfield 15, 3) := by decide +kernel
theorem dX1_namedBy_11 : decode cX1_namedBy 11 = .ok (.iload_n 1, 1) := by decide +kernel
theorem dX1_namedBy_12 : decode cX1_namedBy 12 = .ok (.iaload, 1) := by decide +kernel
theorem dX1_namedBy_13 : decode cX1_namedBy 13 = .ok (.goto 4, 3) := by decide +kernel
theorem dX1_namedBy_16 : decode cX1_namedBy 16 = .ok (.iconst (-1), 1) := by decide +kernel
theorem dX1_namedBy_17 : decode cX1_namedBy 17 = .ok (.ireturn, 1) := by decide +kernel
theorem dX1_name_0 : decode cX1_name 0 = .ok (.iload_n 1, 1) := by decide +kernel
theorem dX1_name_1 : decode cX1_name 1 = .ok (.invokestatic 22, 3) := by decide +kernel
theorem dX1_name_4 : decode cX1_name 4 = .ok (.ifCond .eq 10, 3) := by decide +kernel
theorem dX1_name_7 : decode cX1_name 7 = .ok (.aload_n 0, 1) := by decide +kernel
theorem dX1_name_8 : decode cX1_name 8 = .ok (.getfield 15, 3) := by decide +kernel
theorem dX1_name_11 : decode cX1_name 11 = .ok (.iload_n 1, 1) := by decide +kernel
theorem dX1_name_12 : decode cX1_name 12 = .ok (.iload_n 2, 1) := by decide +kernel
theorem dX1_name_13 : decode cX1_name 13 = .ok (.iastore, 1) := by decide +kernel
theorem dX1_name_14 : decode cX1_name 14 = .ok (.return_, 1) := by decide +kernel
theorem dX1_wishAt_0 : decode cX1_wishAt 0 = .ok (.iload_n 1, 1) := by decide +kernel
theorem dX1_wishAt_1 : decode cX1_wishAt 1 = .ok (.ifCond .lt 22, 3) := by decide +kernel
theorem dX1_wishAt_4 : decode cX1_wishAt 4 = .ok (.iload_n 1, 1) := by decide +kernel
theorem dX1_wishAt_5 : decode cX1_wishAt 5 = .ok (.aload_n 0, 1) := by decide +kernel
theorem dX1_wishAt_6 : decode cX1_wishAt 6 = .ok (.getfield 18, 3) := by decide +kernel
theorem dX1_wishAt_9 : decode cX1_wishAt 9 = .ok (.if_icmp .ge 14, 3) := by decide +kernel
theorem dX1_wishAt_12 : decode cX1_wishAt 12 = .ok (.aload_n 0, 1) := by decide +kernel
theorem dX1_wishAt_13 : decode cX1_wishAt 13 = .ok (.bipush 16, 2) := by decide +kernel
theorem dX1_wishAt_15 : decode cX1_wishAt 15 = .ok (.iload_n 1, 1) := by decide +kernel
theorem dX1_wishAt_16 : decode cX1_wishAt 16 = .ok (.iadd, 1) := by decide +kernel
theorem dX1_wishAt_17 : decode cX1_wishAt 17 = .ok (.invokevirtual 26, 3) := by decide +kernel
theorem dX1_wishAt_20 : decode cX1_wishAt 20 = .ok (.goto 4, 3) := by decide +kernel
theorem dX1_wishAt_23 : decode cX1_wishAt 23 = .ok (.iconst (-1), 1) := by decide +kernel
theorem dX1_wishAt_24 : decode cX1_wishAt 24 = .ok (.ireturn, 1) := by decide +kernel
theorem dX1_addWish_0 : decode cX1_addWish 0 = .ok (.aload_n 0, 1) := by decide +kernel
theorem dX1_addWish_1 : decode cX1_addWish 1 = .ok (.getfield 18, 3) := by decide +kernel
theorem dX1_addWish_4 : decode cX1_addWish 4 = .ok (.ifCond .lt 35, 3) := by decide +kernel
theorem dX1_addWish_7 : decode cX1_addWish 7 = .ok (.aload_n 0, 1) := by decide +kernel
theorem dX1_addWish_8 : decode cX1_addWish 8 = .ok (.getfield 18, 3) := by decide +kernel
theorem dX1_addWish_11 : decode cX1_addWish 11 = .ok (.bipush 120, 2) := by decide +kernel
theorem dX1_addWish_13 : decode cX1_addWish 13 = .ok (.if_icmp .ge 26, 3) := by decide +kernel
theorem dX1_addWish_16 : decode cX1_addWish 16 = .ok (.aload_n 0, 1) := by decide +kernel
theorem dX1_addWish_17 : decode cX1_addWish 17 = .ok (.getfield 9, 3) := by decide +kernel
theorem dX1_addWish_20 : decode cX1_addWish 20 = .ok (.bipush 16, 2) := by decide +kernel
theorem dX1_addWish_22 : decode cX1_addWish 22 = .ok (.aload_n 0, 1) := by decide +kernel
theorem dX1_addWish_23 : decode cX1_addWish 23 = .ok (.getfield 18, 3) := by decide +kernel
theorem dX1_addWish_26 : decode cX1_addWish 26 = .ok (.iadd, 1) := by decide +kernel
theorem dX1_addWish_27 : decode cX1_addWish 27 = .ok (.iload_n 1, 1) := by decide +kernel
theorem dX1_addWish_28 : decode cX1_addWish 28 = .ok (.iastore, 1) := by decide +kernel
theorem dX1_addWish_29 : decode cX1_addWish 29 = .ok (.aload_n 0, 1) := by decide +kernel
theorem dX1_addWish_30 : decode cX1_addWish 30 = .ok (.dup, 1) := by decide +kernel
theorem dX1_addWish_31 : decode cX1_addWish 31 = .ok (.getfield 18, 3) := by decide +kernel
theorem dX1_addWish_34 : decode cX1_addWish 34 = .ok (.iconst 1, 1) := by decide +kernel
theorem dX1_addWish_35 : decode cX1_addWish 35 = .ok (.iadd, 1) := by decide +kernel
theorem dX1_addWish_36 : decode cX1_addWish 36 = .ok (.putfield 18, 3) := by decide +kernel
theorem dX1_addWish_39 : decode cX1_addWish 39 = .ok (.return_, 1) := by decide +kernel
theorem dX1_takeFirstWish_0 : decode cX1_takeFirstWish 0 = .ok (.aload_n 0, 1) := by decide +kernel
theorem dX1_takeFirstWish_1 : decode cX1_takeFirstWish 1 = .ok (.bipush 16, 2) := by decide +kernel
theorem dX1_takeFirstWish_3 : decode cX1_takeFirstWish 3 = .ok (.invokevirtual 26, 3) := by decide +kernel
theorem dX1_takeFirstWish_6 : decode cX1_takeFirstWish 6 = .ok (.istore_n 1, 1) := by decide +kernel
theorem dX1_takeFirstWish_7 : decode cX1_takeFirstWish 7 = .ok (.bipush 16, 2) := by decide +kernel
theorem dX1_takeFirstWish_9 : decode cX1_takeFirstWish 9 = .ok (.istore_n 2, 1) := by decide +kernel
theorem dX1_takeFirstWish_10 : decode cX1_takeFirstWish 10 = .ok (.iload_n 2, 1) := by decide +kernel
theorem dX1_takeFirstWish_11 : decode cX1_takeFirstWish 11 = .ok (.iconst 1, 1) := by decide +kernel
theorem dX1_takeFirstWish_12 : decode cX1_takeFirstWish 12 = .ok (.iadd, 1) := by decide +kernel
theorem dX1_takeFirstWish_13 : decode cX1_takeFirstWish 13 = .ok (.bipush 16, 2) := by decide +kernel
theorem dX1_takeFirstWish_15 : decode cX1_takeFirstWish 15 = .ok (.aload_n 0, 1) := by decide +kernel
theorem dX1_takeFirstWish_16 : decode cX1_takeFirstWish 16 = .ok (.getfield 18, 3) := by decide +kernel
theorem dX1_takeFirstWish_19 : decode cX1_takeFirstWish 19 = .ok (.iadd, 1) := by decide +kernel
theorem dX1_takeFirstWish_20 : decode cX1_takeFirstWish 20 = .ok (.if_icmp .ge 34, 3) := by decide +kernel
theorem dX1_takeFirstWish_23 : decode cX1_takeFirstWish 23 = .ok (.iload_n 2, 1) := by decide +kernel
theorem dX1_takeFirstWish_24 : decode cX1_takeFirstWish 24 = .ok (.iconst 1, 1) := by decide +kernel
theorem dX1_takeFirstWish_25 : decode cX1_takeFirstWish 25 = .ok (.iadd, 1) := by decide +kernel
theorem dX1_takeFirstWish_26 : decode cX1_takeFirstWish 26 = .ok (.aload_n 0, 1) := by decide +kernel
theorem dX1_takeFirstWish_27 : decode cX1_takeFirstWish 27 = .ok (.getfield 9, 3) := by decide +kernel
theorem dX1_takeFirstWish_30 : decode cX1_takeFirstWish 30 = .ok (.arraylength, 1) := by decide +kernel
theorem dX1_takeFirstWish_31 : decode cX1_takeFirstWish 31 = .ok (.if_icmp .ge 23, 3) := by decide +kernel
theorem dX1_takeFirstWish_34 : decode cX1_takeFirstWish 34 = .ok (.aload_n 0, 1) := by decide +kernel
theorem dX1_takeFirstWish_35 : decode cX1_takeFirstWish 35 = .ok (.getfield 9, 3) := by decide +kernel
theorem dX1_takeFirstWish_38 : decode cX1_takeFirstWish 38 = .ok (.iload_n 2, 1) := by decide +kernel
theorem dX1_takeFirstWish_39 : decode cX1_takeFirstWish 39 = .ok (.aload_n 0, 1) := by decide +kernel
theorem dX1_takeFirstWish_40 : decode cX1_takeFirstWish 40 = .ok (.getfield 9, 3) := by decide +kernel
theorem dX1_takeFirstWish_43 : decode cX1_takeFirstWish 43 = .ok (.iload_n 2, 1) := by decide +kernel
theorem dX1_takeFirstWish_44 : decode cX1_takeFirstWish 44 = .ok (.iconst 1, 1) := by decide +kernel
theorem dX1_takeFirstWish_45 : decode cX1_takeFirstWish 45 = .ok (.iadd, 1) := by decide +kernel
theorem dX1_takeFirstWish_46 : decode cX1_takeFirstWish 46 = .ok (.iaload, 1) := by decide +kernel
theorem dX1_takeFirstWish_47 : decode cX1_takeFirstWish 47 = .ok (.iastore, 1) := by decide +kernel
theorem dX1_takeFirstWish_48 : decode cX1_takeFirstWish 48 = .ok (.iinc 2 1, 3) := by decide +kernel
theorem dX1_takeFirstWish_51 : decode cX1_takeFirstWish 51 = .ok (.goto (-41), 3) := by decide +kernel
theorem dX1_takeFirstWish_54 : decode cX1_takeFirstWish 54 = .ok (.aload_n 0, 1) := by decide +kernel
theorem dX1_takeFirstWish_55 : decode cX1_takeFirstWish 55 = .ok (.getfield 18, 3) := by decide +kernel
theorem dX1_takeFirstWish_58 : decode cX1_takeFirstWish 58 = .ok (.ifCond .le 13, 3) := by decide +kernel
theorem dX1_takeFirstWish_61 : decode cX1_takeFirstWish 61 = .ok (.aload_n 0, 1) := by decide +kernel
theorem dX1_takeFirstWish_62 : decode cX1_takeFirstWish 62 = .ok (.dup, 1) := by decide +kernel
theorem dX1_takeFirstWish_63 : decode cX1_takeFirstWish 63 = .ok (.getfield 18, 3) := by decide +kernel
theorem dX1_takeFirstWish_66 : decode cX1_takeFirstWish 66 = .ok (.iconst 1, 1) := by decide +kernel
theorem dX1_takeFirstWish_67 : decode cX1_takeFirstWish 67 = .ok (.isub, 1) := by decide +kernel
theorem dX1_takeFirstWish_68 : decode cX1_takeFirstWish 68 = .ok (.putfield 18, 3) := by decide +kernel
theorem dX1_takeFirstWish_71 : decode cX1_takeFirstWish 71 = .ok (.iload_n 1, 1) := by decide +kernel
theorem dX1_takeFirstWish_72 : decode cX1_takeFirstWish 72 = .ok (.ireturn, 1) := by decide +kernel
theorem dX2_init_0 : decode cX2_init 0 = .ok (.aload_n 0, 1) := by decide +kernel
theorem dX2_init_1 : decode cX2_init 1 = .ok (.invokespecial 3, 3) := by decide +kernel
theorem dX2_init_4 : decode cX2_init 4 = .ok (.aload_n 0, 1) := by decide +kernel
theorem dX2_init_5 : decode cX2_init 5 = .ok (.bipush 8, 2) := by decide +kernel
theorem dX2_init_7 : decode cX2_init 7 = .ok (.newarray .int, 2) := by decide +kernel
theorem dX2_init_9 : decode cX2_init 9 = .ok (.putfield 9, 3) := by decide +kernel
theorem dX2_init_12 : decode cX2_init 12 = .ok (.aload_n 0, 1) := by decide +kernel
theorem dX2_init_13 : decode cX2_init 13 = .ok (.bipush 8, 2) := by decide +kernel
theorem dX2_init_15 : decode cX2_init 15 = .ok (.newarray .int, 2) := by decide +kernel
theorem dX2_init_17 : decode cX2_init 17 = .ok (.putfield 15, 3) := by decide +kernel
theorem dX2_init_20 : decode cX2_init 20 = .ok (.return_, 1) := by decide +kernel
theorem dX2_isPair_0 : decode cX2_isPair 0 = .ok (.iload_n 1, 1) := by decide +kernel
theorem dX2_isPair_1 : decode cX2_isPair 1 = .ok (.ifCond .lt 21, 3) := by decide +kernel
theorem dX2_isPair_4 : decode cX2_isPair 4 = .ok (.iload_n 1, 1) := by decide +kernel
theorem dX2_isPair_5 : decode cX2_isPair 5 = .ok (.aload_n 0, 1) := by decide +kernel
theorem dX2_isPair_6 : decode cX2_isPair 6 = .ok (.getfield 18, 3) := by decide +kernel
theorem dX2_isPair_9 : decode cX2_isPair 9 = .ok (.if_icmp .ge 13, 3) := by decide +kernel
theorem dX2_isPair_12 : decode cX2_isPair 12 = .ok (.iload_n 1, 1) := by decide +kernel
theorem dX2_isPair_13 : decode cX2_isPair 13 = .ok (.bipush 8, 2) := by decide +kernel
theorem dX2_isPair_15 : decode cX2_isPair 15 = .ok (.if_icmp .ge 7, 3) := by decide +kernel
theorem dX2_isPair_18 : decode cX2_isPair 18 = .ok (.iconst 1, 1) := by decide +kernel
theorem dX2_isPair_19 : decode cX2_isPair 19 = .ok (.goto 4, 3) := by decide +kernel
theorem dX2_isPair_22 : decode cX2_isPair 22 = .ok (.iconst 0, 1) := by decide +kernel
theorem dX2_isPair_23 : decode cX2_isPair 23 = .ok (.ireturn, 1) := by decide +kernel
theorem dX2_add_0 : decode cX2_add 0 = .ok (.aload_n 0, 1) := by decide +kernel
theorem dX2_add_1 : decode cX2_add 1 = .ok (.getfield 18, 3) := by decide +kernel
theorem dX2_add_4 : decode cX2_add 4 = .ok (.ifCond .lt 12, 3) := by decide +kernel
theorem dX2_add_7 : decode cX2_add 7 = .ok (.aload_n 0, 1) := by decide +kernel
theorem dX2_add_8 : decode cX2_add 8 = .ok (.getfield 18, 3) := by decide +kernel
theorem dX2_add_11 : decode cX2_add 11 = .ok (.bipush 8, 2) := by decide +kernel
theorem dX2_add_13 : decode cX2_add 13 = .ok (.if_icmp .lt 6, 3) := by decide +kernel
theorem dX2_add_16 : decode cX2_add 16 = .ok (.bipush (-4), 2) := by decide +kernel
theorem dX2_add_18 : decode cX2_add 18 = .ok (.ireturn, 1) := by decide +kernel
theorem dX2_add_19 : decode cX2_add 19 = .ok (.aload_n 0, 1) := by decide +kernel
theorem dX2_add_20 : decode cX2_add 20 = .ok (.getfield 9, 3) := by decide +kernel
theorem dX2_add_23 : decode cX2_add 23 = .ok (.aload_n 0, 1) := by decide +kernel
theorem dX2_add_24 : decode cX2_add 24 = .ok (.getfield 18, 3) := by decide +kernel
theorem dX2_add_27 : decode cX2_add 27 = .ok (.iload_n 1, 1) := by decide +kernel
theorem dX2_add_28 : decode cX2_add 28 = .ok (.iastore, 1) := by decide +kernel
theorem dX2_add_29 : decode cX2_add 29 = .ok (.aload_n 0, 1) := by decide +kernel
theorem dX2_add_30 : decode cX2_add 30 = .ok (.getfield 15, 3) := by decide +kernel
theorem dX2_add_33 : decode cX2_add 33 = .ok (.aload_n 0, 1) := by decide +kernel
theorem dX2_add_34 : decode cX2_add 34 = .ok (.getfield 18, 3) := by decide +kernel
theorem dX2_add_37 : decode cX2_add 37 = .ok (.iload_n 2, 1) := by decide +kernel
theorem dX2_add_38 : decode cX2_add 38 = .ok (.iastore, 1) := by decide +kernel
theorem dX2_add_39 : decode cX2_add 39 = .ok (.aload_n 0, 1) := by decide +kernel
theorem dX2_add_40 : decode cX2_add 40 = .ok (.dup, 1) := by decide +kernel
theorem dX2_add_41 : decode cX2_add 41 = .ok (.getfield 18, 3) := by decide +kernel
theorem dX2_add_44 : decode cX2_add 44 = .ok (.iconst 1, 1) := by decide +kernel
theorem dX2_add_45 : decode cX2_add 45 = .ok (.iadd, 1) := by decide +kernel
theorem dX2_add_46 : decode cX2_add 46 = .ok (.putfield 18, 3) := by decide +kernel
theorem dX2_add_49 : decode cX2_add 49 = .ok (.aload_n 0, 1) := by decide +kernel
theorem dX2_add_50 : decode cX2_add 50 = .ok (.getfield 18, 3) := by decide +kernel
theorem dX2_add_53 : decode cX2_add 53 = .ok (.iconst 1, 1) := by decide +kernel
theorem dX2_add_54 : decode cX2_add 54 = .ok (.isub, 1) := by decide +kernel
theorem dX2_add_55 : decode cX2_add 55 = .ok (.ireturn, 1) := by decide +kernel
theorem dX2_end_0 : decode cX2_end 0 = .ok (.aload_n 0, 1) := by decide +kernel
theorem dX2_end_1 : decode cX2_end 1 = .ok (.iload_n 1, 1) := by decide +kernel
theorem dX2_end_2 : decode cX2_end 2 = .ok (.invokevirtual 22, 3) := by decide +kernel
theorem dX2_end_5 : decode cX2_end 5 = .ok (.ifCond .eq 17, 3) := by decide +kernel
theorem dX2_end_8 : decode cX2_end 8 = .ok (.aload_n 0, 1) := by decide +kernel
theorem dX2_end_9 : decode cX2_end 9 = .ok (.getfield 9, 3) := by decide +kernel
theorem dX2_end_12 : decode cX2_end 12 = .ok (.iload_n 1, 1) := by decide +kernel
theorem dX2_end_13 : decode cX2_end 13 = .ok (.iconst (-1), 1) := by decide +kernel
theorem dX2_end_14 : decode cX2_end 14 = .ok (.iastore, 1) := by decide +kernel
theorem dX2_end_15 : decode cX2_end 15 = .ok (.aload_n 0, 1) := by decide +kernel
theorem dX2_end_16 : decode cX2_end 16 = .ok (.getfield 15, 3) := by decide +kernel
theorem dX2_end_19 : decode cX2_end 19 = .ok (.iload_n 1, 1) := by decide +kernel
theorem dX2_end_20 : decode cX2_end 20 = .ok (.iconst (-1), 1) := by decide +kernel
theorem dX2_end_21 : decode cX2_end 21 = .ok (.iastore, 1) := by decide +kernel
theorem dX2_end_22 : decode cX2_end 22 = .ok (.return_, 1) := by decide +kernel
theorem dX2_keyOf_0 : decode cX2_keyOf 0 = .ok (.aload_n 0, 1) := by decide +kernel
theorem dX2_keyOf_1 : decode cX2_keyOf 1 = .ok (.iload_n 1, 1) := by decide +kernel
theorem dX2_keyOf_2 : decode cX2_keyOf 2 = .ok (.invokevirtual 22, 3) := by decide +kernel
theorem dX2_keyOf_5 : decode cX2_keyOf 5 = .ok (.ifCond .eq 12, 3) := by decide +kernel
theorem dX2_keyOf_8 : decode cX2_keyOf 8 = .ok (.aload_n 0, 1) := by decide +kernel
theorem dX2_keyOf_9 : decode cX2_keyOf 9 = .ok (.getfield 9, 3) := by decide +kernel
theorem dX2_keyOf_12 : decode cX2_keyOf 12 = .ok (.iload_n 1, 1) := by decide +kernel
theorem dX2_keyOf_13 : decode cX2_keyOf 13 = .ok (.iaload, 1) := by decide +kernel
theorem dX2_keyOf_14 : decode cX2_keyOf 14 = .ok (.goto 4, 3) := by decide +kernel
theorem dX2_keyOf_17 : decode cX2_keyOf 17 = .ok (.iconst (-1), 1) := by decide +kernel
theorem dX2_keyOf_18 : decode cX2_keyOf 18 = .ok (.ireturn, 1) := by decide +kernel
theorem dX2_valueOf_0 : decode cX2_valueOf 0 = .ok (.aload_n 0, 1) := by decide +kernel
theorem dX2_valueOf_1 : decode cX2_valueOf 1 = .ok (.iload_n 1, 1) := by decide +kernel
theorem dX2_valueOf_2 : decode cX2_valueOf 2 = .ok (.invokevirtual 22, 3) := by decide +kernel
theorem dX2_valueOf_5 : decode cX2_valueOf 5 = .ok (.ifCond .eq 12, 3) := by decide +kernel
theorem dX2_valueOf_8 : decode cX2_valueOf 8 = .ok (.aload_n 0, 1) := by decide +kernel
theorem dX2_valueOf_9 : decode cX2_valueOf 9 = .ok (.getfield 15, 3) := by decide +kernel
theorem dX2_valueOf_12 : decode cX2_valueOf 12 = .ok (.iload_n 1, 1) := by decide +kernel
theorem dX2_valueOf_13 : decode cX2_valueOf 13 = .ok (.iaload, 1) := by decide +kernel
theorem dX2_valueOf_14 : decode cX2_valueOf 14 = .ok (.goto 4, 3) := by decide +kernel
theorem dX2_valueOf_17 : decode cX2_valueOf 17 = .ok (.iconst (-1), 1) := by decide +kernel
theorem dX2_valueOf_18 : decode cX2_valueOf 18 = .ok (.ireturn, 1) := by decide +kernel
theorem dX2_countNotDropped_0 : decode cX2_countNotDropped 0 = .ok (.iconst 0, 1) := by decide +kernel
theorem dX2_countNotDropped_1 : decode cX2_countNotDropped 1 = .ok (.istore_n 1, 1) := by decide +kernel
theorem dX2_countNotDropped_2 : decode cX2_countNotDropped 2 = .ok (.iconst 0, 1) := by decide +kernel
theorem dX2_countNotDropped_3 : decode cX2_countNotDropped 3 = .ok (.istore_n 2, 1) := by decide +kernel
theorem dX2_countNotDropped_4 : decode cX2_countNotDropped 4 = .ok (.iload_n 2, 1) := by decide +kernel
theorem dX2_countNotDropped_5 : decode cX2_countNotDropped 5 = .ok (.aload_n 0, 1) := by decide +kernel
theorem dX2_countNotDropped_6 : decode cX2_countNotDropped 6 = .ok (.getfield 18, 3) := by decide +kernel
theorem dX2_countNotDropped_9 : decode cX2_countNotDropped 9 = .ok (.if_icmp .ge 21, 3) := by decide +kernel
theorem dX2_countNotDropped_12 : decode cX2_countNotDropped 12 = .ok (.aload_n 0, 1) := by decide +kernel
theorem dX2_countNotDropped_13 : decode cX2_countNotDropped 13 = .ok (.iload_n 2, 1) := by decide +kernel
theorem dX2_countNotDropped_14 : decode cX2_countNotDropped 14 = .ok (.invokevirtual 26, 3) := by decide +kernel
theorem dX2_countNotDropped_17 : decode cX2_countNotDropped 17 = .ok (.iconst (-1), 1) := by decide +kernel
theorem dX2_countNotDropped_18 : decode cX2_countNotDropped 18 = .ok (.if_icmp .eq 6, 3) := by decide +kernel
theorem dX2_countNotDropped_21 : decode cX2_countNotDropped 21 = .ok (.iinc 1 1, 3) := by decide +kernel
theorem dX2_countNotDropped_24 : decode cX2_countNotDropped 24 = .ok (.iinc 2 1, 3) := by decide +kernel
theorem dX2_countNotDropped_27 : decode cX2_countNotDropped 27 = .ok (.goto (-23), 3) := by decide +kernel
theorem dX2_countNotDropped_30 : decode cX2_countNotDropped 30 = .ok (.iload_n 1, 1) := by decide +kernel
theorem dX2_countNotDropped_31 : decode cX2_countNotDropped 31 = .ok (.ireturn, 1) := by decide +kernel
theorem dX3_init_0 : decode cX3_init 0 = .ok (.aload_n 0, 1) := by decide +kernel
theorem dX3_init_1 : decode cX3_init 1 = .ok (.invokespecial 3, 3) := by decide +kernel
theorem dX3_init_4 : decode cX3_init 4 = .ok (.aload_n 0, 1) := by decide +kernel
theorem dX3_init_5 : decode cX3_init 5 = .ok (.bipush 120, 2) := by decide +kernel
theorem dX3_init_7 : decode cX3_init 7 = .ok (.newarray .boolean, 2) := by decide +kernel
theorem dX3_init_9 : decode cX3_init 9 = .ok (.putfield 9, 3) := by decide +kernel
theorem dX3_init_12 : decode cX3_init 12 = .ok (.aload_n 0, 1) := by decide +kernel
theorem dX3_init_13 : decode cX3_init 13 = .ok (.bipush 120, 2) := by decide +kernel
theorem dX3_init_15 : decode cX3_init 15 = .ok (.newarray .int, 2) := by decide +kernel
theorem dX3_init_17 : decode cX3_init 17 = .ok (.putfield 15, 3) := by decide +kernel
theorem dX3_init_20 : decode cX3_init 20 = .ok (.return_, 1) := by decide +kernel
theorem dX3_has_0 : decode cX3_has 0 = .ok (.iload_n 1, 1) := by decide +kernel
theorem dX3_has_1 : decode cX3_has 1 = .ok (.ifCond .lt 22, 3) := by decide +kernel
theorem dX3_has_4 : decode cX3_has 4 = .ok (.iload_n 1, 1) := by decide +kernel
theorem dX3_has_5 : decode cX3_has 5 = .ok (.bipush 120, 2) := by decide +kernel
theorem dX3_has_7 : decode cX3_has 7 = .ok (.if_icmp .ge 16, 3) := by decide +kernel
theorem dX3_has_10 : decode cX3_has 10 = .ok (.aload_n 0, 1) := by decide +kernel
theorem dX3_has_11 : decode cX3_has 11 = .ok (.getfield 9, 3) := by decide +kernel
theorem dX3_has_14 : decode cX3_has 14 = .ok (.iload_n 1, 1) := by decide +kernel
theorem dX3_has_15 : decode cX3_has 15 = .ok (.baload, 1) := by decide +kernel
theorem dX3_has_16 : decode cX3_has 16 = .ok (.ifCond .eq 7, 3) := by decide +kernel
theorem dX3_has_19 : decode cX3_has 19 = .ok (.iconst 1, 1) := by decide +kernel
theorem dX3_has_20 : decode cX3_has 20 = .ok (.goto 4, 3) := by decide +kernel
theorem dX3_has_23 : decode cX3_has 23 = .ok (.iconst 0, 1) := by decide +kernel
theorem dX3_has_24 : decode cX3_has 24 = .ok (.ireturn, 1) := by decide +kernel
theorem dX3_find_0 : decode cX3_find 0 = .ok (.aload_n 0, 1) := by decide +kernel
theorem dX3_find_1 : decode cX3_find 1 = .ok (.invokevirtual 19, 3) := by decide +kernel
theorem dX3_find_4 : decode cX3_find 4 = .ok (.iconst 0, 1) := by decide +kernel
theorem dX3_find_5 : decode cX3_find 5 = .ok (.istore 4, 2) := by decide +kernel
theorem dX3_find_7 : decode cX3_find 7 = .ok (.iload 4, 2) := by decide +kernel
theorem dX3_find_9 : decode cX3_find 9 = .ok (.bipush 16, 2) := by decide +kernel
theorem dX3_find_11 : decode cX3_find 11 = .ok (.aload_n 2, 1) := by decide +kernel
theorem dX3_find_12 : decode cX3_find 12 = .ok (.getfield 22, 3) := by decide +kernel
theorem dX3_find_15 : decode cX3_find 15 = .ok (.iadd, 1) := by decide +kernel
theorem dX3_find_16 : decode cX3_find 16 = .ok (.if_icmp .ge 19, 3) := by decide +kernel
theorem dX3_find_19 : decode cX3_find 19 = .ok (.aload_n 0, 1) := by decide +kernel
theorem dX3_find_20 : decode cX3_find 20 = .ok (.aload_n 2, 1) := by decide +kernel
theorem dX3_find_21 : decode cX3_find 21 = .ok (.iload 4, 2) := by decide +kernel
theorem dX3_find_23 : decode cX3_find 23 = .ok (.invokevirtual 28, 3) := by decide +kernel
theorem dX3_find_26 : decode cX3_find 26 = .ok (.invokevirtual 32, 3) := by decide +kernel
theorem dX3_find_29 : decode cX3_find 29 = .ok (.iinc 4 1, 3) := by decide +kernel
theorem dX3_find_32 : decode cX3_find 32 = .ok (.goto (-25), 3) := by decide +kernel
theorem dX3_find_35 : decode cX3_find 35 = .ok (.iconst 0, 1) := by decide +kernel
theorem dX3_find_36 : decode cX3_find 36 = .ok (.istore 4, 2) := by decide +kernel
theorem dX3_find_38 : decode cX3_find 38 = .ok (.iload 4, 2) := by decide +kernel
theorem dX3_find_40 : decode cX3_find 40 = .ok (.bipush 120, 2) := by decide +kernel
theorem dX3_find_42 : decode cX3_find 42 = .ok (.if_icmp .ge 45, 3) := by decide +kernel
theorem dX3_find_45 : decode cX3_find 45 = .ok (.iload 4, 2) := by decide +kernel
theorem dX3_find_47 : decode cX3_find 47 = .ok (.aload_n 0, 1) := by decide +kernel
theorem dX3_find_48 : decode cX3_find 48 = .ok (.getfield 36, 3) := by decide +kernel
theorem dX3_find_51 : decode cX3_find 51 = .ok (.if_icmp .lt 8, 3) := by decide +kernel
theorem dX3_find_54 : decode cX3_find 54 = .ok (.aload_n 0, 1) := by decide +kernel
theorem dX3_find_55 : decode cX3_find 55 = .ok (.aload_n 3, 1) := by decide +kernel
theorem dX3_find_56 : decode cX3_find 56 = .ok (.invokevirtual 39, 3) := by decide +kernel
theorem dX3_find_59 : decode cX3_find 59 = .ok (.iload 4, 2) := by decide +kernel
theorem dX3_find_61 : decode cX3_find 61 = .ok (.aload_n 0, 1) := by decide +kernel
theorem dX3_find_62 : decode cX3_find 62 = .ok (.getfield 36, 3) := by decide +kernel
theorem dX3_find_65 : decode cX3_find 65 = .ok (.if_icmp .lt 4, 3) := by decide +kernel
theorem dX3_find_68 : decode cX3_find 68 = .ok (.return_, 1) := by decide +kernel
theorem dX3_find_69 : decode cX3_find 69 = .ok (.aload_n 0, 1) := by decide +kernel
theorem dX3_find_70 : decode cX3_find 70 = .ok (.aload_n 1, 1) := by decide +kernel
theorem dX3_find_71 : decode cX3_find 71 = .ok (.aload_n 0, 1) := by decide +kernel
theorem dX3_find_72 : decode cX3_find 72 = .ok (.getfield 15, 3) := by decide +kernel
theorem dX3_find_75 : decode cX3_find 75 = .ok (.iload 4, 2) := by decide +kernel
theorem dX3_find_77 : decode cX3_find 77 = .ok (.iaload, 1) := by decide +kernel
theorem dX3_find_78 : decode cX3_find 78 = .ok (.invokevirtual 43, 3) := by decide +kernel
theorem dX3_find_81 : decode cX3_find 81 = .ok (.iinc 4 1, 3) := by decide +kernel
theorem dX3_find_84 : decode cX3_find 84 = .ok (.goto (-46), 3) := by decide +kernel
theorem dX3_find_87 : decode cX3_find 87 = .ok (.return_, 1) := by decide +kernel
theorem dX3_forget_0 : decode cX3_forget 0 = .ok (.iconst 0, 1) := by decide +kernel
theorem dX3_forget_1 : decode cX3_forget 1 = .ok (.istore_n 1, 1) := by decide +kernel
theorem dX3_forget_2 : decode cX3_forget 2 = .ok (.iload_n 1, 1) := by decide +kernel
theorem dX3_forget_3 : decode cX3_forget 3 = .ok (.bipush 120, 2) := by decide +kernel
theorem dX3_forget_5 : decode cX3_forget 5 = .ok (.if_icmp .ge 16, 3) := by decide +kernel
theorem dX3_forget_8 : decode cX3_forget 8 = .ok (.aload_n 0, 1) := by decide +kernel
theorem dX3_forget_9 : decode cX3_forget 9 = .ok (.getfield 9, 3) := by decide +kernel
theorem dX3_forget_12 : decode cX3_forget 12 = .ok (.iload_n 1, 1) := by decide +kernel
theorem dX3_forget_13 : decode cX3_forget 13 = .ok (.iconst 0, 1) := by decide +kernel
theorem dX3_forget_14 : decode cX3_forget 14 = .ok (.bastore, 1) := by decide +kernel
theorem dX3_forget_15 : decode cX3_forget 15 = .ok (.iinc 1 1, 3) := by decide +kernel
theorem dX3_forget_18 : decode cX3_forget 18 = .ok (.goto (-16), 3) := by decide +kernel
theorem dX3_forget_21 : decode cX3_forget 21 = .ok (.aload_n 0, 1) := by decide +kernel
theorem dX3_forget_22 : decode cX3_forget 22 = .ok (.iconst 0, 1) := by decide +kernel
theorem dX3_forget_23 : decode cX3_forget 23 = .ok (.putfield 36, 3) := by decide +kernel
theorem dX3_forget_26 : decode cX3_forget 26 = .ok (.return_, 1) := by decide +kernel
theorem dX3_add_0 : decode cX3_add 0 = .ok (.iload_n 1, 1) := by decide +kernel
theorem dX3_add_1 : decode cX3_add 1 = .ok (.ifCond .lt 27, 3) := by decide +kernel
theorem dX3_add_4 : decode cX3_add 4 = .ok (.iload_n 1, 1) := by decide +kernel
theorem dX3_add_5 : decode cX3_add 5 = .ok (.bipush 120, 2) := by decide +kernel
theorem dX3_add_7 : decode cX3_add 7 = .ok (.if_icmp .ge 21, 3) := by decide +kernel
theorem dX3_add_10 : decode cX3_add 10 = .ok (.aload_n 0, 1) := by decide +kernel
theorem dX3_add_11 : decode cX3_add 11 = .ok (.getfield 9, 3) := by decide +kernel
theorem dX3_add_14 : decode cX3_add 14 = .ok (.iload_n 1, 1) := by decide +kernel
theorem dX3_add_15 : decode cX3_add 15 = .ok (.baload, 1) := by decide +kernel
theorem dX3_add_16 : decode cX3_add 16 = .ok (.ifCond .ne 12, 3) := by decide +kernel
theorem dX3_add_19 : decode cX3_add 19 = .ok (.aload_n 0, 1) := by decide +kernel
theorem dX3_add_20 : decode cX3_add 20 = .ok (.getfield 36, 3) := by decide +kernel
theorem dX3_add_23 : decode cX3_add 23 = .ok (.bipush 120, 2) := by decide +kernel
theorem dX3_add_25 : decode cX3_add 25 = .ok (.if_icmp .lt 4, 3) := by decide +kernel
theorem dX3_add_28 : decode cX3_add 28 = .ok (.return_, 1) := by decide +kernel
theorem dX3_add_29 : decode cX3_add 29 = .ok (.aload_n 0, 1) := by decide +kernel
theorem dX3_add_30 : decode cX3_add 30 = .ok (.getfield 9, 3) := by decide +kernel
theorem dX3_add_33 : decode cX3_add 33 = .ok (.iload_n 1, 1) := by decide +kernel
theorem dX3_add_34 : decode cX3_add 34 = .ok (.iconst 1, 1) := by decide +kernel
theorem dX3_add_35 : decode cX3_add 35 = .ok (.bastore, 1) := by decide +kernel
theorem dX3_add_36 : decode cX3_add 36 = .ok (.aload_n 0, 1) := by decide +kernel
theorem dX3_add_37 : decode cX3_add 37 = .ok (.getfield 15, 3) := by decide +kernel
theorem dX3_add_40 : decode cX3_add 40 = .ok (.aload_n 0, 1) := by decide +kernel
theorem dX3_add_41 : decode cX3_add 41 = .ok (.getfield 36, 3) := by decide +kernel
theorem dX3_add_44 : decode cX3_add 44 = .ok (.iload_n 1, 1) := by decide +kernel
theorem dX3_add_45 : decode cX3_add 45 = .ok (.iastore, 1) := by decide +kernel
theorem dX3_add_46 : decode cX3_add 46 = .ok (.aload_n 0, 1) := by decide +kernel
theorem dX3_add_47 : decode cX3_add 47 = .ok (.dup, 1) := by decide +kernel
theorem dX3_add_48 : decode cX3_add 48 = .ok (.getfield 36, 3) := by decide +kernel
theorem dX3_add_51 : decode cX3_add 51 = .ok (.iconst 1, 1) := by decide +kernel
theorem dX3_add_52 : decode cX3_add 52 = .ok (.iadd, 1) := by decide +kernel
theorem dX3_add_53 : decode cX3_add 53 = .ok (.putfield 36, 3) := by decide +kernel
theorem dX3_add_56 : decode cX3_add 56 = .ok (.return_, 1) := by decide +kernel
theorem dX3_addFields_0 : decode cX3_addFields 0 = .ok (.aload_n 1, 1) := by decide +kernel
theorem dX3_addFields_1 : decode cX3_addFields 1 = .ok (.iload_n 2, 1) := by decide +kernel
theorem dX3_addFields_2 : decode cX3_addFields 2 = .ok (.invokevirtual 47, 3) := by decide +kernel
theorem dX3_addFields_5 : decode cX3_addFields 5 = .ok (.ifCond .eq 4, 3) := by decide +kernel
theorem dX3_addFields_8 : decode cX3_addFields 8 = .ok (.return_, 1) := by decide +kernel
theorem dX3_addFields_9 : decode cX3_addFields 9 = .ok (.iconst 0, 1) := by decide +kernel
theorem dX3_addFields_10 : decode cX3_addFields 10 = .ok (.istore_n 3, 1) := by decide +kernel
theorem dX3_addFields_11 : decode cX3_addFields 11 = .ok (.iload_n 3, 1) := by decide +kernel
theorem dX3_addFields_12 : decode cX3_addFields 12 = .ok (.bipush 6, 2) := by decide +kernel
theorem dX3_addFields_14 : decode cX3_addFields 14 = .ok (.if_icmp .ge 19, 3) := by decide +kernel
theorem dX3_addFields_17 : decode cX3_addFields 17 = .ok (.aload_n 0, 1) := by decide +kernel
theorem dX3_addFields_18 : decode cX3_addFields 18 = .ok (.aload_n 1, 1) := by decide +kernel
theorem dX3_addFields_19 : decode cX3_addFields 19 = .ok (.iload_n 2, 1) := by decide +kernel
theorem dX3_addFields_20 : decode cX3_addFields 20 = .ok (.iload_n 3, 1) := by decide +kernel
theorem dX3_addFields_21 : decode cX3_addFields 21 = .ok (.invokevirtual 53, 3) := by decide +kernel
theorem dX3_addFields_24 : decode cX3_addFields 24 = .ok (.invokevirtual 32, 3) := by decide +kernel
theorem dX3_addFields_27 : decode cX3_addFields 27 = .ok (.iinc 3 1, 3) := by decide +kernel
theorem dX3_addFields_30 : decode cX3_addFields 30 = .ok (.goto (-19), 3) := by decide +kernel
theorem dX3_addFields_33 : decode cX3_addFields 33 = .ok (.return_, 1) := by decide +kernel
theorem dX3_addValues_0 : decode cX3_addValues 0 = .ok (.iconst 0, 1) := by decide +kernel
theorem dX3_addValues_1 : decode cX3_addValues 1 = .ok (.istore_n 2, 1) := by decide +kernel
theorem dX3_addValues_2 : decode cX3_addValues 2 = .ok (.iload_n 2, 1) := by decide +kernel
theorem dX3_addValues_3 : decode cX3_addValues 3 = .ok (.aload_n 1, 1) := by decide +kernel
theorem dX3_addValues_4 : decode cX3_addValues 4 = .ok (.getfield 57, 3) := by decide +kernel
theorem dX3_addValues_7 : decode cX3_addValues 7 = .ok (.if_icmp .ge 30, 3) := by decide +kernel
theorem dX3_addValues_10 : decode cX3_addValues 10 = .ok (.aload_n 0, 1) := by decide +kernel
theorem dX3_addValues_11 : decode cX3_addValues 11 = .ok (.aload_n 1, 1) := by decide +kernel
theorem dX3_addValues_12 : decode cX3_addValues 12 = .ok (.iload_n 2, 1) := by decide +kernel
theorem dX3_addValues_13 : decode cX3_addValues 13 = .ok (.invokevirtual 62, 3) := by decide +kernel
theorem dX3_addValues_16 : decode cX3_addValues 16 = .ok (.invokevirtual 65, 3) := by decide +kernel
theorem dX3_addValues_19 : decode cX3_addValues 19 = .ok (.ifCond .eq 12, 3) := by decide +kernel
theorem dX3_addValues_22 : decode cX3_addValues 22 = .ok (.aload_n 0, 1) := by decide +kernel
theorem dX3_addValues_23 : decode cX3_addValues 23 = .ok (.aload_n 1, 1) := by decide +kernel
theorem dX3_addValues_24 : decode cX3_addValues 24 = .ok (.iload_n 2, 1) := by decide +kernel
theorem dX3_addValues_25 : decode cX3_addValues 25 = .ok (.invokevirtual 68, 3) := by decide +kernel
theorem dX3_addValues_28 : decode cX3_addValues 28 = .ok (.invokevirtual 32, 3) := by decide +kernel
theorem dX3_addValues_31 : decode cX3_addValues 31 = .ok (.iinc 2 1, 3) := by decide +kernel
theorem dX3_addValues_34 : decode cX3_addValues 34 = .ok (.goto (-32), 3) := by decide +kernel
theorem dX3_addValues_37 : decode cX3_addValues 37 = .ok (.return_, 1) := by decide +kernel
theorem dX4_init_0 : decode cX4_init 0 = .ok (.aload_n 0, 1) := by decide +kernel
theorem dX4_init_1 : decode cX4_init 1 = .ok (.invokespecial 3, 3) := by decide +kernel
theorem dX4_init_4 : decode cX4_init 4 = .ok (.aload_n 0, 1) := by decide +kernel
theorem dX4_init_5 : decode cX4_init 5 = .ok (.bipush 120, 2) := by decide +kernel
theorem dX4_init_7 : decode cX4_init 7 = .ok (.newarray .int, 2) := by decide +kernel
theorem dX4_init_9 : decode cX4_init 9 = .ok (.putfield 9, 3) := by decide +kernel
theorem dX4_init_12 : decode cX4_init 12 = .ok (.aload_n 0, 1) := by decide +kernel
theorem dX4_init_13 : decode cX4_init 13 = .ok (.bipush 120, 2) := by decide +kernel
theorem dX4_init_15 : decode cX4_init 15 = .ok (.newarray .int, 2) := by decide +kernel
theorem dX4_init_17 : decode cX4_init 17 = .ok (.putfield 15, 3) := by decide +kernel
theorem dX4_init_20 : decode cX4_init 20 = .ok (.aload_n 0, 1) := by decide +kernel
theorem dX4_init_21 : decode cX4_init 21 = .ok (.bipush 120, 2) := by decide +kernel
theorem dX4_init_23 : decode cX4_init 23 = .ok (.newarray .int, 2) := by decide +kernel
theorem dX4_init_25 : decode cX4_init 25 = .ok (.putfield 18, 3) := by decide +kernel
theorem dX4_init_28 : decode cX4_init 28 = .ok (.aload_n 0, 1) := by decide +kernel
theorem dX4_init_29 : decode cX4_init 29 = .ok (.bipush 120, 2) := by decide +kernel
theorem dX4_init_31 : decode cX4_init 31 = .ok (.newarray .int, 2) := by decide +kernel
theorem dX4_init_33 : decode cX4_init 33 = .ok (.putfield 21, 3) := by decide +kernel
theorem dX4_init_36 : decode cX4_init 36 = .ok (.aload_n 0, 1) := by decide +kernel
theorem dX4_init_37 : decode cX4_init 37 = .ok (.bipush 120, 2) := by decide +kernel
theorem dX4_init_39 : decode cX4_init 39 = .ok (.newarray .boolean, 2) := by decide +kernel
theorem dX4_init_41 : decode cX4_init 41 = .ok (.putfield 24, 3) := by decide +kernel
theorem dX4_init_44 : decode cX4_init 44 = .ok (.aload_n 0, 1) := by decide +kernel
theorem dX4_init_45 : decode cX4_init 45 = .ok (.bipush 120, 2) := by decide +kernel
theorem dX4_init_47 : decode cX4_init 47 = .ok (.newarray .boolean, 2) := by decide +kernel
theorem dX4_init_49 : decode cX4_init 49 = .ok (.putfield 28, 3) := by decide +kernel
theorem dX4_init_52 : decode cX4_init 52 = .ok (.aload_n 0, 1) := by decide +kernel
theorem dX4_init_53 : decode cX4_init 53 = .ok (.sipush 720, 3) := by decide +kernel
theorem dX4_init_56 : decode cX4_init 56 = .ok (.newarray .int, 2) := by decide +kernel
theorem dX4_init_58 : decode cX4_init 58 = .ok (.putfield 31, 3) := by decide +kernel
theorem dX4_init_61 : decode cX4_init 61 = .ok (.return_, 1) := by decide +kernel
theorem dX4_add_0 : decode cX4_add 0 = .ok (.aload_n 0, 1) := by decide +kernel
theorem dX4_add_1 : decode cX4_add 1 = .ok (.getfield 34, 3) := by decide +kernel
theorem dX4_add_4 : decode cX4_add 4 = .ok (.ifCond .lt 12, 3) := by decide +kernel
theorem dX4_add_7 : decode cX4_add 7 = .ok (.aload_n 0, 1) := by decide +kernel
theorem dX4_add_8 : decode cX4_add 8 = .ok (.getfield 34, 3) := by decide +kernel
theorem dX4_add_11 : decode cX4_add 11 = .ok (.bipush 120, 2) := by decide +kernel
theorem dX4_add_13 : decode cX4_add 13 = .ok (.if_icmp .lt 5, 3) := by decide +kernel
theorem dX4_add_16 : decode cX4_add 16 = .ok (.iconst (-1), 1) := by decide +kernel
theorem dX4_add_17 : decode cX4_add 17 = .ok (.ireturn, 1) := by decide +kernel
theorem dX4_add_18 : decode cX4_add 18 = .ok (.aload_n 0, 1) := by decide +kernel
theorem dX4_add_19 : decode cX4_add 19 = .ok (.getfield 34, 3) := by decide +kernel
theorem dX4_add_22 : decode cX4_add 22 = .ok (.istore 5, 2) := by decide +kernel
theorem dX4_add_24 : decode cX4_add 24 = .ok (.aload_n 0, 1) := by decide +kernel
theorem dX4_add_25 : decode cX4_add 25 = .ok (.getfield 9, 3) := by decide +kernel
theorem dX4_add_28 : decode cX4_add 28 = .ok (.iload 5, 2) := by decide +kernel
theorem dX4_add_30 : decode cX4_add 30 = .ok (.iload_n 1, 1) := by decide +kernel
theorem dX4_add_31 : decode cX4_add 31 = .ok (.iconst 1, 1) := by decide +kernel
theorem dX4_add_32 : decode cX4_add 32 = .ok (.iadd, 1) := by decide +kernel
theorem dX4_add_33 : decode cX4_add 33 = .ok (.iastore, 1) := by decide +kernel
theorem dX4_add_34 : decode cX4_add 34 = .ok (.aload_n 0, 1) := by decide +kernel
theorem dX4_add_35 : decode cX4_add 35 = .ok (.getfield 15, 3) := by decide +kernel
theorem dX4_add_38 : decode cX4_add 38 = .ok (.iload 5, 2) := by decide +kernel
theorem dX4_add_40 : decode cX4_add 40 = .ok (.iload 4, 2) := by decide +kernel
theorem dX4_add_42 : decode cX4_add 42 = .ok (.iastore, 1) := by decide +kernel
theorem dX4_add_43 : decode cX4_add 43 = .ok (.aload_n 0, 1) := by decide +kernel
theorem dX4_add_44 : decode cX4_add 44 = .ok (.getfield 18, 3) := by decide +kernel
theorem dX4_add_47 : decode cX4_add 47 = .ok (.iload 5, 2) := by decide +kernel
theorem dX4_add_49 : decode cX4_add 49 = .ok (.iload_n 3, 1) := by decide +kernel
theorem dX4_add_50 : decode cX4_add 50 = .ok (.iastore, 1) := by decide +kernel
theorem dX4_add_51 : decode cX4_add 51 = .ok (.aload_n 0, 1) := by decide +kernel
theorem dX4_add_52 : decode cX4_add 52 = .ok (.getfield 21, 3) := by decide +kernel
theorem dX4_add_55 : decode cX4_add 55 = .ok (.iload 5, 2) := by decide +kernel
theorem dX4_add_57 : decode cX4_add 57 = .ok (.iconst 0, 1) := by decide +kernel
theorem dX4_add_58 : decode cX4_add 58 = .ok (.iastore, 1) := by decide +kernel
theorem dX4_add_59 : decode cX4_add 59 = .ok (.aload_n 0, 1) := by decide +kernel
theorem dX4_add_60 : decode cX4_add 60 = .ok (.getfield 24, 3) := by decide +kernel
theorem dX4_add_63 : decode cX4_add 63 = .ok (.iload 5, 2) := by decide +kernel
theorem dX4_add_65 : decode cX4_add 65 = .ok (.iconst 0, 1) := by decide +kernel
theorem dX4_add_66 : decode cX4_add 66 = .ok (.bastore, 1) := by decide +kernel
theorem dX4_add_67 : decode cX4_add 67 = .ok (.aload_n 0, 1) := by decide +kernel
theorem dX4_add_68 : decode cX4_add 68 = .ok (.getfield 28, 3) := by decide +kernel
theorem dX4_add_71 : decode cX4_add 71 = .ok (.iload 5, 2) := by decide +kernel
theorem dX4_add_73 : decode cX4_add 73 = .ok (.iload_n 2, 1) := by decide +kernel
theorem dX4_add_74 : decode cX4_add 74 = .ok (.bastore, 1) := by decide +kernel
theorem dX4_add_75 : decode cX4_add 75 = .ok (.iconst 0, 1) := by decide +kernel
theorem dX4_add_76 : decode cX4_add 76 = .ok (.istore 6, 2) := by decide +kernel
theorem dX4_add_78 : decode cX4_add 78 = .ok (.iload 6, 2) := by decide +kernel
theorem dX4_add_80 : decode cX4_add 80 = .ok (.bipush 6, 2) := by decide +kernel
theorem dX4_add_82 : decode cX4_add 82 = .ok (.if_icmp .ge 23, 3) := by decide +kernel
theorem dX4_add_85 : decode cX4_add 85 = .ok (.aload_n 0, 1) := by decide +kernel
theorem dX4_add_86 : decode cX4_add 86 = .ok (.getfield 31, 3) := by decide +kernel
theorem dX4_add_89 : decode cX4_add 89 = .ok (.iload 5, 2) := by decide +kernel
theorem dX4_add_91 : decode cX4_add 91 = .ok (.bipush 6, 2) := by decide +kernel
theorem dX4_add_93 : decode cX4_add 93 = .ok (.imul, 1) := by decide +kernel
theorem dX4_add_94 : decode cX4_add 94 = .ok (.iload 6, 2) := by decide +kernel
theorem dX4_add_96 : decode cX4_add 96 = .ok (.iadd, 1) := by decide +kernel
theorem dX4_add_97 : decode cX4_add 97 = .ok (.iconst (-1), 1) := by decide +kernel
theorem dX4_add_98 : decode cX4_add 98 = .ok (.iastore, 1) := by decide +kernel
theorem dX4_add_99 : decode cX4_add 99 = .ok (.iinc 6 1, 3) := by decide +kernel
theorem dX4_add_102 : decode cX4_add 102 = .ok (.goto (-24), 3) := by decide +kernel
theorem dX4_add_105 : decode cX4_add 105 = .ok (.aload_n 0, 1) := by decide +kernel
theorem dX4_add_106 : decode cX4_add 106 = .ok (.dup, 1) := by decide +kernel
theorem dX4_add_107 : decode cX4_add 107 = .ok (.getfield 34, 3) := by decide +kernel
theorem dX4_add_110 : decode cX4_add 110 = .ok (.iconst 1, 1) := by decide +kernel
theorem dX4_add_111 : decode cX4_add 111 = .ok (.iadd, 1) := by decide +kernel
theorem dX4_add_112 : decode cX4_add 112 = .ok (.putfield 34, 3) := by decide +kernel
theorem dX4_add_115 : decode cX4_add 115 = .ok (.iload 5, 2) := by decide +kernel
theorem dX4_add_117 : decode cX4_add 117 = .ok (.ireturn, 1) := by decide +kernel
theorem dX4_isThing_0 : decode cX4_isThing 0 = .ok (.iload_n 1, 1) := by decide +kernel
theorem dX4_isThing_1 : decode cX4_isThing 1 = .ok (.ifCond .lt 21, 3) := by decide +kernel
theorem dX4_isThing_4 : decode cX4_isThing 4 = .ok (.iload_n 1, 1) := by decide +kernel
theorem dX4_isThing_5 : decode cX4_isThing 5 = .ok (.aload_n 0, 1) := by decide +kernel
theorem dX4_isThing_6 : decode cX4_isThing 6 = .ok (.getfield 34, 3) := by decide +kernel
theorem dX4_isThing_9 : decode cX4_isThing 9 = .ok (.if_icmp .ge 13, 3) := by decide +kernel
theorem dX4_isThing_12 : decode cX4_isThing 12 = .ok (.iload_n 1, 1) := by decide +kernel
theorem dX4_isThing_13 : decode cX4_isThing 13 = .ok (.bipush 120, 2) := by decide +kernel
theorem dX4_isThing_15 : decode cX4_isThing 15 = .ok (.if_icmp .ge 7, 3) := by decide +kernel
theorem dX4_isThing_18 : decode cX4_isThing 18 = .ok (.iconst 1, 1) := by decide +kernel
theorem dX4_isThing_19 : decode cX4_isThing 19 = .ok (.goto 4, 3) := by decide +kernel
theorem dX4_isThing_22 : decode cX4_isThing 22 = .ok (.iconst 0, 1) := by decide +kernel
theorem dX4_isThing_23 : decode cX4_isThing 23 = .ok (.ireturn, 1) := by decide +kernel
theorem dX4_sizeOf_0 : decode cX4_sizeOf 0 = .ok (.aload_n 0, 1) := by decide +kernel
theorem dX4_sizeOf_1 : decode cX4_sizeOf 1 = .ok (.iload_n 1, 1) := by decide +kernel
theorem dX4_sizeOf_2 : decode cX4_sizeOf 2 = .ok (.invokevirtual 38, 3) := by decide +kernel
theorem dX4_sizeOf_5 : decode cX4_sizeOf 5 = .ok (.ifCond .eq 12, 3) := by decide +kernel
theorem dX4_sizeOf_8 : decode cX4_sizeOf 8 = .ok (.aload_n 0, 1) := by decide +kernel
theorem dX4_sizeOf_9 : decode cX4_sizeOf 9 = .ok (.getfield 9, 3) := by decide +kernel
theorem dX4_sizeOf_12 : decode cX4_sizeOf 12 = .ok (.iload_n 1, 1) := by decide +kernel
theorem dX4_sizeOf_13 : decode cX4_sizeOf 13 = .ok (.iaload, 1) := by decide +kernel
theorem dX4_sizeOf_14 : decode cX4_sizeOf 14 = .ok (.goto 4, 3) := by decide +kernel
theorem dX4_sizeOf_17 : decode cX4_sizeOf 17 = .ok (.iconst 0, 1) := by decide +kernel
theorem dX4_sizeOf_18 : decode cX4_sizeOf 18 = .ok (.ireturn, 1) := by decide +kernel
theorem dX4_fieldsOf_0 : decode cX4_fieldsOf 0 = .ok (.aload_n 0, 1) := by decide +kernel
theorem dX4_fieldsOf_1 : decode cX4_fieldsOf 1 = .ok (.iload_n 1, 1) := by decide +kernel
theorem dX4_fieldsOf_2 : decode cX4_fieldsOf 2 = .ok (.invokevirtual 38, 3) := by decide +kernel
theorem dX4_fieldsOf_5 : decode cX4_fieldsOf 5 = .ok (.ifCond .eq 14, 3) := by decide +kernel
theorem dX4_fieldsOf_8 : decode cX4_fieldsOf 8 = .ok (.aload_n 0, 1) := by decide +kernel
theorem dX4_fieldsOf_9 : decode cX4_fieldsOf 9 = .ok (.getfield 9, 3) := by decide +kernel
theorem dX4_fieldsOf_12 : decode cX4_fieldsOf 12 = .ok (.iload_n 1, 1) := by decide +kernel
theorem dX4_fieldsOf_13 : decode cX4_fieldsOf 13 = .ok (.iaload, 1) := by decide +kernel
theorem dX4_fieldsOf_14 : decode cX4_fieldsOf 14 = .ok (.iconst 1, 1) := by decide +kernel
theorem dX4_fieldsOf_15 : decode cX4_fieldsOf 15 = .ok (.isub, 1) := by decide +kernel
theorem dX4_fieldsOf_16 : decode cX4_fieldsOf 16 = .ok (.goto 4, 3) := by decide +kernel
theorem dX4_fieldsOf_19 : decode cX4_fieldsOf 19 = .ok (.iconst 0, 1) := by decide +kernel
theorem dX4_fieldsOf_20 : decode cX4_fieldsOf 20 = .ok (.ireturn, 1) := by decide +kernel
theorem dX4_placeOf_0 : decode cX4_placeOf 0 = .ok (.aload_n 0, 1) := by decide +kernel
theorem dX4_placeOf_1 : decode cX4_placeOf 1 = .ok (.iload_n 1, 1) := by decide +kernel
theorem dX4_placeOf_2 : decode cX4_placeOf 2 = .ok (.invokevirtual 38, 3) := by decide +kernel
theorem dX4_placeOf_5 : decode cX4_placeOf 5 = .ok (.ifCond .eq 12, 3) := by decide +kernel
theorem dX4_placeOf_8 : decode cX4_placeOf 8 = .ok (.aload_n 0, 1) := by decide +kernel
theorem dX4_placeOf_9 : decode cX4_placeOf 9 = .ok (.getfield 15, 3) := by decide +kernel
theorem dX4_placeOf_12 : decode cX4_placeOf 12 = .ok (.iload_n 1, 1) := by decide +kernel
theorem dX4_placeOf_13 : decode cX4_placeOf 13 = .ok (.iaload, 1) := by decide +kernel
theorem dX4_placeOf_14 : decode cX4_placeOf 14 = .ok (.goto 4, 3) := by decide +kernel
theorem dX4_placeOf_17 : decode cX4_placeOf 17 = .ok (.iconst (-1), 1) := by decide +kernel
theorem dX4_placeOf_18 : decode cX4_placeOf 18 = .ok (.ireturn, 1) := by decide +kernel
theorem dX4_colourOf_0 : decode cX4_colourOf 0 = .ok (.aload_n 0, 1) := by decide +kernel
theorem dX4_colourOf_1 : decode cX4_colourOf 1 = .ok (.iload_n 1, 1) := by decide +kernel
theorem dX4_colourOf_2 : decode cX4_colourOf 2 = .ok (.invokevirtual 38, 3) := by decide +kernel
theorem dX4_colourOf_5 : decode cX4_colourOf 5 = .ok (.ifCond .eq 12, 3) := by decide +kernel
theorem dX4_colourOf_8 : decode cX4_colourOf 8 = .ok (.aload_n 0, 1) := by decide +kernel
theorem dX4_colourOf_9 : decode cX4_colourOf 9 = .ok (.getfield 18, 3) := by decide +kernel
theorem dX4_colourOf_12 : decode cX4_colourOf 12 = .ok (.iload_n 1, 1) := by decide +kernel
theorem dX4_colourOf_13 : decode cX4_colourOf 13 = .ok (.iaload, 1) := by decide +kernel
theorem dX4_colourOf_14 : decode cX4_colourOf 14 = .ok (.goto 4, 3) := by decide +kernel
theorem dX4_colourOf_17 : decode cX4_colourOf 17 = .ok (.iconst (-1), 1) := by decide +kernel
theorem dX4_colourOf_18 : decode cX4_colourOf 18 = .ok (.ireturn, 1) := by decide +kernel
theorem dX4_movesOf_0 : decode cX4_movesOf 0 = .ok (.aload_n 0, 1) := by decide +kernel
theorem dX4_movesOf_1 : decode cX4_movesOf 1 = .ok (.iload_n 1, 1) := by decide +kernel
theorem dX4_movesOf_2 : decode cX4_movesOf 2 = .ok (.invokevirtual 38, 3) := by decide +kernel
theorem dX4_movesOf_5 : decode cX4_movesOf 5 = .ok (.ifCond .eq 12, 3) := by decide +kernel
theorem dX4_movesOf_8 : decode cX4_movesOf 8 = .ok (.aload_n 0, 1) := by decide +kernel
theorem dX4_movesOf_9 : decode cX4_movesOf 9 = .ok (.getfield 21, 3) := by decide +kernel
theorem dX4_movesOf_12 : decode cX4_movesOf 12 = .ok (.iload_n 1, 1) := by decide +kernel
theorem dX4_movesOf_13 : decode cX4_movesOf 13 = .ok (.iaload, 1) := by decide +kernel
theorem dX4_movesOf_14 : decode cX4_movesOf 14 = .ok (.goto 4, 3) := by decide +kernel
theorem dX4_movesOf_17 : decode cX4_movesOf 17 = .ok (.iconst 0, 1) := by decide +kernel
theorem dX4_movesOf_18 : decode cX4_movesOf 18 = .ok (.ireturn, 1) := by decide +kernel
theorem dX4_isWhite_0 : decode cX4_isWhite 0 = .ok (.aload_n 0, 1) := by decide +kernel
theorem dX4_isWhite_1 : decode cX4_isWhite 1 = .ok (.iload_n 1, 1) := by decide +kernel
theorem dX4_isWhite_2 : decode cX4_isWhite 2 = .ok (.invokevirtual 38, 3) := by decide +kernel
theorem dX4_isWhite_5 : decode cX4_isWhite 5 = .ok (.ifCond .eq 16, 3) := by decide +kernel
theorem dX4_isWhite_8 : decode cX4_isWhite 8 = .ok (.aload_n 0, 1) := by decide +kernel
theorem dX4_isWhite_9 : decode cX4_isWhite 9 = .ok (.getfield 18, 3) := by decide +kernel
theorem dX4_isWhite_12 : decode cX4_isWhite 12 = .ok (.iload_n 1, 1) := by decide +kernel
theorem dX4_isWhite_13 : decode cX4_isWhite 13 = .ok (.iaload, 1) := by decide +kernel
theorem dX4_isWhite_14 : decode cX4_isWhite 14 = .ok (.ifCond .ne 7, 3) := by decide +kernel
theorem dX4_isWhite_17 : decode cX4_isWhite 17 = .ok (.iconst 1, 1) := by decide +kernel
theorem dX4_isWhite_18 : decode cX4_isWhite 18 = .ok (.goto 4, 3) := by decide +kernel
theorem dX4_isWhite_21 : decode cX4_isWhite 21 = .ok (.iconst 0, 1) := by decide +kernel
theorem dX4_isWhite_22 : decode cX4_isWhite 22 = .ok (.ireturn, 1) := by decide +kernel
theorem dX4_isFreed_0 : decode cX4_isFreed 0 = .ok (.aload_n 0, 1) := by decide +kernel
theorem dX4_isFreed_1 : decode cX4_isFreed 1 = .ok (.iload_n 1, 1) := by decide +kernel
theorem dX4_isFreed_2 : decode cX4_isFreed 2 = .ok (.invokevirtual 38, 3) := by decide +kernel
theorem dX4_isFreed_5 : decode cX4_isFreed 5 = .ok (.ifCond .eq 16, 3) := by decide +kernel
theorem dX4_isFreed_8 : decode cX4_isFreed 8 = .ok (.aload_n 0, 1) := by decide +kernel
theorem dX4_isFreed_9 : decode cX4_isFreed 9 = .ok (.getfield 24, 3) := by decide +kernel
theorem dX4_isFreed_12 : decode cX4_isFreed 12 = .ok (.iload_n 1, 1) := by decide +kernel
theorem dX4_isFreed_13 : decode cX4_isFreed 13 = .ok (.baload, 1) := by decide +kernel
theorem dX4_isFreed_14 : decode cX4_isFreed 14 = .ok (.ifCond .eq 7, 3) := by decide +kernel
theorem dX4_isFreed_17 : decode cX4_isFreed 17 = .ok (.iconst 1, 1) := by decide +kernel
theorem dX4_isFreed_18 : decode cX4_isFreed 18 = .ok (.goto 4, 3) := by decide +kernel
theorem dX4_isFreed_21 : decode cX4_isFreed 21 = .ok (.iconst 0, 1) := by decide +kernel
theorem dX4_isFreed_22 : decode cX4_isFreed 22 = .ok (.ireturn, 1) := by decide +kernel
theorem dX4_hasWish_0 : decode cX4_hasWish 0 = .ok (.aload_n 0, 1) := by decide +kernel
theorem dX4_hasWish_1 : decode cX4_hasWish 1 = .ok (.iload_n 1, 1) := by decide +kernel
theorem dX4_hasWish_2 : decode cX4_hasWish 2 = .ok (.invokevirtual 38, 3) := by decide +kernel
theorem dX4_hasWish_5 : decode cX4_hasWish 5 = .ok (.ifCond .eq 16, 3) := by decide +kernel
theorem dX4_hasWish_8 : decode cX4_hasWish 8 = .ok (.aload_n 0, 1) := by decide +kernel
theorem dX4_hasWish_9 : decode cX4_hasWish 9 = .ok (.getfield 28, 3) := by decide +kernel
theorem dX4_hasWish_12 : decode cX4_hasWish 12 = .ok (.iload_n 1, 1) := by decide +kernel
theorem dX4_hasWish_13 : decode cX4_hasWish 13 = .ok (.baload, 1) := by decide +kernel
theorem dX4_hasWish_14 : decode cX4_hasWish 14 = .ok (.ifCond .eq 7, 3) := by decide +kernel
theorem dX4_hasWish_17 : decode cX4_hasWish 17 = .ok (.iconst 1, 1) := by decide +kernel
theorem dX4_hasWish_18 : decode cX4_hasWish 18 = .ok (.goto 4, 3) := by decide +kernel
theorem dX4_hasWish_21 : decode cX4_hasWish 21 = .ok (.iconst 0, 1) := by decide +kernel
theorem dX4_hasWish_22 : decode cX4_hasWish 22 = .ok (.ireturn, 1) := by decide +kernel
theorem dX4_hasField_0 : decode cX4_hasField 0 = .ok (.aload_n 0, 1) := by decide +kernel
theorem dX4_hasField_1 : decode cX4_hasField 1 = .ok (.iload_n 1, 1) := by decide +kernel
theorem dX4_hasField_2 : decode cX4_hasField 2 = .ok (.invokevirtual 38, 3) := by decide +kernel
theorem dX4_hasField_5 : decode cX4_hasField 5 = .ok (.ifCond .eq 29, 3) := by decide +kernel
theorem dX4_hasField_8 : decode cX4_hasField 8 = .ok (.iload_n 2, 1) := by decide +kernel
theorem dX4_hasField_9 : decode cX4_hasField 9 = .ok (.ifCond .lt 25, 3) := by decide +kernel
theorem dX4_hasField_12 : decode cX4_hasField 12 = .ok (.iload_n 2, 1) := by decide +kernel
theorem dX4_hasField_13 : decode cX4_hasField 13 = .ok (.bipush 6, 2) := by decide +kernel
theorem dX4_hasField_15 : decode cX4_hasField 15 = .ok (.if_icmp .ge 19, 3) := by decide +kernel
theorem dX4_hasField_18 : decode cX4_hasField 18 = .ok (.iload_n 2, 1) := by decide +kernel
theorem dX4_hasField_19 : decode cX4_hasField 19 = .ok (.aload_n 0, 1) := by decide +kernel
theorem dX4_hasField_20 : decode cX4_hasField 20 = .ok (.getfield 9, 3) := by decide +kernel
theorem dX4_hasField_23 : decode cX4_hasField 23 = .ok (.iload_n 1, 1) := by decide +kernel
theorem dX4_hasField_24 : decode cX4_hasField 24 = .ok (.iaload, 1) := by decide +kernel
theorem dX4_hasField_25 : decode cX4_hasField 25 = .ok (.iconst 1, 1) := by decide +kernel
theorem dX4_hasField_26 : decode cX4_hasField 26 = .ok (.isub, 1) := by decide +kernel
theorem dX4_hasField_27 : decode cX4_hasField 27 = .ok (.if_icmp .ge 7, 3) := by decide +kernel
theorem dX4_hasField_30 : decode cX4_hasField 30 = .ok (.iconst 1, 1) := by decide +kernel
theorem dX4_hasField_31 : decode cX4_hasField 31 = .ok (.goto 4, 3) := by decide +kernel
theorem dX4_hasField_34 : decode cX4_hasField 34 = .ok (.iconst 0, 1) := by decide +kernel
theorem dX4_hasField_35 : decode cX4_hasField 35 = .ok (.ireturn, 1) := by decide +kernel
theorem dX4_inField_0 : decode cX4_inField 0 = .ok (.aload_n 0, 1) := by decide +kernel
theorem dX4_inField_1 : decode cX4_inField 1 = .ok (.iload_n 1, 1) := by decide +kernel
theorem dX4_inField_2 : decode cX4_inField 2 = .ok (.iload_n 2, 1) := by decide +kernel
theorem dX4_inField_3 : decode cX4_inField 3 = .ok (.invokevirtual 42, 3) := by decide +kernel
theorem dX4_inField_6 : decode cX4_inField 6 = .ok (.ifCond .eq 17, 3) := by decide +kernel
theorem dX4_inField_9 : decode cX4_inField 9 = .ok (.aload_n 0, 1) := by decide +kernel
theorem dX4_inField_10 : decode cX4_inField 10 = .ok (.getfield 31, 3) := by decide +kernel
theorem dX4_inField_13 : decode cX4_inField 13 = .ok (.iload_n 1, 1) := by decide +kernel
theorem dX4_inField_14 : decode cX4_inField 14 = .ok (.bipush 6, 2) := by decide +kernel
theorem dX4_inField_16 : decode cX4_inField 16 = .ok (.imul, 1) := by decide +kernel
theorem dX4_inField_17 : decode cX4_inField 17 = .ok (.iload_n 2, 1) := by decide +kernel
theorem dX4_inField_18 : decode cX4_inField 18 = .ok (.iadd, 1) := by decide +kernel
theorem dX4_inField_19 : decode cX4_inField 19 = .ok (.iaload, 1) := by decide +kernel
theorem dX4_inField_20 : decode cX4_inField 20 = .ok (.goto 4, 3) := by decide +kernel
theorem dX4_inField_23 : decode cX4_inField 23 = .ok (.iconst (-1), 1) := by decide +kernel
theorem dX4_inField_24 : decode cX4_inField 24 = .ok (.ireturn, 1) := by decide +kernel
theorem dX4_setField_0 : decode cX4_setField 0 = .ok (.aload_n 0, 1) := by decide +kernel
theorem dX4_setField_1 : decode cX4_setField 1 = .ok (.iload_n 1, 1) := by decide +kernel
theorem dX4_setField_2 : decode cX4_setField 2 = .ok (.iload_n 2, 1) := by decide +kernel
theorem dX4_setField_3 : decode cX4_setField 3 = .ok (.invokevirtual 42, 3) := by decide +kernel
theorem dX4_setField_6 : decode cX4_setField 6 = .ok (.ifCond .eq 15, 3) := by decide +kernel
theorem dX4_setField_9 : decode cX4_setField 9 = .ok (.aload_n 0, 1) := by decide +kernel
theorem dX4_setField_10 : decode cX4_setField 10 = .ok (.getfield 31, 3) := by decide +kernel
theorem dX4_setField_13 : decode cX4_setField 13 = .ok (.iload_n 1, 1) := by decide +kernel
theorem dX4_setField_14 : decode cX4_setField 14 = .ok (.bipush 6, 2) := by decide +kernel
theorem dX4_setField_16 : decode cX4_setField 16 = .ok (.imul, 1) := by decide +kernel
theorem dX4_setField_17 : decode cX4_setField 17 = .ok (.iload_n 2, 1) := by decide +kernel
theorem dX4_setField_18 : decode cX4_setField 18 = .ok (.iadd, 1) := by decide +kernel
theorem dX4_setField_19 : decode cX4_setField 19 = .ok (.iload_n 3, 1) := by decide +kernel
theorem dX4_setField_20 : decode cX4_setField 20 = .ok (.iastore, 1) := by decide +kernel
theorem dX4_setField_21 : decode cX4_setField 21 = .ok (.return_, 1) := by decide +kernel
theorem dX4_paint_0 : decode cX4_paint 0 = .ok (.aload_n 0, 1) := by decide +kernel
theorem dX4_paint_1 : decode cX4_paint 1 = .ok (.iload_n 1, 1) := by decide +kernel
theorem dX4_paint_2 : decode cX4_paint 2 = .ok (.invokevirtual 38, 3) := by decide +kernel
theorem dX4_paint_5 : decode cX4_paint 5 = .ok (.ifCond .eq 10, 3) := by decide +kernel
theorem dX4_paint_8 : decode cX4_paint 8 = .ok (.aload_n 0, 1) := by decide +kernel
theorem dX4_paint_9 : decode cX4_paint 9 = .ok (.getfield 18, 3) := by decide +kernel
theorem dX4_paint_12 : decode cX4_paint 12 = .ok (.iload_n 1, 1) := by decide +kernel
theorem dX4_paint_13 : decode cX4_paint 13 = .ok (.iload_n 2, 1) := by decide +kernel
theorem dX4_paint_14 : decode cX4_paint 14 = .ok (.iastore, 1) := by decide +kernel
theorem dX4_paint_15 : decode cX4_paint 15 = .ok (.return_, 1) := by decide +kernel
theorem dX4_moveTo_0 : decode cX4_moveTo 0 = .ok (.aload_n 0, 1) := by decide +kernel
theorem dX4_moveTo_1 : decode cX4_moveTo 1 = .ok (.iload_n 1, 1) := by decide +kernel
theorem dX4_moveTo_2 : decode cX4_moveTo 2 = .ok (.invokevirtual 38, 3) := by decide +kernel
theorem dX4_moveTo_5 : decode cX4_moveTo 5 = .ok (.ifCond .eq 20, 3) := by decide +kernel
theorem dX4_moveTo_8 : decode cX4_moveTo 8 = .ok (.aload_n 0, 1) := by decide +kernel
theorem dX4_moveTo_9 : decode cX4_moveTo 9 = .ok (.getfield 15, 3) := by decide +kernel
theorem dX4_moveTo_12 : decode cX4_moveTo 12 = .ok (.iload_n 1, 1) := by decide +kernel
theorem dX4_moveTo_13 : decode cX4_moveTo 13 = .ok (.iload_n 2, 1) := by decide +kernel
theorem dX4_moveTo_14 : decode cX4_moveTo 14 = .ok (.iastore, 1) := by decide +kernel
theorem dX4_moveTo_15 : decode cX4_moveTo 15 = .ok (.aload_n 0, 1) := by decide +kernel
theorem dX4_moveTo_16 : decode cX4_moveTo 16 = .ok (.getfield 21, 3) := by decide +kernel
theorem dX4_moveTo_19 : decode cX4_moveTo 19 = .ok (.iload_n 1, 1) := by decide +kernel
theorem dX4_moveTo_20 : decode cX4_moveTo 20 = .ok (.dup2, 1) := by decide +kernel
theorem dX4_moveTo_21 : decode cX4_moveTo 21 = .ok (.iaload, 1) := by decide +kernel
theorem dX4_moveTo_22 : decode cX4_moveTo 22 = .ok (.iconst 1, 1) := by decide +kernel
theorem dX4_moveTo_23 : decode cX4_moveTo 23 = .ok (.iadd, 1) := by decide +kernel
theorem dX4_moveTo_24 : decode cX4_moveTo 24 = .ok (.iastore, 1) := by decide +kernel
theorem dX4_moveTo_25 : decode cX4_moveTo 25 = .ok (.return_, 1) := by decide +kernel
theorem dX4_free_0 : decode cX4_free 0 = .ok (.aload_n 0, 1) := by decide +kernel
theorem dX4_free_1 : decode cX4_free 1 = .ok (.iload_n 1, 1) := by decide +kernel
theorem dX4_free_2 : decode cX4_free 2 = .ok (.invokevirtual 38, 3) := by decide +kernel
theorem dX4_free_5 : decode cX4_free 5 = .ok (.ifCond .eq 17, 3) := by decide +kernel
theorem dX4_free_8 : decode cX4_free 8 = .ok (.aload_n 0, 1) := by decide +kernel
theorem dX4_free_9 : decode cX4_free 9 = .ok (.getfield 24, 3) := by decide +kernel
theorem dX4_free_12 : decode cX4_free 12 = .ok (.iload_n 1, 1) := by decide +kernel
theorem dX4_free_13 : decode cX4_free 13 = .ok (.iconst 1, 1) := by decide +kernel
theorem dX4_free_14 : decode cX4_free 14 = .ok (.bastore, 1) := by decide +kernel
theorem dX4_free_15 : decode cX4_free 15 = .ok (.aload_n 0, 1) := by decide +kernel
theorem dX4_free_16 : decode cX4_free 16 = .ok (.getfield 15, 3) := by decide +kernel
theorem dX4_free_19 : decode cX4_free 19 = .ok (.iload_n 1, 1) := by decide +kernel
theorem dX4_free_20 : decode cX4_free 20 = .ok (.iconst (-1), 1) := by decide +kernel
theorem dX4_free_21 : decode cX4_free 21 = .ok (.iastore, 1) := by decide +kernel
theorem dX4_free_22 : decode cX4_free 22 = .ok (.return_, 1) := by decide +kernel
theorem dX4_endWish_0 : decode cX4_endWish 0 = .ok (.aload_n 0, 1) := by decide +kernel
theorem dX4_endWish_1 : decode cX4_endWish 1 = .ok (.iload_n 1, 1) := by decide +kernel
theorem dX4_endWish_2 : decode cX4_endWish 2 = .ok (.invokevirtual 38, 3) := by decide +kernel
theorem dX4_endWish_5 : decode cX4_endWish 5 = .ok (.ifCond .eq 10, 3) := by decide +kernel
theorem dX4_endWish_8 : decode cX4_endWish 8 = .ok (.aload_n 0, 1) := by decide +kernel
theorem dX4_endWish_9 : decode cX4_endWish 9 = .ok (.getfield 28, 3) := by decide +kernel
theorem dX4_endWish_12 : decode cX4_endWish 12 = .ok (.iload_n 1, 1) := by decide +kernel
theorem dX4_endWish_13 : decode cX4_endWish 13 = .ok (.iconst 0, 1) := by decide +kernel
theorem dX4_endWish_14 : decode cX4_endWish 14 = .ok (.bastore, 1) := by decide +kernel
theorem dX4_endWish_15 : decode cX4_endWish 15 = .ok (.return_, 1) := by decide +kernel
theorem dX4_whitenAll_0 : decode cX4_whitenAll 0 = .ok (.iconst 0, 1) := by decide +kernel
theorem dX4_whitenAll_1 : decode cX4_whitenAll 1 = .ok (.istore_n 1, 1) := by decide +kernel
theorem dX4_whitenAll_2 : decode cX4_whitenAll 2 = .ok (.iload_n 1, 1) := by decide +kernel
theorem dX4_whitenAll_3 : decode cX4_whitenAll 3 = .ok (.aload_n 0, 1) := by decide +kernel
theorem dX4_whitenAll_4 : decode cX4_whitenAll 4 = .ok (.getfield 34, 3) := by decide +kernel
theorem dX4_whitenAll_7 : decode cX4_whitenAll 7 = .ok (.if_icmp .ge 23, 3) := by decide +kernel
theorem dX4_whitenAll_10 : decode cX4_whitenAll 10 = .ok (.aload_n 0, 1) := by decide +kernel
theorem dX4_whitenAll_11 : decode cX4_whitenAll 11 = .ok (.iload_n 1, 1) := by decide +kernel
theorem dX4_whitenAll_12 : decode cX4_whitenAll 12 = .ok (.invokevirtual 46, 3) := by decide +kernel
theorem dX4_whitenAll_15 : decode cX4_whitenAll 15 = .ok (.ifCond .ne 9, 3) := by decide +kernel
theorem dX4_whitenAll_18 : decode cX4_whitenAll 18 = .ok (.aload_n 0, 1) := by decide +kernel
theorem dX4_whitenAll_19 : decode cX4_whitenAll 19 = .ok (.iload_n 1, 1) := by decide +kernel
theorem dX4_whitenAll_20 : decode cX4_whitenAll 20 = .ok (.iconst 0, 1) := by decide +kernel
theorem dX4_whitenAll_21 : decode cX4_whitenAll 21 = .ok (.invokevirtual 49, 3) := by decide +kernel
theorem dX4_whitenAll_24 : decode cX4_whitenAll 24 = .ok (.iinc 1 1, 3) := by decide +kernel
theorem dX4_whitenAll_27 : decode cX4_whitenAll 27 = .ok (.goto (-25), 3) := by decide +kernel
theorem dX4_whitenAll_30 : decode cX4_whitenAll 30 = .ok (.return_, 1) := by decide +kernel
theorem dX4_leastGray_0 : decode cX4_leastGray 0 = .ok (.iconst 0, 1) := by decide +kernel
theorem dX4_leastGray_1 : decode cX4_leastGray 1 = .ok (.istore_n 1, 1) := by decide +kernel
theorem dX4_leastGray_2 : decode cX4_leastGray 2 = .ok (.iload_n 1, 1) := by decide +kernel
theorem dX4_leastGray_3 : decode cX4_leastGray 3 = .ok (.aload_n 0, 1) := by decide +kernel
theorem dX4_leastGray_4 : decode cX4_leastGray 4 = .ok (.getfield 34, 3) := by decide +kernel
theorem dX4_leastGray_7 : decode cX4_leastGray 7 = .ok (.if_icmp .ge 20, 3) := by decide +kernel
theorem dX4_leastGray_10 : decode cX4_leastGray 10 = .ok (.aload_n 0, 1) := by decide +kernel
theorem dX4_leastGray_11 : decode cX4_leastGray 11 = .ok (.iload_n 1, 1) := by decide +kernel
theorem dX4_leastGray_12 : decode cX4_leastGray 12 = .ok (.invokevirtual 53, 3) := by decide +kernel
theorem dX4_leastGray_15 : decode cX4_leastGray 15 = .ok (.iconst 1, 1) := by decide +kernel
theorem dX4_leastGray_16 : decode cX4_leastGray 16 = .ok (.if_icmp .ne 5, 3) := by decide +kernel
theorem dX4_leastGray_19 : decode cX4_leastGray 19 = .ok (.iload_n 1, 1) := by decide +kernel
theorem dX4_leastGray_20 : decode cX4_leastGray 20 = .ok (.ireturn, 1) := by decide +kernel
theorem dX4_leastGray_21 : decode cX4_leastGray 21 = .ok (.iinc 1 1, 3) := by decide +kernel
theorem dX4_leastGray_24 : decode cX4_leastGray 24 = .ok (.goto (-22), 3) := by decide +kernel
theorem dX4_leastGray_27 : decode cX4_leastGray 27 = .ok (.iconst (-1), 1) := by decide +kernel
theorem dX4_leastGray_28 : decode cX4_leastGray 28 = .ok (.ireturn, 1) := by decide +kernel
theorem dX4_nextNotFreed_0 : decode cX4_nextNotFreed 0 = .ok (.iload_n 1, 1) := by decide +kernel
theorem dX4_nextNotFreed_1 : decode cX4_nextNotFreed 1 = .ok (.istore_n 2, 1) := by decide +kernel
theorem dX4_nextNotFreed_2 : decode cX4_nextNotFreed 2 = .ok (.iload_n 2, 1) := by decide +kernel
theorem dX4_nextNotFreed_3 : decode cX4_nextNotFreed 3 = .ok (.aload_n 0, 1) := by decide +kernel
theorem dX4_nextNotFreed_4 : decode cX4_nextNotFreed 4 = .ok (.getfield 34, 3) := by decide +kernel
theorem dX4_nextNotFreed_7 : decode cX4_nextNotFreed 7 = .ok (.if_icmp .ge 19, 3) := by decide +kernel
theorem dX4_nextNotFreed_10 : decode cX4_nextNotFreed 10 = .ok (.aload_n 0, 1) := by decide +kernel
theorem dX4_nextNotFreed_11 : decode cX4_nextNotFreed 11 = .ok (.iload_n 2, 1) := by decide +kernel
theorem dX4_nextNotFreed_12 : decode cX4_nextNotFreed 12 = .ok (.invokevirtual 46, 3) := by decide +kernel
theorem dX4_nextNotFreed_15 : decode cX4_nextNotFreed 15 = .ok (.ifCond .ne 5, 3) := by decide +kernel
theorem dX4_nextNotFreed_18 : decode cX4_nextNotFreed 18 = .ok (.iload_n 2, 1) := by decide +kernel
theorem dX4_nextNotFreed_19 : decode cX4_nextNotFreed 19 = .ok (.ireturn, 1) := by decide +kernel
theorem dX4_nextNotFreed_20 : decode cX4_nextNotFreed 20 = .ok (.iinc 2 1, 3) := by decide +kernel
theorem dX4_nextNotFreed_23 : decode cX4_nextNotFreed 23 = .ok (.goto (-21), 3) := by decide +kernel
theorem dX4_nextNotFreed_26 : decode cX4_nextNotFreed 26 = .ok (.iconst (-1), 1) := by decide +kernel
theorem dX4_nextNotFreed_27 : decode cX4_nextNotFreed 27 = .ok (.ireturn, 1) := by decide +kernel
theorem dX4_countGray_0 : decode cX4_countGray 0 = .ok (.iconst 0, 1) := by decide +kernel
theorem dX4_countGray_1 : decode cX4_countGray 1 = .ok (.istore_n 1, 1) := by decide +kernel
theorem dX4_countGray_2 : decode cX4_countGray 2 = .ok (.iconst 0, 1) := by decide +kernel
theorem dX4_countGray_3 : decode cX4_countGray 3 = .ok (.istore_n 2, 1) := by decide +kernel
theorem dX4_countGray_4 : decode cX4_countGray 4 = .ok (.iload_n 2, 1) := by decide +kernel
theorem dX4_countGray_5 : decode cX4_countGray 5 = .ok (.aload_n 0, 1) := by decide +kernel
theorem dX4_countGray_6 : decode cX4_countGray 6 = .ok (.getfield 34, 3) := by decide +kernel
theorem dX4_countGray_9 : decode cX4_countGray 9 = .ok (.if_icmp .ge 21, 3) := by decide +kernel
theorem dX4_countGray_12 : decode cX4_countGray 12 = .ok (.aload_n 0, 1) := by decide +kernel
theorem dX4_countGray_13 : decode cX4_countGray 13 = .ok (.iload_n 2, 1) := by decide +kernel
theorem dX4_countGray_14 : decode cX4_countGray 14 = .ok (.invokevirtual 53, 3) := by decide +kernel
theorem dX4_countGray_17 : decode cX4_countGray 17 = .ok (.iconst 1, 1) := by decide +kernel
theorem dX4_countGray_18 : decode cX4_countGray 18 = .ok (.if_icmp .ne 6, 3) := by decide +kernel
theorem dX4_countGray_21 : decode cX4_countGray 21 = .ok (.iinc 1 1, 3) := by decide +kernel
theorem dX4_countGray_24 : decode cX4_countGray 24 = .ok (.iinc 2 1, 3) := by decide +kernel
theorem dX4_countGray_27 : decode cX4_countGray 27 = .ok (.goto (-23), 3) := by decide +kernel
theorem dX4_countGray_30 : decode cX4_countGray 30 = .ok (.iload_n 1, 1) := by decide +kernel
theorem dX4_countGray_31 : decode cX4_countGray 31 = .ok (.ireturn, 1) := by decide +kernel
theorem dX4_countNotFreed_0 : decode cX4_countNotFreed 0 = .ok (.iconst 0, 1) := by decide +kernel
theorem dX4_countNotFreed_1 : decode cX4_countNotFreed 1 = .ok (.istore_n 1, 1) := by decide +kernel
theorem dX4_countNotFreed_2 : decode cX4_countNotFreed 2 = .ok (.iconst 0, 1) := by decide +kernel
theorem dX4_countNotFreed_3 : decode cX4_countNotFreed 3 = .ok (.istore_n 2, 1) := by decide +kernel
theorem dX4_countNotFreed_4 : decode cX4_countNotFreed 4 = .ok (.iload_n 2, 1) := by decide +kernel
theorem dX4_countNotFreed_5 : decode cX4_countNotFreed 5 = .ok (.aload_n 0, 1) := by decide +kernel
theorem dX4_countNotFreed_6 : decode cX4_countNotFreed 6 = .ok (.getfield 34, 3) := by decide +kernel
theorem dX4_countNotFreed_9 : decode cX4_countNotFreed 9 = .ok (.if_icmp .ge 20, 3) := by decide +kernel
theorem dX4_countNotFreed_12 : decode cX4_countNotFreed 12 = .ok (.aload_n 0, 1) := by decide +kernel
theorem dX4_countNotFreed_13 : decode cX4_countNotFreed 13 = .ok (.iload_n 2, 1) := by decide +kernel
theorem dX4_countNotFreed_14 : decode cX4_countNotFreed 14 = .ok (.invokevirtual 46, 3) := by decide +kernel
theorem dX4_countNotFreed_17 : decode cX4_countNotFreed 17 = .ok (.ifCond .ne 6, 3) := by decide +kernel
theorem dX4_countNotFreed_20 : decode cX4_countNotFreed 20 = .ok (.iinc 1 1, 3) := by decide +kernel
theorem dX4_countNotFreed_23 : decode cX4_countNotFreed 23 = .ok (.iinc 2 1, 3) := by decide +kernel
theorem dX4_countNotFreed_26 : decode cX4_countNotFreed 26 = .ok (.goto (-22), 3) := by decide +kernel
theorem dX4_countNotFreed_29 : decode cX4_countNotFreed 29 = .ok (.iload_n 1, 1) := by decide +kernel
theorem dX4_countNotFreed_30 : decode cX4_countNotFreed 30 = .ok (.ireturn, 1) := by decide +kernel
theorem dX4_cellsOfWhite_0 : decode cX4_cellsOfWhite 0 = .ok (.iconst 0, 1) := by decide +kernel
theorem dX4_cellsOfWhite_1 : decode cX4_cellsOfWhite 1 = .ok (.istore_n 1, 1) := by decide +kernel
theorem dX4_cellsOfWhite_2 : decode cX4_cellsOfWhite 2 = .ok (.iconst 0, 1) := by decide +kernel
theorem dX4_cellsOfWhite_3 : decode cX4_cellsOfWhite 3 = .ok (.istore_n 2, 1) := by decide +kernel
theorem dX4_cellsOfWhite_4 : decode cX4_cellsOfWhite 4 = .ok (.iload_n 2, 1) := by decide +kernel
theorem dX4_cellsOfWhite_5 : decode cX4_cellsOfWhite 5 = .ok (.aload_n 0, 1) := by decide +kernel
theorem dX4_cellsOfWhite_6 : decode cX4_cellsOfWhite 6 = .ok (.getfield 34, 3) := by decide +kernel
theorem dX4_cellsOfWhite_9 : decode cX4_cellsOfWhite 9 = .ok (.if_icmp .ge 33, 3) := by decide +kernel
theorem dX4_cellsOfWhite_12 : decode cX4_cellsOfWhite 12 = .ok (.aload_n 0, 1) := by decide +kernel
theorem dX4_cellsOfWhite_13 : decode cX4_cellsOfWhite 13 = .ok (.iload_n 2, 1) := by decide +kernel
theorem dX4_cellsOfWhite_14 : decode cX4_cellsOfWhite 14 = .ok (.invokevirtual 57, 3) := by decide +kernel
theorem dX4_cellsOfWhite_17 : decode cX4_cellsOfWhite 17 = .ok (.ifCond .eq 19, 3) := by decide +kernel
theorem dX4_cellsOfWhite_20 : decode cX4_cellsOfWhite 20 = .ok (.aload_n 0, 1) := by decide +kernel
theorem dX4_cellsOfWhite_21 : decode cX4_cellsOfWhite 21 = .ok (.iload_n 2, 1) := by decide +kernel
theorem dX4_cellsOfWhite_22 : decode cX4_cellsOfWhite 22 = .ok (.invokevirtual 46, 3) := by decide +kernel
theorem dX4_cellsOfWhite_25 : decode cX4_cellsOfWhite 25 = .ok (.ifCond .ne 11, 3) := by decide +kernel
theorem dX4_cellsOfWhite_28 : decode cX4_cellsOfWhite 28 = .ok (.iload_n 1, 1) := by decide +kernel
theorem dX4_cellsOfWhite_29 : decode cX4_cellsOfWhite 29 = .ok (.aload_n 0, 1) := by decide +kernel
theorem dX4_cellsOfWhite_30 : decode cX4_cellsOfWhite 30 = .ok (.iload_n 2, 1) := by decide +kernel
theorem dX4_cellsOfWhite_31 : decode cX4_cellsOfWhite 31 = .ok (.invokevirtual 60, 3) := by decide +kernel
theorem dX4_cellsOfWhite_34 : decode cX4_cellsOfWhite 34 = .ok (.iadd, 1) := by decide +kernel
theorem dX4_cellsOfWhite_35 : decode cX4_cellsOfWhite 35 = .ok (.istore_n 1, 1) := by decide +kernel
theorem dX4_cellsOfWhite_36 : decode cX4_cellsOfWhite 36 = .ok (.iinc 2 1, 3) := by decide +kernel
theorem dX4_cellsOfWhite_39 : decode cX4_cellsOfWhite 39 = .ok (.goto (-35), 3) := by decide +kernel
theorem dX4_cellsOfWhite_42 : decode cX4_cellsOfWhite 42 = .ok (.iload_n 1, 1) := by decide +kernel
theorem dX4_cellsOfWhite_43 : decode cX4_cellsOfWhite 43 = .ok (.ireturn, 1) := by decide +kernel
end
section
theorem dX5_init_0 : decode cX5_init 0 = .ok (.aload_n 0, 1) := by decide +kernel
theorem dX5_init_1 : decode cX5_init 1 = .ok (.invokespecial 3, 3) := by decide +kernel
theorem dX5_init_4 : decode cX5_init 4 = .ok (.aload_n 0, 1) := by decide +kernel
theorem dX5_init_5 : decode cX5_init 5 = .ok (.new 9, 3) := by decide +kernel
theorem dX5_init_8 : decode cX5_init 8 = .ok (.dup, 1) := by decide +kernel
theorem dX5_init_9 : decode cX5_init 9 = .ok (.invokespecial 11, 3) := by decide +kernel
theorem dX5_init_12 : decode cX5_init 12 = .ok (.putfield 12, 3) := by decide +kernel
theorem dX5_init_15 : decode cX5_init 15 = .ok (.aload_n 0, 1) := by decide +kernel
theorem dX5_init_16 : decode cX5_init 16 = .ok (.new 16, 3) := by decide +kernel
theorem dX5_init_19 : decode cX5_init 19 = .ok (.dup, 1) := by decide +kernel
theorem dX5_init_20 : decode cX5_init 20 = .ok (.invokespecial 18, 3) := by decide +kernel
theorem dX5_init_23 : decode cX5_init 23 = .ok (.putfield 19, 3) := by decide +kernel
theorem dX5_init_26 : decode cX5_init 26 = .ok (.aload_n 0, 1) := by decide +kernel
theorem dX5_init_27 : decode cX5_init 27 = .ok (.new 23, 3) := by decide +kernel
theorem dX5_init_30 : decode cX5_init 30 = .ok (.dup, 1) := by decide +kernel
theorem dX5_init_31 : decode cX5_init 31 = .ok (.invokespecial 25, 3) := by decide +kernel
theorem dX5_init_34 : decode cX5_init 34 = .ok (.putfield 26, 3) := by decide +kernel
theorem dX5_init_37 : decode cX5_init 37 = .ok (.aload_n 0, 1) := by decide +kernel
theorem dX5_init_38 : decode cX5_init 38 = .ok (.new 30, 3) := by decide +kernel
theorem dX5_init_41 : decode cX5_init 41 = .ok (.dup, 1) := by decide +kernel
theorem dX5_init_42 : decode cX5_init 42 = .ok (.invokespecial 32, 3) := by decide +kernel
theorem dX5_init_45 : decode cX5_init 45 = .ok (.putfield 33, 3) := by decide +kernel
theorem dX5_init_48 : decode cX5_init 48 = .ok (.aload_n 0, 1) := by decide +kernel
theorem dX5_init_49 : decode cX5_init 49 = .ok (.new 37, 3) := by decide +kernel
theorem dX5_init_52 : decode cX5_init 52 = .ok (.dup, 1) := by decide +kernel
theorem dX5_init_53 : decode cX5_init 53 = .ok (.invokespecial 39, 3) := by decide +kernel
theorem dX5_init_56 : decode cX5_init 56 = .ok (.putfield 40, 3) := by decide +kernel
theorem dX5_init_59 : decode cX5_init 59 = .ok (.aload_n 0, 1) := by decide +kernel
theorem dX5_init_60 : decode cX5_init 60 = .ok (.iconst 0, 1) := by decide +kernel
theorem dX5_init_61 : decode cX5_init 61 = .ok (.iconst 0, 1) := by decide +kernel
theorem dX5_init_62 : decode cX5_init 62 = .ok (.invokevirtual 44, 3) := by decide +kernel
theorem dX5_init_65 : decode cX5_init 65 = .ok (.return_, 1) := by decide +kernel
theorem dX5_attic_0 : decode cX5_attic 0 = .ok (.iload_n 1, 1) := by decide +kernel
theorem dX5_attic_1 : decode cX5_attic 1 = .ok (.ifCond .lt 17, 3) := by decide +kernel
theorem dX5_attic_4 : decode cX5_attic 4 = .ok (.iload_n 1, 1) := by decide +kernel
theorem dX5_attic_5 : decode cX5_attic 5 = .ok (.iconst 4, 1) := by decide +kernel
theorem dX5_attic_6 : decode cX5_attic 6 = .ok (.if_icmp .ge 12, 3) := by decide +kernel
theorem dX5_attic_9 : decode cX5_attic 9 = .ok (.iload_n 2, 1) := by decide +kernel
theorem dX5_attic_10 : decode cX5_attic 10 = .ok (.ifCond .lt 8, 3) := by decide +kernel
theorem dX5_attic_13 : decode cX5_attic 13 = .ok (.iload_n 2, 1) := by decide +kernel
theorem dX5_attic_14 : decode cX5_attic 14 = .ok (.iconst 3, 1) := by decide +kernel
theorem dX5_attic_15 : decode cX5_attic 15 = .ok (.if_icmp .lt 6, 3) := by decide +kernel
theorem dX5_attic_18 : decode cX5_attic 18 = .ok (.bipush (-2), 2) := by decide +kernel
theorem dX5_attic_20 : decode cX5_attic 20 = .ok (.ireturn, 1) := by decide +kernel
theorem dX5_attic_21 : decode cX5_attic 21 = .ok (.aload_n 0, 1) := by decide +kernel
theorem dX5_attic_22 : decode cX5_attic 22 = .ok (.getfield 12, 3) := by decide +kernel
theorem dX5_attic_25 : decode cX5_attic 25 = .ok (.getfield 48, 3) := by decide +kernel
theorem dX5_attic_28 : decode cX5_attic 28 = .ok (.istore_n 3, 1) := by decide +kernel
theorem dX5_attic_29 : decode cX5_attic 29 = .ok (.aload_n 0, 1) := by decide +kernel
theorem dX5_attic_30 : decode cX5_attic 30 = .ok (.iload_n 1, 1) := by decide +kernel
theorem dX5_attic_31 : decode cX5_attic 31 = .ok (.iload_n 2, 1) := by decide +kernel
theorem dX5_attic_32 : decode cX5_attic 32 = .ok (.invokevirtual 44, 3) := by decide +kernel
theorem dX5_attic_35 : decode cX5_attic 35 = .ok (.iload_n 3, 1) := by decide +kernel
theorem dX5_attic_36 : decode cX5_attic 36 = .ok (.ireturn, 1) := by decide +kernel
theorem dX5_empty_0 : decode cX5_empty 0 = .ok (.aload_n 0, 1) := by decide +kernel
theorem dX5_empty_1 : decode cX5_empty 1 = .ok (.iload_n 1, 1) := by decide +kernel
theorem dX5_empty_2 : decode cX5_empty 2 = .ok (.putfield 52, 3) := by decide +kernel
theorem dX5_empty_5 : decode cX5_empty 5 = .ok (.aload_n 0, 1) := by decide +kernel
theorem dX5_empty_6 : decode cX5_empty 6 = .ok (.iload_n 2, 1) := by decide +kernel
theorem dX5_empty_7 : decode cX5_empty 7 = .ok (.putfield 55, 3) := by decide +kernel
theorem dX5_empty_10 : decode cX5_empty 10 = .ok (.aload_n 0, 1) := by decide +kernel
theorem dX5_empty_11 : decode cX5_empty 11 = .ok (.iconst 0, 1) := by decide +kernel
theorem dX5_empty_12 : decode cX5_empty 12 = .ok (.putfield 58, 3) := by decide +kernel
theorem dX5_empty_15 : decode cX5_empty 15 = .ok (.aload_n 0, 1) := by decide +kernel
theorem dX5_empty_16 : decode cX5_empty 16 = .ok (.iconst 0, 1) := by decide +kernel
theorem dX5_empty_17 : decode cX5_empty 17 = .ok (.putfield 61, 3) := by decide +kernel
theorem dX5_empty_20 : decode cX5_empty 20 = .ok (.aload_n 0, 1) := by decide +kernel
theorem dX5_empty_21 : decode cX5_empty 21 = .ok (.iconst 0, 1) := by decide +kernel
theorem dX5_empty_22 : decode cX5_empty 22 = .ok (.putfield 64, 3) := by decide +kernel
theorem dX5_empty_25 : decode cX5_empty 25 = .ok (.aload_n 0, 1) := by decide +kernel
theorem dX5_empty_26 : decode cX5_empty 26 = .ok (.iconst 0, 1) := by decide +kernel
theorem dX5_empty_27 : decode cX5_empty 27 = .ok (.putfield 67, 3) := by decide +kernel
theorem dX5_empty_30 : decode cX5_empty 30 = .ok (.aload_n 0, 1) := by decide +kernel
theorem dX5_empty_31 : decode cX5_empty 31 = .ok (.iconst 0, 1) := by decide +kernel
theorem dX5_empty_32 : decode cX5_empty 32 = .ok (.putfield 70, 3) := by decide +kernel
theorem dX5_empty_35 : decode cX5_empty 35 = .ok (.aload_n 0, 1) := by decide +kernel
theorem dX5_empty_36 : decode cX5_empty 36 = .ok (.iconst 0, 1) := by decide +kernel
theorem dX5_empty_37 : decode cX5_empty 37 = .ok (.putfield 73, 3) := by decide +kernel
theorem dX5_empty_40 : decode cX5_empty 40 = .ok (.aload_n 0, 1) := by decide +kernel
theorem dX5_empty_41 : decode cX5_empty 41 = .ok (.getfield 12, 3) := by decide +kernel
theorem dX5_empty_44 : decode cX5_empty 44 = .ok (.iconst 0, 1) := by decide +kernel
theorem dX5_empty_45 : decode cX5_empty 45 = .ok (.putfield 48, 3) := by decide +kernel
theorem dX5_empty_48 : decode cX5_empty 48 = .ok (.aload_n 0, 1) := by decide +kernel
theorem dX5_empty_49 : decode cX5_empty 49 = .ok (.getfield 33, 3) := by decide +kernel
theorem dX5_empty_52 : decode cX5_empty 52 = .ok (.iconst 0, 1) := by decide +kernel
theorem dX5_empty_53 : decode cX5_empty 53 = .ok (.putfield 76, 3) := by decide +kernel
theorem dX5_empty_56 : decode cX5_empty 56 = .ok (.aload_n 0, 1) := by decide +kernel
theorem dX5_empty_57 : decode cX5_empty 57 = .ok (.getfield 19, 3) := by decide +kernel
theorem dX5_empty_60 : decode cX5_empty 60 = .ok (.invokevirtual 77, 3) := by decide +kernel
theorem dX5_empty_63 : decode cX5_empty 63 = .ok (.aload_n 0, 1) := by decide +kernel
theorem dX5_empty_64 : decode cX5_empty 64 = .ok (.getfield 26, 3) := by decide +kernel
theorem dX5_empty_67 : decode cX5_empty 67 = .ok (.invokevirtual 79, 3) := by decide +kernel
theorem dX5_empty_70 : decode cX5_empty 70 = .ok (.return_, 1) := by decide +kernel
theorem dX5_make_0 : decode cX5_make 0 = .ok (.iload_n 1, 1) := by decide +kernel
theorem dX5_make_1 : decode cX5_make 1 = .ok (.iload_n 2, 1) := by decide +kernel
theorem dX5_make_2 : decode cX5_make 2 = .ok (.invokestatic 80, 3) := by decide +kernel
theorem dX5_make_5 : decode cX5_make 5 = .ok (.ifCond .eq 13, 3) := by decide +kernel
theorem dX5_make_8 : decode cX5_make 8 = .ok (.iload_n 3, 1) := by decide +kernel
theorem dX5_make_9 : decode cX5_make 9 = .ok (.ifCond .lt 9, 3) := by decide +kernel
theorem dX5_make_12 : decode cX5_make 12 = .ok (.iload_n 3, 1) := by decide +kernel
theorem dX5_make_13 : decode cX5_make 13 = .ok (.bipush 6, 2) := by decide +kernel
theorem dX5_make_15 : decode cX5_make 15 = .ok (.if_icmp .le 6, 3) := by decide +kernel
theorem dX5_make_18 : decode cX5_make 18 = .ok (.bipush (-2), 2) := by decide +kernel
theorem dX5_make_20 : decode cX5_make 20 = .ok (.ireturn, 1) := by decide +kernel
theorem dX5_make_21 : decode cX5_make 21 = .ok (.aload_n 0, 1) := by decide +kernel
theorem dX5_make_22 : decode cX5_make 22 = .ok (.getfield 12, 3) := by decide +kernel
theorem dX5_make_25 : decode cX5_make 25 = .ok (.getfield 48, 3) := by decide +kernel
theorem dX5_make_28 : decode cX5_make 28 = .ok (.bipush 120, 2) := by decide +kernel
theorem dX5_make_30 : decode cX5_make 30 = .ok (.if_icmp .lt 6, 3) := by decide +kernel
theorem dX5_make_33 : decode cX5_make 33 = .ok (.bipush (-4), 2) := by decide +kernel
theorem dX5_make_35 : decode cX5_make 35 = .ok (.ireturn, 1) := by decide +kernel
theorem dX5_make_36 : decode cX5_make 36 = .ok (.aload_n 0, 1) := by decide +kernel
theorem dX5_make_37 : decode cX5_make 37 = .ok (.invokevirtual 84, 3) := by decide +kernel
theorem dX5_make_40 : decode cX5_make 40 = .ok (.istore 5, 2) := by decide +kernel
theorem dX5_make_42 : decode cX5_make 42 = .ok (.aload_n 0, 1) := by decide +kernel
theorem dX5_make_43 : decode cX5_make 43 = .ok (.iload_n 3, 1) := by decide +kernel
theorem dX5_make_44 : decode cX5_make 44 = .ok (.iconst 1, 1) := by decide +kernel
theorem dX5_make_45 : decode cX5_make 45 = .ok (.iadd, 1) := by decide +kernel
theorem dX5_make_46 : decode cX5_make 46 = .ok (.iload 5, 2) := by decide +kernel
theorem dX5_make_48 : decode cX5_make 48 = .ok (.invokevirtual 88, 3) := by decide +kernel
theorem dX5_make_51 : decode cX5_make 51 = .ok (.istore 6, 2) := by decide +kernel
theorem dX5_make_53 : decode cX5_make 53 = .ok (.iload 6, 2) := by decide +kernel
theorem dX5_make_55 : decode cX5_make 55 = .ok (.iconst (-1), 1) := by decide +kernel
theorem dX5_make_56 : decode cX5_make 56 = .ok (.if_icmp .ne 6, 3) := by decide +kernel
theorem dX5_make_59 : decode cX5_make 59 = .ok (.bipush (-4), 2) := by decide +kernel
theorem dX5_make_61 : decode cX5_make 61 = .ok (.ireturn, 1) := by decide +kernel
theorem dX5_make_62 : decode cX5_make 62 = .ok (.aload_n 0, 1) := by decide +kernel
theorem dX5_make_63 : decode cX5_make 63 = .ok (.getfield 12, 3) := by decide +kernel
theorem dX5_make_66 : decode cX5_make 66 = .ok (.iload_n 3, 1) := by decide +kernel
theorem dX5_make_67 : decode cX5_make 67 = .ok (.iload 4, 2) := by decide +kernel
theorem dX5_make_69 : decode cX5_make 69 = .ok (.iload 5, 2) := by decide +kernel
theorem dX5_make_71 : decode cX5_make 71 = .ok (.iload 6, 2) := by decide +kernel
theorem dX5_make_73 : decode cX5_make 73 = .ok (.invokevirtual 92, 3) := by decide +kernel
theorem dX5_make_76 : decode cX5_make 76 = .ok (.istore 7, 2) := by decide +kernel
theorem dX5_make_78 : decode cX5_make 78 = .ok (.aload_n 0, 1) := by decide +kernel
theorem dX5_make_79 : decode cX5_make 79 = .ok (.getfield 52, 3) := by decide +kernel
theorem dX5_make_82 : decode cX5_make 82 = .ok (.iconst 3, 1) := by decide +kernel
theorem dX5_make_83 : decode cX5_make 83 = .ok (.if_icmp .ne 18, 3) := by decide +kernel
theorem dX5_make_86 : decode cX5_make 86 = .ok (.aload_n 0, 1) := by decide +kernel
theorem dX5_make_87 : decode cX5_make 87 = .ok (.getfield 19, 3) := by decide +kernel
theorem dX5_make_90 : decode cX5_make 90 = .ok (.iload_n 3, 1) := by decide +kernel
theorem dX5_make_91 : decode cX5_make 91 = .ok (.iconst 1, 1) := by decide +kernel
theorem dX5_make_92 : decode cX5_make 92 = .ok (.iadd, 1) := by decide +kernel
theorem dX5_make_93 : decode cX5_make 93 = .ok (.iload 7, 2) := by decide +kernel
theorem dX5_make_95 : decode cX5_make 95 = .ok (.invokevirtual 96, 3) := by decide +kernel
theorem dX5_make_98 : decode cX5_make 98 = .ok (.goto 17, 3) := by decide +kernel
theorem dX5_make_101 : decode cX5_make 101 = .ok (.aload_n 0, 1) := by decide +kernel
theorem dX5_make_102 : decode cX5_make 102 = .ok (.getfield 19, 3) := by decide +kernel
theorem dX5_make_105 : decode cX5_make 105 = .ok (.iload 6, 2) := by decide +kernel
theorem dX5_make_107 : decode cX5_make 107 = .ok (.iload_n 3, 1) := by decide +kernel
theorem dX5_make_108 : decode cX5_make 108 = .ok (.iconst 1, 1) := by decide +kernel
theorem dX5_make_109 : decode cX5_make 109 = .ok (.iadd, 1) := by decide +kernel
theorem dX5_make_110 : decode cX5_make 110 = .ok (.iload 7, 2) := by decide +kernel
theorem dX5_make_112 : decode cX5_make 112 = .ok (.invokevirtual 99, 3) := by decide +kernel
theorem dX5_make_115 : decode cX5_make 115 = .ok (.aload_n 0, 1) := by decide +kernel
theorem dX5_make_116 : decode cX5_make 116 = .ok (.getfield 26, 3) := by decide +kernel
theorem dX5_make_119 : decode cX5_make 119 = .ok (.iload_n 1, 1) := by decide +kernel
theorem dX5_make_120 : decode cX5_make 120 = .ok (.iload_n 2, 1) := by decide +kernel
theorem dX5_make_121 : decode cX5_make 121 = .ok (.invokestatic 103, 3) := by decide +kernel
theorem dX5_make_124 : decode cX5_make 124 = .ok (.iload 7, 2) := by decide +kernel
theorem dX5_make_126 : decode cX5_make 126 = .ok (.invokevirtual 106, 3) := by decide +kernel
theorem dX5_make_129 : decode cX5_make 129 = .ok (.ireturn, 1) := by decide +kernel
theorem dX5_colourOfNew_0 : decode cX5_colourOfNew 0 = .ok (.aload_n 0, 1) := by decide +kernel
theorem dX5_colourOfNew_1 : decode cX5_colourOfNew 1 = .ok (.getfield 58, 3) := by decide +kernel
theorem dX5_colourOfNew_4 : decode cX5_colourOfNew 4 = .ok (.ifCond .eq 15, 3) := by decide +kernel
theorem dX5_colourOfNew_7 : decode cX5_colourOfNew 7 = .ok (.aload_n 0, 1) := by decide +kernel
theorem dX5_colourOfNew_8 : decode cX5_colourOfNew 8 = .ok (.getfield 55, 3) := by decide +kernel
theorem dX5_colourOfNew_11 : decode cX5_colourOfNew 11 = .ok (.iconst 2, 1) := by decide +kernel
theorem dX5_colourOfNew_12 : decode cX5_colourOfNew 12 = .ok (.if_icmp .eq 7, 3) := by decide +kernel
theorem dX5_colourOfNew_15 : decode cX5_colourOfNew 15 = .ok (.iconst 2, 1) := by decide +kernel
theorem dX5_colourOfNew_16 : decode cX5_colourOfNew 16 = .ok (.goto 4, 3) := by decide +kernel
theorem dX5_colourOfNew_19 : decode cX5_colourOfNew 19 = .ok (.iconst 0, 1) := by decide +kernel
theorem dX5_colourOfNew_20 : decode cX5_colourOfNew 20 = .ok (.ireturn, 1) := by decide +kernel
theorem dX5_placeOfNew_0 : decode cX5_placeOfNew 0 = .ok (.aload_n 0, 1) := by decide +kernel
theorem dX5_placeOfNew_1 : decode cX5_placeOfNew 1 = .ok (.getfield 52, 3) := by decide +kernel
theorem dX5_placeOfNew_4 : decode cX5_placeOfNew 4 = .ok (.iconst 3, 1) := by decide +kernel
theorem dX5_placeOfNew_5 : decode cX5_placeOfNew 5 = .ok (.if_icmp .eq 12, 3) := by decide +kernel
theorem dX5_placeOfNew_8 : decode cX5_placeOfNew 8 = .ok (.aload_n 0, 1) := by decide +kernel
theorem dX5_placeOfNew_9 : decode cX5_placeOfNew 9 = .ok (.getfield 19, 3) := by decide +kernel
theorem dX5_placeOfNew_12 : decode cX5_placeOfNew 12 = .ok (.iload_n 1, 1) := by decide +kernel
theorem dX5_placeOfNew_13 : decode cX5_placeOfNew 13 = .ok (.invokevirtual 109, 3) := by decide +kernel
theorem dX5_placeOfNew_16 : decode cX5_placeOfNew 16 = .ok (.ireturn, 1) := by decide +kernel
theorem dX5_placeOfNew_17 : decode cX5_placeOfNew 17 = .ok (.iload_n 1, 1) := by decide +kernel
theorem dX5_placeOfNew_18 : decode cX5_placeOfNew 18 = .ok (.istore_n 3, 1) := by decide +kernel
theorem dX5_placeOfNew_19 : decode cX5_placeOfNew 19 = .ok (.aload_n 0, 1) := by decide +kernel
theorem dX5_placeOfNew_20 : decode cX5_placeOfNew 20 = .ok (.getfield 58, 3) := by decide +kernel
theorem dX5_placeOfNew_23 : decode cX5_placeOfNew 23 = .ok (.iconst 1, 1) := by decide +kernel
theorem dX5_placeOfNew_24 : decode cX5_placeOfNew 24 = .ok (.if_icmp .ne 23, 3) := by decide +kernel
theorem dX5_placeOfNew_27 : decode cX5_placeOfNew 27 = .ok (.iload_n 3, 1) := by decide +kernel
theorem dX5_placeOfNew_28 : decode cX5_placeOfNew 28 = .ok (.aload_n 0, 1) := by decide +kernel
theorem dX5_placeOfNew_29 : decode cX5_placeOfNew 29 = .ok (.getfield 12, 3) := by decide +kernel
theorem dX5_placeOfNew_32 : decode cX5_placeOfNew 32 = .ok (.invokevirtual 113, 3) := by decide +kernel
theorem dX5_placeOfNew_35 : decode cX5_placeOfNew 35 = .ok (.iload_n 2, 1) := by decide +kernel
theorem dX5_placeOfNew_36 : decode cX5_placeOfNew 36 = .ok (.ifCond .ne 7, 3) := by decide +kernel
theorem dX5_placeOfNew_39 : decode cX5_placeOfNew 39 = .ok (.iload_n 1, 1) := by decide +kernel
theorem dX5_placeOfNew_40 : decode cX5_placeOfNew 40 = .ok (.goto 4, 3) := by decide +kernel
theorem dX5_placeOfNew_43 : decode cX5_placeOfNew 43 = .ok (.iconst 0, 1) := by decide +kernel
theorem dX5_placeOfNew_44 : decode cX5_placeOfNew 44 = .ok (.iadd, 1) := by decide +kernel
theorem dX5_placeOfNew_45 : decode cX5_placeOfNew 45 = .ok (.iadd, 1) := by decide +kernel
theorem dX5_placeOfNew_46 : decode cX5_placeOfNew 46 = .ok (.istore_n 3, 1) := by decide +kernel
theorem dX5_placeOfNew_47 : decode cX5_placeOfNew 47 = .ok (.aload_n 0, 1) := by decide +kernel
theorem dX5_placeOfNew_48 : decode cX5_placeOfNew 48 = .ok (.getfield 19, 3) := by decide +kernel
theorem dX5_placeOfNew_51 : decode cX5_placeOfNew 51 = .ok (.invokevirtual 116, 3) := by decide +kernel
theorem dX5_placeOfNew_54 : decode cX5_placeOfNew 54 = .ok (.iload_n 3, 1) := by decide +kernel
theorem dX5_placeOfNew_55 : decode cX5_placeOfNew 55 = .ok (.if_icmp .ge 7, 3) := by decide +kernel
theorem dX5_placeOfNew_58 : decode cX5_placeOfNew 58 = .ok (.iconst (-1), 1) := by decide +kernel
theorem dX5_placeOfNew_59 : decode cX5_placeOfNew 59 = .ok (.goto 10, 3) := by decide +kernel
theorem dX5_placeOfNew_62 : decode cX5_placeOfNew 62 = .ok (.aload_n 0, 1) := by decide +kernel
theorem dX5_placeOfNew_63 : decode cX5_placeOfNew 63 = .ok (.getfield 19, 3) := by decide +kernel
theorem dX5_placeOfNew_66 : decode cX5_placeOfNew 66 = .ok (.getfield 119, 3) := by decide +kernel
theorem dX5_placeOfNew_69 : decode cX5_placeOfNew 69 = .ok (.ireturn, 1) := by decide +kernel
theorem dX5_move_0 : decode cX5_move 0 = .ok (.iload_n 1, 1) := by decide +kernel
theorem dX5_move_1 : decode cX5_move 1 = .ok (.iload_n 2, 1) := by decide +kernel
theorem dX5_move_2 : decode cX5_move 2 = .ok (.invokestatic 80, 3) := by decide +kernel
theorem dX5_move_5 : decode cX5_move 5 = .ok (.ifCond .eq 11, 3) := by decide +kernel
theorem dX5_move_8 : decode cX5_move 8 = .ok (.iload_n 1, 1) := by decide +kernel
theorem dX5_move_9 : decode cX5_move 9 = .ok (.iload_n 3, 1) := by decide +kernel
theorem dX5_move_10 : decode cX5_move 10 = .ok (.invokestatic 80, 3) := by decide +kernel
theorem dX5_move_13 : decode cX5_move 13 = .ok (.ifCond .ne 6, 3) := by decide +kernel
theorem dX5_move_16 : decode cX5_move 16 = .ok (.bipush (-2), 2) := by decide +kernel
theorem dX5_move_18 : decode cX5_move 18 = .ok (.ireturn, 1) := by decide +kernel
theorem dX5_move_19 : decode cX5_move 19 = .ok (.aload_n 0, 1) := by decide +kernel
theorem dX5_move_20 : decode cX5_move 20 = .ok (.getfield 26, 3) := by decide +kernel
theorem dX5_move_23 : decode cX5_move 23 = .ok (.iload_n 1, 1) := by decide +kernel
theorem dX5_move_24 : decode cX5_move 24 = .ok (.iload_n 2, 1) := by decide +kernel
theorem dX5_move_25 : decode cX5_move 25 = .ok (.invokestatic 103, 3) := by decide +kernel
theorem dX5_move_28 : decode cX5_move 28 = .ok (.aload_n 0, 1) := by decide +kernel
theorem dX5_move_29 : decode cX5_move 29 = .ok (.iload_n 1, 1) := by decide +kernel
theorem dX5_move_30 : decode cX5_move 30 = .ok (.iload_n 3, 1) := by decide +kernel
theorem dX5_move_31 : decode cX5_move 31 = .ok (.invokevirtual 122, 3) := by decide +kernel
theorem dX5_move_34 : decode cX5_move 34 = .ok (.invokevirtual 106, 3) := by decide +kernel
theorem dX5_move_37 : decode cX5_move 37 = .ok (.ireturn, 1) := by decide +kernel
theorem dX5_get_0 : decode cX5_get 0 = .ok (.iload_n 1, 1) := by decide +kernel
theorem dX5_get_1 : decode cX5_get 1 = .ok (.iload_n 2, 1) := by decide +kernel
theorem dX5_get_2 : decode cX5_get 2 = .ok (.invokestatic 80, 3) := by decide +kernel
theorem dX5_get_5 : decode cX5_get 5 = .ok (.ifCond .eq 11, 3) := by decide +kernel
theorem dX5_get_8 : decode cX5_get 8 = .ok (.iload_n 1, 1) := by decide +kernel
theorem dX5_get_9 : decode cX5_get 9 = .ok (.iload_n 3, 1) := by decide +kernel
theorem dX5_get_10 : decode cX5_get 10 = .ok (.invokestatic 80, 3) := by decide +kernel
theorem dX5_get_13 : decode cX5_get 13 = .ok (.ifCond .ne 6, 3) := by decide +kernel
theorem dX5_get_16 : decode cX5_get 16 = .ok (.bipush (-2), 2) := by decide +kernel
theorem dX5_get_18 : decode cX5_get 18 = .ok (.ireturn, 1) := by decide +kernel
theorem dX5_get_19 : decode cX5_get 19 = .ok (.aload_n 0, 1) := by decide +kernel
theorem dX5_get_20 : decode cX5_get 20 = .ok (.iload_n 1, 1) := by decide +kernel
theorem dX5_get_21 : decode cX5_get 21 = .ok (.iload_n 3, 1) := by decide +kernel
theorem dX5_get_22 : decode cX5_get 22 = .ok (.invokevirtual 122, 3) := by decide +kernel
theorem dX5_get_25 : decode cX5_get 25 = .ok (.istore 5, 2) := by decide +kernel
theorem dX5_get_27 : decode cX5_get 27 = .ok (.aload_n 0, 1) := by decide +kernel
theorem dX5_get_28 : decode cX5_get 28 = .ok (.iload 5, 2) := by decide +kernel
theorem dX5_get_30 : decode cX5_get 30 = .ok (.iload 4, 2) := by decide +kernel
theorem dX5_get_32 : decode cX5_get 32 = .ok (.invokevirtual 125, 3) := by decide +kernel
theorem dX5_get_35 : decode cX5_get 35 = .ok (.istore 6, 2) := by decide +kernel
theorem dX5_get_37 : decode cX5_get 37 = .ok (.iload 6, 2) := by decide +kernel
theorem dX5_get_39 : decode cX5_get 39 = .ok (.ifCond .eq 6, 3) := by decide +kernel
theorem dX5_get_42 : decode cX5_get 42 = .ok (.iload 6, 2) := by decide +kernel
theorem dX5_get_44 : decode cX5_get 44 = .ok (.ireturn, 1) := by decide +kernel
theorem dX5_get_45 : decode cX5_get 45 = .ok (.aload_n 0, 1) := by decide +kernel
theorem dX5_get_46 : decode cX5_get 46 = .ok (.getfield 12, 3) := by decide +kernel
theorem dX5_get_49 : decode cX5_get 49 = .ok (.iload 5, 2) := by decide +kernel
theorem dX5_get_51 : decode cX5_get 51 = .ok (.iload 4, 2) := by decide +kernel
theorem dX5_get_53 : decode cX5_get 53 = .ok (.invokevirtual 128, 3) := by decide +kernel
theorem dX5_get_56 : decode cX5_get 56 = .ok (.istore 7, 2) := by decide +kernel
theorem dX5_get_58 : decode cX5_get 58 = .ok (.aload_n 0, 1) := by decide +kernel
theorem dX5_get_59 : decode cX5_get 59 = .ok (.getfield 52, 3) := by decide +kernel
theorem dX5_get_62 : decode cX5_get 62 = .ok (.iconst 3, 1) := by decide +kernel
theorem dX5_get_63 : decode cX5_get 63 = .ok (.if_icmp .ne 9, 3) := by decide +kernel
theorem dX5_get_66 : decode cX5_get 66 = .ok (.aload_n 0, 1) := by decide +kernel
theorem dX5_get_67 : decode cX5_get 67 = .ok (.iload 7, 2) := by decide +kernel
theorem dX5_get_69 : decode cX5_get 69 = .ok (.invokevirtual 131, 3) := by decide +kernel
theorem dX5_get_72 : decode cX5_get 72 = .ok (.aload_n 0, 1) := by decide +kernel
theorem dX5_get_73 : decode cX5_get 73 = .ok (.getfield 26, 3) := by decide +kernel
theorem dX5_get_76 : decode cX5_get 76 = .ok (.iload_n 1, 1) := by decide +kernel
theorem dX5_get_77 : decode cX5_get 77 = .ok (.iload_n 2, 1) := by decide +kernel
theorem dX5_get_78 : decode cX5_get 78 = .ok (.invokestatic 103, 3) := by decide +kernel
theorem dX5_get_81 : decode cX5_get 81 = .ok (.iload 7, 2) := by decide +kernel
theorem dX5_get_83 : decode cX5_get 83 = .ok (.invokevirtual 106, 3) := by decide +kernel
theorem dX5_get_86 : decode cX5_get 86 = .ok (.ireturn, 1) := by decide +kernel
theorem dX5_put_0 : decode cX5_put 0 = .ok (.iload_n 1, 1) := by decide +kernel
theorem dX5_put_1 : decode cX5_put 1 = .ok (.iload_n 2, 1) := by decide +kernel
theorem dX5_put_2 : decode cX5_put 2 = .ok (.invokestatic 80, 3) := by decide +kernel
theorem dX5_put_5 : decode cX5_put 5 = .ok (.ifCond .eq 12, 3) := by decide +kernel
theorem dX5_put_8 : decode cX5_put 8 = .ok (.iload_n 1, 1) := by decide +kernel
theorem dX5_put_9 : decode cX5_put 9 = .ok (.iload 4, 2) := by decide +kernel
theorem dX5_put_11 : decode cX5_put 11 = .ok (.invokestatic 80, 3) := by decide +kernel
theorem dX5_put_14 : decode cX5_put 14 = .ok (.ifCond .ne 6, 3) := by decide +kernel
theorem dX5_put_17 : decode cX5_put 17 = .ok (.bipush (-2), 2) := by decide +kernel
theorem dX5_put_19 : decode cX5_put 19 = .ok (.ireturn, 1) := by decide +kernel
theorem dX5_put_20 : decode cX5_put 20 = .ok (.aload_n 0, 1) := by decide +kernel
theorem dX5_put_21 : decode cX5_put 21 = .ok (.iload_n 1, 1) := by decide +kernel
theorem dX5_put_22 : decode cX5_put 22 = .ok (.iload_n 2, 1) := by decide +kernel
theorem dX5_put_23 : decode cX5_put 23 = .ok (.invokevirtual 122, 3) := by decide +kernel
theorem dX5_put_26 : decode cX5_put 26 = .ok (.istore 5, 2) := by decide +kernel
theorem dX5_put_28 : decode cX5_put 28 = .ok (.aload_n 0, 1) := by decide +kernel
theorem dX5_put_29 : decode cX5_put 29 = .ok (.iload 5, 2) := by decide +kernel
theorem dX5_put_31 : decode cX5_put 31 = .ok (.iload_n 3, 1) := by decide +kernel
theorem dX5_put_32 : decode cX5_put 32 = .ok (.invokevirtual 125, 3) := by decide +kernel
theorem dX5_put_35 : decode cX5_put 35 = .ok (.istore 6, 2) := by decide +kernel
theorem dX5_put_37 : decode cX5_put 37 = .ok (.iload 6, 2) := by decide +kernel
theorem dX5_put_39 : decode cX5_put 39 = .ok (.ifCond .eq 6, 3) := by decide +kernel
theorem dX5_put_42 : decode cX5_put 42 = .ok (.iload 6, 2) := by decide +kernel
theorem dX5_put_44 : decode cX5_put 44 = .ok (.ireturn, 1) := by decide +kernel
theorem dX5_put_45 : decode cX5_put 45 = .ok (.aload_n 0, 1) := by decide +kernel
theorem dX5_put_46 : decode cX5_put 46 = .ok (.iload_n 1, 1) := by decide +kernel
theorem dX5_put_47 : decode cX5_put 47 = .ok (.iload 4, 2) := by decide +kernel
theorem dX5_put_49 : decode cX5_put 49 = .ok (.invokevirtual 122, 3) := by decide +kernel
theorem dX5_put_52 : decode cX5_put 52 = .ok (.istore 7, 2) := by decide +kernel
theorem dX5_put_54 : decode cX5_put 54 = .ok (.aload_n 0, 1) := by decide +kernel
theorem dX5_put_55 : decode cX5_put 55 = .ok (.getfield 52, 3) := by decide +kernel
theorem dX5_put_58 : decode cX5_put 58 = .ok (.iconst 1, 1) := by decide +kernel
theorem dX5_put_59 : decode cX5_put 59 = .ok (.if_icmp .ne 17, 3) := by decide +kernel
theorem dX5_put_62 : decode cX5_put 62 = .ok (.aload_n 0, 1) := by decide +kernel
theorem dX5_put_63 : decode cX5_put 63 = .ok (.aload_n 0, 1) := by decide +kernel
theorem dX5_put_64 : decode cX5_put 64 = .ok (.getfield 12, 3) := by decide +kernel
theorem dX5_put_67 : decode cX5_put 67 = .ok (.iload 5, 2) := by decide +kernel
theorem dX5_put_69 : decode cX5_put 69 = .ok (.iload_n 3, 1) := by decide +kernel
theorem dX5_put_70 : decode cX5_put 70 = .ok (.invokevirtual 128, 3) := by decide +kernel
theorem dX5_put_73 : decode cX5_put 73 = .ok (.invokevirtual 131, 3) := by decide +kernel
theorem dX5_put_76 : decode cX5_put 76 = .ok (.aload_n 0, 1) := by decide +kernel
theorem dX5_put_77 : decode cX5_put 77 = .ok (.getfield 52, 3) := by decide +kernel
theorem dX5_put_80 : decode cX5_put 80 = .ok (.iconst 2, 1) := by decide +kernel
theorem dX5_put_81 : decode cX5_put 81 = .ok (.if_icmp .ne 9, 3) := by decide +kernel
theorem dX5_put_84 : decode cX5_put 84 = .ok (.aload_n 0, 1) := by decide +kernel
theorem dX5_put_85 : decode cX5_put 85 = .ok (.iload 7, 2) := by decide +kernel
theorem dX5_put_87 : decode cX5_put 87 = .ok (.invokevirtual 131, 3) := by decide +kernel
theorem dX5_put_90 : decode cX5_put 90 = .ok (.aload_n 0, 1) := by decide +kernel
theorem dX5_put_91 : decode cX5_put 91 = .ok (.getfield 12, 3) := by decide +kernel
theorem dX5_put_94 : decode cX5_put 94 = .ok (.iload 5, 2) := by decide +kernel
theorem dX5_put_96 : decode cX5_put 96 = .ok (.iload_n 3, 1) := by decide +kernel
theorem dX5_put_97 : decode cX5_put 97 = .ok (.iload 7, 2) := by decide +kernel
theorem dX5_put_99 : decode cX5_put 99 = .ok (.invokevirtual 135, 3) := by decide +kernel
theorem dX5_put_102 : decode cX5_put 102 = .ok (.iconst 1, 1) := by decide +kernel
theorem dX5_put_103 : decode cX5_put 103 = .ok (.ireturn, 1) := by decide +kernel
theorem dX5_refusalOfField_0 : decode cX5_refusalOfField 0 = .ok (.aload_n 0, 1) := by decide +kernel
theorem dX5_refusalOfField_1 : decode cX5_refusalOfField 1 = .ok (.getfield 12, 3) := by decide +kernel
theorem dX5_refusalOfField_4 : decode cX5_refusalOfField 4 = .ok (.iload_n 1, 1) := by decide +kernel
theorem dX5_refusalOfField_5 : decode cX5_refusalOfField 5 = .ok (.iload_n 2, 1) := by decide +kernel
theorem dX5_refusalOfField_6 : decode cX5_refusalOfField 6 = .ok (.invokevirtual 138, 3) := by decide +kernel
theorem dX5_refusalOfField_9 : decode cX5_refusalOfField 9 = .ok (.ifCond .ne 6, 3) := by decide +kernel
theorem dX5_refusalOfField_12 : decode cX5_refusalOfField 12 = .ok (.bipush (-3), 2) := by decide +kernel
theorem dX5_refusalOfField_14 : decode cX5_refusalOfField 14 = .ok (.ireturn, 1) := by decide +kernel
theorem dX5_refusalOfField_15 : decode cX5_refusalOfField 15 = .ok (.aload_n 0, 1) := by decide +kernel
theorem dX5_refusalOfField_16 : decode cX5_refusalOfField 16 = .ok (.getfield 12, 3) := by decide +kernel
theorem dX5_refusalOfField_19 : decode cX5_refusalOfField 19 = .ok (.iload_n 1, 1) := by decide +kernel
theorem dX5_refusalOfField_20 : decode cX5_refusalOfField 20 = .ok (.invokevirtual 141, 3) := by decide +kernel
theorem dX5_refusalOfField_23 : decode cX5_refusalOfField 23 = .ok (.ifCond .eq 8, 3) := by decide +kernel
theorem dX5_refusalOfField_26 : decode cX5_refusalOfField 26 = .ok (.bipush (-5), 2) := by decide +kernel
theorem dX5_refusalOfField_28 : decode cX5_refusalOfField 28 = .ok (.goto 4, 3) := by decide +kernel
theorem dX5_refusalOfField_31 : decode cX5_refusalOfField 31 = .ok (.iconst 0, 1) := by decide +kernel
theorem dX5_refusalOfField_32 : decode cX5_refusalOfField 32 = .ok (.ireturn, 1) := by decide +kernel
theorem dX5_drop_0 : decode cX5_drop 0 = .ok (.iload_n 1, 1) := by decide +kernel
theorem dX5_drop_1 : decode cX5_drop 1 = .ok (.iload_n 2, 1) := by decide +kernel
theorem dX5_drop_2 : decode cX5_drop 2 = .ok (.invokestatic 80, 3) := by decide +kernel
theorem dX5_drop_5 : decode cX5_drop 5 = .ok (.ifCond .ne 6, 3) := by decide +kernel
theorem dX5_drop_8 : decode cX5_drop 8 = .ok (.bipush (-2), 2) := by decide +kernel
theorem dX5_drop_10 : decode cX5_drop 10 = .ok (.ireturn, 1) := by decide +kernel
theorem dX5_drop_11 : decode cX5_drop 11 = .ok (.aload_n 0, 1) := by decide +kernel
theorem dX5_drop_12 : decode cX5_drop 12 = .ok (.iload_n 1, 1) := by decide +kernel
theorem dX5_drop_13 : decode cX5_drop 13 = .ok (.iload_n 2, 1) := by decide +kernel
theorem dX5_drop_14 : decode cX5_drop 14 = .ok (.invokevirtual 122, 3) := by decide +kernel
theorem dX5_drop_17 : decode cX5_drop 17 = .ok (.istore_n 3, 1) := by decide +kernel
theorem dX5_drop_18 : decode cX5_drop 18 = .ok (.aload_n 0, 1) := by decide +kernel
theorem dX5_drop_19 : decode cX5_drop 19 = .ok (.getfield 26, 3) := by decide +kernel
theorem dX5_drop_22 : decode cX5_drop 22 = .ok (.iload_n 1, 1) := by decide +kernel
theorem dX5_drop_23 : decode cX5_drop 23 = .ok (.iload_n 2, 1) := by decide +kernel
theorem dX5_drop_24 : decode cX5_drop 24 = .ok (.invokestatic 103, 3) := by decide +kernel
theorem dX5_drop_27 : decode cX5_drop 27 = .ok (.iconst (-1), 1) := by decide +kernel
theorem dX5_drop_28 : decode cX5_drop 28 = .ok (.invokevirtual 106, 3) := by decide +kernel
theorem dX5_drop_31 : decode cX5_drop 31 = .ok (.pop, 1) := by decide +kernel
theorem dX5_drop_32 : decode cX5_drop 32 = .ok (.iload_n 3, 1) := by decide +kernel
theorem dX5_drop_33 : decode cX5_drop 33 = .ok (.ireturn, 1) := by decide +kernel
theorem dX5_store_0 : decode cX5_store 0 = .ok (.iload_n 1, 1) := by decide +kernel
theorem dX5_store_1 : decode cX5_store 1 = .ok (.invokestatic 145, 3) := by decide +kernel
theorem dX5_store_4 : decode cX5_store 4 = .ok (.ifCond .eq 11, 3) := by decide +kernel
theorem dX5_store_7 : decode cX5_store 7 = .ok (.iload_n 2, 1) := by decide +kernel
theorem dX5_store_8 : decode cX5_store 8 = .ok (.iload_n 3, 1) := by decide +kernel
theorem dX5_store_9 : decode cX5_store 9 = .ok (.invokestatic 80, 3) := by decide +kernel
theorem dX5_store_12 : decode cX5_store 12 = .ok (.ifCond .ne 6, 3) := by decide +kernel
theorem dX5_store_15 : decode cX5_store 15 = .ok (.bipush (-2), 2) := by decide +kernel
theorem dX5_store_17 : decode cX5_store 17 = .ok (.ireturn, 1) := by decide +kernel
theorem dX5_store_18 : decode cX5_store 18 = .ok (.aload_n 0, 1) := by decide +kernel
theorem dX5_store_19 : decode cX5_store 19 = .ok (.getfield 26, 3) := by decide +kernel
theorem dX5_store_22 : decode cX5_store 22 = .ok (.bipush 12, 2) := by decide +kernel
theorem dX5_store_24 : decode cX5_store 24 = .ok (.iload_n 1, 1) := by decide +kernel
theorem dX5_store_25 : decode cX5_store 25 = .ok (.iadd, 1) := by decide +kernel
theorem dX5_store_26 : decode cX5_store 26 = .ok (.invokevirtual 148, 3) := by decide +kernel
theorem dX5_store_29 : decode cX5_store 29 = .ok (.istore 4, 2) := by decide +kernel
theorem dX5_store_31 : decode cX5_store 31 = .ok (.aload_n 0, 1) := by decide +kernel
theorem dX5_store_32 : decode cX5_store 32 = .ok (.getfield 26, 3) := by decide +kernel
theorem dX5_store_35 : decode cX5_store 35 = .ok (.bipush 12, 2) := by decide +kernel
theorem dX5_store_37 : decode cX5_store 37 = .ok (.iload_n 1, 1) := by decide +kernel
theorem dX5_store_38 : decode cX5_store 38 = .ok (.iadd, 1) := by decide +kernel
theorem dX5_store_39 : decode cX5_store 39 = .ok (.aload_n 0, 1) := by decide +kernel
theorem dX5_store_40 : decode cX5_store 40 = .ok (.iload_n 2, 1) := by decide +kernel
theorem dX5_store_41 : decode cX5_store 41 = .ok (.iload_n 3, 1) := by decide +kernel
theorem dX5_store_42 : decode cX5_store 42 = .ok (.invokevirtual 122, 3) := by decide +kernel
theorem dX5_store_45 : decode cX5_store 45 = .ok (.invokevirtual 106, 3) := by decide +kernel
theorem dX5_store_48 : decode cX5_store 48 = .ok (.pop, 1) := by decide +kernel
theorem dX5_store_49 : decode cX5_store 49 = .ok (.iload 4, 2) := by decide +kernel
theorem dX5_store_51 : decode cX5_store 51 = .ok (.ireturn, 1) := by decide +kernel
theorem dX5_load_0 : decode cX5_load 0 = .ok (.iload_n 1, 1) := by decide +kernel
theorem dX5_load_1 : decode cX5_load 1 = .ok (.iload_n 2, 1) := by decide +kernel
theorem dX5_load_2 : decode cX5_load 2 = .ok (.invokestatic 80, 3) := by decide +kernel
theorem dX5_load_5 : decode cX5_load 5 = .ok (.ifCond .eq 10, 3) := by decide +kernel
theorem dX5_load_8 : decode cX5_load 8 = .ok (.iload_n 3, 1) := by decide +kernel
theorem dX5_load_9 : decode cX5_load 9 = .ok (.invokestatic 145, 3) := by decide +kernel
theorem dX5_load_12 : decode cX5_load 12 = .ok (.ifCond .ne 6, 3) := by decide +kernel
theorem dX5_load_15 : decode cX5_load 15 = .ok (.bipush (-2), 2) := by decide +kernel
theorem dX5_load_17 : decode cX5_load 17 = .ok (.ireturn, 1) := by decide +kernel
theorem dX5_load_18 : decode cX5_load 18 = .ok (.aload_n 0, 1) := by decide +kernel
theorem dX5_load_19 : decode cX5_load 19 = .ok (.getfield 26, 3) := by decide +kernel
theorem dX5_load_22 : decode cX5_load 22 = .ok (.iload_n 1, 1) := by decide +kernel
theorem dX5_load_23 : decode cX5_load 23 = .ok (.iload_n 2, 1) := by decide +kernel
theorem dX5_load_24 : decode cX5_load 24 = .ok (.invokestatic 103, 3) := by decide +kernel
theorem dX5_load_27 : decode cX5_load 27 = .ok (.aload_n 0, 1) := by decide +kernel
theorem dX5_load_28 : decode cX5_load 28 = .ok (.getfield 26, 3) := by decide +kernel
theorem dX5_load_31 : decode cX5_load 31 = .ok (.bipush 12, 2) := by decide +kernel
theorem dX5_load_33 : decode cX5_load 33 = .ok (.iload_n 3, 1) := by decide +kernel
theorem dX5_load_34 : decode cX5_load 34 = .ok (.iadd, 1) := by decide +kernel
theorem dX5_load_35 : decode cX5_load 35 = .ok (.invokevirtual 148, 3) := by decide +kernel
theorem dX5_load_38 : decode cX5_load 38 = .ok (.invokevirtual 106, 3) := by decide +kernel
theorem dX5_load_41 : decode cX5_load 41 = .ok (.ireturn, 1) := by decide +kernel
theorem dX5_same_0 : decode cX5_same 0 = .ok (.iload_n 1, 1) := by decide +kernel
theorem dX5_same_1 : decode cX5_same 1 = .ok (.iload_n 2, 1) := by decide +kernel
theorem dX5_same_2 : decode cX5_same 2 = .ok (.invokestatic 80, 3) := by decide +kernel
theorem dX5_same_5 : decode cX5_same 5 = .ok (.ifCond .eq 12, 3) := by decide +kernel
theorem dX5_same_8 : decode cX5_same 8 = .ok (.iload_n 3, 1) := by decide +kernel
theorem dX5_same_9 : decode cX5_same 9 = .ok (.iload 4, 2) := by decide +kernel
theorem dX5_same_11 : decode cX5_same 11 = .ok (.invokestatic 80, 3) := by decide +kernel
theorem dX5_same_14 : decode cX5_same 14 = .ok (.ifCond .ne 6, 3) := by decide +kernel
theorem dX5_same_17 : decode cX5_same 17 = .ok (.bipush (-2), 2) := by decide +kernel
theorem dX5_same_19 : decode cX5_same 19 = .ok (.ireturn, 1) := by decide +kernel
theorem dX5_same_20 : decode cX5_same 20 = .ok (.aload_n 0, 1) := by decide +kernel
theorem dX5_same_21 : decode cX5_same 21 = .ok (.iload_n 1, 1) := by decide +kernel
theorem dX5_same_22 : decode cX5_same 22 = .ok (.iload_n 2, 1) := by decide +kernel
theorem dX5_same_23 : decode cX5_same 23 = .ok (.invokevirtual 122, 3) := by decide +kernel
theorem dX5_same_26 : decode cX5_same 26 = .ok (.aload_n 0, 1) := by decide +kernel
theorem dX5_same_27 : decode cX5_same 27 = .ok (.iload_n 3, 1) := by decide +kernel
theorem dX5_same_28 : decode cX5_same 28 = .ok (.iload 4, 2) := by decide +kernel
theorem dX5_same_30 : decode cX5_same 30 = .ok (.invokevirtual 122, 3) := by decide +kernel
theorem dX5_same_33 : decode cX5_same 33 = .ok (.if_icmp .ne 7, 3) := by decide +kernel
theorem dX5_same_36 : decode cX5_same 36 = .ok (.iconst 1, 1) := by decide +kernel
theorem dX5_same_37 : decode cX5_same 37 = .ok (.goto 4, 3) := by decide +kernel
theorem dX5_same_40 : decode cX5_same 40 = .ok (.iconst 0, 1) := by decide +kernel
theorem dX5_same_41 : decode cX5_same 41 = .ok (.ireturn, 1) := by decide +kernel
theorem dX5_weak_0 : decode cX5_weak 0 = .ok (.iload_n 1, 1) := by decide +kernel
theorem dX5_weak_1 : decode cX5_weak 1 = .ok (.invokestatic 151, 3) := by decide +kernel
theorem dX5_weak_4 : decode cX5_weak 4 = .ok (.ifCond .eq 11, 3) := by decide +kernel
theorem dX5_weak_7 : decode cX5_weak 7 = .ok (.iload_n 2, 1) := by decide +kernel
theorem dX5_weak_8 : decode cX5_weak 8 = .ok (.iload_n 3, 1) := by decide +kernel
theorem dX5_weak_9 : decode cX5_weak 9 = .ok (.invokestatic 80, 3) := by decide +kernel
theorem dX5_weak_12 : decode cX5_weak 12 = .ok (.ifCond .ne 6, 3) := by decide +kernel
theorem dX5_weak_15 : decode cX5_weak 15 = .ok (.bipush (-2), 2) := by decide +kernel
theorem dX5_weak_17 : decode cX5_weak 17 = .ok (.ireturn, 1) := by decide +kernel
theorem dX5_weak_18 : decode cX5_weak 18 = .ok (.aload_n 0, 1) := by decide +kernel
theorem dX5_weak_19 : decode cX5_weak 19 = .ok (.iload_n 2, 1) := by decide +kernel
theorem dX5_weak_20 : decode cX5_weak 20 = .ok (.iload_n 3, 1) := by decide +kernel
theorem dX5_weak_21 : decode cX5_weak 21 = .ok (.invokevirtual 122, 3) := by decide +kernel
theorem dX5_weak_24 : decode cX5_weak 24 = .ok (.istore 4, 2) := by decide +kernel
theorem dX5_weak_26 : decode cX5_weak 26 = .ok (.iload 4, 2) := by decide +kernel
theorem dX5_weak_28 : decode cX5_weak 28 = .ok (.iconst (-1), 1) := by decide +kernel
theorem dX5_weak_29 : decode cX5_weak 29 = .ok (.if_icmp .ne 6, 3) := by decide +kernel
theorem dX5_weak_32 : decode cX5_weak 32 = .ok (.bipush (-3), 2) := by decide +kernel
theorem dX5_weak_34 : decode cX5_weak 34 = .ok (.ireturn, 1) := by decide +kernel
theorem dX5_weak_35 : decode cX5_weak 35 = .ok (.aload_n 0, 1) := by decide +kernel
theorem dX5_weak_36 : decode cX5_weak 36 = .ok (.getfield 26, 3) := by decide +kernel
theorem dX5_weak_39 : decode cX5_weak 39 = .ok (.iload_n 1, 1) := by decide +kernel
theorem dX5_weak_40 : decode cX5_weak 40 = .ok (.iload 4, 2) := by decide +kernel
theorem dX5_weak_42 : decode cX5_weak 42 = .ok (.invokevirtual 154, 3) := by decide +kernel
theorem dX5_weak_45 : decode cX5_weak 45 = .ok (.iconst 1, 1) := by decide +kernel
theorem dX5_weak_46 : decode cX5_weak 46 = .ok (.ireturn, 1) := by decide +kernel
theorem dX5_strong_0 : decode cX5_strong 0 = .ok (.iload_n 1, 1) := by decide +kernel
theorem dX5_strong_1 : decode cX5_strong 1 = .ok (.iload_n 2, 1) := by decide +kernel
theorem dX5_strong_2 : decode cX5_strong 2 = .ok (.invokestatic 80, 3) := by decide +kernel
theorem dX5_strong_5 : decode cX5_strong 5 = .ok (.ifCond .eq 10, 3) := by decide +kernel
theorem dX5_strong_8 : decode cX5_strong 8 = .ok (.iload_n 3, 1) := by decide +kernel
theorem dX5_strong_9 : decode cX5_strong 9 = .ok (.invokestatic 151, 3) := by decide +kernel
theorem dX5_strong_12 : decode cX5_strong 12 = .ok (.ifCond .ne 6, 3) := by decide +kernel
theorem dX5_strong_15 : decode cX5_strong 15 = .ok (.bipush (-2), 2) := by decide +kernel
theorem dX5_strong_17 : decode cX5_strong 17 = .ok (.ireturn, 1) := by decide +kernel
theorem dX5_strong_18 : decode cX5_strong 18 = .ok (.aload_n 0, 1) := by decide +kernel
theorem dX5_strong_19 : decode cX5_strong 19 = .ok (.getfield 26, 3) := by decide +kernel
theorem dX5_strong_22 : decode cX5_strong 22 = .ok (.iload_n 3, 1) := by decide +kernel
theorem dX5_strong_23 : decode cX5_strong 23 = .ok (.invokevirtual 157, 3) := by decide +kernel
theorem dX5_strong_26 : decode cX5_strong 26 = .ok (.istore 4, 2) := by decide +kernel
theorem dX5_strong_28 : decode cX5_strong 28 = .ok (.aload_n 0, 1) := by decide +kernel
theorem dX5_strong_29 : decode cX5_strong 29 = .ok (.iload 4, 2) := by decide +kernel
theorem dX5_strong_31 : decode cX5_strong 31 = .ok (.invokevirtual 160, 3) := by decide +kernel
theorem dX5_strong_34 : decode cX5_strong 34 = .ok (.aload_n 0, 1) := by decide +kernel
theorem dX5_strong_35 : decode cX5_strong 35 = .ok (.getfield 26, 3) := by decide +kernel
theorem dX5_strong_38 : decode cX5_strong 38 = .ok (.iload_n 1, 1) := by decide +kernel
theorem dX5_strong_39 : decode cX5_strong 39 = .ok (.iload_n 2, 1) := by decide +kernel
theorem dX5_strong_40 : decode cX5_strong 40 = .ok (.invokestatic 103, 3) := by decide +kernel
theorem dX5_strong_43 : decode cX5_strong 43 = .ok (.iload 4, 2) := by decide +kernel
theorem dX5_strong_45 : decode cX5_strong 45 = .ok (.invokevirtual 106, 3) := by decide +kernel
theorem dX5_strong_48 : decode cX5_strong 48 = .ok (.ireturn, 1) := by decide +kernel
theorem dX5_pair_0 : decode cX5_pair 0 = .ok (.iload_n 1, 1) := by decide +kernel
theorem dX5_pair_1 : decode cX5_pair 1 = .ok (.iload_n 2, 1) := by decide +kernel
theorem dX5_pair_2 : decode cX5_pair 2 = .ok (.invokestatic 80, 3) := by decide +kernel
theorem dX5_pair_5 : decode cX5_pair 5 = .ok (.ifCond .eq 11, 3) := by decide +kernel
theorem dX5_pair_8 : decode cX5_pair 8 = .ok (.iload_n 1, 1) := by decide +kernel
theorem dX5_pair_9 : decode cX5_pair 9 = .ok (.iload_n 3, 1) := by decide +kernel
theorem dX5_pair_10 : decode cX5_pair 10 = .ok (.invokestatic 80, 3) := by decide +kernel
theorem dX5_pair_13 : decode cX5_pair 13 = .ok (.ifCond .ne 6, 3) := by decide +kernel
theorem dX5_pair_16 : decode cX5_pair 16 = .ok (.bipush (-2), 2) := by decide +kernel
theorem dX5_pair_18 : decode cX5_pair 18 = .ok (.ireturn, 1) := by decide +kernel
theorem dX5_pair_19 : decode cX5_pair 19 = .ok (.aload_n 0, 1) := by decide +kernel
theorem dX5_pair_20 : decode cX5_pair 20 = .ok (.iload_n 1, 1) := by decide +kernel
theorem dX5_pair_21 : decode cX5_pair 21 = .ok (.iload_n 2, 1) := by decide +kernel
theorem dX5_pair_22 : decode cX5_pair 22 = .ok (.invokevirtual 122, 3) := by decide +kernel
theorem dX5_pair_25 : decode cX5_pair 25 = .ok (.istore 4, 2) := by decide +kernel
theorem dX5_pair_27 : decode cX5_pair 27 = .ok (.aload_n 0, 1) := by decide +kernel
theorem dX5_pair_28 : decode cX5_pair 28 = .ok (.iload_n 1, 1) := by decide +kernel
theorem dX5_pair_29 : decode cX5_pair 29 = .ok (.iload_n 3, 1) := by decide +kernel
theorem dX5_pair_30 : decode cX5_pair 30 = .ok (.invokevirtual 122, 3) := by decide +kernel
theorem dX5_pair_33 : decode cX5_pair 33 = .ok (.istore 5, 2) := by decide +kernel
theorem dX5_pair_35 : decode cX5_pair 35 = .ok (.iload 4, 2) := by decide +kernel
theorem dX5_pair_37 : decode cX5_pair 37 = .ok (.iconst (-1), 1) := by decide +kernel
theorem dX5_pair_38 : decode cX5_pair 38 = .ok (.if_icmp .eq 9, 3) := by decide +kernel
theorem dX5_pair_41 : decode cX5_pair 41 = .ok (.iload 5, 2) := by decide +kernel
theorem dX5_pair_43 : decode cX5_pair 43 = .ok (.iconst (-1), 1) := by decide +kernel
theorem dX5_pair_44 : decode cX5_pair 44 = .ok (.if_icmp .ne 6, 3) := by decide +kernel
theorem dX5_pair_47 : decode cX5_pair 47 = .ok (.bipush (-3), 2) := by decide +kernel
theorem dX5_pair_49 : decode cX5_pair 49 = .ok (.ireturn, 1) := by decide +kernel
theorem dX5_pair_50 : decode cX5_pair 50 = .ok (.aload_n 0, 1) := by decide +kernel
theorem dX5_pair_51 : decode cX5_pair 51 = .ok (.getfield 33, 3) := by decide +kernel
theorem dX5_pair_54 : decode cX5_pair 54 = .ok (.getfield 76, 3) := by decide +kernel
theorem dX5_pair_57 : decode cX5_pair 57 = .ok (.bipush 8, 2) := by decide +kernel
theorem dX5_pair_59 : decode cX5_pair 59 = .ok (.if_icmp .lt 8, 3) := by decide +kernel
theorem dX5_pair_62 : decode cX5_pair 62 = .ok (.bipush (-4), 2) := by decide +kernel
theorem dX5_pair_64 : decode cX5_pair 64 = .ok (.goto 14, 3) := by decide +kernel
theorem dX5_pair_67 : decode cX5_pair 67 = .ok (.aload_n 0, 1) := by decide +kernel
theorem dX5_pair_68 : decode cX5_pair 68 = .ok (.getfield 33, 3) := by decide +kernel
theorem dX5_pair_71 : decode cX5_pair 71 = .ok (.iload 4, 2) := by decide +kernel
theorem dX5_pair_73 : decode cX5_pair 73 = .ok (.iload 5, 2) := by decide +kernel
theorem dX5_pair_75 : decode cX5_pair 75 = .ok (.invokevirtual 163, 3) := by decide +kernel
theorem dX5_pair_78 : decode cX5_pair 78 = .ok (.ireturn, 1) := by decide +kernel
theorem dX5_value_0 : decode cX5_value 0 = .ok (.iload_n 1, 1) := by decide +kernel
theorem dX5_value_1 : decode cX5_value 1 = .ok (.iload_n 2, 1) := by decide +kernel
theorem dX5_value_2 : decode cX5_value 2 = .ok (.invokestatic 80, 3) := by decide +kernel
theorem dX5_value_5 : decode cX5_value 5 = .ok (.ifCond .eq 14, 3) := by decide +kernel
theorem dX5_value_8 : decode cX5_value 8 = .ok (.aload_n 0, 1) := by decide +kernel
theorem dX5_value_9 : decode cX5_value 9 = .ok (.getfield 33, 3) := by decide +kernel
theorem dX5_value_12 : decode cX5_value 12 = .ok (.iload_n 3, 1) := by decide +kernel
theorem dX5_value_13 : decode cX5_value 13 = .ok (.invokevirtual 165, 3) := by decide +kernel
theorem dX5_value_16 : decode cX5_value 16 = .ok (.ifCond .ne 6, 3) := by decide +kernel
theorem dX5_value_19 : decode cX5_value 19 = .ok (.bipush (-2), 2) := by decide +kernel
theorem dX5_value_21 : decode cX5_value 21 = .ok (.ireturn, 1) := by decide +kernel
theorem dX5_value_22 : decode cX5_value 22 = .ok (.aload_n 0, 1) := by decide +kernel
theorem dX5_value_23 : decode cX5_value 23 = .ok (.getfield 33, 3) := by decide +kernel
theorem dX5_value_26 : decode cX5_value 26 = .ok (.iload_n 3, 1) := by decide +kernel
theorem dX5_value_27 : decode cX5_value 27 = .ok (.invokevirtual 168, 3) := by decide +kernel
theorem dX5_value_30 : decode cX5_value 30 = .ok (.istore 4, 2) := by decide +kernel
theorem dX5_value_32 : decode cX5_value 32 = .ok (.aload_n 0, 1) := by decide +kernel
theorem dX5_value_33 : decode cX5_value 33 = .ok (.iload 4, 2) := by decide +kernel
theorem dX5_value_35 : decode cX5_value 35 = .ok (.invokevirtual 160, 3) := by decide +kernel
theorem dX5_value_38 : decode cX5_value 38 = .ok (.aload_n 0, 1) := by decide +kernel
theorem dX5_value_39 : decode cX5_value 39 = .ok (.getfield 26, 3) := by decide +kernel
theorem dX5_value_42 : decode cX5_value 42 = .ok (.iload_n 1, 1) := by decide +kernel
theorem dX5_value_43 : decode cX5_value 43 = .ok (.iload_n 2, 1) := by decide +kernel
theorem dX5_value_44 : decode cX5_value 44 = .ok (.invokestatic 103, 3) := by decide +kernel
theorem dX5_value_47 : decode cX5_value 47 = .ok (.iload 4, 2) := by decide +kernel
theorem dX5_value_49 : decode cX5_value 49 = .ok (.invokevirtual 106, 3) := by decide +kernel
theorem dX5_value_52 : decode cX5_value 52 = .ok (.ireturn, 1) := by decide +kernel
theorem dX5_wish_0 : decode cX5_wish 0 = .ok (.iload_n 1, 1) := by decide +kernel
theorem dX5_wish_1 : decode cX5_wish 1 = .ok (.iload_n 2, 1) := by decide +kernel
theorem dX5_wish_2 : decode cX5_wish 2 = .ok (.invokestatic 80, 3) := by decide +kernel
theorem dX5_wish_5 : decode cX5_wish 5 = .ok (.ifCond .ne 6, 3) := by decide +kernel
theorem dX5_wish_8 : decode cX5_wish 8 = .ok (.bipush (-2), 2) := by decide +kernel
theorem dX5_wish_10 : decode cX5_wish 10 = .ok (.ireturn, 1) := by decide +kernel
theorem dX5_wish_11 : decode cX5_wish 11 = .ok (.aload_n 0, 1) := by decide +kernel
theorem dX5_wish_12 : decode cX5_wish 12 = .ok (.getfield 26, 3) := by decide +kernel
theorem dX5_wish_15 : decode cX5_wish 15 = .ok (.getfield 171, 3) := by decide +kernel
theorem dX5_wish_18 : decode cX5_wish 18 = .ok (.ifCond .ne 5, 3) := by decide +kernel
theorem dX5_wish_21 : decode cX5_wish 21 = .ok (.iconst (-1), 1) := by decide +kernel
theorem dX5_wish_22 : decode cX5_wish 22 = .ok (.ireturn, 1) := by decide +kernel
theorem dX5_wish_23 : decode cX5_wish 23 = .ok (.aload_n 0, 1) := by decide +kernel
theorem dX5_wish_24 : decode cX5_wish 24 = .ok (.getfield 26, 3) := by decide +kernel
theorem dX5_wish_27 : decode cX5_wish 27 = .ok (.iload_n 1, 1) := by decide +kernel
theorem dX5_wish_28 : decode cX5_wish 28 = .ok (.iload_n 2, 1) := by decide +kernel
theorem dX5_wish_29 : decode cX5_wish 29 = .ok (.invokestatic 103, 3) := by decide +kernel
theorem dX5_wish_32 : decode cX5_wish 32 = .ok (.aload_n 0, 1) := by decide +kernel
theorem dX5_wish_33 : decode cX5_wish 33 = .ok (.getfield 26, 3) := by decide +kernel
theorem dX5_wish_36 : decode cX5_wish 36 = .ok (.invokevirtual 174, 3) := by decide +kernel
theorem dX5_wish_39 : decode cX5_wish 39 = .ok (.invokevirtual 106, 3) := by decide +kernel
theorem dX5_wish_42 : decode cX5_wish 42 = .ok (.ireturn, 1) := by decide +kernel
theorem dX5_isRegister_0 : decode cX5_isRegister 0 = .ok (.iload_n 0, 1) := by decide +kernel
theorem dX5_isRegister_1 : decode cX5_isRegister 1 = .ok (.ifCond .lt 21, 3) := by decide +kernel
theorem dX5_isRegister_4 : decode cX5_isRegister 4 = .ok (.iload_n 0, 1) := by decide +kernel
theorem dX5_isRegister_5 : decode cX5_isRegister 5 = .ok (.iconst 3, 1) := by decide +kernel
theorem dX5_isRegister_6 : decode cX5_isRegister 6 = .ok (.if_icmp .ge 16, 3) := by decide +kernel
theorem dX5_isRegister_9 : decode cX5_isRegister 9 = .ok (.iload_n 1, 1) := by decide +kernel
theorem dX5_isRegister_10 : decode cX5_isRegister 10 = .ok (.ifCond .lt 12, 3) := by decide +kernel
theorem dX5_isRegister_13 : decode cX5_isRegister 13 = .ok (.iload_n 1, 1) := by decide +kernel
theorem dX5_isRegister_14 : decode cX5_isRegister 14 = .ok (.iconst 4, 1) := by decide +kernel
theorem dX5_isRegister_15 : decode cX5_isRegister 15 = .ok (.if_icmp .ge 7, 3) := by decide +kernel
theorem dX5_isRegister_18 : decode cX5_isRegister 18 = .ok (.iconst 1, 1) := by decide +kernel
theorem dX5_isRegister_19 : decode cX5_isRegister 19 = .ok (.goto 4, 3) := by decide +kernel
theorem dX5_isRegister_22 : decode cX5_isRegister 22 = .ok (.iconst 0, 1) := by decide +kernel
theorem dX5_isRegister_23 : decode cX5_isRegister 23 = .ok (.ireturn, 1) := by decide +kernel
theorem dX5_isSlot_0 : decode cX5_isSlot 0 = .ok (.iload_n 0, 1) := by decide +kernel
theorem dX5_isSlot_1 : decode cX5_isSlot 1 = .ok (.ifCond .lt 12, 3) := by decide +kernel
theorem dX5_isSlot_4 : decode cX5_isSlot 4 = .ok (.iload_n 0, 1) := by decide +kernel
theorem dX5_isSlot_5 : decode cX5_isSlot 5 = .ok (.iconst 4, 1) := by decide +kernel
theorem dX5_isSlot_6 : decode cX5_isSlot 6 = .ok (.if_icmp .ge 7, 3) := by decide +kernel
theorem dX5_isSlot_9 : decode cX5_isSlot 9 = .ok (.iconst 1, 1) := by decide +kernel
theorem dX5_isSlot_10 : decode cX5_isSlot 10 = .ok (.goto 4, 3) := by decide +kernel
theorem dX5_isSlot_13 : decode cX5_isSlot 13 = .ok (.iconst 0, 1) := by decide +kernel
theorem dX5_isSlot_14 : decode cX5_isSlot 14 = .ok (.ireturn, 1) := by decide +kernel
theorem dX5_isWeakHolder_0 : decode cX5_isWeakHolder 0 = .ok (.iload_n 0, 1) := by decide +kernel
theorem dX5_isWeakHolder_1 : decode cX5_isWeakHolder 1 = .ok (.ifCond .lt 13, 3) := by decide +kernel
theorem dX5_isWeakHolder_4 : decode cX5_isWeakHolder 4 = .ok (.iload_n 0, 1) := by decide +kernel
theorem dX5_isWeakHolder_5 : decode cX5_isWeakHolder 5 = .ok (.bipush 6, 2) := by decide +kernel
theorem dX5_isWeakHolder_7 : decode cX5_isWeakHolder 7 = .ok (.if_icmp .ge 7, 3) := by decide +kernel
theorem dX5_isWeakHolder_10 : decode cX5_isWeakHolder 10 = .ok (.iconst 1, 1) := by decide +kernel
theorem dX5_isWeakHolder_11 : decode cX5_isWeakHolder 11 = .ok (.goto 4, 3) := by decide +kernel
theorem dX5_isWeakHolder_14 : decode cX5_isWeakHolder 14 = .ok (.iconst 0, 1) := by decide +kernel
theorem dX5_isWeakHolder_15 : decode cX5_isWeakHolder 15 = .ok (.ireturn, 1) := by decide +kernel
theorem dX5_registerAt_0 : decode cX5_registerAt 0 = .ok (.iload_n 0, 1) := by decide +kernel
theorem dX5_registerAt_1 : decode cX5_registerAt 1 = .ok (.iconst 4, 1) := by decide +kernel
theorem dX5_registerAt_2 : decode cX5_registerAt 2 = .ok (.imul, 1) := by decide +kernel
theorem dX5_registerAt_3 : decode cX5_registerAt 3 = .ok (.iload_n 1, 1) := by decide +kernel
theorem dX5_registerAt_4 : decode cX5_registerAt 4 = .ok (.iadd, 1) := by decide +kernel
theorem dX5_registerAt_5 : decode cX5_registerAt 5 = .ok (.ireturn, 1) := by decide +kernel
theorem dX5_inRegister_0 : decode cX5_inRegister 0 = .ok (.aload_n 0, 1) := by decide +kernel
theorem dX5_inRegister_1 : decode cX5_inRegister 1 = .ok (.getfield 26, 3) := by decide +kernel
theorem dX5_inRegister_4 : decode cX5_inRegister 4 = .ok (.iload_n 1, 1) := by decide +kernel
theorem dX5_inRegister_5 : decode cX5_inRegister 5 = .ok (.iload_n 2, 1) := by decide +kernel
theorem dX5_inRegister_6 : decode cX5_inRegister 6 = .ok (.invokestatic 103, 3) := by decide +kernel
theorem dX5_inRegister_9 : decode cX5_inRegister 9 = .ok (.invokevirtual 148, 3) := by decide +kernel
theorem dX5_inRegister_12 : decode cX5_inRegister 12 = .ok (.ireturn, 1) := by decide +kernel
theorem dX5_noteWeakRead_0 : decode cX5_noteWeakRead 0 = .ok (.aload_n 0, 1) := by decide +kernel
theorem dX5_noteWeakRead_1 : decode cX5_noteWeakRead 1 = .ok (.getfield 52, 3) := by decide +kernel
theorem dX5_noteWeakRead_4 : decode cX5_noteWeakRead 4 = .ok (.iconst 1, 1) := by decide +kernel
theorem dX5_noteWeakRead_5 : decode cX5_noteWeakRead 5 = .ok (.if_icmp .eq 11, 3) := by decide +kernel
theorem dX5_noteWeakRead_8 : decode cX5_noteWeakRead 8 = .ok (.aload_n 0, 1) := by decide +kernel
theorem dX5_noteWeakRead_9 : decode cX5_noteWeakRead 9 = .ok (.getfield 52, 3) := by decide +kernel
theorem dX5_noteWeakRead_12 : decode cX5_noteWeakRead 12 = .ok (.iconst 3, 1) := by decide +kernel
theorem dX5_noteWeakRead_13 : decode cX5_noteWeakRead 13 = .ok (.if_icmp .ne 8, 3) := by decide +kernel
theorem dX5_noteWeakRead_16 : decode cX5_noteWeakRead 16 = .ok (.aload_n 0, 1) := by decide +kernel
theorem dX5_noteWeakRead_17 : decode cX5_noteWeakRead 17 = .ok (.iload_n 1, 1) := by decide +kernel
theorem dX5_noteWeakRead_18 : decode cX5_noteWeakRead 18 = .ok (.invokevirtual 131, 3) := by decide +kernel
theorem dX5_noteWeakRead_21 : decode cX5_noteWeakRead 21 = .ok (.return_, 1) := by decide +kernel
theorem dX5_note_0 : decode cX5_note 0 = .ok (.aload_n 0, 1) := by decide +kernel
theorem dX5_note_1 : decode cX5_note 1 = .ok (.getfield 58, 3) := by decide +kernel
theorem dX5_note_4 : decode cX5_note 4 = .ok (.iconst 1, 1) := by decide +kernel
theorem dX5_note_5 : decode cX5_note 5 = .ok (.if_icmp .ne 16, 3) := by decide +kernel
theorem dX5_note_8 : decode cX5_note 8 = .ok (.aload_n 0, 1) := by decide +kernel
theorem dX5_note_9 : decode cX5_note 9 = .ok (.getfield 55, 3) := by decide +kernel
theorem dX5_note_12 : decode cX5_note 12 = .ok (.iconst 1, 1) := by decide +kernel
theorem dX5_note_13 : decode cX5_note 13 = .ok (.if_icmp .eq 8, 3) := by decide +kernel
theorem dX5_note_16 : decode cX5_note 16 = .ok (.aload_n 0, 1) := by decide +kernel
theorem dX5_note_17 : decode cX5_note 17 = .ok (.iload_n 1, 1) := by decide +kernel
theorem dX5_note_18 : decode cX5_note 18 = .ok (.invokevirtual 177, 3) := by decide +kernel
theorem dX5_note_21 : decode cX5_note 21 = .ok (.return_, 1) := by decide +kernel
theorem dX5_begin_0 : decode cX5_begin 0 = .ok (.aload_n 0, 1) := by decide +kernel
theorem dX5_begin_1 : decode cX5_begin 1 = .ok (.getfield 58, 3) := by decide +kernel
theorem dX5_begin_4 : decode cX5_begin 4 = .ok (.ifCond .eq 6, 3) := by decide +kernel
theorem dX5_begin_7 : decode cX5_begin 7 = .ok (.bipush (-3), 2) := by decide +kernel
theorem dX5_begin_9 : decode cX5_begin 9 = .ok (.ireturn, 1) := by decide +kernel
theorem dX5_begin_10 : decode cX5_begin 10 = .ok (.aload_n 0, 1) := by decide +kernel
theorem dX5_begin_11 : decode cX5_begin 11 = .ok (.invokevirtual 180, 3) := by decide +kernel
theorem dX5_begin_14 : decode cX5_begin 14 = .ok (.aload_n 0, 1) := by decide +kernel
theorem dX5_begin_15 : decode cX5_begin 15 = .ok (.getfield 52, 3) := by decide +kernel
theorem dX5_begin_18 : decode cX5_begin 18 = .ok (.ifCond .eq 11, 3) := by decide +kernel
theorem dX5_begin_21 : decode cX5_begin 21 = .ok (.aload_n 0, 1) := by decide +kernel
theorem dX5_begin_22 : decode cX5_begin 22 = .ok (.getfield 12, 3) := by decide +kernel
theorem dX5_begin_25 : decode cX5_begin 25 = .ok (.invokevirtual 183, 3) := by decide +kernel
theorem dX5_begin_28 : decode cX5_begin 28 = .ok (.ireturn, 1) := by decide +kernel
theorem dX5_begin_29 : decode cX5_begin 29 = .ok (.aload_n 0, 1) := by decide +kernel
theorem dX5_begin_30 : decode cX5_begin 30 = .ok (.getfield 12, 3) := by decide +kernel
theorem dX5_begin_33 : decode cX5_begin 33 = .ok (.invokevirtual 186, 3) := by decide +kernel
theorem dX5_begin_36 : decode cX5_begin 36 = .ok (.istore_n 1, 1) := by decide +kernel
theorem dX5_begin_37 : decode cX5_begin 37 = .ok (.aload_n 0, 1) := by decide +kernel
theorem dX5_begin_38 : decode cX5_begin 38 = .ok (.ldc 189, 2) := by decide +kernel
theorem dX5_begin_40 : decode cX5_begin 40 = .ok (.invokevirtual 190, 3) := by decide +kernel
theorem dX5_begin_43 : decode cX5_begin 43 = .ok (.pop, 1) := by decide +kernel
theorem dX5_begin_44 : decode cX5_begin 44 = .ok (.iload_n 1, 1) := by decide +kernel
theorem dX5_begin_45 : decode cX5_begin 45 = .ok (.aload_n 0, 1) := by decide +kernel
theorem dX5_begin_46 : decode cX5_begin 46 = .ok (.getfield 12, 3) := by decide +kernel
theorem dX5_begin_49 : decode cX5_begin 49 = .ok (.invokevirtual 186, 3) := by decide +kernel
theorem dX5_begin_52 : decode cX5_begin 52 = .ok (.isub, 1) := by decide +kernel
theorem dX5_begin_53 : decode cX5_begin 53 = .ok (.ireturn, 1) := by decide +kernel
theorem dX5_sweep_0 : decode cX5_sweep 0 = .ok (.iload_n 1, 1) := by decide +kernel
theorem dX5_sweep_1 : decode cX5_sweep 1 = .ok (.iconst 1, 1) := by decide +kernel
theorem dX5_sweep_2 : decode cX5_sweep 2 = .ok (.if_icmp .lt 10, 3) := by decide +kernel
theorem dX5_sweep_5 : decode cX5_sweep 5 = .ok (.iload_n 1, 1) := by decide +kernel
theorem dX5_sweep_6 : decode cX5_sweep 6 = .ok (.sipush 400, 3) := by decide +kernel
theorem dX5_sweep_9 : decode cX5_sweep 9 = .ok (.if_icmp .le 6, 3) := by decide +kernel
theorem dX5_sweep_12 : decode cX5_sweep 12 = .ok (.bipush (-2), 2) := by decide +kernel
theorem dX5_sweep_14 : decode cX5_sweep 14 = .ok (.ireturn, 1) := by decide +kernel
theorem dX5_sweep_15 : decode cX5_sweep 15 = .ok (.aload_n 0, 1) := by decide +kernel
theorem dX5_sweep_16 : decode cX5_sweep 16 = .ok (.iload_n 1, 1) := by decide +kernel
theorem dX5_sweep_17 : decode cX5_sweep 17 = .ok (.invokevirtual 190, 3) := by decide +kernel
theorem dX5_sweep_20 : decode cX5_sweep 20 = .ok (.ireturn, 1) := by decide +kernel
theorem dX5_under_0 : decode cX5_under 0 = .ok (.aload_n 0, 1) := by decide +kernel
theorem dX5_under_1 : decode cX5_under 1 = .ok (.getfield 58, 3) := by decide +kernel
theorem dX5_under_4 : decode cX5_under 4 = .ok (.ireturn, 1) := by decide +kernel
theorem dX5_startRound_0 : decode cX5_startRound 0 = .ok (.aload_n 0, 1) := by decide +kernel
theorem dX5_startRound_1 : decode cX5_startRound 1 = .ok (.iconst 1, 1) := by decide +kernel
theorem dX5_startRound_2 : decode cX5_startRound 2 = .ok (.putfield 58, 3) := by decide +kernel
theorem dX5_startRound_5 : decode cX5_startRound 5 = .ok (.aload_n 0, 1) := by decide +kernel
theorem dX5_startRound_6 : decode cX5_startRound 6 = .ok (.iconst 0, 1) := by decide +kernel
theorem dX5_startRound_7 : decode cX5_startRound 7 = .ok (.putfield 67, 3) := by decide +kernel
theorem dX5_startRound_10 : decode cX5_startRound 10 = .ok (.aload_n 0, 1) := by decide +kernel
theorem dX5_startRound_11 : decode cX5_startRound 11 = .ok (.iconst 0, 1) := by decide +kernel
theorem dX5_startRound_12 : decode cX5_startRound 12 = .ok (.putfield 70, 3) := by decide +kernel
theorem dX5_startRound_15 : decode cX5_startRound 15 = .ok (.aload_n 0, 1) := by decide +kernel
theorem dX5_startRound_16 : decode cX5_startRound 16 = .ok (.getfield 12, 3) := by decide +kernel
theorem dX5_startRound_19 : decode cX5_startRound 19 = .ok (.invokevirtual 193, 3) := by decide +kernel
theorem dX5_startRound_22 : decode cX5_startRound 22 = .ok (.aload_n 0, 1) := by decide +kernel
theorem dX5_startRound_23 : decode cX5_startRound 23 = .ok (.getfield 52, 3) := by decide +kernel
theorem dX5_startRound_26 : decode cX5_startRound 26 = .ok (.iconst 3, 1) := by decide +kernel
theorem dX5_startRound_27 : decode cX5_startRound 27 = .ok (.if_icmp .ne 10, 3) := by decide +kernel
theorem dX5_startRound_30 : decode cX5_startRound 30 = .ok (.aload_n 0, 1) := by decide +kernel
theorem dX5_startRound_31 : decode cX5_startRound 31 = .ok (.getfield 19, 3) := by decide +kernel
theorem dX5_startRound_34 : decode cX5_startRound 34 = .ok (.invokevirtual 196, 3) := by decide +kernel
theorem dX5_startRound_37 : decode cX5_startRound 37 = .ok (.aload_n 0, 1) := by decide +kernel
theorem dX5_startRound_38 : decode cX5_startRound 38 = .ok (.invokevirtual 199, 3) := by decide +kernel
theorem dX5_startRound_41 : decode cX5_startRound 41 = .ok (.return_, 1) := by decide +kernel
theorem dX5_takeSteps_0 : decode cX5_takeSteps 0 = .ok (.iconst 0, 1) := by decide +kernel
theorem dX5_takeSteps_1 : decode cX5_takeSteps 1 = .ok (.istore_n 2, 1) := by decide +kernel
theorem dX5_takeSteps_2 : decode cX5_takeSteps 2 = .ok (.iload_n 2, 1) := by decide +kernel
theorem dX5_takeSteps_3 : decode cX5_takeSteps 3 = .ok (.iload_n 1, 1) := by decide +kernel
theorem dX5_takeSteps_4 : decode cX5_takeSteps 4 = .ok (.if_icmp .ge 45, 3) := by decide +kernel
theorem dX5_takeSteps_7 : decode cX5_takeSteps 7 = .ok (.aload_n 0, 1) := by decide +kernel
theorem dX5_takeSteps_8 : decode cX5_takeSteps 8 = .ok (.getfield 58, 3) := by decide +kernel
theorem dX5_takeSteps_11 : decode cX5_takeSteps 11 = .ok (.ifCond .eq 38, 3) := by decide +kernel
theorem dX5_takeSteps_14 : decode cX5_takeSteps 14 = .ok (.aload_n 0, 1) := by decide +kernel
theorem dX5_takeSteps_15 : decode cX5_takeSteps 15 = .ok (.getfield 58, 3) := by decide +kernel
theorem dX5_takeSteps_18 : decode cX5_takeSteps 18 = .ok (.iconst 1, 1) := by decide +kernel
theorem dX5_takeSteps_19 : decode cX5_takeSteps 19 = .ok (.if_icmp .ne 10, 3) := by decide +kernel
theorem dX5_takeSteps_22 : decode cX5_takeSteps 22 = .ok (.aload_n 0, 1) := by decide +kernel
theorem dX5_takeSteps_23 : decode cX5_takeSteps 23 = .ok (.invokevirtual 202, 3) := by decide +kernel
theorem dX5_takeSteps_26 : decode cX5_takeSteps 26 = .ok (.goto 7, 3) := by decide +kernel
theorem dX5_takeSteps_29 : decode cX5_takeSteps 29 = .ok (.aload_n 0, 1) := by decide +kernel
theorem dX5_takeSteps_30 : decode cX5_takeSteps 30 = .ok (.invokevirtual 205, 3) := by decide +kernel
theorem dX5_takeSteps_33 : decode cX5_takeSteps 33 = .ok (.iinc 2 1, 3) := by decide +kernel
theorem dX5_takeSteps_36 : decode cX5_takeSteps 36 = .ok (.aload_n 0, 1) := by decide +kernel
theorem dX5_takeSteps_37 : decode cX5_takeSteps 37 = .ok (.dup, 1) := by decide +kernel
theorem dX5_takeSteps_38 : decode cX5_takeSteps 38 = .ok (.getfield 67, 3) := by decide +kernel
theorem dX5_takeSteps_41 : decode cX5_takeSteps 41 = .ok (.iconst 1, 1) := by decide +kernel
theorem dX5_takeSteps_42 : decode cX5_takeSteps 42 = .ok (.iadd, 1) := by decide +kernel
theorem dX5_takeSteps_43 : decode cX5_takeSteps 43 = .ok (.putfield 67, 3) := by decide +kernel
theorem dX5_takeSteps_46 : decode cX5_takeSteps 46 = .ok (.goto (-44), 3) := by decide +kernel
theorem dX5_takeSteps_49 : decode cX5_takeSteps 49 = .ok (.iload_n 2, 1) := by decide +kernel
theorem dX5_takeSteps_50 : decode cX5_takeSteps 50 = .ok (.ireturn, 1) := by decide +kernel
theorem dX5_markStep_0 : decode cX5_markStep 0 = .ok (.aload_n 0, 1) := by decide +kernel
theorem dX5_markStep_1 : decode cX5_markStep 1 = .ok (.getfield 12, 3) := by decide +kernel
theorem dX5_markStep_4 : decode cX5_markStep 4 = .ok (.invokevirtual 208, 3) := by decide +kernel
theorem dX5_markStep_7 : decode cX5_markStep 7 = .ok (.istore_n 1, 1) := by decide +kernel
theorem dX5_markStep_8 : decode cX5_markStep 8 = .ok (.iload_n 1, 1) := by decide +kernel
theorem dX5_markStep_9 : decode cX5_markStep 9 = .ok (.iconst (-1), 1) := by decide +kernel
theorem dX5_markStep_10 : decode cX5_markStep 10 = .ok (.if_icmp .eq 18, 3) := by decide +kernel
theorem dX5_markStep_13 : decode cX5_markStep 13 = .ok (.aload_n 0, 1) := by decide +kernel
theorem dX5_markStep_14 : decode cX5_markStep 14 = .ok (.iload_n 1, 1) := by decide +kernel
theorem dX5_markStep_15 : decode cX5_markStep 15 = .ok (.invokevirtual 211, 3) := by decide +kernel
theorem dX5_markStep_18 : decode cX5_markStep 18 = .ok (.aload_n 0, 1) := by decide +kernel
theorem dX5_markStep_19 : decode cX5_markStep 19 = .ok (.getfield 12, 3) := by decide +kernel
theorem dX5_markStep_22 : decode cX5_markStep 22 = .ok (.iload_n 1, 1) := by decide +kernel
theorem dX5_markStep_23 : decode cX5_markStep 23 = .ok (.iconst 2, 1) := by decide +kernel
theorem dX5_markStep_24 : decode cX5_markStep 24 = .ok (.invokevirtual 214, 3) := by decide +kernel
theorem dX5_markStep_27 : decode cX5_markStep 27 = .ok (.return_, 1) := by decide +kernel
theorem dX5_markStep_28 : decode cX5_markStep 28 = .ok (.aload_n 0, 1) := by decide +kernel
theorem dX5_markStep_29 : decode cX5_markStep 29 = .ok (.getfield 70, 3) := by decide +kernel
theorem dX5_markStep_32 : decode cX5_markStep 32 = .ok (.istore_n 2, 1) := by decide +kernel
theorem dX5_markStep_33 : decode cX5_markStep 33 = .ok (.aload_n 0, 1) := by decide +kernel
theorem dX5_markStep_34 : decode cX5_markStep 34 = .ok (.getfield 52, 3) := by decide +kernel
theorem dX5_markStep_37 : decode cX5_markStep 37 = .ok (.iconst 2, 1) := by decide +kernel
theorem dX5_markStep_38 : decode cX5_markStep 38 = .ok (.if_icmp .ne 7, 3) := by decide +kernel
theorem dX5_markStep_41 : decode cX5_markStep 41 = .ok (.aload_n 0, 1) := by decide +kernel
theorem dX5_markStep_42 : decode cX5_markStep 42 = .ok (.invokevirtual 199, 3) := by decide +kernel
theorem dX5_markStep_45 : decode cX5_markStep 45 = .ok (.aload_n 0, 1) := by decide +kernel
theorem dX5_markStep_46 : decode cX5_markStep 46 = .ok (.getfield 70, 3) := by decide +kernel
theorem dX5_markStep_49 : decode cX5_markStep 49 = .ok (.iload_n 2, 1) := by decide +kernel
theorem dX5_markStep_50 : decode cX5_markStep 50 = .ok (.if_icmp .ne 7, 3) := by decide +kernel
theorem dX5_markStep_53 : decode cX5_markStep 53 = .ok (.aload_n 0, 1) := by decide +kernel
theorem dX5_markStep_54 : decode cX5_markStep 54 = .ok (.invokevirtual 217, 3) := by decide +kernel
theorem dX5_markStep_57 : decode cX5_markStep 57 = .ok (.aload_n 0, 1) := by decide +kernel
theorem dX5_markStep_58 : decode cX5_markStep 58 = .ok (.getfield 70, 3) := by decide +kernel
theorem dX5_markStep_61 : decode cX5_markStep 61 = .ok (.iload_n 2, 1) := by decide +kernel
theorem dX5_markStep_62 : decode cX5_markStep 62 = .ok (.if_icmp .ne 7, 3) := by decide +kernel
theorem dX5_markStep_65 : decode cX5_markStep 65 = .ok (.aload_n 0, 1) := by decide +kernel
theorem dX5_markStep_66 : decode cX5_markStep 66 = .ok (.invokevirtual 220, 3) := by decide +kernel
theorem dX5_markStep_69 : decode cX5_markStep 69 = .ok (.aload_n 0, 1) := by decide +kernel
theorem dX5_markStep_70 : decode cX5_markStep 70 = .ok (.getfield 70, 3) := by decide +kernel
theorem dX5_markStep_73 : decode cX5_markStep 73 = .ok (.iload_n 2, 1) := by decide +kernel
theorem dX5_markStep_74 : decode cX5_markStep 74 = .ok (.if_icmp .ne 7, 3) := by decide +kernel
theorem dX5_markStep_77 : decode cX5_markStep 77 = .ok (.aload_n 0, 1) := by decide +kernel
theorem dX5_markStep_78 : decode cX5_markStep 78 = .ok (.invokevirtual 223, 3) := by decide +kernel
theorem dX5_markStep_81 : decode cX5_markStep 81 = .ok (.return_, 1) := by decide +kernel
theorem dX5_shadeFieldsOf_0 : decode cX5_shadeFieldsOf 0 = .ok (.iconst 0, 1) := by decide +kernel
theorem dX5_shadeFieldsOf_1 : decode cX5_shadeFieldsOf 1 = .ok (.istore_n 2, 1) := by decide +kernel
theorem dX5_shadeFieldsOf_2 : decode cX5_shadeFieldsOf 2 = .ok (.iload_n 2, 1) := by decide +kernel
theorem dX5_shadeFieldsOf_3 : decode cX5_shadeFieldsOf 3 = .ok (.bipush 6, 2) := by decide +kernel
theorem dX5_shadeFieldsOf_5 : decode cX5_shadeFieldsOf 5 = .ok (.if_icmp .ge 22, 3) := by decide +kernel
theorem dX5_shadeFieldsOf_8 : decode cX5_shadeFieldsOf 8 = .ok (.aload_n 0, 1) := by decide +kernel
theorem dX5_shadeFieldsOf_9 : decode cX5_shadeFieldsOf 9 = .ok (.aload_n 0, 1) := by decide +kernel
theorem dX5_shadeFieldsOf_10 : decode cX5_shadeFieldsOf 10 = .ok (.getfield 12, 3) := by decide +kernel
theorem dX5_shadeFieldsOf_13 : decode cX5_shadeFieldsOf 13 = .ok (.iload_n 1, 1) := by decide +kernel
theorem dX5_shadeFieldsOf_14 : decode cX5_shadeFieldsOf 14 = .ok (.iload_n 2, 1) := by decide +kernel
theorem dX5_shadeFieldsOf_15 : decode cX5_shadeFieldsOf 15 = .ok (.invokevirtual 128, 3) := by decide +kernel
theorem dX5_shadeFieldsOf_18 : decode cX5_shadeFieldsOf 18 = .ok (.invokevirtual 177, 3) := by decide +kernel
theorem dX5_shadeFieldsOf_21 : decode cX5_shadeFieldsOf 21 = .ok (.iinc 2 1, 3) := by decide +kernel
theorem dX5_shadeFieldsOf_24 : decode cX5_shadeFieldsOf 24 = .ok (.goto (-22), 3) := by decide +kernel
theorem dX5_shadeFieldsOf_27 : decode cX5_shadeFieldsOf 27 = .ok (.return_, 1) := by decide +kernel
theorem dX5_shadeHeld_0 : decode cX5_shadeHeld 0 = .ok (.iconst 0, 1) := by decide +kernel
theorem dX5_shadeHeld_1 : decode cX5_shadeHeld 1 = .ok (.istore_n 1, 1) := by decide +kernel
theorem dX5_shadeHeld_2 : decode cX5_shadeHeld 2 = .ok (.iload_n 1, 1) := by decide +kernel
theorem dX5_shadeHeld_3 : decode cX5_shadeHeld 3 = .ok (.bipush 16, 2) := by decide +kernel
theorem dX5_shadeHeld_5 : decode cX5_shadeHeld 5 = .ok (.aload_n 0, 1) := by decide +kernel
theorem dX5_shadeHeld_6 : decode cX5_shadeHeld 6 = .ok (.getfield 26, 3) := by decide +kernel
theorem dX5_shadeHeld_9 : decode cX5_shadeHeld 9 = .ok (.getfield 171, 3) := by decide +kernel
theorem dX5_shadeHeld_12 : decode cX5_shadeHeld 12 = .ok (.iadd, 1) := by decide +kernel
theorem dX5_shadeHeld_13 : decode cX5_shadeHeld 13 = .ok (.if_icmp .ge 21, 3) := by decide +kernel
theorem dX5_shadeHeld_16 : decode cX5_shadeHeld 16 = .ok (.aload_n 0, 1) := by decide +kernel
theorem dX5_shadeHeld_17 : decode cX5_shadeHeld 17 = .ok (.aload_n 0, 1) := by decide +kernel
theorem dX5_shadeHeld_18 : decode cX5_shadeHeld 18 = .ok (.getfield 26, 3) := by decide +kernel
theorem dX5_shadeHeld_21 : decode cX5_shadeHeld 21 = .ok (.iload_n 1, 1) := by decide +kernel
theorem dX5_shadeHeld_22 : decode cX5_shadeHeld 22 = .ok (.invokevirtual 148, 3) := by decide +kernel
theorem dX5_shadeHeld_25 : decode cX5_shadeHeld 25 = .ok (.invokevirtual 177, 3) := by decide +kernel
theorem dX5_shadeHeld_28 : decode cX5_shadeHeld 28 = .ok (.iinc 1 1, 3) := by decide +kernel
theorem dX5_shadeHeld_31 : decode cX5_shadeHeld 31 = .ok (.goto (-29), 3) := by decide +kernel
theorem dX5_shadeHeld_34 : decode cX5_shadeHeld 34 = .ok (.return_, 1) := by decide +kernel
theorem dX5_shadeValues_0 : decode cX5_shadeValues 0 = .ok (.iconst 0, 1) := by decide +kernel
theorem dX5_shadeValues_1 : decode cX5_shadeValues 1 = .ok (.istore_n 1, 1) := by decide +kernel
theorem dX5_shadeValues_2 : decode cX5_shadeValues 2 = .ok (.iload_n 1, 1) := by decide +kernel
theorem dX5_shadeValues_3 : decode cX5_shadeValues 3 = .ok (.aload_n 0, 1) := by decide +kernel
theorem dX5_shadeValues_4 : decode cX5_shadeValues 4 = .ok (.getfield 33, 3) := by decide +kernel
theorem dX5_shadeValues_7 : decode cX5_shadeValues 7 = .ok (.getfield 76, 3) := by decide +kernel
theorem dX5_shadeValues_10 : decode cX5_shadeValues 10 = .ok (.if_icmp .ge 46, 3) := by decide +kernel
theorem dX5_shadeValues_13 : decode cX5_shadeValues 13 = .ok (.aload_n 0, 1) := by decide +kernel
theorem dX5_shadeValues_14 : decode cX5_shadeValues 14 = .ok (.getfield 33, 3) := by decide +kernel
theorem dX5_shadeValues_17 : decode cX5_shadeValues 17 = .ok (.iload_n 1, 1) := by decide +kernel
theorem dX5_shadeValues_18 : decode cX5_shadeValues 18 = .ok (.invokevirtual 226, 3) := by decide +kernel
theorem dX5_shadeValues_21 : decode cX5_shadeValues 21 = .ok (.istore_n 2, 1) := by decide +kernel
theorem dX5_shadeValues_22 : decode cX5_shadeValues 22 = .ok (.iload_n 2, 1) := by decide +kernel
theorem dX5_shadeValues_23 : decode cX5_shadeValues 23 = .ok (.iconst (-1), 1) := by decide +kernel
theorem dX5_shadeValues_24 : decode cX5_shadeValues 24 = .ok (.if_icmp .eq 26, 3) := by decide +kernel
theorem dX5_shadeValues_27 : decode cX5_shadeValues 27 = .ok (.aload_n 0, 1) := by decide +kernel
theorem dX5_shadeValues_28 : decode cX5_shadeValues 28 = .ok (.getfield 12, 3) := by decide +kernel
theorem dX5_shadeValues_31 : decode cX5_shadeValues 31 = .ok (.iload_n 2, 1) := by decide +kernel
theorem dX5_shadeValues_32 : decode cX5_shadeValues 32 = .ok (.invokevirtual 229, 3) := by decide +kernel
theorem dX5_shadeValues_35 : decode cX5_shadeValues 35 = .ok (.ifCond .ne 15, 3) := by decide +kernel
theorem dX5_shadeValues_38 : decode cX5_shadeValues 38 = .ok (.aload_n 0, 1) := by decide +kernel
theorem dX5_shadeValues_39 : decode cX5_shadeValues 39 = .ok (.aload_n 0, 1) := by decide +kernel
theorem dX5_shadeValues_40 : decode cX5_shadeValues 40 = .ok (.getfield 33, 3) := by decide +kernel
theorem dX5_shadeValues_43 : decode cX5_shadeValues 43 = .ok (.iload_n 1, 1) := by decide +kernel
theorem dX5_shadeValues_44 : decode cX5_shadeValues 44 = .ok (.invokevirtual 168, 3) := by decide +kernel
theorem dX5_shadeValues_47 : decode cX5_shadeValues 47 = .ok (.invokevirtual 177, 3) := by decide +kernel
theorem dX5_shadeValues_50 : decode cX5_shadeValues 50 = .ok (.iinc 1 1, 3) := by decide +kernel
theorem dX5_shadeValues_53 : decode cX5_shadeValues 53 = .ok (.goto (-51), 3) := by decide +kernel
theorem dX5_shadeValues_56 : decode cX5_shadeValues 56 = .ok (.return_, 1) := by decide +kernel
theorem dX5_grantWishes_0 : decode cX5_grantWishes 0 = .ok (.iconst 0, 1) := by decide +kernel
theorem dX5_grantWishes_1 : decode cX5_grantWishes 1 = .ok (.istore_n 1, 1) := by decide +kernel
theorem dX5_grantWishes_2 : decode cX5_grantWishes 2 = .ok (.iload_n 1, 1) := by decide +kernel
theorem dX5_grantWishes_3 : decode cX5_grantWishes 3 = .ok (.aload_n 0, 1) := by decide +kernel
theorem dX5_grantWishes_4 : decode cX5_grantWishes 4 = .ok (.getfield 12, 3) := by decide +kernel
theorem dX5_grantWishes_7 : decode cX5_grantWishes 7 = .ok (.getfield 48, 3) := by decide +kernel
theorem dX5_grantWishes_10 : decode cX5_grantWishes 10 = .ok (.if_icmp .ge 63, 3) := by decide +kernel
theorem dX5_grantWishes_13 : decode cX5_grantWishes 13 = .ok (.aload_n 0, 1) := by decide +kernel
theorem dX5_grantWishes_14 : decode cX5_grantWishes 14 = .ok (.getfield 12, 3) := by decide +kernel
theorem dX5_grantWishes_17 : decode cX5_grantWishes 17 = .ok (.iload_n 1, 1) := by decide +kernel
theorem dX5_grantWishes_18 : decode cX5_grantWishes 18 = .ok (.invokevirtual 232, 3) := by decide +kernel
theorem dX5_grantWishes_21 : decode cX5_grantWishes 21 = .ok (.ifCond .eq 46, 3) := by decide +kernel
theorem dX5_grantWishes_24 : decode cX5_grantWishes 24 = .ok (.aload_n 0, 1) := by decide +kernel
theorem dX5_grantWishes_25 : decode cX5_grantWishes 25 = .ok (.getfield 12, 3) := by decide +kernel
theorem dX5_grantWishes_28 : decode cX5_grantWishes 28 = .ok (.iload_n 1, 1) := by decide +kernel
theorem dX5_grantWishes_29 : decode cX5_grantWishes 29 = .ok (.invokevirtual 229, 3) := by decide +kernel
theorem dX5_grantWishes_32 : decode cX5_grantWishes 32 = .ok (.ifCond .eq 35, 3) := by decide +kernel
theorem dX5_grantWishes_35 : decode cX5_grantWishes 35 = .ok (.aload_n 0, 1) := by decide +kernel
theorem dX5_grantWishes_36 : decode cX5_grantWishes 36 = .ok (.getfield 12, 3) := by decide +kernel
theorem dX5_grantWishes_39 : decode cX5_grantWishes 39 = .ok (.iload_n 1, 1) := by decide +kernel
theorem dX5_grantWishes_40 : decode cX5_grantWishes 40 = .ok (.invokevirtual 141, 3) := by decide +kernel
theorem dX5_grantWishes_43 : decode cX5_grantWishes 43 = .ok (.ifCond .ne 24, 3) := by decide +kernel
theorem dX5_grantWishes_46 : decode cX5_grantWishes 46 = .ok (.aload_n 0, 1) := by decide +kernel
theorem dX5_grantWishes_47 : decode cX5_grantWishes 47 = .ok (.getfield 12, 3) := by decide +kernel
theorem dX5_grantWishes_50 : decode cX5_grantWishes 50 = .ok (.iload_n 1, 1) := by decide +kernel
theorem dX5_grantWishes_51 : decode cX5_grantWishes 51 = .ok (.invokevirtual 235, 3) := by decide +kernel
theorem dX5_grantWishes_54 : decode cX5_grantWishes 54 = .ok (.aload_n 0, 1) := by decide +kernel
theorem dX5_grantWishes_55 : decode cX5_grantWishes 55 = .ok (.getfield 26, 3) := by decide +kernel
theorem dX5_grantWishes_58 : decode cX5_grantWishes 58 = .ok (.iload_n 1, 1) := by decide +kernel
theorem dX5_grantWishes_59 : decode cX5_grantWishes 59 = .ok (.invokevirtual 238, 3) := by decide +kernel
theorem dX5_grantWishes_62 : decode cX5_grantWishes 62 = .ok (.aload_n 0, 1) := by decide +kernel
theorem dX5_grantWishes_63 : decode cX5_grantWishes 63 = .ok (.iload_n 1, 1) := by decide +kernel
theorem dX5_grantWishes_64 : decode cX5_grantWishes 64 = .ok (.invokevirtual 177, 3) := by decide +kernel
theorem dX5_grantWishes_67 : decode cX5_grantWishes 67 = .ok (.iinc 1 1, 3) := by decide +kernel
theorem dX5_grantWishes_70 : decode cX5_grantWishes 70 = .ok (.goto (-68), 3) := by decide +kernel
theorem dX5_grantWishes_73 : decode cX5_grantWishes 73 = .ok (.return_, 1) := by decide +kernel
theorem dX5_shade_0 : decode cX5_shade 0 = .ok (.aload_n 0, 1) := by decide +kernel
theorem dX5_shade_1 : decode cX5_shade 1 = .ok (.getfield 12, 3) := by decide +kernel
theorem dX5_shade_4 : decode cX5_shade 4 = .ok (.iload_n 1, 1) := by decide +kernel
theorem dX5_shade_5 : decode cX5_shade 5 = .ok (.invokevirtual 229, 3) := by decide +kernel
theorem dX5_shade_8 : decode cX5_shade 8 = .ok (.ifCond .eq 14, 3) := by decide +kernel
theorem dX5_shade_11 : decode cX5_shade 11 = .ok (.aload_n 0, 1) := by decide +kernel
theorem dX5_shade_12 : decode cX5_shade 12 = .ok (.getfield 12, 3) := by decide +kernel
theorem dX5_shade_15 : decode cX5_shade 15 = .ok (.iload_n 1, 1) := by decide +kernel
theorem dX5_shade_16 : decode cX5_shade 16 = .ok (.invokevirtual 141, 3) := by decide +kernel
theorem dX5_shade_19 : decode cX5_shade 19 = .ok (.ifCond .eq 4, 3) := by decide +kernel
theorem dX5_shade_22 : decode cX5_shade 22 = .ok (.return_, 1) := by decide +kernel
theorem dX5_shade_23 : decode cX5_shade 23 = .ok (.aload_n 0, 1) := by decide +kernel
theorem dX5_shade_24 : decode cX5_shade 24 = .ok (.getfield 12, 3) := by decide +kernel
theorem dX5_shade_27 : decode cX5_shade 27 = .ok (.iload_n 1, 1) := by decide +kernel
theorem dX5_shade_28 : decode cX5_shade 28 = .ok (.iconst 1, 1) := by decide +kernel
theorem dX5_shade_29 : decode cX5_shade 29 = .ok (.invokevirtual 214, 3) := by decide +kernel
theorem dX5_shade_32 : decode cX5_shade 32 = .ok (.aload_n 0, 1) := by decide +kernel
theorem dX5_shade_33 : decode cX5_shade 33 = .ok (.dup, 1) := by decide +kernel
theorem dX5_shade_34 : decode cX5_shade 34 = .ok (.getfield 70, 3) := by decide +kernel
theorem dX5_shade_37 : decode cX5_shade 37 = .ok (.iconst 1, 1) := by decide +kernel
theorem dX5_shade_38 : decode cX5_shade 38 = .ok (.iadd, 1) := by decide +kernel
theorem dX5_shade_39 : decode cX5_shade 39 = .ok (.putfield 70, 3) := by decide +kernel
theorem dX5_shade_42 : decode cX5_shade 42 = .ok (.aload_n 0, 1) := by decide +kernel
theorem dX5_shade_43 : decode cX5_shade 43 = .ok (.getfield 52, 3) := by decide +kernel
theorem dX5_shade_46 : decode cX5_shade 46 = .ok (.iconst 3, 1) := by decide +kernel
theorem dX5_shade_47 : decode cX5_shade 47 = .ok (.if_icmp .ne 68, 3) := by decide +kernel
theorem dX5_shade_50 : decode cX5_shade 50 = .ok (.aload_n 0, 1) := by decide +kernel
theorem dX5_shade_51 : decode cX5_shade 51 = .ok (.getfield 19, 3) := by decide +kernel
theorem dX5_shade_54 : decode cX5_shade 54 = .ok (.aload_n 0, 1) := by decide +kernel
theorem dX5_shade_55 : decode cX5_shade 55 = .ok (.getfield 12, 3) := by decide +kernel
theorem dX5_shade_58 : decode cX5_shade 58 = .ok (.iload_n 1, 1) := by decide +kernel
theorem dX5_shade_59 : decode cX5_shade 59 = .ok (.invokevirtual 241, 3) := by decide +kernel
theorem dX5_shade_62 : decode cX5_shade 62 = .ok (.aload_n 0, 1) := by decide +kernel
theorem dX5_shade_63 : decode cX5_shade 63 = .ok (.getfield 12, 3) := by decide +kernel
theorem dX5_shade_66 : decode cX5_shade 66 = .ok (.iload_n 1, 1) := by decide +kernel
theorem dX5_shade_67 : decode cX5_shade 67 = .ok (.invokevirtual 244, 3) := by decide +kernel
theorem dX5_shade_70 : decode cX5_shade 70 = .ok (.iconst (-1), 1) := by decide +kernel
theorem dX5_shade_71 : decode cX5_shade 71 = .ok (.invokevirtual 99, 3) := by decide +kernel
theorem dX5_shade_74 : decode cX5_shade 74 = .ok (.aload_n 0, 1) := by decide +kernel
theorem dX5_shade_75 : decode cX5_shade 75 = .ok (.getfield 12, 3) := by decide +kernel
theorem dX5_shade_78 : decode cX5_shade 78 = .ok (.iload_n 1, 1) := by decide +kernel
theorem dX5_shade_79 : decode cX5_shade 79 = .ok (.aload_n 0, 1) := by decide +kernel
theorem dX5_shade_80 : decode cX5_shade 80 = .ok (.getfield 19, 3) := by decide +kernel
theorem dX5_shade_83 : decode cX5_shade 83 = .ok (.getfield 119, 3) := by decide +kernel
theorem dX5_shade_86 : decode cX5_shade 86 = .ok (.invokevirtual 247, 3) := by decide +kernel
theorem dX5_shade_89 : decode cX5_shade 89 = .ok (.aload_n 0, 1) := by decide +kernel
theorem dX5_shade_90 : decode cX5_shade 90 = .ok (.getfield 19, 3) := by decide +kernel
theorem dX5_shade_93 : decode cX5_shade 93 = .ok (.aload_n 0, 1) := by decide +kernel
theorem dX5_shade_94 : decode cX5_shade 94 = .ok (.getfield 12, 3) := by decide +kernel
theorem dX5_shade_97 : decode cX5_shade 97 = .ok (.iload_n 1, 1) := by decide +kernel
theorem dX5_shade_98 : decode cX5_shade 98 = .ok (.invokevirtual 244, 3) := by decide +kernel
theorem dX5_shade_101 : decode cX5_shade 101 = .ok (.iload_n 1, 1) := by decide +kernel
theorem dX5_shade_102 : decode cX5_shade 102 = .ok (.invokevirtual 96, 3) := by decide +kernel
theorem dX5_shade_105 : decode cX5_shade 105 = .ok (.aload_n 0, 1) := by decide +kernel
theorem dX5_shade_106 : decode cX5_shade 106 = .ok (.dup, 1) := by decide +kernel
theorem dX5_shade_107 : decode cX5_shade 107 = .ok (.getfield 73, 3) := by decide +kernel
theorem dX5_shade_110 : decode cX5_shade 110 = .ok (.iconst 1, 1) := by decide +kernel
theorem dX5_shade_111 : decode cX5_shade 111 = .ok (.iadd, 1) := by decide +kernel
theorem dX5_shade_112 : decode cX5_shade 112 = .ok (.putfield 73, 3) := by decide +kernel
theorem dX5_shade_115 : decode cX5_shade 115 = .ok (.return_, 1) := by decide +kernel
theorem dX5_endMarking_0 : decode cX5_endMarking 0 = .ok (.iconst 0, 1) := by decide +kernel
theorem dX5_endMarking_1 : decode cX5_endMarking 1 = .ok (.istore_n 1, 1) := by decide +kernel
theorem dX5_endMarking_2 : decode cX5_endMarking 2 = .ok (.iload_n 1, 1) := by decide +kernel
theorem dX5_endMarking_3 : decode cX5_endMarking 3 = .ok (.bipush 6, 2) := by decide +kernel
theorem dX5_endMarking_5 : decode cX5_endMarking 5 = .ok (.if_icmp .ge 36, 3) := by decide +kernel
theorem dX5_endMarking_8 : decode cX5_endMarking 8 = .ok (.aload_n 0, 1) := by decide +kernel
theorem dX5_endMarking_9 : decode cX5_endMarking 9 = .ok (.getfield 12, 3) := by decide +kernel
theorem dX5_endMarking_12 : decode cX5_endMarking 12 = .ok (.aload_n 0, 1) := by decide +kernel
theorem dX5_endMarking_13 : decode cX5_endMarking 13 = .ok (.getfield 26, 3) := by decide +kernel
theorem dX5_endMarking_16 : decode cX5_endMarking 16 = .ok (.iload_n 1, 1) := by decide +kernel
theorem dX5_endMarking_17 : decode cX5_endMarking 17 = .ok (.invokevirtual 157, 3) := by decide +kernel
theorem dX5_endMarking_20 : decode cX5_endMarking 20 = .ok (.invokevirtual 229, 3) := by decide +kernel
theorem dX5_endMarking_23 : decode cX5_endMarking 23 = .ok (.ifCond .eq 12, 3) := by decide +kernel
theorem dX5_endMarking_26 : decode cX5_endMarking 26 = .ok (.aload_n 0, 1) := by decide +kernel
theorem dX5_endMarking_27 : decode cX5_endMarking 27 = .ok (.getfield 26, 3) := by decide +kernel
theorem dX5_endMarking_30 : decode cX5_endMarking 30 = .ok (.iload_n 1, 1) := by decide +kernel
theorem dX5_endMarking_31 : decode cX5_endMarking 31 = .ok (.iconst (-1), 1) := by decide +kernel
theorem dX5_endMarking_32 : decode cX5_endMarking 32 = .ok (.invokevirtual 154, 3) := by decide +kernel
theorem dX5_endMarking_35 : decode cX5_endMarking 35 = .ok (.iinc 1 1, 3) := by decide +kernel
theorem dX5_endMarking_38 : decode cX5_endMarking 38 = .ok (.goto (-36), 3) := by decide +kernel
theorem dX5_endMarking_41 : decode cX5_endMarking 41 = .ok (.iconst 0, 1) := by decide +kernel
theorem dX5_endMarking_42 : decode cX5_endMarking 42 = .ok (.istore_n 1, 1) := by decide +kernel
theorem dX5_endMarking_43 : decode cX5_endMarking 43 = .ok (.iload_n 1, 1) := by decide +kernel
theorem dX5_endMarking_44 : decode cX5_endMarking 44 = .ok (.aload_n 0, 1) := by decide +kernel
theorem dX5_endMarking_45 : decode cX5_endMarking 45 = .ok (.getfield 33, 3) := by decide +kernel
theorem dX5_endMarking_48 : decode cX5_endMarking 48 = .ok (.getfield 76, 3) := by decide +kernel
theorem dX5_endMarking_51 : decode cX5_endMarking 51 = .ok (.if_icmp .ge 35, 3) := by decide +kernel
theorem dX5_endMarking_54 : decode cX5_endMarking 54 = .ok (.aload_n 0, 1) := by decide +kernel
theorem dX5_endMarking_55 : decode cX5_endMarking 55 = .ok (.getfield 12, 3) := by decide +kernel
theorem dX5_endMarking_58 : decode cX5_endMarking 58 = .ok (.aload_n 0, 1) := by decide +kernel
theorem dX5_endMarking_59 : decode cX5_endMarking 59 = .ok (.getfield 33, 3) := by decide +kernel
theorem dX5_endMarking_62 : decode cX5_endMarking 62 = .ok (.iload_n 1, 1) := by decide +kernel
theorem dX5_endMarking_63 : decode cX5_endMarking 63 = .ok (.invokevirtual 226, 3) := by decide +kernel
theorem dX5_endMarking_66 : decode cX5_endMarking 66 = .ok (.invokevirtual 229, 3) := by decide +kernel
theorem dX5_endMarking_69 : decode cX5_endMarking 69 = .ok (.ifCond .eq 11, 3) := by decide +kernel
theorem dX5_endMarking_72 : decode cX5_endMarking 72 = .ok (.aload_n 0, 1) := by decide +kernel
theorem dX5_endMarking_73 : decode cX5_endMarking 73 = .ok (.getfield 33, 3) := by decide +kernel
theorem dX5_endMarking_76 : decode cX5_endMarking 76 = .ok (.iload_n 1, 1) := by decide +kernel
theorem dX5_endMarking_77 : decode cX5_endMarking 77 = .ok (.invokevirtual 250, 3) := by decide +kernel
theorem dX5_endMarking_80 : decode cX5_endMarking 80 = .ok (.iinc 1 1, 3) := by decide +kernel
theorem dX5_endMarking_83 : decode cX5_endMarking 83 = .ok (.goto (-40), 3) := by decide +kernel
theorem dX5_endMarking_86 : decode cX5_endMarking 86 = .ok (.aload_n 0, 1) := by decide +kernel
theorem dX5_endMarking_87 : decode cX5_endMarking 87 = .ok (.iconst 2, 1) := by decide +kernel
theorem dX5_endMarking_88 : decode cX5_endMarking 88 = .ok (.putfield 58, 3) := by decide +kernel
theorem dX5_endMarking_91 : decode cX5_endMarking 91 = .ok (.aload_n 0, 1) := by decide +kernel
theorem dX5_endMarking_92 : decode cX5_endMarking 92 = .ok (.iconst 0, 1) := by decide +kernel
theorem dX5_endMarking_93 : decode cX5_endMarking 93 = .ok (.putfield 61, 3) := by decide +kernel
theorem dX5_endMarking_96 : decode cX5_endMarking 96 = .ok (.aload_n 0, 1) := by decide +kernel
theorem dX5_endMarking_97 : decode cX5_endMarking 97 = .ok (.getfield 52, 3) := by decide +kernel
theorem dX5_endMarking_100 : decode cX5_endMarking 100 = .ok (.iconst 3, 1) := by decide +kernel
theorem dX5_endMarking_101 : decode cX5_endMarking 101 = .ok (.if_icmp .ne 31, 3) := by decide +kernel
theorem dX5_endMarking_104 : decode cX5_endMarking 104 = .ok (.iconst 0, 1) := by decide +kernel
theorem dX5_endMarking_105 : decode cX5_endMarking 105 = .ok (.istore_n 1, 1) := by decide +kernel
theorem dX5_endMarking_106 : decode cX5_endMarking 106 = .ok (.iload_n 1, 1) := by decide +kernel
theorem dX5_endMarking_107 : decode cX5_endMarking 107 = .ok (.aload_n 0, 1) := by decide +kernel
theorem dX5_endMarking_108 : decode cX5_endMarking 108 = .ok (.getfield 12, 3) := by decide +kernel
theorem dX5_endMarking_111 : decode cX5_endMarking 111 = .ok (.getfield 48, 3) := by decide +kernel
theorem dX5_endMarking_114 : decode cX5_endMarking 114 = .ok (.if_icmp .ge 14, 3) := by decide +kernel
theorem dX5_endMarking_117 : decode cX5_endMarking 117 = .ok (.aload_n 0, 1) := by decide +kernel
theorem dX5_endMarking_118 : decode cX5_endMarking 118 = .ok (.iload_n 1, 1) := by decide +kernel
theorem dX5_endMarking_119 : decode cX5_endMarking 119 = .ok (.invokevirtual 253, 3) := by decide +kernel
theorem dX5_endMarking_122 : decode cX5_endMarking 122 = .ok (.iinc 1 1, 3) := by decide +kernel
theorem dX5_endMarking_125 : decode cX5_endMarking 125 = .ok (.goto (-19), 3) := by decide +kernel
theorem dX5_endMarking_128 : decode cX5_endMarking 128 = .ok (.aload_n 0, 1) := by decide +kernel
theorem dX5_endMarking_129 : decode cX5_endMarking 129 = .ok (.invokevirtual 256, 3) := by decide +kernel
theorem dX5_endMarking_132 : decode cX5_endMarking 132 = .ok (.return_, 1) := by decide +kernel
theorem dX5_sweepStep_0 : decode cX5_sweepStep 0 = .ok (.aload_n 0, 1) := by decide +kernel
theorem dX5_sweepStep_1 : decode cX5_sweepStep 1 = .ok (.getfield 12, 3) := by decide +kernel
theorem dX5_sweepStep_4 : decode cX5_sweepStep 4 = .ok (.aload_n 0, 1) := by decide +kernel
theorem dX5_sweepStep_5 : decode cX5_sweepStep 5 = .ok (.getfield 61, 3) := by decide +kernel
theorem dX5_sweepStep_8 : decode cX5_sweepStep 8 = .ok (.invokevirtual 259, 3) := by decide +kernel
theorem dX5_sweepStep_11 : decode cX5_sweepStep 11 = .ok (.istore_n 1, 1) := by decide +kernel
theorem dX5_sweepStep_12 : decode cX5_sweepStep 12 = .ok (.iload_n 1, 1) := by decide +kernel
theorem dX5_sweepStep_13 : decode cX5_sweepStep 13 = .ok (.iconst (-1), 1) := by decide +kernel
theorem dX5_sweepStep_14 : decode cX5_sweepStep 14 = .ok (.if_icmp .ne 8, 3) := by decide +kernel
theorem dX5_sweepStep_17 : decode cX5_sweepStep 17 = .ok (.aload_n 0, 1) := by decide +kernel
theorem dX5_sweepStep_18 : decode cX5_sweepStep 18 = .ok (.invokevirtual 256, 3) := by decide +kernel
theorem dX5_sweepStep_21 : decode cX5_sweepStep 21 = .ok (.return_, 1) := by decide +kernel
theorem dX5_sweepStep_22 : decode cX5_sweepStep 22 = .ok (.aload_n 0, 1) := by decide +kernel
theorem dX5_sweepStep_23 : decode cX5_sweepStep 23 = .ok (.iload_n 1, 1) := by decide +kernel
theorem dX5_sweepStep_24 : decode cX5_sweepStep 24 = .ok (.invokevirtual 253, 3) := by decide +kernel
theorem dX5_sweepStep_27 : decode cX5_sweepStep 27 = .ok (.aload_n 0, 1) := by decide +kernel
theorem dX5_sweepStep_28 : decode cX5_sweepStep 28 = .ok (.iload_n 1, 1) := by decide +kernel
theorem dX5_sweepStep_29 : decode cX5_sweepStep 29 = .ok (.iconst 1, 1) := by decide +kernel
theorem dX5_sweepStep_30 : decode cX5_sweepStep 30 = .ok (.iadd, 1) := by decide +kernel
theorem dX5_sweepStep_31 : decode cX5_sweepStep 31 = .ok (.putfield 61, 3) := by decide +kernel
theorem dX5_sweepStep_34 : decode cX5_sweepStep 34 = .ok (.return_, 1) := by decide +kernel
theorem dX5_freeIfWhite_0 : decode cX5_freeIfWhite 0 = .ok (.aload_n 0, 1) := by decide +kernel
theorem dX5_freeIfWhite_1 : decode cX5_freeIfWhite 1 = .ok (.getfield 12, 3) := by decide +kernel
theorem dX5_freeIfWhite_4 : decode cX5_freeIfWhite 4 = .ok (.iload_n 1, 1) := by decide +kernel
theorem dX5_freeIfWhite_5 : decode cX5_freeIfWhite 5 = .ok (.invokevirtual 229, 3) := by decide +kernel
theorem dX5_freeIfWhite_8 : decode cX5_freeIfWhite 8 = .ok (.ifCond .eq 46, 3) := by decide +kernel
theorem dX5_freeIfWhite_11 : decode cX5_freeIfWhite 11 = .ok (.aload_n 0, 1) := by decide +kernel
theorem dX5_freeIfWhite_12 : decode cX5_freeIfWhite 12 = .ok (.getfield 12, 3) := by decide +kernel
theorem dX5_freeIfWhite_15 : decode cX5_freeIfWhite 15 = .ok (.iload_n 1, 1) := by decide +kernel
theorem dX5_freeIfWhite_16 : decode cX5_freeIfWhite 16 = .ok (.invokevirtual 141, 3) := by decide +kernel
theorem dX5_freeIfWhite_19 : decode cX5_freeIfWhite 19 = .ok (.ifCond .ne 35, 3) := by decide +kernel
theorem dX5_freeIfWhite_22 : decode cX5_freeIfWhite 22 = .ok (.aload_n 0, 1) := by decide +kernel
theorem dX5_freeIfWhite_23 : decode cX5_freeIfWhite 23 = .ok (.getfield 19, 3) := by decide +kernel
theorem dX5_freeIfWhite_26 : decode cX5_freeIfWhite 26 = .ok (.aload_n 0, 1) := by decide +kernel
theorem dX5_freeIfWhite_27 : decode cX5_freeIfWhite 27 = .ok (.getfield 12, 3) := by decide +kernel
theorem dX5_freeIfWhite_30 : decode cX5_freeIfWhite 30 = .ok (.iload_n 1, 1) := by decide +kernel
theorem dX5_freeIfWhite_31 : decode cX5_freeIfWhite 31 = .ok (.invokevirtual 241, 3) := by decide +kernel
theorem dX5_freeIfWhite_34 : decode cX5_freeIfWhite 34 = .ok (.aload_n 0, 1) := by decide +kernel
theorem dX5_freeIfWhite_35 : decode cX5_freeIfWhite 35 = .ok (.getfield 12, 3) := by decide +kernel
theorem dX5_freeIfWhite_38 : decode cX5_freeIfWhite 38 = .ok (.iload_n 1, 1) := by decide +kernel
theorem dX5_freeIfWhite_39 : decode cX5_freeIfWhite 39 = .ok (.invokevirtual 244, 3) := by decide +kernel
theorem dX5_freeIfWhite_42 : decode cX5_freeIfWhite 42 = .ok (.iconst (-1), 1) := by decide +kernel
theorem dX5_freeIfWhite_43 : decode cX5_freeIfWhite 43 = .ok (.invokevirtual 99, 3) := by decide +kernel
theorem dX5_freeIfWhite_46 : decode cX5_freeIfWhite 46 = .ok (.aload_n 0, 1) := by decide +kernel
theorem dX5_freeIfWhite_47 : decode cX5_freeIfWhite 47 = .ok (.getfield 12, 3) := by decide +kernel
theorem dX5_freeIfWhite_50 : decode cX5_freeIfWhite 50 = .ok (.iload_n 1, 1) := by decide +kernel
theorem dX5_freeIfWhite_51 : decode cX5_freeIfWhite 51 = .ok (.invokevirtual 262, 3) := by decide +kernel
theorem dX5_freeIfWhite_54 : decode cX5_freeIfWhite 54 = .ok (.return_, 1) := by decide +kernel
theorem dX5_endRound_0 : decode cX5_endRound 0 = .ok (.aload_n 0, 1) := by decide +kernel
theorem dX5_endRound_1 : decode cX5_endRound 1 = .ok (.iconst 0, 1) := by decide +kernel
theorem dX5_endRound_2 : decode cX5_endRound 2 = .ok (.putfield 58, 3) := by decide +kernel
theorem dX5_endRound_5 : decode cX5_endRound 5 = .ok (.aload_n 0, 1) := by decide +kernel
theorem dX5_endRound_6 : decode cX5_endRound 6 = .ok (.dup, 1) := by decide +kernel
theorem dX5_endRound_7 : decode cX5_endRound 7 = .ok (.getfield 64, 3) := by decide +kernel
theorem dX5_endRound_10 : decode cX5_endRound 10 = .ok (.iconst 1, 1) := by decide +kernel
theorem dX5_endRound_11 : decode cX5_endRound 11 = .ok (.iadd, 1) := by decide +kernel
theorem dX5_endRound_12 : decode cX5_endRound 12 = .ok (.putfield 64, 3) := by decide +kernel
theorem dX5_endRound_15 : decode cX5_endRound 15 = .ok (.return_, 1) := by decide +kernel
theorem dX5_about_0 : decode cX5_about 0 = .ok (.aload_n 0, 1) := by decide +kernel
theorem dX5_about_1 : decode cX5_about 1 = .ok (.getfield 12, 3) := by decide +kernel
theorem dX5_about_4 : decode cX5_about 4 = .ok (.iload_n 1, 1) := by decide +kernel
theorem dX5_about_5 : decode cX5_about 5 = .ok (.invokevirtual 265, 3) := by decide +kernel
theorem dX5_about_8 : decode cX5_about 8 = .ok (.ifCond .ne 6, 3) := by decide +kernel
theorem dX5_about_11 : decode cX5_about 11 = .ok (.bipush (-2), 2) := by decide +kernel
theorem dX5_about_13 : decode cX5_about 13 = .ok (.ireturn, 1) := by decide +kernel
theorem dX5_about_14 : decode cX5_about 14 = .ok (.iload_n 2, 1) := by decide +kernel
theorem dX5_about_15 : decode cX5_about 15 = .ok (.tableswitch 125 0 6 #[41, 50, 59, 68, 85, 99, 116], 41) := by decide +kernel
theorem dX5_about_56 : decode cX5_about 56 = .ok (.aload_n 0, 1) := by decide +kernel
theorem dX5_about_57 : decode cX5_about 57 = .ok (.getfield 12, 3) := by decide +kernel
theorem dX5_about_60 : decode cX5_about 60 = .ok (.iload_n 1, 1) := by decide +kernel
theorem dX5_about_61 : decode cX5_about 61 = .ok (.invokevirtual 268, 3) := by decide +kernel
theorem dX5_about_64 : decode cX5_about 64 = .ok (.ireturn, 1) := by decide +kernel
theorem dX5_about_65 : decode cX5_about 65 = .ok (.aload_n 0, 1) := by decide +kernel
theorem dX5_about_66 : decode cX5_about 66 = .ok (.getfield 12, 3) := by decide +kernel
theorem dX5_about_69 : decode cX5_about 69 = .ok (.iload_n 1, 1) := by decide +kernel
theorem dX5_about_70 : decode cX5_about 70 = .ok (.invokevirtual 241, 3) := by decide +kernel
theorem dX5_about_73 : decode cX5_about 73 = .ok (.ireturn, 1) := by decide +kernel
theorem dX5_about_74 : decode cX5_about 74 = .ok (.aload_n 0, 1) := by decide +kernel
theorem dX5_about_75 : decode cX5_about 75 = .ok (.getfield 12, 3) := by decide +kernel
theorem dX5_about_78 : decode cX5_about 78 = .ok (.iload_n 1, 1) := by decide +kernel
theorem dX5_about_79 : decode cX5_about 79 = .ok (.invokevirtual 271, 3) := by decide +kernel
theorem dX5_about_82 : decode cX5_about 82 = .ok (.ireturn, 1) := by decide +kernel
theorem dX5_about_83 : decode cX5_about 83 = .ok (.aload_n 0, 1) := by decide +kernel
theorem dX5_about_84 : decode cX5_about 84 = .ok (.getfield 12, 3) := by decide +kernel
theorem dX5_about_87 : decode cX5_about 87 = .ok (.iload_n 1, 1) := by decide +kernel
theorem dX5_about_88 : decode cX5_about 88 = .ok (.invokevirtual 141, 3) := by decide +kernel
theorem dX5_about_91 : decode cX5_about 91 = .ok (.ifCond .eq 7, 3) := by decide +kernel
theorem dX5_about_94 : decode cX5_about 94 = .ok (.iconst 1, 1) := by decide +kernel
theorem dX5_about_95 : decode cX5_about 95 = .ok (.goto 4, 3) := by decide +kernel
theorem dX5_about_98 : decode cX5_about 98 = .ok (.iconst 0, 1) := by decide +kernel
theorem dX5_about_99 : decode cX5_about 99 = .ok (.ireturn, 1) := by decide +kernel
theorem dX5_about_100 : decode cX5_about 100 = .ok (.aload_n 0, 1) := by decide +kernel
theorem dX5_about_101 : decode cX5_about 101 = .ok (.iload_n 1, 1) := by decide +kernel
theorem dX5_about_102 : decode cX5_about 102 = .ok (.invokevirtual 274, 3) := by decide +kernel
theorem dX5_about_105 : decode cX5_about 105 = .ok (.ifCond .eq 7, 3) := by decide +kernel
theorem dX5_about_108 : decode cX5_about 108 = .ok (.iconst 1, 1) := by decide +kernel
theorem dX5_about_109 : decode cX5_about 109 = .ok (.goto 4, 3) := by decide +kernel
theorem dX5_about_112 : decode cX5_about 112 = .ok (.iconst 0, 1) := by decide +kernel
theorem dX5_about_113 : decode cX5_about 113 = .ok (.ireturn, 1) := by decide +kernel
theorem dX5_about_114 : decode cX5_about 114 = .ok (.aload_n 0, 1) := by decide +kernel
theorem dX5_about_115 : decode cX5_about 115 = .ok (.getfield 12, 3) := by decide +kernel
theorem dX5_about_118 : decode cX5_about 118 = .ok (.iload_n 1, 1) := by decide +kernel
theorem dX5_about_119 : decode cX5_about 119 = .ok (.invokevirtual 232, 3) := by decide +kernel
theorem dX5_about_122 : decode cX5_about 122 = .ok (.ifCond .eq 7, 3) := by decide +kernel
theorem dX5_about_125 : decode cX5_about 125 = .ok (.iconst 1, 1) := by decide +kernel
theorem dX5_about_126 : decode cX5_about 126 = .ok (.goto 4, 3) := by decide +kernel
theorem dX5_about_129 : decode cX5_about 129 = .ok (.iconst 0, 1) := by decide +kernel
theorem dX5_about_130 : decode cX5_about 130 = .ok (.ireturn, 1) := by decide +kernel
theorem dX5_about_131 : decode cX5_about 131 = .ok (.aload_n 0, 1) := by decide +kernel
theorem dX5_about_132 : decode cX5_about 132 = .ok (.getfield 12, 3) := by decide +kernel
theorem dX5_about_135 : decode cX5_about 135 = .ok (.iload_n 1, 1) := by decide +kernel
theorem dX5_about_136 : decode cX5_about 136 = .ok (.invokevirtual 277, 3) := by decide +kernel
theorem dX5_about_139 : decode cX5_about 139 = .ok (.ireturn, 1) := by decide +kernel
theorem dX5_about_140 : decode cX5_about 140 = .ok (.bipush (-2), 2) := by decide +kernel
theorem dX5_about_142 : decode cX5_about 142 = .ok (.ireturn, 1) := by decide +kernel
theorem dX5_field_0 : decode cX5_field 0 = .ok (.aload_n 0, 1) := by decide +kernel
theorem dX5_field_1 : decode cX5_field 1 = .ok (.getfield 12, 3) := by decide +kernel
theorem dX5_field_4 : decode cX5_field 4 = .ok (.iload_n 1, 1) := by decide +kernel
theorem dX5_field_5 : decode cX5_field 5 = .ok (.invokevirtual 265, 3) := by decide +kernel
theorem dX5_field_8 : decode cX5_field 8 = .ok (.ifCond .eq 15, 3) := by decide +kernel
theorem dX5_field_11 : decode cX5_field 11 = .ok (.aload_n 0, 1) := by decide +kernel
theorem dX5_field_12 : decode cX5_field 12 = .ok (.getfield 12, 3) := by decide +kernel
theorem dX5_field_15 : decode cX5_field 15 = .ok (.iload_n 1, 1) := by decide +kernel
theorem dX5_field_16 : decode cX5_field 16 = .ok (.iload_n 2, 1) := by decide +kernel
theorem dX5_field_17 : decode cX5_field 17 = .ok (.invokevirtual 128, 3) := by decide +kernel
theorem dX5_field_20 : decode cX5_field 20 = .ok (.goto 5, 3) := by decide +kernel
theorem dX5_field_23 : decode cX5_field 23 = .ok (.bipush (-2), 2) := by decide +kernel
theorem dX5_field_25 : decode cX5_field 25 = .ok (.ireturn, 1) := by decide +kernel
theorem dX5_holder_0 : decode cX5_holder 0 = .ok (.iload_n 1, 1) := by decide +kernel
theorem dX5_holder_1 : decode cX5_holder 1 = .ok (.ifCond .ge 6, 3) := by decide +kernel
theorem dX5_holder_4 : decode cX5_holder 4 = .ok (.bipush (-2), 2) := by decide +kernel
theorem dX5_holder_6 : decode cX5_holder 6 = .ok (.ireturn, 1) := by decide +kernel
theorem dX5_holder_7 : decode cX5_holder 7 = .ok (.iload_n 1, 1) := by decide +kernel
theorem dX5_holder_8 : decode cX5_holder 8 = .ok (.bipush 16, 2) := by decide +kernel
theorem dX5_holder_10 : decode cX5_holder 10 = .ok (.if_icmp .ge 12, 3) := by decide +kernel
theorem dX5_holder_13 : decode cX5_holder 13 = .ok (.aload_n 0, 1) := by decide +kernel
theorem dX5_holder_14 : decode cX5_holder 14 = .ok (.getfield 26, 3) := by decide +kernel
theorem dX5_holder_17 : decode cX5_holder 17 = .ok (.iload_n 1, 1) := by decide +kernel
theorem dX5_holder_18 : decode cX5_holder 18 = .ok (.invokevirtual 148, 3) := by decide +kernel
theorem dX5_holder_21 : decode cX5_holder 21 = .ok (.ireturn, 1) := by decide +kernel
theorem dX5_holder_22 : decode cX5_holder 22 = .ok (.iload_n 1, 1) := by decide +kernel
theorem dX5_holder_23 : decode cX5_holder 23 = .ok (.bipush 22, 2) := by decide +kernel
theorem dX5_holder_25 : decode cX5_holder 25 = .ok (.if_icmp .ge 15, 3) := by decide +kernel
theorem dX5_holder_28 : decode cX5_holder 28 = .ok (.aload_n 0, 1) := by decide +kernel
theorem dX5_holder_29 : decode cX5_holder 29 = .ok (.getfield 26, 3) := by decide +kernel
theorem dX5_holder_32 : decode cX5_holder 32 = .ok (.iload_n 1, 1) := by decide +kernel
theorem dX5_holder_33 : decode cX5_holder 33 = .ok (.bipush 16, 2) := by decide +kernel
theorem dX5_holder_35 : decode cX5_holder 35 = .ok (.isub, 1) := by decide +kernel
theorem dX5_holder_36 : decode cX5_holder 36 = .ok (.invokevirtual 157, 3) := by decide +kernel
theorem dX5_holder_39 : decode cX5_holder 39 = .ok (.ireturn, 1) := by decide +kernel
theorem dX5_holder_40 : decode cX5_holder 40 = .ok (.iload_n 1, 1) := by decide +kernel
theorem dX5_holder_41 : decode cX5_holder 41 = .ok (.bipush 30, 2) := by decide +kernel
theorem dX5_holder_43 : decode cX5_holder 43 = .ok (.if_icmp .ge 17, 3) := by decide +kernel
theorem dX5_holder_46 : decode cX5_holder 46 = .ok (.aload_n 0, 1) := by decide +kernel
theorem dX5_holder_47 : decode cX5_holder 47 = .ok (.getfield 33, 3) := by decide +kernel
theorem dX5_holder_50 : decode cX5_holder 50 = .ok (.iload_n 1, 1) := by decide +kernel
theorem dX5_holder_51 : decode cX5_holder 51 = .ok (.bipush 22, 2) := by decide +kernel
theorem dX5_holder_53 : decode cX5_holder 53 = .ok (.isub, 1) := by decide +kernel
theorem dX5_holder_54 : decode cX5_holder 54 = .ok (.invokevirtual 226, 3) := by decide +kernel
theorem dX5_holder_57 : decode cX5_holder 57 = .ok (.goto 14, 3) := by decide +kernel
theorem dX5_holder_60 : decode cX5_holder 60 = .ok (.aload_n 0, 1) := by decide +kernel
theorem dX5_holder_61 : decode cX5_holder 61 = .ok (.getfield 26, 3) := by decide +kernel
theorem dX5_holder_64 : decode cX5_holder 64 = .ok (.iload_n 1, 1) := by decide +kernel
theorem dX5_holder_65 : decode cX5_holder 65 = .ok (.bipush 30, 2) := by decide +kernel
theorem dX5_holder_67 : decode cX5_holder 67 = .ok (.isub, 1) := by decide +kernel
theorem dX5_holder_68 : decode cX5_holder 68 = .ok (.invokevirtual 280, 3) := by decide +kernel
theorem dX5_holder_71 : decode cX5_holder 71 = .ok (.ireturn, 1) := by decide +kernel
theorem dX5_cell_0 : decode cX5_cell 0 = .ok (.iload_n 1, 1) := by decide +kernel
theorem dX5_cell_1 : decode cX5_cell 1 = .ok (.ifCond .lt 10, 3) := by decide +kernel
theorem dX5_cell_4 : decode cX5_cell 4 = .ok (.iload_n 1, 1) := by decide +kernel
theorem dX5_cell_5 : decode cX5_cell 5 = .ok (.sipush 200, 3) := by decide +kernel
theorem dX5_cell_8 : decode cX5_cell 8 = .ok (.if_icmp .lt 8, 3) := by decide +kernel
theorem dX5_cell_11 : decode cX5_cell 11 = .ok (.bipush (-2), 2) := by decide +kernel
theorem dX5_cell_13 : decode cX5_cell 13 = .ok (.goto 11, 3) := by decide +kernel
theorem dX5_cell_16 : decode cX5_cell 16 = .ok (.aload_n 0, 1) := by decide +kernel
theorem dX5_cell_17 : decode cX5_cell 17 = .ok (.getfield 19, 3) := by decide +kernel
theorem dX5_cell_20 : decode cX5_cell 20 = .ok (.iload_n 1, 1) := by decide +kernel
theorem dX5_cell_21 : decode cX5_cell 21 = .ok (.invokevirtual 283, 3) := by decide +kernel
theorem dX5_cell_24 : decode cX5_cell 24 = .ok (.ireturn, 1) := by decide +kernel
theorem dX5_count_0 : decode cX5_count 0 = .ok (.iload_n 1, 1) := by decide +kernel
theorem dX5_count_1 : decode cX5_count 1 = .ok (.tableswitch 177 0 12 #[67, 75, 83, 83, 83, 89, 115, 141, 146, 151, 156, 161, 169], 67) := by decide +kernel
theorem dX5_count_68 : decode cX5_count 68 = .ok (.aload_n 0, 1) := by decide +kernel
theorem dX5_count_69 : decode cX5_count 69 = .ok (.getfield 12, 3) := by decide +kernel
theorem dX5_count_72 : decode cX5_count 72 = .ok (.getfield 48, 3) := by decide +kernel
theorem dX5_count_75 : decode cX5_count 75 = .ok (.ireturn, 1) := by decide +kernel
theorem dX5_count_76 : decode cX5_count 76 = .ok (.aload_n 0, 1) := by decide +kernel
theorem dX5_count_77 : decode cX5_count 77 = .ok (.getfield 12, 3) := by decide +kernel
theorem dX5_count_80 : decode cX5_count 80 = .ok (.invokevirtual 186, 3) := by decide +kernel
theorem dX5_count_83 : decode cX5_count 83 = .ok (.ireturn, 1) := by decide +kernel
theorem dX5_count_84 : decode cX5_count 84 = .ok (.aload_n 0, 1) := by decide +kernel
theorem dX5_count_85 : decode cX5_count 85 = .ok (.iload_n 1, 1) := by decide +kernel
theorem dX5_count_86 : decode cX5_count 86 = .ok (.invokevirtual 286, 3) := by decide +kernel
theorem dX5_count_89 : decode cX5_count 89 = .ok (.ireturn, 1) := by decide +kernel
theorem dX5_count_90 : decode cX5_count 90 = .ok (.aload_n 0, 1) := by decide +kernel
theorem dX5_count_91 : decode cX5_count 91 = .ok (.getfield 52, 3) := by decide +kernel
theorem dX5_count_94 : decode cX5_count 94 = .ok (.iconst 3, 1) := by decide +kernel
theorem dX5_count_95 : decode cX5_count 95 = .ok (.if_icmp .ne 13, 3) := by decide +kernel
theorem dX5_count_98 : decode cX5_count 98 = .ok (.aload_n 0, 1) := by decide +kernel
theorem dX5_count_99 : decode cX5_count 99 = .ok (.getfield 19, 3) := by decide +kernel
theorem dX5_count_102 : decode cX5_count 102 = .ok (.invokevirtual 116, 3) := by decide +kernel
theorem dX5_count_105 : decode cX5_count 105 = .ok (.goto 10, 3) := by decide +kernel
theorem dX5_count_108 : decode cX5_count 108 = .ok (.aload_n 0, 1) := by decide +kernel
theorem dX5_count_109 : decode cX5_count 109 = .ok (.getfield 19, 3) := by decide +kernel
theorem dX5_count_112 : decode cX5_count 112 = .ok (.invokevirtual 289, 3) := by decide +kernel
theorem dX5_count_115 : decode cX5_count 115 = .ok (.ireturn, 1) := by decide +kernel
theorem dX5_count_116 : decode cX5_count 116 = .ok (.aload_n 0, 1) := by decide +kernel
theorem dX5_count_117 : decode cX5_count 117 = .ok (.getfield 52, 3) := by decide +kernel
theorem dX5_count_120 : decode cX5_count 120 = .ok (.iconst 3, 1) := by decide +kernel
theorem dX5_count_121 : decode cX5_count 121 = .ok (.if_icmp .ne 13, 3) := by decide +kernel
theorem dX5_count_124 : decode cX5_count 124 = .ok (.aload_n 0, 1) := by decide +kernel
theorem dX5_count_125 : decode cX5_count 125 = .ok (.getfield 19, 3) := by decide +kernel
theorem dX5_count_128 : decode cX5_count 128 = .ok (.invokevirtual 116, 3) := by decide +kernel
theorem dX5_count_131 : decode cX5_count 131 = .ok (.goto 10, 3) := by decide +kernel
theorem dX5_count_134 : decode cX5_count 134 = .ok (.aload_n 0, 1) := by decide +kernel
theorem dX5_count_135 : decode cX5_count 135 = .ok (.getfield 19, 3) := by decide +kernel
theorem dX5_count_138 : decode cX5_count 138 = .ok (.invokevirtual 292, 3) := by decide +kernel
theorem dX5_count_141 : decode cX5_count 141 = .ok (.ireturn, 1) := by decide +kernel
theorem dX5_count_142 : decode cX5_count 142 = .ok (.aload_n 0, 1) := by decide +kernel
theorem dX5_count_143 : decode cX5_count 143 = .ok (.getfield 64, 3) := by decide +kernel
theorem dX5_count_146 : decode cX5_count 146 = .ok (.ireturn, 1) := by decide +kernel
theorem dX5_count_147 : decode cX5_count 147 = .ok (.aload_n 0, 1) := by decide +kernel
theorem dX5_count_148 : decode cX5_count 148 = .ok (.getfield 67, 3) := by decide +kernel
theorem dX5_count_151 : decode cX5_count 151 = .ok (.ireturn, 1) := by decide +kernel
theorem dX5_count_152 : decode cX5_count 152 = .ok (.aload_n 0, 1) := by decide +kernel
theorem dX5_count_153 : decode cX5_count 153 = .ok (.getfield 70, 3) := by decide +kernel
theorem dX5_count_156 : decode cX5_count 156 = .ok (.ireturn, 1) := by decide +kernel
theorem dX5_count_157 : decode cX5_count 157 = .ok (.aload_n 0, 1) := by decide +kernel
theorem dX5_count_158 : decode cX5_count 158 = .ok (.getfield 73, 3) := by decide +kernel
theorem dX5_count_161 : decode cX5_count 161 = .ok (.ireturn, 1) := by decide +kernel
theorem dX5_count_162 : decode cX5_count 162 = .ok (.aload_n 0, 1) := by decide +kernel
theorem dX5_count_163 : decode cX5_count 163 = .ok (.getfield 26, 3) := by decide +kernel
theorem dX5_count_166 : decode cX5_count 166 = .ok (.getfield 171, 3) := by decide +kernel
theorem dX5_count_169 : decode cX5_count 169 = .ok (.ireturn, 1) := by decide +kernel
theorem dX5_count_170 : decode cX5_count 170 = .ok (.aload_n 0, 1) := by decide +kernel
theorem dX5_count_171 : decode cX5_count 171 = .ok (.getfield 33, 3) := by decide +kernel
theorem dX5_count_174 : decode cX5_count 174 = .ok (.invokevirtual 295, 3) := by decide +kernel
theorem dX5_count_177 : decode cX5_count 177 = .ok (.ireturn, 1) := by decide +kernel
theorem dX5_count_178 : decode cX5_count 178 = .ok (.bipush (-2), 2) := by decide +kernel
theorem dX5_count_180 : decode cX5_count 180 = .ok (.ireturn, 1) := by decide +kernel
theorem dX5_countByReach_0 : decode cX5_countByReach 0 = .ok (.aload_n 0, 1) := by decide +kernel
theorem dX5_countByReach_1 : decode cX5_countByReach 1 = .ok (.getfield 40, 3) := by decide +kernel
theorem dX5_countByReach_4 : decode cX5_countByReach 4 = .ok (.aload_n 0, 1) := by decide +kernel
theorem dX5_countByReach_5 : decode cX5_countByReach 5 = .ok (.getfield 12, 3) := by decide +kernel
theorem dX5_countByReach_8 : decode cX5_countByReach 8 = .ok (.aload_n 0, 1) := by decide +kernel
theorem dX5_countByReach_9 : decode cX5_countByReach 9 = .ok (.getfield 26, 3) := by decide +kernel
theorem dX5_countByReach_12 : decode cX5_countByReach 12 = .ok (.aload_n 0, 1) := by decide +kernel
theorem dX5_countByReach_13 : decode cX5_countByReach 13 = .ok (.getfield 33, 3) := by decide +kernel
theorem dX5_countByReach_16 : decode cX5_countByReach 16 = .ok (.invokevirtual 298, 3) := by decide +kernel
theorem dX5_countByReach_19 : decode cX5_countByReach 19 = .ok (.iconst 0, 1) := by decide +kernel
theorem dX5_countByReach_20 : decode cX5_countByReach 20 = .ok (.istore_n 2, 1) := by decide +kernel
theorem dX5_countByReach_21 : decode cX5_countByReach 21 = .ok (.iconst 0, 1) := by decide +kernel
theorem dX5_countByReach_22 : decode cX5_countByReach 22 = .ok (.istore_n 3, 1) := by decide +kernel
theorem dX5_countByReach_23 : decode cX5_countByReach 23 = .ok (.iload_n 3, 1) := by decide +kernel
theorem dX5_countByReach_24 : decode cX5_countByReach 24 = .ok (.aload_n 0, 1) := by decide +kernel
theorem dX5_countByReach_25 : decode cX5_countByReach 25 = .ok (.getfield 12, 3) := by decide +kernel
theorem dX5_countByReach_28 : decode cX5_countByReach 28 = .ok (.getfield 48, 3) := by decide +kernel
theorem dX5_countByReach_31 : decode cX5_countByReach 31 = .ok (.if_icmp .ge 87, 3) := by decide +kernel
theorem dX5_countByReach_34 : decode cX5_countByReach 34 = .ok (.aload_n 0, 1) := by decide +kernel
theorem dX5_countByReach_35 : decode cX5_countByReach 35 = .ok (.getfield 40, 3) := by decide +kernel
theorem dX5_countByReach_38 : decode cX5_countByReach 38 = .ok (.iload_n 3, 1) := by decide +kernel
theorem dX5_countByReach_39 : decode cX5_countByReach 39 = .ok (.invokevirtual 302, 3) := by decide +kernel
theorem dX5_countByReach_42 : decode cX5_countByReach 42 = .ok (.istore 4, 2) := by decide +kernel
theorem dX5_countByReach_44 : decode cX5_countByReach 44 = .ok (.aload_n 0, 1) := by decide +kernel
theorem dX5_countByReach_45 : decode cX5_countByReach 45 = .ok (.getfield 12, 3) := by decide +kernel
theorem dX5_countByReach_48 : decode cX5_countByReach 48 = .ok (.iload_n 3, 1) := by decide +kernel
theorem dX5_countByReach_49 : decode cX5_countByReach 49 = .ok (.invokevirtual 141, 3) := by decide +kernel
theorem dX5_countByReach_52 : decode cX5_countByReach 52 = .ok (.istore 5, 2) := by decide +kernel
theorem dX5_countByReach_54 : decode cX5_countByReach 54 = .ok (.iload_n 1, 1) := by decide +kernel
theorem dX5_countByReach_55 : decode cX5_countByReach 55 = .ok (.iconst 2, 1) := by decide +kernel
theorem dX5_countByReach_56 : decode cX5_countByReach 56 = .ok (.if_icmp .ne 8, 3) := by decide +kernel
theorem dX5_countByReach_59 : decode cX5_countByReach 59 = .ok (.iload 4, 2) := by decide +kernel
theorem dX5_countByReach_61 : decode cX5_countByReach 61 = .ok (.goto 41, 3) := by decide +kernel
theorem dX5_countByReach_64 : decode cX5_countByReach 64 = .ok (.iload_n 1, 1) := by decide +kernel
theorem dX5_countByReach_65 : decode cX5_countByReach 65 = .ok (.iconst 3, 1) := by decide +kernel
theorem dX5_countByReach_66 : decode cX5_countByReach 66 = .ok (.if_icmp .ne 21, 3) := by decide +kernel
theorem dX5_countByReach_69 : decode cX5_countByReach 69 = .ok (.iload 4, 2) := by decide +kernel
theorem dX5_countByReach_71 : decode cX5_countByReach 71 = .ok (.ifCond .eq 12, 3) := by decide +kernel
theorem dX5_countByReach_74 : decode cX5_countByReach 74 = .ok (.iload 5, 2) := by decide +kernel
theorem dX5_countByReach_76 : decode cX5_countByReach 76 = .ok (.ifCond .eq 7, 3) := by decide +kernel
theorem dX5_countByReach_79 : decode cX5_countByReach 79 = .ok (.iconst 1, 1) := by decide +kernel
theorem dX5_countByReach_80 : decode cX5_countByReach 80 = .ok (.goto 22, 3) := by decide +kernel
theorem dX5_countByReach_83 : decode cX5_countByReach 83 = .ok (.iconst 0, 1) := by decide +kernel
theorem dX5_countByReach_84 : decode cX5_countByReach 84 = .ok (.goto 18, 3) := by decide +kernel
theorem dX5_countByReach_87 : decode cX5_countByReach 87 = .ok (.iload 4, 2) := by decide +kernel
theorem dX5_countByReach_89 : decode cX5_countByReach 89 = .ok (.ifCond .ne 12, 3) := by decide +kernel
theorem dX5_countByReach_92 : decode cX5_countByReach 92 = .ok (.iload 5, 2) := by decide +kernel
theorem dX5_countByReach_94 : decode cX5_countByReach 94 = .ok (.ifCond .ne 7, 3) := by decide +kernel
theorem dX5_countByReach_97 : decode cX5_countByReach 97 = .ok (.iconst 1, 1) := by decide +kernel
theorem dX5_countByReach_98 : decode cX5_countByReach 98 = .ok (.goto 4, 3) := by decide +kernel
theorem dX5_countByReach_101 : decode cX5_countByReach 101 = .ok (.iconst 0, 1) := by decide +kernel
theorem dX5_countByReach_102 : decode cX5_countByReach 102 = .ok (.istore 6, 2) := by decide +kernel
theorem dX5_countByReach_104 : decode cX5_countByReach 104 = .ok (.iload 6, 2) := by decide +kernel
theorem dX5_countByReach_106 : decode cX5_countByReach 106 = .ok (.ifCond .eq 6, 3) := by decide +kernel
theorem dX5_countByReach_109 : decode cX5_countByReach 109 = .ok (.iinc 2 1, 3) := by decide +kernel
theorem dX5_countByReach_112 : decode cX5_countByReach 112 = .ok (.iinc 3 1, 3) := by decide +kernel
theorem dX5_countByReach_115 : decode cX5_countByReach 115 = .ok (.goto (-92), 3) := by decide +kernel
theorem dX5_countByReach_118 : decode cX5_countByReach 118 = .ok (.iload_n 2, 1) := by decide +kernel
theorem dX5_countByReach_119 : decode cX5_countByReach 119 = .ok (.ireturn, 1) := by decide +kernel
theorem dX5_lost_0 : decode cX5_lost 0 = .ok (.aload_n 0, 1) := by decide +kernel
theorem dX5_lost_1 : decode cX5_lost 1 = .ok (.getfield 40, 3) := by decide +kernel
theorem dX5_lost_4 : decode cX5_lost 4 = .ok (.aload_n 0, 1) := by decide +kernel
theorem dX5_lost_5 : decode cX5_lost 5 = .ok (.getfield 12, 3) := by decide +kernel
theorem dX5_lost_8 : decode cX5_lost 8 = .ok (.aload_n 0, 1) := by decide +kernel
theorem dX5_lost_9 : decode cX5_lost 9 = .ok (.getfield 26, 3) := by decide +kernel
theorem dX5_lost_12 : decode cX5_lost 12 = .ok (.aload_n 0, 1) := by decide +kernel
theorem dX5_lost_13 : decode cX5_lost 13 = .ok (.getfield 33, 3) := by decide +kernel
theorem dX5_lost_16 : decode cX5_lost 16 = .ok (.invokevirtual 298, 3) := by decide +kernel
theorem dX5_lost_19 : decode cX5_lost 19 = .ok (.iconst 0, 1) := by decide +kernel
theorem dX5_lost_20 : decode cX5_lost 20 = .ok (.istore_n 1, 1) := by decide +kernel
theorem dX5_lost_21 : decode cX5_lost 21 = .ok (.iload_n 1, 1) := by decide +kernel
theorem dX5_lost_22 : decode cX5_lost 22 = .ok (.aload_n 0, 1) := by decide +kernel
theorem dX5_lost_23 : decode cX5_lost 23 = .ok (.getfield 12, 3) := by decide +kernel
theorem dX5_lost_26 : decode cX5_lost 26 = .ok (.getfield 48, 3) := by decide +kernel
theorem dX5_lost_29 : decode cX5_lost 29 = .ok (.if_icmp .ge 33, 3) := by decide +kernel
theorem dX5_lost_32 : decode cX5_lost 32 = .ok (.aload_n 0, 1) := by decide +kernel
theorem dX5_lost_33 : decode cX5_lost 33 = .ok (.getfield 40, 3) := by decide +kernel
theorem dX5_lost_36 : decode cX5_lost 36 = .ok (.iload_n 1, 1) := by decide +kernel
theorem dX5_lost_37 : decode cX5_lost 37 = .ok (.invokevirtual 302, 3) := by decide +kernel
theorem dX5_lost_40 : decode cX5_lost 40 = .ok (.ifCond .eq 16, 3) := by decide +kernel
theorem dX5_lost_43 : decode cX5_lost 43 = .ok (.aload_n 0, 1) := by decide +kernel
theorem dX5_lost_44 : decode cX5_lost 44 = .ok (.getfield 12, 3) := by decide +kernel
theorem dX5_lost_47 : decode cX5_lost 47 = .ok (.iload_n 1, 1) := by decide +kernel
theorem dX5_lost_48 : decode cX5_lost 48 = .ok (.invokevirtual 141, 3) := by decide +kernel
theorem dX5_lost_51 : decode cX5_lost 51 = .ok (.ifCond .eq 5, 3) := by decide +kernel
theorem dX5_lost_54 : decode cX5_lost 54 = .ok (.iload_n 1, 1) := by decide +kernel
theorem dX5_lost_55 : decode cX5_lost 55 = .ok (.ireturn, 1) := by decide +kernel
theorem dX5_lost_56 : decode cX5_lost 56 = .ok (.iinc 1 1, 3) := by decide +kernel
theorem dX5_lost_59 : decode cX5_lost 59 = .ok (.goto (-38), 3) := by decide +kernel
theorem dX5_lost_62 : decode cX5_lost 62 = .ok (.iconst (-1), 1) := by decide +kernel
theorem dX5_lost_63 : decode cX5_lost 63 = .ok (.ireturn, 1) := by decide +kernel
theorem dX5_isReached_0 : decode cX5_isReached 0 = .ok (.aload_n 0, 1) := by decide +kernel
theorem dX5_isReached_1 : decode cX5_isReached 1 = .ok (.getfield 40, 3) := by decide +kernel
theorem dX5_isReached_4 : decode cX5_isReached 4 = .ok (.aload_n 0, 1) := by decide +kernel
theorem dX5_isReached_5 : decode cX5_isReached 5 = .ok (.getfield 12, 3) := by decide +kernel
theorem dX5_isReached_8 : decode cX5_isReached 8 = .ok (.aload_n 0, 1) := by decide +kernel
theorem dX5_isReached_9 : decode cX5_isReached 9 = .ok (.getfield 26, 3) := by decide +kernel
theorem dX5_isReached_12 : decode cX5_isReached 12 = .ok (.aload_n 0, 1) := by decide +kernel
theorem dX5_isReached_13 : decode cX5_isReached 13 = .ok (.getfield 33, 3) := by decide +kernel
theorem dX5_isReached_16 : decode cX5_isReached 16 = .ok (.invokevirtual 298, 3) := by decide +kernel
theorem dX5_isReached_19 : decode cX5_isReached 19 = .ok (.aload_n 0, 1) := by decide +kernel
theorem dX5_isReached_20 : decode cX5_isReached 20 = .ok (.getfield 40, 3) := by decide +kernel
theorem dX5_isReached_23 : decode cX5_isReached 23 = .ok (.iload_n 1, 1) := by decide +kernel
theorem dX5_isReached_24 : decode cX5_isReached 24 = .ok (.invokevirtual 302, 3) := by decide +kernel
theorem dX5_isReached_27 : decode cX5_isReached 27 = .ok (.ireturn, 1) := by decide +kernel
theorem dX5_digest_0 : decode cX5_digest 0 = .ok (.ldc2_w 305, 3) := by decide +kernel
theorem dX5_digest_3 : decode cX5_digest 3 = .ok (.lstore_n 1, 1) := by decide +kernel
theorem dX5_digest_4 : decode cX5_digest 4 = .ok (.iconst 0, 1) := by decide +kernel
theorem dX5_digest_5 : decode cX5_digest 5 = .ok (.istore_n 3, 1) := by decide +kernel
theorem dX5_digest_6 : decode cX5_digest 6 = .ok (.iload_n 3, 1) := by decide +kernel
theorem dX5_digest_7 : decode cX5_digest 7 = .ok (.aload_n 0, 1) := by decide +kernel
theorem dX5_digest_8 : decode cX5_digest 8 = .ok (.getfield 12, 3) := by decide +kernel
theorem dX5_digest_11 : decode cX5_digest 11 = .ok (.getfield 48, 3) := by decide +kernel
theorem dX5_digest_14 : decode cX5_digest 14 = .ok (.if_icmp .ge 105, 3) := by decide +kernel
theorem dX5_digest_17 : decode cX5_digest 17 = .ok (.ldc2_w 307, 3) := by decide +kernel
theorem dX5_digest_20 : decode cX5_digest 20 = .ok (.lload_n 1, 1) := by decide +kernel
theorem dX5_digest_21 : decode cX5_digest 21 = .ok (.lmul, 1) := by decide +kernel
theorem dX5_digest_22 : decode cX5_digest 22 = .ok (.aload_n 0, 1) := by decide +kernel
theorem dX5_digest_23 : decode cX5_digest 23 = .ok (.getfield 12, 3) := by decide +kernel
theorem dX5_digest_26 : decode cX5_digest 26 = .ok (.iload_n 3, 1) := by decide +kernel
theorem dX5_digest_27 : decode cX5_digest 27 = .ok (.invokevirtual 241, 3) := by decide +kernel
theorem dX5_digest_30 : decode cX5_digest 30 = .ok (.i2l, 1) := by decide +kernel
theorem dX5_digest_31 : decode cX5_digest 31 = .ok (.ladd, 1) := by decide +kernel
theorem dX5_digest_32 : decode cX5_digest 32 = .ok (.lstore_n 1, 1) := by decide +kernel
theorem dX5_digest_33 : decode cX5_digest 33 = .ok (.ldc2_w 307, 3) := by decide +kernel
theorem dX5_digest_36 : decode cX5_digest 36 = .ok (.lload_n 1, 1) := by decide +kernel
theorem dX5_digest_37 : decode cX5_digest 37 = .ok (.lmul, 1) := by decide +kernel
theorem dX5_digest_38 : decode cX5_digest 38 = .ok (.aload_n 0, 1) := by decide +kernel
theorem dX5_digest_39 : decode cX5_digest 39 = .ok (.getfield 12, 3) := by decide +kernel
theorem dX5_digest_42 : decode cX5_digest 42 = .ok (.iload_n 3, 1) := by decide +kernel
theorem dX5_digest_43 : decode cX5_digest 43 = .ok (.invokevirtual 271, 3) := by decide +kernel
theorem dX5_digest_46 : decode cX5_digest 46 = .ok (.i2l, 1) := by decide +kernel
theorem dX5_digest_47 : decode cX5_digest 47 = .ok (.ladd, 1) := by decide +kernel
theorem dX5_digest_48 : decode cX5_digest 48 = .ok (.lstore_n 1, 1) := by decide +kernel
theorem dX5_digest_49 : decode cX5_digest 49 = .ok (.ldc2_w 307, 3) := by decide +kernel
theorem dX5_digest_52 : decode cX5_digest 52 = .ok (.lload_n 1, 1) := by decide +kernel
theorem dX5_digest_53 : decode cX5_digest 53 = .ok (.lmul, 1) := by decide +kernel
theorem dX5_digest_54 : decode cX5_digest 54 = .ok (.aload_n 0, 1) := by decide +kernel
theorem dX5_digest_55 : decode cX5_digest 55 = .ok (.getfield 12, 3) := by decide +kernel
theorem dX5_digest_58 : decode cX5_digest 58 = .ok (.iload_n 3, 1) := by decide +kernel
theorem dX5_digest_59 : decode cX5_digest 59 = .ok (.invokevirtual 141, 3) := by decide +kernel
theorem dX5_digest_62 : decode cX5_digest 62 = .ok (.ifCond .eq 7, 3) := by decide +kernel
theorem dX5_digest_65 : decode cX5_digest 65 = .ok (.iconst 1, 1) := by decide +kernel
theorem dX5_digest_66 : decode cX5_digest 66 = .ok (.goto 4, 3) := by decide +kernel
theorem dX5_digest_69 : decode cX5_digest 69 = .ok (.iconst 0, 1) := by decide +kernel
theorem dX5_digest_70 : decode cX5_digest 70 = .ok (.i2l, 1) := by decide +kernel
theorem dX5_digest_71 : decode cX5_digest 71 = .ok (.ladd, 1) := by decide +kernel
theorem dX5_digest_72 : decode cX5_digest 72 = .ok (.lstore_n 1, 1) := by decide +kernel
theorem dX5_digest_73 : decode cX5_digest 73 = .ok (.iconst 0, 1) := by decide +kernel
theorem dX5_digest_74 : decode cX5_digest 74 = .ok (.istore 4, 2) := by decide +kernel
theorem dX5_digest_76 : decode cX5_digest 76 = .ok (.iload 4, 2) := by decide +kernel
theorem dX5_digest_78 : decode cX5_digest 78 = .ok (.aload_n 0, 1) := by decide +kernel
theorem dX5_digest_79 : decode cX5_digest 79 = .ok (.getfield 12, 3) := by decide +kernel
theorem dX5_digest_82 : decode cX5_digest 82 = .ok (.iload_n 3, 1) := by decide +kernel
theorem dX5_digest_83 : decode cX5_digest 83 = .ok (.invokevirtual 268, 3) := by decide +kernel
theorem dX5_digest_86 : decode cX5_digest 86 = .ok (.if_icmp .ge 27, 3) := by decide +kernel
theorem dX5_digest_89 : decode cX5_digest 89 = .ok (.ldc2_w 307, 3) := by decide +kernel
theorem dX5_digest_92 : decode cX5_digest 92 = .ok (.lload_n 1, 1) := by decide +kernel
theorem dX5_digest_93 : decode cX5_digest 93 = .ok (.lmul, 1) := by decide +kernel
theorem dX5_digest_94 : decode cX5_digest 94 = .ok (.aload_n 0, 1) := by decide +kernel
theorem dX5_digest_95 : decode cX5_digest 95 = .ok (.getfield 12, 3) := by decide +kernel
theorem dX5_digest_98 : decode cX5_digest 98 = .ok (.iload_n 3, 1) := by decide +kernel
theorem dX5_digest_99 : decode cX5_digest 99 = .ok (.iload 4, 2) := by decide +kernel
theorem dX5_digest_101 : decode cX5_digest 101 = .ok (.invokevirtual 128, 3) := by decide +kernel
theorem dX5_digest_104 : decode cX5_digest 104 = .ok (.i2l, 1) := by decide +kernel
theorem dX5_digest_105 : decode cX5_digest 105 = .ok (.ladd, 1) := by decide +kernel
theorem dX5_digest_106 : decode cX5_digest 106 = .ok (.lstore_n 1, 1) := by decide +kernel
theorem dX5_digest_107 : decode cX5_digest 107 = .ok (.iinc 4 1, 3) := by decide +kernel
theorem dX5_digest_110 : decode cX5_digest 110 = .ok (.goto (-34), 3) := by decide +kernel
theorem dX5_digest_113 : decode cX5_digest 113 = .ok (.iinc 3 1, 3) := by decide +kernel
theorem dX5_digest_116 : decode cX5_digest 116 = .ok (.goto (-110), 3) := by decide +kernel
theorem dX5_digest_119 : decode cX5_digest 119 = .ok (.iconst 0, 1) := by decide +kernel
theorem dX5_digest_120 : decode cX5_digest 120 = .ok (.istore_n 3, 1) := by decide +kernel
theorem dX5_digest_121 : decode cX5_digest 121 = .ok (.iload_n 3, 1) := by decide +kernel
theorem dX5_digest_122 : decode cX5_digest 122 = .ok (.bipush 30, 2) := by decide +kernel
theorem dX5_digest_124 : decode cX5_digest 124 = .ok (.if_icmp .ge 22, 3) := by decide +kernel
theorem dX5_digest_127 : decode cX5_digest 127 = .ok (.ldc2_w 307, 3) := by decide +kernel
theorem dX5_digest_130 : decode cX5_digest 130 = .ok (.lload_n 1, 1) := by decide +kernel
theorem dX5_digest_131 : decode cX5_digest 131 = .ok (.lmul, 1) := by decide +kernel
theorem dX5_digest_132 : decode cX5_digest 132 = .ok (.aload_n 0, 1) := by decide +kernel
theorem dX5_digest_133 : decode cX5_digest 133 = .ok (.iload_n 3, 1) := by decide +kernel
theorem dX5_digest_134 : decode cX5_digest 134 = .ok (.invokevirtual 309, 3) := by decide +kernel
theorem dX5_digest_137 : decode cX5_digest 137 = .ok (.i2l, 1) := by decide +kernel
theorem dX5_digest_138 : decode cX5_digest 138 = .ok (.ladd, 1) := by decide +kernel
theorem dX5_digest_139 : decode cX5_digest 139 = .ok (.lstore_n 1, 1) := by decide +kernel
theorem dX5_digest_140 : decode cX5_digest 140 = .ok (.iinc 3 1, 3) := by decide +kernel
theorem dX5_digest_143 : decode cX5_digest 143 = .ok (.goto (-22), 3) := by decide +kernel
theorem dX5_digest_146 : decode cX5_digest 146 = .ok (.ldc2_w 307, 3) := by decide +kernel
theorem dX5_digest_149 : decode cX5_digest 149 = .ok (.lload_n 1, 1) := by decide +kernel
theorem dX5_digest_150 : decode cX5_digest 150 = .ok (.lmul, 1) := by decide +kernel
theorem dX5_digest_151 : decode cX5_digest 151 = .ok (.aload_n 0, 1) := by decide +kernel
theorem dX5_digest_152 : decode cX5_digest 152 = .ok (.getfield 58, 3) := by decide +kernel
theorem dX5_digest_155 : decode cX5_digest 155 = .ok (.i2l, 1) := by decide +kernel
theorem dX5_digest_156 : decode cX5_digest 156 = .ok (.ladd, 1) := by decide +kernel
theorem dX5_digest_157 : decode cX5_digest 157 = .ok (.lreturn, 1) := by decide +kernel
end
section
theorem dX6_in_0 : decode cX6_in 0 = .ok (.iload_n 0, 1) := by decide +kernel
theorem dX6_in_1 : decode cX6_in 1 = .ok (.iload_n 1, 1) := by decide +kernel
theorem dX6_in_2 : decode cX6_in 2 = .ok (.if_icmp .lt 12, 3) := by decide +kernel
theorem dX6_in_5 : decode cX6_in 5 = .ok (.iload_n 0, 1) := by decide +kernel
theorem dX6_in_6 : decode cX6_in 6 = .ok (.iload_n 2, 1) := by decide +kernel
theorem dX6_in_7 : decode cX6_in 7 = .ok (.if_icmp .gt 7, 3) := by decide +kernel
theorem dX6_in_10 : decode cX6_in 10 = .ok (.iconst 1, 1) := by decide +kernel
theorem dX6_in_11 : decode cX6_in 11 = .ok (.goto 4, 3) := by decide +kernel
theorem dX6_in_14 : decode cX6_in 14 = .ok (.iconst 0, 1) := by decide +kernel
theorem dX6_in_15 : decode cX6_in 15 = .ok (.ireturn, 1) := by decide +kernel
theorem dX6_init_0 : decode cX6_init 0 = .ok (.aload_n 0, 1) := by decide +kernel
theorem dX6_init_1 : decode cX6_init 1 = .ok (.invokespecial 1, 3) := by decide +kernel
theorem dX6_init_4 : decode cX6_init 4 = .ok (.aload_n 0, 1) := by decide +kernel
theorem dX6_init_5 : decode cX6_init 5 = .ok (.bipush 120, 2) := by decide +kernel
theorem dX6_init_7 : decode cX6_init 7 = .ok (.newarray .int, 2) := by decide +kernel
theorem dX6_init_9 : decode cX6_init 9 = .ok (.putfield 7, 3) := by decide +kernel
theorem dX6_init_12 : decode cX6_init 12 = .ok (.aload_n 0, 1) := by decide +kernel
theorem dX6_init_13 : decode cX6_init 13 = .ok (.sipush 720, 3) := by decide +kernel
theorem dX6_init_16 : decode cX6_init 16 = .ok (.newarray .int, 2) := by decide +kernel
theorem dX6_init_18 : decode cX6_init 18 = .ok (.putfield 13, 3) := by decide +kernel
theorem dX6_init_21 : decode cX6_init 21 = .ok (.aload_n 0, 1) := by decide +kernel
theorem dX6_init_22 : decode cX6_init 22 = .ok (.bipush 120, 2) := by decide +kernel
theorem dX6_init_24 : decode cX6_init 24 = .ok (.newarray .int, 2) := by decide +kernel
theorem dX6_init_26 : decode cX6_init 26 = .ok (.putfield 16, 3) := by decide +kernel
theorem dX6_init_29 : decode cX6_init 29 = .ok (.aload_n 0, 1) := by decide +kernel
theorem dX6_init_30 : decode cX6_init 30 = .ok (.bipush 120, 2) := by decide +kernel
theorem dX6_init_32 : decode cX6_init 32 = .ok (.newarray .int, 2) := by decide +kernel
theorem dX6_init_34 : decode cX6_init 34 = .ok (.putfield 19, 3) := by decide +kernel
theorem dX6_init_37 : decode cX6_init 37 = .ok (.aload_n 0, 1) := by decide +kernel
theorem dX6_init_38 : decode cX6_init 38 = .ok (.bipush 120, 2) := by decide +kernel
theorem dX6_init_40 : decode cX6_init 40 = .ok (.newarray .boolean, 2) := by decide +kernel
theorem dX6_init_42 : decode cX6_init 42 = .ok (.putfield 22, 3) := by decide +kernel
theorem dX6_init_45 : decode cX6_init 45 = .ok (.aload_n 0, 1) := by decide +kernel
theorem dX6_init_46 : decode cX6_init 46 = .ok (.bipush 120, 2) := by decide +kernel
theorem dX6_init_48 : decode cX6_init 48 = .ok (.newarray .boolean, 2) := by decide +kernel
theorem dX6_init_50 : decode cX6_init 50 = .ok (.putfield 26, 3) := by decide +kernel
theorem dX6_init_53 : decode cX6_init 53 = .ok (.aload_n 0, 1) := by decide +kernel
theorem dX6_init_54 : decode cX6_init 54 = .ok (.bipush 120, 2) := by decide +kernel
theorem dX6_init_56 : decode cX6_init 56 = .ok (.newarray .int, 2) := by decide +kernel
theorem dX6_init_58 : decode cX6_init 58 = .ok (.putfield 29, 3) := by decide +kernel
theorem dX6_init_61 : decode cX6_init 61 = .ok (.aload_n 0, 1) := by decide +kernel
theorem dX6_init_62 : decode cX6_init 62 = .ok (.bipush 12, 2) := by decide +kernel
theorem dX6_init_64 : decode cX6_init 64 = .ok (.newarray .int, 2) := by decide +kernel
theorem dX6_init_66 : decode cX6_init 66 = .ok (.putfield 32, 3) := by decide +kernel
theorem dX6_init_69 : decode cX6_init 69 = .ok (.aload_n 0, 1) := by decide +kernel
theorem dX6_init_70 : decode cX6_init 70 = .ok (.iconst 4, 1) := by decide +kernel
theorem dX6_init_71 : decode cX6_init 71 = .ok (.newarray .int, 2) := by decide +kernel
theorem dX6_init_73 : decode cX6_init 73 = .ok (.putfield 35, 3) := by decide +kernel
theorem dX6_init_76 : decode cX6_init 76 = .ok (.aload_n 0, 1) := by decide +kernel
theorem dX6_init_77 : decode cX6_init 77 = .ok (.bipush 120, 2) := by decide +kernel
theorem dX6_init_79 : decode cX6_init 79 = .ok (.newarray .int, 2) := by decide +kernel
theorem dX6_init_81 : decode cX6_init 81 = .ok (.putfield 38, 3) := by decide +kernel
theorem dX6_init_84 : decode cX6_init 84 = .ok (.aload_n 0, 1) := by decide +kernel
theorem dX6_init_85 : decode cX6_init 85 = .ok (.bipush 6, 2) := by decide +kernel
theorem dX6_init_87 : decode cX6_init 87 = .ok (.newarray .int, 2) := by decide +kernel
theorem dX6_init_89 : decode cX6_init 89 = .ok (.putfield 41, 3) := by decide +kernel
theorem dX6_init_92 : decode cX6_init 92 = .ok (.aload_n 0, 1) := by decide +kernel
theorem dX6_init_93 : decode cX6_init 93 = .ok (.bipush 8, 2) := by decide +kernel
theorem dX6_init_95 : decode cX6_init 95 = .ok (.newarray .int, 2) := by decide +kernel
theorem dX6_init_97 : decode cX6_init 97 = .ok (.putfield 44, 3) := by decide +kernel
theorem dX6_init_100 : decode cX6_init 100 = .ok (.aload_n 0, 1) := by decide +kernel
theorem dX6_init_101 : decode cX6_init 101 = .ok (.bipush 8, 2) := by decide +kernel
theorem dX6_init_103 : decode cX6_init 103 = .ok (.newarray .int, 2) := by decide +kernel
theorem dX6_init_105 : decode cX6_init 105 = .ok (.putfield 47, 3) := by decide +kernel
theorem dX6_init_108 : decode cX6_init 108 = .ok (.aload_n 0, 1) := by decide +kernel
theorem dX6_init_109 : decode cX6_init 109 = .ok (.bipush 8, 2) := by decide +kernel
theorem dX6_init_111 : decode cX6_init 111 = .ok (.newarray .boolean, 2) := by decide +kernel
theorem dX6_init_113 : decode cX6_init 113 = .ok (.putfield 50, 3) := by decide +kernel
theorem dX6_init_116 : decode cX6_init 116 = .ok (.aload_n 0, 1) := by decide +kernel
theorem dX6_init_117 : decode cX6_init 117 = .ok (.bipush 120, 2) := by decide +kernel
theorem dX6_init_119 : decode cX6_init 119 = .ok (.newarray .boolean, 2) := by decide +kernel
theorem dX6_init_121 : decode cX6_init 121 = .ok (.putfield 53, 3) := by decide +kernel
theorem dX6_init_124 : decode cX6_init 124 = .ok (.aload_n 0, 1) := by decide +kernel
theorem dX6_init_125 : decode cX6_init 125 = .ok (.invokevirtual 56, 3) := by decide +kernel
theorem dX6_init_128 : decode cX6_init 128 = .ok (.return_, 1) := by decide +kernel
theorem dX6_empties_0 : decode cX6_empties 0 = .ok (.aload_n 0, 1) := by decide +kernel
theorem dX6_empties_1 : decode cX6_empties 1 = .ok (.iconst 0, 1) := by decide +kernel
theorem dX6_empties_2 : decode cX6_empties 2 = .ok (.putfield 59, 3) := by decide +kernel
theorem dX6_empties_5 : decode cX6_empties 5 = .ok (.aload_n 0, 1) := by decide +kernel
theorem dX6_empties_6 : decode cX6_empties 6 = .ok (.iconst 0, 1) := by decide +kernel
theorem dX6_empties_7 : decode cX6_empties 7 = .ok (.putfield 63, 3) := by decide +kernel
theorem dX6_empties_10 : decode cX6_empties 10 = .ok (.aload_n 0, 1) := by decide +kernel
theorem dX6_empties_11 : decode cX6_empties 11 = .ok (.iconst 0, 1) := by decide +kernel
theorem dX6_empties_12 : decode cX6_empties 12 = .ok (.putfield 66, 3) := by decide +kernel
theorem dX6_empties_15 : decode cX6_empties 15 = .ok (.aload_n 0, 1) := by decide +kernel
theorem dX6_empties_16 : decode cX6_empties 16 = .ok (.iconst 0, 1) := by decide +kernel
theorem dX6_empties_17 : decode cX6_empties 17 = .ok (.putfield 69, 3) := by decide +kernel
theorem dX6_empties_20 : decode cX6_empties 20 = .ok (.aload_n 0, 1) := by decide +kernel
theorem dX6_empties_21 : decode cX6_empties 21 = .ok (.iconst 0, 1) := by decide +kernel
theorem dX6_empties_22 : decode cX6_empties 22 = .ok (.putfield 72, 3) := by decide +kernel
theorem dX6_empties_25 : decode cX6_empties 25 = .ok (.aload_n 0, 1) := by decide +kernel
theorem dX6_empties_26 : decode cX6_empties 26 = .ok (.iconst 0, 1) := by decide +kernel
theorem dX6_empties_27 : decode cX6_empties 27 = .ok (.putfield 75, 3) := by decide +kernel
theorem dX6_empties_30 : decode cX6_empties 30 = .ok (.aload_n 0, 1) := by decide +kernel
theorem dX6_empties_31 : decode cX6_empties 31 = .ok (.iconst 0, 1) := by decide +kernel
theorem dX6_empties_32 : decode cX6_empties 32 = .ok (.putfield 78, 3) := by decide +kernel
theorem dX6_empties_35 : decode cX6_empties 35 = .ok (.aload_n 0, 1) := by decide +kernel
theorem dX6_empties_36 : decode cX6_empties 36 = .ok (.iconst 0, 1) := by decide +kernel
theorem dX6_empties_37 : decode cX6_empties 37 = .ok (.putfield 81, 3) := by decide +kernel
theorem dX6_empties_40 : decode cX6_empties 40 = .ok (.aload_n 0, 1) := by decide +kernel
theorem dX6_empties_41 : decode cX6_empties 41 = .ok (.iconst 0, 1) := by decide +kernel
theorem dX6_empties_42 : decode cX6_empties 42 = .ok (.putfield 84, 3) := by decide +kernel
theorem dX6_empties_45 : decode cX6_empties 45 = .ok (.aload_n 0, 1) := by decide +kernel
theorem dX6_empties_46 : decode cX6_empties 46 = .ok (.iconst 0, 1) := by decide +kernel
theorem dX6_empties_47 : decode cX6_empties 47 = .ok (.putfield 87, 3) := by decide +kernel
theorem dX6_empties_50 : decode cX6_empties 50 = .ok (.iconst 0, 1) := by decide +kernel
theorem dX6_empties_51 : decode cX6_empties 51 = .ok (.istore_n 1, 1) := by decide +kernel
theorem dX6_empties_52 : decode cX6_empties 52 = .ok (.iload_n 1, 1) := by decide +kernel
theorem dX6_empties_53 : decode cX6_empties 53 = .ok (.bipush 12, 2) := by decide +kernel
theorem dX6_empties_55 : decode cX6_empties 55 = .ok (.if_icmp .ge 16, 3) := by decide +kernel
theorem dX6_empties_58 : decode cX6_empties 58 = .ok (.aload_n 0, 1) := by decide +kernel
theorem dX6_empties_59 : decode cX6_empties 59 = .ok (.getfield 32, 3) := by decide +kernel
theorem dX6_empties_62 : decode cX6_empties 62 = .ok (.iload_n 1, 1) := by decide +kernel
theorem dX6_empties_63 : decode cX6_empties 63 = .ok (.iconst (-1), 1) := by decide +kernel
theorem dX6_empties_64 : decode cX6_empties 64 = .ok (.iastore, 1) := by decide +kernel
theorem dX6_empties_65 : decode cX6_empties 65 = .ok (.iinc 1 1, 3) := by decide +kernel
theorem dX6_empties_68 : decode cX6_empties 68 = .ok (.goto (-16), 3) := by decide +kernel
theorem dX6_empties_71 : decode cX6_empties 71 = .ok (.iconst 0, 1) := by decide +kernel
theorem dX6_empties_72 : decode cX6_empties 72 = .ok (.istore_n 1, 1) := by decide +kernel
theorem dX6_empties_73 : decode cX6_empties 73 = .ok (.iload_n 1, 1) := by decide +kernel
theorem dX6_empties_74 : decode cX6_empties 74 = .ok (.iconst 4, 1) := by decide +kernel
theorem dX6_empties_75 : decode cX6_empties 75 = .ok (.if_icmp .ge 16, 3) := by decide +kernel
theorem dX6_empties_78 : decode cX6_empties 78 = .ok (.aload_n 0, 1) := by decide +kernel
theorem dX6_empties_79 : decode cX6_empties 79 = .ok (.getfield 35, 3) := by decide +kernel
theorem dX6_empties_82 : decode cX6_empties 82 = .ok (.iload_n 1, 1) := by decide +kernel
theorem dX6_empties_83 : decode cX6_empties 83 = .ok (.iconst (-1), 1) := by decide +kernel
theorem dX6_empties_84 : decode cX6_empties 84 = .ok (.iastore, 1) := by decide +kernel
theorem dX6_empties_85 : decode cX6_empties 85 = .ok (.iinc 1 1, 3) := by decide +kernel
theorem dX6_empties_88 : decode cX6_empties 88 = .ok (.goto (-15), 3) := by decide +kernel
theorem dX6_empties_91 : decode cX6_empties 91 = .ok (.iconst 0, 1) := by decide +kernel
theorem dX6_empties_92 : decode cX6_empties 92 = .ok (.istore_n 1, 1) := by decide +kernel
theorem dX6_empties_93 : decode cX6_empties 93 = .ok (.iload_n 1, 1) := by decide +kernel
theorem dX6_empties_94 : decode cX6_empties 94 = .ok (.bipush 6, 2) := by decide +kernel
theorem dX6_empties_96 : decode cX6_empties 96 = .ok (.if_icmp .ge 16, 3) := by decide +kernel
theorem dX6_empties_99 : decode cX6_empties 99 = .ok (.aload_n 0, 1) := by decide +kernel
theorem dX6_empties_100 : decode cX6_empties 100 = .ok (.getfield 41, 3) := by decide +kernel
theorem dX6_empties_103 : decode cX6_empties 103 = .ok (.iload_n 1, 1) := by decide +kernel
theorem dX6_empties_104 : decode cX6_empties 104 = .ok (.iconst (-1), 1) := by decide +kernel
theorem dX6_empties_105 : decode cX6_empties 105 = .ok (.iastore, 1) := by decide +kernel
theorem dX6_empties_106 : decode cX6_empties 106 = .ok (.iinc 1 1, 3) := by decide +kernel
theorem dX6_empties_109 : decode cX6_empties 109 = .ok (.goto (-16), 3) := by decide +kernel
theorem dX6_empties_112 : decode cX6_empties 112 = .ok (.iconst 0, 1) := by decide +kernel
theorem dX6_empties_113 : decode cX6_empties 113 = .ok (.istore_n 1, 1) := by decide +kernel
theorem dX6_empties_114 : decode cX6_empties 114 = .ok (.iload_n 1, 1) := by decide +kernel
theorem dX6_empties_115 : decode cX6_empties 115 = .ok (.bipush 8, 2) := by decide +kernel
theorem dX6_empties_117 : decode cX6_empties 117 = .ok (.if_icmp .ge 16, 3) := by decide +kernel
theorem dX6_empties_120 : decode cX6_empties 120 = .ok (.aload_n 0, 1) := by decide +kernel
theorem dX6_empties_121 : decode cX6_empties 121 = .ok (.getfield 50, 3) := by decide +kernel
theorem dX6_empties_124 : decode cX6_empties 124 = .ok (.iload_n 1, 1) := by decide +kernel
theorem dX6_empties_125 : decode cX6_empties 125 = .ok (.iconst 0, 1) := by decide +kernel
theorem dX6_empties_126 : decode cX6_empties 126 = .ok (.bastore, 1) := by decide +kernel
theorem dX6_empties_127 : decode cX6_empties 127 = .ok (.iinc 1 1, 3) := by decide +kernel
theorem dX6_empties_130 : decode cX6_empties 130 = .ok (.goto (-16), 3) := by decide +kernel
theorem dX6_empties_133 : decode cX6_empties 133 = .ok (.return_, 1) := by decide +kernel
theorem dX6_attic_0 : decode cX6_attic 0 = .ok (.iload_n 1, 1) := by decide +kernel
theorem dX6_attic_1 : decode cX6_attic 1 = .ok (.iconst 0, 1) := by decide +kernel
theorem dX6_attic_2 : decode cX6_attic 2 = .ok (.iconst 3, 1) := by decide +kernel
theorem dX6_attic_3 : decode cX6_attic 3 = .ok (.invokestatic 90, 3) := by decide +kernel
theorem dX6_attic_6 : decode cX6_attic 6 = .ok (.ifCond .eq 12, 3) := by decide +kernel
theorem dX6_attic_9 : decode cX6_attic 9 = .ok (.iload_n 2, 1) := by decide +kernel
theorem dX6_attic_10 : decode cX6_attic 10 = .ok (.iconst 0, 1) := by decide +kernel
theorem dX6_attic_11 : decode cX6_attic 11 = .ok (.iconst 2, 1) := by decide +kernel
theorem dX6_attic_12 : decode cX6_attic 12 = .ok (.invokestatic 90, 3) := by decide +kernel
theorem dX6_attic_15 : decode cX6_attic 15 = .ok (.ifCond .ne 6, 3) := by decide +kernel
theorem dX6_attic_18 : decode cX6_attic 18 = .ok (.bipush (-2), 2) := by decide +kernel
theorem dX6_attic_20 : decode cX6_attic 20 = .ok (.ireturn, 1) := by decide +kernel
theorem dX6_attic_21 : decode cX6_attic 21 = .ok (.aload_n 0, 1) := by decide +kernel
theorem dX6_attic_22 : decode cX6_attic 22 = .ok (.getfield 59, 3) := by decide +kernel
theorem dX6_attic_25 : decode cX6_attic 25 = .ok (.istore_n 3, 1) := by decide +kernel
theorem dX6_attic_26 : decode cX6_attic 26 = .ok (.aload_n 0, 1) := by decide +kernel
theorem dX6_attic_27 : decode cX6_attic 27 = .ok (.invokevirtual 56, 3) := by decide +kernel
theorem dX6_attic_30 : decode cX6_attic 30 = .ok (.aload_n 0, 1) := by decide +kernel
theorem dX6_attic_31 : decode cX6_attic 31 = .ok (.iload_n 1, 1) := by decide +kernel
theorem dX6_attic_32 : decode cX6_attic 32 = .ok (.putfield 94, 3) := by decide +kernel
theorem dX6_attic_35 : decode cX6_attic 35 = .ok (.aload_n 0, 1) := by decide +kernel
theorem dX6_attic_36 : decode cX6_attic 36 = .ok (.iload_n 2, 1) := by decide +kernel
theorem dX6_attic_37 : decode cX6_attic 37 = .ok (.putfield 97, 3) := by decide +kernel
theorem dX6_attic_40 : decode cX6_attic 40 = .ok (.iload_n 3, 1) := by decide +kernel
theorem dX6_attic_41 : decode cX6_attic 41 = .ok (.ireturn, 1) := by decide +kernel
theorem dX6_isRegister_0 : decode cX6_isRegister 0 = .ok (.iload_n 0, 1) := by decide +kernel
theorem dX6_isRegister_1 : decode cX6_isRegister 1 = .ok (.iconst 0, 1) := by decide +kernel
theorem dX6_isRegister_2 : decode cX6_isRegister 2 = .ok (.iconst 2, 1) := by decide +kernel
theorem dX6_isRegister_3 : decode cX6_isRegister 3 = .ok (.invokestatic 90, 3) := by decide +kernel
theorem dX6_isRegister_6 : decode cX6_isRegister 6 = .ok (.ifCond .eq 16, 3) := by decide +kernel
theorem dX6_isRegister_9 : decode cX6_isRegister 9 = .ok (.iload_n 1, 1) := by decide +kernel
theorem dX6_isRegister_10 : decode cX6_isRegister 10 = .ok (.iconst 0, 1) := by decide +kernel
theorem dX6_isRegister_11 : decode cX6_isRegister 11 = .ok (.iconst 3, 1) := by decide +kernel
theorem dX6_isRegister_12 : decode cX6_isRegister 12 = .ok (.invokestatic 90, 3) := by decide +kernel
theorem dX6_isRegister_15 : decode cX6_isRegister 15 = .ok (.ifCond .eq 7, 3) := by decide +kernel
theorem dX6_isRegister_18 : decode cX6_isRegister 18 = .ok (.iconst 1, 1) := by decide +kernel
theorem dX6_isRegister_19 : decode cX6_isRegister 19 = .ok (.goto 4, 3) := by decide +kernel
theorem dX6_isRegister_22 : decode cX6_isRegister 22 = .ok (.iconst 0, 1) := by decide +kernel
theorem dX6_isRegister_23 : decode cX6_isRegister 23 = .ok (.ireturn, 1) := by decide +kernel
theorem dX6_held_0 : decode cX6_held 0 = .ok (.aload_n 0, 1) := by decide +kernel
theorem dX6_held_1 : decode cX6_held 1 = .ok (.getfield 32, 3) := by decide +kernel
theorem dX6_held_4 : decode cX6_held 4 = .ok (.iconst 4, 1) := by decide +kernel
theorem dX6_held_5 : decode cX6_held 5 = .ok (.iload_n 1, 1) := by decide +kernel
theorem dX6_held_6 : decode cX6_held 6 = .ok (.imul, 1) := by decide +kernel
theorem dX6_held_7 : decode cX6_held 7 = .ok (.iload_n 2, 1) := by decide +kernel
theorem dX6_held_8 : decode cX6_held 8 = .ok (.iadd, 1) := by decide +kernel
theorem dX6_held_9 : decode cX6_held 9 = .ok (.iaload, 1) := by decide +kernel
theorem dX6_held_10 : decode cX6_held 10 = .ok (.ireturn, 1) := by decide +kernel
theorem dX6_holds_0 : decode cX6_holds 0 = .ok (.aload_n 0, 1) := by decide +kernel
theorem dX6_holds_1 : decode cX6_holds 1 = .ok (.getfield 32, 3) := by decide +kernel
theorem dX6_holds_4 : decode cX6_holds 4 = .ok (.iconst 4, 1) := by decide +kernel
theorem dX6_holds_5 : decode cX6_holds 5 = .ok (.iload_n 1, 1) := by decide +kernel
theorem dX6_holds_6 : decode cX6_holds 6 = .ok (.imul, 1) := by decide +kernel
theorem dX6_holds_7 : decode cX6_holds 7 = .ok (.iload_n 2, 1) := by decide +kernel
theorem dX6_holds_8 : decode cX6_holds 8 = .ok (.iadd, 1) := by decide +kernel
theorem dX6_holds_9 : decode cX6_holds 9 = .ok (.iload_n 3, 1) := by decide +kernel
theorem dX6_holds_10 : decode cX6_holds 10 = .ok (.iastore, 1) := by decide +kernel
theorem dX6_holds_11 : decode cX6_holds 11 = .ok (.iload_n 3, 1) := by decide +kernel
theorem dX6_holds_12 : decode cX6_holds 12 = .ok (.ireturn, 1) := by decide +kernel
theorem dX6_shade_0 : decode cX6_shade 0 = .ok (.iload_n 1, 1) := by decide +kernel
theorem dX6_shade_1 : decode cX6_shade 1 = .ok (.iconst (-1), 1) := by decide +kernel
theorem dX6_shade_2 : decode cX6_shade 2 = .ok (.if_icmp .eq 21, 3) := by decide +kernel
theorem dX6_shade_5 : decode cX6_shade 5 = .ok (.aload_n 0, 1) := by decide +kernel
theorem dX6_shade_6 : decode cX6_shade 6 = .ok (.getfield 19, 3) := by decide +kernel
theorem dX6_shade_9 : decode cX6_shade 9 = .ok (.iload_n 1, 1) := by decide +kernel
theorem dX6_shade_10 : decode cX6_shade 10 = .ok (.iaload, 1) := by decide +kernel
theorem dX6_shade_11 : decode cX6_shade 11 = .ok (.ifCond .ne 12, 3) := by decide +kernel
theorem dX6_shade_14 : decode cX6_shade 14 = .ok (.aload_n 0, 1) := by decide +kernel
theorem dX6_shade_15 : decode cX6_shade 15 = .ok (.getfield 22, 3) := by decide +kernel
theorem dX6_shade_18 : decode cX6_shade 18 = .ok (.iload_n 1, 1) := by decide +kernel
theorem dX6_shade_19 : decode cX6_shade 19 = .ok (.baload, 1) := by decide +kernel
theorem dX6_shade_20 : decode cX6_shade 20 = .ok (.ifCond .eq 4, 3) := by decide +kernel
theorem dX6_shade_23 : decode cX6_shade 23 = .ok (.return_, 1) := by decide +kernel
theorem dX6_shade_24 : decode cX6_shade 24 = .ok (.aload_n 0, 1) := by decide +kernel
theorem dX6_shade_25 : decode cX6_shade 25 = .ok (.getfield 19, 3) := by decide +kernel
theorem dX6_shade_28 : decode cX6_shade 28 = .ok (.iload_n 1, 1) := by decide +kernel
theorem dX6_shade_29 : decode cX6_shade 29 = .ok (.iconst 1, 1) := by decide +kernel
theorem dX6_shade_30 : decode cX6_shade 30 = .ok (.iastore, 1) := by decide +kernel
theorem dX6_shade_31 : decode cX6_shade 31 = .ok (.aload_n 0, 1) := by decide +kernel
theorem dX6_shade_32 : decode cX6_shade 32 = .ok (.dup, 1) := by decide +kernel
theorem dX6_shade_33 : decode cX6_shade 33 = .ok (.getfield 84, 3) := by decide +kernel
theorem dX6_shade_36 : decode cX6_shade 36 = .ok (.iconst 1, 1) := by decide +kernel
theorem dX6_shade_37 : decode cX6_shade 37 = .ok (.iadd, 1) := by decide +kernel
theorem dX6_shade_38 : decode cX6_shade 38 = .ok (.putfield 84, 3) := by decide +kernel
theorem dX6_shade_41 : decode cX6_shade 41 = .ok (.aload_n 0, 1) := by decide +kernel
theorem dX6_shade_42 : decode cX6_shade 42 = .ok (.getfield 94, 3) := by decide +kernel
theorem dX6_shade_45 : decode cX6_shade 45 = .ok (.iconst 3, 1) := by decide +kernel
theorem dX6_shade_46 : decode cX6_shade 46 = .ok (.if_icmp .ne 58, 3) := by decide +kernel
theorem dX6_shade_49 : decode cX6_shade 49 = .ok (.aload_n 0, 1) := by decide +kernel
theorem dX6_shade_50 : decode cX6_shade 50 = .ok (.getfield 16, 3) := by decide +kernel
theorem dX6_shade_53 : decode cX6_shade 53 = .ok (.iload_n 1, 1) := by decide +kernel
theorem dX6_shade_54 : decode cX6_shade 54 = .ok (.bipush 100, 2) := by decide +kernel
theorem dX6_shade_56 : decode cX6_shade 56 = .ok (.aload_n 0, 1) := by decide +kernel
theorem dX6_shade_57 : decode cX6_shade 57 = .ok (.getfield 69, 3) := by decide +kernel
theorem dX6_shade_60 : decode cX6_shade 60 = .ok (.imul, 1) := by decide +kernel
theorem dX6_shade_61 : decode cX6_shade 61 = .ok (.aload_n 0, 1) := by decide +kernel
theorem dX6_shade_62 : decode cX6_shade 62 = .ok (.getfield 72, 3) := by decide +kernel
theorem dX6_shade_65 : decode cX6_shade 65 = .ok (.iadd, 1) := by decide +kernel
theorem dX6_shade_66 : decode cX6_shade 66 = .ok (.iastore, 1) := by decide +kernel
theorem dX6_shade_67 : decode cX6_shade 67 = .ok (.aload_n 0, 1) := by decide +kernel
theorem dX6_shade_68 : decode cX6_shade 68 = .ok (.dup, 1) := by decide +kernel
theorem dX6_shade_69 : decode cX6_shade 69 = .ok (.getfield 72, 3) := by decide +kernel
theorem dX6_shade_72 : decode cX6_shade 72 = .ok (.aload_n 0, 1) := by decide +kernel
theorem dX6_shade_73 : decode cX6_shade 73 = .ok (.getfield 7, 3) := by decide +kernel
theorem dX6_shade_76 : decode cX6_shade 76 = .ok (.iload_n 1, 1) := by decide +kernel
theorem dX6_shade_77 : decode cX6_shade 77 = .ok (.iaload, 1) := by decide +kernel
theorem dX6_shade_78 : decode cX6_shade 78 = .ok (.iconst 1, 1) := by decide +kernel
theorem dX6_shade_79 : decode cX6_shade 79 = .ok (.iadd, 1) := by decide +kernel
theorem dX6_shade_80 : decode cX6_shade 80 = .ok (.iadd, 1) := by decide +kernel
theorem dX6_shade_81 : decode cX6_shade 81 = .ok (.putfield 72, 3) := by decide +kernel
theorem dX6_shade_84 : decode cX6_shade 84 = .ok (.aload_n 0, 1) := by decide +kernel
theorem dX6_shade_85 : decode cX6_shade 85 = .ok (.getfield 29, 3) := by decide +kernel
theorem dX6_shade_88 : decode cX6_shade 88 = .ok (.iload_n 1, 1) := by decide +kernel
theorem dX6_shade_89 : decode cX6_shade 89 = .ok (.dup2, 1) := by decide +kernel
theorem dX6_shade_90 : decode cX6_shade 90 = .ok (.iaload, 1) := by decide +kernel
theorem dX6_shade_91 : decode cX6_shade 91 = .ok (.iconst 1, 1) := by decide +kernel
theorem dX6_shade_92 : decode cX6_shade 92 = .ok (.iadd, 1) := by decide +kernel
theorem dX6_shade_93 : decode cX6_shade 93 = .ok (.iastore, 1) := by decide +kernel
theorem dX6_shade_94 : decode cX6_shade 94 = .ok (.aload_n 0, 1) := by decide +kernel
theorem dX6_shade_95 : decode cX6_shade 95 = .ok (.dup, 1) := by decide +kernel
theorem dX6_shade_96 : decode cX6_shade 96 = .ok (.getfield 87, 3) := by decide +kernel
theorem dX6_shade_99 : decode cX6_shade 99 = .ok (.iconst 1, 1) := by decide +kernel
theorem dX6_shade_100 : decode cX6_shade 100 = .ok (.iadd, 1) := by decide +kernel
theorem dX6_shade_101 : decode cX6_shade 101 = .ok (.putfield 87, 3) := by decide +kernel
theorem dX6_shade_104 : decode cX6_shade 104 = .ok (.return_, 1) := by decide +kernel
theorem dX6_shadeHeld_0 : decode cX6_shadeHeld 0 = .ok (.iconst 0, 1) := by decide +kernel
theorem dX6_shadeHeld_1 : decode cX6_shadeHeld 1 = .ok (.istore_n 1, 1) := by decide +kernel
theorem dX6_shadeHeld_2 : decode cX6_shadeHeld 2 = .ok (.iload_n 1, 1) := by decide +kernel
theorem dX6_shadeHeld_3 : decode cX6_shadeHeld 3 = .ok (.bipush 12, 2) := by decide +kernel
theorem dX6_shadeHeld_5 : decode cX6_shadeHeld 5 = .ok (.if_icmp .ge 19, 3) := by decide +kernel
theorem dX6_shadeHeld_8 : decode cX6_shadeHeld 8 = .ok (.aload_n 0, 1) := by decide +kernel
theorem dX6_shadeHeld_9 : decode cX6_shadeHeld 9 = .ok (.aload_n 0, 1) := by decide +kernel
theorem dX6_shadeHeld_10 : decode cX6_shadeHeld 10 = .ok (.getfield 32, 3) := by decide +kernel
theorem dX6_shadeHeld_13 : decode cX6_shadeHeld 13 = .ok (.iload_n 1, 1) := by decide +kernel
theorem dX6_shadeHeld_14 : decode cX6_shadeHeld 14 = .ok (.iaload, 1) := by decide +kernel
theorem dX6_shadeHeld_15 : decode cX6_shadeHeld 15 = .ok (.invokevirtual 100, 3) := by decide +kernel
theorem dX6_shadeHeld_18 : decode cX6_shadeHeld 18 = .ok (.iinc 1 1, 3) := by decide +kernel
theorem dX6_shadeHeld_21 : decode cX6_shadeHeld 21 = .ok (.goto (-19), 3) := by decide +kernel
theorem dX6_shadeHeld_24 : decode cX6_shadeHeld 24 = .ok (.iconst 0, 1) := by decide +kernel
theorem dX6_shadeHeld_25 : decode cX6_shadeHeld 25 = .ok (.istore_n 1, 1) := by decide +kernel
theorem dX6_shadeHeld_26 : decode cX6_shadeHeld 26 = .ok (.iload_n 1, 1) := by decide +kernel
theorem dX6_shadeHeld_27 : decode cX6_shadeHeld 27 = .ok (.iconst 4, 1) := by decide +kernel
theorem dX6_shadeHeld_28 : decode cX6_shadeHeld 28 = .ok (.if_icmp .ge 19, 3) := by decide +kernel
theorem dX6_shadeHeld_31 : decode cX6_shadeHeld 31 = .ok (.aload_n 0, 1) := by decide +kernel
theorem dX6_shadeHeld_32 : decode cX6_shadeHeld 32 = .ok (.aload_n 0, 1) := by decide +kernel
theorem dX6_shadeHeld_33 : decode cX6_shadeHeld 33 = .ok (.getfield 35, 3) := by decide +kernel
theorem dX6_shadeHeld_36 : decode cX6_shadeHeld 36 = .ok (.iload_n 1, 1) := by decide +kernel
theorem dX6_shadeHeld_37 : decode cX6_shadeHeld 37 = .ok (.iaload, 1) := by decide +kernel
theorem dX6_shadeHeld_38 : decode cX6_shadeHeld 38 = .ok (.invokevirtual 100, 3) := by decide +kernel
theorem dX6_shadeHeld_41 : decode cX6_shadeHeld 41 = .ok (.iinc 1 1, 3) := by decide +kernel
theorem dX6_shadeHeld_44 : decode cX6_shadeHeld 44 = .ok (.goto (-18), 3) := by decide +kernel
theorem dX6_shadeHeld_47 : decode cX6_shadeHeld 47 = .ok (.iconst 0, 1) := by decide +kernel
theorem dX6_shadeHeld_48 : decode cX6_shadeHeld 48 = .ok (.istore_n 1, 1) := by decide +kernel
theorem dX6_shadeHeld_49 : decode cX6_shadeHeld 49 = .ok (.iload_n 1, 1) := by decide +kernel
theorem dX6_shadeHeld_50 : decode cX6_shadeHeld 50 = .ok (.aload_n 0, 1) := by decide +kernel
theorem dX6_shadeHeld_51 : decode cX6_shadeHeld 51 = .ok (.getfield 63, 3) := by decide +kernel
theorem dX6_shadeHeld_54 : decode cX6_shadeHeld 54 = .ok (.if_icmp .ge 19, 3) := by decide +kernel
theorem dX6_shadeHeld_57 : decode cX6_shadeHeld 57 = .ok (.aload_n 0, 1) := by decide +kernel
theorem dX6_shadeHeld_58 : decode cX6_shadeHeld 58 = .ok (.aload_n 0, 1) := by decide +kernel
theorem dX6_shadeHeld_59 : decode cX6_shadeHeld 59 = .ok (.getfield 38, 3) := by decide +kernel
theorem dX6_shadeHeld_62 : decode cX6_shadeHeld 62 = .ok (.iload_n 1, 1) := by decide +kernel
theorem dX6_shadeHeld_63 : decode cX6_shadeHeld 63 = .ok (.iaload, 1) := by decide +kernel
theorem dX6_shadeHeld_64 : decode cX6_shadeHeld 64 = .ok (.invokevirtual 100, 3) := by decide +kernel
theorem dX6_shadeHeld_67 : decode cX6_shadeHeld 67 = .ok (.iinc 1 1, 3) := by decide +kernel
theorem dX6_shadeHeld_70 : decode cX6_shadeHeld 70 = .ok (.goto (-21), 3) := by decide +kernel
theorem dX6_shadeHeld_73 : decode cX6_shadeHeld 73 = .ok (.return_, 1) := by decide +kernel
theorem dX6_frees_0 : decode cX6_frees 0 = .ok (.aload_n 0, 1) := by decide +kernel
theorem dX6_frees_1 : decode cX6_frees 1 = .ok (.getfield 22, 3) := by decide +kernel
theorem dX6_frees_4 : decode cX6_frees 4 = .ok (.iload_n 1, 1) := by decide +kernel
theorem dX6_frees_5 : decode cX6_frees 5 = .ok (.iconst 1, 1) := by decide +kernel
theorem dX6_frees_6 : decode cX6_frees 6 = .ok (.bastore, 1) := by decide +kernel
theorem dX6_frees_7 : decode cX6_frees 7 = .ok (.aload_n 0, 1) := by decide +kernel
theorem dX6_frees_8 : decode cX6_frees 8 = .ok (.getfield 16, 3) := by decide +kernel
theorem dX6_frees_11 : decode cX6_frees 11 = .ok (.iload_n 1, 1) := by decide +kernel
theorem dX6_frees_12 : decode cX6_frees 12 = .ok (.iconst (-1), 1) := by decide +kernel
theorem dX6_frees_13 : decode cX6_frees 13 = .ok (.iastore, 1) := by decide +kernel
theorem dX6_frees_14 : decode cX6_frees 14 = .ok (.aload_n 0, 1) := by decide +kernel
theorem dX6_frees_15 : decode cX6_frees 15 = .ok (.dup, 1) := by decide +kernel
theorem dX6_frees_16 : decode cX6_frees 16 = .ok (.getfield 104, 3) := by decide +kernel
theorem dX6_frees_19 : decode cX6_frees 19 = .ok (.iconst 1, 1) := by decide +kernel
theorem dX6_frees_20 : decode cX6_frees 20 = .ok (.iadd, 1) := by decide +kernel
theorem dX6_frees_21 : decode cX6_frees 21 = .ok (.putfield 104, 3) := by decide +kernel
theorem dX6_frees_24 : decode cX6_frees 24 = .ok (.return_, 1) := by decide +kernel
theorem dX6_leastGray_0 : decode cX6_leastGray 0 = .ok (.iconst 0, 1) := by decide +kernel
theorem dX6_leastGray_1 : decode cX6_leastGray 1 = .ok (.istore_n 1, 1) := by decide +kernel
theorem dX6_leastGray_2 : decode cX6_leastGray 2 = .ok (.iload_n 1, 1) := by decide +kernel
theorem dX6_leastGray_3 : decode cX6_leastGray 3 = .ok (.aload_n 0, 1) := by decide +kernel
theorem dX6_leastGray_4 : decode cX6_leastGray 4 = .ok (.getfield 59, 3) := by decide +kernel
theorem dX6_leastGray_7 : decode cX6_leastGray 7 = .ok (.if_icmp .ge 30, 3) := by decide +kernel
theorem dX6_leastGray_10 : decode cX6_leastGray 10 = .ok (.aload_n 0, 1) := by decide +kernel
theorem dX6_leastGray_11 : decode cX6_leastGray 11 = .ok (.getfield 19, 3) := by decide +kernel
theorem dX6_leastGray_14 : decode cX6_leastGray 14 = .ok (.iload_n 1, 1) := by decide +kernel
theorem dX6_leastGray_15 : decode cX6_leastGray 15 = .ok (.iaload, 1) := by decide +kernel
theorem dX6_leastGray_16 : decode cX6_leastGray 16 = .ok (.iconst 1, 1) := by decide +kernel
theorem dX6_leastGray_17 : decode cX6_leastGray 17 = .ok (.if_icmp .ne 14, 3) := by decide +kernel
theorem dX6_leastGray_20 : decode cX6_leastGray 20 = .ok (.aload_n 0, 1) := by decide +kernel
theorem dX6_leastGray_21 : decode cX6_leastGray 21 = .ok (.getfield 22, 3) := by decide +kernel
theorem dX6_leastGray_24 : decode cX6_leastGray 24 = .ok (.iload_n 1, 1) := by decide +kernel
theorem dX6_leastGray_25 : decode cX6_leastGray 25 = .ok (.baload, 1) := by decide +kernel
theorem dX6_leastGray_26 : decode cX6_leastGray 26 = .ok (.ifCond .ne 5, 3) := by decide +kernel
theorem dX6_leastGray_29 : decode cX6_leastGray 29 = .ok (.iload_n 1, 1) := by decide +kernel
theorem dX6_leastGray_30 : decode cX6_leastGray 30 = .ok (.ireturn, 1) := by decide +kernel
theorem dX6_leastGray_31 : decode cX6_leastGray 31 = .ok (.iinc 1 1, 3) := by decide +kernel
theorem dX6_leastGray_34 : decode cX6_leastGray 34 = .ok (.goto (-32), 3) := by decide +kernel
theorem dX6_leastGray_37 : decode cX6_leastGray 37 = .ok (.iconst (-1), 1) := by decide +kernel
theorem dX6_leastGray_38 : decode cX6_leastGray 38 = .ok (.ireturn, 1) := by decide +kernel
theorem dX6_isWhite_0 : decode cX6_isWhite 0 = .ok (.aload_n 0, 1) := by decide +kernel
theorem dX6_isWhite_1 : decode cX6_isWhite 1 = .ok (.getfield 19, 3) := by decide +kernel
theorem dX6_isWhite_4 : decode cX6_isWhite 4 = .ok (.iload_n 1, 1) := by decide +kernel
theorem dX6_isWhite_5 : decode cX6_isWhite 5 = .ok (.iaload, 1) := by decide +kernel
theorem dX6_isWhite_6 : decode cX6_isWhite 6 = .ok (.ifCond .ne 7, 3) := by decide +kernel
theorem dX6_isWhite_9 : decode cX6_isWhite 9 = .ok (.iconst 1, 1) := by decide +kernel
theorem dX6_isWhite_10 : decode cX6_isWhite 10 = .ok (.goto 4, 3) := by decide +kernel
theorem dX6_isWhite_13 : decode cX6_isWhite 13 = .ok (.iconst 0, 1) := by decide +kernel
theorem dX6_isWhite_14 : decode cX6_isWhite 14 = .ok (.ireturn, 1) := by decide +kernel
theorem dX6_wishes_0 : decode cX6_wishes 0 = .ok (.aload_n 0, 1) := by decide +kernel
theorem dX6_wishes_1 : decode cX6_wishes 1 = .ok (.getfield 26, 3) := by decide +kernel
theorem dX6_wishes_4 : decode cX6_wishes 4 = .ok (.iload_n 1, 1) := by decide +kernel
theorem dX6_wishes_5 : decode cX6_wishes 5 = .ok (.iconst 0, 1) := by decide +kernel
theorem dX6_wishes_6 : decode cX6_wishes 6 = .ok (.bastore, 1) := by decide +kernel
theorem dX6_wishes_7 : decode cX6_wishes 7 = .ok (.aload_n 0, 1) := by decide +kernel
theorem dX6_wishes_8 : decode cX6_wishes 8 = .ok (.getfield 38, 3) := by decide +kernel
theorem dX6_wishes_11 : decode cX6_wishes 11 = .ok (.aload_n 0, 1) := by decide +kernel
theorem dX6_wishes_12 : decode cX6_wishes 12 = .ok (.getfield 63, 3) := by decide +kernel
theorem dX6_wishes_15 : decode cX6_wishes 15 = .ok (.iload_n 1, 1) := by decide +kernel
theorem dX6_wishes_16 : decode cX6_wishes 16 = .ok (.iastore, 1) := by decide +kernel
theorem dX6_wishes_17 : decode cX6_wishes 17 = .ok (.aload_n 0, 1) := by decide +kernel
theorem dX6_wishes_18 : decode cX6_wishes 18 = .ok (.dup, 1) := by decide +kernel
theorem dX6_wishes_19 : decode cX6_wishes 19 = .ok (.getfield 63, 3) := by decide +kernel
theorem dX6_wishes_22 : decode cX6_wishes 22 = .ok (.iconst 1, 1) := by decide +kernel
theorem dX6_wishes_23 : decode cX6_wishes 23 = .ok (.iadd, 1) := by decide +kernel
theorem dX6_wishes_24 : decode cX6_wishes 24 = .ok (.putfield 63, 3) := by decide +kernel
theorem dX6_wishes_27 : decode cX6_wishes 27 = .ok (.aload_n 0, 1) := by decide +kernel
theorem dX6_wishes_28 : decode cX6_wishes 28 = .ok (.iload_n 1, 1) := by decide +kernel
theorem dX6_wishes_29 : decode cX6_wishes 29 = .ok (.invokevirtual 100, 3) := by decide +kernel
theorem dX6_wishes_32 : decode cX6_wishes 32 = .ok (.return_, 1) := by decide +kernel
theorem dX6_findsMore_0 : decode cX6_findsMore 0 = .ok (.aload_n 0, 1) := by decide +kernel
theorem dX6_findsMore_1 : decode cX6_findsMore 1 = .ok (.getfield 84, 3) := by decide +kernel
theorem dX6_findsMore_4 : decode cX6_findsMore 4 = .ok (.istore_n 1, 1) := by decide +kernel
theorem dX6_findsMore_5 : decode cX6_findsMore 5 = .ok (.aload_n 0, 1) := by decide +kernel
theorem dX6_findsMore_6 : decode cX6_findsMore 6 = .ok (.getfield 94, 3) := by decide +kernel
theorem dX6_findsMore_9 : decode cX6_findsMore 9 = .ok (.iconst 2, 1) := by decide +kernel
theorem dX6_findsMore_10 : decode cX6_findsMore 10 = .ok (.if_icmp .ne 7, 3) := by decide +kernel
theorem dX6_findsMore_13 : decode cX6_findsMore 13 = .ok (.aload_n 0, 1) := by decide +kernel
theorem dX6_findsMore_14 : decode cX6_findsMore 14 = .ok (.invokevirtual 107, 3) := by decide +kernel
theorem dX6_findsMore_17 : decode cX6_findsMore 17 = .ok (.aload_n 0, 1) := by decide +kernel
theorem dX6_findsMore_18 : decode cX6_findsMore 18 = .ok (.getfield 84, 3) := by decide +kernel
theorem dX6_findsMore_21 : decode cX6_findsMore 21 = .ok (.iload_n 1, 1) := by decide +kernel
theorem dX6_findsMore_22 : decode cX6_findsMore 22 = .ok (.if_icmp .ne 51, 3) := by decide +kernel
theorem dX6_findsMore_25 : decode cX6_findsMore 25 = .ok (.iconst 0, 1) := by decide +kernel
theorem dX6_findsMore_26 : decode cX6_findsMore 26 = .ok (.istore_n 2, 1) := by decide +kernel
theorem dX6_findsMore_27 : decode cX6_findsMore 27 = .ok (.iload_n 2, 1) := by decide +kernel
theorem dX6_findsMore_28 : decode cX6_findsMore 28 = .ok (.aload_n 0, 1) := by decide +kernel
theorem dX6_findsMore_29 : decode cX6_findsMore 29 = .ok (.getfield 66, 3) := by decide +kernel
theorem dX6_findsMore_32 : decode cX6_findsMore 32 = .ok (.if_icmp .ge 41, 3) := by decide +kernel
theorem dX6_findsMore_35 : decode cX6_findsMore 35 = .ok (.aload_n 0, 1) := by decide +kernel
theorem dX6_findsMore_36 : decode cX6_findsMore 36 = .ok (.getfield 50, 3) := by decide +kernel
theorem dX6_findsMore_39 : decode cX6_findsMore 39 = .ok (.iload_n 2, 1) := by decide +kernel
theorem dX6_findsMore_40 : decode cX6_findsMore 40 = .ok (.baload, 1) := by decide +kernel
theorem dX6_findsMore_41 : decode cX6_findsMore 41 = .ok (.ifCond .eq 26, 3) := by decide +kernel
theorem dX6_findsMore_44 : decode cX6_findsMore 44 = .ok (.aload_n 0, 1) := by decide +kernel
theorem dX6_findsMore_45 : decode cX6_findsMore 45 = .ok (.aload_n 0, 1) := by decide +kernel
theorem dX6_findsMore_46 : decode cX6_findsMore 46 = .ok (.getfield 44, 3) := by decide +kernel
theorem dX6_findsMore_49 : decode cX6_findsMore 49 = .ok (.iload_n 2, 1) := by decide +kernel
theorem dX6_findsMore_50 : decode cX6_findsMore 50 = .ok (.iaload, 1) := by decide +kernel
theorem dX6_findsMore_51 : decode cX6_findsMore 51 = .ok (.invokevirtual 110, 3) := by decide +kernel
theorem dX6_findsMore_54 : decode cX6_findsMore 54 = .ok (.ifCond .ne 13, 3) := by decide +kernel
theorem dX6_findsMore_57 : decode cX6_findsMore 57 = .ok (.aload_n 0, 1) := by decide +kernel
theorem dX6_findsMore_58 : decode cX6_findsMore 58 = .ok (.aload_n 0, 1) := by decide +kernel
theorem dX6_findsMore_59 : decode cX6_findsMore 59 = .ok (.getfield 47, 3) := by decide +kernel
theorem dX6_findsMore_62 : decode cX6_findsMore 62 = .ok (.iload_n 2, 1) := by decide +kernel
theorem dX6_findsMore_63 : decode cX6_findsMore 63 = .ok (.iaload, 1) := by decide +kernel
theorem dX6_findsMore_64 : decode cX6_findsMore 64 = .ok (.invokevirtual 100, 3) := by decide +kernel
theorem dX6_findsMore_67 : decode cX6_findsMore 67 = .ok (.iinc 2 1, 3) := by decide +kernel
theorem dX6_findsMore_70 : decode cX6_findsMore 70 = .ok (.goto (-43), 3) := by decide +kernel
theorem dX6_findsMore_73 : decode cX6_findsMore 73 = .ok (.aload_n 0, 1) := by decide +kernel
theorem dX6_findsMore_74 : decode cX6_findsMore 74 = .ok (.getfield 84, 3) := by decide +kernel
theorem dX6_findsMore_77 : decode cX6_findsMore 77 = .ok (.iload_n 1, 1) := by decide +kernel
theorem dX6_findsMore_78 : decode cX6_findsMore 78 = .ok (.if_icmp .ne 50, 3) := by decide +kernel
theorem dX6_findsMore_81 : decode cX6_findsMore 81 = .ok (.iconst 0, 1) := by decide +kernel
theorem dX6_findsMore_82 : decode cX6_findsMore 82 = .ok (.istore_n 2, 1) := by decide +kernel
theorem dX6_findsMore_83 : decode cX6_findsMore 83 = .ok (.iload_n 2, 1) := by decide +kernel
theorem dX6_findsMore_84 : decode cX6_findsMore 84 = .ok (.aload_n 0, 1) := by decide +kernel
theorem dX6_findsMore_85 : decode cX6_findsMore 85 = .ok (.getfield 59, 3) := by decide +kernel
theorem dX6_findsMore_88 : decode cX6_findsMore 88 = .ok (.if_icmp .ge 40, 3) := by decide +kernel
theorem dX6_findsMore_91 : decode cX6_findsMore 91 = .ok (.aload_n 0, 1) := by decide +kernel
theorem dX6_findsMore_92 : decode cX6_findsMore 92 = .ok (.getfield 26, 3) := by decide +kernel
theorem dX6_findsMore_95 : decode cX6_findsMore 95 = .ok (.iload_n 2, 1) := by decide +kernel
theorem dX6_findsMore_96 : decode cX6_findsMore 96 = .ok (.baload, 1) := by decide +kernel
theorem dX6_findsMore_97 : decode cX6_findsMore 97 = .ok (.ifCond .eq 25, 3) := by decide +kernel
theorem dX6_findsMore_100 : decode cX6_findsMore 100 = .ok (.aload_n 0, 1) := by decide +kernel
theorem dX6_findsMore_101 : decode cX6_findsMore 101 = .ok (.iload_n 2, 1) := by decide +kernel
theorem dX6_findsMore_102 : decode cX6_findsMore 102 = .ok (.invokevirtual 110, 3) := by decide +kernel
theorem dX6_findsMore_105 : decode cX6_findsMore 105 = .ok (.ifCond .eq 17, 3) := by decide +kernel
theorem dX6_findsMore_108 : decode cX6_findsMore 108 = .ok (.aload_n 0, 1) := by decide +kernel
theorem dX6_findsMore_109 : decode cX6_findsMore 109 = .ok (.getfield 22, 3) := by decide +kernel
theorem dX6_findsMore_112 : decode cX6_findsMore 112 = .ok (.iload_n 2, 1) := by decide +kernel
theorem dX6_findsMore_113 : decode cX6_findsMore 113 = .ok (.baload, 1) := by decide +kernel
theorem dX6_findsMore_114 : decode cX6_findsMore 114 = .ok (.ifCond .ne 8, 3) := by decide +kernel
theorem dX6_findsMore_117 : decode cX6_findsMore 117 = .ok (.aload_n 0, 1) := by decide +kernel
theorem dX6_findsMore_118 : decode cX6_findsMore 118 = .ok (.iload_n 2, 1) := by decide +kernel
theorem dX6_findsMore_119 : decode cX6_findsMore 119 = .ok (.invokevirtual 114, 3) := by decide +kernel
theorem dX6_findsMore_122 : decode cX6_findsMore 122 = .ok (.iinc 2 1, 3) := by decide +kernel
theorem dX6_findsMore_125 : decode cX6_findsMore 125 = .ok (.goto (-42), 3) := by decide +kernel
theorem dX6_findsMore_128 : decode cX6_findsMore 128 = .ok (.aload_n 0, 1) := by decide +kernel
theorem dX6_findsMore_129 : decode cX6_findsMore 129 = .ok (.getfield 84, 3) := by decide +kernel
theorem dX6_findsMore_132 : decode cX6_findsMore 132 = .ok (.iload_n 1, 1) := by decide +kernel
theorem dX6_findsMore_133 : decode cX6_findsMore 133 = .ok (.if_icmp .le 7, 3) := by decide +kernel
theorem dX6_findsMore_136 : decode cX6_findsMore 136 = .ok (.iconst 1, 1) := by decide +kernel
theorem dX6_findsMore_137 : decode cX6_findsMore 137 = .ok (.goto 4, 3) := by decide +kernel
theorem dX6_findsMore_140 : decode cX6_findsMore 140 = .ok (.iconst 0, 1) := by decide +kernel
theorem dX6_findsMore_141 : decode cX6_findsMore 141 = .ok (.ireturn, 1) := by decide +kernel
theorem dX6_marks_0 : decode cX6_marks 0 = .ok (.aload_n 0, 1) := by decide +kernel
theorem dX6_marks_1 : decode cX6_marks 1 = .ok (.invokevirtual 116, 3) := by decide +kernel
theorem dX6_marks_4 : decode cX6_marks 4 = .ok (.istore_n 1, 1) := by decide +kernel
theorem dX6_marks_5 : decode cX6_marks 5 = .ok (.iload_n 1, 1) := by decide +kernel
theorem dX6_marks_6 : decode cX6_marks 6 = .ok (.iconst (-1), 1) := by decide +kernel
theorem dX6_marks_7 : decode cX6_marks 7 = .ok (.if_icmp .eq 44, 3) := by decide +kernel
theorem dX6_marks_10 : decode cX6_marks 10 = .ok (.iconst 0, 1) := by decide +kernel
theorem dX6_marks_11 : decode cX6_marks 11 = .ok (.istore_n 2, 1) := by decide +kernel
theorem dX6_marks_12 : decode cX6_marks 12 = .ok (.iload_n 2, 1) := by decide +kernel
theorem dX6_marks_13 : decode cX6_marks 13 = .ok (.aload_n 0, 1) := by decide +kernel
theorem dX6_marks_14 : decode cX6_marks 14 = .ok (.getfield 7, 3) := by decide +kernel
theorem dX6_marks_17 : decode cX6_marks 17 = .ok (.iload_n 1, 1) := by decide +kernel
theorem dX6_marks_18 : decode cX6_marks 18 = .ok (.iaload, 1) := by decide +kernel
theorem dX6_marks_19 : decode cX6_marks 19 = .ok (.if_icmp .ge 24, 3) := by decide +kernel
theorem dX6_marks_22 : decode cX6_marks 22 = .ok (.aload_n 0, 1) := by decide +kernel
theorem dX6_marks_23 : decode cX6_marks 23 = .ok (.aload_n 0, 1) := by decide +kernel
theorem dX6_marks_24 : decode cX6_marks 24 = .ok (.getfield 13, 3) := by decide +kernel
theorem dX6_marks_27 : decode cX6_marks 27 = .ok (.bipush 6, 2) := by decide +kernel
theorem dX6_marks_29 : decode cX6_marks 29 = .ok (.iload_n 1, 1) := by decide +kernel
theorem dX6_marks_30 : decode cX6_marks 30 = .ok (.imul, 1) := by decide +kernel
theorem dX6_marks_31 : decode cX6_marks 31 = .ok (.iload_n 2, 1) := by decide +kernel
theorem dX6_marks_32 : decode cX6_marks 32 = .ok (.iadd, 1) := by decide +kernel
theorem dX6_marks_33 : decode cX6_marks 33 = .ok (.iaload, 1) := by decide +kernel
theorem dX6_marks_34 : decode cX6_marks 34 = .ok (.invokevirtual 100, 3) := by decide +kernel
theorem dX6_marks_37 : decode cX6_marks 37 = .ok (.iinc 2 1, 3) := by decide +kernel
theorem dX6_marks_40 : decode cX6_marks 40 = .ok (.goto (-28), 3) := by decide +kernel
theorem dX6_marks_43 : decode cX6_marks 43 = .ok (.aload_n 0, 1) := by decide +kernel
theorem dX6_marks_44 : decode cX6_marks 44 = .ok (.getfield 19, 3) := by decide +kernel
theorem dX6_marks_47 : decode cX6_marks 47 = .ok (.iload_n 1, 1) := by decide +kernel
theorem dX6_marks_48 : decode cX6_marks 48 = .ok (.iconst 2, 1) := by decide +kernel
theorem dX6_marks_49 : decode cX6_marks 49 = .ok (.iastore, 1) := by decide +kernel
theorem dX6_marks_50 : decode cX6_marks 50 = .ok (.return_, 1) := by decide +kernel
theorem dX6_marks_51 : decode cX6_marks 51 = .ok (.aload_n 0, 1) := by decide +kernel
theorem dX6_marks_52 : decode cX6_marks 52 = .ok (.invokevirtual 120, 3) := by decide +kernel
theorem dX6_marks_55 : decode cX6_marks 55 = .ok (.ifCond .eq 4, 3) := by decide +kernel
theorem dX6_marks_58 : decode cX6_marks 58 = .ok (.return_, 1) := by decide +kernel
theorem dX6_marks_59 : decode cX6_marks 59 = .ok (.iconst 0, 1) := by decide +kernel
theorem dX6_marks_60 : decode cX6_marks 60 = .ok (.istore_n 2, 1) := by decide +kernel
theorem dX6_marks_61 : decode cX6_marks 61 = .ok (.iload_n 2, 1) := by decide +kernel
theorem dX6_marks_62 : decode cX6_marks 62 = .ok (.bipush 6, 2) := by decide +kernel
theorem dX6_marks_64 : decode cX6_marks 64 = .ok (.if_icmp .ge 48, 3) := by decide +kernel
theorem dX6_marks_67 : decode cX6_marks 67 = .ok (.aload_n 0, 1) := by decide +kernel
theorem dX6_marks_68 : decode cX6_marks 68 = .ok (.getfield 41, 3) := by decide +kernel
theorem dX6_marks_71 : decode cX6_marks 71 = .ok (.iload_n 2, 1) := by decide +kernel
theorem dX6_marks_72 : decode cX6_marks 72 = .ok (.aload_n 0, 1) := by decide +kernel
theorem dX6_marks_73 : decode cX6_marks 73 = .ok (.getfield 41, 3) := by decide +kernel
theorem dX6_marks_76 : decode cX6_marks 76 = .ok (.iload_n 2, 1) := by decide +kernel
theorem dX6_marks_77 : decode cX6_marks 77 = .ok (.iaload, 1) := by decide +kernel
theorem dX6_marks_78 : decode cX6_marks 78 = .ok (.iconst (-1), 1) := by decide +kernel
theorem dX6_marks_79 : decode cX6_marks 79 = .ok (.if_icmp .eq 20, 3) := by decide +kernel
theorem dX6_marks_82 : decode cX6_marks 82 = .ok (.aload_n 0, 1) := by decide +kernel
theorem dX6_marks_83 : decode cX6_marks 83 = .ok (.aload_n 0, 1) := by decide +kernel
theorem dX6_marks_84 : decode cX6_marks 84 = .ok (.getfield 41, 3) := by decide +kernel
theorem dX6_marks_87 : decode cX6_marks 87 = .ok (.iload_n 2, 1) := by decide +kernel
theorem dX6_marks_88 : decode cX6_marks 88 = .ok (.iaload, 1) := by decide +kernel
theorem dX6_marks_89 : decode cX6_marks 89 = .ok (.invokevirtual 110, 3) := by decide +kernel
theorem dX6_marks_92 : decode cX6_marks 92 = .ok (.ifCond .eq 7, 3) := by decide +kernel
theorem dX6_marks_95 : decode cX6_marks 95 = .ok (.iconst (-1), 1) := by decide +kernel
theorem dX6_marks_96 : decode cX6_marks 96 = .ok (.goto 9, 3) := by decide +kernel
theorem dX6_marks_99 : decode cX6_marks 99 = .ok (.aload_n 0, 1) := by decide +kernel
theorem dX6_marks_100 : decode cX6_marks 100 = .ok (.getfield 41, 3) := by decide +kernel
theorem dX6_marks_103 : decode cX6_marks 103 = .ok (.iload_n 2, 1) := by decide +kernel
theorem dX6_marks_104 : decode cX6_marks 104 = .ok (.iaload, 1) := by decide +kernel
theorem dX6_marks_105 : decode cX6_marks 105 = .ok (.iastore, 1) := by decide +kernel
theorem dX6_marks_106 : decode cX6_marks 106 = .ok (.iinc 2 1, 3) := by decide +kernel
theorem dX6_marks_109 : decode cX6_marks 109 = .ok (.goto (-48), 3) := by decide +kernel
theorem dX6_marks_112 : decode cX6_marks 112 = .ok (.iconst 0, 1) := by decide +kernel
theorem dX6_marks_113 : decode cX6_marks 113 = .ok (.istore_n 2, 1) := by decide +kernel
theorem dX6_marks_114 : decode cX6_marks 114 = .ok (.iload_n 2, 1) := by decide +kernel
theorem dX6_marks_115 : decode cX6_marks 115 = .ok (.aload_n 0, 1) := by decide +kernel
theorem dX6_marks_116 : decode cX6_marks 116 = .ok (.getfield 66, 3) := by decide +kernel
theorem dX6_marks_119 : decode cX6_marks 119 = .ok (.if_icmp .ge 42, 3) := by decide +kernel
theorem dX6_marks_122 : decode cX6_marks 122 = .ok (.aload_n 0, 1) := by decide +kernel
theorem dX6_marks_123 : decode cX6_marks 123 = .ok (.getfield 50, 3) := by decide +kernel
theorem dX6_marks_126 : decode cX6_marks 126 = .ok (.iload_n 2, 1) := by decide +kernel
theorem dX6_marks_127 : decode cX6_marks 127 = .ok (.aload_n 0, 1) := by decide +kernel
theorem dX6_marks_128 : decode cX6_marks 128 = .ok (.getfield 50, 3) := by decide +kernel
theorem dX6_marks_131 : decode cX6_marks 131 = .ok (.iload_n 2, 1) := by decide +kernel
theorem dX6_marks_132 : decode cX6_marks 132 = .ok (.baload, 1) := by decide +kernel
theorem dX6_marks_133 : decode cX6_marks 133 = .ok (.ifCond .eq 20, 3) := by decide +kernel
theorem dX6_marks_136 : decode cX6_marks 136 = .ok (.aload_n 0, 1) := by decide +kernel
theorem dX6_marks_137 : decode cX6_marks 137 = .ok (.aload_n 0, 1) := by decide +kernel
theorem dX6_marks_138 : decode cX6_marks 138 = .ok (.getfield 44, 3) := by decide +kernel
theorem dX6_marks_141 : decode cX6_marks 141 = .ok (.iload_n 2, 1) := by decide +kernel
theorem dX6_marks_142 : decode cX6_marks 142 = .ok (.iaload, 1) := by decide +kernel
theorem dX6_marks_143 : decode cX6_marks 143 = .ok (.invokevirtual 110, 3) := by decide +kernel
theorem dX6_marks_146 : decode cX6_marks 146 = .ok (.ifCond .ne 7, 3) := by decide +kernel
theorem dX6_marks_149 : decode cX6_marks 149 = .ok (.iconst 1, 1) := by decide +kernel
theorem dX6_marks_150 : decode cX6_marks 150 = .ok (.goto 4, 3) := by decide +kernel
theorem dX6_marks_153 : decode cX6_marks 153 = .ok (.iconst 0, 1) := by decide +kernel
theorem dX6_marks_154 : decode cX6_marks 154 = .ok (.bastore, 1) := by decide +kernel
theorem dX6_marks_155 : decode cX6_marks 155 = .ok (.iinc 2 1, 3) := by decide +kernel
theorem dX6_marks_158 : decode cX6_marks 158 = .ok (.goto (-44), 3) := by decide +kernel
theorem dX6_marks_161 : decode cX6_marks 161 = .ok (.aload_n 0, 1) := by decide +kernel
theorem dX6_marks_162 : decode cX6_marks 162 = .ok (.iconst 2, 1) := by decide +kernel
theorem dX6_marks_163 : decode cX6_marks 163 = .ok (.putfield 75, 3) := by decide +kernel
theorem dX6_marks_166 : decode cX6_marks 166 = .ok (.aload_n 0, 1) := by decide +kernel
theorem dX6_marks_167 : decode cX6_marks 167 = .ok (.iconst 0, 1) := by decide +kernel
theorem dX6_marks_168 : decode cX6_marks 168 = .ok (.putfield 124, 3) := by decide +kernel
theorem dX6_marks_171 : decode cX6_marks 171 = .ok (.aload_n 0, 1) := by decide +kernel
theorem dX6_marks_172 : decode cX6_marks 172 = .ok (.getfield 94, 3) := by decide +kernel
theorem dX6_marks_175 : decode cX6_marks 175 = .ok (.iconst 3, 1) := by decide +kernel
theorem dX6_marks_176 : decode cX6_marks 176 = .ok (.if_icmp .ne 45, 3) := by decide +kernel
theorem dX6_marks_179 : decode cX6_marks 179 = .ok (.iconst 0, 1) := by decide +kernel
theorem dX6_marks_180 : decode cX6_marks 180 = .ok (.istore_n 2, 1) := by decide +kernel
theorem dX6_marks_181 : decode cX6_marks 181 = .ok (.iload_n 2, 1) := by decide +kernel
theorem dX6_marks_182 : decode cX6_marks 182 = .ok (.aload_n 0, 1) := by decide +kernel
theorem dX6_marks_183 : decode cX6_marks 183 = .ok (.getfield 59, 3) := by decide +kernel
theorem dX6_marks_186 : decode cX6_marks 186 = .ok (.if_icmp .ge 31, 3) := by decide +kernel
theorem dX6_marks_189 : decode cX6_marks 189 = .ok (.aload_n 0, 1) := by decide +kernel
theorem dX6_marks_190 : decode cX6_marks 190 = .ok (.iload_n 2, 1) := by decide +kernel
theorem dX6_marks_191 : decode cX6_marks 191 = .ok (.invokevirtual 110, 3) := by decide +kernel
theorem dX6_marks_194 : decode cX6_marks 194 = .ok (.ifCond .eq 17, 3) := by decide +kernel
theorem dX6_marks_197 : decode cX6_marks 197 = .ok (.aload_n 0, 1) := by decide +kernel
theorem dX6_marks_198 : decode cX6_marks 198 = .ok (.getfield 22, 3) := by decide +kernel
theorem dX6_marks_201 : decode cX6_marks 201 = .ok (.iload_n 2, 1) := by decide +kernel
theorem dX6_marks_202 : decode cX6_marks 202 = .ok (.baload, 1) := by decide +kernel
theorem dX6_marks_203 : decode cX6_marks 203 = .ok (.ifCond .ne 8, 3) := by decide +kernel
theorem dX6_marks_206 : decode cX6_marks 206 = .ok (.aload_n 0, 1) := by decide +kernel
theorem dX6_marks_207 : decode cX6_marks 207 = .ok (.iload_n 2, 1) := by decide +kernel
theorem dX6_marks_208 : decode cX6_marks 208 = .ok (.invokevirtual 127, 3) := by decide +kernel
theorem dX6_marks_211 : decode cX6_marks 211 = .ok (.iinc 2 1, 3) := by decide +kernel
theorem dX6_marks_214 : decode cX6_marks 214 = .ok (.goto (-33), 3) := by decide +kernel
theorem dX6_marks_217 : decode cX6_marks 217 = .ok (.aload_n 0, 1) := by decide +kernel
theorem dX6_marks_218 : decode cX6_marks 218 = .ok (.invokevirtual 130, 3) := by decide +kernel
theorem dX6_marks_221 : decode cX6_marks 221 = .ok (.return_, 1) := by decide +kernel
theorem dX6_over_0 : decode cX6_over 0 = .ok (.aload_n 0, 1) := by decide +kernel
theorem dX6_over_1 : decode cX6_over 1 = .ok (.iconst 0, 1) := by decide +kernel
theorem dX6_over_2 : decode cX6_over 2 = .ok (.putfield 75, 3) := by decide +kernel
theorem dX6_over_5 : decode cX6_over 5 = .ok (.aload_n 0, 1) := by decide +kernel
theorem dX6_over_6 : decode cX6_over 6 = .ok (.dup, 1) := by decide +kernel
theorem dX6_over_7 : decode cX6_over 7 = .ok (.getfield 78, 3) := by decide +kernel
theorem dX6_over_10 : decode cX6_over 10 = .ok (.iconst 1, 1) := by decide +kernel
theorem dX6_over_11 : decode cX6_over 11 = .ok (.iadd, 1) := by decide +kernel
theorem dX6_over_12 : decode cX6_over 12 = .ok (.putfield 78, 3) := by decide +kernel
theorem dX6_over_15 : decode cX6_over 15 = .ok (.return_, 1) := by decide +kernel
theorem dX6_sweeps_0 : decode cX6_sweeps 0 = .ok (.aload_n 0, 1) := by decide +kernel
theorem dX6_sweeps_1 : decode cX6_sweeps 1 = .ok (.getfield 124, 3) := by decide +kernel
theorem dX6_sweeps_4 : decode cX6_sweeps 4 = .ok (.aload_n 0, 1) := by decide +kernel
theorem dX6_sweeps_5 : decode cX6_sweeps 5 = .ok (.getfield 59, 3) := by decide +kernel
theorem dX6_sweeps_8 : decode cX6_sweeps 8 = .ok (.if_icmp .ge 28, 3) := by decide +kernel
theorem dX6_sweeps_11 : decode cX6_sweeps 11 = .ok (.aload_n 0, 1) := by decide +kernel
theorem dX6_sweeps_12 : decode cX6_sweeps 12 = .ok (.getfield 22, 3) := by decide +kernel
theorem dX6_sweeps_15 : decode cX6_sweeps 15 = .ok (.aload_n 0, 1) := by decide +kernel
theorem dX6_sweeps_16 : decode cX6_sweeps 16 = .ok (.getfield 124, 3) := by decide +kernel
theorem dX6_sweeps_19 : decode cX6_sweeps 19 = .ok (.baload, 1) := by decide +kernel
theorem dX6_sweeps_20 : decode cX6_sweeps 20 = .ok (.ifCond .eq 16, 3) := by decide +kernel
theorem dX6_sweeps_23 : decode cX6_sweeps 23 = .ok (.aload_n 0, 1) := by decide +kernel
theorem dX6_sweeps_24 : decode cX6_sweeps 24 = .ok (.dup, 1) := by decide +kernel
theorem dX6_sweeps_25 : decode cX6_sweeps 25 = .ok (.getfield 124, 3) := by decide +kernel
theorem dX6_sweeps_28 : decode cX6_sweeps 28 = .ok (.iconst 1, 1) := by decide +kernel
theorem dX6_sweeps_29 : decode cX6_sweeps 29 = .ok (.iadd, 1) := by decide +kernel
theorem dX6_sweeps_30 : decode cX6_sweeps 30 = .ok (.putfield 124, 3) := by decide +kernel
theorem dX6_sweeps_33 : decode cX6_sweeps 33 = .ok (.goto (-33), 3) := by decide +kernel
theorem dX6_sweeps_36 : decode cX6_sweeps 36 = .ok (.aload_n 0, 1) := by decide +kernel
theorem dX6_sweeps_37 : decode cX6_sweeps 37 = .ok (.getfield 124, 3) := by decide +kernel
theorem dX6_sweeps_40 : decode cX6_sweeps 40 = .ok (.aload_n 0, 1) := by decide +kernel
theorem dX6_sweeps_41 : decode cX6_sweeps 41 = .ok (.getfield 59, 3) := by decide +kernel
theorem dX6_sweeps_44 : decode cX6_sweeps 44 = .ok (.if_icmp .ne 8, 3) := by decide +kernel
theorem dX6_sweeps_47 : decode cX6_sweeps 47 = .ok (.aload_n 0, 1) := by decide +kernel
theorem dX6_sweeps_48 : decode cX6_sweeps 48 = .ok (.invokevirtual 130, 3) := by decide +kernel
theorem dX6_sweeps_51 : decode cX6_sweeps 51 = .ok (.return_, 1) := by decide +kernel
theorem dX6_sweeps_52 : decode cX6_sweeps 52 = .ok (.aload_n 0, 1) := by decide +kernel
theorem dX6_sweeps_53 : decode cX6_sweeps 53 = .ok (.aload_n 0, 1) := by decide +kernel
theorem dX6_sweeps_54 : decode cX6_sweeps 54 = .ok (.getfield 124, 3) := by decide +kernel
theorem dX6_sweeps_57 : decode cX6_sweeps 57 = .ok (.invokevirtual 110, 3) := by decide +kernel
theorem dX6_sweeps_60 : decode cX6_sweeps 60 = .ok (.ifCond .eq 11, 3) := by decide +kernel
theorem dX6_sweeps_63 : decode cX6_sweeps 63 = .ok (.aload_n 0, 1) := by decide +kernel
theorem dX6_sweeps_64 : decode cX6_sweeps 64 = .ok (.aload_n 0, 1) := by decide +kernel
theorem dX6_sweeps_65 : decode cX6_sweeps 65 = .ok (.getfield 124, 3) := by decide +kernel
theorem dX6_sweeps_68 : decode cX6_sweeps 68 = .ok (.invokevirtual 127, 3) := by decide +kernel
theorem dX6_sweeps_71 : decode cX6_sweeps 71 = .ok (.aload_n 0, 1) := by decide +kernel
theorem dX6_sweeps_72 : decode cX6_sweeps 72 = .ok (.dup, 1) := by decide +kernel
theorem dX6_sweeps_73 : decode cX6_sweeps 73 = .ok (.getfield 124, 3) := by decide +kernel
theorem dX6_sweeps_76 : decode cX6_sweeps 76 = .ok (.iconst 1, 1) := by decide +kernel
theorem dX6_sweeps_77 : decode cX6_sweeps 77 = .ok (.iadd, 1) := by decide +kernel
theorem dX6_sweeps_78 : decode cX6_sweeps 78 = .ok (.putfield 124, 3) := by decide +kernel
theorem dX6_sweeps_81 : decode cX6_sweeps 81 = .ok (.return_, 1) := by decide +kernel
theorem dX6_step_0 : decode cX6_step 0 = .ok (.aload_n 0, 1) := by decide +kernel
theorem dX6_step_1 : decode cX6_step 1 = .ok (.dup, 1) := by decide +kernel
theorem dX6_step_2 : decode cX6_step 2 = .ok (.getfield 81, 3) := by decide +kernel
theorem dX6_step_5 : decode cX6_step 5 = .ok (.iconst 1, 1) := by decide +kernel
theorem dX6_step_6 : decode cX6_step 6 = .ok (.iadd, 1) := by decide +kernel
theorem dX6_step_7 : decode cX6_step 7 = .ok (.putfield 81, 3) := by decide +kernel
theorem dX6_step_10 : decode cX6_step 10 = .ok (.aload_n 0, 1) := by decide +kernel
theorem dX6_step_11 : decode cX6_step 11 = .ok (.getfield 75, 3) := by decide +kernel
theorem dX6_step_14 : decode cX6_step 14 = .ok (.iconst 1, 1) := by decide +kernel
theorem dX6_step_15 : decode cX6_step 15 = .ok (.if_icmp .ne 10, 3) := by decide +kernel
theorem dX6_step_18 : decode cX6_step 18 = .ok (.aload_n 0, 1) := by decide +kernel
theorem dX6_step_19 : decode cX6_step 19 = .ok (.invokevirtual 133, 3) := by decide +kernel
theorem dX6_step_22 : decode cX6_step 22 = .ok (.goto 7, 3) := by decide +kernel
theorem dX6_step_25 : decode cX6_step 25 = .ok (.aload_n 0, 1) := by decide +kernel
theorem dX6_step_26 : decode cX6_step 26 = .ok (.invokevirtual 136, 3) := by decide +kernel
theorem dX6_step_29 : decode cX6_step 29 = .ok (.return_, 1) := by decide +kernel
theorem dX6_begin_0 : decode cX6_begin 0 = .ok (.aload_n 0, 1) := by decide +kernel
theorem dX6_begin_1 : decode cX6_begin 1 = .ok (.getfield 75, 3) := by decide +kernel
theorem dX6_begin_4 : decode cX6_begin 4 = .ok (.ifCond .eq 6, 3) := by decide +kernel
theorem dX6_begin_7 : decode cX6_begin 7 = .ok (.bipush (-3), 2) := by decide +kernel
theorem dX6_begin_9 : decode cX6_begin 9 = .ok (.ireturn, 1) := by decide +kernel
theorem dX6_begin_10 : decode cX6_begin 10 = .ok (.aload_n 0, 1) := by decide +kernel
theorem dX6_begin_11 : decode cX6_begin 11 = .ok (.iconst 0, 1) := by decide +kernel
theorem dX6_begin_12 : decode cX6_begin 12 = .ok (.putfield 81, 3) := by decide +kernel
theorem dX6_begin_15 : decode cX6_begin 15 = .ok (.aload_n 0, 1) := by decide +kernel
theorem dX6_begin_16 : decode cX6_begin 16 = .ok (.iconst 0, 1) := by decide +kernel
theorem dX6_begin_17 : decode cX6_begin 17 = .ok (.putfield 84, 3) := by decide +kernel
theorem dX6_begin_20 : decode cX6_begin 20 = .ok (.aload_n 0, 1) := by decide +kernel
theorem dX6_begin_21 : decode cX6_begin 21 = .ok (.iconst 0, 1) := by decide +kernel
theorem dX6_begin_22 : decode cX6_begin 22 = .ok (.putfield 104, 3) := by decide +kernel
theorem dX6_begin_25 : decode cX6_begin 25 = .ok (.iconst 0, 1) := by decide +kernel
theorem dX6_begin_26 : decode cX6_begin 26 = .ok (.istore_n 1, 1) := by decide +kernel
theorem dX6_begin_27 : decode cX6_begin 27 = .ok (.iload_n 1, 1) := by decide +kernel
theorem dX6_begin_28 : decode cX6_begin 28 = .ok (.aload_n 0, 1) := by decide +kernel
theorem dX6_begin_29 : decode cX6_begin 29 = .ok (.getfield 59, 3) := by decide +kernel
theorem dX6_begin_32 : decode cX6_begin 32 = .ok (.if_icmp .ge 34, 3) := by decide +kernel
theorem dX6_begin_35 : decode cX6_begin 35 = .ok (.aload_n 0, 1) := by decide +kernel
theorem dX6_begin_36 : decode cX6_begin 36 = .ok (.getfield 19, 3) := by decide +kernel
theorem dX6_begin_39 : decode cX6_begin 39 = .ok (.iload_n 1, 1) := by decide +kernel
theorem dX6_begin_40 : decode cX6_begin 40 = .ok (.aload_n 0, 1) := by decide +kernel
theorem dX6_begin_41 : decode cX6_begin 41 = .ok (.getfield 22, 3) := by decide +kernel
theorem dX6_begin_44 : decode cX6_begin 44 = .ok (.iload_n 1, 1) := by decide +kernel
theorem dX6_begin_45 : decode cX6_begin 45 = .ok (.baload, 1) := by decide +kernel
theorem dX6_begin_46 : decode cX6_begin 46 = .ok (.ifCond .eq 12, 3) := by decide +kernel
theorem dX6_begin_49 : decode cX6_begin 49 = .ok (.aload_n 0, 1) := by decide +kernel
theorem dX6_begin_50 : decode cX6_begin 50 = .ok (.getfield 19, 3) := by decide +kernel
theorem dX6_begin_53 : decode cX6_begin 53 = .ok (.iload_n 1, 1) := by decide +kernel
theorem dX6_begin_54 : decode cX6_begin 54 = .ok (.iaload, 1) := by decide +kernel
theorem dX6_begin_55 : decode cX6_begin 55 = .ok (.goto 4, 3) := by decide +kernel
theorem dX6_begin_58 : decode cX6_begin 58 = .ok (.iconst 0, 1) := by decide +kernel
theorem dX6_begin_59 : decode cX6_begin 59 = .ok (.iastore, 1) := by decide +kernel
theorem dX6_begin_60 : decode cX6_begin 60 = .ok (.iinc 1 1, 3) := by decide +kernel
theorem dX6_begin_63 : decode cX6_begin 63 = .ok (.goto (-36), 3) := by decide +kernel
theorem dX6_begin_66 : decode cX6_begin 66 = .ok (.aload_n 0, 1) := by decide +kernel
theorem dX6_begin_67 : decode cX6_begin 67 = .ok (.getfield 94, 3) := by decide +kernel
theorem dX6_begin_70 : decode cX6_begin 70 = .ok (.iconst 3, 1) := by decide +kernel
theorem dX6_begin_71 : decode cX6_begin 71 = .ok (.if_icmp .ne 18, 3) := by decide +kernel
theorem dX6_begin_74 : decode cX6_begin 74 = .ok (.aload_n 0, 1) := by decide +kernel
theorem dX6_begin_75 : decode cX6_begin 75 = .ok (.iconst 1, 1) := by decide +kernel
theorem dX6_begin_76 : decode cX6_begin 76 = .ok (.aload_n 0, 1) := by decide +kernel
theorem dX6_begin_77 : decode cX6_begin 77 = .ok (.getfield 69, 3) := by decide +kernel
theorem dX6_begin_80 : decode cX6_begin 80 = .ok (.isub, 1) := by decide +kernel
theorem dX6_begin_81 : decode cX6_begin 81 = .ok (.putfield 69, 3) := by decide +kernel
theorem dX6_begin_84 : decode cX6_begin 84 = .ok (.aload_n 0, 1) := by decide +kernel
theorem dX6_begin_85 : decode cX6_begin 85 = .ok (.iconst 0, 1) := by decide +kernel
theorem dX6_begin_86 : decode cX6_begin 86 = .ok (.putfield 72, 3) := by decide +kernel
theorem dX6_begin_89 : decode cX6_begin 89 = .ok (.aload_n 0, 1) := by decide +kernel
theorem dX6_begin_90 : decode cX6_begin 90 = .ok (.invokevirtual 107, 3) := by decide +kernel
theorem dX6_begin_93 : decode cX6_begin 93 = .ok (.aload_n 0, 1) := by decide +kernel
theorem dX6_begin_94 : decode cX6_begin 94 = .ok (.iconst 1, 1) := by decide +kernel
theorem dX6_begin_95 : decode cX6_begin 95 = .ok (.putfield 75, 3) := by decide +kernel
theorem dX6_begin_98 : decode cX6_begin 98 = .ok (.aload_n 0, 1) := by decide +kernel
theorem dX6_begin_99 : decode cX6_begin 99 = .ok (.getfield 94, 3) := by decide +kernel
theorem dX6_begin_102 : decode cX6_begin 102 = .ok (.ifCond .ne 22, 3) := by decide +kernel
theorem dX6_begin_105 : decode cX6_begin 105 = .ok (.aload_n 0, 1) := by decide +kernel
theorem dX6_begin_106 : decode cX6_begin 106 = .ok (.getfield 75, 3) := by decide +kernel
theorem dX6_begin_109 : decode cX6_begin 109 = .ok (.ifCond .eq 10, 3) := by decide +kernel
theorem dX6_begin_112 : decode cX6_begin 112 = .ok (.aload_n 0, 1) := by decide +kernel
theorem dX6_begin_113 : decode cX6_begin 113 = .ok (.invokevirtual 139, 3) := by decide +kernel
theorem dX6_begin_116 : decode cX6_begin 116 = .ok (.goto (-11), 3) := by decide +kernel
theorem dX6_begin_119 : decode cX6_begin 119 = .ok (.aload_n 0, 1) := by decide +kernel
theorem dX6_begin_120 : decode cX6_begin 120 = .ok (.getfield 104, 3) := by decide +kernel
theorem dX6_begin_123 : decode cX6_begin 123 = .ok (.ireturn, 1) := by decide +kernel
theorem dX6_begin_124 : decode cX6_begin 124 = .ok (.iconst 0, 1) := by decide +kernel
theorem dX6_begin_125 : decode cX6_begin 125 = .ok (.istore_n 1, 1) := by decide +kernel
theorem dX6_begin_126 : decode cX6_begin 126 = .ok (.iconst 0, 1) := by decide +kernel
theorem dX6_begin_127 : decode cX6_begin 127 = .ok (.istore_n 2, 1) := by decide +kernel
theorem dX6_begin_128 : decode cX6_begin 128 = .ok (.iload_n 2, 1) := by decide +kernel
theorem dX6_begin_129 : decode cX6_begin 129 = .ok (.aload_n 0, 1) := by decide +kernel
theorem dX6_begin_130 : decode cX6_begin 130 = .ok (.getfield 59, 3) := by decide +kernel
theorem dX6_begin_133 : decode cX6_begin 133 = .ok (.if_icmp .ge 36, 3) := by decide +kernel
theorem dX6_begin_136 : decode cX6_begin 136 = .ok (.iload_n 1, 1) := by decide +kernel
theorem dX6_begin_137 : decode cX6_begin 137 = .ok (.aload_n 0, 1) := by decide +kernel
theorem dX6_begin_138 : decode cX6_begin 138 = .ok (.getfield 19, 3) := by decide +kernel
theorem dX6_begin_141 : decode cX6_begin 141 = .ok (.iload_n 2, 1) := by decide +kernel
theorem dX6_begin_142 : decode cX6_begin 142 = .ok (.iaload, 1) := by decide +kernel
theorem dX6_begin_143 : decode cX6_begin 143 = .ok (.iconst 1, 1) := by decide +kernel
theorem dX6_begin_144 : decode cX6_begin 144 = .ok (.if_icmp .ne 16, 3) := by decide +kernel
theorem dX6_begin_147 : decode cX6_begin 147 = .ok (.aload_n 0, 1) := by decide +kernel
theorem dX6_begin_148 : decode cX6_begin 148 = .ok (.getfield 22, 3) := by decide +kernel
theorem dX6_begin_151 : decode cX6_begin 151 = .ok (.iload_n 2, 1) := by decide +kernel
theorem dX6_begin_152 : decode cX6_begin 152 = .ok (.baload, 1) := by decide +kernel
theorem dX6_begin_153 : decode cX6_begin 153 = .ok (.ifCond .ne 7, 3) := by decide +kernel
theorem dX6_begin_156 : decode cX6_begin 156 = .ok (.iconst 1, 1) := by decide +kernel
theorem dX6_begin_157 : decode cX6_begin 157 = .ok (.goto 4, 3) := by decide +kernel
theorem dX6_begin_160 : decode cX6_begin 160 = .ok (.iconst 0, 1) := by decide +kernel
theorem dX6_begin_161 : decode cX6_begin 161 = .ok (.iadd, 1) := by decide +kernel
theorem dX6_begin_162 : decode cX6_begin 162 = .ok (.istore_n 1, 1) := by decide +kernel
theorem dX6_begin_163 : decode cX6_begin 163 = .ok (.iinc 2 1, 3) := by decide +kernel
theorem dX6_begin_166 : decode cX6_begin 166 = .ok (.goto (-38), 3) := by decide +kernel
theorem dX6_begin_169 : decode cX6_begin 169 = .ok (.iload_n 1, 1) := by decide +kernel
theorem dX6_begin_170 : decode cX6_begin 170 = .ok (.ireturn, 1) := by decide +kernel
theorem dX6_sweep_0 : decode cX6_sweep 0 = .ok (.iload_n 1, 1) := by decide +kernel
theorem dX6_sweep_1 : decode cX6_sweep 1 = .ok (.iconst 1, 1) := by decide +kernel
theorem dX6_sweep_2 : decode cX6_sweep 2 = .ok (.sipush 400, 3) := by decide +kernel
theorem dX6_sweep_5 : decode cX6_sweep 5 = .ok (.invokestatic 90, 3) := by decide +kernel
theorem dX6_sweep_8 : decode cX6_sweep 8 = .ok (.ifCond .ne 6, 3) := by decide +kernel
theorem dX6_sweep_11 : decode cX6_sweep 11 = .ok (.bipush (-2), 2) := by decide +kernel
theorem dX6_sweep_13 : decode cX6_sweep 13 = .ok (.ireturn, 1) := by decide +kernel
theorem dX6_sweep_14 : decode cX6_sweep 14 = .ok (.iconst 0, 1) := by decide +kernel
theorem dX6_sweep_15 : decode cX6_sweep 15 = .ok (.istore_n 2, 1) := by decide +kernel
theorem dX6_sweep_16 : decode cX6_sweep 16 = .ok (.aload_n 0, 1) := by decide +kernel
theorem dX6_sweep_17 : decode cX6_sweep 17 = .ok (.getfield 75, 3) := by decide +kernel
theorem dX6_sweep_20 : decode cX6_sweep 20 = .ok (.ifCond .eq 18, 3) := by decide +kernel
theorem dX6_sweep_23 : decode cX6_sweep 23 = .ok (.iload_n 2, 1) := by decide +kernel
theorem dX6_sweep_24 : decode cX6_sweep 24 = .ok (.iload_n 1, 1) := by decide +kernel
theorem dX6_sweep_25 : decode cX6_sweep 25 = .ok (.if_icmp .ge 13, 3) := by decide +kernel
theorem dX6_sweep_28 : decode cX6_sweep 28 = .ok (.aload_n 0, 1) := by decide +kernel
theorem dX6_sweep_29 : decode cX6_sweep 29 = .ok (.invokevirtual 139, 3) := by decide +kernel
theorem dX6_sweep_32 : decode cX6_sweep 32 = .ok (.iinc 2 1, 3) := by decide +kernel
theorem dX6_sweep_35 : decode cX6_sweep 35 = .ok (.goto (-19), 3) := by decide +kernel
theorem dX6_sweep_38 : decode cX6_sweep 38 = .ok (.iload_n 2, 1) := by decide +kernel
theorem dX6_sweep_39 : decode cX6_sweep 39 = .ok (.ireturn, 1) := by decide +kernel
theorem dX6_under_0 : decode cX6_under 0 = .ok (.aload_n 0, 1) := by decide +kernel
theorem dX6_under_1 : decode cX6_under 1 = .ok (.getfield 75, 3) := by decide +kernel
theorem dX6_under_4 : decode cX6_under 4 = .ok (.ireturn, 1) := by decide +kernel
theorem dX6_notes_0 : decode cX6_notes 0 = .ok (.aload_n 0, 1) := by decide +kernel
theorem dX6_notes_1 : decode cX6_notes 1 = .ok (.getfield 75, 3) := by decide +kernel
theorem dX6_notes_4 : decode cX6_notes 4 = .ok (.iconst 1, 1) := by decide +kernel
theorem dX6_notes_5 : decode cX6_notes 5 = .ok (.if_icmp .ne 15, 3) := by decide +kernel
theorem dX6_notes_8 : decode cX6_notes 8 = .ok (.aload_n 0, 1) := by decide +kernel
theorem dX6_notes_9 : decode cX6_notes 9 = .ok (.getfield 97, 3) := by decide +kernel
theorem dX6_notes_12 : decode cX6_notes 12 = .ok (.iconst 1, 1) := by decide +kernel
theorem dX6_notes_13 : decode cX6_notes 13 = .ok (.if_icmp .eq 7, 3) := by decide +kernel
theorem dX6_notes_16 : decode cX6_notes 16 = .ok (.iconst 1, 1) := by decide +kernel
theorem dX6_notes_17 : decode cX6_notes 17 = .ok (.goto 4, 3) := by decide +kernel
theorem dX6_notes_20 : decode cX6_notes 20 = .ok (.iconst 0, 1) := by decide +kernel
theorem dX6_notes_21 : decode cX6_notes 21 = .ok (.ireturn, 1) := by decide +kernel
theorem dX6_isFree_0 : decode cX6_isFree 0 = .ok (.iconst 0, 1) := by decide +kernel
theorem dX6_isFree_1 : decode cX6_isFree 1 = .ok (.istore_n 3, 1) := by decide +kernel
theorem dX6_isFree_2 : decode cX6_isFree 2 = .ok (.iload_n 3, 1) := by decide +kernel
theorem dX6_isFree_3 : decode cX6_isFree 3 = .ok (.aload_n 0, 1) := by decide +kernel
theorem dX6_isFree_4 : decode cX6_isFree 4 = .ok (.getfield 59, 3) := by decide +kernel
theorem dX6_isFree_7 : decode cX6_isFree 7 = .ok (.if_icmp .ge 51, 3) := by decide +kernel
theorem dX6_isFree_10 : decode cX6_isFree 10 = .ok (.aload_n 0, 1) := by decide +kernel
theorem dX6_isFree_11 : decode cX6_isFree 11 = .ok (.getfield 22, 3) := by decide +kernel
theorem dX6_isFree_14 : decode cX6_isFree 14 = .ok (.iload_n 3, 1) := by decide +kernel
theorem dX6_isFree_15 : decode cX6_isFree 15 = .ok (.baload, 1) := by decide +kernel
theorem dX6_isFree_16 : decode cX6_isFree 16 = .ok (.ifCond .ne 36, 3) := by decide +kernel
theorem dX6_isFree_19 : decode cX6_isFree 19 = .ok (.aload_n 0, 1) := by decide +kernel
theorem dX6_isFree_20 : decode cX6_isFree 20 = .ok (.getfield 16, 3) := by decide +kernel
theorem dX6_isFree_23 : decode cX6_isFree 23 = .ok (.iload_n 3, 1) := by decide +kernel
theorem dX6_isFree_24 : decode cX6_isFree 24 = .ok (.iaload, 1) := by decide +kernel
theorem dX6_isFree_25 : decode cX6_isFree 25 = .ok (.iload_n 1, 1) := by decide +kernel
theorem dX6_isFree_26 : decode cX6_isFree 26 = .ok (.iload_n 2, 1) := by decide +kernel
theorem dX6_isFree_27 : decode cX6_isFree 27 = .ok (.iadd, 1) := by decide +kernel
theorem dX6_isFree_28 : decode cX6_isFree 28 = .ok (.if_icmp .ge 24, 3) := by decide +kernel
theorem dX6_isFree_31 : decode cX6_isFree 31 = .ok (.iload_n 1, 1) := by decide +kernel
theorem dX6_isFree_32 : decode cX6_isFree 32 = .ok (.aload_n 0, 1) := by decide +kernel
theorem dX6_isFree_33 : decode cX6_isFree 33 = .ok (.getfield 16, 3) := by decide +kernel
theorem dX6_isFree_36 : decode cX6_isFree 36 = .ok (.iload_n 3, 1) := by decide +kernel
theorem dX6_isFree_37 : decode cX6_isFree 37 = .ok (.iaload, 1) := by decide +kernel
theorem dX6_isFree_38 : decode cX6_isFree 38 = .ok (.aload_n 0, 1) := by decide +kernel
theorem dX6_isFree_39 : decode cX6_isFree 39 = .ok (.getfield 7, 3) := by decide +kernel
theorem dX6_isFree_42 : decode cX6_isFree 42 = .ok (.iload_n 3, 1) := by decide +kernel
theorem dX6_isFree_43 : decode cX6_isFree 43 = .ok (.iaload, 1) := by decide +kernel
theorem dX6_isFree_44 : decode cX6_isFree 44 = .ok (.iadd, 1) := by decide +kernel
theorem dX6_isFree_45 : decode cX6_isFree 45 = .ok (.iconst 1, 1) := by decide +kernel
theorem dX6_isFree_46 : decode cX6_isFree 46 = .ok (.iadd, 1) := by decide +kernel
theorem dX6_isFree_47 : decode cX6_isFree 47 = .ok (.if_icmp .ge 5, 3) := by decide +kernel
theorem dX6_isFree_50 : decode cX6_isFree 50 = .ok (.iconst 0, 1) := by decide +kernel
theorem dX6_isFree_51 : decode cX6_isFree 51 = .ok (.ireturn, 1) := by decide +kernel
theorem dX6_isFree_52 : decode cX6_isFree 52 = .ok (.iinc 3 1, 3) := by decide +kernel
theorem dX6_isFree_55 : decode cX6_isFree 55 = .ok (.goto (-53), 3) := by decide +kernel
theorem dX6_isFree_58 : decode cX6_isFree 58 = .ok (.iconst 1, 1) := by decide +kernel
theorem dX6_isFree_59 : decode cX6_isFree 59 = .ok (.ireturn, 1) := by decide +kernel
theorem dX6_whiteCells_0 : decode cX6_whiteCells 0 = .ok (.iconst 0, 1) := by decide +kernel
theorem dX6_whiteCells_1 : decode cX6_whiteCells 1 = .ok (.istore_n 1, 1) := by decide +kernel
theorem dX6_whiteCells_2 : decode cX6_whiteCells 2 = .ok (.iconst 0, 1) := by decide +kernel
theorem dX6_whiteCells_3 : decode cX6_whiteCells 3 = .ok (.istore_n 2, 1) := by decide +kernel
theorem dX6_whiteCells_4 : decode cX6_whiteCells 4 = .ok (.iload_n 2, 1) := by decide +kernel
theorem dX6_whiteCells_5 : decode cX6_whiteCells 5 = .ok (.aload_n 0, 1) := by decide +kernel
theorem dX6_whiteCells_6 : decode cX6_whiteCells 6 = .ok (.getfield 59, 3) := by decide +kernel
theorem dX6_whiteCells_9 : decode cX6_whiteCells 9 = .ok (.if_icmp .ge 41, 3) := by decide +kernel
theorem dX6_whiteCells_12 : decode cX6_whiteCells 12 = .ok (.iload_n 1, 1) := by decide +kernel
theorem dX6_whiteCells_13 : decode cX6_whiteCells 13 = .ok (.aload_n 0, 1) := by decide +kernel
theorem dX6_whiteCells_14 : decode cX6_whiteCells 14 = .ok (.iload_n 2, 1) := by decide +kernel
theorem dX6_whiteCells_15 : decode cX6_whiteCells 15 = .ok (.invokevirtual 110, 3) := by decide +kernel
theorem dX6_whiteCells_18 : decode cX6_whiteCells 18 = .ok (.ifCond .eq 23, 3) := by decide +kernel
theorem dX6_whiteCells_21 : decode cX6_whiteCells 21 = .ok (.aload_n 0, 1) := by decide +kernel
theorem dX6_whiteCells_22 : decode cX6_whiteCells 22 = .ok (.getfield 22, 3) := by decide +kernel
theorem dX6_whiteCells_25 : decode cX6_whiteCells 25 = .ok (.iload_n 2, 1) := by decide +kernel
theorem dX6_whiteCells_26 : decode cX6_whiteCells 26 = .ok (.baload, 1) := by decide +kernel
theorem dX6_whiteCells_27 : decode cX6_whiteCells 27 = .ok (.ifCond .ne 14, 3) := by decide +kernel
theorem dX6_whiteCells_30 : decode cX6_whiteCells 30 = .ok (.aload_n 0, 1) := by decide +kernel
theorem dX6_whiteCells_31 : decode cX6_whiteCells 31 = .ok (.getfield 7, 3) := by decide +kernel
theorem dX6_whiteCells_34 : decode cX6_whiteCells 34 = .ok (.iload_n 2, 1) := by decide +kernel
theorem dX6_whiteCells_35 : decode cX6_whiteCells 35 = .ok (.iaload, 1) := by decide +kernel
theorem dX6_whiteCells_36 : decode cX6_whiteCells 36 = .ok (.iconst 1, 1) := by decide +kernel
theorem dX6_whiteCells_37 : decode cX6_whiteCells 37 = .ok (.iadd, 1) := by decide +kernel
theorem dX6_whiteCells_38 : decode cX6_whiteCells 38 = .ok (.goto 4, 3) := by decide +kernel
theorem dX6_whiteCells_41 : decode cX6_whiteCells 41 = .ok (.iconst 0, 1) := by decide +kernel
theorem dX6_whiteCells_42 : decode cX6_whiteCells 42 = .ok (.iadd, 1) := by decide +kernel
theorem dX6_whiteCells_43 : decode cX6_whiteCells 43 = .ok (.istore_n 1, 1) := by decide +kernel
theorem dX6_whiteCells_44 : decode cX6_whiteCells 44 = .ok (.iinc 2 1, 3) := by decide +kernel
theorem dX6_whiteCells_47 : decode cX6_whiteCells 47 = .ok (.goto (-43), 3) := by decide +kernel
theorem dX6_whiteCells_50 : decode cX6_whiteCells 50 = .ok (.iload_n 1, 1) := by decide +kernel
theorem dX6_whiteCells_51 : decode cX6_whiteCells 51 = .ok (.ireturn, 1) := by decide +kernel
theorem dX6_newColour_0 : decode cX6_newColour 0 = .ok (.aload_n 0, 1) := by decide +kernel
theorem dX6_newColour_1 : decode cX6_newColour 1 = .ok (.getfield 75, 3) := by decide +kernel
theorem dX6_newColour_4 : decode cX6_newColour 4 = .ok (.ifCond .eq 15, 3) := by decide +kernel
theorem dX6_newColour_7 : decode cX6_newColour 7 = .ok (.aload_n 0, 1) := by decide +kernel
theorem dX6_newColour_8 : decode cX6_newColour 8 = .ok (.getfield 97, 3) := by decide +kernel
theorem dX6_newColour_11 : decode cX6_newColour 11 = .ok (.iconst 2, 1) := by decide +kernel
theorem dX6_newColour_12 : decode cX6_newColour 12 = .ok (.if_icmp .eq 7, 3) := by decide +kernel
theorem dX6_newColour_15 : decode cX6_newColour 15 = .ok (.iconst 2, 1) := by decide +kernel
theorem dX6_newColour_16 : decode cX6_newColour 16 = .ok (.goto 4, 3) := by decide +kernel
theorem dX6_newColour_19 : decode cX6_newColour 19 = .ok (.iconst 0, 1) := by decide +kernel
theorem dX6_newColour_20 : decode cX6_newColour 20 = .ok (.ireturn, 1) := by decide +kernel
theorem dX6_newPlace_0 : decode cX6_newPlace 0 = .ok (.aload_n 0, 1) := by decide +kernel
theorem dX6_newPlace_1 : decode cX6_newPlace 1 = .ok (.getfield 94, 3) := by decide +kernel
theorem dX6_newPlace_4 : decode cX6_newPlace 4 = .ok (.iconst 3, 1) := by decide +kernel
theorem dX6_newPlace_5 : decode cX6_newPlace 5 = .ok (.if_icmp .ne 69, 3) := by decide +kernel
theorem dX6_newPlace_8 : decode cX6_newPlace 8 = .ok (.bipush 100, 2) := by decide +kernel
theorem dX6_newPlace_10 : decode cX6_newPlace 10 = .ok (.aload_n 0, 1) := by decide +kernel
theorem dX6_newPlace_11 : decode cX6_newPlace 11 = .ok (.getfield 72, 3) := by decide +kernel
theorem dX6_newPlace_14 : decode cX6_newPlace 14 = .ok (.isub, 1) := by decide +kernel
theorem dX6_newPlace_15 : decode cX6_newPlace 15 = .ok (.iload_n 1, 1) := by decide +kernel
theorem dX6_newPlace_16 : decode cX6_newPlace 16 = .ok (.isub, 1) := by decide +kernel
theorem dX6_newPlace_17 : decode cX6_newPlace 17 = .ok (.istore_n 2, 1) := by decide +kernel
theorem dX6_newPlace_18 : decode cX6_newPlace 18 = .ok (.aload_n 0, 1) := by decide +kernel
theorem dX6_newPlace_19 : decode cX6_newPlace 19 = .ok (.getfield 75, 3) := by decide +kernel
theorem dX6_newPlace_22 : decode cX6_newPlace 22 = .ok (.iconst 1, 1) := by decide +kernel
theorem dX6_newPlace_23 : decode cX6_newPlace 23 = .ok (.if_icmp .ne 23, 3) := by decide +kernel
theorem dX6_newPlace_26 : decode cX6_newPlace 26 = .ok (.aload_n 0, 1) := by decide +kernel
theorem dX6_newPlace_27 : decode cX6_newPlace 27 = .ok (.invokevirtual 142, 3) := by decide +kernel
theorem dX6_newPlace_30 : decode cX6_newPlace 30 = .ok (.aload_n 0, 1) := by decide +kernel
theorem dX6_newPlace_31 : decode cX6_newPlace 31 = .ok (.invokevirtual 145, 3) := by decide +kernel
theorem dX6_newPlace_34 : decode cX6_newPlace 34 = .ok (.ifCond .ne 7, 3) := by decide +kernel
theorem dX6_newPlace_37 : decode cX6_newPlace 37 = .ok (.iload_n 1, 1) := by decide +kernel
theorem dX6_newPlace_38 : decode cX6_newPlace 38 = .ok (.goto 4, 3) := by decide +kernel
theorem dX6_newPlace_41 : decode cX6_newPlace 41 = .ok (.iconst 0, 1) := by decide +kernel
theorem dX6_newPlace_42 : decode cX6_newPlace 42 = .ok (.iadd, 1) := by decide +kernel
theorem dX6_newPlace_43 : decode cX6_newPlace 43 = .ok (.goto 4, 3) := by decide +kernel
theorem dX6_newPlace_46 : decode cX6_newPlace 46 = .ok (.iconst 0, 1) := by decide +kernel
theorem dX6_newPlace_47 : decode cX6_newPlace 47 = .ok (.istore_n 3, 1) := by decide +kernel
theorem dX6_newPlace_48 : decode cX6_newPlace 48 = .ok (.iload_n 2, 1) := by decide +kernel
theorem dX6_newPlace_49 : decode cX6_newPlace 49 = .ok (.ifCond .lt 8, 3) := by decide +kernel
theorem dX6_newPlace_52 : decode cX6_newPlace 52 = .ok (.iload_n 2, 1) := by decide +kernel
theorem dX6_newPlace_53 : decode cX6_newPlace 53 = .ok (.iload_n 3, 1) := by decide +kernel
theorem dX6_newPlace_54 : decode cX6_newPlace 54 = .ok (.if_icmp .ge 7, 3) := by decide +kernel
theorem dX6_newPlace_57 : decode cX6_newPlace 57 = .ok (.iconst (-1), 1) := by decide +kernel
theorem dX6_newPlace_58 : decode cX6_newPlace 58 = .ok (.goto 15, 3) := by decide +kernel
theorem dX6_newPlace_61 : decode cX6_newPlace 61 = .ok (.bipush 100, 2) := by decide +kernel
theorem dX6_newPlace_63 : decode cX6_newPlace 63 = .ok (.aload_n 0, 1) := by decide +kernel
theorem dX6_newPlace_64 : decode cX6_newPlace 64 = .ok (.getfield 69, 3) := by decide +kernel
theorem dX6_newPlace_67 : decode cX6_newPlace 67 = .ok (.imul, 1) := by decide +kernel
theorem dX6_newPlace_68 : decode cX6_newPlace 68 = .ok (.aload_n 0, 1) := by decide +kernel
theorem dX6_newPlace_69 : decode cX6_newPlace 69 = .ok (.getfield 72, 3) := by decide +kernel
theorem dX6_newPlace_72 : decode cX6_newPlace 72 = .ok (.iadd, 1) := by decide +kernel
theorem dX6_newPlace_73 : decode cX6_newPlace 73 = .ok (.ireturn, 1) := by decide +kernel
theorem dX6_newPlace_74 : decode cX6_newPlace 74 = .ok (.iconst 0, 1) := by decide +kernel
theorem dX6_newPlace_75 : decode cX6_newPlace 75 = .ok (.istore_n 2, 1) := by decide +kernel
theorem dX6_newPlace_76 : decode cX6_newPlace 76 = .ok (.iload_n 2, 1) := by decide +kernel
theorem dX6_newPlace_77 : decode cX6_newPlace 77 = .ok (.iload_n 1, 1) := by decide +kernel
theorem dX6_newPlace_78 : decode cX6_newPlace 78 = .ok (.iadd, 1) := by decide +kernel
theorem dX6_newPlace_79 : decode cX6_newPlace 79 = .ok (.sipush 200, 3) := by decide +kernel
theorem dX6_newPlace_82 : decode cX6_newPlace 82 = .ok (.if_icmp .gt 20, 3) := by decide +kernel
theorem dX6_newPlace_85 : decode cX6_newPlace 85 = .ok (.aload_n 0, 1) := by decide +kernel
theorem dX6_newPlace_86 : decode cX6_newPlace 86 = .ok (.iload_n 2, 1) := by decide +kernel
theorem dX6_newPlace_87 : decode cX6_newPlace 87 = .ok (.iload_n 1, 1) := by decide +kernel
theorem dX6_newPlace_88 : decode cX6_newPlace 88 = .ok (.invokevirtual 148, 3) := by decide +kernel
theorem dX6_newPlace_91 : decode cX6_newPlace 91 = .ok (.ifCond .eq 5, 3) := by decide +kernel
theorem dX6_newPlace_94 : decode cX6_newPlace 94 = .ok (.iload_n 2, 1) := by decide +kernel
theorem dX6_newPlace_95 : decode cX6_newPlace 95 = .ok (.ireturn, 1) := by decide +kernel
theorem dX6_newPlace_96 : decode cX6_newPlace 96 = .ok (.iinc 2 1, 3) := by decide +kernel
theorem dX6_newPlace_99 : decode cX6_newPlace 99 = .ok (.goto (-23), 3) := by decide +kernel
theorem dX6_newPlace_102 : decode cX6_newPlace 102 = .ok (.iconst (-1), 1) := by decide +kernel
theorem dX6_newPlace_103 : decode cX6_newPlace 103 = .ok (.ireturn, 1) := by decide +kernel
theorem dX6_make_0 : decode cX6_make 0 = .ok (.iload_n 1, 1) := by decide +kernel
theorem dX6_make_1 : decode cX6_make 1 = .ok (.iload_n 2, 1) := by decide +kernel
theorem dX6_make_2 : decode cX6_make 2 = .ok (.invokestatic 152, 3) := by decide +kernel
theorem dX6_make_5 : decode cX6_make 5 = .ok (.ifCond .eq 13, 3) := by decide +kernel
theorem dX6_make_8 : decode cX6_make 8 = .ok (.iload_n 3, 1) := by decide +kernel
theorem dX6_make_9 : decode cX6_make 9 = .ok (.iconst 0, 1) := by decide +kernel
theorem dX6_make_10 : decode cX6_make 10 = .ok (.bipush 6, 2) := by decide +kernel
theorem dX6_make_12 : decode cX6_make 12 = .ok (.invokestatic 90, 3) := by decide +kernel
theorem dX6_make_15 : decode cX6_make 15 = .ok (.ifCond .ne 6, 3) := by decide +kernel
theorem dX6_make_18 : decode cX6_make 18 = .ok (.bipush (-2), 2) := by decide +kernel
theorem dX6_make_20 : decode cX6_make 20 = .ok (.ireturn, 1) := by decide +kernel
theorem dX6_make_21 : decode cX6_make 21 = .ok (.aload_n 0, 1) := by decide +kernel
theorem dX6_make_22 : decode cX6_make 22 = .ok (.getfield 59, 3) := by decide +kernel
theorem dX6_make_25 : decode cX6_make 25 = .ok (.bipush 120, 2) := by decide +kernel
theorem dX6_make_27 : decode cX6_make 27 = .ok (.if_icmp .ne 7, 3) := by decide +kernel
theorem dX6_make_30 : decode cX6_make 30 = .ok (.iconst (-1), 1) := by decide +kernel
theorem dX6_make_31 : decode cX6_make 31 = .ok (.goto 10, 3) := by decide +kernel
theorem dX6_make_34 : decode cX6_make 34 = .ok (.aload_n 0, 1) := by decide +kernel
theorem dX6_make_35 : decode cX6_make 35 = .ok (.iload_n 3, 1) := by decide +kernel
theorem dX6_make_36 : decode cX6_make 36 = .ok (.iconst 1, 1) := by decide +kernel
theorem dX6_make_37 : decode cX6_make 37 = .ok (.iadd, 1) := by decide +kernel
theorem dX6_make_38 : decode cX6_make 38 = .ok (.invokevirtual 155, 3) := by decide +kernel
theorem dX6_make_41 : decode cX6_make 41 = .ok (.istore 5, 2) := by decide +kernel
theorem dX6_make_43 : decode cX6_make 43 = .ok (.iload 5, 2) := by decide +kernel
theorem dX6_make_45 : decode cX6_make 45 = .ok (.iconst (-1), 1) := by decide +kernel
theorem dX6_make_46 : decode cX6_make 46 = .ok (.if_icmp .ne 6, 3) := by decide +kernel
theorem dX6_make_49 : decode cX6_make 49 = .ok (.bipush (-4), 2) := by decide +kernel
theorem dX6_make_51 : decode cX6_make 51 = .ok (.ireturn, 1) := by decide +kernel
theorem dX6_make_52 : decode cX6_make 52 = .ok (.aload_n 0, 1) := by decide +kernel
theorem dX6_make_53 : decode cX6_make 53 = .ok (.getfield 59, 3) := by decide +kernel
theorem dX6_make_56 : decode cX6_make 56 = .ok (.istore 6, 2) := by decide +kernel
theorem dX6_make_58 : decode cX6_make 58 = .ok (.aload_n 0, 1) := by decide +kernel
theorem dX6_make_59 : decode cX6_make 59 = .ok (.getfield 7, 3) := by decide +kernel
theorem dX6_make_62 : decode cX6_make 62 = .ok (.iload 6, 2) := by decide +kernel
theorem dX6_make_64 : decode cX6_make 64 = .ok (.iload_n 3, 1) := by decide +kernel
theorem dX6_make_65 : decode cX6_make 65 = .ok (.iastore, 1) := by decide +kernel
theorem dX6_make_66 : decode cX6_make 66 = .ok (.aload_n 0, 1) := by decide +kernel
theorem dX6_make_67 : decode cX6_make 67 = .ok (.getfield 16, 3) := by decide +kernel
theorem dX6_make_70 : decode cX6_make 70 = .ok (.iload 6, 2) := by decide +kernel
theorem dX6_make_72 : decode cX6_make 72 = .ok (.iload 5, 2) := by decide +kernel
theorem dX6_make_74 : decode cX6_make 74 = .ok (.iastore, 1) := by decide +kernel
theorem dX6_make_75 : decode cX6_make 75 = .ok (.aload_n 0, 1) := by decide +kernel
theorem dX6_make_76 : decode cX6_make 76 = .ok (.getfield 19, 3) := by decide +kernel
theorem dX6_make_79 : decode cX6_make 79 = .ok (.iload 6, 2) := by decide +kernel
theorem dX6_make_81 : decode cX6_make 81 = .ok (.aload_n 0, 1) := by decide +kernel
theorem dX6_make_82 : decode cX6_make 82 = .ok (.invokevirtual 145, 3) := by decide +kernel
theorem dX6_make_85 : decode cX6_make 85 = .ok (.iastore, 1) := by decide +kernel
theorem dX6_make_86 : decode cX6_make 86 = .ok (.aload_n 0, 1) := by decide +kernel
theorem dX6_make_87 : decode cX6_make 87 = .ok (.getfield 22, 3) := by decide +kernel
theorem dX6_make_90 : decode cX6_make 90 = .ok (.iload 6, 2) := by decide +kernel
theorem dX6_make_92 : decode cX6_make 92 = .ok (.iconst 0, 1) := by decide +kernel
theorem dX6_make_93 : decode cX6_make 93 = .ok (.bastore, 1) := by decide +kernel
theorem dX6_make_94 : decode cX6_make 94 = .ok (.aload_n 0, 1) := by decide +kernel
theorem dX6_make_95 : decode cX6_make 95 = .ok (.getfield 26, 3) := by decide +kernel
theorem dX6_make_98 : decode cX6_make 98 = .ok (.iload 6, 2) := by decide +kernel
theorem dX6_make_100 : decode cX6_make 100 = .ok (.iload 4, 2) := by decide +kernel
theorem dX6_make_102 : decode cX6_make 102 = .ok (.bastore, 1) := by decide +kernel
theorem dX6_make_103 : decode cX6_make 103 = .ok (.aload_n 0, 1) := by decide +kernel
theorem dX6_make_104 : decode cX6_make 104 = .ok (.getfield 29, 3) := by decide +kernel
theorem dX6_make_107 : decode cX6_make 107 = .ok (.iload 6, 2) := by decide +kernel
theorem dX6_make_109 : decode cX6_make 109 = .ok (.iconst 0, 1) := by decide +kernel
theorem dX6_make_110 : decode cX6_make 110 = .ok (.iastore, 1) := by decide +kernel
theorem dX6_make_111 : decode cX6_make 111 = .ok (.iconst 0, 1) := by decide +kernel
theorem dX6_make_112 : decode cX6_make 112 = .ok (.istore 7, 2) := by decide +kernel
theorem dX6_make_114 : decode cX6_make 114 = .ok (.iload 7, 2) := by decide +kernel
theorem dX6_make_116 : decode cX6_make 116 = .ok (.bipush 6, 2) := by decide +kernel
theorem dX6_make_118 : decode cX6_make 118 = .ok (.if_icmp .ge 23, 3) := by decide +kernel
theorem dX6_make_121 : decode cX6_make 121 = .ok (.aload_n 0, 1) := by decide +kernel
theorem dX6_make_122 : decode cX6_make 122 = .ok (.getfield 13, 3) := by decide +kernel
theorem dX6_make_125 : decode cX6_make 125 = .ok (.bipush 6, 2) := by decide +kernel
theorem dX6_make_127 : decode cX6_make 127 = .ok (.iload 6, 2) := by decide +kernel
theorem dX6_make_129 : decode cX6_make 129 = .ok (.imul, 1) := by decide +kernel
theorem dX6_make_130 : decode cX6_make 130 = .ok (.iload 7, 2) := by decide +kernel
theorem dX6_make_132 : decode cX6_make 132 = .ok (.iadd, 1) := by decide +kernel
theorem dX6_make_133 : decode cX6_make 133 = .ok (.iconst (-1), 1) := by decide +kernel
theorem dX6_make_134 : decode cX6_make 134 = .ok (.iastore, 1) := by decide +kernel
theorem dX6_make_135 : decode cX6_make 135 = .ok (.iinc 7 1, 3) := by decide +kernel
theorem dX6_make_138 : decode cX6_make 138 = .ok (.goto (-24), 3) := by decide +kernel
theorem dX6_make_141 : decode cX6_make 141 = .ok (.aload_n 0, 1) := by decide +kernel
theorem dX6_make_142 : decode cX6_make 142 = .ok (.dup, 1) := by decide +kernel
theorem dX6_make_143 : decode cX6_make 143 = .ok (.getfield 72, 3) := by decide +kernel
theorem dX6_make_146 : decode cX6_make 146 = .ok (.aload_n 0, 1) := by decide +kernel
theorem dX6_make_147 : decode cX6_make 147 = .ok (.getfield 94, 3) := by decide +kernel
theorem dX6_make_150 : decode cX6_make 150 = .ok (.iconst 3, 1) := by decide +kernel
theorem dX6_make_151 : decode cX6_make 151 = .ok (.if_icmp .ne 9, 3) := by decide +kernel
theorem dX6_make_154 : decode cX6_make 154 = .ok (.iload_n 3, 1) := by decide +kernel
theorem dX6_make_155 : decode cX6_make 155 = .ok (.iconst 1, 1) := by decide +kernel
theorem dX6_make_156 : decode cX6_make 156 = .ok (.iadd, 1) := by decide +kernel
theorem dX6_make_157 : decode cX6_make 157 = .ok (.goto 4, 3) := by decide +kernel
theorem dX6_make_160 : decode cX6_make 160 = .ok (.iconst 0, 1) := by decide +kernel
theorem dX6_make_161 : decode cX6_make 161 = .ok (.iadd, 1) := by decide +kernel
theorem dX6_make_162 : decode cX6_make 162 = .ok (.putfield 72, 3) := by decide +kernel
theorem dX6_make_165 : decode cX6_make 165 = .ok (.aload_n 0, 1) := by decide +kernel
theorem dX6_make_166 : decode cX6_make 166 = .ok (.dup, 1) := by decide +kernel
theorem dX6_make_167 : decode cX6_make 167 = .ok (.getfield 59, 3) := by decide +kernel
theorem dX6_make_170 : decode cX6_make 170 = .ok (.iconst 1, 1) := by decide +kernel
theorem dX6_make_171 : decode cX6_make 171 = .ok (.iadd, 1) := by decide +kernel
theorem dX6_make_172 : decode cX6_make 172 = .ok (.putfield 59, 3) := by decide +kernel
theorem dX6_make_175 : decode cX6_make 175 = .ok (.aload_n 0, 1) := by decide +kernel
theorem dX6_make_176 : decode cX6_make 176 = .ok (.iload_n 1, 1) := by decide +kernel
theorem dX6_make_177 : decode cX6_make 177 = .ok (.iload_n 2, 1) := by decide +kernel
theorem dX6_make_178 : decode cX6_make 178 = .ok (.iload 6, 2) := by decide +kernel
theorem dX6_make_180 : decode cX6_make 180 = .ok (.invokevirtual 159, 3) := by decide +kernel
theorem dX6_make_183 : decode cX6_make 183 = .ok (.ireturn, 1) := by decide +kernel
theorem dX6_move_0 : decode cX6_move 0 = .ok (.iload_n 1, 1) := by decide +kernel
theorem dX6_move_1 : decode cX6_move 1 = .ok (.iload_n 2, 1) := by decide +kernel
theorem dX6_move_2 : decode cX6_move 2 = .ok (.invokestatic 152, 3) := by decide +kernel
theorem dX6_move_5 : decode cX6_move 5 = .ok (.ifCond .eq 11, 3) := by decide +kernel
theorem dX6_move_8 : decode cX6_move 8 = .ok (.iload_n 1, 1) := by decide +kernel
theorem dX6_move_9 : decode cX6_move 9 = .ok (.iload_n 3, 1) := by decide +kernel
theorem dX6_move_10 : decode cX6_move 10 = .ok (.invokestatic 152, 3) := by decide +kernel
theorem dX6_move_13 : decode cX6_move 13 = .ok (.ifCond .ne 8, 3) := by decide +kernel
theorem dX6_move_16 : decode cX6_move 16 = .ok (.bipush (-2), 2) := by decide +kernel
theorem dX6_move_18 : decode cX6_move 18 = .ok (.goto 15, 3) := by decide +kernel
theorem dX6_move_21 : decode cX6_move 21 = .ok (.aload_n 0, 1) := by decide +kernel
theorem dX6_move_22 : decode cX6_move 22 = .ok (.iload_n 1, 1) := by decide +kernel
theorem dX6_move_23 : decode cX6_move 23 = .ok (.iload_n 2, 1) := by decide +kernel
theorem dX6_move_24 : decode cX6_move 24 = .ok (.aload_n 0, 1) := by decide +kernel
theorem dX6_move_25 : decode cX6_move 25 = .ok (.iload_n 1, 1) := by decide +kernel
theorem dX6_move_26 : decode cX6_move 26 = .ok (.iload_n 3, 1) := by decide +kernel
theorem dX6_move_27 : decode cX6_move 27 = .ok (.invokevirtual 163, 3) := by decide +kernel
theorem dX6_move_30 : decode cX6_move 30 = .ok (.invokevirtual 159, 3) := by decide +kernel
theorem dX6_move_33 : decode cX6_move 33 = .ok (.ireturn, 1) := by decide +kernel
theorem dX6_against_0 : decode cX6_against 0 = .ok (.aload_n 0, 1) := by decide +kernel
theorem dX6_against_1 : decode cX6_against 1 = .ok (.iload_n 1, 1) := by decide +kernel
theorem dX6_against_2 : decode cX6_against 2 = .ok (.iload_n 2, 1) := by decide +kernel
theorem dX6_against_3 : decode cX6_against 3 = .ok (.invokevirtual 163, 3) := by decide +kernel
theorem dX6_against_6 : decode cX6_against 6 = .ok (.istore 4, 2) := by decide +kernel
theorem dX6_against_8 : decode cX6_against 8 = .ok (.iload 4, 2) := by decide +kernel
theorem dX6_against_10 : decode cX6_against 10 = .ok (.iconst (-1), 1) := by decide +kernel
theorem dX6_against_11 : decode cX6_against 11 = .ok (.if_icmp .eq 20, 3) := by decide +kernel
theorem dX6_against_14 : decode cX6_against 14 = .ok (.iload_n 3, 1) := by decide +kernel
theorem dX6_against_15 : decode cX6_against 15 = .ok (.iconst 0, 1) := by decide +kernel
theorem dX6_against_16 : decode cX6_against 16 = .ok (.aload_n 0, 1) := by decide +kernel
theorem dX6_against_17 : decode cX6_against 17 = .ok (.getfield 7, 3) := by decide +kernel
theorem dX6_against_20 : decode cX6_against 20 = .ok (.iload 4, 2) := by decide +kernel
theorem dX6_against_22 : decode cX6_against 22 = .ok (.iaload, 1) := by decide +kernel
theorem dX6_against_23 : decode cX6_against 23 = .ok (.iconst 1, 1) := by decide +kernel
theorem dX6_against_24 : decode cX6_against 24 = .ok (.isub, 1) := by decide +kernel
theorem dX6_against_25 : decode cX6_against 25 = .ok (.invokestatic 90, 3) := by decide +kernel
theorem dX6_against_28 : decode cX6_against 28 = .ok (.ifCond .ne 8, 3) := by decide +kernel
theorem dX6_against_31 : decode cX6_against 31 = .ok (.bipush (-3), 2) := by decide +kernel
theorem dX6_against_33 : decode cX6_against 33 = .ok (.goto 19, 3) := by decide +kernel
theorem dX6_against_36 : decode cX6_against 36 = .ok (.aload_n 0, 1) := by decide +kernel
theorem dX6_against_37 : decode cX6_against 37 = .ok (.getfield 22, 3) := by decide +kernel
theorem dX6_against_40 : decode cX6_against 40 = .ok (.iload 4, 2) := by decide +kernel
theorem dX6_against_42 : decode cX6_against 42 = .ok (.baload, 1) := by decide +kernel
theorem dX6_against_43 : decode cX6_against 43 = .ok (.ifCond .eq 8, 3) := by decide +kernel
theorem dX6_against_46 : decode cX6_against 46 = .ok (.bipush (-5), 2) := by decide +kernel
theorem dX6_against_48 : decode cX6_against 48 = .ok (.goto 4, 3) := by decide +kernel
theorem dX6_against_51 : decode cX6_against 51 = .ok (.iconst 0, 1) := by decide +kernel
theorem dX6_against_52 : decode cX6_against 52 = .ok (.ireturn, 1) := by decide +kernel
theorem dX6_get_0 : decode cX6_get 0 = .ok (.iload_n 1, 1) := by decide +kernel
theorem dX6_get_1 : decode cX6_get 1 = .ok (.iload_n 2, 1) := by decide +kernel
theorem dX6_get_2 : decode cX6_get 2 = .ok (.invokestatic 152, 3) := by decide +kernel
theorem dX6_get_5 : decode cX6_get 5 = .ok (.ifCond .eq 11, 3) := by decide +kernel
theorem dX6_get_8 : decode cX6_get 8 = .ok (.iload_n 1, 1) := by decide +kernel
theorem dX6_get_9 : decode cX6_get 9 = .ok (.iload_n 3, 1) := by decide +kernel
theorem dX6_get_10 : decode cX6_get 10 = .ok (.invokestatic 152, 3) := by decide +kernel
theorem dX6_get_13 : decode cX6_get 13 = .ok (.ifCond .ne 6, 3) := by decide +kernel
theorem dX6_get_16 : decode cX6_get 16 = .ok (.bipush (-2), 2) := by decide +kernel
theorem dX6_get_18 : decode cX6_get 18 = .ok (.ireturn, 1) := by decide +kernel
theorem dX6_get_19 : decode cX6_get 19 = .ok (.aload_n 0, 1) := by decide +kernel
theorem dX6_get_20 : decode cX6_get 20 = .ok (.iload_n 1, 1) := by decide +kernel
theorem dX6_get_21 : decode cX6_get 21 = .ok (.iload_n 3, 1) := by decide +kernel
theorem dX6_get_22 : decode cX6_get 22 = .ok (.iload 4, 2) := by decide +kernel
theorem dX6_get_24 : decode cX6_get 24 = .ok (.invokevirtual 167, 3) := by decide +kernel
theorem dX6_get_27 : decode cX6_get 27 = .ok (.istore 5, 2) := by decide +kernel
theorem dX6_get_29 : decode cX6_get 29 = .ok (.iload 5, 2) := by decide +kernel
theorem dX6_get_31 : decode cX6_get 31 = .ok (.ifCond .eq 6, 3) := by decide +kernel
theorem dX6_get_34 : decode cX6_get 34 = .ok (.iload 5, 2) := by decide +kernel
theorem dX6_get_36 : decode cX6_get 36 = .ok (.ireturn, 1) := by decide +kernel
theorem dX6_get_37 : decode cX6_get 37 = .ok (.aload_n 0, 1) := by decide +kernel
theorem dX6_get_38 : decode cX6_get 38 = .ok (.getfield 13, 3) := by decide +kernel
theorem dX6_get_41 : decode cX6_get 41 = .ok (.bipush 6, 2) := by decide +kernel
theorem dX6_get_43 : decode cX6_get 43 = .ok (.aload_n 0, 1) := by decide +kernel
theorem dX6_get_44 : decode cX6_get 44 = .ok (.iload_n 1, 1) := by decide +kernel
theorem dX6_get_45 : decode cX6_get 45 = .ok (.iload_n 3, 1) := by decide +kernel
theorem dX6_get_46 : decode cX6_get 46 = .ok (.invokevirtual 163, 3) := by decide +kernel
theorem dX6_get_49 : decode cX6_get 49 = .ok (.imul, 1) := by decide +kernel
theorem dX6_get_50 : decode cX6_get 50 = .ok (.iload 4, 2) := by decide +kernel
theorem dX6_get_52 : decode cX6_get 52 = .ok (.iadd, 1) := by decide +kernel
theorem dX6_get_53 : decode cX6_get 53 = .ok (.iaload, 1) := by decide +kernel
theorem dX6_get_54 : decode cX6_get 54 = .ok (.istore 6, 2) := by decide +kernel
theorem dX6_get_56 : decode cX6_get 56 = .ok (.aload_n 0, 1) := by decide +kernel
theorem dX6_get_57 : decode cX6_get 57 = .ok (.getfield 94, 3) := by decide +kernel
theorem dX6_get_60 : decode cX6_get 60 = .ok (.iconst 3, 1) := by decide +kernel
theorem dX6_get_61 : decode cX6_get 61 = .ok (.if_icmp .ne 16, 3) := by decide +kernel
theorem dX6_get_64 : decode cX6_get 64 = .ok (.aload_n 0, 1) := by decide +kernel
theorem dX6_get_65 : decode cX6_get 65 = .ok (.invokevirtual 170, 3) := by decide +kernel
theorem dX6_get_68 : decode cX6_get 68 = .ok (.ifCond .eq 9, 3) := by decide +kernel
theorem dX6_get_71 : decode cX6_get 71 = .ok (.aload_n 0, 1) := by decide +kernel
theorem dX6_get_72 : decode cX6_get 72 = .ok (.iload 6, 2) := by decide +kernel
theorem dX6_get_74 : decode cX6_get 74 = .ok (.invokevirtual 100, 3) := by decide +kernel
theorem dX6_get_77 : decode cX6_get 77 = .ok (.aload_n 0, 1) := by decide +kernel
theorem dX6_get_78 : decode cX6_get 78 = .ok (.iload_n 1, 1) := by decide +kernel
theorem dX6_get_79 : decode cX6_get 79 = .ok (.iload_n 2, 1) := by decide +kernel
theorem dX6_get_80 : decode cX6_get 80 = .ok (.iload 6, 2) := by decide +kernel
theorem dX6_get_82 : decode cX6_get 82 = .ok (.invokevirtual 159, 3) := by decide +kernel
theorem dX6_get_85 : decode cX6_get 85 = .ok (.ireturn, 1) := by decide +kernel
theorem dX6_put_0 : decode cX6_put 0 = .ok (.iload_n 1, 1) := by decide +kernel
theorem dX6_put_1 : decode cX6_put 1 = .ok (.iload_n 2, 1) := by decide +kernel
theorem dX6_put_2 : decode cX6_put 2 = .ok (.invokestatic 152, 3) := by decide +kernel
theorem dX6_put_5 : decode cX6_put 5 = .ok (.ifCond .eq 12, 3) := by decide +kernel
theorem dX6_put_8 : decode cX6_put 8 = .ok (.iload_n 1, 1) := by decide +kernel
theorem dX6_put_9 : decode cX6_put 9 = .ok (.iload 4, 2) := by decide +kernel
theorem dX6_put_11 : decode cX6_put 11 = .ok (.invokestatic 152, 3) := by decide +kernel
theorem dX6_put_14 : decode cX6_put 14 = .ok (.ifCond .ne 6, 3) := by decide +kernel
theorem dX6_put_17 : decode cX6_put 17 = .ok (.bipush (-2), 2) := by decide +kernel
theorem dX6_put_19 : decode cX6_put 19 = .ok (.ireturn, 1) := by decide +kernel
theorem dX6_put_20 : decode cX6_put 20 = .ok (.aload_n 0, 1) := by decide +kernel
theorem dX6_put_21 : decode cX6_put 21 = .ok (.iload_n 1, 1) := by decide +kernel
theorem dX6_put_22 : decode cX6_put 22 = .ok (.iload_n 2, 1) := by decide +kernel
theorem dX6_put_23 : decode cX6_put 23 = .ok (.iload_n 3, 1) := by decide +kernel
theorem dX6_put_24 : decode cX6_put 24 = .ok (.invokevirtual 167, 3) := by decide +kernel
theorem dX6_put_27 : decode cX6_put 27 = .ok (.istore 5, 2) := by decide +kernel
theorem dX6_put_29 : decode cX6_put 29 = .ok (.iload 5, 2) := by decide +kernel
theorem dX6_put_31 : decode cX6_put 31 = .ok (.ifCond .eq 6, 3) := by decide +kernel
theorem dX6_put_34 : decode cX6_put 34 = .ok (.iload 5, 2) := by decide +kernel
theorem dX6_put_36 : decode cX6_put 36 = .ok (.ireturn, 1) := by decide +kernel
theorem dX6_put_37 : decode cX6_put 37 = .ok (.bipush 6, 2) := by decide +kernel
theorem dX6_put_39 : decode cX6_put 39 = .ok (.aload_n 0, 1) := by decide +kernel
theorem dX6_put_40 : decode cX6_put 40 = .ok (.iload_n 1, 1) := by decide +kernel
theorem dX6_put_41 : decode cX6_put 41 = .ok (.iload_n 2, 1) := by decide +kernel
theorem dX6_put_42 : decode cX6_put 42 = .ok (.invokevirtual 163, 3) := by decide +kernel
theorem dX6_put_45 : decode cX6_put 45 = .ok (.imul, 1) := by decide +kernel
theorem dX6_put_46 : decode cX6_put 46 = .ok (.iload_n 3, 1) := by decide +kernel
theorem dX6_put_47 : decode cX6_put 47 = .ok (.iadd, 1) := by decide +kernel
theorem dX6_put_48 : decode cX6_put 48 = .ok (.istore 6, 2) := by decide +kernel
theorem dX6_put_50 : decode cX6_put 50 = .ok (.aload_n 0, 1) := by decide +kernel
theorem dX6_put_51 : decode cX6_put 51 = .ok (.invokevirtual 170, 3) := by decide +kernel
theorem dX6_put_54 : decode cX6_put 54 = .ok (.ifCond .eq 44, 3) := by decide +kernel
theorem dX6_put_57 : decode cX6_put 57 = .ok (.aload_n 0, 1) := by decide +kernel
theorem dX6_put_58 : decode cX6_put 58 = .ok (.getfield 94, 3) := by decide +kernel
theorem dX6_put_61 : decode cX6_put 61 = .ok (.iconst 1, 1) := by decide +kernel
theorem dX6_put_62 : decode cX6_put 62 = .ok (.if_icmp .ne 17, 3) := by decide +kernel
theorem dX6_put_65 : decode cX6_put 65 = .ok (.aload_n 0, 1) := by decide +kernel
theorem dX6_put_66 : decode cX6_put 66 = .ok (.aload_n 0, 1) := by decide +kernel
theorem dX6_put_67 : decode cX6_put 67 = .ok (.getfield 13, 3) := by decide +kernel
theorem dX6_put_70 : decode cX6_put 70 = .ok (.iload 6, 2) := by decide +kernel
theorem dX6_put_72 : decode cX6_put 72 = .ok (.iaload, 1) := by decide +kernel
theorem dX6_put_73 : decode cX6_put 73 = .ok (.invokevirtual 100, 3) := by decide +kernel
theorem dX6_put_76 : decode cX6_put 76 = .ok (.goto 22, 3) := by decide +kernel
theorem dX6_put_79 : decode cX6_put 79 = .ok (.aload_n 0, 1) := by decide +kernel
theorem dX6_put_80 : decode cX6_put 80 = .ok (.getfield 94, 3) := by decide +kernel
theorem dX6_put_83 : decode cX6_put 83 = .ok (.iconst 2, 1) := by decide +kernel
theorem dX6_put_84 : decode cX6_put 84 = .ok (.if_icmp .ne 14, 3) := by decide +kernel
theorem dX6_put_87 : decode cX6_put 87 = .ok (.aload_n 0, 1) := by decide +kernel
theorem dX6_put_88 : decode cX6_put 88 = .ok (.aload_n 0, 1) := by decide +kernel
theorem dX6_put_89 : decode cX6_put 89 = .ok (.iload_n 1, 1) := by decide +kernel
theorem dX6_put_90 : decode cX6_put 90 = .ok (.iload 4, 2) := by decide +kernel
theorem dX6_put_92 : decode cX6_put 92 = .ok (.invokevirtual 163, 3) := by decide +kernel
theorem dX6_put_95 : decode cX6_put 95 = .ok (.invokevirtual 100, 3) := by decide +kernel
theorem dX6_put_98 : decode cX6_put 98 = .ok (.aload_n 0, 1) := by decide +kernel
theorem dX6_put_99 : decode cX6_put 99 = .ok (.getfield 13, 3) := by decide +kernel
theorem dX6_put_102 : decode cX6_put 102 = .ok (.iload 6, 2) := by decide +kernel
theorem dX6_put_104 : decode cX6_put 104 = .ok (.aload_n 0, 1) := by decide +kernel
theorem dX6_put_105 : decode cX6_put 105 = .ok (.iload_n 1, 1) := by decide +kernel
theorem dX6_put_106 : decode cX6_put 106 = .ok (.iload 4, 2) := by decide +kernel
theorem dX6_put_108 : decode cX6_put 108 = .ok (.invokevirtual 163, 3) := by decide +kernel
theorem dX6_put_111 : decode cX6_put 111 = .ok (.iastore, 1) := by decide +kernel
theorem dX6_put_112 : decode cX6_put 112 = .ok (.iconst 1, 1) := by decide +kernel
theorem dX6_put_113 : decode cX6_put 113 = .ok (.ireturn, 1) := by decide +kernel
theorem dX6_drop_0 : decode cX6_drop 0 = .ok (.iload_n 1, 1) := by decide +kernel
theorem dX6_drop_1 : decode cX6_drop 1 = .ok (.iload_n 2, 1) := by decide +kernel
theorem dX6_drop_2 : decode cX6_drop 2 = .ok (.invokestatic 152, 3) := by decide +kernel
theorem dX6_drop_5 : decode cX6_drop 5 = .ok (.ifCond .ne 6, 3) := by decide +kernel
theorem dX6_drop_8 : decode cX6_drop 8 = .ok (.bipush (-2), 2) := by decide +kernel
theorem dX6_drop_10 : decode cX6_drop 10 = .ok (.ireturn, 1) := by decide +kernel
theorem dX6_drop_11 : decode cX6_drop 11 = .ok (.aload_n 0, 1) := by decide +kernel
theorem dX6_drop_12 : decode cX6_drop 12 = .ok (.iload_n 1, 1) := by decide +kernel
theorem dX6_drop_13 : decode cX6_drop 13 = .ok (.iload_n 2, 1) := by decide +kernel
theorem dX6_drop_14 : decode cX6_drop 14 = .ok (.invokevirtual 163, 3) := by decide +kernel
theorem dX6_drop_17 : decode cX6_drop 17 = .ok (.istore_n 3, 1) := by decide +kernel
theorem dX6_drop_18 : decode cX6_drop 18 = .ok (.aload_n 0, 1) := by decide +kernel
theorem dX6_drop_19 : decode cX6_drop 19 = .ok (.iload_n 1, 1) := by decide +kernel
theorem dX6_drop_20 : decode cX6_drop 20 = .ok (.iload_n 2, 1) := by decide +kernel
theorem dX6_drop_21 : decode cX6_drop 21 = .ok (.iconst (-1), 1) := by decide +kernel
theorem dX6_drop_22 : decode cX6_drop 22 = .ok (.invokevirtual 159, 3) := by decide +kernel
theorem dX6_drop_25 : decode cX6_drop 25 = .ok (.pop, 1) := by decide +kernel
theorem dX6_drop_26 : decode cX6_drop 26 = .ok (.iload_n 3, 1) := by decide +kernel
theorem dX6_drop_27 : decode cX6_drop 27 = .ok (.ireturn, 1) := by decide +kernel
theorem dX6_store_0 : decode cX6_store 0 = .ok (.iload_n 1, 1) := by decide +kernel
theorem dX6_store_1 : decode cX6_store 1 = .ok (.iconst 0, 1) := by decide +kernel
theorem dX6_store_2 : decode cX6_store 2 = .ok (.iconst 3, 1) := by decide +kernel
theorem dX6_store_3 : decode cX6_store 3 = .ok (.invokestatic 90, 3) := by decide +kernel
theorem dX6_store_6 : decode cX6_store 6 = .ok (.ifCond .eq 11, 3) := by decide +kernel
theorem dX6_store_9 : decode cX6_store 9 = .ok (.iload_n 2, 1) := by decide +kernel
theorem dX6_store_10 : decode cX6_store 10 = .ok (.iload_n 3, 1) := by decide +kernel
theorem dX6_store_11 : decode cX6_store 11 = .ok (.invokestatic 152, 3) := by decide +kernel
theorem dX6_store_14 : decode cX6_store 14 = .ok (.ifCond .ne 6, 3) := by decide +kernel
theorem dX6_store_17 : decode cX6_store 17 = .ok (.bipush (-2), 2) := by decide +kernel
theorem dX6_store_19 : decode cX6_store 19 = .ok (.ireturn, 1) := by decide +kernel
theorem dX6_store_20 : decode cX6_store 20 = .ok (.aload_n 0, 1) := by decide +kernel
theorem dX6_store_21 : decode cX6_store 21 = .ok (.getfield 35, 3) := by decide +kernel
theorem dX6_store_24 : decode cX6_store 24 = .ok (.iload_n 1, 1) := by decide +kernel
theorem dX6_store_25 : decode cX6_store 25 = .ok (.iaload, 1) := by decide +kernel
theorem dX6_store_26 : decode cX6_store 26 = .ok (.istore 4, 2) := by decide +kernel
theorem dX6_store_28 : decode cX6_store 28 = .ok (.aload_n 0, 1) := by decide +kernel
theorem dX6_store_29 : decode cX6_store 29 = .ok (.getfield 35, 3) := by decide +kernel
theorem dX6_store_32 : decode cX6_store 32 = .ok (.iload_n 1, 1) := by decide +kernel
theorem dX6_store_33 : decode cX6_store 33 = .ok (.aload_n 0, 1) := by decide +kernel
theorem dX6_store_34 : decode cX6_store 34 = .ok (.iload_n 2, 1) := by decide +kernel
theorem dX6_store_35 : decode cX6_store 35 = .ok (.iload_n 3, 1) := by decide +kernel
theorem dX6_store_36 : decode cX6_store 36 = .ok (.invokevirtual 163, 3) := by decide +kernel
theorem dX6_store_39 : decode cX6_store 39 = .ok (.iastore, 1) := by decide +kernel
theorem dX6_store_40 : decode cX6_store 40 = .ok (.iload 4, 2) := by decide +kernel
theorem dX6_store_42 : decode cX6_store 42 = .ok (.ireturn, 1) := by decide +kernel
theorem dX6_load_0 : decode cX6_load 0 = .ok (.iload_n 3, 1) := by decide +kernel
theorem dX6_load_1 : decode cX6_load 1 = .ok (.iconst 0, 1) := by decide +kernel
theorem dX6_load_2 : decode cX6_load 2 = .ok (.iconst 3, 1) := by decide +kernel
theorem dX6_load_3 : decode cX6_load 3 = .ok (.invokestatic 90, 3) := by decide +kernel
theorem dX6_load_6 : decode cX6_load 6 = .ok (.ifCond .eq 11, 3) := by decide +kernel
theorem dX6_load_9 : decode cX6_load 9 = .ok (.iload_n 1, 1) := by decide +kernel
theorem dX6_load_10 : decode cX6_load 10 = .ok (.iload_n 2, 1) := by decide +kernel
theorem dX6_load_11 : decode cX6_load 11 = .ok (.invokestatic 152, 3) := by decide +kernel
theorem dX6_load_14 : decode cX6_load 14 = .ok (.ifCond .ne 8, 3) := by decide +kernel
theorem dX6_load_17 : decode cX6_load 17 = .ok (.bipush (-2), 2) := by decide +kernel
theorem dX6_load_19 : decode cX6_load 19 = .ok (.goto 15, 3) := by decide +kernel
theorem dX6_load_22 : decode cX6_load 22 = .ok (.aload_n 0, 1) := by decide +kernel
theorem dX6_load_23 : decode cX6_load 23 = .ok (.iload_n 1, 1) := by decide +kernel
theorem dX6_load_24 : decode cX6_load 24 = .ok (.iload_n 2, 1) := by decide +kernel
theorem dX6_load_25 : decode cX6_load 25 = .ok (.aload_n 0, 1) := by decide +kernel
theorem dX6_load_26 : decode cX6_load 26 = .ok (.getfield 35, 3) := by decide +kernel
theorem dX6_load_29 : decode cX6_load 29 = .ok (.iload_n 3, 1) := by decide +kernel
theorem dX6_load_30 : decode cX6_load 30 = .ok (.iaload, 1) := by decide +kernel
theorem dX6_load_31 : decode cX6_load 31 = .ok (.invokevirtual 159, 3) := by decide +kernel
theorem dX6_load_34 : decode cX6_load 34 = .ok (.ireturn, 1) := by decide +kernel
theorem dX6_same_0 : decode cX6_same 0 = .ok (.iload_n 1, 1) := by decide +kernel
theorem dX6_same_1 : decode cX6_same 1 = .ok (.iload_n 2, 1) := by decide +kernel
theorem dX6_same_2 : decode cX6_same 2 = .ok (.invokestatic 152, 3) := by decide +kernel
theorem dX6_same_5 : decode cX6_same 5 = .ok (.ifCond .eq 12, 3) := by decide +kernel
theorem dX6_same_8 : decode cX6_same 8 = .ok (.iload_n 3, 1) := by decide +kernel
theorem dX6_same_9 : decode cX6_same 9 = .ok (.iload 4, 2) := by decide +kernel
theorem dX6_same_11 : decode cX6_same 11 = .ok (.invokestatic 152, 3) := by decide +kernel
theorem dX6_same_14 : decode cX6_same 14 = .ok (.ifCond .ne 8, 3) := by decide +kernel
theorem dX6_same_17 : decode cX6_same 17 = .ok (.bipush (-2), 2) := by decide +kernel
theorem dX6_same_19 : decode cX6_same 19 = .ok (.goto 24, 3) := by decide +kernel
theorem dX6_same_22 : decode cX6_same 22 = .ok (.aload_n 0, 1) := by decide +kernel
theorem dX6_same_23 : decode cX6_same 23 = .ok (.iload_n 1, 1) := by decide +kernel
theorem dX6_same_24 : decode cX6_same 24 = .ok (.iload_n 2, 1) := by decide +kernel
theorem dX6_same_25 : decode cX6_same 25 = .ok (.invokevirtual 163, 3) := by decide +kernel
theorem dX6_same_28 : decode cX6_same 28 = .ok (.aload_n 0, 1) := by decide +kernel
theorem dX6_same_29 : decode cX6_same 29 = .ok (.iload_n 3, 1) := by decide +kernel
theorem dX6_same_30 : decode cX6_same 30 = .ok (.iload 4, 2) := by decide +kernel
theorem dX6_same_32 : decode cX6_same 32 = .ok (.invokevirtual 163, 3) := by decide +kernel
theorem dX6_same_35 : decode cX6_same 35 = .ok (.if_icmp .ne 7, 3) := by decide +kernel
theorem dX6_same_38 : decode cX6_same 38 = .ok (.iconst 1, 1) := by decide +kernel
theorem dX6_same_39 : decode cX6_same 39 = .ok (.goto 4, 3) := by decide +kernel
theorem dX6_same_42 : decode cX6_same 42 = .ok (.iconst 0, 1) := by decide +kernel
theorem dX6_same_43 : decode cX6_same 43 = .ok (.ireturn, 1) := by decide +kernel
theorem dX6_weak_0 : decode cX6_weak 0 = .ok (.iload_n 1, 1) := by decide +kernel
theorem dX6_weak_1 : decode cX6_weak 1 = .ok (.iconst 0, 1) := by decide +kernel
theorem dX6_weak_2 : decode cX6_weak 2 = .ok (.iconst 5, 1) := by decide +kernel
theorem dX6_weak_3 : decode cX6_weak 3 = .ok (.invokestatic 90, 3) := by decide +kernel
theorem dX6_weak_6 : decode cX6_weak 6 = .ok (.ifCond .eq 11, 3) := by decide +kernel
theorem dX6_weak_9 : decode cX6_weak 9 = .ok (.iload_n 2, 1) := by decide +kernel
theorem dX6_weak_10 : decode cX6_weak 10 = .ok (.iload_n 3, 1) := by decide +kernel
theorem dX6_weak_11 : decode cX6_weak 11 = .ok (.invokestatic 152, 3) := by decide +kernel
theorem dX6_weak_14 : decode cX6_weak 14 = .ok (.ifCond .ne 6, 3) := by decide +kernel
theorem dX6_weak_17 : decode cX6_weak 17 = .ok (.bipush (-2), 2) := by decide +kernel
theorem dX6_weak_19 : decode cX6_weak 19 = .ok (.ireturn, 1) := by decide +kernel
theorem dX6_weak_20 : decode cX6_weak 20 = .ok (.aload_n 0, 1) := by decide +kernel
theorem dX6_weak_21 : decode cX6_weak 21 = .ok (.iload_n 2, 1) := by decide +kernel
theorem dX6_weak_22 : decode cX6_weak 22 = .ok (.iload_n 3, 1) := by decide +kernel
theorem dX6_weak_23 : decode cX6_weak 23 = .ok (.invokevirtual 163, 3) := by decide +kernel
theorem dX6_weak_26 : decode cX6_weak 26 = .ok (.iconst (-1), 1) := by decide +kernel
theorem dX6_weak_27 : decode cX6_weak 27 = .ok (.if_icmp .ne 6, 3) := by decide +kernel
theorem dX6_weak_30 : decode cX6_weak 30 = .ok (.bipush (-3), 2) := by decide +kernel
theorem dX6_weak_32 : decode cX6_weak 32 = .ok (.ireturn, 1) := by decide +kernel
theorem dX6_weak_33 : decode cX6_weak 33 = .ok (.aload_n 0, 1) := by decide +kernel
theorem dX6_weak_34 : decode cX6_weak 34 = .ok (.getfield 41, 3) := by decide +kernel
theorem dX6_weak_37 : decode cX6_weak 37 = .ok (.iload_n 1, 1) := by decide +kernel
theorem dX6_weak_38 : decode cX6_weak 38 = .ok (.aload_n 0, 1) := by decide +kernel
theorem dX6_weak_39 : decode cX6_weak 39 = .ok (.iload_n 2, 1) := by decide +kernel
theorem dX6_weak_40 : decode cX6_weak 40 = .ok (.iload_n 3, 1) := by decide +kernel
theorem dX6_weak_41 : decode cX6_weak 41 = .ok (.invokevirtual 163, 3) := by decide +kernel
theorem dX6_weak_44 : decode cX6_weak 44 = .ok (.iastore, 1) := by decide +kernel
theorem dX6_weak_45 : decode cX6_weak 45 = .ok (.iconst 1, 1) := by decide +kernel
theorem dX6_weak_46 : decode cX6_weak 46 = .ok (.ireturn, 1) := by decide +kernel
theorem dX6_notesRead_0 : decode cX6_notesRead 0 = .ok (.aload_n 0, 1) := by decide +kernel
theorem dX6_notesRead_1 : decode cX6_notesRead 1 = .ok (.getfield 94, 3) := by decide +kernel
theorem dX6_notesRead_4 : decode cX6_notesRead 4 = .ok (.iconst 1, 1) := by decide +kernel
theorem dX6_notesRead_5 : decode cX6_notesRead 5 = .ok (.if_icmp .eq 11, 3) := by decide +kernel
theorem dX6_notesRead_8 : decode cX6_notesRead 8 = .ok (.aload_n 0, 1) := by decide +kernel
theorem dX6_notesRead_9 : decode cX6_notesRead 9 = .ok (.getfield 94, 3) := by decide +kernel
theorem dX6_notesRead_12 : decode cX6_notesRead 12 = .ok (.iconst 3, 1) := by decide +kernel
theorem dX6_notesRead_13 : decode cX6_notesRead 13 = .ok (.if_icmp .ne 15, 3) := by decide +kernel
theorem dX6_notesRead_16 : decode cX6_notesRead 16 = .ok (.aload_n 0, 1) := by decide +kernel
theorem dX6_notesRead_17 : decode cX6_notesRead 17 = .ok (.invokevirtual 170, 3) := by decide +kernel
theorem dX6_notesRead_20 : decode cX6_notesRead 20 = .ok (.ifCond .eq 8, 3) := by decide +kernel
theorem dX6_notesRead_23 : decode cX6_notesRead 23 = .ok (.aload_n 0, 1) := by decide +kernel
theorem dX6_notesRead_24 : decode cX6_notesRead 24 = .ok (.iload_n 1, 1) := by decide +kernel
theorem dX6_notesRead_25 : decode cX6_notesRead 25 = .ok (.invokevirtual 100, 3) := by decide +kernel
theorem dX6_notesRead_28 : decode cX6_notesRead 28 = .ok (.return_, 1) := by decide +kernel
theorem dX6_strong_0 : decode cX6_strong 0 = .ok (.iload_n 3, 1) := by decide +kernel
theorem dX6_strong_1 : decode cX6_strong 1 = .ok (.iconst 0, 1) := by decide +kernel
theorem dX6_strong_2 : decode cX6_strong 2 = .ok (.iconst 5, 1) := by decide +kernel
theorem dX6_strong_3 : decode cX6_strong 3 = .ok (.invokestatic 90, 3) := by decide +kernel
theorem dX6_strong_6 : decode cX6_strong 6 = .ok (.ifCond .eq 11, 3) := by decide +kernel
theorem dX6_strong_9 : decode cX6_strong 9 = .ok (.iload_n 1, 1) := by decide +kernel
theorem dX6_strong_10 : decode cX6_strong 10 = .ok (.iload_n 2, 1) := by decide +kernel
theorem dX6_strong_11 : decode cX6_strong 11 = .ok (.invokestatic 152, 3) := by decide +kernel
theorem dX6_strong_14 : decode cX6_strong 14 = .ok (.ifCond .ne 6, 3) := by decide +kernel
theorem dX6_strong_17 : decode cX6_strong 17 = .ok (.bipush (-2), 2) := by decide +kernel
theorem dX6_strong_19 : decode cX6_strong 19 = .ok (.ireturn, 1) := by decide +kernel
theorem dX6_strong_20 : decode cX6_strong 20 = .ok (.aload_n 0, 1) := by decide +kernel
theorem dX6_strong_21 : decode cX6_strong 21 = .ok (.aload_n 0, 1) := by decide +kernel
theorem dX6_strong_22 : decode cX6_strong 22 = .ok (.getfield 41, 3) := by decide +kernel
theorem dX6_strong_25 : decode cX6_strong 25 = .ok (.iload_n 3, 1) := by decide +kernel
theorem dX6_strong_26 : decode cX6_strong 26 = .ok (.iaload, 1) := by decide +kernel
theorem dX6_strong_27 : decode cX6_strong 27 = .ok (.invokevirtual 173, 3) := by decide +kernel
theorem dX6_strong_30 : decode cX6_strong 30 = .ok (.aload_n 0, 1) := by decide +kernel
theorem dX6_strong_31 : decode cX6_strong 31 = .ok (.iload_n 1, 1) := by decide +kernel
theorem dX6_strong_32 : decode cX6_strong 32 = .ok (.iload_n 2, 1) := by decide +kernel
theorem dX6_strong_33 : decode cX6_strong 33 = .ok (.aload_n 0, 1) := by decide +kernel
theorem dX6_strong_34 : decode cX6_strong 34 = .ok (.getfield 41, 3) := by decide +kernel
theorem dX6_strong_37 : decode cX6_strong 37 = .ok (.iload_n 3, 1) := by decide +kernel
theorem dX6_strong_38 : decode cX6_strong 38 = .ok (.iaload, 1) := by decide +kernel
theorem dX6_strong_39 : decode cX6_strong 39 = .ok (.invokevirtual 159, 3) := by decide +kernel
theorem dX6_strong_42 : decode cX6_strong 42 = .ok (.ireturn, 1) := by decide +kernel
theorem dX6_pair_0 : decode cX6_pair 0 = .ok (.iload_n 1, 1) := by decide +kernel
theorem dX6_pair_1 : decode cX6_pair 1 = .ok (.iload_n 2, 1) := by decide +kernel
theorem dX6_pair_2 : decode cX6_pair 2 = .ok (.invokestatic 152, 3) := by decide +kernel
theorem dX6_pair_5 : decode cX6_pair 5 = .ok (.ifCond .eq 11, 3) := by decide +kernel
theorem dX6_pair_8 : decode cX6_pair 8 = .ok (.iload_n 1, 1) := by decide +kernel
theorem dX6_pair_9 : decode cX6_pair 9 = .ok (.iload_n 3, 1) := by decide +kernel
theorem dX6_pair_10 : decode cX6_pair 10 = .ok (.invokestatic 152, 3) := by decide +kernel
theorem dX6_pair_13 : decode cX6_pair 13 = .ok (.ifCond .ne 6, 3) := by decide +kernel
theorem dX6_pair_16 : decode cX6_pair 16 = .ok (.bipush (-2), 2) := by decide +kernel
theorem dX6_pair_18 : decode cX6_pair 18 = .ok (.ireturn, 1) := by decide +kernel
theorem dX6_pair_19 : decode cX6_pair 19 = .ok (.aload_n 0, 1) := by decide +kernel
theorem dX6_pair_20 : decode cX6_pair 20 = .ok (.iload_n 1, 1) := by decide +kernel
theorem dX6_pair_21 : decode cX6_pair 21 = .ok (.iload_n 2, 1) := by decide +kernel
theorem dX6_pair_22 : decode cX6_pair 22 = .ok (.invokevirtual 163, 3) := by decide +kernel
theorem dX6_pair_25 : decode cX6_pair 25 = .ok (.iconst (-1), 1) := by decide +kernel
theorem dX6_pair_26 : decode cX6_pair 26 = .ok (.if_icmp .eq 13, 3) := by decide +kernel
theorem dX6_pair_29 : decode cX6_pair 29 = .ok (.aload_n 0, 1) := by decide +kernel
theorem dX6_pair_30 : decode cX6_pair 30 = .ok (.iload_n 1, 1) := by decide +kernel
theorem dX6_pair_31 : decode cX6_pair 31 = .ok (.iload_n 3, 1) := by decide +kernel
theorem dX6_pair_32 : decode cX6_pair 32 = .ok (.invokevirtual 163, 3) := by decide +kernel
theorem dX6_pair_35 : decode cX6_pair 35 = .ok (.iconst (-1), 1) := by decide +kernel
theorem dX6_pair_36 : decode cX6_pair 36 = .ok (.if_icmp .ne 6, 3) := by decide +kernel
theorem dX6_pair_39 : decode cX6_pair 39 = .ok (.bipush (-3), 2) := by decide +kernel
theorem dX6_pair_41 : decode cX6_pair 41 = .ok (.ireturn, 1) := by decide +kernel
theorem dX6_pair_42 : decode cX6_pair 42 = .ok (.aload_n 0, 1) := by decide +kernel
theorem dX6_pair_43 : decode cX6_pair 43 = .ok (.getfield 66, 3) := by decide +kernel
theorem dX6_pair_46 : decode cX6_pair 46 = .ok (.bipush 8, 2) := by decide +kernel
theorem dX6_pair_48 : decode cX6_pair 48 = .ok (.if_icmp .ne 6, 3) := by decide +kernel
theorem dX6_pair_51 : decode cX6_pair 51 = .ok (.bipush (-4), 2) := by decide +kernel
theorem dX6_pair_53 : decode cX6_pair 53 = .ok (.ireturn, 1) := by decide +kernel
theorem dX6_pair_54 : decode cX6_pair 54 = .ok (.aload_n 0, 1) := by decide +kernel
theorem dX6_pair_55 : decode cX6_pair 55 = .ok (.getfield 44, 3) := by decide +kernel
theorem dX6_pair_58 : decode cX6_pair 58 = .ok (.aload_n 0, 1) := by decide +kernel
theorem dX6_pair_59 : decode cX6_pair 59 = .ok (.getfield 66, 3) := by decide +kernel
theorem dX6_pair_62 : decode cX6_pair 62 = .ok (.aload_n 0, 1) := by decide +kernel
theorem dX6_pair_63 : decode cX6_pair 63 = .ok (.iload_n 1, 1) := by decide +kernel
theorem dX6_pair_64 : decode cX6_pair 64 = .ok (.iload_n 2, 1) := by decide +kernel
theorem dX6_pair_65 : decode cX6_pair 65 = .ok (.invokevirtual 163, 3) := by decide +kernel
theorem dX6_pair_68 : decode cX6_pair 68 = .ok (.iastore, 1) := by decide +kernel
theorem dX6_pair_69 : decode cX6_pair 69 = .ok (.aload_n 0, 1) := by decide +kernel
theorem dX6_pair_70 : decode cX6_pair 70 = .ok (.getfield 47, 3) := by decide +kernel
theorem dX6_pair_73 : decode cX6_pair 73 = .ok (.aload_n 0, 1) := by decide +kernel
theorem dX6_pair_74 : decode cX6_pair 74 = .ok (.getfield 66, 3) := by decide +kernel
theorem dX6_pair_77 : decode cX6_pair 77 = .ok (.aload_n 0, 1) := by decide +kernel
theorem dX6_pair_78 : decode cX6_pair 78 = .ok (.iload_n 1, 1) := by decide +kernel
theorem dX6_pair_79 : decode cX6_pair 79 = .ok (.iload_n 3, 1) := by decide +kernel
theorem dX6_pair_80 : decode cX6_pair 80 = .ok (.invokevirtual 163, 3) := by decide +kernel
theorem dX6_pair_83 : decode cX6_pair 83 = .ok (.iastore, 1) := by decide +kernel
theorem dX6_pair_84 : decode cX6_pair 84 = .ok (.aload_n 0, 1) := by decide +kernel
theorem dX6_pair_85 : decode cX6_pair 85 = .ok (.getfield 50, 3) := by decide +kernel
theorem dX6_pair_88 : decode cX6_pair 88 = .ok (.aload_n 0, 1) := by decide +kernel
theorem dX6_pair_89 : decode cX6_pair 89 = .ok (.getfield 66, 3) := by decide +kernel
theorem dX6_pair_92 : decode cX6_pair 92 = .ok (.iconst 1, 1) := by decide +kernel
theorem dX6_pair_93 : decode cX6_pair 93 = .ok (.bastore, 1) := by decide +kernel
theorem dX6_pair_94 : decode cX6_pair 94 = .ok (.aload_n 0, 1) := by decide +kernel
theorem dX6_pair_95 : decode cX6_pair 95 = .ok (.dup, 1) := by decide +kernel
theorem dX6_pair_96 : decode cX6_pair 96 = .ok (.getfield 66, 3) := by decide +kernel
theorem dX6_pair_99 : decode cX6_pair 99 = .ok (.iconst 1, 1) := by decide +kernel
theorem dX6_pair_100 : decode cX6_pair 100 = .ok (.iadd, 1) := by decide +kernel
theorem dX6_pair_101 : decode cX6_pair 101 = .ok (.putfield 66, 3) := by decide +kernel
theorem dX6_pair_104 : decode cX6_pair 104 = .ok (.aload_n 0, 1) := by decide +kernel
theorem dX6_pair_105 : decode cX6_pair 105 = .ok (.getfield 66, 3) := by decide +kernel
theorem dX6_pair_108 : decode cX6_pair 108 = .ok (.iconst 1, 1) := by decide +kernel
theorem dX6_pair_109 : decode cX6_pair 109 = .ok (.isub, 1) := by decide +kernel
theorem dX6_pair_110 : decode cX6_pair 110 = .ok (.ireturn, 1) := by decide +kernel
theorem dX6_value_0 : decode cX6_value 0 = .ok (.iload_n 1, 1) := by decide +kernel
theorem dX6_value_1 : decode cX6_value 1 = .ok (.iload_n 2, 1) := by decide +kernel
theorem dX6_value_2 : decode cX6_value 2 = .ok (.invokestatic 152, 3) := by decide +kernel
theorem dX6_value_5 : decode cX6_value 5 = .ok (.ifCond .eq 17, 3) := by decide +kernel
theorem dX6_value_8 : decode cX6_value 8 = .ok (.iload_n 3, 1) := by decide +kernel
theorem dX6_value_9 : decode cX6_value 9 = .ok (.iconst 0, 1) := by decide +kernel
theorem dX6_value_10 : decode cX6_value 10 = .ok (.aload_n 0, 1) := by decide +kernel
theorem dX6_value_11 : decode cX6_value 11 = .ok (.getfield 66, 3) := by decide +kernel
theorem dX6_value_14 : decode cX6_value 14 = .ok (.iconst 1, 1) := by decide +kernel
theorem dX6_value_15 : decode cX6_value 15 = .ok (.isub, 1) := by decide +kernel
theorem dX6_value_16 : decode cX6_value 16 = .ok (.invokestatic 90, 3) := by decide +kernel
theorem dX6_value_19 : decode cX6_value 19 = .ok (.ifCond .ne 6, 3) := by decide +kernel
theorem dX6_value_22 : decode cX6_value 22 = .ok (.bipush (-2), 2) := by decide +kernel
theorem dX6_value_24 : decode cX6_value 24 = .ok (.ireturn, 1) := by decide +kernel
theorem dX6_value_25 : decode cX6_value 25 = .ok (.aload_n 0, 1) := by decide +kernel
theorem dX6_value_26 : decode cX6_value 26 = .ok (.getfield 50, 3) := by decide +kernel
theorem dX6_value_29 : decode cX6_value 29 = .ok (.iload_n 3, 1) := by decide +kernel
theorem dX6_value_30 : decode cX6_value 30 = .ok (.baload, 1) := by decide +kernel
theorem dX6_value_31 : decode cX6_value 31 = .ok (.ifCond .eq 12, 3) := by decide +kernel
theorem dX6_value_34 : decode cX6_value 34 = .ok (.aload_n 0, 1) := by decide +kernel
theorem dX6_value_35 : decode cX6_value 35 = .ok (.getfield 47, 3) := by decide +kernel
theorem dX6_value_38 : decode cX6_value 38 = .ok (.iload_n 3, 1) := by decide +kernel
theorem dX6_value_39 : decode cX6_value 39 = .ok (.iaload, 1) := by decide +kernel
theorem dX6_value_40 : decode cX6_value 40 = .ok (.goto 4, 3) := by decide +kernel
theorem dX6_value_43 : decode cX6_value 43 = .ok (.iconst (-1), 1) := by decide +kernel
theorem dX6_value_44 : decode cX6_value 44 = .ok (.istore 4, 2) := by decide +kernel
theorem dX6_value_46 : decode cX6_value 46 = .ok (.aload_n 0, 1) := by decide +kernel
theorem dX6_value_47 : decode cX6_value 47 = .ok (.iload 4, 2) := by decide +kernel
theorem dX6_value_49 : decode cX6_value 49 = .ok (.invokevirtual 173, 3) := by decide +kernel
theorem dX6_value_52 : decode cX6_value 52 = .ok (.aload_n 0, 1) := by decide +kernel
theorem dX6_value_53 : decode cX6_value 53 = .ok (.iload_n 1, 1) := by decide +kernel
theorem dX6_value_54 : decode cX6_value 54 = .ok (.iload_n 2, 1) := by decide +kernel
theorem dX6_value_55 : decode cX6_value 55 = .ok (.iload 4, 2) := by decide +kernel
theorem dX6_value_57 : decode cX6_value 57 = .ok (.invokevirtual 159, 3) := by decide +kernel
theorem dX6_value_60 : decode cX6_value 60 = .ok (.ireturn, 1) := by decide +kernel
theorem dX6_wish_0 : decode cX6_wish 0 = .ok (.iload_n 1, 1) := by decide +kernel
theorem dX6_wish_1 : decode cX6_wish 1 = .ok (.iload_n 2, 1) := by decide +kernel
theorem dX6_wish_2 : decode cX6_wish 2 = .ok (.invokestatic 152, 3) := by decide +kernel
theorem dX6_wish_5 : decode cX6_wish 5 = .ok (.ifCond .ne 6, 3) := by decide +kernel
theorem dX6_wish_8 : decode cX6_wish 8 = .ok (.bipush (-2), 2) := by decide +kernel
theorem dX6_wish_10 : decode cX6_wish 10 = .ok (.ireturn, 1) := by decide +kernel
theorem dX6_wish_11 : decode cX6_wish 11 = .ok (.aload_n 0, 1) := by decide +kernel
theorem dX6_wish_12 : decode cX6_wish 12 = .ok (.getfield 63, 3) := by decide +kernel
theorem dX6_wish_15 : decode cX6_wish 15 = .ok (.ifCond .ne 5, 3) := by decide +kernel
theorem dX6_wish_18 : decode cX6_wish 18 = .ok (.iconst (-1), 1) := by decide +kernel
theorem dX6_wish_19 : decode cX6_wish 19 = .ok (.ireturn, 1) := by decide +kernel
theorem dX6_wish_20 : decode cX6_wish 20 = .ok (.aload_n 0, 1) := by decide +kernel
theorem dX6_wish_21 : decode cX6_wish 21 = .ok (.getfield 38, 3) := by decide +kernel
theorem dX6_wish_24 : decode cX6_wish 24 = .ok (.iconst 0, 1) := by decide +kernel
theorem dX6_wish_25 : decode cX6_wish 25 = .ok (.iaload, 1) := by decide +kernel
theorem dX6_wish_26 : decode cX6_wish 26 = .ok (.istore_n 3, 1) := by decide +kernel
theorem dX6_wish_27 : decode cX6_wish 27 = .ok (.aload_n 0, 1) := by decide +kernel
theorem dX6_wish_28 : decode cX6_wish 28 = .ok (.dup, 1) := by decide +kernel
theorem dX6_wish_29 : decode cX6_wish 29 = .ok (.getfield 63, 3) := by decide +kernel
theorem dX6_wish_32 : decode cX6_wish 32 = .ok (.iconst 1, 1) := by decide +kernel
theorem dX6_wish_33 : decode cX6_wish 33 = .ok (.isub, 1) := by decide +kernel
theorem dX6_wish_34 : decode cX6_wish 34 = .ok (.putfield 63, 3) := by decide +kernel
theorem dX6_wish_37 : decode cX6_wish 37 = .ok (.iconst 0, 1) := by decide +kernel
theorem dX6_wish_38 : decode cX6_wish 38 = .ok (.istore 4, 2) := by decide +kernel
theorem dX6_wish_40 : decode cX6_wish 40 = .ok (.iload 4, 2) := by decide +kernel
theorem dX6_wish_42 : decode cX6_wish 42 = .ok (.aload_n 0, 1) := by decide +kernel
theorem dX6_wish_43 : decode cX6_wish 43 = .ok (.getfield 63, 3) := by decide +kernel
theorem dX6_wish_46 : decode cX6_wish 46 = .ok (.if_icmp .ge 25, 3) := by decide +kernel
theorem dX6_wish_49 : decode cX6_wish 49 = .ok (.aload_n 0, 1) := by decide +kernel
theorem dX6_wish_50 : decode cX6_wish 50 = .ok (.getfield 38, 3) := by decide +kernel
theorem dX6_wish_53 : decode cX6_wish 53 = .ok (.iload 4, 2) := by decide +kernel
theorem dX6_wish_55 : decode cX6_wish 55 = .ok (.aload_n 0, 1) := by decide +kernel
theorem dX6_wish_56 : decode cX6_wish 56 = .ok (.getfield 38, 3) := by decide +kernel
theorem dX6_wish_59 : decode cX6_wish 59 = .ok (.iload 4, 2) := by decide +kernel
theorem dX6_wish_61 : decode cX6_wish 61 = .ok (.iconst 1, 1) := by decide +kernel
theorem dX6_wish_62 : decode cX6_wish 62 = .ok (.iadd, 1) := by decide +kernel
theorem dX6_wish_63 : decode cX6_wish 63 = .ok (.iaload, 1) := by decide +kernel
theorem dX6_wish_64 : decode cX6_wish 64 = .ok (.iastore, 1) := by decide +kernel
theorem dX6_wish_65 : decode cX6_wish 65 = .ok (.iinc 4 1, 3) := by decide +kernel
theorem dX6_wish_68 : decode cX6_wish 68 = .ok (.goto (-28), 3) := by decide +kernel
theorem dX6_wish_71 : decode cX6_wish 71 = .ok (.aload_n 0, 1) := by decide +kernel
theorem dX6_wish_72 : decode cX6_wish 72 = .ok (.iload_n 1, 1) := by decide +kernel
theorem dX6_wish_73 : decode cX6_wish 73 = .ok (.iload_n 2, 1) := by decide +kernel
theorem dX6_wish_74 : decode cX6_wish 74 = .ok (.iload_n 3, 1) := by decide +kernel
theorem dX6_wish_75 : decode cX6_wish 75 = .ok (.invokevirtual 159, 3) := by decide +kernel
theorem dX6_wish_78 : decode cX6_wish 78 = .ok (.ireturn, 1) := by decide +kernel
theorem dX6_reach_0 : decode cX6_reach 0 = .ok (.iload_n 1, 1) := by decide +kernel
theorem dX6_reach_1 : decode cX6_reach 1 = .ok (.iconst (-1), 1) := by decide +kernel
theorem dX6_reach_2 : decode cX6_reach 2 = .ok (.if_icmp .eq 24, 3) := by decide +kernel
theorem dX6_reach_5 : decode cX6_reach 5 = .ok (.aload_n 0, 1) := by decide +kernel
theorem dX6_reach_6 : decode cX6_reach 6 = .ok (.getfield 53, 3) := by decide +kernel
theorem dX6_reach_9 : decode cX6_reach 9 = .ok (.iload_n 1, 1) := by decide +kernel
theorem dX6_reach_10 : decode cX6_reach 10 = .ok (.baload, 1) := by decide +kernel
theorem dX6_reach_11 : decode cX6_reach 11 = .ok (.ifCond .ne 15, 3) := by decide +kernel
theorem dX6_reach_14 : decode cX6_reach 14 = .ok (.aload_n 0, 1) := by decide +kernel
theorem dX6_reach_15 : decode cX6_reach 15 = .ok (.getfield 53, 3) := by decide +kernel
theorem dX6_reach_18 : decode cX6_reach 18 = .ok (.iload_n 1, 1) := by decide +kernel
theorem dX6_reach_19 : decode cX6_reach 19 = .ok (.iconst 1, 1) := by decide +kernel
theorem dX6_reach_20 : decode cX6_reach 20 = .ok (.bastore, 1) := by decide +kernel
theorem dX6_reach_21 : decode cX6_reach 21 = .ok (.aload_n 0, 1) := by decide +kernel
theorem dX6_reach_22 : decode cX6_reach 22 = .ok (.iconst 1, 1) := by decide +kernel
theorem dX6_reach_23 : decode cX6_reach 23 = .ok (.putfield 176, 3) := by decide +kernel
theorem dX6_reach_26 : decode cX6_reach 26 = .ok (.return_, 1) := by decide +kernel
theorem dX6_findReached_0 : decode cX6_findReached 0 = .ok (.iconst 0, 1) := by decide +kernel
theorem dX6_findReached_1 : decode cX6_findReached 1 = .ok (.istore_n 1, 1) := by decide +kernel
theorem dX6_findReached_2 : decode cX6_findReached 2 = .ok (.iload_n 1, 1) := by decide +kernel
theorem dX6_findReached_3 : decode cX6_findReached 3 = .ok (.aload_n 0, 1) := by decide +kernel
theorem dX6_findReached_4 : decode cX6_findReached 4 = .ok (.getfield 59, 3) := by decide +kernel
theorem dX6_findReached_7 : decode cX6_findReached 7 = .ok (.if_icmp .ge 16, 3) := by decide +kernel
theorem dX6_findReached_10 : decode cX6_findReached 10 = .ok (.aload_n 0, 1) := by decide +kernel
theorem dX6_findReached_11 : decode cX6_findReached 11 = .ok (.getfield 53, 3) := by decide +kernel
theorem dX6_findReached_14 : decode cX6_findReached 14 = .ok (.iload_n 1, 1) := by decide +kernel
theorem dX6_findReached_15 : decode cX6_findReached 15 = .ok (.iconst 0, 1) := by decide +kernel
theorem dX6_findReached_16 : decode cX6_findReached 16 = .ok (.bastore, 1) := by decide +kernel
theorem dX6_findReached_17 : decode cX6_findReached 17 = .ok (.iinc 1 1, 3) := by decide +kernel
theorem dX6_findReached_20 : decode cX6_findReached 20 = .ok (.goto (-18), 3) := by decide +kernel
theorem dX6_findReached_23 : decode cX6_findReached 23 = .ok (.iconst 0, 1) := by decide +kernel
theorem dX6_findReached_24 : decode cX6_findReached 24 = .ok (.istore_n 1, 1) := by decide +kernel
theorem dX6_findReached_25 : decode cX6_findReached 25 = .ok (.iload_n 1, 1) := by decide +kernel
theorem dX6_findReached_26 : decode cX6_findReached 26 = .ok (.bipush 12, 2) := by decide +kernel
theorem dX6_findReached_28 : decode cX6_findReached 28 = .ok (.if_icmp .ge 19, 3) := by decide +kernel
theorem dX6_findReached_31 : decode cX6_findReached 31 = .ok (.aload_n 0, 1) := by decide +kernel
theorem dX6_findReached_32 : decode cX6_findReached 32 = .ok (.aload_n 0, 1) := by decide +kernel
theorem dX6_findReached_33 : decode cX6_findReached 33 = .ok (.getfield 32, 3) := by decide +kernel
theorem dX6_findReached_36 : decode cX6_findReached 36 = .ok (.iload_n 1, 1) := by decide +kernel
theorem dX6_findReached_37 : decode cX6_findReached 37 = .ok (.iaload, 1) := by decide +kernel
theorem dX6_findReached_38 : decode cX6_findReached 38 = .ok (.invokevirtual 180, 3) := by decide +kernel
theorem dX6_findReached_41 : decode cX6_findReached 41 = .ok (.iinc 1 1, 3) := by decide +kernel
theorem dX6_findReached_44 : decode cX6_findReached 44 = .ok (.goto (-19), 3) := by decide +kernel
theorem dX6_findReached_47 : decode cX6_findReached 47 = .ok (.iconst 0, 1) := by decide +kernel
theorem dX6_findReached_48 : decode cX6_findReached 48 = .ok (.istore_n 1, 1) := by decide +kernel
theorem dX6_findReached_49 : decode cX6_findReached 49 = .ok (.iload_n 1, 1) := by decide +kernel
theorem dX6_findReached_50 : decode cX6_findReached 50 = .ok (.iconst 4, 1) := by decide +kernel
theorem dX6_findReached_51 : decode cX6_findReached 51 = .ok (.if_icmp .ge 19, 3) := by decide +kernel
theorem dX6_findReached_54 : decode cX6_findReached 54 = .ok (.aload_n 0, 1) := by decide +kernel
theorem dX6_findReached_55 : decode cX6_findReached 55 = .ok (.aload_n 0, 1) := by decide +kernel
theorem dX6_findReached_56 : decode cX6_findReached 56 = .ok (.getfield 35, 3) := by decide +kernel
theorem dX6_findReached_59 : decode cX6_findReached 59 = .ok (.iload_n 1, 1) := by decide +kernel
theorem dX6_findReached_60 : decode cX6_findReached 60 = .ok (.iaload, 1) := by decide +kernel
theorem dX6_findReached_61 : decode cX6_findReached 61 = .ok (.invokevirtual 180, 3) := by decide +kernel
theorem dX6_findReached_64 : decode cX6_findReached 64 = .ok (.iinc 1 1, 3) := by decide +kernel
theorem dX6_findReached_67 : decode cX6_findReached 67 = .ok (.goto (-18), 3) := by decide +kernel
theorem dX6_findReached_70 : decode cX6_findReached 70 = .ok (.iconst 0, 1) := by decide +kernel
theorem dX6_findReached_71 : decode cX6_findReached 71 = .ok (.istore_n 1, 1) := by decide +kernel
theorem dX6_findReached_72 : decode cX6_findReached 72 = .ok (.iload_n 1, 1) := by decide +kernel
theorem dX6_findReached_73 : decode cX6_findReached 73 = .ok (.aload_n 0, 1) := by decide +kernel
theorem dX6_findReached_74 : decode cX6_findReached 74 = .ok (.getfield 63, 3) := by decide +kernel
theorem dX6_findReached_77 : decode cX6_findReached 77 = .ok (.if_icmp .ge 19, 3) := by decide +kernel
theorem dX6_findReached_80 : decode cX6_findReached 80 = .ok (.aload_n 0, 1) := by decide +kernel
theorem dX6_findReached_81 : decode cX6_findReached 81 = .ok (.aload_n 0, 1) := by decide +kernel
theorem dX6_findReached_82 : decode cX6_findReached 82 = .ok (.getfield 38, 3) := by decide +kernel
theorem dX6_findReached_85 : decode cX6_findReached 85 = .ok (.iload_n 1, 1) := by decide +kernel
theorem dX6_findReached_86 : decode cX6_findReached 86 = .ok (.iaload, 1) := by decide +kernel
theorem dX6_findReached_87 : decode cX6_findReached 87 = .ok (.invokevirtual 180, 3) := by decide +kernel
theorem dX6_findReached_90 : decode cX6_findReached 90 = .ok (.iinc 1 1, 3) := by decide +kernel
theorem dX6_findReached_93 : decode cX6_findReached 93 = .ok (.goto (-21), 3) := by decide +kernel
theorem dX6_findReached_96 : decode cX6_findReached 96 = .ok (.aload_n 0, 1) := by decide +kernel
theorem dX6_findReached_97 : decode cX6_findReached 97 = .ok (.iconst 1, 1) := by decide +kernel
theorem dX6_findReached_98 : decode cX6_findReached 98 = .ok (.putfield 176, 3) := by decide +kernel
theorem dX6_findReached_101 : decode cX6_findReached 101 = .ok (.aload_n 0, 1) := by decide +kernel
theorem dX6_findReached_102 : decode cX6_findReached 102 = .ok (.getfield 176, 3) := by decide +kernel
theorem dX6_findReached_105 : decode cX6_findReached 105 = .ok (.ifCond .eq 127, 3) := by decide +kernel
theorem dX6_findReached_108 : decode cX6_findReached 108 = .ok (.aload_n 0, 1) := by decide +kernel
theorem dX6_findReached_109 : decode cX6_findReached 109 = .ok (.iconst 0, 1) := by decide +kernel
theorem dX6_findReached_110 : decode cX6_findReached 110 = .ok (.putfield 176, 3) := by decide +kernel
theorem dX6_findReached_113 : decode cX6_findReached 113 = .ok (.iconst 0, 1) := by decide +kernel
theorem dX6_findReached_114 : decode cX6_findReached 114 = .ok (.istore_n 1, 1) := by decide +kernel
theorem dX6_findReached_115 : decode cX6_findReached 115 = .ok (.iload_n 1, 1) := by decide +kernel
theorem dX6_findReached_116 : decode cX6_findReached 116 = .ok (.aload_n 0, 1) := by decide +kernel
theorem dX6_findReached_117 : decode cX6_findReached 117 = .ok (.getfield 59, 3) := by decide +kernel
theorem dX6_findReached_120 : decode cX6_findReached 120 = .ok (.if_icmp .ge 60, 3) := by decide +kernel
theorem dX6_findReached_123 : decode cX6_findReached 123 = .ok (.iconst 0, 1) := by decide +kernel
theorem dX6_findReached_124 : decode cX6_findReached 124 = .ok (.istore_n 2, 1) := by decide +kernel
theorem dX6_findReached_125 : decode cX6_findReached 125 = .ok (.iload_n 2, 1) := by decide +kernel
theorem dX6_findReached_126 : decode cX6_findReached 126 = .ok (.aload_n 0, 1) := by decide +kernel
theorem dX6_findReached_127 : decode cX6_findReached 127 = .ok (.getfield 7, 3) := by decide +kernel
theorem dX6_findReached_130 : decode cX6_findReached 130 = .ok (.iload_n 1, 1) := by decide +kernel
theorem dX6_findReached_131 : decode cX6_findReached 131 = .ok (.iaload, 1) := by decide +kernel
theorem dX6_findReached_132 : decode cX6_findReached 132 = .ok (.if_icmp .ge 42, 3) := by decide +kernel
theorem dX6_findReached_135 : decode cX6_findReached 135 = .ok (.aload_n 0, 1) := by decide +kernel
theorem dX6_findReached_136 : decode cX6_findReached 136 = .ok (.getfield 53, 3) := by decide +kernel
theorem dX6_findReached_139 : decode cX6_findReached 139 = .ok (.iload_n 1, 1) := by decide +kernel
theorem dX6_findReached_140 : decode cX6_findReached 140 = .ok (.baload, 1) := by decide +kernel
theorem dX6_findReached_141 : decode cX6_findReached 141 = .ok (.ifCond .eq 33, 3) := by decide +kernel
theorem dX6_findReached_144 : decode cX6_findReached 144 = .ok (.aload_n 0, 1) := by decide +kernel
theorem dX6_findReached_145 : decode cX6_findReached 145 = .ok (.getfield 22, 3) := by decide +kernel
theorem dX6_findReached_148 : decode cX6_findReached 148 = .ok (.iload_n 1, 1) := by decide +kernel
theorem dX6_findReached_149 : decode cX6_findReached 149 = .ok (.baload, 1) := by decide +kernel
theorem dX6_findReached_150 : decode cX6_findReached 150 = .ok (.ifCond .ne 24, 3) := by decide +kernel
theorem dX6_findReached_153 : decode cX6_findReached 153 = .ok (.aload_n 0, 1) := by decide +kernel
theorem dX6_findReached_154 : decode cX6_findReached 154 = .ok (.aload_n 0, 1) := by decide +kernel
theorem dX6_findReached_155 : decode cX6_findReached 155 = .ok (.getfield 13, 3) := by decide +kernel
theorem dX6_findReached_158 : decode cX6_findReached 158 = .ok (.bipush 6, 2) := by decide +kernel
theorem dX6_findReached_160 : decode cX6_findReached 160 = .ok (.iload_n 1, 1) := by decide +kernel
theorem dX6_findReached_161 : decode cX6_findReached 161 = .ok (.imul, 1) := by decide +kernel
theorem dX6_findReached_162 : decode cX6_findReached 162 = .ok (.iload_n 2, 1) := by decide +kernel
theorem dX6_findReached_163 : decode cX6_findReached 163 = .ok (.iadd, 1) := by decide +kernel
theorem dX6_findReached_164 : decode cX6_findReached 164 = .ok (.iaload, 1) := by decide +kernel
theorem dX6_findReached_165 : decode cX6_findReached 165 = .ok (.invokevirtual 180, 3) := by decide +kernel
theorem dX6_findReached_168 : decode cX6_findReached 168 = .ok (.iinc 2 1, 3) := by decide +kernel
theorem dX6_findReached_171 : decode cX6_findReached 171 = .ok (.goto (-46), 3) := by decide +kernel
theorem dX6_findReached_174 : decode cX6_findReached 174 = .ok (.iinc 1 1, 3) := by decide +kernel
theorem dX6_findReached_177 : decode cX6_findReached 177 = .ok (.goto (-62), 3) := by decide +kernel
theorem dX6_findReached_180 : decode cX6_findReached 180 = .ok (.iconst 0, 1) := by decide +kernel
theorem dX6_findReached_181 : decode cX6_findReached 181 = .ok (.istore_n 1, 1) := by decide +kernel
theorem dX6_findReached_182 : decode cX6_findReached 182 = .ok (.iload_n 1, 1) := by decide +kernel
theorem dX6_findReached_183 : decode cX6_findReached 183 = .ok (.aload_n 0, 1) := by decide +kernel
theorem dX6_findReached_184 : decode cX6_findReached 184 = .ok (.getfield 66, 3) := by decide +kernel
theorem dX6_findReached_187 : decode cX6_findReached 187 = .ok (.if_icmp .ge 42, 3) := by decide +kernel
theorem dX6_findReached_190 : decode cX6_findReached 190 = .ok (.aload_n 0, 1) := by decide +kernel
theorem dX6_findReached_191 : decode cX6_findReached 191 = .ok (.getfield 50, 3) := by decide +kernel
theorem dX6_findReached_194 : decode cX6_findReached 194 = .ok (.iload_n 1, 1) := by decide +kernel
theorem dX6_findReached_195 : decode cX6_findReached 195 = .ok (.baload, 1) := by decide +kernel
theorem dX6_findReached_196 : decode cX6_findReached 196 = .ok (.ifCond .eq 27, 3) := by decide +kernel
theorem dX6_findReached_199 : decode cX6_findReached 199 = .ok (.aload_n 0, 1) := by decide +kernel
theorem dX6_findReached_200 : decode cX6_findReached 200 = .ok (.getfield 53, 3) := by decide +kernel
theorem dX6_findReached_203 : decode cX6_findReached 203 = .ok (.aload_n 0, 1) := by decide +kernel
theorem dX6_findReached_204 : decode cX6_findReached 204 = .ok (.getfield 44, 3) := by decide +kernel
theorem dX6_findReached_207 : decode cX6_findReached 207 = .ok (.iload_n 1, 1) := by decide +kernel
theorem dX6_findReached_208 : decode cX6_findReached 208 = .ok (.iaload, 1) := by decide +kernel
theorem dX6_findReached_209 : decode cX6_findReached 209 = .ok (.baload, 1) := by decide +kernel
theorem dX6_findReached_210 : decode cX6_findReached 210 = .ok (.ifCond .eq 13, 3) := by decide +kernel
theorem dX6_findReached_213 : decode cX6_findReached 213 = .ok (.aload_n 0, 1) := by decide +kernel
theorem dX6_findReached_214 : decode cX6_findReached 214 = .ok (.aload_n 0, 1) := by decide +kernel
theorem dX6_findReached_215 : decode cX6_findReached 215 = .ok (.getfield 47, 3) := by decide +kernel
theorem dX6_findReached_218 : decode cX6_findReached 218 = .ok (.iload_n 1, 1) := by decide +kernel
theorem dX6_findReached_219 : decode cX6_findReached 219 = .ok (.iaload, 1) := by decide +kernel
theorem dX6_findReached_220 : decode cX6_findReached 220 = .ok (.invokevirtual 180, 3) := by decide +kernel
theorem dX6_findReached_223 : decode cX6_findReached 223 = .ok (.iinc 1 1, 3) := by decide +kernel
theorem dX6_findReached_226 : decode cX6_findReached 226 = .ok (.goto (-44), 3) := by decide +kernel
theorem dX6_findReached_229 : decode cX6_findReached 229 = .ok (.goto (-128), 3) := by decide +kernel
theorem dX6_findReached_232 : decode cX6_findReached 232 = .ok (.return_, 1) := by decide +kernel
theorem dX6_isThing_0 : decode cX6_isThing 0 = .ok (.iload_n 1, 1) := by decide +kernel
theorem dX6_isThing_1 : decode cX6_isThing 1 = .ok (.iconst 0, 1) := by decide +kernel
theorem dX6_isThing_2 : decode cX6_isThing 2 = .ok (.aload_n 0, 1) := by decide +kernel
theorem dX6_isThing_3 : decode cX6_isThing 3 = .ok (.getfield 59, 3) := by decide +kernel
theorem dX6_isThing_6 : decode cX6_isThing 6 = .ok (.iconst 1, 1) := by decide +kernel
theorem dX6_isThing_7 : decode cX6_isThing 7 = .ok (.isub, 1) := by decide +kernel
theorem dX6_isThing_8 : decode cX6_isThing 8 = .ok (.invokestatic 90, 3) := by decide +kernel
theorem dX6_isThing_11 : decode cX6_isThing 11 = .ok (.ireturn, 1) := by decide +kernel
theorem dX6_aboutOf_0 : decode cX6_aboutOf 0 = .ok (.iload_n 2, 1) := by decide +kernel
theorem dX6_aboutOf_1 : decode cX6_aboutOf 1 = .ok (.tableswitch 109 0 5 #[39, 46, 53, 60, 75, 94], 39) := by decide +kernel
theorem dX6_aboutOf_40 : decode cX6_aboutOf 40 = .ok (.aload_n 0, 1) := by decide +kernel
theorem dX6_aboutOf_41 : decode cX6_aboutOf 41 = .ok (.getfield 7, 3) := by decide +kernel
theorem dX6_aboutOf_44 : decode cX6_aboutOf 44 = .ok (.iload_n 1, 1) := by decide +kernel
theorem dX6_aboutOf_45 : decode cX6_aboutOf 45 = .ok (.iaload, 1) := by decide +kernel
theorem dX6_aboutOf_46 : decode cX6_aboutOf 46 = .ok (.ireturn, 1) := by decide +kernel
theorem dX6_aboutOf_47 : decode cX6_aboutOf 47 = .ok (.aload_n 0, 1) := by decide +kernel
theorem dX6_aboutOf_48 : decode cX6_aboutOf 48 = .ok (.getfield 16, 3) := by decide +kernel
theorem dX6_aboutOf_51 : decode cX6_aboutOf 51 = .ok (.iload_n 1, 1) := by decide +kernel
theorem dX6_aboutOf_52 : decode cX6_aboutOf 52 = .ok (.iaload, 1) := by decide +kernel
theorem dX6_aboutOf_53 : decode cX6_aboutOf 53 = .ok (.ireturn, 1) := by decide +kernel
theorem dX6_aboutOf_54 : decode cX6_aboutOf 54 = .ok (.aload_n 0, 1) := by decide +kernel
theorem dX6_aboutOf_55 : decode cX6_aboutOf 55 = .ok (.getfield 19, 3) := by decide +kernel
theorem dX6_aboutOf_58 : decode cX6_aboutOf 58 = .ok (.iload_n 1, 1) := by decide +kernel
theorem dX6_aboutOf_59 : decode cX6_aboutOf 59 = .ok (.iaload, 1) := by decide +kernel
theorem dX6_aboutOf_60 : decode cX6_aboutOf 60 = .ok (.ireturn, 1) := by decide +kernel
theorem dX6_aboutOf_61 : decode cX6_aboutOf 61 = .ok (.aload_n 0, 1) := by decide +kernel
theorem dX6_aboutOf_62 : decode cX6_aboutOf 62 = .ok (.getfield 22, 3) := by decide +kernel
theorem dX6_aboutOf_65 : decode cX6_aboutOf 65 = .ok (.iload_n 1, 1) := by decide +kernel
theorem dX6_aboutOf_66 : decode cX6_aboutOf 66 = .ok (.baload, 1) := by decide +kernel
theorem dX6_aboutOf_67 : decode cX6_aboutOf 67 = .ok (.ifCond .eq 7, 3) := by decide +kernel
theorem dX6_aboutOf_70 : decode cX6_aboutOf 70 = .ok (.iconst 1, 1) := by decide +kernel
theorem dX6_aboutOf_71 : decode cX6_aboutOf 71 = .ok (.goto 4, 3) := by decide +kernel
theorem dX6_aboutOf_74 : decode cX6_aboutOf 74 = .ok (.iconst 0, 1) := by decide +kernel
theorem dX6_aboutOf_75 : decode cX6_aboutOf 75 = .ok (.ireturn, 1) := by decide +kernel
theorem dX6_aboutOf_76 : decode cX6_aboutOf 76 = .ok (.aload_n 0, 1) := by decide +kernel
theorem dX6_aboutOf_77 : decode cX6_aboutOf 77 = .ok (.invokevirtual 183, 3) := by decide +kernel
theorem dX6_aboutOf_80 : decode cX6_aboutOf 80 = .ok (.aload_n 0, 1) := by decide +kernel
theorem dX6_aboutOf_81 : decode cX6_aboutOf 81 = .ok (.getfield 53, 3) := by decide +kernel
theorem dX6_aboutOf_84 : decode cX6_aboutOf 84 = .ok (.iload_n 1, 1) := by decide +kernel
theorem dX6_aboutOf_85 : decode cX6_aboutOf 85 = .ok (.baload, 1) := by decide +kernel
theorem dX6_aboutOf_86 : decode cX6_aboutOf 86 = .ok (.ifCond .eq 7, 3) := by decide +kernel
theorem dX6_aboutOf_89 : decode cX6_aboutOf 89 = .ok (.iconst 1, 1) := by decide +kernel
theorem dX6_aboutOf_90 : decode cX6_aboutOf 90 = .ok (.goto 4, 3) := by decide +kernel
theorem dX6_aboutOf_93 : decode cX6_aboutOf 93 = .ok (.iconst 0, 1) := by decide +kernel
theorem dX6_aboutOf_94 : decode cX6_aboutOf 94 = .ok (.ireturn, 1) := by decide +kernel
theorem dX6_aboutOf_95 : decode cX6_aboutOf 95 = .ok (.aload_n 0, 1) := by decide +kernel
theorem dX6_aboutOf_96 : decode cX6_aboutOf 96 = .ok (.getfield 26, 3) := by decide +kernel
theorem dX6_aboutOf_99 : decode cX6_aboutOf 99 = .ok (.iload_n 1, 1) := by decide +kernel
theorem dX6_aboutOf_100 : decode cX6_aboutOf 100 = .ok (.baload, 1) := by decide +kernel
theorem dX6_aboutOf_101 : decode cX6_aboutOf 101 = .ok (.ifCond .eq 7, 3) := by decide +kernel
theorem dX6_aboutOf_104 : decode cX6_aboutOf 104 = .ok (.iconst 1, 1) := by decide +kernel
theorem dX6_aboutOf_105 : decode cX6_aboutOf 105 = .ok (.goto 4, 3) := by decide +kernel
theorem dX6_aboutOf_108 : decode cX6_aboutOf 108 = .ok (.iconst 0, 1) := by decide +kernel
theorem dX6_aboutOf_109 : decode cX6_aboutOf 109 = .ok (.ireturn, 1) := by decide +kernel
theorem dX6_aboutOf_110 : decode cX6_aboutOf 110 = .ok (.aload_n 0, 1) := by decide +kernel
theorem dX6_aboutOf_111 : decode cX6_aboutOf 111 = .ok (.getfield 29, 3) := by decide +kernel
theorem dX6_aboutOf_114 : decode cX6_aboutOf 114 = .ok (.iload_n 1, 1) := by decide +kernel
theorem dX6_aboutOf_115 : decode cX6_aboutOf 115 = .ok (.iaload, 1) := by decide +kernel
theorem dX6_aboutOf_116 : decode cX6_aboutOf 116 = .ok (.ireturn, 1) := by decide +kernel
theorem dX6_about_0 : decode cX6_about 0 = .ok (.aload_n 0, 1) := by decide +kernel
theorem dX6_about_1 : decode cX6_about 1 = .ok (.iload_n 1, 1) := by decide +kernel
theorem dX6_about_2 : decode cX6_about 2 = .ok (.invokevirtual 186, 3) := by decide +kernel
theorem dX6_about_5 : decode cX6_about 5 = .ok (.ifCond .eq 22, 3) := by decide +kernel
theorem dX6_about_8 : decode cX6_about 8 = .ok (.iload_n 2, 1) := by decide +kernel
theorem dX6_about_9 : decode cX6_about 9 = .ok (.iconst 0, 1) := by decide +kernel
theorem dX6_about_10 : decode cX6_about 10 = .ok (.bipush 6, 2) := by decide +kernel
theorem dX6_about_12 : decode cX6_about 12 = .ok (.invokestatic 90, 3) := by decide +kernel
theorem dX6_about_15 : decode cX6_about 15 = .ok (.ifCond .eq 12, 3) := by decide +kernel
theorem dX6_about_18 : decode cX6_about 18 = .ok (.aload_n 0, 1) := by decide +kernel
theorem dX6_about_19 : decode cX6_about 19 = .ok (.iload_n 1, 1) := by decide +kernel
theorem dX6_about_20 : decode cX6_about 20 = .ok (.iload_n 2, 1) := by decide +kernel
theorem dX6_about_21 : decode cX6_about 21 = .ok (.invokevirtual 189, 3) := by decide +kernel
theorem dX6_about_24 : decode cX6_about 24 = .ok (.goto 5, 3) := by decide +kernel
theorem dX6_about_27 : decode cX6_about 27 = .ok (.bipush (-2), 2) := by decide +kernel
theorem dX6_about_29 : decode cX6_about 29 = .ok (.ireturn, 1) := by decide +kernel
theorem dX6_field_0 : decode cX6_field 0 = .ok (.aload_n 0, 1) := by decide +kernel
theorem dX6_field_1 : decode cX6_field 1 = .ok (.iload_n 1, 1) := by decide +kernel
theorem dX6_field_2 : decode cX6_field 2 = .ok (.invokevirtual 186, 3) := by decide +kernel
theorem dX6_field_5 : decode cX6_field 5 = .ok (.ifCond .ne 8, 3) := by decide +kernel
theorem dX6_field_8 : decode cX6_field 8 = .ok (.bipush (-2), 2) := by decide +kernel
theorem dX6_field_10 : decode cX6_field 10 = .ok (.goto 34, 3) := by decide +kernel
theorem dX6_field_13 : decode cX6_field 13 = .ok (.iload_n 2, 1) := by decide +kernel
theorem dX6_field_14 : decode cX6_field 14 = .ok (.iconst 0, 1) := by decide +kernel
theorem dX6_field_15 : decode cX6_field 15 = .ok (.aload_n 0, 1) := by decide +kernel
theorem dX6_field_16 : decode cX6_field 16 = .ok (.getfield 7, 3) := by decide +kernel
theorem dX6_field_19 : decode cX6_field 19 = .ok (.iload_n 1, 1) := by decide +kernel
theorem dX6_field_20 : decode cX6_field 20 = .ok (.iaload, 1) := by decide +kernel
theorem dX6_field_21 : decode cX6_field 21 = .ok (.iconst 1, 1) := by decide +kernel
theorem dX6_field_22 : decode cX6_field 22 = .ok (.isub, 1) := by decide +kernel
theorem dX6_field_23 : decode cX6_field 23 = .ok (.invokestatic 90, 3) := by decide +kernel
theorem dX6_field_26 : decode cX6_field 26 = .ok (.ifCond .eq 17, 3) := by decide +kernel
theorem dX6_field_29 : decode cX6_field 29 = .ok (.aload_n 0, 1) := by decide +kernel
theorem dX6_field_30 : decode cX6_field 30 = .ok (.getfield 13, 3) := by decide +kernel
theorem dX6_field_33 : decode cX6_field 33 = .ok (.bipush 6, 2) := by decide +kernel
theorem dX6_field_35 : decode cX6_field 35 = .ok (.iload_n 1, 1) := by decide +kernel
theorem dX6_field_36 : decode cX6_field 36 = .ok (.imul, 1) := by decide +kernel
theorem dX6_field_37 : decode cX6_field 37 = .ok (.iload_n 2, 1) := by decide +kernel
theorem dX6_field_38 : decode cX6_field 38 = .ok (.iadd, 1) := by decide +kernel
theorem dX6_field_39 : decode cX6_field 39 = .ok (.iaload, 1) := by decide +kernel
theorem dX6_field_40 : decode cX6_field 40 = .ok (.goto 4, 3) := by decide +kernel
theorem dX6_field_43 : decode cX6_field 43 = .ok (.iconst (-1), 1) := by decide +kernel
theorem dX6_field_44 : decode cX6_field 44 = .ok (.ireturn, 1) := by decide +kernel
theorem dX6_holder_0 : decode cX6_holder 0 = .ok (.iload_n 1, 1) := by decide +kernel
theorem dX6_holder_1 : decode cX6_holder 1 = .ok (.ifCond .ge 6, 3) := by decide +kernel
theorem dX6_holder_4 : decode cX6_holder 4 = .ok (.bipush (-2), 2) := by decide +kernel
theorem dX6_holder_6 : decode cX6_holder 6 = .ok (.ireturn, 1) := by decide +kernel
theorem dX6_holder_7 : decode cX6_holder 7 = .ok (.iload_n 1, 1) := by decide +kernel
theorem dX6_holder_8 : decode cX6_holder 8 = .ok (.bipush 12, 2) := by decide +kernel
theorem dX6_holder_10 : decode cX6_holder 10 = .ok (.if_icmp .ge 10, 3) := by decide +kernel
theorem dX6_holder_13 : decode cX6_holder 13 = .ok (.aload_n 0, 1) := by decide +kernel
theorem dX6_holder_14 : decode cX6_holder 14 = .ok (.getfield 32, 3) := by decide +kernel
theorem dX6_holder_17 : decode cX6_holder 17 = .ok (.iload_n 1, 1) := by decide +kernel
theorem dX6_holder_18 : decode cX6_holder 18 = .ok (.iaload, 1) := by decide +kernel
theorem dX6_holder_19 : decode cX6_holder 19 = .ok (.ireturn, 1) := by decide +kernel
theorem dX6_holder_20 : decode cX6_holder 20 = .ok (.iload_n 1, 1) := by decide +kernel
theorem dX6_holder_21 : decode cX6_holder 21 = .ok (.bipush 16, 2) := by decide +kernel
theorem dX6_holder_23 : decode cX6_holder 23 = .ok (.if_icmp .ge 13, 3) := by decide +kernel
theorem dX6_holder_26 : decode cX6_holder 26 = .ok (.aload_n 0, 1) := by decide +kernel
theorem dX6_holder_27 : decode cX6_holder 27 = .ok (.getfield 35, 3) := by decide +kernel
theorem dX6_holder_30 : decode cX6_holder 30 = .ok (.iload_n 1, 1) := by decide +kernel
theorem dX6_holder_31 : decode cX6_holder 31 = .ok (.bipush 12, 2) := by decide +kernel
theorem dX6_holder_33 : decode cX6_holder 33 = .ok (.isub, 1) := by decide +kernel
theorem dX6_holder_34 : decode cX6_holder 34 = .ok (.iaload, 1) := by decide +kernel
theorem dX6_holder_35 : decode cX6_holder 35 = .ok (.ireturn, 1) := by decide +kernel
theorem dX6_holder_36 : decode cX6_holder 36 = .ok (.iload_n 1, 1) := by decide +kernel
theorem dX6_holder_37 : decode cX6_holder 37 = .ok (.bipush 22, 2) := by decide +kernel
theorem dX6_holder_39 : decode cX6_holder 39 = .ok (.if_icmp .ge 13, 3) := by decide +kernel
theorem dX6_holder_42 : decode cX6_holder 42 = .ok (.aload_n 0, 1) := by decide +kernel
theorem dX6_holder_43 : decode cX6_holder 43 = .ok (.getfield 41, 3) := by decide +kernel
theorem dX6_holder_46 : decode cX6_holder 46 = .ok (.iload_n 1, 1) := by decide +kernel
theorem dX6_holder_47 : decode cX6_holder 47 = .ok (.bipush 16, 2) := by decide +kernel
theorem dX6_holder_49 : decode cX6_holder 49 = .ok (.isub, 1) := by decide +kernel
theorem dX6_holder_50 : decode cX6_holder 50 = .ok (.iaload, 1) := by decide +kernel
theorem dX6_holder_51 : decode cX6_holder 51 = .ok (.ireturn, 1) := by decide +kernel
theorem dX6_holder_52 : decode cX6_holder 52 = .ok (.iload_n 1, 1) := by decide +kernel
theorem dX6_holder_53 : decode cX6_holder 53 = .ok (.bipush 30, 2) := by decide +kernel
theorem dX6_holder_55 : decode cX6_holder 55 = .ok (.if_icmp .ge 29, 3) := by decide +kernel
theorem dX6_holder_58 : decode cX6_holder 58 = .ok (.aload_n 0, 1) := by decide +kernel
theorem dX6_holder_59 : decode cX6_holder 59 = .ok (.getfield 50, 3) := by decide +kernel
theorem dX6_holder_62 : decode cX6_holder 62 = .ok (.iload_n 1, 1) := by decide +kernel
theorem dX6_holder_63 : decode cX6_holder 63 = .ok (.bipush 22, 2) := by decide +kernel
theorem dX6_holder_65 : decode cX6_holder 65 = .ok (.isub, 1) := by decide +kernel
theorem dX6_holder_66 : decode cX6_holder 66 = .ok (.baload, 1) := by decide +kernel
theorem dX6_holder_67 : decode cX6_holder 67 = .ok (.ifCond .eq 15, 3) := by decide +kernel
theorem dX6_holder_70 : decode cX6_holder 70 = .ok (.aload_n 0, 1) := by decide +kernel
theorem dX6_holder_71 : decode cX6_holder 71 = .ok (.getfield 44, 3) := by decide +kernel
theorem dX6_holder_74 : decode cX6_holder 74 = .ok (.iload_n 1, 1) := by decide +kernel
theorem dX6_holder_75 : decode cX6_holder 75 = .ok (.bipush 22, 2) := by decide +kernel
theorem dX6_holder_77 : decode cX6_holder 77 = .ok (.isub, 1) := by decide +kernel
theorem dX6_holder_78 : decode cX6_holder 78 = .ok (.iaload, 1) := by decide +kernel
theorem dX6_holder_79 : decode cX6_holder 79 = .ok (.goto 4, 3) := by decide +kernel
theorem dX6_holder_82 : decode cX6_holder 82 = .ok (.iconst (-1), 1) := by decide +kernel
theorem dX6_holder_83 : decode cX6_holder 83 = .ok (.ireturn, 1) := by decide +kernel
theorem dX6_holder_84 : decode cX6_holder 84 = .ok (.iload_n 1, 1) := by decide +kernel
theorem dX6_holder_85 : decode cX6_holder 85 = .ok (.bipush 30, 2) := by decide +kernel
theorem dX6_holder_87 : decode cX6_holder 87 = .ok (.isub, 1) := by decide +kernel
theorem dX6_holder_88 : decode cX6_holder 88 = .ok (.aload_n 0, 1) := by decide +kernel
theorem dX6_holder_89 : decode cX6_holder 89 = .ok (.getfield 63, 3) := by decide +kernel
theorem dX6_holder_92 : decode cX6_holder 92 = .ok (.if_icmp .ge 15, 3) := by decide +kernel
theorem dX6_holder_95 : decode cX6_holder 95 = .ok (.aload_n 0, 1) := by decide +kernel
theorem dX6_holder_96 : decode cX6_holder 96 = .ok (.getfield 38, 3) := by decide +kernel
theorem dX6_holder_99 : decode cX6_holder 99 = .ok (.iload_n 1, 1) := by decide +kernel
theorem dX6_holder_100 : decode cX6_holder 100 = .ok (.bipush 30, 2) := by decide +kernel
theorem dX6_holder_102 : decode cX6_holder 102 = .ok (.isub, 1) := by decide +kernel
theorem dX6_holder_103 : decode cX6_holder 103 = .ok (.iaload, 1) := by decide +kernel
theorem dX6_holder_104 : decode cX6_holder 104 = .ok (.goto 4, 3) := by decide +kernel
theorem dX6_holder_107 : decode cX6_holder 107 = .ok (.iconst (-1), 1) := by decide +kernel
theorem dX6_holder_108 : decode cX6_holder 108 = .ok (.ireturn, 1) := by decide +kernel
theorem dX6_cellOf_0 : decode cX6_cellOf 0 = .ok (.iconst 0, 1) := by decide +kernel
theorem dX6_cellOf_1 : decode cX6_cellOf 1 = .ok (.istore_n 2, 1) := by decide +kernel
theorem dX6_cellOf_2 : decode cX6_cellOf 2 = .ok (.iload_n 2, 1) := by decide +kernel
theorem dX6_cellOf_3 : decode cX6_cellOf 3 = .ok (.aload_n 0, 1) := by decide +kernel
theorem dX6_cellOf_4 : decode cX6_cellOf 4 = .ok (.getfield 59, 3) := by decide +kernel
theorem dX6_cellOf_7 : decode cX6_cellOf 7 = .ok (.if_icmp .ge 47, 3) := by decide +kernel
theorem dX6_cellOf_10 : decode cX6_cellOf 10 = .ok (.aload_n 0, 1) := by decide +kernel
theorem dX6_cellOf_11 : decode cX6_cellOf 11 = .ok (.getfield 22, 3) := by decide +kernel
theorem dX6_cellOf_14 : decode cX6_cellOf 14 = .ok (.iload_n 2, 1) := by decide +kernel
theorem dX6_cellOf_15 : decode cX6_cellOf 15 = .ok (.baload, 1) := by decide +kernel
theorem dX6_cellOf_16 : decode cX6_cellOf 16 = .ok (.ifCond .ne 32, 3) := by decide +kernel
theorem dX6_cellOf_19 : decode cX6_cellOf 19 = .ok (.aload_n 0, 1) := by decide +kernel
theorem dX6_cellOf_20 : decode cX6_cellOf 20 = .ok (.getfield 16, 3) := by decide +kernel
theorem dX6_cellOf_23 : decode cX6_cellOf 23 = .ok (.iload_n 2, 1) := by decide +kernel
theorem dX6_cellOf_24 : decode cX6_cellOf 24 = .ok (.iaload, 1) := by decide +kernel
theorem dX6_cellOf_25 : decode cX6_cellOf 25 = .ok (.iload_n 1, 1) := by decide +kernel
theorem dX6_cellOf_26 : decode cX6_cellOf 26 = .ok (.if_icmp .gt 22, 3) := by decide +kernel
theorem dX6_cellOf_29 : decode cX6_cellOf 29 = .ok (.iload_n 1, 1) := by decide +kernel
theorem dX6_cellOf_30 : decode cX6_cellOf 30 = .ok (.aload_n 0, 1) := by decide +kernel
theorem dX6_cellOf_31 : decode cX6_cellOf 31 = .ok (.getfield 16, 3) := by decide +kernel
theorem dX6_cellOf_34 : decode cX6_cellOf 34 = .ok (.iload_n 2, 1) := by decide +kernel
theorem dX6_cellOf_35 : decode cX6_cellOf 35 = .ok (.iaload, 1) := by decide +kernel
theorem dX6_cellOf_36 : decode cX6_cellOf 36 = .ok (.aload_n 0, 1) := by decide +kernel
theorem dX6_cellOf_37 : decode cX6_cellOf 37 = .ok (.getfield 7, 3) := by decide +kernel
theorem dX6_cellOf_40 : decode cX6_cellOf 40 = .ok (.iload_n 2, 1) := by decide +kernel
theorem dX6_cellOf_41 : decode cX6_cellOf 41 = .ok (.iaload, 1) := by decide +kernel
theorem dX6_cellOf_42 : decode cX6_cellOf 42 = .ok (.iadd, 1) := by decide +kernel
theorem dX6_cellOf_43 : decode cX6_cellOf 43 = .ok (.if_icmp .gt 5, 3) := by decide +kernel
theorem dX6_cellOf_46 : decode cX6_cellOf 46 = .ok (.iload_n 2, 1) := by decide +kernel
theorem dX6_cellOf_47 : decode cX6_cellOf 47 = .ok (.ireturn, 1) := by decide +kernel
theorem dX6_cellOf_48 : decode cX6_cellOf 48 = .ok (.iinc 2 1, 3) := by decide +kernel
theorem dX6_cellOf_51 : decode cX6_cellOf 51 = .ok (.goto (-49), 3) := by decide +kernel
theorem dX6_cellOf_54 : decode cX6_cellOf 54 = .ok (.iconst (-1), 1) := by decide +kernel
theorem dX6_cellOf_55 : decode cX6_cellOf 55 = .ok (.ireturn, 1) := by decide +kernel
theorem dX6_cell_0 : decode cX6_cell 0 = .ok (.iload_n 1, 1) := by decide +kernel
theorem dX6_cell_1 : decode cX6_cell 1 = .ok (.iconst 0, 1) := by decide +kernel
theorem dX6_cell_2 : decode cX6_cell 2 = .ok (.sipush 199, 3) := by decide +kernel
theorem dX6_cell_5 : decode cX6_cell 5 = .ok (.invokestatic 90, 3) := by decide +kernel
theorem dX6_cell_8 : decode cX6_cell 8 = .ok (.ifCond .eq 11, 3) := by decide +kernel
theorem dX6_cell_11 : decode cX6_cell 11 = .ok (.aload_n 0, 1) := by decide +kernel
theorem dX6_cell_12 : decode cX6_cell 12 = .ok (.iload_n 1, 1) := by decide +kernel
theorem dX6_cell_13 : decode cX6_cell 13 = .ok (.invokevirtual 192, 3) := by decide +kernel
theorem dX6_cell_16 : decode cX6_cell 16 = .ok (.goto 5, 3) := by decide +kernel
theorem dX6_cell_19 : decode cX6_cell 19 = .ok (.bipush (-2), 2) := by decide +kernel
theorem dX6_cell_21 : decode cX6_cell 21 = .ok (.ireturn, 1) := by decide +kernel
theorem dX6_freeCells_0 : decode cX6_freeCells 0 = .ok (.aload_n 0, 1) := by decide +kernel
theorem dX6_freeCells_1 : decode cX6_freeCells 1 = .ok (.getfield 94, 3) := by decide +kernel
theorem dX6_freeCells_4 : decode cX6_freeCells 4 = .ok (.iconst 3, 1) := by decide +kernel
theorem dX6_freeCells_5 : decode cX6_freeCells 5 = .ok (.if_icmp .ne 11, 3) := by decide +kernel
theorem dX6_freeCells_8 : decode cX6_freeCells 8 = .ok (.bipush 100, 2) := by decide +kernel
theorem dX6_freeCells_10 : decode cX6_freeCells 10 = .ok (.aload_n 0, 1) := by decide +kernel
theorem dX6_freeCells_11 : decode cX6_freeCells 11 = .ok (.getfield 72, 3) := by decide +kernel
theorem dX6_freeCells_14 : decode cX6_freeCells 14 = .ok (.isub, 1) := by decide +kernel
theorem dX6_freeCells_15 : decode cX6_freeCells 15 = .ok (.ireturn, 1) := by decide +kernel
theorem dX6_freeCells_16 : decode cX6_freeCells 16 = .ok (.iconst 0, 1) := by decide +kernel
theorem dX6_freeCells_17 : decode cX6_freeCells 17 = .ok (.istore_n 2, 1) := by decide +kernel
theorem dX6_freeCells_18 : decode cX6_freeCells 18 = .ok (.iconst 0, 1) := by decide +kernel
theorem dX6_freeCells_19 : decode cX6_freeCells 19 = .ok (.istore_n 3, 1) := by decide +kernel
theorem dX6_freeCells_20 : decode cX6_freeCells 20 = .ok (.iconst 0, 1) := by decide +kernel
theorem dX6_freeCells_21 : decode cX6_freeCells 21 = .ok (.istore 4, 2) := by decide +kernel
theorem dX6_freeCells_23 : decode cX6_freeCells 23 = .ok (.iconst 0, 1) := by decide +kernel
theorem dX6_freeCells_24 : decode cX6_freeCells 24 = .ok (.istore 5, 2) := by decide +kernel
theorem dX6_freeCells_26 : decode cX6_freeCells 26 = .ok (.iload 5, 2) := by decide +kernel
theorem dX6_freeCells_28 : decode cX6_freeCells 28 = .ok (.sipush 200, 3) := by decide +kernel
theorem dX6_freeCells_31 : decode cX6_freeCells 31 = .ok (.if_icmp .ge 66, 3) := by decide +kernel
theorem dX6_freeCells_34 : decode cX6_freeCells 34 = .ok (.aload_n 0, 1) := by decide +kernel
theorem dX6_freeCells_35 : decode cX6_freeCells 35 = .ok (.iload 5, 2) := by decide +kernel
theorem dX6_freeCells_37 : decode cX6_freeCells 37 = .ok (.invokevirtual 192, 3) := by decide +kernel
theorem dX6_freeCells_40 : decode cX6_freeCells 40 = .ok (.iconst (-1), 1) := by decide +kernel
theorem dX6_freeCells_41 : decode cX6_freeCells 41 = .ok (.if_icmp .ne 7, 3) := by decide +kernel
theorem dX6_freeCells_44 : decode cX6_freeCells 44 = .ok (.iconst 1, 1) := by decide +kernel
theorem dX6_freeCells_45 : decode cX6_freeCells 45 = .ok (.goto 4, 3) := by decide +kernel
theorem dX6_freeCells_48 : decode cX6_freeCells 48 = .ok (.iconst 0, 1) := by decide +kernel
theorem dX6_freeCells_49 : decode cX6_freeCells 49 = .ok (.istore 6, 2) := by decide +kernel
theorem dX6_freeCells_51 : decode cX6_freeCells 51 = .ok (.iload_n 2, 1) := by decide +kernel
theorem dX6_freeCells_52 : decode cX6_freeCells 52 = .ok (.iload 6, 2) := by decide +kernel
theorem dX6_freeCells_54 : decode cX6_freeCells 54 = .ok (.ifCond .eq 7, 3) := by decide +kernel
theorem dX6_freeCells_57 : decode cX6_freeCells 57 = .ok (.iconst 1, 1) := by decide +kernel
theorem dX6_freeCells_58 : decode cX6_freeCells 58 = .ok (.goto 4, 3) := by decide +kernel
theorem dX6_freeCells_61 : decode cX6_freeCells 61 = .ok (.iconst 0, 1) := by decide +kernel
theorem dX6_freeCells_62 : decode cX6_freeCells 62 = .ok (.iadd, 1) := by decide +kernel
theorem dX6_freeCells_63 : decode cX6_freeCells 63 = .ok (.istore_n 2, 1) := by decide +kernel
theorem dX6_freeCells_64 : decode cX6_freeCells 64 = .ok (.iload 6, 2) := by decide +kernel
theorem dX6_freeCells_66 : decode cX6_freeCells 66 = .ok (.ifCond .eq 9, 3) := by decide +kernel
theorem dX6_freeCells_69 : decode cX6_freeCells 69 = .ok (.iload_n 3, 1) := by decide +kernel
theorem dX6_freeCells_70 : decode cX6_freeCells 70 = .ok (.iconst 1, 1) := by decide +kernel
theorem dX6_freeCells_71 : decode cX6_freeCells 71 = .ok (.iadd, 1) := by decide +kernel
theorem dX6_freeCells_72 : decode cX6_freeCells 72 = .ok (.goto 4, 3) := by decide +kernel
theorem dX6_freeCells_75 : decode cX6_freeCells 75 = .ok (.iconst 0, 1) := by decide +kernel
theorem dX6_freeCells_76 : decode cX6_freeCells 76 = .ok (.istore_n 3, 1) := by decide +kernel
theorem dX6_freeCells_77 : decode cX6_freeCells 77 = .ok (.iload_n 3, 1) := by decide +kernel
theorem dX6_freeCells_78 : decode cX6_freeCells 78 = .ok (.iload 4, 2) := by decide +kernel
theorem dX6_freeCells_80 : decode cX6_freeCells 80 = .ok (.if_icmp .le 7, 3) := by decide +kernel
theorem dX6_freeCells_83 : decode cX6_freeCells 83 = .ok (.iload_n 3, 1) := by decide +kernel
theorem dX6_freeCells_84 : decode cX6_freeCells 84 = .ok (.goto 5, 3) := by decide +kernel
theorem dX6_freeCells_87 : decode cX6_freeCells 87 = .ok (.iload 4, 2) := by decide +kernel
theorem dX6_freeCells_89 : decode cX6_freeCells 89 = .ok (.istore 4, 2) := by decide +kernel
theorem dX6_freeCells_91 : decode cX6_freeCells 91 = .ok (.iinc 5 1, 3) := by decide +kernel
theorem dX6_freeCells_94 : decode cX6_freeCells 94 = .ok (.goto (-68), 3) := by decide +kernel
theorem dX6_freeCells_97 : decode cX6_freeCells 97 = .ok (.iload_n 1, 1) := by decide +kernel
theorem dX6_freeCells_98 : decode cX6_freeCells 98 = .ok (.ifCond .eq 8, 3) := by decide +kernel
theorem dX6_freeCells_101 : decode cX6_freeCells 101 = .ok (.iload 4, 2) := by decide +kernel
theorem dX6_freeCells_103 : decode cX6_freeCells 103 = .ok (.goto 4, 3) := by decide +kernel
theorem dX6_freeCells_106 : decode cX6_freeCells 106 = .ok (.iload_n 2, 1) := by decide +kernel
theorem dX6_freeCells_107 : decode cX6_freeCells 107 = .ok (.ireturn, 1) := by decide +kernel
theorem dX6_countThings_0 : decode cX6_countThings 0 = .ok (.aload_n 0, 1) := by decide +kernel
theorem dX6_countThings_1 : decode cX6_countThings 1 = .ok (.invokevirtual 183, 3) := by decide +kernel
theorem dX6_countThings_4 : decode cX6_countThings 4 = .ok (.iconst 0, 1) := by decide +kernel
theorem dX6_countThings_5 : decode cX6_countThings 5 = .ok (.istore_n 2, 1) := by decide +kernel
theorem dX6_countThings_6 : decode cX6_countThings 6 = .ok (.iconst 0, 1) := by decide +kernel
theorem dX6_countThings_7 : decode cX6_countThings 7 = .ok (.istore_n 3, 1) := by decide +kernel
theorem dX6_countThings_8 : decode cX6_countThings 8 = .ok (.iload_n 3, 1) := by decide +kernel
theorem dX6_countThings_9 : decode cX6_countThings 9 = .ok (.aload_n 0, 1) := by decide +kernel
theorem dX6_countThings_10 : decode cX6_countThings 10 = .ok (.getfield 59, 3) := by decide +kernel
theorem dX6_countThings_13 : decode cX6_countThings 13 = .ok (.if_icmp .ge 114, 3) := by decide +kernel
theorem dX6_countThings_16 : decode cX6_countThings 16 = .ok (.iload_n 1, 1) := by decide +kernel
theorem dX6_countThings_17 : decode cX6_countThings 17 = .ok (.iconst 1, 1) := by decide +kernel
theorem dX6_countThings_18 : decode cX6_countThings 18 = .ok (.if_icmp .ne 20, 3) := by decide +kernel
theorem dX6_countThings_21 : decode cX6_countThings 21 = .ok (.aload_n 0, 1) := by decide +kernel
theorem dX6_countThings_22 : decode cX6_countThings 22 = .ok (.getfield 22, 3) := by decide +kernel
theorem dX6_countThings_25 : decode cX6_countThings 25 = .ok (.iload_n 3, 1) := by decide +kernel
theorem dX6_countThings_26 : decode cX6_countThings 26 = .ok (.baload, 1) := by decide +kernel
theorem dX6_countThings_27 : decode cX6_countThings 27 = .ok (.ifCond .ne 7, 3) := by decide +kernel
theorem dX6_countThings_30 : decode cX6_countThings 30 = .ok (.iconst 1, 1) := by decide +kernel
theorem dX6_countThings_31 : decode cX6_countThings 31 = .ok (.goto 75, 3) := by decide +kernel
theorem dX6_countThings_34 : decode cX6_countThings 34 = .ok (.iconst 0, 1) := by decide +kernel
theorem dX6_countThings_35 : decode cX6_countThings 35 = .ok (.goto 71, 3) := by decide +kernel
theorem dX6_countThings_38 : decode cX6_countThings 38 = .ok (.iload_n 1, 1) := by decide +kernel
theorem dX6_countThings_39 : decode cX6_countThings 39 = .ok (.iconst 2, 1) := by decide +kernel
theorem dX6_countThings_40 : decode cX6_countThings 40 = .ok (.if_icmp .ne 12, 3) := by decide +kernel
theorem dX6_countThings_43 : decode cX6_countThings 43 = .ok (.aload_n 0, 1) := by decide +kernel
theorem dX6_countThings_44 : decode cX6_countThings 44 = .ok (.getfield 53, 3) := by decide +kernel
theorem dX6_countThings_47 : decode cX6_countThings 47 = .ok (.iload_n 3, 1) := by decide +kernel
theorem dX6_countThings_48 : decode cX6_countThings 48 = .ok (.baload, 1) := by decide +kernel
theorem dX6_countThings_49 : decode cX6_countThings 49 = .ok (.goto 57, 3) := by decide +kernel
theorem dX6_countThings_52 : decode cX6_countThings 52 = .ok (.iload_n 1, 1) := by decide +kernel
theorem dX6_countThings_53 : decode cX6_countThings 53 = .ok (.iconst 3, 1) := by decide +kernel
theorem dX6_countThings_54 : decode cX6_countThings 54 = .ok (.if_icmp .ne 29, 3) := by decide +kernel
theorem dX6_countThings_57 : decode cX6_countThings 57 = .ok (.aload_n 0, 1) := by decide +kernel
theorem dX6_countThings_58 : decode cX6_countThings 58 = .ok (.getfield 53, 3) := by decide +kernel
theorem dX6_countThings_61 : decode cX6_countThings 61 = .ok (.iload_n 3, 1) := by decide +kernel
theorem dX6_countThings_62 : decode cX6_countThings 62 = .ok (.baload, 1) := by decide +kernel
theorem dX6_countThings_63 : decode cX6_countThings 63 = .ok (.ifCond .eq 16, 3) := by decide +kernel
theorem dX6_countThings_66 : decode cX6_countThings 66 = .ok (.aload_n 0, 1) := by decide +kernel
theorem dX6_countThings_67 : decode cX6_countThings 67 = .ok (.getfield 22, 3) := by decide +kernel
theorem dX6_countThings_70 : decode cX6_countThings 70 = .ok (.iload_n 3, 1) := by decide +kernel
theorem dX6_countThings_71 : decode cX6_countThings 71 = .ok (.baload, 1) := by decide +kernel
theorem dX6_countThings_72 : decode cX6_countThings 72 = .ok (.ifCond .eq 7, 3) := by decide +kernel
theorem dX6_countThings_75 : decode cX6_countThings 75 = .ok (.iconst 1, 1) := by decide +kernel
theorem dX6_countThings_76 : decode cX6_countThings 76 = .ok (.goto 30, 3) := by decide +kernel
theorem dX6_countThings_79 : decode cX6_countThings 79 = .ok (.iconst 0, 1) := by decide +kernel
theorem dX6_countThings_80 : decode cX6_countThings 80 = .ok (.goto 26, 3) := by decide +kernel
theorem dX6_countThings_83 : decode cX6_countThings 83 = .ok (.aload_n 0, 1) := by decide +kernel
theorem dX6_countThings_84 : decode cX6_countThings 84 = .ok (.getfield 53, 3) := by decide +kernel
theorem dX6_countThings_87 : decode cX6_countThings 87 = .ok (.iload_n 3, 1) := by decide +kernel
theorem dX6_countThings_88 : decode cX6_countThings 88 = .ok (.baload, 1) := by decide +kernel
theorem dX6_countThings_89 : decode cX6_countThings 89 = .ok (.ifCond .ne 16, 3) := by decide +kernel
theorem dX6_countThings_92 : decode cX6_countThings 92 = .ok (.aload_n 0, 1) := by decide +kernel
theorem dX6_countThings_93 : decode cX6_countThings 93 = .ok (.getfield 22, 3) := by decide +kernel
theorem dX6_countThings_96 : decode cX6_countThings 96 = .ok (.iload_n 3, 1) := by decide +kernel
theorem dX6_countThings_97 : decode cX6_countThings 97 = .ok (.baload, 1) := by decide +kernel
theorem dX6_countThings_98 : decode cX6_countThings 98 = .ok (.ifCond .ne 7, 3) := by decide +kernel
theorem dX6_countThings_101 : decode cX6_countThings 101 = .ok (.iconst 1, 1) := by decide +kernel
theorem dX6_countThings_102 : decode cX6_countThings 102 = .ok (.goto 4, 3) := by decide +kernel
theorem dX6_countThings_105 : decode cX6_countThings 105 = .ok (.iconst 0, 1) := by decide +kernel
theorem dX6_countThings_106 : decode cX6_countThings 106 = .ok (.istore 4, 2) := by decide +kernel
theorem dX6_countThings_108 : decode cX6_countThings 108 = .ok (.iload_n 2, 1) := by decide +kernel
theorem dX6_countThings_109 : decode cX6_countThings 109 = .ok (.iload 4, 2) := by decide +kernel
theorem dX6_countThings_111 : decode cX6_countThings 111 = .ok (.ifCond .eq 7, 3) := by decide +kernel
theorem dX6_countThings_114 : decode cX6_countThings 114 = .ok (.iconst 1, 1) := by decide +kernel
theorem dX6_countThings_115 : decode cX6_countThings 115 = .ok (.goto 4, 3) := by decide +kernel
theorem dX6_countThings_118 : decode cX6_countThings 118 = .ok (.iconst 0, 1) := by decide +kernel
theorem dX6_countThings_119 : decode cX6_countThings 119 = .ok (.iadd, 1) := by decide +kernel
theorem dX6_countThings_120 : decode cX6_countThings 120 = .ok (.istore_n 2, 1) := by decide +kernel
theorem dX6_countThings_121 : decode cX6_countThings 121 = .ok (.iinc 3 1, 3) := by decide +kernel
theorem dX6_countThings_124 : decode cX6_countThings 124 = .ok (.goto (-116), 3) := by decide +kernel
theorem dX6_countThings_127 : decode cX6_countThings 127 = .ok (.iload_n 2, 1) := by decide +kernel
theorem dX6_countThings_128 : decode cX6_countThings 128 = .ok (.ireturn, 1) := by decide +kernel
theorem dX6_count_0 : decode cX6_count 0 = .ok (.iconst 0, 1) := by decide +kernel
theorem dX6_count_1 : decode cX6_count 1 = .ok (.istore_n 2, 1) := by decide +kernel
theorem dX6_count_2 : decode cX6_count 2 = .ok (.iload_n 1, 1) := by decide +kernel
theorem dX6_count_3 : decode cX6_count 3 = .ok (.tableswitch 152 0 12 #[65, 70, 70, 70, 70, 76, 76, 92, 97, 102, 107, 112, 117], 65) := by decide +kernel
theorem dX6_count_68 : decode cX6_count 68 = .ok (.aload_n 0, 1) := by decide +kernel
theorem dX6_count_69 : decode cX6_count 69 = .ok (.getfield 59, 3) := by decide +kernel
theorem dX6_count_72 : decode cX6_count 72 = .ok (.ireturn, 1) := by decide +kernel
theorem dX6_count_73 : decode cX6_count 73 = .ok (.aload_n 0, 1) := by decide +kernel
theorem dX6_count_74 : decode cX6_count 74 = .ok (.iload_n 1, 1) := by decide +kernel
theorem dX6_count_75 : decode cX6_count 75 = .ok (.invokevirtual 195, 3) := by decide +kernel
theorem dX6_count_78 : decode cX6_count 78 = .ok (.ireturn, 1) := by decide +kernel
theorem dX6_count_79 : decode cX6_count 79 = .ok (.aload_n 0, 1) := by decide +kernel
theorem dX6_count_80 : decode cX6_count 80 = .ok (.iload_n 1, 1) := by decide +kernel
theorem dX6_count_81 : decode cX6_count 81 = .ok (.bipush 6, 2) := by decide +kernel
theorem dX6_count_83 : decode cX6_count 83 = .ok (.if_icmp .ne 7, 3) := by decide +kernel
theorem dX6_count_86 : decode cX6_count 86 = .ok (.iconst 1, 1) := by decide +kernel
theorem dX6_count_87 : decode cX6_count 87 = .ok (.goto 4, 3) := by decide +kernel
theorem dX6_count_90 : decode cX6_count 90 = .ok (.iconst 0, 1) := by decide +kernel
theorem dX6_count_91 : decode cX6_count 91 = .ok (.invokevirtual 198, 3) := by decide +kernel
theorem dX6_count_94 : decode cX6_count 94 = .ok (.ireturn, 1) := by decide +kernel
theorem dX6_count_95 : decode cX6_count 95 = .ok (.aload_n 0, 1) := by decide +kernel
theorem dX6_count_96 : decode cX6_count 96 = .ok (.getfield 78, 3) := by decide +kernel
theorem dX6_count_99 : decode cX6_count 99 = .ok (.ireturn, 1) := by decide +kernel
theorem dX6_count_100 : decode cX6_count 100 = .ok (.aload_n 0, 1) := by decide +kernel
theorem dX6_count_101 : decode cX6_count 101 = .ok (.getfield 81, 3) := by decide +kernel
theorem dX6_count_104 : decode cX6_count 104 = .ok (.ireturn, 1) := by decide +kernel
theorem dX6_count_105 : decode cX6_count 105 = .ok (.aload_n 0, 1) := by decide +kernel
theorem dX6_count_106 : decode cX6_count 106 = .ok (.getfield 84, 3) := by decide +kernel
theorem dX6_count_109 : decode cX6_count 109 = .ok (.ireturn, 1) := by decide +kernel
theorem dX6_count_110 : decode cX6_count 110 = .ok (.aload_n 0, 1) := by decide +kernel
theorem dX6_count_111 : decode cX6_count 111 = .ok (.getfield 87, 3) := by decide +kernel
theorem dX6_count_114 : decode cX6_count 114 = .ok (.ireturn, 1) := by decide +kernel
theorem dX6_count_115 : decode cX6_count 115 = .ok (.aload_n 0, 1) := by decide +kernel
theorem dX6_count_116 : decode cX6_count 116 = .ok (.getfield 63, 3) := by decide +kernel
theorem dX6_count_119 : decode cX6_count 119 = .ok (.ireturn, 1) := by decide +kernel
theorem dX6_count_120 : decode cX6_count 120 = .ok (.iconst 0, 1) := by decide +kernel
theorem dX6_count_121 : decode cX6_count 121 = .ok (.istore_n 3, 1) := by decide +kernel
theorem dX6_count_122 : decode cX6_count 122 = .ok (.iload_n 3, 1) := by decide +kernel
theorem dX6_count_123 : decode cX6_count 123 = .ok (.aload_n 0, 1) := by decide +kernel
theorem dX6_count_124 : decode cX6_count 124 = .ok (.getfield 66, 3) := by decide +kernel
theorem dX6_count_127 : decode cX6_count 127 = .ok (.if_icmp .ge 26, 3) := by decide +kernel
theorem dX6_count_130 : decode cX6_count 130 = .ok (.iload_n 2, 1) := by decide +kernel
theorem dX6_count_131 : decode cX6_count 131 = .ok (.aload_n 0, 1) := by decide +kernel
theorem dX6_count_132 : decode cX6_count 132 = .ok (.getfield 50, 3) := by decide +kernel
theorem dX6_count_135 : decode cX6_count 135 = .ok (.iload_n 3, 1) := by decide +kernel
theorem dX6_count_136 : decode cX6_count 136 = .ok (.baload, 1) := by decide +kernel
theorem dX6_count_137 : decode cX6_count 137 = .ok (.ifCond .eq 7, 3) := by decide +kernel
theorem dX6_count_140 : decode cX6_count 140 = .ok (.iconst 1, 1) := by decide +kernel
theorem dX6_count_141 : decode cX6_count 141 = .ok (.goto 4, 3) := by decide +kernel
theorem dX6_count_144 : decode cX6_count 144 = .ok (.iconst 0, 1) := by decide +kernel
theorem dX6_count_145 : decode cX6_count 145 = .ok (.iadd, 1) := by decide +kernel
theorem dX6_count_146 : decode cX6_count 146 = .ok (.istore_n 2, 1) := by decide +kernel
theorem dX6_count_147 : decode cX6_count 147 = .ok (.iinc 3 1, 3) := by decide +kernel
theorem dX6_count_150 : decode cX6_count 150 = .ok (.goto (-28), 3) := by decide +kernel
theorem dX6_count_153 : decode cX6_count 153 = .ok (.iload_n 2, 1) := by decide +kernel
theorem dX6_count_154 : decode cX6_count 154 = .ok (.ireturn, 1) := by decide +kernel
theorem dX6_count_155 : decode cX6_count 155 = .ok (.bipush (-2), 2) := by decide +kernel
theorem dX6_count_157 : decode cX6_count 157 = .ok (.ireturn, 1) := by decide +kernel
theorem dX6_lost_0 : decode cX6_lost 0 = .ok (.aload_n 0, 1) := by decide +kernel
theorem dX6_lost_1 : decode cX6_lost 1 = .ok (.invokevirtual 183, 3) := by decide +kernel
theorem dX6_lost_4 : decode cX6_lost 4 = .ok (.iconst 0, 1) := by decide +kernel
theorem dX6_lost_5 : decode cX6_lost 5 = .ok (.istore_n 1, 1) := by decide +kernel
theorem dX6_lost_6 : decode cX6_lost 6 = .ok (.iload_n 1, 1) := by decide +kernel
theorem dX6_lost_7 : decode cX6_lost 7 = .ok (.aload_n 0, 1) := by decide +kernel
theorem dX6_lost_8 : decode cX6_lost 8 = .ok (.getfield 59, 3) := by decide +kernel
theorem dX6_lost_11 : decode cX6_lost 11 = .ok (.if_icmp .ge 29, 3) := by decide +kernel
theorem dX6_lost_14 : decode cX6_lost 14 = .ok (.aload_n 0, 1) := by decide +kernel
theorem dX6_lost_15 : decode cX6_lost 15 = .ok (.getfield 53, 3) := by decide +kernel
theorem dX6_lost_18 : decode cX6_lost 18 = .ok (.iload_n 1, 1) := by decide +kernel
theorem dX6_lost_19 : decode cX6_lost 19 = .ok (.baload, 1) := by decide +kernel
theorem dX6_lost_20 : decode cX6_lost 20 = .ok (.ifCond .eq 14, 3) := by decide +kernel
theorem dX6_lost_23 : decode cX6_lost 23 = .ok (.aload_n 0, 1) := by decide +kernel
theorem dX6_lost_24 : decode cX6_lost 24 = .ok (.getfield 22, 3) := by decide +kernel
theorem dX6_lost_27 : decode cX6_lost 27 = .ok (.iload_n 1, 1) := by decide +kernel
theorem dX6_lost_28 : decode cX6_lost 28 = .ok (.baload, 1) := by decide +kernel
theorem dX6_lost_29 : decode cX6_lost 29 = .ok (.ifCond .eq 5, 3) := by decide +kernel
theorem dX6_lost_32 : decode cX6_lost 32 = .ok (.iload_n 1, 1) := by decide +kernel
theorem dX6_lost_33 : decode cX6_lost 33 = .ok (.ireturn, 1) := by decide +kernel
theorem dX6_lost_34 : decode cX6_lost 34 = .ok (.iinc 1 1, 3) := by decide +kernel
theorem dX6_lost_37 : decode cX6_lost 37 = .ok (.goto (-31), 3) := by decide +kernel
theorem dX6_lost_40 : decode cX6_lost 40 = .ok (.iconst (-1), 1) := by decide +kernel
theorem dX6_lost_41 : decode cX6_lost 41 = .ok (.ireturn, 1) := by decide +kernel
theorem dX6_digest_0 : decode cX6_digest 0 = .ok (.ldc2_w 202, 3) := by decide +kernel
theorem dX6_digest_3 : decode cX6_digest 3 = .ok (.lstore_n 1, 1) := by decide +kernel
theorem dX6_digest_4 : decode cX6_digest 4 = .ok (.iconst 0, 1) := by decide +kernel
theorem dX6_digest_5 : decode cX6_digest 5 = .ok (.istore_n 3, 1) := by decide +kernel
theorem dX6_digest_6 : decode cX6_digest 6 = .ok (.iload_n 3, 1) := by decide +kernel
theorem dX6_digest_7 : decode cX6_digest 7 = .ok (.aload_n 0, 1) := by decide +kernel
theorem dX6_digest_8 : decode cX6_digest 8 = .ok (.getfield 59, 3) := by decide +kernel
theorem dX6_digest_11 : decode cX6_digest 11 = .ok (.if_icmp .ge 95, 3) := by decide +kernel
theorem dX6_digest_14 : decode cX6_digest 14 = .ok (.ldc2_w 204, 3) := by decide +kernel
theorem dX6_digest_17 : decode cX6_digest 17 = .ok (.ldc2_w 204, 3) := by decide +kernel
theorem dX6_digest_20 : decode cX6_digest 20 = .ok (.ldc2_w 204, 3) := by decide +kernel
theorem dX6_digest_23 : decode cX6_digest 23 = .ok (.lload_n 1, 1) := by decide +kernel
theorem dX6_digest_24 : decode cX6_digest 24 = .ok (.lmul, 1) := by decide +kernel
theorem dX6_digest_25 : decode cX6_digest 25 = .ok (.aload_n 0, 1) := by decide +kernel
theorem dX6_digest_26 : decode cX6_digest 26 = .ok (.getfield 16, 3) := by decide +kernel
theorem dX6_digest_29 : decode cX6_digest 29 = .ok (.iload_n 3, 1) := by decide +kernel
theorem dX6_digest_30 : decode cX6_digest 30 = .ok (.iaload, 1) := by decide +kernel
theorem dX6_digest_31 : decode cX6_digest 31 = .ok (.i2l, 1) := by decide +kernel
theorem dX6_digest_32 : decode cX6_digest 32 = .ok (.ladd, 1) := by decide +kernel
theorem dX6_digest_33 : decode cX6_digest 33 = .ok (.lmul, 1) := by decide +kernel
theorem dX6_digest_34 : decode cX6_digest 34 = .ok (.aload_n 0, 1) := by decide +kernel
theorem dX6_digest_35 : decode cX6_digest 35 = .ok (.getfield 19, 3) := by decide +kernel
theorem dX6_digest_38 : decode cX6_digest 38 = .ok (.iload_n 3, 1) := by decide +kernel
theorem dX6_digest_39 : decode cX6_digest 39 = .ok (.iaload, 1) := by decide +kernel
theorem dX6_digest_40 : decode cX6_digest 40 = .ok (.i2l, 1) := by decide +kernel
theorem dX6_digest_41 : decode cX6_digest 41 = .ok (.ladd, 1) := by decide +kernel
theorem dX6_digest_42 : decode cX6_digest 42 = .ok (.lmul, 1) := by decide +kernel
theorem dX6_digest_43 : decode cX6_digest 43 = .ok (.aload_n 0, 1) := by decide +kernel
theorem dX6_digest_44 : decode cX6_digest 44 = .ok (.getfield 22, 3) := by decide +kernel
theorem dX6_digest_47 : decode cX6_digest 47 = .ok (.iload_n 3, 1) := by decide +kernel
theorem dX6_digest_48 : decode cX6_digest 48 = .ok (.baload, 1) := by decide +kernel
theorem dX6_digest_49 : decode cX6_digest 49 = .ok (.ifCond .eq 7, 3) := by decide +kernel
theorem dX6_digest_52 : decode cX6_digest 52 = .ok (.iconst 1, 1) := by decide +kernel
theorem dX6_digest_53 : decode cX6_digest 53 = .ok (.goto 4, 3) := by decide +kernel
theorem dX6_digest_56 : decode cX6_digest 56 = .ok (.iconst 0, 1) := by decide +kernel
theorem dX6_digest_57 : decode cX6_digest 57 = .ok (.i2l, 1) := by decide +kernel
theorem dX6_digest_58 : decode cX6_digest 58 = .ok (.ladd, 1) := by decide +kernel
theorem dX6_digest_59 : decode cX6_digest 59 = .ok (.lstore_n 1, 1) := by decide +kernel
theorem dX6_digest_60 : decode cX6_digest 60 = .ok (.iconst 0, 1) := by decide +kernel
theorem dX6_digest_61 : decode cX6_digest 61 = .ok (.istore 4, 2) := by decide +kernel
theorem dX6_digest_63 : decode cX6_digest 63 = .ok (.iload 4, 2) := by decide +kernel
theorem dX6_digest_65 : decode cX6_digest 65 = .ok (.aload_n 0, 1) := by decide +kernel
theorem dX6_digest_66 : decode cX6_digest 66 = .ok (.getfield 7, 3) := by decide +kernel
theorem dX6_digest_69 : decode cX6_digest 69 = .ok (.iload_n 3, 1) := by decide +kernel
theorem dX6_digest_70 : decode cX6_digest 70 = .ok (.iaload, 1) := by decide +kernel
theorem dX6_digest_71 : decode cX6_digest 71 = .ok (.if_icmp .ge 29, 3) := by decide +kernel
theorem dX6_digest_74 : decode cX6_digest 74 = .ok (.ldc2_w 204, 3) := by decide +kernel
theorem dX6_digest_77 : decode cX6_digest 77 = .ok (.lload_n 1, 1) := by decide +kernel
theorem dX6_digest_78 : decode cX6_digest 78 = .ok (.lmul, 1) := by decide +kernel
theorem dX6_digest_79 : decode cX6_digest 79 = .ok (.aload_n 0, 1) := by decide +kernel
theorem dX6_digest_80 : decode cX6_digest 80 = .ok (.getfield 13, 3) := by decide +kernel
theorem dX6_digest_83 : decode cX6_digest 83 = .ok (.bipush 6, 2) := by decide +kernel
theorem dX6_digest_85 : decode cX6_digest 85 = .ok (.iload_n 3, 1) := by decide +kernel
theorem dX6_digest_86 : decode cX6_digest 86 = .ok (.imul, 1) := by decide +kernel
theorem dX6_digest_87 : decode cX6_digest 87 = .ok (.iload 4, 2) := by decide +kernel
theorem dX6_digest_89 : decode cX6_digest 89 = .ok (.iadd, 1) := by decide +kernel
theorem dX6_digest_90 : decode cX6_digest 90 = .ok (.iaload, 1) := by decide +kernel
theorem dX6_digest_91 : decode cX6_digest 91 = .ok (.i2l, 1) := by decide +kernel
theorem dX6_digest_92 : decode cX6_digest 92 = .ok (.ladd, 1) := by decide +kernel
theorem dX6_digest_93 : decode cX6_digest 93 = .ok (.lstore_n 1, 1) := by decide +kernel
theorem dX6_digest_94 : decode cX6_digest 94 = .ok (.iinc 4 1, 3) := by decide +kernel
theorem dX6_digest_97 : decode cX6_digest 97 = .ok (.goto (-34), 3) := by decide +kernel
theorem dX6_digest_100 : decode cX6_digest 100 = .ok (.iinc 3 1, 3) := by decide +kernel
theorem dX6_digest_103 : decode cX6_digest 103 = .ok (.goto (-97), 3) := by decide +kernel
theorem dX6_digest_106 : decode cX6_digest 106 = .ok (.iconst 0, 1) := by decide +kernel
theorem dX6_digest_107 : decode cX6_digest 107 = .ok (.istore_n 3, 1) := by decide +kernel
theorem dX6_digest_108 : decode cX6_digest 108 = .ok (.iload_n 3, 1) := by decide +kernel
theorem dX6_digest_109 : decode cX6_digest 109 = .ok (.bipush 30, 2) := by decide +kernel
theorem dX6_digest_111 : decode cX6_digest 111 = .ok (.if_icmp .ge 22, 3) := by decide +kernel
theorem dX6_digest_114 : decode cX6_digest 114 = .ok (.ldc2_w 204, 3) := by decide +kernel
theorem dX6_digest_117 : decode cX6_digest 117 = .ok (.lload_n 1, 1) := by decide +kernel
theorem dX6_digest_118 : decode cX6_digest 118 = .ok (.lmul, 1) := by decide +kernel
theorem dX6_digest_119 : decode cX6_digest 119 = .ok (.aload_n 0, 1) := by decide +kernel
theorem dX6_digest_120 : decode cX6_digest 120 = .ok (.iload_n 3, 1) := by decide +kernel
theorem dX6_digest_121 : decode cX6_digest 121 = .ok (.invokevirtual 206, 3) := by decide +kernel
theorem dX6_digest_124 : decode cX6_digest 124 = .ok (.i2l, 1) := by decide +kernel
theorem dX6_digest_125 : decode cX6_digest 125 = .ok (.ladd, 1) := by decide +kernel
theorem dX6_digest_126 : decode cX6_digest 126 = .ok (.lstore_n 1, 1) := by decide +kernel
theorem dX6_digest_127 : decode cX6_digest 127 = .ok (.iinc 3 1, 3) := by decide +kernel
theorem dX6_digest_130 : decode cX6_digest 130 = .ok (.goto (-22), 3) := by decide +kernel
theorem dX6_digest_133 : decode cX6_digest 133 = .ok (.ldc2_w 204, 3) := by decide +kernel
theorem dX6_digest_136 : decode cX6_digest 136 = .ok (.lload_n 1, 1) := by decide +kernel
theorem dX6_digest_137 : decode cX6_digest 137 = .ok (.lmul, 1) := by decide +kernel
theorem dX6_digest_138 : decode cX6_digest 138 = .ok (.aload_n 0, 1) := by decide +kernel
theorem dX6_digest_139 : decode cX6_digest 139 = .ok (.getfield 75, 3) := by decide +kernel
theorem dX6_digest_142 : decode cX6_digest 142 = .ok (.i2l, 1) := by decide +kernel
theorem dX6_digest_143 : decode cX6_digest 143 = .ok (.ladd, 1) := by decide +kernel
theorem dX6_digest_144 : decode cX6_digest 144 = .ok (.lreturn, 1) := by decide +kernel
end
section
theorem dL_law_0 : decode cL_law 0 = .ok (.new 7, 3) := by decide +kernel
theorem dL_law_3 : decode cL_law 3 = .ok (.dup, 1) := by decide +kernel
theorem dL_law_4 : decode cL_law 4 = .ok (.invokespecial 9, 3) := by decide +kernel
theorem dL_law_7 : decode cL_law 7 = .ok (.astore_n 1, 1) := by decide +kernel
theorem dL_law_8 : decode cL_law 8 = .ok (.new 10, 3) := by decide +kernel
theorem dL_law_11 : decode cL_law 11 = .ok (.dup, 1) := by decide +kernel
theorem dL_law_12 : decode cL_law 12 = .ok (.invokespecial 12, 3) := by decide +kernel
theorem dL_law_15 : decode cL_law 15 = .ok (.astore_n 2, 1) := by decide +kernel
theorem dL_law_16 : decode cL_law 16 = .ok (.iconst 0, 1) := by decide +kernel
theorem dL_law_17 : decode cL_law 17 = .ok (.istore_n 3, 1) := by decide +kernel
theorem dL_law_18 : decode cL_law 18 = .ok (.iload_n 3, 1) := by decide +kernel
theorem dL_law_19 : decode cL_law 19 = .ok (.aload_n 0, 1) := by decide +kernel
theorem dL_law_20 : decode cL_law 20 = .ok (.arraylength, 1) := by decide +kernel
theorem dL_law_21 : decode cL_law 21 = .ok (.iconst 5, 1) := by decide +kernel
theorem dL_law_22 : decode cL_law 22 = .ok (.isub, 1) := by decide +kernel
theorem dL_law_23 : decode cL_law 23 = .ok (.if_icmp .gt 966, 3) := by decide +kernel
theorem dL_law_26 : decode cL_law 26 = .ok (.aload_n 0, 1) := by decide +kernel
theorem dL_law_27 : decode cL_law 27 = .ok (.iload_n 3, 1) := by decide +kernel
theorem dL_law_28 : decode cL_law 28 = .ok (.iaload, 1) := by decide +kernel
theorem dL_law_29 : decode cL_law 29 = .ok (.bipush 31, 2) := by decide +kernel
theorem dL_law_31 : decode cL_law 31 = .ok (.iand, 1) := by decide +kernel
theorem dL_law_32 : decode cL_law 32 = .ok (.tableswitch 951 0 23 #[112, 145, 214, 257, 310, 363, 396, 439, 482, 535, 578, 621, 664, 707, 740, 753, 776, 789, 822, 855, 878, 901, 924, 937], 112) := by decide +kernel
theorem dL_law_144 : decode cL_law 144 = .ok (.aload_n 1, 1) := by decide +kernel
theorem dL_law_145 : decode cL_law 145 = .ok (.aload_n 0, 1) := by decide +kernel
theorem dL_law_146 : decode cL_law 146 = .ok (.iload_n 3, 1) := by decide +kernel
theorem dL_law_147 : decode cL_law 147 = .ok (.iconst 1, 1) := by decide +kernel
theorem dL_law_148 : decode cL_law 148 = .ok (.iadd, 1) := by decide +kernel
theorem dL_law_149 : decode cL_law 149 = .ok (.iaload, 1) := by decide +kernel
theorem dL_law_150 : decode cL_law 150 = .ok (.aload_n 0, 1) := by decide +kernel
theorem dL_law_151 : decode cL_law 151 = .ok (.iload_n 3, 1) := by decide +kernel
theorem dL_law_152 : decode cL_law 152 = .ok (.iconst 2, 1) := by decide +kernel
theorem dL_law_153 : decode cL_law 153 = .ok (.iadd, 1) := by decide +kernel
theorem dL_law_154 : decode cL_law 154 = .ok (.iaload, 1) := by decide +kernel
theorem dL_law_155 : decode cL_law 155 = .ok (.invokevirtual 13, 3) := by decide +kernel
theorem dL_law_158 : decode cL_law 158 = .ok (.aload_n 2, 1) := by decide +kernel
theorem dL_law_159 : decode cL_law 159 = .ok (.aload_n 0, 1) := by decide +kernel
theorem dL_law_160 : decode cL_law 160 = .ok (.iload_n 3, 1) := by decide +kernel
theorem dL_law_161 : decode cL_law 161 = .ok (.iconst 1, 1) := by decide +kernel
theorem dL_law_162 : decode cL_law 162 = .ok (.iadd, 1) := by decide +kernel
theorem dL_law_163 : decode cL_law 163 = .ok (.iaload, 1) := by decide +kernel
theorem dL_law_164 : decode cL_law 164 = .ok (.aload_n 0, 1) := by decide +kernel
theorem dL_law_165 : decode cL_law 165 = .ok (.iload_n 3, 1) := by decide +kernel
theorem dL_law_166 : decode cL_law 166 = .ok (.iconst 2, 1) := by decide +kernel
theorem dL_law_167 : decode cL_law 167 = .ok (.iadd, 1) := by decide +kernel
theorem dL_law_168 : decode cL_law 168 = .ok (.iaload, 1) := by decide +kernel
theorem dL_law_169 : decode cL_law 169 = .ok (.invokevirtual 17, 3) := by decide +kernel
theorem dL_law_172 : decode cL_law 172 = .ok (.if_icmp .eq 811, 3) := by decide +kernel
theorem dL_law_175 : decode cL_law 175 = .ok (.iconst 0, 1) := by decide +kernel
theorem dL_law_176 : decode cL_law 176 = .ok (.ireturn, 1) := by decide +kernel
theorem dL_law_177 : decode cL_law 177 = .ok (.aload_n 1, 1) := by decide +kernel
theorem dL_law_178 : decode cL_law 178 = .ok (.aload_n 0, 1) := by decide +kernel
theorem dL_law_179 : decode cL_law 179 = .ok (.iload_n 3, 1) := by decide +kernel
theorem dL_law_180 : decode cL_law 180 = .ok (.iconst 1, 1) := by decide +kernel
theorem dL_law_181 : decode cL_law 181 = .ok (.iadd, 1) := by decide +kernel
theorem dL_law_182 : decode cL_law 182 = .ok (.iaload, 1) := by decide +kernel
theorem dL_law_183 : decode cL_law 183 = .ok (.aload_n 0, 1) := by decide +kernel
theorem dL_law_184 : decode cL_law 184 = .ok (.iload_n 3, 1) := by decide +kernel
theorem dL_law_185 : decode cL_law 185 = .ok (.iconst 2, 1) := by decide +kernel
theorem dL_law_186 : decode cL_law 186 = .ok (.iadd, 1) := by decide +kernel
theorem dL_law_187 : decode cL_law 187 = .ok (.iaload, 1) := by decide +kernel
theorem dL_law_188 : decode cL_law 188 = .ok (.aload_n 0, 1) := by decide +kernel
theorem dL_law_189 : decode cL_law 189 = .ok (.iload_n 3, 1) := by decide +kernel
theorem dL_law_190 : decode cL_law 190 = .ok (.iconst 3, 1) := by decide +kernel
theorem dL_law_191 : decode cL_law 191 = .ok (.iadd, 1) := by decide +kernel
theorem dL_law_192 : decode cL_law 192 = .ok (.iaload, 1) := by decide +kernel
theorem dL_law_193 : decode cL_law 193 = .ok (.aload_n 0, 1) := by decide +kernel
theorem dL_law_194 : decode cL_law 194 = .ok (.iload_n 3, 1) := by decide +kernel
theorem dL_law_195 : decode cL_law 195 = .ok (.iconst 4, 1) := by decide +kernel
theorem dL_law_196 : decode cL_law 196 = .ok (.iadd, 1) := by decide +kernel
theorem dL_law_197 : decode cL_law 197 = .ok (.iaload, 1) := by decide +kernel
theorem dL_law_198 : decode cL_law 198 = .ok (.ifCond .eq 7, 3) := by decide +kernel
theorem dL_law_201 : decode cL_law 201 = .ok (.iconst 1, 1) := by decide +kernel
theorem dL_law_202 : decode cL_law 202 = .ok (.goto 4, 3) := by decide +kernel
theorem dL_law_205 : decode cL_law 205 = .ok (.iconst 0, 1) := by decide +kernel
theorem dL_law_206 : decode cL_law 206 = .ok (.invokevirtual 18, 3) := by decide +kernel
theorem dL_law_209 : decode cL_law 209 = .ok (.aload_n 2, 1) := by decide +kernel
theorem dL_law_210 : decode cL_law 210 = .ok (.aload_n 0, 1) := by decide +kernel
theorem dL_law_211 : decode cL_law 211 = .ok (.iload_n 3, 1) := by decide +kernel
theorem dL_law_212 : decode cL_law 212 = .ok (.iconst 1, 1) := by decide +kernel
theorem dL_law_213 : decode cL_law 213 = .ok (.iadd, 1) := by decide +kernel
theorem dL_law_214 : decode cL_law 214 = .ok (.iaload, 1) := by decide +kernel
theorem dL_law_215 : decode cL_law 215 = .ok (.aload_n 0, 1) := by decide +kernel
theorem dL_law_216 : decode cL_law 216 = .ok (.iload_n 3, 1) := by decide +kernel
theorem dL_law_217 : decode cL_law 217 = .ok (.iconst 2, 1) := by decide +kernel
theorem dL_law_218 : decode cL_law 218 = .ok (.iadd, 1) := by decide +kernel
theorem dL_law_219 : decode cL_law 219 = .ok (.iaload, 1) := by decide +kernel
theorem dL_law_220 : decode cL_law 220 = .ok (.aload_n 0, 1) := by decide +kernel
theorem dL_law_221 : decode cL_law 221 = .ok (.iload_n 3, 1) := by decide +kernel
theorem dL_law_222 : decode cL_law 222 = .ok (.iconst 3, 1) := by decide +kernel
theorem dL_law_223 : decode cL_law 223 = .ok (.iadd, 1) := by decide +kernel
theorem dL_law_224 : decode cL_law 224 = .ok (.iaload, 1) := by decide +kernel
theorem dL_law_225 : decode cL_law 225 = .ok (.aload_n 0, 1) := by decide +kernel
theorem dL_law_226 : decode cL_law 226 = .ok (.iload_n 3, 1) := by decide +kernel
theorem dL_law_227 : decode cL_law 227 = .ok (.iconst 4, 1) := by decide +kernel
theorem dL_law_228 : decode cL_law 228 = .ok (.iadd, 1) := by decide +kernel
theorem dL_law_229 : decode cL_law 229 = .ok (.iaload, 1) := by decide +kernel
theorem dL_law_230 : decode cL_law 230 = .ok (.ifCond .eq 7, 3) := by decide +kernel
theorem dL_law_233 : decode cL_law 233 = .ok (.iconst 1, 1) := by decide +kernel
theorem dL_law_234 : decode cL_law 234 = .ok (.goto 4, 3) := by decide +kernel
theorem dL_law_237 : decode cL_law 237 = .ok (.iconst 0, 1) := by decide +kernel
theorem dL_law_238 : decode cL_law 238 = .ok (.invokevirtual 22, 3) := by decide +kernel
theorem dL_law_241 : decode cL_law 241 = .ok (.if_icmp .eq 742, 3) := by decide +kernel
theorem dL_law_244 : decode cL_law 244 = .ok (.iconst 0, 1) := by decide +kernel
theorem dL_law_245 : decode cL_law 245 = .ok (.ireturn, 1) := by decide +kernel
theorem dL_law_246 : decode cL_law 246 = .ok (.aload_n 1, 1) := by decide +kernel
theorem dL_law_247 : decode cL_law 247 = .ok (.aload_n 0, 1) := by decide +kernel
theorem dL_law_248 : decode cL_law 248 = .ok (.iload_n 3, 1) := by decide +kernel
theorem dL_law_249 : decode cL_law 249 = .ok (.iconst 1, 1) := by decide +kernel
theorem dL_law_250 : decode cL_law 250 = .ok (.iadd, 1) := by decide +kernel
theorem dL_law_251 : decode cL_law 251 = .ok (.iaload, 1) := by decide +kernel
theorem dL_law_252 : decode cL_law 252 = .ok (.aload_n 0, 1) := by decide +kernel
theorem dL_law_253 : decode cL_law 253 = .ok (.iload_n 3, 1) := by decide +kernel
theorem dL_law_254 : decode cL_law 254 = .ok (.iconst 2, 1) := by decide +kernel
theorem dL_law_255 : decode cL_law 255 = .ok (.iadd, 1) := by decide +kernel
theorem dL_law_256 : decode cL_law 256 = .ok (.iaload, 1) := by decide +kernel
theorem dL_law_257 : decode cL_law 257 = .ok (.aload_n 0, 1) := by decide +kernel
theorem dL_law_258 : decode cL_law 258 = .ok (.iload_n 3, 1) := by decide +kernel
theorem dL_law_259 : decode cL_law 259 = .ok (.iconst 3, 1) := by decide +kernel
theorem dL_law_260 : decode cL_law 260 = .ok (.iadd, 1) := by decide +kernel
theorem dL_law_261 : decode cL_law 261 = .ok (.iaload, 1) := by decide +kernel
theorem dL_law_262 : decode cL_law 262 = .ok (.invokevirtual 23, 3) := by decide +kernel
theorem dL_law_265 : decode cL_law 265 = .ok (.aload_n 2, 1) := by decide +kernel
theorem dL_law_266 : decode cL_law 266 = .ok (.aload_n 0, 1) := by decide +kernel
theorem dL_law_267 : decode cL_law 267 = .ok (.iload_n 3, 1) := by decide +kernel
theorem dL_law_268 : decode cL_law 268 = .ok (.iconst 1, 1) := by decide +kernel
theorem dL_law_269 : decode cL_law 269 = .ok (.iadd, 1) := by decide +kernel
theorem dL_law_270 : decode cL_law 270 = .ok (.iaload, 1) := by decide +kernel
theorem dL_law_271 : decode cL_law 271 = .ok (.aload_n 0, 1) := by decide +kernel
theorem dL_law_272 : decode cL_law 272 = .ok (.iload_n 3, 1) := by decide +kernel
theorem dL_law_273 : decode cL_law 273 = .ok (.iconst 2, 1) := by decide +kernel
theorem dL_law_274 : decode cL_law 274 = .ok (.iadd, 1) := by decide +kernel
theorem dL_law_275 : decode cL_law 275 = .ok (.iaload, 1) := by decide +kernel
theorem dL_law_276 : decode cL_law 276 = .ok (.aload_n 0, 1) := by decide +kernel
theorem dL_law_277 : decode cL_law 277 = .ok (.iload_n 3, 1) := by decide +kernel
theorem dL_law_278 : decode cL_law 278 = .ok (.iconst 3, 1) := by decide +kernel
theorem dL_law_279 : decode cL_law 279 = .ok (.iadd, 1) := by decide +kernel
theorem dL_law_280 : decode cL_law 280 = .ok (.iaload, 1) := by decide +kernel
theorem dL_law_281 : decode cL_law 281 = .ok (.invokevirtual 27, 3) := by decide +kernel
theorem dL_law_284 : decode cL_law 284 = .ok (.if_icmp .eq 699, 3) := by decide +kernel
theorem dL_law_287 : decode cL_law 287 = .ok (.iconst 0, 1) := by decide +kernel
theorem dL_law_288 : decode cL_law 288 = .ok (.ireturn, 1) := by decide +kernel
theorem dL_law_289 : decode cL_law 289 = .ok (.aload_n 1, 1) := by decide +kernel
theorem dL_law_290 : decode cL_law 290 = .ok (.aload_n 0, 1) := by decide +kernel
theorem dL_law_291 : decode cL_law 291 = .ok (.iload_n 3, 1) := by decide +kernel
theorem dL_law_292 : decode cL_law 292 = .ok (.iconst 1, 1) := by decide +kernel
theorem dL_law_293 : decode cL_law 293 = .ok (.iadd, 1) := by decide +kernel
theorem dL_law_294 : decode cL_law 294 = .ok (.iaload, 1) := by decide +kernel
theorem dL_law_295 : decode cL_law 295 = .ok (.aload_n 0, 1) := by decide +kernel
theorem dL_law_296 : decode cL_law 296 = .ok (.iload_n 3, 1) := by decide +kernel
theorem dL_law_297 : decode cL_law 297 = .ok (.iconst 2, 1) := by decide +kernel
theorem dL_law_298 : decode cL_law 298 = .ok (.iadd, 1) := by decide +kernel
theorem dL_law_299 : decode cL_law 299 = .ok (.iaload, 1) := by decide +kernel
theorem dL_law_300 : decode cL_law 300 = .ok (.aload_n 0, 1) := by decide +kernel
theorem dL_law_301 : decode cL_law 301 = .ok (.iload_n 3, 1) := by decide +kernel
theorem dL_law_302 : decode cL_law 302 = .ok (.iconst 3, 1) := by decide +kernel
theorem dL_law_303 : decode cL_law 303 = .ok (.iadd, 1) := by decide +kernel
theorem dL_law_304 : decode cL_law 304 = .ok (.iaload, 1) := by decide +kernel
theorem dL_law_305 : decode cL_law 305 = .ok (.aload_n 0, 1) := by decide +kernel
theorem dL_law_306 : decode cL_law 306 = .ok (.iload_n 3, 1) := by decide +kernel
theorem dL_law_307 : decode cL_law 307 = .ok (.iconst 4, 1) := by decide +kernel
theorem dL_law_308 : decode cL_law 308 = .ok (.iadd, 1) := by decide +kernel
theorem dL_law_309 : decode cL_law 309 = .ok (.iaload, 1) := by decide +kernel
theorem dL_law_310 : decode cL_law 310 = .ok (.invokevirtual 28, 3) := by decide +kernel
theorem dL_law_313 : decode cL_law 313 = .ok (.aload_n 2, 1) := by decide +kernel
theorem dL_law_314 : decode cL_law 314 = .ok (.aload_n 0, 1) := by decide +kernel
theorem dL_law_315 : decode cL_law 315 = .ok (.iload_n 3, 1) := by decide +kernel
theorem dL_law_316 : decode cL_law 316 = .ok (.iconst 1, 1) := by decide +kernel
theorem dL_law_317 : decode cL_law 317 = .ok (.iadd, 1) := by decide +kernel
theorem dL_law_318 : decode cL_law 318 = .ok (.iaload, 1) := by decide +kernel
theorem dL_law_319 : decode cL_law 319 = .ok (.aload_n 0, 1) := by decide +kernel
theorem dL_law_320 : decode cL_law 320 = .ok (.iload_n 3, 1) := by decide +kernel
theorem dL_law_321 : decode cL_law 321 = .ok (.iconst 2, 1) := by decide +kernel
theorem dL_law_322 : decode cL_law 322 = .ok (.iadd, 1) := by decide +kernel
theorem dL_law_323 : decode cL_law 323 = .ok (.iaload, 1) := by decide +kernel
theorem dL_law_324 : decode cL_law 324 = .ok (.aload_n 0, 1) := by decide +kernel
theorem dL_law_325 : decode cL_law 325 = .ok (.iload_n 3, 1) := by decide +kernel
theorem dL_law_326 : decode cL_law 326 = .ok (.iconst 3, 1) := by decide +kernel
theorem dL_law_327 : decode cL_law 327 = .ok (.iadd, 1) := by decide +kernel
theorem dL_law_328 : decode cL_law 328 = .ok (.iaload, 1) := by decide +kernel
theorem dL_law_329 : decode cL_law 329 = .ok (.aload_n 0, 1) := by decide +kernel
theorem dL_law_330 : decode cL_law 330 = .ok (.iload_n 3, 1) := by decide +kernel
theorem dL_law_331 : decode cL_law 331 = .ok (.iconst 4, 1) := by decide +kernel
theorem dL_law_332 : decode cL_law 332 = .ok (.iadd, 1) := by decide +kernel
theorem dL_law_333 : decode cL_law 333 = .ok (.iaload, 1) := by decide +kernel
theorem dL_law_334 : decode cL_law 334 = .ok (.invokevirtual 32, 3) := by decide +kernel
theorem dL_law_337 : decode cL_law 337 = .ok (.if_icmp .eq 646, 3) := by decide +kernel
theorem dL_law_340 : decode cL_law 340 = .ok (.iconst 0, 1) := by decide +kernel
theorem dL_law_341 : decode cL_law 341 = .ok (.ireturn, 1) := by decide +kernel
theorem dL_law_342 : decode cL_law 342 = .ok (.aload_n 1, 1) := by decide +kernel
theorem dL_law_343 : decode cL_law 343 = .ok (.aload_n 0, 1) := by decide +kernel
theorem dL_law_344 : decode cL_law 344 = .ok (.iload_n 3, 1) := by decide +kernel
theorem dL_law_345 : decode cL_law 345 = .ok (.iconst 1, 1) := by decide +kernel
theorem dL_law_346 : decode cL_law 346 = .ok (.iadd, 1) := by decide +kernel
theorem dL_law_347 : decode cL_law 347 = .ok (.iaload, 1) := by decide +kernel
theorem dL_law_348 : decode cL_law 348 = .ok (.aload_n 0, 1) := by decide +kernel
theorem dL_law_349 : decode cL_law 349 = .ok (.iload_n 3, 1) := by decide +kernel
theorem dL_law_350 : decode cL_law 350 = .ok (.iconst 2, 1) := by decide +kernel
theorem dL_law_351 : decode cL_law 351 = .ok (.iadd, 1) := by decide +kernel
theorem dL_law_352 : decode cL_law 352 = .ok (.iaload, 1) := by decide +kernel
theorem dL_law_353 : decode cL_law 353 = .ok (.aload_n 0, 1) := by decide +kernel
theorem dL_law_354 : decode cL_law 354 = .ok (.iload_n 3, 1) := by decide +kernel
theorem dL_law_355 : decode cL_law 355 = .ok (.iconst 3, 1) := by decide +kernel
theorem dL_law_356 : decode cL_law 356 = .ok (.iadd, 1) := by decide +kernel
theorem dL_law_357 : decode cL_law 357 = .ok (.iaload, 1) := by decide +kernel
theorem dL_law_358 : decode cL_law 358 = .ok (.aload_n 0, 1) := by decide +kernel
theorem dL_law_359 : decode cL_law 359 = .ok (.iload_n 3, 1) := by decide +kernel
theorem dL_law_360 : decode cL_law 360 = .ok (.iconst 4, 1) := by decide +kernel
theorem dL_law_361 : decode cL_law 361 = .ok (.iadd, 1) := by decide +kernel
theorem dL_law_362 : decode cL_law 362 = .ok (.iaload, 1) := by decide +kernel
theorem dL_law_363 : decode cL_law 363 = .ok (.invokevirtual 33, 3) := by decide +kernel
theorem dL_law_366 : decode cL_law 366 = .ok (.aload_n 2, 1) := by decide +kernel
theorem dL_law_367 : decode cL_law 367 = .ok (.aload_n 0, 1) := by decide +kernel
theorem dL_law_368 : decode cL_law 368 = .ok (.iload_n 3, 1) := by decide +kernel
theorem dL_law_369 : decode cL_law 369 = .ok (.iconst 1, 1) := by decide +kernel
theorem dL_law_370 : decode cL_law 370 = .ok (.iadd, 1) := by decide +kernel
theorem dL_law_371 : decode cL_law 371 = .ok (.iaload, 1) := by decide +kernel
theorem dL_law_372 : decode cL_law 372 = .ok (.aload_n 0, 1) := by decide +kernel
theorem dL_law_373 : decode cL_law 373 = .ok (.iload_n 3, 1) := by decide +kernel
theorem dL_law_374 : decode cL_law 374 = .ok (.iconst 2, 1) := by decide +kernel
theorem dL_law_375 : decode cL_law 375 = .ok (.iadd, 1) := by decide +kernel
theorem dL_law_376 : decode cL_law 376 = .ok (.iaload, 1) := by decide +kernel
theorem dL_law_377 : decode cL_law 377 = .ok (.aload_n 0, 1) := by decide +kernel
theorem dL_law_378 : decode cL_law 378 = .ok (.iload_n 3, 1) := by decide +kernel
theorem dL_law_379 : decode cL_law 379 = .ok (.iconst 3, 1) := by decide +kernel
theorem dL_law_380 : decode cL_law 380 = .ok (.iadd, 1) := by decide +kernel
theorem dL_law_381 : decode cL_law 381 = .ok (.iaload, 1) := by decide +kernel
theorem dL_law_382 : decode cL_law 382 = .ok (.aload_n 0, 1) := by decide +kernel
theorem dL_law_383 : decode cL_law 383 = .ok (.iload_n 3, 1) := by decide +kernel
theorem dL_law_384 : decode cL_law 384 = .ok (.iconst 4, 1) := by decide +kernel
theorem dL_law_385 : decode cL_law 385 = .ok (.iadd, 1) := by decide +kernel
theorem dL_law_386 : decode cL_law 386 = .ok (.iaload, 1) := by decide +kernel
theorem dL_law_387 : decode cL_law 387 = .ok (.invokevirtual 36, 3) := by decide +kernel
theorem dL_law_390 : decode cL_law 390 = .ok (.if_icmp .eq 593, 3) := by decide +kernel
theorem dL_law_393 : decode cL_law 393 = .ok (.iconst 0, 1) := by decide +kernel
theorem dL_law_394 : decode cL_law 394 = .ok (.ireturn, 1) := by decide +kernel
theorem dL_law_395 : decode cL_law 395 = .ok (.aload_n 1, 1) := by decide +kernel
theorem dL_law_396 : decode cL_law 396 = .ok (.aload_n 0, 1) := by decide +kernel
theorem dL_law_397 : decode cL_law 397 = .ok (.iload_n 3, 1) := by decide +kernel
theorem dL_law_398 : decode cL_law 398 = .ok (.iconst 1, 1) := by decide +kernel
theorem dL_law_399 : decode cL_law 399 = .ok (.iadd, 1) := by decide +kernel
theorem dL_law_400 : decode cL_law 400 = .ok (.iaload, 1) := by decide +kernel
theorem dL_law_401 : decode cL_law 401 = .ok (.aload_n 0, 1) := by decide +kernel
theorem dL_law_402 : decode cL_law 402 = .ok (.iload_n 3, 1) := by decide +kernel
theorem dL_law_403 : decode cL_law 403 = .ok (.iconst 2, 1) := by decide +kernel
theorem dL_law_404 : decode cL_law 404 = .ok (.iadd, 1) := by decide +kernel
theorem dL_law_405 : decode cL_law 405 = .ok (.iaload, 1) := by decide +kernel
theorem dL_law_406 : decode cL_law 406 = .ok (.invokevirtual 37, 3) := by decide +kernel
theorem dL_law_409 : decode cL_law 409 = .ok (.aload_n 2, 1) := by decide +kernel
theorem dL_law_410 : decode cL_law 410 = .ok (.aload_n 0, 1) := by decide +kernel
theorem dL_law_411 : decode cL_law 411 = .ok (.iload_n 3, 1) := by decide +kernel
theorem dL_law_412 : decode cL_law 412 = .ok (.iconst 1, 1) := by decide +kernel
theorem dL_law_413 : decode cL_law 413 = .ok (.iadd, 1) := by decide +kernel
theorem dL_law_414 : decode cL_law 414 = .ok (.iaload, 1) := by decide +kernel
theorem dL_law_415 : decode cL_law 415 = .ok (.aload_n 0, 1) := by decide +kernel
theorem dL_law_416 : decode cL_law 416 = .ok (.iload_n 3, 1) := by decide +kernel
theorem dL_law_417 : decode cL_law 417 = .ok (.iconst 2, 1) := by decide +kernel
theorem dL_law_418 : decode cL_law 418 = .ok (.iadd, 1) := by decide +kernel
theorem dL_law_419 : decode cL_law 419 = .ok (.iaload, 1) := by decide +kernel
theorem dL_law_420 : decode cL_law 420 = .ok (.invokevirtual 40, 3) := by decide +kernel
theorem dL_law_423 : decode cL_law 423 = .ok (.if_icmp .eq 560, 3) := by decide +kernel
theorem dL_law_426 : decode cL_law 426 = .ok (.iconst 0, 1) := by decide +kernel
theorem dL_law_427 : decode cL_law 427 = .ok (.ireturn, 1) := by decide +kernel
theorem dL_law_428 : decode cL_law 428 = .ok (.aload_n 1, 1) := by decide +kernel
theorem dL_law_429 : decode cL_law 429 = .ok (.aload_n 0, 1) := by decide +kernel
theorem dL_law_430 : decode cL_law 430 = .ok (.iload_n 3, 1) := by decide +kernel
theorem dL_law_431 : decode cL_law 431 = .ok (.iconst 1, 1) := by decide +kernel
theorem dL_law_432 : decode cL_law 432 = .ok (.iadd, 1) := by decide +kernel
theorem dL_law_433 : decode cL_law 433 = .ok (.iaload, 1) := by decide +kernel
theorem dL_law_434 : decode cL_law 434 = .ok (.aload_n 0, 1) := by decide +kernel
theorem dL_law_435 : decode cL_law 435 = .ok (.iload_n 3, 1) := by decide +kernel
theorem dL_law_436 : decode cL_law 436 = .ok (.iconst 2, 1) := by decide +kernel
theorem dL_law_437 : decode cL_law 437 = .ok (.iadd, 1) := by decide +kernel
theorem dL_law_438 : decode cL_law 438 = .ok (.iaload, 1) := by decide +kernel
theorem dL_law_439 : decode cL_law 439 = .ok (.aload_n 0, 1) := by decide +kernel
theorem dL_law_440 : decode cL_law 440 = .ok (.iload_n 3, 1) := by decide +kernel
theorem dL_law_441 : decode cL_law 441 = .ok (.iconst 3, 1) := by decide +kernel
theorem dL_law_442 : decode cL_law 442 = .ok (.iadd, 1) := by decide +kernel
theorem dL_law_443 : decode cL_law 443 = .ok (.iaload, 1) := by decide +kernel
theorem dL_law_444 : decode cL_law 444 = .ok (.invokevirtual 41, 3) := by decide +kernel
theorem dL_law_447 : decode cL_law 447 = .ok (.aload_n 2, 1) := by decide +kernel
theorem dL_law_448 : decode cL_law 448 = .ok (.aload_n 0, 1) := by decide +kernel
theorem dL_law_449 : decode cL_law 449 = .ok (.iload_n 3, 1) := by decide +kernel
theorem dL_law_450 : decode cL_law 450 = .ok (.iconst 1, 1) := by decide +kernel
theorem dL_law_451 : decode cL_law 451 = .ok (.iadd, 1) := by decide +kernel
theorem dL_law_452 : decode cL_law 452 = .ok (.iaload, 1) := by decide +kernel
theorem dL_law_453 : decode cL_law 453 = .ok (.aload_n 0, 1) := by decide +kernel
theorem dL_law_454 : decode cL_law 454 = .ok (.iload_n 3, 1) := by decide +kernel
theorem dL_law_455 : decode cL_law 455 = .ok (.iconst 2, 1) := by decide +kernel
theorem dL_law_456 : decode cL_law 456 = .ok (.iadd, 1) := by decide +kernel
theorem dL_law_457 : decode cL_law 457 = .ok (.iaload, 1) := by decide +kernel
theorem dL_law_458 : decode cL_law 458 = .ok (.aload_n 0, 1) := by decide +kernel
theorem dL_law_459 : decode cL_law 459 = .ok (.iload_n 3, 1) := by decide +kernel
theorem dL_law_460 : decode cL_law 460 = .ok (.iconst 3, 1) := by decide +kernel
theorem dL_law_461 : decode cL_law 461 = .ok (.iadd, 1) := by decide +kernel
theorem dL_law_462 : decode cL_law 462 = .ok (.iaload, 1) := by decide +kernel
theorem dL_law_463 : decode cL_law 463 = .ok (.invokevirtual 44, 3) := by decide +kernel
theorem dL_law_466 : decode cL_law 466 = .ok (.if_icmp .eq 517, 3) := by decide +kernel
theorem dL_law_469 : decode cL_law 469 = .ok (.iconst 0, 1) := by decide +kernel
theorem dL_law_470 : decode cL_law 470 = .ok (.ireturn, 1) := by decide +kernel
theorem dL_law_471 : decode cL_law 471 = .ok (.aload_n 1, 1) := by decide +kernel
theorem dL_law_472 : decode cL_law 472 = .ok (.aload_n 0, 1) := by decide +kernel
theorem dL_law_473 : decode cL_law 473 = .ok (.iload_n 3, 1) := by decide +kernel
theorem dL_law_474 : decode cL_law 474 = .ok (.iconst 1, 1) := by decide +kernel
theorem dL_law_475 : decode cL_law 475 = .ok (.iadd, 1) := by decide +kernel
theorem dL_law_476 : decode cL_law 476 = .ok (.iaload, 1) := by decide +kernel
theorem dL_law_477 : decode cL_law 477 = .ok (.aload_n 0, 1) := by decide +kernel
theorem dL_law_478 : decode cL_law 478 = .ok (.iload_n 3, 1) := by decide +kernel
theorem dL_law_479 : decode cL_law 479 = .ok (.iconst 2, 1) := by decide +kernel
theorem dL_law_480 : decode cL_law 480 = .ok (.iadd, 1) := by decide +kernel
theorem dL_law_481 : decode cL_law 481 = .ok (.iaload, 1) := by decide +kernel
theorem dL_law_482 : decode cL_law 482 = .ok (.aload_n 0, 1) := by decide +kernel
theorem dL_law_483 : decode cL_law 483 = .ok (.iload_n 3, 1) := by decide +kernel
theorem dL_law_484 : decode cL_law 484 = .ok (.iconst 3, 1) := by decide +kernel
theorem dL_law_485 : decode cL_law 485 = .ok (.iadd, 1) := by decide +kernel
theorem dL_law_486 : decode cL_law 486 = .ok (.iaload, 1) := by decide +kernel
theorem dL_law_487 : decode cL_law 487 = .ok (.invokevirtual 45, 3) := by decide +kernel
theorem dL_law_490 : decode cL_law 490 = .ok (.aload_n 2, 1) := by decide +kernel
theorem dL_law_491 : decode cL_law 491 = .ok (.aload_n 0, 1) := by decide +kernel
theorem dL_law_492 : decode cL_law 492 = .ok (.iload_n 3, 1) := by decide +kernel
theorem dL_law_493 : decode cL_law 493 = .ok (.iconst 1, 1) := by decide +kernel
theorem dL_law_494 : decode cL_law 494 = .ok (.iadd, 1) := by decide +kernel
theorem dL_law_495 : decode cL_law 495 = .ok (.iaload, 1) := by decide +kernel
theorem dL_law_496 : decode cL_law 496 = .ok (.aload_n 0, 1) := by decide +kernel
theorem dL_law_497 : decode cL_law 497 = .ok (.iload_n 3, 1) := by decide +kernel
theorem dL_law_498 : decode cL_law 498 = .ok (.iconst 2, 1) := by decide +kernel
theorem dL_law_499 : decode cL_law 499 = .ok (.iadd, 1) := by decide +kernel
theorem dL_law_500 : decode cL_law 500 = .ok (.iaload, 1) := by decide +kernel
theorem dL_law_501 : decode cL_law 501 = .ok (.aload_n 0, 1) := by decide +kernel
theorem dL_law_502 : decode cL_law 502 = .ok (.iload_n 3, 1) := by decide +kernel
theorem dL_law_503 : decode cL_law 503 = .ok (.iconst 3, 1) := by decide +kernel
theorem dL_law_504 : decode cL_law 504 = .ok (.iadd, 1) := by decide +kernel
theorem dL_law_505 : decode cL_law 505 = .ok (.iaload, 1) := by decide +kernel
theorem dL_law_506 : decode cL_law 506 = .ok (.invokevirtual 48, 3) := by decide +kernel
theorem dL_law_509 : decode cL_law 509 = .ok (.if_icmp .eq 474, 3) := by decide +kernel
theorem dL_law_512 : decode cL_law 512 = .ok (.iconst 0, 1) := by decide +kernel
theorem dL_law_513 : decode cL_law 513 = .ok (.ireturn, 1) := by decide +kernel
theorem dL_law_514 : decode cL_law 514 = .ok (.aload_n 1, 1) := by decide +kernel
theorem dL_law_515 : decode cL_law 515 = .ok (.aload_n 0, 1) := by decide +kernel
theorem dL_law_516 : decode cL_law 516 = .ok (.iload_n 3, 1) := by decide +kernel
theorem dL_law_517 : decode cL_law 517 = .ok (.iconst 1, 1) := by decide +kernel
theorem dL_law_518 : decode cL_law 518 = .ok (.iadd, 1) := by decide +kernel
theorem dL_law_519 : decode cL_law 519 = .ok (.iaload, 1) := by decide +kernel
theorem dL_law_520 : decode cL_law 520 = .ok (.aload_n 0, 1) := by decide +kernel
theorem dL_law_521 : decode cL_law 521 = .ok (.iload_n 3, 1) := by decide +kernel
theorem dL_law_522 : decode cL_law 522 = .ok (.iconst 2, 1) := by decide +kernel
theorem dL_law_523 : decode cL_law 523 = .ok (.iadd, 1) := by decide +kernel
theorem dL_law_524 : decode cL_law 524 = .ok (.iaload, 1) := by decide +kernel
theorem dL_law_525 : decode cL_law 525 = .ok (.aload_n 0, 1) := by decide +kernel
theorem dL_law_526 : decode cL_law 526 = .ok (.iload_n 3, 1) := by decide +kernel
theorem dL_law_527 : decode cL_law 527 = .ok (.iconst 3, 1) := by decide +kernel
theorem dL_law_528 : decode cL_law 528 = .ok (.iadd, 1) := by decide +kernel
theorem dL_law_529 : decode cL_law 529 = .ok (.iaload, 1) := by decide +kernel
theorem dL_law_530 : decode cL_law 530 = .ok (.aload_n 0, 1) := by decide +kernel
theorem dL_law_531 : decode cL_law 531 = .ok (.iload_n 3, 1) := by decide +kernel
theorem dL_law_532 : decode cL_law 532 = .ok (.iconst 4, 1) := by decide +kernel
theorem dL_law_533 : decode cL_law 533 = .ok (.iadd, 1) := by decide +kernel
theorem dL_law_534 : decode cL_law 534 = .ok (.iaload, 1) := by decide +kernel
theorem dL_law_535 : decode cL_law 535 = .ok (.invokevirtual 49, 3) := by decide +kernel
theorem dL_law_538 : decode cL_law 538 = .ok (.aload_n 2, 1) := by decide +kernel
theorem dL_law_539 : decode cL_law 539 = .ok (.aload_n 0, 1) := by decide +kernel
theorem dL_law_540 : decode cL_law 540 = .ok (.iload_n 3, 1) := by decide +kernel
theorem dL_law_541 : decode cL_law 541 = .ok (.iconst 1, 1) := by decide +kernel
theorem dL_law_542 : decode cL_law 542 = .ok (.iadd, 1) := by decide +kernel
theorem dL_law_543 : decode cL_law 543 = .ok (.iaload, 1) := by decide +kernel
theorem dL_law_544 : decode cL_law 544 = .ok (.aload_n 0, 1) := by decide +kernel
theorem dL_law_545 : decode cL_law 545 = .ok (.iload_n 3, 1) := by decide +kernel
theorem dL_law_546 : decode cL_law 546 = .ok (.iconst 2, 1) := by decide +kernel
theorem dL_law_547 : decode cL_law 547 = .ok (.iadd, 1) := by decide +kernel
theorem dL_law_548 : decode cL_law 548 = .ok (.iaload, 1) := by decide +kernel
theorem dL_law_549 : decode cL_law 549 = .ok (.aload_n 0, 1) := by decide +kernel
theorem dL_law_550 : decode cL_law 550 = .ok (.iload_n 3, 1) := by decide +kernel
theorem dL_law_551 : decode cL_law 551 = .ok (.iconst 3, 1) := by decide +kernel
theorem dL_law_552 : decode cL_law 552 = .ok (.iadd, 1) := by decide +kernel
theorem dL_law_553 : decode cL_law 553 = .ok (.iaload, 1) := by decide +kernel
theorem dL_law_554 : decode cL_law 554 = .ok (.aload_n 0, 1) := by decide +kernel
theorem dL_law_555 : decode cL_law 555 = .ok (.iload_n 3, 1) := by decide +kernel
theorem dL_law_556 : decode cL_law 556 = .ok (.iconst 4, 1) := by decide +kernel
theorem dL_law_557 : decode cL_law 557 = .ok (.iadd, 1) := by decide +kernel
theorem dL_law_558 : decode cL_law 558 = .ok (.iaload, 1) := by decide +kernel
theorem dL_law_559 : decode cL_law 559 = .ok (.invokevirtual 52, 3) := by decide +kernel
theorem dL_law_562 : decode cL_law 562 = .ok (.if_icmp .eq 421, 3) := by decide +kernel
theorem dL_law_565 : decode cL_law 565 = .ok (.iconst 0, 1) := by decide +kernel
theorem dL_law_566 : decode cL_law 566 = .ok (.ireturn, 1) := by decide +kernel
theorem dL_law_567 : decode cL_law 567 = .ok (.aload_n 1, 1) := by decide +kernel
theorem dL_law_568 : decode cL_law 568 = .ok (.aload_n 0, 1) := by decide +kernel
theorem dL_law_569 : decode cL_law 569 = .ok (.iload_n 3, 1) := by decide +kernel
theorem dL_law_570 : decode cL_law 570 = .ok (.iconst 1, 1) := by decide +kernel
theorem dL_law_571 : decode cL_law 571 = .ok (.iadd, 1) := by decide +kernel
theorem dL_law_572 : decode cL_law 572 = .ok (.iaload, 1) := by decide +kernel
theorem dL_law_573 : decode cL_law 573 = .ok (.aload_n 0, 1) := by decide +kernel
theorem dL_law_574 : decode cL_law 574 = .ok (.iload_n 3, 1) := by decide +kernel
theorem dL_law_575 : decode cL_law 575 = .ok (.iconst 2, 1) := by decide +kernel
theorem dL_law_576 : decode cL_law 576 = .ok (.iadd, 1) := by decide +kernel
theorem dL_law_577 : decode cL_law 577 = .ok (.iaload, 1) := by decide +kernel
theorem dL_law_578 : decode cL_law 578 = .ok (.aload_n 0, 1) := by decide +kernel
theorem dL_law_579 : decode cL_law 579 = .ok (.iload_n 3, 1) := by decide +kernel
theorem dL_law_580 : decode cL_law 580 = .ok (.iconst 3, 1) := by decide +kernel
theorem dL_law_581 : decode cL_law 581 = .ok (.iadd, 1) := by decide +kernel
theorem dL_law_582 : decode cL_law 582 = .ok (.iaload, 1) := by decide +kernel
theorem dL_law_583 : decode cL_law 583 = .ok (.invokevirtual 53, 3) := by decide +kernel
theorem dL_law_586 : decode cL_law 586 = .ok (.aload_n 2, 1) := by decide +kernel
theorem dL_law_587 : decode cL_law 587 = .ok (.aload_n 0, 1) := by decide +kernel
theorem dL_law_588 : decode cL_law 588 = .ok (.iload_n 3, 1) := by decide +kernel
theorem dL_law_589 : decode cL_law 589 = .ok (.iconst 1, 1) := by decide +kernel
theorem dL_law_590 : decode cL_law 590 = .ok (.iadd, 1) := by decide +kernel
theorem dL_law_591 : decode cL_law 591 = .ok (.iaload, 1) := by decide +kernel
theorem dL_law_592 : decode cL_law 592 = .ok (.aload_n 0, 1) := by decide +kernel
theorem dL_law_593 : decode cL_law 593 = .ok (.iload_n 3, 1) := by decide +kernel
theorem dL_law_594 : decode cL_law 594 = .ok (.iconst 2, 1) := by decide +kernel
theorem dL_law_595 : decode cL_law 595 = .ok (.iadd, 1) := by decide +kernel
theorem dL_law_596 : decode cL_law 596 = .ok (.iaload, 1) := by decide +kernel
theorem dL_law_597 : decode cL_law 597 = .ok (.aload_n 0, 1) := by decide +kernel
theorem dL_law_598 : decode cL_law 598 = .ok (.iload_n 3, 1) := by decide +kernel
theorem dL_law_599 : decode cL_law 599 = .ok (.iconst 3, 1) := by decide +kernel
theorem dL_law_600 : decode cL_law 600 = .ok (.iadd, 1) := by decide +kernel
theorem dL_law_601 : decode cL_law 601 = .ok (.iaload, 1) := by decide +kernel
theorem dL_law_602 : decode cL_law 602 = .ok (.invokevirtual 56, 3) := by decide +kernel
theorem dL_law_605 : decode cL_law 605 = .ok (.if_icmp .eq 378, 3) := by decide +kernel
theorem dL_law_608 : decode cL_law 608 = .ok (.iconst 0, 1) := by decide +kernel
theorem dL_law_609 : decode cL_law 609 = .ok (.ireturn, 1) := by decide +kernel
theorem dL_law_610 : decode cL_law 610 = .ok (.aload_n 1, 1) := by decide +kernel
theorem dL_law_611 : decode cL_law 611 = .ok (.aload_n 0, 1) := by decide +kernel
theorem dL_law_612 : decode cL_law 612 = .ok (.iload_n 3, 1) := by decide +kernel
theorem dL_law_613 : decode cL_law 613 = .ok (.iconst 1, 1) := by decide +kernel
theorem dL_law_614 : decode cL_law 614 = .ok (.iadd, 1) := by decide +kernel
theorem dL_law_615 : decode cL_law 615 = .ok (.iaload, 1) := by decide +kernel
theorem dL_law_616 : decode cL_law 616 = .ok (.aload_n 0, 1) := by decide +kernel
theorem dL_law_617 : decode cL_law 617 = .ok (.iload_n 3, 1) := by decide +kernel
theorem dL_law_618 : decode cL_law 618 = .ok (.iconst 2, 1) := by decide +kernel
theorem dL_law_619 : decode cL_law 619 = .ok (.iadd, 1) := by decide +kernel
theorem dL_law_620 : decode cL_law 620 = .ok (.iaload, 1) := by decide +kernel
theorem dL_law_621 : decode cL_law 621 = .ok (.aload_n 0, 1) := by decide +kernel
theorem dL_law_622 : decode cL_law 622 = .ok (.iload_n 3, 1) := by decide +kernel
theorem dL_law_623 : decode cL_law 623 = .ok (.iconst 3, 1) := by decide +kernel
theorem dL_law_624 : decode cL_law 624 = .ok (.iadd, 1) := by decide +kernel
theorem dL_law_625 : decode cL_law 625 = .ok (.iaload, 1) := by decide +kernel
theorem dL_law_626 : decode cL_law 626 = .ok (.invokevirtual 57, 3) := by decide +kernel
theorem dL_law_629 : decode cL_law 629 = .ok (.aload_n 2, 1) := by decide +kernel
theorem dL_law_630 : decode cL_law 630 = .ok (.aload_n 0, 1) := by decide +kernel
theorem dL_law_631 : decode cL_law 631 = .ok (.iload_n 3, 1) := by decide +kernel
theorem dL_law_632 : decode cL_law 632 = .ok (.iconst 1, 1) := by decide +kernel
theorem dL_law_633 : decode cL_law 633 = .ok (.iadd, 1) := by decide +kernel
theorem dL_law_634 : decode cL_law 634 = .ok (.iaload, 1) := by decide +kernel
theorem dL_law_635 : decode cL_law 635 = .ok (.aload_n 0, 1) := by decide +kernel
theorem dL_law_636 : decode cL_law 636 = .ok (.iload_n 3, 1) := by decide +kernel
theorem dL_law_637 : decode cL_law 637 = .ok (.iconst 2, 1) := by decide +kernel
theorem dL_law_638 : decode cL_law 638 = .ok (.iadd, 1) := by decide +kernel
theorem dL_law_639 : decode cL_law 639 = .ok (.iaload, 1) := by decide +kernel
theorem dL_law_640 : decode cL_law 640 = .ok (.aload_n 0, 1) := by decide +kernel
theorem dL_law_641 : decode cL_law 641 = .ok (.iload_n 3, 1) := by decide +kernel
theorem dL_law_642 : decode cL_law 642 = .ok (.iconst 3, 1) := by decide +kernel
theorem dL_law_643 : decode cL_law 643 = .ok (.iadd, 1) := by decide +kernel
theorem dL_law_644 : decode cL_law 644 = .ok (.iaload, 1) := by decide +kernel
theorem dL_law_645 : decode cL_law 645 = .ok (.invokevirtual 60, 3) := by decide +kernel
theorem dL_law_648 : decode cL_law 648 = .ok (.if_icmp .eq 335, 3) := by decide +kernel
theorem dL_law_651 : decode cL_law 651 = .ok (.iconst 0, 1) := by decide +kernel
theorem dL_law_652 : decode cL_law 652 = .ok (.ireturn, 1) := by decide +kernel
theorem dL_law_653 : decode cL_law 653 = .ok (.aload_n 1, 1) := by decide +kernel
theorem dL_law_654 : decode cL_law 654 = .ok (.aload_n 0, 1) := by decide +kernel
theorem dL_law_655 : decode cL_law 655 = .ok (.iload_n 3, 1) := by decide +kernel
theorem dL_law_656 : decode cL_law 656 = .ok (.iconst 1, 1) := by decide +kernel
theorem dL_law_657 : decode cL_law 657 = .ok (.iadd, 1) := by decide +kernel
theorem dL_law_658 : decode cL_law 658 = .ok (.iaload, 1) := by decide +kernel
theorem dL_law_659 : decode cL_law 659 = .ok (.aload_n 0, 1) := by decide +kernel
theorem dL_law_660 : decode cL_law 660 = .ok (.iload_n 3, 1) := by decide +kernel
theorem dL_law_661 : decode cL_law 661 = .ok (.iconst 2, 1) := by decide +kernel
theorem dL_law_662 : decode cL_law 662 = .ok (.iadd, 1) := by decide +kernel
theorem dL_law_663 : decode cL_law 663 = .ok (.iaload, 1) := by decide +kernel
theorem dL_law_664 : decode cL_law 664 = .ok (.aload_n 0, 1) := by decide +kernel
theorem dL_law_665 : decode cL_law 665 = .ok (.iload_n 3, 1) := by decide +kernel
theorem dL_law_666 : decode cL_law 666 = .ok (.iconst 3, 1) := by decide +kernel
theorem dL_law_667 : decode cL_law 667 = .ok (.iadd, 1) := by decide +kernel
theorem dL_law_668 : decode cL_law 668 = .ok (.iaload, 1) := by decide +kernel
theorem dL_law_669 : decode cL_law 669 = .ok (.invokevirtual 61, 3) := by decide +kernel
theorem dL_law_672 : decode cL_law 672 = .ok (.aload_n 2, 1) := by decide +kernel
theorem dL_law_673 : decode cL_law 673 = .ok (.aload_n 0, 1) := by decide +kernel
theorem dL_law_674 : decode cL_law 674 = .ok (.iload_n 3, 1) := by decide +kernel
theorem dL_law_675 : decode cL_law 675 = .ok (.iconst 1, 1) := by decide +kernel
theorem dL_law_676 : decode cL_law 676 = .ok (.iadd, 1) := by decide +kernel
theorem dL_law_677 : decode cL_law 677 = .ok (.iaload, 1) := by decide +kernel
theorem dL_law_678 : decode cL_law 678 = .ok (.aload_n 0, 1) := by decide +kernel
theorem dL_law_679 : decode cL_law 679 = .ok (.iload_n 3, 1) := by decide +kernel
theorem dL_law_680 : decode cL_law 680 = .ok (.iconst 2, 1) := by decide +kernel
theorem dL_law_681 : decode cL_law 681 = .ok (.iadd, 1) := by decide +kernel
theorem dL_law_682 : decode cL_law 682 = .ok (.iaload, 1) := by decide +kernel
theorem dL_law_683 : decode cL_law 683 = .ok (.aload_n 0, 1) := by decide +kernel
theorem dL_law_684 : decode cL_law 684 = .ok (.iload_n 3, 1) := by decide +kernel
theorem dL_law_685 : decode cL_law 685 = .ok (.iconst 3, 1) := by decide +kernel
theorem dL_law_686 : decode cL_law 686 = .ok (.iadd, 1) := by decide +kernel
theorem dL_law_687 : decode cL_law 687 = .ok (.iaload, 1) := by decide +kernel
theorem dL_law_688 : decode cL_law 688 = .ok (.invokevirtual 64, 3) := by decide +kernel
theorem dL_law_691 : decode cL_law 691 = .ok (.if_icmp .eq 292, 3) := by decide +kernel
theorem dL_law_694 : decode cL_law 694 = .ok (.iconst 0, 1) := by decide +kernel
theorem dL_law_695 : decode cL_law 695 = .ok (.ireturn, 1) := by decide +kernel
theorem dL_law_696 : decode cL_law 696 = .ok (.aload_n 1, 1) := by decide +kernel
theorem dL_law_697 : decode cL_law 697 = .ok (.aload_n 0, 1) := by decide +kernel
theorem dL_law_698 : decode cL_law 698 = .ok (.iload_n 3, 1) := by decide +kernel
theorem dL_law_699 : decode cL_law 699 = .ok (.iconst 1, 1) := by decide +kernel
theorem dL_law_700 : decode cL_law 700 = .ok (.iadd, 1) := by decide +kernel
theorem dL_law_701 : decode cL_law 701 = .ok (.iaload, 1) := by decide +kernel
theorem dL_law_702 : decode cL_law 702 = .ok (.aload_n 0, 1) := by decide +kernel
theorem dL_law_703 : decode cL_law 703 = .ok (.iload_n 3, 1) := by decide +kernel
theorem dL_law_704 : decode cL_law 704 = .ok (.iconst 2, 1) := by decide +kernel
theorem dL_law_705 : decode cL_law 705 = .ok (.iadd, 1) := by decide +kernel
theorem dL_law_706 : decode cL_law 706 = .ok (.iaload, 1) := by decide +kernel
theorem dL_law_707 : decode cL_law 707 = .ok (.aload_n 0, 1) := by decide +kernel
theorem dL_law_708 : decode cL_law 708 = .ok (.iload_n 3, 1) := by decide +kernel
theorem dL_law_709 : decode cL_law 709 = .ok (.iconst 3, 1) := by decide +kernel
theorem dL_law_710 : decode cL_law 710 = .ok (.iadd, 1) := by decide +kernel
theorem dL_law_711 : decode cL_law 711 = .ok (.iaload, 1) := by decide +kernel
theorem dL_law_712 : decode cL_law 712 = .ok (.invokevirtual 65, 3) := by decide +kernel
theorem dL_law_715 : decode cL_law 715 = .ok (.aload_n 2, 1) := by decide +kernel
theorem dL_law_716 : decode cL_law 716 = .ok (.aload_n 0, 1) := by decide +kernel
theorem dL_law_717 : decode cL_law 717 = .ok (.iload_n 3, 1) := by decide +kernel
theorem dL_law_718 : decode cL_law 718 = .ok (.iconst 1, 1) := by decide +kernel
theorem dL_law_719 : decode cL_law 719 = .ok (.iadd, 1) := by decide +kernel
theorem dL_law_720 : decode cL_law 720 = .ok (.iaload, 1) := by decide +kernel
theorem dL_law_721 : decode cL_law 721 = .ok (.aload_n 0, 1) := by decide +kernel
theorem dL_law_722 : decode cL_law 722 = .ok (.iload_n 3, 1) := by decide +kernel
theorem dL_law_723 : decode cL_law 723 = .ok (.iconst 2, 1) := by decide +kernel
theorem dL_law_724 : decode cL_law 724 = .ok (.iadd, 1) := by decide +kernel
theorem dL_law_725 : decode cL_law 725 = .ok (.iaload, 1) := by decide +kernel
theorem dL_law_726 : decode cL_law 726 = .ok (.aload_n 0, 1) := by decide +kernel
theorem dL_law_727 : decode cL_law 727 = .ok (.iload_n 3, 1) := by decide +kernel
theorem dL_law_728 : decode cL_law 728 = .ok (.iconst 3, 1) := by decide +kernel
theorem dL_law_729 : decode cL_law 729 = .ok (.iadd, 1) := by decide +kernel
theorem dL_law_730 : decode cL_law 730 = .ok (.iaload, 1) := by decide +kernel
theorem dL_law_731 : decode cL_law 731 = .ok (.invokevirtual 68, 3) := by decide +kernel
theorem dL_law_734 : decode cL_law 734 = .ok (.if_icmp .eq 249, 3) := by decide +kernel
theorem dL_law_737 : decode cL_law 737 = .ok (.iconst 0, 1) := by decide +kernel
theorem dL_law_738 : decode cL_law 738 = .ok (.ireturn, 1) := by decide +kernel
theorem dL_law_739 : decode cL_law 739 = .ok (.aload_n 1, 1) := by decide +kernel
theorem dL_law_740 : decode cL_law 740 = .ok (.aload_n 0, 1) := by decide +kernel
theorem dL_law_741 : decode cL_law 741 = .ok (.iload_n 3, 1) := by decide +kernel
theorem dL_law_742 : decode cL_law 742 = .ok (.iconst 1, 1) := by decide +kernel
theorem dL_law_743 : decode cL_law 743 = .ok (.iadd, 1) := by decide +kernel
theorem dL_law_744 : decode cL_law 744 = .ok (.iaload, 1) := by decide +kernel
theorem dL_law_745 : decode cL_law 745 = .ok (.aload_n 0, 1) := by decide +kernel
theorem dL_law_746 : decode cL_law 746 = .ok (.iload_n 3, 1) := by decide +kernel
theorem dL_law_747 : decode cL_law 747 = .ok (.iconst 2, 1) := by decide +kernel
theorem dL_law_748 : decode cL_law 748 = .ok (.iadd, 1) := by decide +kernel
theorem dL_law_749 : decode cL_law 749 = .ok (.iaload, 1) := by decide +kernel
theorem dL_law_750 : decode cL_law 750 = .ok (.invokevirtual 69, 3) := by decide +kernel
theorem dL_law_753 : decode cL_law 753 = .ok (.aload_n 2, 1) := by decide +kernel
theorem dL_law_754 : decode cL_law 754 = .ok (.aload_n 0, 1) := by decide +kernel
theorem dL_law_755 : decode cL_law 755 = .ok (.iload_n 3, 1) := by decide +kernel
theorem dL_law_756 : decode cL_law 756 = .ok (.iconst 1, 1) := by decide +kernel
theorem dL_law_757 : decode cL_law 757 = .ok (.iadd, 1) := by decide +kernel
theorem dL_law_758 : decode cL_law 758 = .ok (.iaload, 1) := by decide +kernel
theorem dL_law_759 : decode cL_law 759 = .ok (.aload_n 0, 1) := by decide +kernel
theorem dL_law_760 : decode cL_law 760 = .ok (.iload_n 3, 1) := by decide +kernel
theorem dL_law_761 : decode cL_law 761 = .ok (.iconst 2, 1) := by decide +kernel
theorem dL_law_762 : decode cL_law 762 = .ok (.iadd, 1) := by decide +kernel
theorem dL_law_763 : decode cL_law 763 = .ok (.iaload, 1) := by decide +kernel
theorem dL_law_764 : decode cL_law 764 = .ok (.invokevirtual 72, 3) := by decide +kernel
theorem dL_law_767 : decode cL_law 767 = .ok (.if_icmp .eq 216, 3) := by decide +kernel
theorem dL_law_770 : decode cL_law 770 = .ok (.iconst 0, 1) := by decide +kernel
theorem dL_law_771 : decode cL_law 771 = .ok (.ireturn, 1) := by decide +kernel
theorem dL_law_772 : decode cL_law 772 = .ok (.aload_n 1, 1) := by decide +kernel
theorem dL_law_773 : decode cL_law 773 = .ok (.invokevirtual 73, 3) := by decide +kernel
theorem dL_law_776 : decode cL_law 776 = .ok (.aload_n 2, 1) := by decide +kernel
theorem dL_law_777 : decode cL_law 777 = .ok (.invokevirtual 77, 3) := by decide +kernel
theorem dL_law_780 : decode cL_law 780 = .ok (.if_icmp .eq 203, 3) := by decide +kernel
theorem dL_law_783 : decode cL_law 783 = .ok (.iconst 0, 1) := by decide +kernel
theorem dL_law_784 : decode cL_law 784 = .ok (.ireturn, 1) := by decide +kernel
theorem dL_law_785 : decode cL_law 785 = .ok (.aload_n 1, 1) := by decide +kernel
theorem dL_law_786 : decode cL_law 786 = .ok (.aload_n 0, 1) := by decide +kernel
theorem dL_law_787 : decode cL_law 787 = .ok (.iload_n 3, 1) := by decide +kernel
theorem dL_law_788 : decode cL_law 788 = .ok (.iconst 1, 1) := by decide +kernel
theorem dL_law_789 : decode cL_law 789 = .ok (.iadd, 1) := by decide +kernel
theorem dL_law_790 : decode cL_law 790 = .ok (.iaload, 1) := by decide +kernel
theorem dL_law_791 : decode cL_law 791 = .ok (.invokevirtual 78, 3) := by decide +kernel
theorem dL_law_794 : decode cL_law 794 = .ok (.aload_n 2, 1) := by decide +kernel
theorem dL_law_795 : decode cL_law 795 = .ok (.aload_n 0, 1) := by decide +kernel
theorem dL_law_796 : decode cL_law 796 = .ok (.iload_n 3, 1) := by decide +kernel
theorem dL_law_797 : decode cL_law 797 = .ok (.iconst 1, 1) := by decide +kernel
theorem dL_law_798 : decode cL_law 798 = .ok (.iadd, 1) := by decide +kernel
theorem dL_law_799 : decode cL_law 799 = .ok (.iaload, 1) := by decide +kernel
theorem dL_law_800 : decode cL_law 800 = .ok (.invokevirtual 82, 3) := by decide +kernel
theorem dL_law_803 : decode cL_law 803 = .ok (.if_icmp .eq 180, 3) := by decide +kernel
theorem dL_law_806 : decode cL_law 806 = .ok (.iconst 0, 1) := by decide +kernel
theorem dL_law_807 : decode cL_law 807 = .ok (.ireturn, 1) := by decide +kernel
theorem dL_law_808 : decode cL_law 808 = .ok (.aload_n 1, 1) := by decide +kernel
theorem dL_law_809 : decode cL_law 809 = .ok (.invokevirtual 83, 3) := by decide +kernel
theorem dL_law_812 : decode cL_law 812 = .ok (.aload_n 2, 1) := by decide +kernel
theorem dL_law_813 : decode cL_law 813 = .ok (.invokevirtual 86, 3) := by decide +kernel
theorem dL_law_816 : decode cL_law 816 = .ok (.if_icmp .eq 167, 3) := by decide +kernel
theorem dL_law_819 : decode cL_law 819 = .ok (.iconst 0, 1) := by decide +kernel
theorem dL_law_820 : decode cL_law 820 = .ok (.ireturn, 1) := by decide +kernel
theorem dL_law_821 : decode cL_law 821 = .ok (.aload_n 1, 1) := by decide +kernel
theorem dL_law_822 : decode cL_law 822 = .ok (.aload_n 0, 1) := by decide +kernel
theorem dL_law_823 : decode cL_law 823 = .ok (.iload_n 3, 1) := by decide +kernel
theorem dL_law_824 : decode cL_law 824 = .ok (.iconst 1, 1) := by decide +kernel
theorem dL_law_825 : decode cL_law 825 = .ok (.iadd, 1) := by decide +kernel
theorem dL_law_826 : decode cL_law 826 = .ok (.iaload, 1) := by decide +kernel
theorem dL_law_827 : decode cL_law 827 = .ok (.aload_n 0, 1) := by decide +kernel
theorem dL_law_828 : decode cL_law 828 = .ok (.iload_n 3, 1) := by decide +kernel
theorem dL_law_829 : decode cL_law 829 = .ok (.iconst 2, 1) := by decide +kernel
theorem dL_law_830 : decode cL_law 830 = .ok (.iadd, 1) := by decide +kernel
theorem dL_law_831 : decode cL_law 831 = .ok (.iaload, 1) := by decide +kernel
theorem dL_law_832 : decode cL_law 832 = .ok (.invokevirtual 87, 3) := by decide +kernel
theorem dL_law_835 : decode cL_law 835 = .ok (.aload_n 2, 1) := by decide +kernel
theorem dL_law_836 : decode cL_law 836 = .ok (.aload_n 0, 1) := by decide +kernel
theorem dL_law_837 : decode cL_law 837 = .ok (.iload_n 3, 1) := by decide +kernel
theorem dL_law_838 : decode cL_law 838 = .ok (.iconst 1, 1) := by decide +kernel
theorem dL_law_839 : decode cL_law 839 = .ok (.iadd, 1) := by decide +kernel
theorem dL_law_840 : decode cL_law 840 = .ok (.iaload, 1) := by decide +kernel
theorem dL_law_841 : decode cL_law 841 = .ok (.aload_n 0, 1) := by decide +kernel
theorem dL_law_842 : decode cL_law 842 = .ok (.iload_n 3, 1) := by decide +kernel
theorem dL_law_843 : decode cL_law 843 = .ok (.iconst 2, 1) := by decide +kernel
theorem dL_law_844 : decode cL_law 844 = .ok (.iadd, 1) := by decide +kernel
theorem dL_law_845 : decode cL_law 845 = .ok (.iaload, 1) := by decide +kernel
theorem dL_law_846 : decode cL_law 846 = .ok (.invokevirtual 90, 3) := by decide +kernel
theorem dL_law_849 : decode cL_law 849 = .ok (.if_icmp .eq 134, 3) := by decide +kernel
theorem dL_law_852 : decode cL_law 852 = .ok (.iconst 0, 1) := by decide +kernel
theorem dL_law_853 : decode cL_law 853 = .ok (.ireturn, 1) := by decide +kernel
theorem dL_law_854 : decode cL_law 854 = .ok (.aload_n 1, 1) := by decide +kernel
theorem dL_law_855 : decode cL_law 855 = .ok (.aload_n 0, 1) := by decide +kernel
theorem dL_law_856 : decode cL_law 856 = .ok (.iload_n 3, 1) := by decide +kernel
theorem dL_law_857 : decode cL_law 857 = .ok (.iconst 1, 1) := by decide +kernel
theorem dL_law_858 : decode cL_law 858 = .ok (.iadd, 1) := by decide +kernel
theorem dL_law_859 : decode cL_law 859 = .ok (.iaload, 1) := by decide +kernel
theorem dL_law_860 : decode cL_law 860 = .ok (.aload_n 0, 1) := by decide +kernel
theorem dL_law_861 : decode cL_law 861 = .ok (.iload_n 3, 1) := by decide +kernel
theorem dL_law_862 : decode cL_law 862 = .ok (.iconst 2, 1) := by decide +kernel
theorem dL_law_863 : decode cL_law 863 = .ok (.iadd, 1) := by decide +kernel
theorem dL_law_864 : decode cL_law 864 = .ok (.iaload, 1) := by decide +kernel
theorem dL_law_865 : decode cL_law 865 = .ok (.invokevirtual 91, 3) := by decide +kernel
theorem dL_law_868 : decode cL_law 868 = .ok (.aload_n 2, 1) := by decide +kernel
theorem dL_law_869 : decode cL_law 869 = .ok (.aload_n 0, 1) := by decide +kernel
theorem dL_law_870 : decode cL_law 870 = .ok (.iload_n 3, 1) := by decide +kernel
theorem dL_law_871 : decode cL_law 871 = .ok (.iconst 1, 1) := by decide +kernel
theorem dL_law_872 : decode cL_law 872 = .ok (.iadd, 1) := by decide +kernel
theorem dL_law_873 : decode cL_law 873 = .ok (.iaload, 1) := by decide +kernel
theorem dL_law_874 : decode cL_law 874 = .ok (.aload_n 0, 1) := by decide +kernel
theorem dL_law_875 : decode cL_law 875 = .ok (.iload_n 3, 1) := by decide +kernel
theorem dL_law_876 : decode cL_law 876 = .ok (.iconst 2, 1) := by decide +kernel
theorem dL_law_877 : decode cL_law 877 = .ok (.iadd, 1) := by decide +kernel
theorem dL_law_878 : decode cL_law 878 = .ok (.iaload, 1) := by decide +kernel
theorem dL_law_879 : decode cL_law 879 = .ok (.invokevirtual 94, 3) := by decide +kernel
theorem dL_law_882 : decode cL_law 882 = .ok (.if_icmp .eq 101, 3) := by decide +kernel
theorem dL_law_885 : decode cL_law 885 = .ok (.iconst 0, 1) := by decide +kernel
theorem dL_law_886 : decode cL_law 886 = .ok (.ireturn, 1) := by decide +kernel
theorem dL_law_887 : decode cL_law 887 = .ok (.aload_n 1, 1) := by decide +kernel
theorem dL_law_888 : decode cL_law 888 = .ok (.aload_n 0, 1) := by decide +kernel
theorem dL_law_889 : decode cL_law 889 = .ok (.iload_n 3, 1) := by decide +kernel
theorem dL_law_890 : decode cL_law 890 = .ok (.iconst 1, 1) := by decide +kernel
theorem dL_law_891 : decode cL_law 891 = .ok (.iadd, 1) := by decide +kernel
theorem dL_law_892 : decode cL_law 892 = .ok (.iaload, 1) := by decide +kernel
theorem dL_law_893 : decode cL_law 893 = .ok (.invokevirtual 95, 3) := by decide +kernel
theorem dL_law_896 : decode cL_law 896 = .ok (.aload_n 2, 1) := by decide +kernel
theorem dL_law_897 : decode cL_law 897 = .ok (.aload_n 0, 1) := by decide +kernel
theorem dL_law_898 : decode cL_law 898 = .ok (.iload_n 3, 1) := by decide +kernel
theorem dL_law_899 : decode cL_law 899 = .ok (.iconst 1, 1) := by decide +kernel
theorem dL_law_900 : decode cL_law 900 = .ok (.iadd, 1) := by decide +kernel
theorem dL_law_901 : decode cL_law 901 = .ok (.iaload, 1) := by decide +kernel
theorem dL_law_902 : decode cL_law 902 = .ok (.invokevirtual 98, 3) := by decide +kernel
theorem dL_law_905 : decode cL_law 905 = .ok (.if_icmp .eq 78, 3) := by decide +kernel
theorem dL_law_908 : decode cL_law 908 = .ok (.iconst 0, 1) := by decide +kernel
theorem dL_law_909 : decode cL_law 909 = .ok (.ireturn, 1) := by decide +kernel
theorem dL_law_910 : decode cL_law 910 = .ok (.aload_n 1, 1) := by decide +kernel
theorem dL_law_911 : decode cL_law 911 = .ok (.aload_n 0, 1) := by decide +kernel
theorem dL_law_912 : decode cL_law 912 = .ok (.iload_n 3, 1) := by decide +kernel
theorem dL_law_913 : decode cL_law 913 = .ok (.iconst 1, 1) := by decide +kernel
theorem dL_law_914 : decode cL_law 914 = .ok (.iadd, 1) := by decide +kernel
theorem dL_law_915 : decode cL_law 915 = .ok (.iaload, 1) := by decide +kernel
theorem dL_law_916 : decode cL_law 916 = .ok (.invokevirtual 99, 3) := by decide +kernel
theorem dL_law_919 : decode cL_law 919 = .ok (.aload_n 2, 1) := by decide +kernel
theorem dL_law_920 : decode cL_law 920 = .ok (.aload_n 0, 1) := by decide +kernel
theorem dL_law_921 : decode cL_law 921 = .ok (.iload_n 3, 1) := by decide +kernel
theorem dL_law_922 : decode cL_law 922 = .ok (.iconst 1, 1) := by decide +kernel
theorem dL_law_923 : decode cL_law 923 = .ok (.iadd, 1) := by decide +kernel
theorem dL_law_924 : decode cL_law 924 = .ok (.iaload, 1) := by decide +kernel
theorem dL_law_925 : decode cL_law 925 = .ok (.invokevirtual 102, 3) := by decide +kernel
theorem dL_law_928 : decode cL_law 928 = .ok (.if_icmp .eq 55, 3) := by decide +kernel
theorem dL_law_931 : decode cL_law 931 = .ok (.iconst 0, 1) := by decide +kernel
theorem dL_law_932 : decode cL_law 932 = .ok (.ireturn, 1) := by decide +kernel
theorem dL_law_933 : decode cL_law 933 = .ok (.aload_n 1, 1) := by decide +kernel
theorem dL_law_934 : decode cL_law 934 = .ok (.aload_n 0, 1) := by decide +kernel
theorem dL_law_935 : decode cL_law 935 = .ok (.iload_n 3, 1) := by decide +kernel
theorem dL_law_936 : decode cL_law 936 = .ok (.iconst 1, 1) := by decide +kernel
theorem dL_law_937 : decode cL_law 937 = .ok (.iadd, 1) := by decide +kernel
theorem dL_law_938 : decode cL_law 938 = .ok (.iaload, 1) := by decide +kernel
theorem dL_law_939 : decode cL_law 939 = .ok (.invokevirtual 103, 3) := by decide +kernel
theorem dL_law_942 : decode cL_law 942 = .ok (.aload_n 2, 1) := by decide +kernel
theorem dL_law_943 : decode cL_law 943 = .ok (.aload_n 0, 1) := by decide +kernel
theorem dL_law_944 : decode cL_law 944 = .ok (.iload_n 3, 1) := by decide +kernel
theorem dL_law_945 : decode cL_law 945 = .ok (.iconst 1, 1) := by decide +kernel
theorem dL_law_946 : decode cL_law 946 = .ok (.iadd, 1) := by decide +kernel
theorem dL_law_947 : decode cL_law 947 = .ok (.iaload, 1) := by decide +kernel
theorem dL_law_948 : decode cL_law 948 = .ok (.invokevirtual 106, 3) := by decide +kernel
theorem dL_law_951 : decode cL_law 951 = .ok (.if_icmp .eq 32, 3) := by decide +kernel
theorem dL_law_954 : decode cL_law 954 = .ok (.iconst 0, 1) := by decide +kernel
theorem dL_law_955 : decode cL_law 955 = .ok (.ireturn, 1) := by decide +kernel
theorem dL_law_956 : decode cL_law 956 = .ok (.aload_n 1, 1) := by decide +kernel
theorem dL_law_957 : decode cL_law 957 = .ok (.invokevirtual 107, 3) := by decide +kernel
theorem dL_law_960 : decode cL_law 960 = .ok (.aload_n 2, 1) := by decide +kernel
theorem dL_law_961 : decode cL_law 961 = .ok (.invokevirtual 110, 3) := by decide +kernel
theorem dL_law_964 : decode cL_law 964 = .ok (.if_icmp .eq 19, 3) := by decide +kernel
theorem dL_law_967 : decode cL_law 967 = .ok (.iconst 0, 1) := by decide +kernel
theorem dL_law_968 : decode cL_law 968 = .ok (.ireturn, 1) := by decide +kernel
theorem dL_law_969 : decode cL_law 969 = .ok (.aload_n 1, 1) := by decide +kernel
theorem dL_law_970 : decode cL_law 970 = .ok (.invokevirtual 111, 3) := by decide +kernel
theorem dL_law_973 : decode cL_law 973 = .ok (.aload_n 2, 1) := by decide +kernel
theorem dL_law_974 : decode cL_law 974 = .ok (.invokevirtual 115, 3) := by decide +kernel
theorem dL_law_977 : decode cL_law 977 = .ok (.lcmp, 1) := by decide +kernel
theorem dL_law_978 : decode cL_law 978 = .ok (.ifCond .eq 5, 3) := by decide +kernel
theorem dL_law_981 : decode cL_law 981 = .ok (.iconst 0, 1) := by decide +kernel
theorem dL_law_982 : decode cL_law 982 = .ok (.ireturn, 1) := by decide +kernel
theorem dL_law_983 : decode cL_law 983 = .ok (.iinc 3 5, 3) := by decide +kernel
theorem dL_law_986 : decode cL_law 986 = .ok (.goto (-968), 3) := by decide +kernel
theorem dL_law_989 : decode cL_law 989 = .ok (.iconst 1, 1) := by decide +kernel
theorem dL_law_990 : decode cL_law 990 = .ok (.ireturn, 1) := by decide +kernel
end
section
abbrev ix (x : Int32) : Nat := x.toNatClampNeg
abbrev RSt : Type := Int32 × Int32 × Int32 × (Nat → Int32) × (Nat → Int32) × (Nat → Int32) × (Nat → Int32) × (Nat → Int32) × (Nat → Int32) × (Nat → Int32) × (Nat → Int32) × (Nat → Int32) × Int32 × (Nat → Int32) × (Nat → Int32) × Int32 × (Nat → Int32) × (Nat → Int32) × (Nat → Int32) × Int32 × Int32 × Int32 × Int32 × Int32 × Int32 × Int32 × Int32 × Int32 × (Nat → Int32) × Int32
def r_manner (σ : RSt) : Int32 := σ.1
def r_fault (σ : RSt) : Int32 := σ.2.1
def r_things (σ : RSt) : Int32 := σ.2.2.1
def r_many (σ : RSt) : (Nat → Int32) := σ.2.2.2.1
def r_field (σ : RSt) : (Nat → Int32) := σ.2.2.2.2.1
def r_place (σ : RSt) : (Nat → Int32) := σ.2.2.2.2.2.1
def r_colour (σ : RSt) : (Nat → Int32) := σ.2.2.2.2.2.2.1
def r_isFreed (σ : RSt) : (Nat → Int32) := σ.2.2.2.2.2.2.2.1
def r_hasWish (σ : RSt) : (Nat → Int32) := σ.2.2.2.2.2.2.2.2.1
def r_moved (σ : RSt) : (Nat → Int32) := σ.2.2.2.2.2.2.2.2.2.1
def r_register (σ : RSt) : (Nat → Int32) := σ.2.2.2.2.2.2.2.2.2.2.1
def r_slot (σ : RSt) : (Nat → Int32) := σ.2.2.2.2.2.2.2.2.2.2.2.1
def r_wishes (σ : RSt) : Int32 := σ.2.2.2.2.2.2.2.2.2.2.2.2.1
def r_wishAt (σ : RSt) : (Nat → Int32) := σ.2.2.2.2.2.2.2.2.2.2.2.2.2.1
def r_weakAt (σ : RSt) : (Nat → Int32) := σ.2.2.2.2.2.2.2.2.2.2.2.2.2.2.1
def r_pairs (σ : RSt) : Int32 := σ.2.2.2.2.2.2.2.2.2.2.2.2.2.2.2.1
def r_key (σ : RSt) : (Nat → Int32) := σ.2.2.2.2.2.2.2.2.2.2.2.2.2.2.2.2.1
def r_value (σ : RSt) : (Nat → Int32) := σ.2.2.2.2.2.2.2.2.2.2.2.2.2.2.2.2.2.1
def r_isPair (σ : RSt) : (Nat → Int32) := σ.2.2.2.2.2.2.2.2.2.2.2.2.2.2.2.2.2.2.1
def r_half (σ : RSt) : Int32 := σ.2.2.2.2.2.2.2.2.2.2.2.2.2.2.2.2.2.2.2.1
def r_top (σ : RSt) : Int32 := σ.2.2.2.2.2.2.2.2.2.2.2.2.2.2.2.2.2.2.2.2.1
def r_way (σ : RSt) : Int32 := σ.2.2.2.2.2.2.2.2.2.2.2.2.2.2.2.2.2.2.2.2.2.1
def r_next (σ : RSt) : Int32 := σ.2.2.2.2.2.2.2.2.2.2.2.2.2.2.2.2.2.2.2.2.2.2.1
def r_freedMany (σ : RSt) : Int32 := σ.2.2.2.2.2.2.2.2.2.2.2.2.2.2.2.2.2.2.2.2.2.2.2.1
def r_rounds (σ : RSt) : Int32 := σ.2.2.2.2.2.2.2.2.2.2.2.2.2.2.2.2.2.2.2.2.2.2.2.2.1
def r_steps (σ : RSt) : Int32 := σ.2.2.2.2.2.2.2.2.2.2.2.2.2.2.2.2.2.2.2.2.2.2.2.2.2.1
def r_shaded (σ : RSt) : Int32 := σ.2.2.2.2.2.2.2.2.2.2.2.2.2.2.2.2.2.2.2.2.2.2.2.2.2.2.1
def r_movedMany (σ : RSt) : Int32 := σ.2.2.2.2.2.2.2.2.2.2.2.2.2.2.2.2.2.2.2.2.2.2.2.2.2.2.2.1
def r_isReached (σ : RSt) : (Nat → Int32) := σ.2.2.2.2.2.2.2.2.2.2.2.2.2.2.2.2.2.2.2.2.2.2.2.2.2.2.2.2.1
def r_more (σ : RSt) : Int32 := σ.2.2.2.2.2.2.2.2.2.2.2.2.2.2.2.2.2.2.2.2.2.2.2.2.2.2.2.2.2
def r_manner_s (σ : RSt) (v : Int32) : RSt := (v, r_fault σ, r_things σ, r_many σ, r_field σ, r_place σ, r_colour σ, r_isFreed σ, r_hasWish σ, r_moved σ, r_register σ, r_slot σ, r_wishes σ, r_wishAt σ, r_weakAt σ, r_pairs σ, r_key σ, r_value σ, r_isPair σ, r_half σ, r_top σ, r_way σ, r_next σ, r_freedMany σ, r_rounds σ, r_steps σ, r_shaded σ, r_movedMany σ, r_isReached σ, r_more σ)
def r_fault_s (σ : RSt) (v : Int32) : RSt := (r_manner σ, v, r_things σ, r_many σ, r_field σ, r_place σ, r_colour σ, r_isFreed σ, r_hasWish σ, r_moved σ, r_register σ, r_slot σ, r_wishes σ, r_wishAt σ, r_weakAt σ, r_pairs σ, r_key σ, r_value σ, r_isPair σ, r_half σ, r_top σ, r_way σ, r_next σ, r_freedMany σ, r_rounds σ, r_steps σ, r_shaded σ, r_movedMany σ, r_isReached σ, r_more σ)
def r_things_s (σ : RSt) (v : Int32) : RSt := (r_manner σ, r_fault σ, v, r_many σ, r_field σ, r_place σ, r_colour σ, r_isFreed σ, r_hasWish σ, r_moved σ, r_register σ, r_slot σ, r_wishes σ, r_wishAt σ, r_weakAt σ, r_pairs σ, r_key σ, r_value σ, r_isPair σ, r_half σ, r_top σ, r_way σ, r_next σ, r_freedMany σ, r_rounds σ, r_steps σ, r_shaded σ, r_movedMany σ, r_isReached σ, r_more σ)
def r_many_s (σ : RSt) (v : (Nat → Int32)) : RSt := (r_manner σ, r_fault σ, r_things σ, v, r_field σ, r_place σ, r_colour σ, r_isFreed σ, r_hasWish σ, r_moved σ, r_register σ, r_slot σ, r_wishes σ, r_wishAt σ, r_weakAt σ, r_pairs σ, r_key σ, r_value σ, r_isPair σ, r_half σ, r_top σ, r_way σ, r_next σ, r_freedMany σ, r_rounds σ, r_steps σ, r_shaded σ, r_movedMany σ, r_isReached σ, r_more σ)
def r_field_s (σ : RSt) (v : (Nat → Int32)) : RSt := (r_manner σ, r_fault σ, r_things σ, r_many σ, v, r_place σ, r_colour σ, r_isFreed σ, r_hasWish σ, r_moved σ, r_register σ, r_slot σ, r_wishes σ, r_wishAt σ, r_weakAt σ, r_pairs σ, r_key σ, r_value σ, r_isPair σ, r_half σ, r_top σ, r_way σ, r_next σ, r_freedMany σ, r_rounds σ, r_steps σ, r_shaded σ, r_movedMany σ, r_isReached σ, r_more σ)
def r_place_s (σ : RSt) (v : (Nat → Int32)) : RSt := (r_manner σ, r_fault σ, r_things σ, r_many σ, r_field σ, v, r_colour σ, r_isFreed σ, r_hasWish σ, r_moved σ, r_register σ, r_slot σ, r_wishes σ, r_wishAt σ, r_weakAt σ, r_pairs σ, r_key σ, r_value σ, r_isPair σ, r_half σ, r_top σ, r_way σ, r_next σ, r_freedMany σ, r_rounds σ, r_steps σ, r_shaded σ, r_movedMany σ, r_isReached σ, r_more σ)
def r_colour_s (σ : RSt) (v : (Nat → Int32)) : RSt := (r_manner σ, r_fault σ, r_things σ, r_many σ, r_field σ, r_place σ, v, r_isFreed σ, r_hasWish σ, r_moved σ, r_register σ, r_slot σ, r_wishes σ, r_wishAt σ, r_weakAt σ, r_pairs σ, r_key σ, r_value σ, r_isPair σ, r_half σ, r_top σ, r_way σ, r_next σ, r_freedMany σ, r_rounds σ, r_steps σ, r_shaded σ, r_movedMany σ, r_isReached σ, r_more σ)
def r_isFreed_s (σ : RSt) (v : (Nat → Int32)) : RSt := (r_manner σ, r_fault σ, r_things σ, r_many σ, r_field σ, r_place σ, r_colour σ, v, r_hasWish σ, r_moved σ, r_register σ, r_slot σ, r_wishes σ, r_wishAt σ, r_weakAt σ, r_pairs σ, r_key σ, r_value σ, r_isPair σ, r_half σ, r_top σ, r_way σ, r_next σ, r_freedMany σ, r_rounds σ, r_steps σ, r_shaded σ, r_movedMany σ, r_isReached σ, r_more σ)
def r_hasWish_s (σ : RSt) (v : (Nat → Int32)) : RSt := (r_manner σ, r_fault σ, r_things σ, r_many σ, r_field σ, r_place σ, r_colour σ, r_isFreed σ, v, r_moved σ, r_register σ, r_slot σ, r_wishes σ, r_wishAt σ, r_weakAt σ, r_pairs σ, r_key σ, r_value σ, r_isPair σ, r_half σ, r_top σ, r_way σ, r_next σ, r_freedMany σ, r_rounds σ, r_steps σ, r_shaded σ, r_movedMany σ, r_isReached σ, r_more σ)
def r_moved_s (σ : RSt) (v : (Nat → Int32)) : RSt := (r_manner σ, r_fault σ, r_things σ, r_many σ, r_field σ, r_place σ, r_colour σ, r_isFreed σ, r_hasWish σ, v, r_register σ, r_slot σ, r_wishes σ, r_wishAt σ, r_weakAt σ, r_pairs σ, r_key σ, r_value σ, r_isPair σ, r_half σ, r_top σ, r_way σ, r_next σ, r_freedMany σ, r_rounds σ, r_steps σ, r_shaded σ, r_movedMany σ, r_isReached σ, r_more σ)
def r_register_s (σ : RSt) (v : (Nat → Int32)) : RSt := (r_manner σ, r_fault σ, r_things σ, r_many σ, r_field σ, r_place σ, r_colour σ, r_isFreed σ, r_hasWish σ, r_moved σ, v, r_slot σ, r_wishes σ, r_wishAt σ, r_weakAt σ, r_pairs σ, r_key σ, r_value σ, r_isPair σ, r_half σ, r_top σ, r_way σ, r_next σ, r_freedMany σ, r_rounds σ, r_steps σ, r_shaded σ, r_movedMany σ, r_isReached σ, r_more σ)
def r_slot_s (σ : RSt) (v : (Nat → Int32)) : RSt := (r_manner σ, r_fault σ, r_things σ, r_many σ, r_field σ, r_place σ, r_colour σ, r_isFreed σ, r_hasWish σ, r_moved σ, r_register σ, v, r_wishes σ, r_wishAt σ, r_weakAt σ, r_pairs σ, r_key σ, r_value σ, r_isPair σ, r_half σ, r_top σ, r_way σ, r_next σ, r_freedMany σ, r_rounds σ, r_steps σ, r_shaded σ, r_movedMany σ, r_isReached σ, r_more σ)
def r_wishes_s (σ : RSt) (v : Int32) : RSt := (r_manner σ, r_fault σ, r_things σ, r_many σ, r_field σ, r_place σ, r_colour σ, r_isFreed σ, r_hasWish σ, r_moved σ, r_register σ, r_slot σ, v, r_wishAt σ, r_weakAt σ, r_pairs σ, r_key σ, r_value σ, r_isPair σ, r_half σ, r_top σ, r_way σ, r_next σ, r_freedMany σ, r_rounds σ, r_steps σ, r_shaded σ, r_movedMany σ, r_isReached σ, r_more σ)
def r_wishAt_s (σ : RSt) (v : (Nat → Int32)) : RSt := (r_manner σ, r_fault σ, r_things σ, r_many σ, r_field σ, r_place σ, r_colour σ, r_isFreed σ, r_hasWish σ, r_moved σ, r_register σ, r_slot σ, r_wishes σ, v, r_weakAt σ, r_pairs σ, r_key σ, r_value σ, r_isPair σ, r_half σ, r_top σ, r_way σ, r_next σ, r_freedMany σ, r_rounds σ, r_steps σ, r_shaded σ, r_movedMany σ, r_isReached σ, r_more σ)
def r_weakAt_s (σ : RSt) (v : (Nat → Int32)) : RSt := (r_manner σ, r_fault σ, r_things σ, r_many σ, r_field σ, r_place σ, r_colour σ, r_isFreed σ, r_hasWish σ, r_moved σ, r_register σ, r_slot σ, r_wishes σ, r_wishAt σ, v, r_pairs σ, r_key σ, r_value σ, r_isPair σ, r_half σ, r_top σ, r_way σ, r_next σ, r_freedMany σ, r_rounds σ, r_steps σ, r_shaded σ, r_movedMany σ, r_isReached σ, r_more σ)
def r_pairs_s (σ : RSt) (v : Int32) : RSt := (r_manner σ, r_fault σ, r_things σ, r_many σ, r_field σ, r_place σ, r_colour σ, r_isFreed σ, r_hasWish σ, r_moved σ, r_register σ, r_slot σ, r_wishes σ, r_wishAt σ, r_weakAt σ, v, r_key σ, r_value σ, r_isPair σ, r_half σ, r_top σ, r_way σ, r_next σ, r_freedMany σ, r_rounds σ, r_steps σ, r_shaded σ, r_movedMany σ, r_isReached σ, r_more σ)
def r_key_s (σ : RSt) (v : (Nat → Int32)) : RSt := (r_manner σ, r_fault σ, r_things σ, r_many σ, r_field σ, r_place σ, r_colour σ, r_isFreed σ, r_hasWish σ, r_moved σ, r_register σ, r_slot σ, r_wishes σ, r_wishAt σ, r_weakAt σ, r_pairs σ, v, r_value σ, r_isPair σ, r_half σ, r_top σ, r_way σ, r_next σ, r_freedMany σ, r_rounds σ, r_steps σ, r_shaded σ, r_movedMany σ, r_isReached σ, r_more σ)
def r_value_s (σ : RSt) (v : (Nat → Int32)) : RSt := (r_manner σ, r_fault σ, r_things σ, r_many σ, r_field σ, r_place σ, r_colour σ, r_isFreed σ, r_hasWish σ, r_moved σ, r_register σ, r_slot σ, r_wishes σ, r_wishAt σ, r_weakAt σ, r_pairs σ, r_key σ, v, r_isPair σ, r_half σ, r_top σ, r_way σ, r_next σ, r_freedMany σ, r_rounds σ, r_steps σ, r_shaded σ, r_movedMany σ, r_isReached σ, r_more σ)
def r_isPair_s (σ : RSt) (v : (Nat → Int32)) : RSt := (r_manner σ, r_fault σ, r_things σ, r_many σ, r_field σ, r_place σ, r_colour σ, r_isFreed σ, r_hasWish σ, r_moved σ, r_register σ, r_slot σ, r_wishes σ, r_wishAt σ, r_weakAt σ, r_pairs σ, r_key σ, r_value σ, v, r_half σ, r_top σ, r_way σ, r_next σ, r_freedMany σ, r_rounds σ, r_steps σ, r_shaded σ, r_movedMany σ, r_isReached σ, r_more σ)
def r_half_s (σ : RSt) (v : Int32) : RSt := (r_manner σ, r_fault σ, r_things σ, r_many σ, r_field σ, r_place σ, r_colour σ, r_isFreed σ, r_hasWish σ, r_moved σ, r_register σ, r_slot σ, r_wishes σ, r_wishAt σ, r_weakAt σ, r_pairs σ, r_key σ, r_value σ, r_isPair σ, v, r_top σ, r_way σ, r_next σ, r_freedMany σ, r_rounds σ, r_steps σ, r_shaded σ, r_movedMany σ, r_isReached σ, r_more σ)
def r_top_s (σ : RSt) (v : Int32) : RSt := (r_manner σ, r_fault σ, r_things σ, r_many σ, r_field σ, r_place σ, r_colour σ, r_isFreed σ, r_hasWish σ, r_moved σ, r_register σ, r_slot σ, r_wishes σ, r_wishAt σ, r_weakAt σ, r_pairs σ, r_key σ, r_value σ, r_isPair σ, r_half σ, v, r_way σ, r_next σ, r_freedMany σ, r_rounds σ, r_steps σ, r_shaded σ, r_movedMany σ, r_isReached σ, r_more σ)
def r_way_s (σ : RSt) (v : Int32) : RSt := (r_manner σ, r_fault σ, r_things σ, r_many σ, r_field σ, r_place σ, r_colour σ, r_isFreed σ, r_hasWish σ, r_moved σ, r_register σ, r_slot σ, r_wishes σ, r_wishAt σ, r_weakAt σ, r_pairs σ, r_key σ, r_value σ, r_isPair σ, r_half σ, r_top σ, v, r_next σ, r_freedMany σ, r_rounds σ, r_steps σ, r_shaded σ, r_movedMany σ, r_isReached σ, r_more σ)
def r_next_s (σ : RSt) (v : Int32) : RSt := (r_manner σ, r_fault σ, r_things σ, r_many σ, r_field σ, r_place σ, r_colour σ, r_isFreed σ, r_hasWish σ, r_moved σ, r_register σ, r_slot σ, r_wishes σ, r_wishAt σ, r_weakAt σ, r_pairs σ, r_key σ, r_value σ, r_isPair σ, r_half σ, r_top σ, r_way σ, v, r_freedMany σ, r_rounds σ, r_steps σ, r_shaded σ, r_movedMany σ, r_isReached σ, r_more σ)
def r_freedMany_s (σ : RSt) (v : Int32) : RSt := (r_manner σ, r_fault σ, r_things σ, r_many σ, r_field σ, r_place σ, r_colour σ, r_isFreed σ, r_hasWish σ, r_moved σ, r_register σ, r_slot σ, r_wishes σ, r_wishAt σ, r_weakAt σ, r_pairs σ, r_key σ, r_value σ, r_isPair σ, r_half σ, r_top σ, r_way σ, r_next σ, v, r_rounds σ, r_steps σ, r_shaded σ, r_movedMany σ, r_isReached σ, r_more σ)
def r_rounds_s (σ : RSt) (v : Int32) : RSt := (r_manner σ, r_fault σ, r_things σ, r_many σ, r_field σ, r_place σ, r_colour σ, r_isFreed σ, r_hasWish σ, r_moved σ, r_register σ, r_slot σ, r_wishes σ, r_wishAt σ, r_weakAt σ, r_pairs σ, r_key σ, r_value σ, r_isPair σ, r_half σ, r_top σ, r_way σ, r_next σ, r_freedMany σ, v, r_steps σ, r_shaded σ, r_movedMany σ, r_isReached σ, r_more σ)
def r_steps_s (σ : RSt) (v : Int32) : RSt := (r_manner σ, r_fault σ, r_things σ, r_many σ, r_field σ, r_place σ, r_colour σ, r_isFreed σ, r_hasWish σ, r_moved σ, r_register σ, r_slot σ, r_wishes σ, r_wishAt σ, r_weakAt σ, r_pairs σ, r_key σ, r_value σ, r_isPair σ, r_half σ, r_top σ, r_way σ, r_next σ, r_freedMany σ, r_rounds σ, v, r_shaded σ, r_movedMany σ, r_isReached σ, r_more σ)
def r_shaded_s (σ : RSt) (v : Int32) : RSt := (r_manner σ, r_fault σ, r_things σ, r_many σ, r_field σ, r_place σ, r_colour σ, r_isFreed σ, r_hasWish σ, r_moved σ, r_register σ, r_slot σ, r_wishes σ, r_wishAt σ, r_weakAt σ, r_pairs σ, r_key σ, r_value σ, r_isPair σ, r_half σ, r_top σ, r_way σ, r_next σ, r_freedMany σ, r_rounds σ, r_steps σ, v, r_movedMany σ, r_isReached σ, r_more σ)
def r_movedMany_s (σ : RSt) (v : Int32) : RSt := (r_manner σ, r_fault σ, r_things σ, r_many σ, r_field σ, r_place σ, r_colour σ, r_isFreed σ, r_hasWish σ, r_moved σ, r_register σ, r_slot σ, r_wishes σ, r_wishAt σ, r_weakAt σ, r_pairs σ, r_key σ, r_value σ, r_isPair σ, r_half σ, r_top σ, r_way σ, r_next σ, r_freedMany σ, r_rounds σ, r_steps σ, r_shaded σ, v, r_isReached σ, r_more σ)
def r_isReached_s (σ : RSt) (v : (Nat → Int32)) : RSt := (r_manner σ, r_fault σ, r_things σ, r_many σ, r_field σ, r_place σ, r_colour σ, r_isFreed σ, r_hasWish σ, r_moved σ, r_register σ, r_slot σ, r_wishes σ, r_wishAt σ, r_weakAt σ, r_pairs σ, r_key σ, r_value σ, r_isPair σ, r_half σ, r_top σ, r_way σ, r_next σ, r_freedMany σ, r_rounds σ, r_steps σ, r_shaded σ, r_movedMany σ, v, r_more σ)
def r_more_s (σ : RSt) (v : Int32) : RSt := (r_manner σ, r_fault σ, r_things σ, r_many σ, r_field σ, r_place σ, r_colour σ, r_isFreed σ, r_hasWish σ, r_moved σ, r_register σ, r_slot σ, r_wishes σ, r_wishAt σ, r_weakAt σ, r_pairs σ, r_key σ, r_value σ, r_isPair σ, r_half σ, r_top σ, r_way σ, r_next σ, r_freedMany σ, r_rounds σ, r_steps σ, r_shaded σ, r_movedMany σ, r_isReached σ, v)
abbrev CSt : Type := Int32 × Int32 × Int32 × Int32 × Int32 × Int32 × Int32 × Int32 × Int32 × (Nat → Int32) × (Nat → Int32) × (Nat → Int32) × (Nat → Int32) × (Nat → Int32) × (Nat → Int32) × (Nat → Int32) × (Nat → Int32) × Int32 × Int32 × (Nat → Int32) × (Nat → Int32) × Int32 × Int32 × (Nat → Int32) × (Nat → Int32) × (Nat → Int32) × (Nat → Int32) × Int32
def c_manner (σ : CSt) : Int32 := σ.1
def c_fault (σ : CSt) : Int32 := σ.2.1
def c_under (σ : CSt) : Int32 := σ.2.2.1
def c_nextS (σ : CSt) : Int32 := σ.2.2.2.1
def c_rounds (σ : CSt) : Int32 := σ.2.2.2.2.1
def c_steps (σ : CSt) : Int32 := σ.2.2.2.2.2.1
def c_shaded (σ : CSt) : Int32 := σ.2.2.2.2.2.2.1
def c_moved (σ : CSt) : Int32 := σ.2.2.2.2.2.2.2.1
def c_tmade (σ : CSt) : Int32 := σ.2.2.2.2.2.2.2.2.1
def c_sizes (σ : CSt) : (Nat → Int32) := σ.2.2.2.2.2.2.2.2.2.1
def c_places (σ : CSt) : (Nat → Int32) := σ.2.2.2.2.2.2.2.2.2.2.1
def c_colours (σ : CSt) : (Nat → Int32) := σ.2.2.2.2.2.2.2.2.2.2.2.1
def c_moves (σ : CSt) : (Nat → Int32) := σ.2.2.2.2.2.2.2.2.2.2.2.2.1
def c_freed (σ : CSt) : (Nat → Int32) := σ.2.2.2.2.2.2.2.2.2.2.2.2.2.1
def c_wishing (σ : CSt) : (Nat → Int32) := σ.2.2.2.2.2.2.2.2.2.2.2.2.2.2.1
def c_theld (σ : CSt) : (Nat → Int32) := σ.2.2.2.2.2.2.2.2.2.2.2.2.2.2.2.1
def c_cmap (σ : CSt) : (Nat → Int32) := σ.2.2.2.2.2.2.2.2.2.2.2.2.2.2.2.2.1
def c_halfEnd (σ : CSt) : Int32 := σ.2.2.2.2.2.2.2.2.2.2.2.2.2.2.2.2.2.1
def c_behind (σ : CSt) : Int32 := σ.2.2.2.2.2.2.2.2.2.2.2.2.2.2.2.2.2.2.1
def c_hheld (σ : CSt) : (Nat → Int32) := σ.2.2.2.2.2.2.2.2.2.2.2.2.2.2.2.2.2.2.2.1
def c_named (σ : CSt) : (Nat → Int32) := σ.2.2.2.2.2.2.2.2.2.2.2.2.2.2.2.2.2.2.2.2.1
def c_wishes (σ : CSt) : Int32 := σ.2.2.2.2.2.2.2.2.2.2.2.2.2.2.2.2.2.2.2.2.2.1
def c_pmade (σ : CSt) : Int32 := σ.2.2.2.2.2.2.2.2.2.2.2.2.2.2.2.2.2.2.2.2.2.2.1
def c_keys (σ : CSt) : (Nat → Int32) := σ.2.2.2.2.2.2.2.2.2.2.2.2.2.2.2.2.2.2.2.2.2.2.2.1
def c_values (σ : CSt) : (Nat → Int32) := σ.2.2.2.2.2.2.2.2.2.2.2.2.2.2.2.2.2.2.2.2.2.2.2.2.1
def c_found (σ : CSt) : (Nat → Int32) := σ.2.2.2.2.2.2.2.2.2.2.2.2.2.2.2.2.2.2.2.2.2.2.2.2.2.1
def c_order (σ : CSt) : (Nat → Int32) := σ.2.2.2.2.2.2.2.2.2.2.2.2.2.2.2.2.2.2.2.2.2.2.2.2.2.2.1
def c_rcount (σ : CSt) : Int32 := σ.2.2.2.2.2.2.2.2.2.2.2.2.2.2.2.2.2.2.2.2.2.2.2.2.2.2.2
def c_manner_s (σ : CSt) (v : Int32) : CSt := (v, c_fault σ, c_under σ, c_nextS σ, c_rounds σ, c_steps σ, c_shaded σ, c_moved σ, c_tmade σ, c_sizes σ, c_places σ, c_colours σ, c_moves σ, c_freed σ, c_wishing σ, c_theld σ, c_cmap σ, c_halfEnd σ, c_behind σ, c_hheld σ, c_named σ, c_wishes σ, c_pmade σ, c_keys σ, c_values σ, c_found σ, c_order σ, c_rcount σ)
def c_fault_s (σ : CSt) (v : Int32) : CSt := (c_manner σ, v, c_under σ, c_nextS σ, c_rounds σ, c_steps σ, c_shaded σ, c_moved σ, c_tmade σ, c_sizes σ, c_places σ, c_colours σ, c_moves σ, c_freed σ, c_wishing σ, c_theld σ, c_cmap σ, c_halfEnd σ, c_behind σ, c_hheld σ, c_named σ, c_wishes σ, c_pmade σ, c_keys σ, c_values σ, c_found σ, c_order σ, c_rcount σ)
def c_under_s (σ : CSt) (v : Int32) : CSt := (c_manner σ, c_fault σ, v, c_nextS σ, c_rounds σ, c_steps σ, c_shaded σ, c_moved σ, c_tmade σ, c_sizes σ, c_places σ, c_colours σ, c_moves σ, c_freed σ, c_wishing σ, c_theld σ, c_cmap σ, c_halfEnd σ, c_behind σ, c_hheld σ, c_named σ, c_wishes σ, c_pmade σ, c_keys σ, c_values σ, c_found σ, c_order σ, c_rcount σ)
def c_nextS_s (σ : CSt) (v : Int32) : CSt := (c_manner σ, c_fault σ, c_under σ, v, c_rounds σ, c_steps σ, c_shaded σ, c_moved σ, c_tmade σ, c_sizes σ, c_places σ, c_colours σ, c_moves σ, c_freed σ, c_wishing σ, c_theld σ, c_cmap σ, c_halfEnd σ, c_behind σ, c_hheld σ, c_named σ, c_wishes σ, c_pmade σ, c_keys σ, c_values σ, c_found σ, c_order σ, c_rcount σ)
def c_rounds_s (σ : CSt) (v : Int32) : CSt := (c_manner σ, c_fault σ, c_under σ, c_nextS σ, v, c_steps σ, c_shaded σ, c_moved σ, c_tmade σ, c_sizes σ, c_places σ, c_colours σ, c_moves σ, c_freed σ, c_wishing σ, c_theld σ, c_cmap σ, c_halfEnd σ, c_behind σ, c_hheld σ, c_named σ, c_wishes σ, c_pmade σ, c_keys σ, c_values σ, c_found σ, c_order σ, c_rcount σ)
def c_steps_s (σ : CSt) (v : Int32) : CSt := (c_manner σ, c_fault σ, c_under σ, c_nextS σ, c_rounds σ, v, c_shaded σ, c_moved σ, c_tmade σ, c_sizes σ, c_places σ, c_colours σ, c_moves σ, c_freed σ, c_wishing σ, c_theld σ, c_cmap σ, c_halfEnd σ, c_behind σ, c_hheld σ, c_named σ, c_wishes σ, c_pmade σ, c_keys σ, c_values σ, c_found σ, c_order σ, c_rcount σ)
def c_shaded_s (σ : CSt) (v : Int32) : CSt := (c_manner σ, c_fault σ, c_under σ, c_nextS σ, c_rounds σ, c_steps σ, v, c_moved σ, c_tmade σ, c_sizes σ, c_places σ, c_colours σ, c_moves σ, c_freed σ, c_wishing σ, c_theld σ, c_cmap σ, c_halfEnd σ, c_behind σ, c_hheld σ, c_named σ, c_wishes σ, c_pmade σ, c_keys σ, c_values σ, c_found σ, c_order σ, c_rcount σ)
def c_moved_s (σ : CSt) (v : Int32) : CSt := (c_manner σ, c_fault σ, c_under σ, c_nextS σ, c_rounds σ, c_steps σ, c_shaded σ, v, c_tmade σ, c_sizes σ, c_places σ, c_colours σ, c_moves σ, c_freed σ, c_wishing σ, c_theld σ, c_cmap σ, c_halfEnd σ, c_behind σ, c_hheld σ, c_named σ, c_wishes σ, c_pmade σ, c_keys σ, c_values σ, c_found σ, c_order σ, c_rcount σ)
def c_tmade_s (σ : CSt) (v : Int32) : CSt := (c_manner σ, c_fault σ, c_under σ, c_nextS σ, c_rounds σ, c_steps σ, c_shaded σ, c_moved σ, v, c_sizes σ, c_places σ, c_colours σ, c_moves σ, c_freed σ, c_wishing σ, c_theld σ, c_cmap σ, c_halfEnd σ, c_behind σ, c_hheld σ, c_named σ, c_wishes σ, c_pmade σ, c_keys σ, c_values σ, c_found σ, c_order σ, c_rcount σ)
def c_sizes_s (σ : CSt) (v : (Nat → Int32)) : CSt := (c_manner σ, c_fault σ, c_under σ, c_nextS σ, c_rounds σ, c_steps σ, c_shaded σ, c_moved σ, c_tmade σ, v, c_places σ, c_colours σ, c_moves σ, c_freed σ, c_wishing σ, c_theld σ, c_cmap σ, c_halfEnd σ, c_behind σ, c_hheld σ, c_named σ, c_wishes σ, c_pmade σ, c_keys σ, c_values σ, c_found σ, c_order σ, c_rcount σ)
def c_places_s (σ : CSt) (v : (Nat → Int32)) : CSt := (c_manner σ, c_fault σ, c_under σ, c_nextS σ, c_rounds σ, c_steps σ, c_shaded σ, c_moved σ, c_tmade σ, c_sizes σ, v, c_colours σ, c_moves σ, c_freed σ, c_wishing σ, c_theld σ, c_cmap σ, c_halfEnd σ, c_behind σ, c_hheld σ, c_named σ, c_wishes σ, c_pmade σ, c_keys σ, c_values σ, c_found σ, c_order σ, c_rcount σ)
def c_colours_s (σ : CSt) (v : (Nat → Int32)) : CSt := (c_manner σ, c_fault σ, c_under σ, c_nextS σ, c_rounds σ, c_steps σ, c_shaded σ, c_moved σ, c_tmade σ, c_sizes σ, c_places σ, v, c_moves σ, c_freed σ, c_wishing σ, c_theld σ, c_cmap σ, c_halfEnd σ, c_behind σ, c_hheld σ, c_named σ, c_wishes σ, c_pmade σ, c_keys σ, c_values σ, c_found σ, c_order σ, c_rcount σ)
def c_moves_s (σ : CSt) (v : (Nat → Int32)) : CSt := (c_manner σ, c_fault σ, c_under σ, c_nextS σ, c_rounds σ, c_steps σ, c_shaded σ, c_moved σ, c_tmade σ, c_sizes σ, c_places σ, c_colours σ, v, c_freed σ, c_wishing σ, c_theld σ, c_cmap σ, c_halfEnd σ, c_behind σ, c_hheld σ, c_named σ, c_wishes σ, c_pmade σ, c_keys σ, c_values σ, c_found σ, c_order σ, c_rcount σ)
def c_freed_s (σ : CSt) (v : (Nat → Int32)) : CSt := (c_manner σ, c_fault σ, c_under σ, c_nextS σ, c_rounds σ, c_steps σ, c_shaded σ, c_moved σ, c_tmade σ, c_sizes σ, c_places σ, c_colours σ, c_moves σ, v, c_wishing σ, c_theld σ, c_cmap σ, c_halfEnd σ, c_behind σ, c_hheld σ, c_named σ, c_wishes σ, c_pmade σ, c_keys σ, c_values σ, c_found σ, c_order σ, c_rcount σ)
def c_wishing_s (σ : CSt) (v : (Nat → Int32)) : CSt := (c_manner σ, c_fault σ, c_under σ, c_nextS σ, c_rounds σ, c_steps σ, c_shaded σ, c_moved σ, c_tmade σ, c_sizes σ, c_places σ, c_colours σ, c_moves σ, c_freed σ, v, c_theld σ, c_cmap σ, c_halfEnd σ, c_behind σ, c_hheld σ, c_named σ, c_wishes σ, c_pmade σ, c_keys σ, c_values σ, c_found σ, c_order σ, c_rcount σ)
def c_theld_s (σ : CSt) (v : (Nat → Int32)) : CSt := (c_manner σ, c_fault σ, c_under σ, c_nextS σ, c_rounds σ, c_steps σ, c_shaded σ, c_moved σ, c_tmade σ, c_sizes σ, c_places σ, c_colours σ, c_moves σ, c_freed σ, c_wishing σ, v, c_cmap σ, c_halfEnd σ, c_behind σ, c_hheld σ, c_named σ, c_wishes σ, c_pmade σ, c_keys σ, c_values σ, c_found σ, c_order σ, c_rcount σ)
def c_cmap_s (σ : CSt) (v : (Nat → Int32)) : CSt := (c_manner σ, c_fault σ, c_under σ, c_nextS σ, c_rounds σ, c_steps σ, c_shaded σ, c_moved σ, c_tmade σ, c_sizes σ, c_places σ, c_colours σ, c_moves σ, c_freed σ, c_wishing σ, c_theld σ, v, c_halfEnd σ, c_behind σ, c_hheld σ, c_named σ, c_wishes σ, c_pmade σ, c_keys σ, c_values σ, c_found σ, c_order σ, c_rcount σ)
def c_halfEnd_s (σ : CSt) (v : Int32) : CSt := (c_manner σ, c_fault σ, c_under σ, c_nextS σ, c_rounds σ, c_steps σ, c_shaded σ, c_moved σ, c_tmade σ, c_sizes σ, c_places σ, c_colours σ, c_moves σ, c_freed σ, c_wishing σ, c_theld σ, c_cmap σ, v, c_behind σ, c_hheld σ, c_named σ, c_wishes σ, c_pmade σ, c_keys σ, c_values σ, c_found σ, c_order σ, c_rcount σ)
def c_behind_s (σ : CSt) (v : Int32) : CSt := (c_manner σ, c_fault σ, c_under σ, c_nextS σ, c_rounds σ, c_steps σ, c_shaded σ, c_moved σ, c_tmade σ, c_sizes σ, c_places σ, c_colours σ, c_moves σ, c_freed σ, c_wishing σ, c_theld σ, c_cmap σ, c_halfEnd σ, v, c_hheld σ, c_named σ, c_wishes σ, c_pmade σ, c_keys σ, c_values σ, c_found σ, c_order σ, c_rcount σ)
def c_hheld_s (σ : CSt) (v : (Nat → Int32)) : CSt := (c_manner σ, c_fault σ, c_under σ, c_nextS σ, c_rounds σ, c_steps σ, c_shaded σ, c_moved σ, c_tmade σ, c_sizes σ, c_places σ, c_colours σ, c_moves σ, c_freed σ, c_wishing σ, c_theld σ, c_cmap σ, c_halfEnd σ, c_behind σ, v, c_named σ, c_wishes σ, c_pmade σ, c_keys σ, c_values σ, c_found σ, c_order σ, c_rcount σ)
def c_named_s (σ : CSt) (v : (Nat → Int32)) : CSt := (c_manner σ, c_fault σ, c_under σ, c_nextS σ, c_rounds σ, c_steps σ, c_shaded σ, c_moved σ, c_tmade σ, c_sizes σ, c_places σ, c_colours σ, c_moves σ, c_freed σ, c_wishing σ, c_theld σ, c_cmap σ, c_halfEnd σ, c_behind σ, c_hheld σ, v, c_wishes σ, c_pmade σ, c_keys σ, c_values σ, c_found σ, c_order σ, c_rcount σ)
def c_wishes_s (σ : CSt) (v : Int32) : CSt := (c_manner σ, c_fault σ, c_under σ, c_nextS σ, c_rounds σ, c_steps σ, c_shaded σ, c_moved σ, c_tmade σ, c_sizes σ, c_places σ, c_colours σ, c_moves σ, c_freed σ, c_wishing σ, c_theld σ, c_cmap σ, c_halfEnd σ, c_behind σ, c_hheld σ, c_named σ, v, c_pmade σ, c_keys σ, c_values σ, c_found σ, c_order σ, c_rcount σ)
def c_pmade_s (σ : CSt) (v : Int32) : CSt := (c_manner σ, c_fault σ, c_under σ, c_nextS σ, c_rounds σ, c_steps σ, c_shaded σ, c_moved σ, c_tmade σ, c_sizes σ, c_places σ, c_colours σ, c_moves σ, c_freed σ, c_wishing σ, c_theld σ, c_cmap σ, c_halfEnd σ, c_behind σ, c_hheld σ, c_named σ, c_wishes σ, v, c_keys σ, c_values σ, c_found σ, c_order σ, c_rcount σ)
def c_keys_s (σ : CSt) (v : (Nat → Int32)) : CSt := (c_manner σ, c_fault σ, c_under σ, c_nextS σ, c_rounds σ, c_steps σ, c_shaded σ, c_moved σ, c_tmade σ, c_sizes σ, c_places σ, c_colours σ, c_moves σ, c_freed σ, c_wishing σ, c_theld σ, c_cmap σ, c_halfEnd σ, c_behind σ, c_hheld σ, c_named σ, c_wishes σ, c_pmade σ, v, c_values σ, c_found σ, c_order σ, c_rcount σ)
def c_values_s (σ : CSt) (v : (Nat → Int32)) : CSt := (c_manner σ, c_fault σ, c_under σ, c_nextS σ, c_rounds σ, c_steps σ, c_shaded σ, c_moved σ, c_tmade σ, c_sizes σ, c_places σ, c_colours σ, c_moves σ, c_freed σ, c_wishing σ, c_theld σ, c_cmap σ, c_halfEnd σ, c_behind σ, c_hheld σ, c_named σ, c_wishes σ, c_pmade σ, c_keys σ, v, c_found σ, c_order σ, c_rcount σ)
def c_found_s (σ : CSt) (v : (Nat → Int32)) : CSt := (c_manner σ, c_fault σ, c_under σ, c_nextS σ, c_rounds σ, c_steps σ, c_shaded σ, c_moved σ, c_tmade σ, c_sizes σ, c_places σ, c_colours σ, c_moves σ, c_freed σ, c_wishing σ, c_theld σ, c_cmap σ, c_halfEnd σ, c_behind σ, c_hheld σ, c_named σ, c_wishes σ, c_pmade σ, c_keys σ, c_values σ, v, c_order σ, c_rcount σ)
def c_order_s (σ : CSt) (v : (Nat → Int32)) : CSt := (c_manner σ, c_fault σ, c_under σ, c_nextS σ, c_rounds σ, c_steps σ, c_shaded σ, c_moved σ, c_tmade σ, c_sizes σ, c_places σ, c_colours σ, c_moves σ, c_freed σ, c_wishing σ, c_theld σ, c_cmap σ, c_halfEnd σ, c_behind σ, c_hheld σ, c_named σ, c_wishes σ, c_pmade σ, c_keys σ, c_values σ, c_found σ, v, c_rcount σ)
def c_rcount_s (σ : CSt) (v : Int32) : CSt := (c_manner σ, c_fault σ, c_under σ, c_nextS σ, c_rounds σ, c_steps σ, c_shaded σ, c_moved σ, c_tmade σ, c_sizes σ, c_places σ, c_colours σ, c_moves σ, c_freed σ, c_wishing σ, c_theld σ, c_cmap σ, c_halfEnd σ, c_behind σ, c_hheld σ, c_named σ, c_wishes σ, c_pmade σ, c_keys σ, c_values σ, c_found σ, c_order σ, v)
def wR (a : Nat → Nat) (cI cZ : ClassId) (σ : RSt) : va_W := [(a 0, .inr (6, [.int (r_manner σ), .int (r_fault σ), .int (r_things σ), .ref (a 1), .ref (a 2), .ref (a 3), .ref (a 4), .ref (a 5), .ref (a 6), .ref (a 7), .ref (a 8), .ref (a 9), .int (r_wishes σ), .ref (a 10), .ref (a 11), .int (r_pairs σ), .ref (a 12), .ref (a 13), .ref (a 14), .int (r_half σ), .int (r_top σ), .int (r_way σ), .int (r_next σ), .int (r_freedMany σ), .int (r_rounds σ), .int (r_steps σ), .int (r_shaded σ), .int (r_movedMany σ), .ref (a 15), .int (r_more σ)])), (a 1, .inl (cI, 120, .inl (r_many σ))), (a 2, .inl (cI, 720, .inl (r_field σ))), (a 3, .inl (cI, 120, .inl (r_place σ))), (a 4, .inl (cI, 120, .inl (r_colour σ))), (a 5, .inl (cZ, 120, .inl (r_isFreed σ))), (a 6, .inl (cZ, 120, .inl (r_hasWish σ))), (a 7, .inl (cI, 120, .inl (r_moved σ))), (a 8, .inl (cI, 12, .inl (r_register σ))), (a 9, .inl (cI, 4, .inl (r_slot σ))), (a 10, .inl (cI, 120, .inl (r_wishAt σ))), (a 11, .inl (cI, 6, .inl (r_weakAt σ))), (a 12, .inl (cI, 8, .inl (r_key σ))), (a 13, .inl (cI, 8, .inl (r_value σ))), (a 14, .inl (cZ, 8, .inl (r_isPair σ))), (a 15, .inl (cZ, 120, .inl (r_isReached σ)))]
def wC (a : Nat → Nat) (cI cZ : ClassId) (σ : CSt) : va_W := [(a 0, .inr (5, [.ref (a 1), .ref (a 2), .ref (a 3), .ref (a 4), .ref (a 5), .int (c_manner σ), .int (c_fault σ), .int (c_under σ), .int (c_nextS σ), .int (c_rounds σ), .int (c_steps σ), .int (c_shaded σ), .int (c_moved σ)])), (a 1, .inr (4, [.int (c_tmade σ), .ref (a 6), .ref (a 7), .ref (a 8), .ref (a 9), .ref (a 10), .ref (a 11), .ref (a 12)])), (a 2, .inr (0, [.ref (a 13), .int (c_halfEnd σ), .int (c_behind σ)])), (a 3, .inr (1, [.ref (a 14), .ref (a 15), .int (c_wishes σ)])), (a 4, .inr (2, [.int (c_pmade σ), .ref (a 16), .ref (a 17)])), (a 5, .inr (3, [.ref (a 18), .ref (a 19), .int (c_rcount σ)])), (a 6, .inl (cI, 120, .inl (c_sizes σ))), (a 7, .inl (cI, 120, .inl (c_places σ))), (a 8, .inl (cI, 120, .inl (c_colours σ))), (a 9, .inl (cI, 120, .inl (c_moves σ))), (a 10, .inl (cZ, 120, .inl (c_freed σ))), (a 11, .inl (cZ, 120, .inl (c_wishing σ))), (a 12, .inl (cI, 720, .inl (c_theld σ))), (a 13, .inl (cI, 200, .inl (c_cmap σ))), (a 14, .inl (cI, 136, .inl (c_hheld σ))), (a 15, .inl (cI, 6, .inl (c_named σ))), (a 16, .inl (cI, 8, .inl (c_keys σ))), (a 17, .inl (cI, 8, .inl (c_values σ))), (a 18, .inl (cZ, 120, .inl (c_found σ))), (a 19, .inl (cI, 120, .inl (c_order σ)))]
theorem wR_sh (a : Nat → Nat) (cI cZ : ClassId) : ∀ u v : RSt, (wR a cI cZ u).map Prod.fst = (wR a cI cZ v).map Prod.fst := fun _ _ => rfl
theorem wC_sh (a : Nat → Nat) (cI cZ : ClassId) : ∀ u v : CSt, (wC a cI cZ u).map Prod.fst = (wC a cI cZ v).map Prod.fst := fun _ _ => rfl
abbrev tyIZ (cI cZ : ClassId) : List (ClassId × FieldType) := [(cI, .int), (cZ, .boolean)]
def NWs (U : State) : Prop := ∀ w ∈ NWl, va_Nw w U
theorem NWs_warm {s U : State} (hW : s.WarmedH U.vm) (h : NWs s) : NWs U := by
  intro w hw
  have h1 := h w hw
  simp only [NWl, List.mem_cons, List.not_mem_nil, or_false] at hw
  rcases hw with rfl | rfl | rfl | rfl | rfl | rfl | rfl | rfl | rfl | rfl | rfl | rfl <;> first | exact va_Nw.warmM hW h1 | exact va_Nw.warmF hW h1
theorem NWs_same {u U : State} (e : u.vm = U.vm) (h : NWs u) : NWs U := by
  intro w hw
  have h1 := h w hw
  simp only [NWl, List.mem_cons, List.not_mem_nil, or_false] at hw
  rcases hw with rfl | rfl | rfl | rfl | rfl | rfl | rfl | rfl | rfl | rfl | rfl | rfl <;> exact va_Nw.same rfl e h1
/-- what a method's walk has of the machine and of the tables -/
def Cx (p : Program) (s : State) (m : MethodId) (args : Array Value) (meth : Method) (c : Code) (cc : ByteArray) (nL : Nat) (own : String) (D : va_G) (tys : List (ClassId × FieldType)) : Prop :=
  p.tables.exec = Jvm.exec ∧ c.code = cc ∧ c.maxLocals = nL ∧ s.vm.findClass own = some m.cls ∧ (∀ w ∈ WW, w.before args s = true) ∧ va_K D vwCl tys s ∧ NWs s
/-- the world of a walk -/
def Sx (A : Nat → Prop) (D : va_G) (ws : va_W) (s : State) (H : Heap) (locs : List Loc) : Prop := va_P D vwCl ws H ∧ va_D A ws ∧ va_S A s.heap H locs
theorem va_D_sh {A : Nat → Prop} {ws ws' : va_W} (h : ws.map Prod.fst = ws'.map Prod.fst) (hD : va_D A ws) : va_D A ws' := by
  have key : ∀ (k : Nat) (q : Nat × va_E), ws'[k]? = some q → ∃ q', ws[k]? = some q' ∧ q'.1 = q.1 := by
    intro k q hq
    have h1 : (ws'.map Prod.fst)[k]? = some q.1 := by simp [hq]
    rw [← h] at h1
    simp only [List.getElem?_map, Option.map_eq_some_iff] at h1
    obtain ⟨q', a1, a2⟩ := h1
    exact ⟨q', a1, a2⟩
  refine ⟨fun i j p q hi hj e => ?_, fun k q hk => ?_⟩
  · obtain ⟨p', a1, a2⟩ := key i p hi
    obtain ⟨q', b1, b2⟩ := key j q hj
    exact hD.1 i j p' q' a1 b1 (by rw [a2, b2, e])
  · obtain ⟨q', a1, a2⟩ := key k q hk
    rw [← a2]
    exact hD.2 k q' a1
abbrev rmk (f lo : Nat) : Room := { frames := f, cells := 0, slots := 0, locals := lo }
def PcX (D : va_G) (tys : List (ClassId × FieldType)) (ws : va_W) (sz : Nat) (U : State) : Prop := U.heap.size = sz ∧ va_P D vwCl ws U.heap ∧ va_K D vwCl tys U ∧ NWs U ∧ va_D (fun _ => True) ws
/-- a method that makes nothing: it answers val (an int, a boolean), the world that was of σ is of τ -/
def CR (l : Launch) (D : va_G) (tys : List (ClassId × FieldType)) {S : Type} (wd : S → va_W) (y : MethodName) (b : ByteArray) (n : Nat) (rt : FieldType) (rm : Room) (av : List Value) (σ : S) (val : Int32) (τ : S) : Prop :=
  ∀ sz : Nat, Met l y (.code y b n (some rt) :: WW) rm (va_Pc av (PcX D tys (wd σ) sz)) (va_Qi (fun (r : Int32) (_ : Unit) => r = val) (fun _ t => va_P D vwCl (wd τ) t.heap) (va_A (wd σ) sz)) 0 0 (va_A (wd σ) sz)
def CJ (l : Launch) (D : va_G) (tys : List (ClassId × FieldType)) {S : Type} (wd : S → va_W) (y : MethodName) (b : ByteArray) (n : Nat) (rm : Room) (av : List Value) (σ : S) (val : Int64) (τ : S) : Prop :=
  ∀ sz : Nat, Met l y (.code y b n (some .long) :: WW) rm (va_Pc av (PcX D tys (wd σ) sz)) (va_Ql (fun (r : Int64) (_ : Unit) => r = val) (fun _ t => va_P D vwCl (wd τ) t.heap) (va_A (wd σ) sz)) 0 0 (va_A (wd σ) sz)
def CU (l : Launch) (D : va_G) (tys : List (ClassId × FieldType)) {S : Type} (wd : S → va_W) (y : MethodName) (b : ByteArray) (n : Nat) (rm : Room) (av : List Value) (σ : S) (τ : S) : Prop :=
  ∀ sz : Nat, Met l y (.code y b n none :: WW) rm (va_Pc av (PcX D tys (wd σ) sz)) (va_Qv (fun (_ : Unit) => True) (fun _ t => va_P D vwCl (wd τ) t.heap) (va_A (wd σ) sz)) 0 0 (va_A (wd σ) sz)
theorem good_WW {w : Cond} (h : w ∈ WW) : (w.onTables && w.keeps) = true ∨ ∃ ty, w = .arrayClass ty := good_of_word (List.mem_filter.mp h).2
theorem gCode {w : Cond} (h : w ∈ WW) : GoodIn WW (w :: WW) := by
  intro x hx
  rcases List.mem_cons.mp hx with rfl | hx
  · exact ⟨h, good_WW h⟩
  · exact ⟨hx, good_WW hx⟩
theorem gV {own : String} {idx : Nat} {C : String} {y : MethodName} {w : Cond} (h1 : Cond.methodLink own idx y ∈ WW) (h2 : Cond.instanceMethod y ∈ WW) (h3 : Cond.selects C y y ∈ WW) (h4 : Cond.initialized C ∈ WW) (h5 : w ∈ WW) : GoodIn WW (wsV own idx C y (w :: WW)) := by
  intro x hx
  unfold wsV at hx
  simp only [List.cons_append, List.nil_append, List.mem_cons] at hx
  rcases hx with rfl | rfl | rfl | rfl | rfl | hx
  · exact ⟨h1, good_WW h1⟩
  · exact ⟨h2, good_WW h2⟩
  · exact ⟨h3, good_WW h3⟩
  · exact ⟨h4, good_WW h4⟩
  · exact ⟨h5, good_WW h5⟩
  · exact ⟨hx, good_WW hx⟩
theorem gS {own : String} {idx : Nat} {y : MethodName} {w : Cond} (h1 : Cond.methodLink own idx y ∈ WW) (h2 : Cond.static y ∈ WW) (h4 : Cond.initialized own ∈ WW) (h5 : w ∈ WW) : GoodIn WW (wsS own idx y (w :: WW)) := by
  intro x hx
  unfold wsS at hx
  simp only [List.cons_append, List.nil_append, List.mem_cons] at hx
  rcases hx with rfl | rfl | rfl | rfl | hx
  · exact ⟨h1, good_WW h1⟩
  · exact ⟨h2, good_WW h2⟩
  · exact ⟨h4, good_WW h4⟩
  · exact ⟨h5, good_WW h5⟩
  · exact ⟨hx, good_WW hx⟩
theorem Pc_blind {D : va_G} {tys : List (ClassId × FieldType)} {ws : va_W} {sz : Nat} {av : List Value} : FrameBlind (va_Pc av (PcX D tys ws sz)) := fun a U g mk q => by
  obtain ⟨q0, q1, qP, qK, qN, qD⟩ := q
  exact ⟨q0, q1, qP, va_K.moved (u := U) (U := U.calling g mk a) (Vm.Alike.refl U.vm) qK, NWs_same (u := U) rfl qN, qD⟩
section BX
variable {p : Program} {l : Launch} {e : Env} {R : Room} {s : State} {m : MethodId} {args : Array Value} {below : List Frame} {meth : Method} {c : Code} {H : Heap} {locs : List Loc} {cells slots : Nat} {Q : State → Prop}
variable {cc : ByteArray} {nL : Nat} {own : String} {D : va_G} {tys : List (ClassId × FieldType)} {A : Nat → Prop} {pc : Nat} {ls : Array Slot} {rest : List Value}
theorem Pc_call (C : Cx p s m args meth c cc nL own D tys) {ws : va_W} (X : Sx A D ws s H locs) {av : List Value} : ∀ U : State, U.heap = H → s.WarmedH U.vm → va_Pc av (PcX D tys ws H.size) av.toArray U := fun U hU hW =>
  ⟨rfl, by rw [hU], by rw [hU]; exact X.1, va_K.moved hW.alike C.2.2.2.2.2.1, NWs_warm hW C.2.2.2.2.2.2, ⟨X.2.1.1, fun _ _ _ => trivial⟩⟩
theorem A_call {ws : va_W} (X : Sx A D ws s H locs) (hA : ∀ q, s.heap.size ≤ q → A q) : ∀ q, va_A ws H.size q → A q := by
  intro q h
  rcases h with ⟨k, e, h⟩ | h
  · exact X.2.1.2 k _ h
  · exact hA q (Nat.le_trans X.2.2.1 h)
theorem Sx_after {S : Type} {wd : S → va_W} (hsh : ∀ u v, (wd u).map Prod.fst = (wd v).map Prod.fst) {σ τ : S} (X : Sx A D (wd σ) s H locs) {t : State} {H1 : Heap} {locs1 : List Loc} (ht : t.heap = H1) (hB : va_P D vwCl (wd τ) t.heap) (hS : va_S A s.heap H1 locs1) : Sx A D (wd τ) s H1 locs1 := ⟨by rw [← ht]; exact hB, va_D_sh (hsh σ τ) X.2.1, hS⟩
/-- a call of a method of one's own world: an int or a boolean comes back -/
theorem callVR (C : Cx p s m args meth c cc nL own D tys) (hA : ∀ q, s.heap.size ≤ q → A q) {S : Type} {wd : S → va_W} (hsh : ∀ u v, (wd u).map Prod.fst = (wd v).map Prod.fst) {σ τ : S} (X : Sx A D (wd σ) s H locs) {y : MethodName} {b : ByteArray} {n na index : Nat} {rt : FieldType} {rm : Room} {val : Int32} {Cc : String} {r q0 ci NN : Nat} {TT : u_T} {As : List Value} {fs : List Value}
    (hM : CR l D tys wd y b n rt rm (.ref r :: As) σ val τ) (cw : CallW R s args own Cc index y b n (some rt) (.code y b n (some rt) :: WW) rm 0 0 na)
    (hc : vwCl[ci]? = some (Cc, TT, NN)) (he : (wd σ)[q0]? = some (r, .inr (ci, fs))) (hn : As.length = na) (hls : ls.size = nL) {st : List Value} (hst : st = As.reverse ++ .ref r :: rest) (hcat : (rest.map fun v => v.category).sum ≤ 8) (hd : decode cc pc = .ok (.invokevirtual index, 3)) (hcs : cells ≤ R.cells ∧ slots ≤ R.slots)
    (k : ∀ (H1 : Heap) (locs1 : List Loc), Sx A D (wd τ) s H1 locs1 → W p l e R s m args below meth c H1 locs1 cells slots Q (F0 m (pc + 3) ls (.int val :: rest))) : W p l e R s m args below meth c H locs cells slots Q (F0 m pc ls st) := by
  subst hst
  refine va_calli (va_runV (As := As) (rest := rest) (g := F0 m pc ls (As.reverse ++ .ref r :: rest)) ⟨C.1, C.2.1, C.2.2.1, C.2.2.2.1, C.2.2.2.2.1⟩ (hM H.size) cw ⟨Pc_blind, va_recv C.2.2.2.2.2.1 X.1 hc he, Pc_call C X⟩ rfl hn hls rfl (lv_room hcat) hd hcs) X.2.2 (fun q _ h => A_call X hA q h) (A_call X hA) (fun rr u t H1 locs1 ht hvm hw hB hz1 hk1 hS => ?_)
  subst hw
  exact k H1 locs1 (Sx_after hsh X ht hB hS)
theorem callVJ (C : Cx p s m args meth c cc nL own D tys) (hA : ∀ q, s.heap.size ≤ q → A q) {S : Type} {wd : S → va_W} (hsh : ∀ u v, (wd u).map Prod.fst = (wd v).map Prod.fst) {σ τ : S} (X : Sx A D (wd σ) s H locs) {y : MethodName} {b : ByteArray} {n na index : Nat} {rm : Room} {val : Int64} {Cc : String} {r q0 ci NN : Nat} {TT : u_T} {As : List Value} {fs : List Value}
    (hM : CJ l D tys wd y b n rm (.ref r :: As) σ val τ) (cw : CallW R s args own Cc index y b n (some .long) (.code y b n (some .long) :: WW) rm 0 0 na)
    (hc : vwCl[ci]? = some (Cc, TT, NN)) (he : (wd σ)[q0]? = some (r, .inr (ci, fs))) (hn : As.length = na) (hls : ls.size = nL) {st : List Value} (hst : st = As.reverse ++ .ref r :: rest) (hcat : (rest.map fun v => v.category).sum ≤ 8) (hd : decode cc pc = .ok (.invokevirtual index, 3)) (hcs : cells ≤ R.cells ∧ slots ≤ R.slots)
    (k : ∀ (H1 : Heap) (locs1 : List Loc), Sx A D (wd τ) s H1 locs1 → W p l e R s m args below meth c H1 locs1 cells slots Q (F0 m (pc + 3) ls (.long val :: rest))) : W p l e R s m args below meth c H locs cells slots Q (F0 m pc ls st) := by
  subst hst
  refine va_calll (va_runV (As := As) (rest := rest) (g := F0 m pc ls (As.reverse ++ .ref r :: rest)) ⟨C.1, C.2.1, C.2.2.1, C.2.2.2.1, C.2.2.2.2.1⟩ (hM H.size) cw ⟨Pc_blind, va_recv C.2.2.2.2.2.1 X.1 hc he, Pc_call C X⟩ rfl hn hls rfl (lv_room hcat) hd hcs) X.2.2 (fun q _ h => A_call X hA q h) (A_call X hA) (fun rr u t H1 locs1 ht hvm hw hB hz1 hk1 hS => ?_)
  subst hw
  exact k H1 locs1 (Sx_after hsh X ht hB hS)
theorem callVU (C : Cx p s m args meth c cc nL own D tys) (hA : ∀ q, s.heap.size ≤ q → A q) {S : Type} {wd : S → va_W} (hsh : ∀ u v, (wd u).map Prod.fst = (wd v).map Prod.fst) {σ τ : S} (X : Sx A D (wd σ) s H locs) {y : MethodName} {b : ByteArray} {n na index : Nat} {rm : Room} {Cc : String} {r q0 ci NN : Nat} {TT : u_T} {As : List Value} {fs : List Value}
    (hM : CU l D tys wd y b n rm (.ref r :: As) σ τ) (cw : CallW R s args own Cc index y b n none (.code y b n none :: WW) rm 0 0 na)
    (hc : vwCl[ci]? = some (Cc, TT, NN)) (he : (wd σ)[q0]? = some (r, .inr (ci, fs))) (hn : As.length = na) (hls : ls.size = nL) {st : List Value} (hst : st = As.reverse ++ .ref r :: rest) (hcat : (rest.map fun v => v.category).sum ≤ 8) (hd : decode cc pc = .ok (.invokevirtual index, 3)) (hcs : cells ≤ R.cells ∧ slots ≤ R.slots)
    (k : ∀ (H1 : Heap) (locs1 : List Loc), Sx A D (wd τ) s H1 locs1 → W p l e R s m args below meth c H1 locs1 cells slots Q (F0 m (pc + 3) ls rest)) : W p l e R s m args below meth c H locs cells slots Q (F0 m pc ls st) := by
  subst hst
  refine va_callv (va_runV (As := As) (rest := rest) (g := F0 m pc ls (As.reverse ++ .ref r :: rest)) ⟨C.1, C.2.1, C.2.2.1, C.2.2.2.1, C.2.2.2.2.1⟩ (hM H.size) cw ⟨Pc_blind, va_recv C.2.2.2.2.2.1 X.1 hc he, Pc_call C X⟩ rfl hn hls rfl (lv_room hcat) hd hcs) X.2.2 (fun q _ h => A_call X hA q h) (A_call X hA) (fun u t H1 locs1 ht hvm hw hB hz1 hk1 hS => ?_)
  exact k H1 locs1 (Sx_after hsh X ht hB hS)
/-- a static call -/
theorem callSR (C : Cx p s m args meth c cc nL own D tys) (hA : ∀ q, s.heap.size ≤ q → A q) {S : Type} {wd : S → va_W} (hsh : ∀ u v, (wd u).map Prod.fst = (wd v).map Prod.fst) {σ τ : S} (X : Sx A D (wd σ) s H locs) {y : MethodName} {b : ByteArray} {n na index : Nat} {rt : FieldType} {rm : Room} {val : Int32} {As : List Value}
    (hM : CR l D tys wd y b n rt rm As σ val τ) (cw : CallB R s args own index y b n (some rt) (.code y b n (some rt) :: WW) rm 0 0 na ∧ (Cond.static y).before args s = true)
    (hn : As.length = na) (hls : ls.size = nL) {st : List Value} (hst : st = As.reverse ++ rest) (hcat : (rest.map fun v => v.category).sum ≤ 8) (hd : decode cc pc = .ok (.invokestatic index, 3)) (hcs : cells ≤ R.cells ∧ slots ≤ R.slots)
    (k : ∀ (H1 : Heap) (locs1 : List Loc), Sx A D (wd τ) s H1 locs1 → W p l e R s m args below meth c H1 locs1 cells slots Q (F0 m (pc + 3) ls (.int val :: rest))) : W p l e R s m args below meth c H locs cells slots Q (F0 m pc ls st) := by
  subst hst
  refine va_calli (va_runS (As := As) (rest := rest) (g := F0 m pc ls (As.reverse ++ rest)) ⟨C.1, C.2.1, C.2.2.1, C.2.2.2.1, C.2.2.2.2.1⟩ (hM H.size) cw ⟨Pc_blind, Pc_call C X⟩ rfl hn hls rfl (lv_room hcat) hd hcs) X.2.2 (fun q _ h => A_call X hA q h) (A_call X hA) (fun rr u t H1 locs1 ht hvm hw hB hz1 hk1 hS => ?_)
  subst hw
  exact k H1 locs1 (Sx_after hsh X ht hB hS)
/-- a static call of a nest mate -/
theorem callNR (C : Cx p s m args meth c cc nL own D tys) (hA : ∀ q, s.heap.size ≤ q → A q) {S : Type} {wd : S → va_W} (hsh : ∀ u v, (wd u).map Prod.fst = (wd v).map Prod.fst) {σ τ : S} (X : Sx A D (wd σ) s H locs) {y : MethodName} {b : ByteArray} {n na index : Nat} {rt : FieldType} {rm : Room} {val : Int32} {As : List Value} {host : String}
    (hM : CR l D tys wd y b n rt rm As σ val τ) (cw : va_CN R s args own index y host b n (some rt) (.code y b n (some rt) :: WW) rm 0 0 na ∧ (Cond.static y).before args s = true ∧ True)
    (hn : As.length = na) (hls : ls.size = nL) {st : List Value} (hst : st = As.reverse ++ rest) (hcat : (rest.map fun v => v.category).sum ≤ 8) (hd : decode cc pc = .ok (.invokestatic index, 3)) (hcs : cells ≤ R.cells ∧ slots ≤ R.slots)
    (k : ∀ (H1 : Heap) (locs1 : List Loc), Sx A D (wd τ) s H1 locs1 → W p l e R s m args below meth c H1 locs1 cells slots Q (F0 m (pc + 3) ls (.int val :: rest))) : W p l e R s m args below meth c H locs cells slots Q (F0 m pc ls st) := by
  subst hst
  refine va_calli (va_runSN (As := As) (rest := rest) (g := F0 m pc ls (As.reverse ++ rest)) ⟨C.1, C.2.1, C.2.2.1, C.2.2.2.1, C.2.2.2.2.1⟩ (hM H.size) cw ⟨Pc_blind, Pc_call C X⟩ rfl hn hls rfl (lv_room hcat) hd hcs) X.2.2 (fun q _ h => A_call X hA q h) (A_call X hA) (fun rr u t H1 locs1 ht hvm hw hB hz1 hk1 hS => ?_)
  subst hw
  exact k H1 locs1 (Sx_after hsh X ht hB hS)
end BX
/-- the contract out of a walk of the body -/
theorem CR.of {l : Launch} {D : va_G} {tys : List (ClassId × FieldType)} {S : Type} {wd : S → va_W} {y : MethodName} {b : ByteArray} {n : Nat} {rt : FieldType} {rm : Room} {av : List Value} {σ : S} {val : Int32} {τ : S} (hy : plainName y.cls = true) (hrm : rm.cells = 0 ∧ rm.slots = 0) (hlen : (lg_sl av).length ≤ n) (hnar : narrow rt (.int val) = .int val)
    (body : ∀ (p : Program) (e : Env) (s : State) (m : MethodId) (args : Array Value) (below : List Frame) (meth : Method) (c : Code) (A : Nat → Prop) (Q : State → Prop) (ls : Array Slot), Cx p s m args meth c b n y.cls D tys → Sx A D (wd σ) s s.heap [] → (∀ q, s.heap.size ≤ q → A q) → lv_has ls n (lv_args 0 av) →
      (∀ {pc : Nat} {ls1 : Array Slot} {H : Heap} {locs : List Loc} {v : Int32} {u : S}, decode b pc = .ok (.ireturn, 1) → (v, u) = (val, τ) → Sx A D (wd u) s H locs → W p l e rm s m args below meth c H locs 0 0 Q (F0 m pc ls1 [.int v])) → W p l e rm s m args below meth c s.heap [] 0 0 Q (F0 m 0 ls [])) : CR l D tys wd y b n rt rm av σ val τ := by
  intro sz
  refine Met.ofW (cc := b) (maxL := n) (ret := some rt) hy rfl ?_
  intro p e s m args below meth c s₁ B hml hv
  obtain ⟨rfl, hsz, hP, hK, hN, hD0⟩ := hv
  have hts := atoms_spec (ws := .code y b n (some rt) :: WW) B.pre
  have hown : s.vm.findClass y.cls = some m.cls := findClass_of_methodNamed B.named
  have hlocks := B.notSynchronized
  subst hsz
  have hD := hD0.self (sz := s.heap.size)
  have hA : ∀ q : Nat, s.heap.size ≤ q → va_A (wd σ) s.heap.size q := fun q h => Or.inr h
  have hl := lv_entry av (n := n) hlen
  rw [lg_entry_eq]
  refine body p e s m _ below meth c (va_A (wd σ) s.heap.size) _ _ ⟨B.exec, B.bytes, hml, hown, fun w hw => hts w (List.mem_cons_of_mem _ hw), hK, hN⟩ ⟨hP, hD, va_S.rf⟩ hA hl ?_
  intro pc ls1 H locs v u hd hvu X
  cases hvu
  exact W.zret B.exec B.bytes B.returns hnar (fun t ht hW => ⟨⟨val, (), rfl, rfl, by subst ht; exact X.1⟩, X.2.2.F ht⟩) X.2.2.2.2 hd
theorem CJ.of {l : Launch} {D : va_G} {tys : List (ClassId × FieldType)} {S : Type} {wd : S → va_W} {y : MethodName} {b : ByteArray} {n : Nat} {rm : Room} {av : List Value} {σ : S} {val : Int64} {τ : S} (hy : plainName y.cls = true) (hrm : rm.cells = 0 ∧ rm.slots = 0) (hlen : (lg_sl av).length ≤ n)
    (body : ∀ (p : Program) (e : Env) (s : State) (m : MethodId) (args : Array Value) (below : List Frame) (meth : Method) (c : Code) (A : Nat → Prop) (Q : State → Prop) (ls : Array Slot), Cx p s m args meth c b n y.cls D tys → Sx A D (wd σ) s s.heap [] → (∀ q, s.heap.size ≤ q → A q) → lv_has ls n (lv_args 0 av) →
      (∀ {pc : Nat} {ls1 : Array Slot} {H : Heap} {locs : List Loc} {v : Int64} {u : S}, decode b pc = .ok (.lreturn, 1) → (v, u) = (val, τ) → Sx A D (wd u) s H locs → W p l e rm s m args below meth c H locs 0 0 Q (F0 m pc ls1 [.long v])) → W p l e rm s m args below meth c s.heap [] 0 0 Q (F0 m 0 ls [])) : CJ l D tys wd y b n rm av σ val τ := by
  intro sz
  refine Met.ofW (cc := b) (maxL := n) (ret := some .long) hy rfl ?_
  intro p e s m args below meth c s₁ B hml hv
  obtain ⟨rfl, hsz, hP, hK, hN, hD0⟩ := hv
  have hts := atoms_spec (ws := .code y b n (some .long) :: WW) B.pre
  have hown : s.vm.findClass y.cls = some m.cls := findClass_of_methodNamed B.named
  have hlocks := B.notSynchronized
  subst hsz
  have hD := hD0.self (sz := s.heap.size)
  have hA : ∀ q : Nat, s.heap.size ≤ q → va_A (wd σ) s.heap.size q := fun q h => Or.inr h
  have hl := lv_entry av (n := n) hlen
  rw [lg_entry_eq]
  refine body p e s m _ below meth c (va_A (wd σ) s.heap.size) _ _ ⟨B.exec, B.bytes, hml, hown, fun w hw => hts w (List.mem_cons_of_mem _ hw), hK, hN⟩ ⟨hP, hD, va_S.rf⟩ hA hl ?_
  intro pc ls1 H locs v u hd hvu X
  cases hvu
  exact W.lret B.exec B.bytes B.returns (fun t ht hW => ⟨⟨val, (), rfl, rfl, by subst ht; exact X.1⟩, X.2.2.F ht⟩) X.2.2.2.2 hd
theorem CU.of {l : Launch} {D : va_G} {tys : List (ClassId × FieldType)} {S : Type} {wd : S → va_W} {y : MethodName} {b : ByteArray} {n : Nat} {rm : Room} {av : List Value} {σ : S} {τ : S} (hy : plainName y.cls = true) (hrm : rm.cells = 0 ∧ rm.slots = 0) (hlen : (lg_sl av).length ≤ n)
    (body : ∀ (p : Program) (e : Env) (s : State) (m : MethodId) (args : Array Value) (below : List Frame) (meth : Method) (c : Code) (A : Nat → Prop) (Q : State → Prop) (ls : Array Slot), Cx p s m args meth c b n y.cls D tys → Sx A D (wd σ) s s.heap [] → (∀ q, s.heap.size ≤ q → A q) → lv_has ls n (lv_args 0 av) →
      (∀ {pc : Nat} {ls1 : Array Slot} {H : Heap} {locs : List Loc} {u : S}, decode b pc = .ok (.return_, 1) → u = τ → Sx A D (wd u) s H locs → W p l e rm s m args below meth c H locs 0 0 Q (F0 m pc ls1 [])) → W p l e rm s m args below meth c s.heap [] 0 0 Q (F0 m 0 ls [])) : CU l D tys wd y b n rm av σ τ := by
  intro sz
  refine Met.ofW (cc := b) (maxL := n) (ret := none) hy rfl ?_
  intro p e s m args below meth c s₁ B hml hv
  obtain ⟨rfl, hsz, hP, hK, hN, hD0⟩ := hv
  have hts := atoms_spec (ws := .code y b n none :: WW) B.pre
  have hown : s.vm.findClass y.cls = some m.cls := findClass_of_methodNamed B.named
  have hlocks := B.notSynchronized
  subst hsz
  have hD := hD0.self (sz := s.heap.size)
  have hA : ∀ q : Nat, s.heap.size ≤ q → va_A (wd σ) s.heap.size q := fun q h => Or.inr h
  have hl := lv_entry av (n := n) hlen
  rw [lg_entry_eq]
  refine body p e s m _ below meth c (va_A (wd σ) s.heap.size) _ _ ⟨B.exec, B.bytes, hml, hown, fun w hw => hts w (List.mem_cons_of_mem _ hw), hK, hN⟩ ⟨hP, hD, va_S.rf⟩ hA hl ?_
  intro pc ls1 H locs u hd hvu X
  cases hvu
  exact W.vret B.exec B.bytes B.returns (fun t ht hW => ⟨⟨(), rfl, trivial, by subst ht; exact X.1⟩, X.2.2.F ht⟩) X.2.2.2.2 hd
end
section
section BR
variable {p : Program} {l : Launch} {e : Env} {R : Room} {s : State} {m : MethodId} {args : Array Value} {below : List Frame} {meth : Method} {c : Code} {H : Heap} {locs : List Loc} {cells slots : Nat} {Q : State → Prop}
variable {cc : ByteArray} {nL : Nat} {D : va_G} {A : Nat → Prop} {pc : Nat} {ls : Array Slot} {rest : List Value} {a : Nat → Nat} {cI cZ : ClassId}
theorem cg_X0_X0_things {σ : CSt} (C : Cx p s m args meth c cc nL RX0 D (tyIZ cI cZ)) (X : Sx A D (wC a cI cZ σ) s H locs) (hd : decode cc pc = .ok (.getfield 9, 3)) (k : W p l e R s m args below meth c H locs cells slots Q (F0 m (pc + 3) ls (.ref (a 13) :: rest))) : W p l e R s m args below meth c H locs cells slots Q (F0 m pc ls (.ref (a 2) :: rest)) :=
  va_get (D := D) (ci := 0) (v := .ref (a 13)) (C := RX0) (T := TX0) (N := 3) C.1 C.2.1 C.2.2.2.2.1 wx_X0 C.2.2.2.1 C.2.2.2.2.2.1 X.1 2 rfl rfl 0 (by decide) (C.2.2.2.2.1 _ wf_X0_9) (fun _ h9 => h9) rfl hd k
theorem cg_X0_X0_behind {σ : CSt} (C : Cx p s m args meth c cc nL RX0 D (tyIZ cI cZ)) (X : Sx A D (wC a cI cZ σ) s H locs) {v : Int32} (hv : c_behind σ = v) (hd : decode cc pc = .ok (.getfield 15, 3)) (k : W p l e R s m args below meth c H locs cells slots Q (F0 m (pc + 3) ls (.int v :: rest))) : W p l e R s m args below meth c H locs cells slots Q (F0 m pc ls (.ref (a 2) :: rest)) := by
  subst hv
  exact va_get (D := D) (ci := 0) (v := .int (c_behind σ)) (C := RX0) (T := TX0) (N := 3) C.1 C.2.1 C.2.2.2.2.1 wx_X0 C.2.2.2.1 C.2.2.2.2.2.1 X.1 2 rfl rfl 2 (by decide) (C.2.2.2.2.1 _ wf_X0_15) (fun _ h9 => h9) rfl hd k
theorem cp_X0_X0_behind {σ : CSt} (C : Cx p s m args meth c cc nL RX0 D (tyIZ cI cZ)) (X : Sx A D (wC a cI cZ σ) s H locs) {v : Int32} (hd : decode cc pc = .ok (.putfield 15, 3)) (k : ∀ (H1 : Heap) (locs1 : List Loc), Sx A D (wC a cI cZ (c_behind_s σ v)) s H1 locs1 → W p l e R s m args below meth c H1 locs1 cells slots Q (F0 m (pc + 3) ls rest)) : W p l e R s m args below meth c H locs cells slots Q (F0 m pc ls (.int v :: .ref (a 2) :: rest)) :=
  va_put (D := D) (ci := 0) (v := .int v) (ty := .int) (C := RX0) (T := TX0) (N := 3) C.1 C.2.1 C.2.2.2.2.1 wx_X0 tyX0 tyX0_ok nmX0 C.2.2.2.1 C.2.2.2.2.2.1 X.1 X.2.1 X.2.2 2 rfl rfl 2 (by decide) (C.2.2.2.2.1 _ wf_X0_15) (fun _ h9 => h9) rfl (by decide +kernel) rfl rfl (Nat.le_of_ble_eq_true rfl) hd (fun H1 locs1 hP hD hS => k H1 locs1 ⟨hP, hD, hS⟩)
theorem cg_X0_X0_halfEnd {σ : CSt} (C : Cx p s m args meth c cc nL RX0 D (tyIZ cI cZ)) (X : Sx A D (wC a cI cZ σ) s H locs) {v : Int32} (hv : c_halfEnd σ = v) (hd : decode cc pc = .ok (.getfield 19, 3)) (k : W p l e R s m args below meth c H locs cells slots Q (F0 m (pc + 3) ls (.int v :: rest))) : W p l e R s m args below meth c H locs cells slots Q (F0 m pc ls (.ref (a 2) :: rest)) := by
  subst hv
  exact va_get (D := D) (ci := 0) (v := .int (c_halfEnd σ)) (C := RX0) (T := TX0) (N := 3) C.1 C.2.1 C.2.2.2.2.1 wx_X0 C.2.2.2.1 C.2.2.2.2.2.1 X.1 2 rfl rfl 1 (by decide) (C.2.2.2.2.1 _ wf_X0_19) (fun _ h9 => h9) rfl hd k
theorem cp_X0_X0_halfEnd {σ : CSt} (C : Cx p s m args meth c cc nL RX0 D (tyIZ cI cZ)) (X : Sx A D (wC a cI cZ σ) s H locs) {v : Int32} (hd : decode cc pc = .ok (.putfield 19, 3)) (k : ∀ (H1 : Heap) (locs1 : List Loc), Sx A D (wC a cI cZ (c_halfEnd_s σ v)) s H1 locs1 → W p l e R s m args below meth c H1 locs1 cells slots Q (F0 m (pc + 3) ls rest)) : W p l e R s m args below meth c H locs cells slots Q (F0 m pc ls (.int v :: .ref (a 2) :: rest)) :=
  va_put (D := D) (ci := 0) (v := .int v) (ty := .int) (C := RX0) (T := TX0) (N := 3) C.1 C.2.1 C.2.2.2.2.1 wx_X0 tyX0 tyX0_ok nmX0 C.2.2.2.1 C.2.2.2.2.2.1 X.1 X.2.1 X.2.2 2 rfl rfl 1 (by decide) (C.2.2.2.2.1 _ wf_X0_19) (fun _ h9 => h9) rfl (by decide +kernel) rfl rfl (Nat.le_of_ble_eq_true rfl) hd (fun H1 locs1 hP hD hS => k H1 locs1 ⟨hP, hD, hS⟩)
theorem cg_X1_X1_held {σ : CSt} (C : Cx p s m args meth c cc nL RX1 D (tyIZ cI cZ)) (X : Sx A D (wC a cI cZ σ) s H locs) (hd : decode cc pc = .ok (.getfield 9, 3)) (k : W p l e R s m args below meth c H locs cells slots Q (F0 m (pc + 3) ls (.ref (a 14) :: rest))) : W p l e R s m args below meth c H locs cells slots Q (F0 m pc ls (.ref (a 3) :: rest)) :=
  va_get (D := D) (ci := 1) (v := .ref (a 14)) (C := RX1) (T := TX1) (N := 3) C.1 C.2.1 C.2.2.2.2.1 wx_X1 C.2.2.2.1 C.2.2.2.2.2.1 X.1 3 rfl rfl 0 (by decide) (C.2.2.2.2.1 _ wf_X1_9) (fun _ h9 => h9) rfl hd k
theorem cg_X1_X1_named {σ : CSt} (C : Cx p s m args meth c cc nL RX1 D (tyIZ cI cZ)) (X : Sx A D (wC a cI cZ σ) s H locs) (hd : decode cc pc = .ok (.getfield 15, 3)) (k : W p l e R s m args below meth c H locs cells slots Q (F0 m (pc + 3) ls (.ref (a 15) :: rest))) : W p l e R s m args below meth c H locs cells slots Q (F0 m pc ls (.ref (a 3) :: rest)) :=
  va_get (D := D) (ci := 1) (v := .ref (a 15)) (C := RX1) (T := TX1) (N := 3) C.1 C.2.1 C.2.2.2.2.1 wx_X1 C.2.2.2.1 C.2.2.2.2.2.1 X.1 3 rfl rfl 1 (by decide) (C.2.2.2.2.1 _ wf_X1_15) (fun _ h9 => h9) rfl hd k
theorem cg_X1_X1_wishes {σ : CSt} (C : Cx p s m args meth c cc nL RX1 D (tyIZ cI cZ)) (X : Sx A D (wC a cI cZ σ) s H locs) {v : Int32} (hv : c_wishes σ = v) (hd : decode cc pc = .ok (.getfield 18, 3)) (k : W p l e R s m args below meth c H locs cells slots Q (F0 m (pc + 3) ls (.int v :: rest))) : W p l e R s m args below meth c H locs cells slots Q (F0 m pc ls (.ref (a 3) :: rest)) := by
  subst hv
  exact va_get (D := D) (ci := 1) (v := .int (c_wishes σ)) (C := RX1) (T := TX1) (N := 3) C.1 C.2.1 C.2.2.2.2.1 wx_X1 C.2.2.2.1 C.2.2.2.2.2.1 X.1 3 rfl rfl 2 (by decide) (C.2.2.2.2.1 _ wf_X1_18) (fun _ h9 => h9) rfl hd k
theorem cp_X1_X1_wishes {σ : CSt} (C : Cx p s m args meth c cc nL RX1 D (tyIZ cI cZ)) (X : Sx A D (wC a cI cZ σ) s H locs) {v : Int32} (hd : decode cc pc = .ok (.putfield 18, 3)) (k : ∀ (H1 : Heap) (locs1 : List Loc), Sx A D (wC a cI cZ (c_wishes_s σ v)) s H1 locs1 → W p l e R s m args below meth c H1 locs1 cells slots Q (F0 m (pc + 3) ls rest)) : W p l e R s m args below meth c H locs cells slots Q (F0 m pc ls (.int v :: .ref (a 3) :: rest)) :=
  va_put (D := D) (ci := 1) (v := .int v) (ty := .int) (C := RX1) (T := TX1) (N := 3) C.1 C.2.1 C.2.2.2.2.1 wx_X1 tyX1 tyX1_ok nmX1 C.2.2.2.1 C.2.2.2.2.2.1 X.1 X.2.1 X.2.2 3 rfl rfl 2 (by decide) (C.2.2.2.2.1 _ wf_X1_18) (fun _ h9 => h9) rfl (by decide +kernel) rfl rfl (Nat.le_of_ble_eq_true rfl) hd (fun H1 locs1 hP hD hS => k H1 locs1 ⟨hP, hD, hS⟩)
theorem cg_X2_X2_keys {σ : CSt} (C : Cx p s m args meth c cc nL RX2 D (tyIZ cI cZ)) (X : Sx A D (wC a cI cZ σ) s H locs) (hd : decode cc pc = .ok (.getfield 9, 3)) (k : W p l e R s m args below meth c H locs cells slots Q (F0 m (pc + 3) ls (.ref (a 16) :: rest))) : W p l e R s m args below meth c H locs cells slots Q (F0 m pc ls (.ref (a 4) :: rest)) :=
  va_get (D := D) (ci := 2) (v := .ref (a 16)) (C := RX2) (T := TX2) (N := 3) C.1 C.2.1 C.2.2.2.2.1 wx_X2 C.2.2.2.1 C.2.2.2.2.2.1 X.1 4 rfl rfl 1 (by decide) (C.2.2.2.2.1 _ wf_X2_9) (fun _ h9 => h9) rfl hd k
theorem cg_X2_X2_values {σ : CSt} (C : Cx p s m args meth c cc nL RX2 D (tyIZ cI cZ)) (X : Sx A D (wC a cI cZ σ) s H locs) (hd : decode cc pc = .ok (.getfield 15, 3)) (k : W p l e R s m args below meth c H locs cells slots Q (F0 m (pc + 3) ls (.ref (a 17) :: rest))) : W p l e R s m args below meth c H locs cells slots Q (F0 m pc ls (.ref (a 4) :: rest)) :=
  va_get (D := D) (ci := 2) (v := .ref (a 17)) (C := RX2) (T := TX2) (N := 3) C.1 C.2.1 C.2.2.2.2.1 wx_X2 C.2.2.2.1 C.2.2.2.2.2.1 X.1 4 rfl rfl 2 (by decide) (C.2.2.2.2.1 _ wf_X2_15) (fun _ h9 => h9) rfl hd k
theorem cg_X2_X2_made {σ : CSt} (C : Cx p s m args meth c cc nL RX2 D (tyIZ cI cZ)) (X : Sx A D (wC a cI cZ σ) s H locs) {v : Int32} (hv : c_pmade σ = v) (hd : decode cc pc = .ok (.getfield 18, 3)) (k : W p l e R s m args below meth c H locs cells slots Q (F0 m (pc + 3) ls (.int v :: rest))) : W p l e R s m args below meth c H locs cells slots Q (F0 m pc ls (.ref (a 4) :: rest)) := by
  subst hv
  exact va_get (D := D) (ci := 2) (v := .int (c_pmade σ)) (C := RX2) (T := TX2) (N := 3) C.1 C.2.1 C.2.2.2.2.1 wx_X2 C.2.2.2.1 C.2.2.2.2.2.1 X.1 4 rfl rfl 0 (by decide) (C.2.2.2.2.1 _ wf_X2_18) (fun _ h9 => h9) rfl hd k
theorem cp_X2_X2_made {σ : CSt} (C : Cx p s m args meth c cc nL RX2 D (tyIZ cI cZ)) (X : Sx A D (wC a cI cZ σ) s H locs) {v : Int32} (hd : decode cc pc = .ok (.putfield 18, 3)) (k : ∀ (H1 : Heap) (locs1 : List Loc), Sx A D (wC a cI cZ (c_pmade_s σ v)) s H1 locs1 → W p l e R s m args below meth c H1 locs1 cells slots Q (F0 m (pc + 3) ls rest)) : W p l e R s m args below meth c H locs cells slots Q (F0 m pc ls (.int v :: .ref (a 4) :: rest)) :=
  va_put (D := D) (ci := 2) (v := .int v) (ty := .int) (C := RX2) (T := TX2) (N := 3) C.1 C.2.1 C.2.2.2.2.1 wx_X2 tyX2 tyX2_ok nmX2 C.2.2.2.1 C.2.2.2.2.2.1 X.1 X.2.1 X.2.2 4 rfl rfl 0 (by decide) (C.2.2.2.2.1 _ wf_X2_18) (fun _ h9 => h9) rfl (by decide +kernel) rfl rfl (Nat.le_of_ble_eq_true rfl) hd (fun H1 locs1 hP hD hS => k H1 locs1 ⟨hP, hD, hS⟩)
theorem cg_X3_X3_found {σ : CSt} (C : Cx p s m args meth c cc nL RX3 D (tyIZ cI cZ)) (X : Sx A D (wC a cI cZ σ) s H locs) (hd : decode cc pc = .ok (.getfield 9, 3)) (k : W p l e R s m args below meth c H locs cells slots Q (F0 m (pc + 3) ls (.ref (a 18) :: rest))) : W p l e R s m args below meth c H locs cells slots Q (F0 m pc ls (.ref (a 5) :: rest)) :=
  va_get (D := D) (ci := 3) (v := .ref (a 18)) (C := RX3) (T := TX3) (N := 3) C.1 C.2.1 C.2.2.2.2.1 wx_X3 C.2.2.2.1 C.2.2.2.2.2.1 X.1 5 rfl rfl 0 (by decide) (C.2.2.2.2.1 _ wf_X3_9) (fun _ h9 => h9) rfl hd k
theorem cg_X3_X3_order {σ : CSt} (C : Cx p s m args meth c cc nL RX3 D (tyIZ cI cZ)) (X : Sx A D (wC a cI cZ σ) s H locs) (hd : decode cc pc = .ok (.getfield 15, 3)) (k : W p l e R s m args below meth c H locs cells slots Q (F0 m (pc + 3) ls (.ref (a 19) :: rest))) : W p l e R s m args below meth c H locs cells slots Q (F0 m pc ls (.ref (a 5) :: rest)) :=
  va_get (D := D) (ci := 3) (v := .ref (a 19)) (C := RX3) (T := TX3) (N := 3) C.1 C.2.1 C.2.2.2.2.1 wx_X3 C.2.2.2.1 C.2.2.2.2.2.1 X.1 5 rfl rfl 1 (by decide) (C.2.2.2.2.1 _ wf_X3_15) (fun _ h9 => h9) rfl hd k
theorem cg_X3_X1_wishes {σ : CSt} (C : Cx p s m args meth c cc nL RX3 D (tyIZ cI cZ)) (X : Sx A D (wC a cI cZ σ) s H locs) {v : Int32} (hv : c_wishes σ = v) (hd : decode cc pc = .ok (.getfield 22, 3)) (k : W p l e R s m args below meth c H locs cells slots Q (F0 m (pc + 3) ls (.int v :: rest))) : W p l e R s m args below meth c H locs cells slots Q (F0 m pc ls (.ref (a 3) :: rest)) := by
  subst hv
  exact va_getN (D := D) (ci := 1) (v := .int (c_wishes σ)) (C := RX1) (T := TX1) (N := 3) C.1 C.2.1 C.2.2.2.2.1 wx_X1 C.2.2.2.1 C.2.2.2.2.2.1 X.1 3 rfl rfl 2 (by decide) (va_Nw.use rfl (C.2.2.2.2.2.2 _ (List.mem_of_getElem? (i := 5) rfl))) (fun _ h9 => h9) rfl hd k
theorem cg_X3_X3_count {σ : CSt} (C : Cx p s m args meth c cc nL RX3 D (tyIZ cI cZ)) (X : Sx A D (wC a cI cZ σ) s H locs) {v : Int32} (hv : c_rcount σ = v) (hd : decode cc pc = .ok (.getfield 36, 3)) (k : W p l e R s m args below meth c H locs cells slots Q (F0 m (pc + 3) ls (.int v :: rest))) : W p l e R s m args below meth c H locs cells slots Q (F0 m pc ls (.ref (a 5) :: rest)) := by
  subst hv
  exact va_get (D := D) (ci := 3) (v := .int (c_rcount σ)) (C := RX3) (T := TX3) (N := 3) C.1 C.2.1 C.2.2.2.2.1 wx_X3 C.2.2.2.1 C.2.2.2.2.2.1 X.1 5 rfl rfl 2 (by decide) (C.2.2.2.2.1 _ wf_X3_36) (fun _ h9 => h9) rfl hd k
theorem cp_X3_X3_count {σ : CSt} (C : Cx p s m args meth c cc nL RX3 D (tyIZ cI cZ)) (X : Sx A D (wC a cI cZ σ) s H locs) {v : Int32} (hd : decode cc pc = .ok (.putfield 36, 3)) (k : ∀ (H1 : Heap) (locs1 : List Loc), Sx A D (wC a cI cZ (c_rcount_s σ v)) s H1 locs1 → W p l e R s m args below meth c H1 locs1 cells slots Q (F0 m (pc + 3) ls rest)) : W p l e R s m args below meth c H locs cells slots Q (F0 m pc ls (.int v :: .ref (a 5) :: rest)) :=
  va_put (D := D) (ci := 3) (v := .int v) (ty := .int) (C := RX3) (T := TX3) (N := 3) C.1 C.2.1 C.2.2.2.2.1 wx_X3 tyX3 tyX3_ok nmX3 C.2.2.2.1 C.2.2.2.2.2.1 X.1 X.2.1 X.2.2 5 rfl rfl 2 (by decide) (C.2.2.2.2.1 _ wf_X3_36) (fun _ h9 => h9) rfl (by decide +kernel) rfl rfl (Nat.le_of_ble_eq_true rfl) hd (fun H1 locs1 hP hD hS => k H1 locs1 ⟨hP, hD, hS⟩)
theorem cg_X3_X2_made {σ : CSt} (C : Cx p s m args meth c cc nL RX3 D (tyIZ cI cZ)) (X : Sx A D (wC a cI cZ σ) s H locs) {v : Int32} (hv : c_pmade σ = v) (hd : decode cc pc = .ok (.getfield 57, 3)) (k : W p l e R s m args below meth c H locs cells slots Q (F0 m (pc + 3) ls (.int v :: rest))) : W p l e R s m args below meth c H locs cells slots Q (F0 m pc ls (.ref (a 4) :: rest)) := by
  subst hv
  exact va_getN (D := D) (ci := 2) (v := .int (c_pmade σ)) (C := RX2) (T := TX2) (N := 3) C.1 C.2.1 C.2.2.2.2.1 wx_X2 C.2.2.2.1 C.2.2.2.2.2.1 X.1 4 rfl rfl 0 (by decide) (va_Nw.use rfl (C.2.2.2.2.2.2 _ (List.mem_of_getElem? (i := 9) rfl))) (fun _ h9 => h9) rfl hd k
theorem cg_X4_X4_sizes {σ : CSt} (C : Cx p s m args meth c cc nL RX4 D (tyIZ cI cZ)) (X : Sx A D (wC a cI cZ σ) s H locs) (hd : decode cc pc = .ok (.getfield 9, 3)) (k : W p l e R s m args below meth c H locs cells slots Q (F0 m (pc + 3) ls (.ref (a 6) :: rest))) : W p l e R s m args below meth c H locs cells slots Q (F0 m pc ls (.ref (a 1) :: rest)) :=
  va_get (D := D) (ci := 4) (v := .ref (a 6)) (C := RX4) (T := TX4) (N := 8) C.1 C.2.1 C.2.2.2.2.1 wx_X4 C.2.2.2.1 C.2.2.2.2.2.1 X.1 1 rfl rfl 1 (by decide) (C.2.2.2.2.1 _ wf_X4_9) (fun _ h9 => h9) rfl hd k
theorem cg_X4_X4_places {σ : CSt} (C : Cx p s m args meth c cc nL RX4 D (tyIZ cI cZ)) (X : Sx A D (wC a cI cZ σ) s H locs) (hd : decode cc pc = .ok (.getfield 15, 3)) (k : W p l e R s m args below meth c H locs cells slots Q (F0 m (pc + 3) ls (.ref (a 7) :: rest))) : W p l e R s m args below meth c H locs cells slots Q (F0 m pc ls (.ref (a 1) :: rest)) :=
  va_get (D := D) (ci := 4) (v := .ref (a 7)) (C := RX4) (T := TX4) (N := 8) C.1 C.2.1 C.2.2.2.2.1 wx_X4 C.2.2.2.1 C.2.2.2.2.2.1 X.1 1 rfl rfl 2 (by decide) (C.2.2.2.2.1 _ wf_X4_15) (fun _ h9 => h9) rfl hd k
theorem cg_X4_X4_colours {σ : CSt} (C : Cx p s m args meth c cc nL RX4 D (tyIZ cI cZ)) (X : Sx A D (wC a cI cZ σ) s H locs) (hd : decode cc pc = .ok (.getfield 18, 3)) (k : W p l e R s m args below meth c H locs cells slots Q (F0 m (pc + 3) ls (.ref (a 8) :: rest))) : W p l e R s m args below meth c H locs cells slots Q (F0 m pc ls (.ref (a 1) :: rest)) :=
  va_get (D := D) (ci := 4) (v := .ref (a 8)) (C := RX4) (T := TX4) (N := 8) C.1 C.2.1 C.2.2.2.2.1 wx_X4 C.2.2.2.1 C.2.2.2.2.2.1 X.1 1 rfl rfl 3 (by decide) (C.2.2.2.2.1 _ wf_X4_18) (fun _ h9 => h9) rfl hd k
theorem cg_X4_X4_moves {σ : CSt} (C : Cx p s m args meth c cc nL RX4 D (tyIZ cI cZ)) (X : Sx A D (wC a cI cZ σ) s H locs) (hd : decode cc pc = .ok (.getfield 21, 3)) (k : W p l e R s m args below meth c H locs cells slots Q (F0 m (pc + 3) ls (.ref (a 9) :: rest))) : W p l e R s m args below meth c H locs cells slots Q (F0 m pc ls (.ref (a 1) :: rest)) :=
  va_get (D := D) (ci := 4) (v := .ref (a 9)) (C := RX4) (T := TX4) (N := 8) C.1 C.2.1 C.2.2.2.2.1 wx_X4 C.2.2.2.1 C.2.2.2.2.2.1 X.1 1 rfl rfl 4 (by decide) (C.2.2.2.2.1 _ wf_X4_21) (fun _ h9 => h9) rfl hd k
theorem cg_X4_X4_freed {σ : CSt} (C : Cx p s m args meth c cc nL RX4 D (tyIZ cI cZ)) (X : Sx A D (wC a cI cZ σ) s H locs) (hd : decode cc pc = .ok (.getfield 24, 3)) (k : W p l e R s m args below meth c H locs cells slots Q (F0 m (pc + 3) ls (.ref (a 10) :: rest))) : W p l e R s m args below meth c H locs cells slots Q (F0 m pc ls (.ref (a 1) :: rest)) :=
  va_get (D := D) (ci := 4) (v := .ref (a 10)) (C := RX4) (T := TX4) (N := 8) C.1 C.2.1 C.2.2.2.2.1 wx_X4 C.2.2.2.1 C.2.2.2.2.2.1 X.1 1 rfl rfl 5 (by decide) (C.2.2.2.2.1 _ wf_X4_24) (fun _ h9 => h9) rfl hd k
theorem cg_X4_X4_wishing {σ : CSt} (C : Cx p s m args meth c cc nL RX4 D (tyIZ cI cZ)) (X : Sx A D (wC a cI cZ σ) s H locs) (hd : decode cc pc = .ok (.getfield 28, 3)) (k : W p l e R s m args below meth c H locs cells slots Q (F0 m (pc + 3) ls (.ref (a 11) :: rest))) : W p l e R s m args below meth c H locs cells slots Q (F0 m pc ls (.ref (a 1) :: rest)) :=
  va_get (D := D) (ci := 4) (v := .ref (a 11)) (C := RX4) (T := TX4) (N := 8) C.1 C.2.1 C.2.2.2.2.1 wx_X4 C.2.2.2.1 C.2.2.2.2.2.1 X.1 1 rfl rfl 6 (by decide) (C.2.2.2.2.1 _ wf_X4_28) (fun _ h9 => h9) rfl hd k
theorem cg_X4_X4_held {σ : CSt} (C : Cx p s m args meth c cc nL RX4 D (tyIZ cI cZ)) (X : Sx A D (wC a cI cZ σ) s H locs) (hd : decode cc pc = .ok (.getfield 31, 3)) (k : W p l e R s m args below meth c H locs cells slots Q (F0 m (pc + 3) ls (.ref (a 12) :: rest))) : W p l e R s m args below meth c H locs cells slots Q (F0 m pc ls (.ref (a 1) :: rest)) :=
  va_get (D := D) (ci := 4) (v := .ref (a 12)) (C := RX4) (T := TX4) (N := 8) C.1 C.2.1 C.2.2.2.2.1 wx_X4 C.2.2.2.1 C.2.2.2.2.2.1 X.1 1 rfl rfl 7 (by decide) (C.2.2.2.2.1 _ wf_X4_31) (fun _ h9 => h9) rfl hd k
theorem cg_X4_X4_made {σ : CSt} (C : Cx p s m args meth c cc nL RX4 D (tyIZ cI cZ)) (X : Sx A D (wC a cI cZ σ) s H locs) {v : Int32} (hv : c_tmade σ = v) (hd : decode cc pc = .ok (.getfield 34, 3)) (k : W p l e R s m args below meth c H locs cells slots Q (F0 m (pc + 3) ls (.int v :: rest))) : W p l e R s m args below meth c H locs cells slots Q (F0 m pc ls (.ref (a 1) :: rest)) := by
  subst hv
  exact va_get (D := D) (ci := 4) (v := .int (c_tmade σ)) (C := RX4) (T := TX4) (N := 8) C.1 C.2.1 C.2.2.2.2.1 wx_X4 C.2.2.2.1 C.2.2.2.2.2.1 X.1 1 rfl rfl 0 (by decide) (C.2.2.2.2.1 _ wf_X4_34) (fun _ h9 => h9) rfl hd k
theorem cp_X4_X4_made {σ : CSt} (C : Cx p s m args meth c cc nL RX4 D (tyIZ cI cZ)) (X : Sx A D (wC a cI cZ σ) s H locs) {v : Int32} (hd : decode cc pc = .ok (.putfield 34, 3)) (k : ∀ (H1 : Heap) (locs1 : List Loc), Sx A D (wC a cI cZ (c_tmade_s σ v)) s H1 locs1 → W p l e R s m args below meth c H1 locs1 cells slots Q (F0 m (pc + 3) ls rest)) : W p l e R s m args below meth c H locs cells slots Q (F0 m pc ls (.int v :: .ref (a 1) :: rest)) :=
  va_put (D := D) (ci := 4) (v := .int v) (ty := .int) (C := RX4) (T := TX4) (N := 8) C.1 C.2.1 C.2.2.2.2.1 wx_X4 tyX4 tyX4_ok nmX4 C.2.2.2.1 C.2.2.2.2.2.1 X.1 X.2.1 X.2.2 1 rfl rfl 0 (by decide) (C.2.2.2.2.1 _ wf_X4_34) (fun _ h9 => h9) rfl (by decide +kernel) rfl rfl (Nat.le_of_ble_eq_true rfl) hd (fun H1 locs1 hP hD hS => k H1 locs1 ⟨hP, hD, hS⟩)
theorem cg_X5_X5_things {σ : CSt} (C : Cx p s m args meth c cc nL RX5 D (tyIZ cI cZ)) (X : Sx A D (wC a cI cZ σ) s H locs) (hd : decode cc pc = .ok (.getfield 12, 3)) (k : W p l e R s m args below meth c H locs cells slots Q (F0 m (pc + 3) ls (.ref (a 1) :: rest))) : W p l e R s m args below meth c H locs cells slots Q (F0 m pc ls (.ref (a 0) :: rest)) :=
  va_get (D := D) (ci := 5) (v := .ref (a 1)) (C := RX5) (T := TX5) (N := 13) C.1 C.2.1 C.2.2.2.2.1 wx_X5 C.2.2.2.1 C.2.2.2.2.2.1 X.1 0 rfl rfl 0 (by decide) (C.2.2.2.2.1 _ wf_X5_12) (fun _ h9 => h9) rfl hd k
theorem cg_X5_X5_cells {σ : CSt} (C : Cx p s m args meth c cc nL RX5 D (tyIZ cI cZ)) (X : Sx A D (wC a cI cZ σ) s H locs) (hd : decode cc pc = .ok (.getfield 19, 3)) (k : W p l e R s m args below meth c H locs cells slots Q (F0 m (pc + 3) ls (.ref (a 2) :: rest))) : W p l e R s m args below meth c H locs cells slots Q (F0 m pc ls (.ref (a 0) :: rest)) :=
  va_get (D := D) (ci := 5) (v := .ref (a 2)) (C := RX5) (T := TX5) (N := 13) C.1 C.2.1 C.2.2.2.2.1 wx_X5 C.2.2.2.1 C.2.2.2.2.2.1 X.1 0 rfl rfl 1 (by decide) (C.2.2.2.2.1 _ wf_X5_19) (fun _ h9 => h9) rfl hd k
theorem cg_X5_X5_holders {σ : CSt} (C : Cx p s m args meth c cc nL RX5 D (tyIZ cI cZ)) (X : Sx A D (wC a cI cZ σ) s H locs) (hd : decode cc pc = .ok (.getfield 26, 3)) (k : W p l e R s m args below meth c H locs cells slots Q (F0 m (pc + 3) ls (.ref (a 3) :: rest))) : W p l e R s m args below meth c H locs cells slots Q (F0 m pc ls (.ref (a 0) :: rest)) :=
  va_get (D := D) (ci := 5) (v := .ref (a 3)) (C := RX5) (T := TX5) (N := 13) C.1 C.2.1 C.2.2.2.2.1 wx_X5 C.2.2.2.1 C.2.2.2.2.2.1 X.1 0 rfl rfl 2 (by decide) (C.2.2.2.2.1 _ wf_X5_26) (fun _ h9 => h9) rfl hd k
theorem cg_X5_X5_pairs {σ : CSt} (C : Cx p s m args meth c cc nL RX5 D (tyIZ cI cZ)) (X : Sx A D (wC a cI cZ σ) s H locs) (hd : decode cc pc = .ok (.getfield 33, 3)) (k : W p l e R s m args below meth c H locs cells slots Q (F0 m (pc + 3) ls (.ref (a 4) :: rest))) : W p l e R s m args below meth c H locs cells slots Q (F0 m pc ls (.ref (a 0) :: rest)) :=
  va_get (D := D) (ci := 5) (v := .ref (a 4)) (C := RX5) (T := TX5) (N := 13) C.1 C.2.1 C.2.2.2.2.1 wx_X5 C.2.2.2.1 C.2.2.2.2.2.1 X.1 0 rfl rfl 3 (by decide) (C.2.2.2.2.1 _ wf_X5_33) (fun _ h9 => h9) rfl hd k
theorem cg_X5_X5_reach {σ : CSt} (C : Cx p s m args meth c cc nL RX5 D (tyIZ cI cZ)) (X : Sx A D (wC a cI cZ σ) s H locs) (hd : decode cc pc = .ok (.getfield 40, 3)) (k : W p l e R s m args below meth c H locs cells slots Q (F0 m (pc + 3) ls (.ref (a 5) :: rest))) : W p l e R s m args below meth c H locs cells slots Q (F0 m pc ls (.ref (a 0) :: rest)) :=
  va_get (D := D) (ci := 5) (v := .ref (a 5)) (C := RX5) (T := TX5) (N := 13) C.1 C.2.1 C.2.2.2.2.1 wx_X5 C.2.2.2.1 C.2.2.2.2.2.1 X.1 0 rfl rfl 4 (by decide) (C.2.2.2.2.1 _ wf_X5_40) (fun _ h9 => h9) rfl hd k
theorem cg_X5_X4_made {σ : CSt} (C : Cx p s m args meth c cc nL RX5 D (tyIZ cI cZ)) (X : Sx A D (wC a cI cZ σ) s H locs) {v : Int32} (hv : c_tmade σ = v) (hd : decode cc pc = .ok (.getfield 48, 3)) (k : W p l e R s m args below meth c H locs cells slots Q (F0 m (pc + 3) ls (.int v :: rest))) : W p l e R s m args below meth c H locs cells slots Q (F0 m pc ls (.ref (a 1) :: rest)) := by
  subst hv
  exact va_getN (D := D) (ci := 4) (v := .int (c_tmade σ)) (C := RX4) (T := TX4) (N := 8) C.1 C.2.1 C.2.2.2.2.1 wx_X4 C.2.2.2.1 C.2.2.2.2.2.1 X.1 1 rfl rfl 0 (by decide) (va_Nw.use rfl (C.2.2.2.2.2.2 _ (List.mem_of_getElem? (i := 1) rfl))) (fun _ h9 => h9) rfl hd k
theorem cp_X5_X4_made {σ : CSt} (C : Cx p s m args meth c cc nL RX5 D (tyIZ cI cZ)) (X : Sx A D (wC a cI cZ σ) s H locs) {v : Int32} (hd : decode cc pc = .ok (.putfield 48, 3)) (k : ∀ (H1 : Heap) (locs1 : List Loc), Sx A D (wC a cI cZ (c_tmade_s σ v)) s H1 locs1 → W p l e R s m args below meth c H1 locs1 cells slots Q (F0 m (pc + 3) ls rest)) : W p l e R s m args below meth c H locs cells slots Q (F0 m pc ls (.int v :: .ref (a 1) :: rest)) :=
  va_putN (D := D) (ci := 4) (v := .int v) (ty := .int) (C := RX4) (T := TX4) (N := 8) C.1 C.2.1 C.2.2.2.2.1 wx_X4 tyX4 tyX4_ok nmX4 C.2.2.2.1 C.2.2.2.2.2.1 X.1 X.2.1 X.2.2 1 rfl rfl 0 (by decide) (va_Nw.use rfl (C.2.2.2.2.2.2 _ (List.mem_of_getElem? (i := 1) rfl))) (fun _ h9 => h9) rfl (by decide +kernel) rfl rfl (Nat.le_of_ble_eq_true rfl) hd (fun H1 locs1 hP hD hS => k H1 locs1 ⟨hP, hD, hS⟩)
theorem cg_X5_X5_manner {σ : CSt} (C : Cx p s m args meth c cc nL RX5 D (tyIZ cI cZ)) (X : Sx A D (wC a cI cZ σ) s H locs) {v : Int32} (hv : c_manner σ = v) (hd : decode cc pc = .ok (.getfield 52, 3)) (k : W p l e R s m args below meth c H locs cells slots Q (F0 m (pc + 3) ls (.int v :: rest))) : W p l e R s m args below meth c H locs cells slots Q (F0 m pc ls (.ref (a 0) :: rest)) := by
  subst hv
  exact va_get (D := D) (ci := 5) (v := .int (c_manner σ)) (C := RX5) (T := TX5) (N := 13) C.1 C.2.1 C.2.2.2.2.1 wx_X5 C.2.2.2.1 C.2.2.2.2.2.1 X.1 0 rfl rfl 5 (by decide) (C.2.2.2.2.1 _ wf_X5_52) (fun _ h9 => h9) rfl hd k
theorem cp_X5_X5_manner {σ : CSt} (C : Cx p s m args meth c cc nL RX5 D (tyIZ cI cZ)) (X : Sx A D (wC a cI cZ σ) s H locs) {v : Int32} (hd : decode cc pc = .ok (.putfield 52, 3)) (k : ∀ (H1 : Heap) (locs1 : List Loc), Sx A D (wC a cI cZ (c_manner_s σ v)) s H1 locs1 → W p l e R s m args below meth c H1 locs1 cells slots Q (F0 m (pc + 3) ls rest)) : W p l e R s m args below meth c H locs cells slots Q (F0 m pc ls (.int v :: .ref (a 0) :: rest)) :=
  va_put (D := D) (ci := 5) (v := .int v) (ty := .int) (C := RX5) (T := TX5) (N := 13) C.1 C.2.1 C.2.2.2.2.1 wx_X5 tyX5 tyX5_ok nmX5 C.2.2.2.1 C.2.2.2.2.2.1 X.1 X.2.1 X.2.2 0 rfl rfl 5 (by decide) (C.2.2.2.2.1 _ wf_X5_52) (fun _ h9 => h9) rfl (by decide +kernel) rfl rfl (Nat.le_of_ble_eq_true rfl) hd (fun H1 locs1 hP hD hS => k H1 locs1 ⟨hP, hD, hS⟩)
theorem cg_X5_X5_fault {σ : CSt} (C : Cx p s m args meth c cc nL RX5 D (tyIZ cI cZ)) (X : Sx A D (wC a cI cZ σ) s H locs) {v : Int32} (hv : c_fault σ = v) (hd : decode cc pc = .ok (.getfield 55, 3)) (k : W p l e R s m args below meth c H locs cells slots Q (F0 m (pc + 3) ls (.int v :: rest))) : W p l e R s m args below meth c H locs cells slots Q (F0 m pc ls (.ref (a 0) :: rest)) := by
  subst hv
  exact va_get (D := D) (ci := 5) (v := .int (c_fault σ)) (C := RX5) (T := TX5) (N := 13) C.1 C.2.1 C.2.2.2.2.1 wx_X5 C.2.2.2.1 C.2.2.2.2.2.1 X.1 0 rfl rfl 6 (by decide) (C.2.2.2.2.1 _ wf_X5_55) (fun _ h9 => h9) rfl hd k
theorem cp_X5_X5_fault {σ : CSt} (C : Cx p s m args meth c cc nL RX5 D (tyIZ cI cZ)) (X : Sx A D (wC a cI cZ σ) s H locs) {v : Int32} (hd : decode cc pc = .ok (.putfield 55, 3)) (k : ∀ (H1 : Heap) (locs1 : List Loc), Sx A D (wC a cI cZ (c_fault_s σ v)) s H1 locs1 → W p l e R s m args below meth c H1 locs1 cells slots Q (F0 m (pc + 3) ls rest)) : W p l e R s m args below meth c H locs cells slots Q (F0 m pc ls (.int v :: .ref (a 0) :: rest)) :=
  va_put (D := D) (ci := 5) (v := .int v) (ty := .int) (C := RX5) (T := TX5) (N := 13) C.1 C.2.1 C.2.2.2.2.1 wx_X5 tyX5 tyX5_ok nmX5 C.2.2.2.1 C.2.2.2.2.2.1 X.1 X.2.1 X.2.2 0 rfl rfl 6 (by decide) (C.2.2.2.2.1 _ wf_X5_55) (fun _ h9 => h9) rfl (by decide +kernel) rfl rfl (Nat.le_of_ble_eq_true rfl) hd (fun H1 locs1 hP hD hS => k H1 locs1 ⟨hP, hD, hS⟩)
theorem cg_X5_X5_underWay {σ : CSt} (C : Cx p s m args meth c cc nL RX5 D (tyIZ cI cZ)) (X : Sx A D (wC a cI cZ σ) s H locs) {v : Int32} (hv : c_under σ = v) (hd : decode cc pc = .ok (.getfield 58, 3)) (k : W p l e R s m args below meth c H locs cells slots Q (F0 m (pc + 3) ls (.int v :: rest))) : W p l e R s m args below meth c H locs cells slots Q (F0 m pc ls (.ref (a 0) :: rest)) := by
  subst hv
  exact va_get (D := D) (ci := 5) (v := .int (c_under σ)) (C := RX5) (T := TX5) (N := 13) C.1 C.2.1 C.2.2.2.2.1 wx_X5 C.2.2.2.1 C.2.2.2.2.2.1 X.1 0 rfl rfl 7 (by decide) (C.2.2.2.2.1 _ wf_X5_58) (fun _ h9 => h9) rfl hd k
theorem cp_X5_X5_underWay {σ : CSt} (C : Cx p s m args meth c cc nL RX5 D (tyIZ cI cZ)) (X : Sx A D (wC a cI cZ σ) s H locs) {v : Int32} (hd : decode cc pc = .ok (.putfield 58, 3)) (k : ∀ (H1 : Heap) (locs1 : List Loc), Sx A D (wC a cI cZ (c_under_s σ v)) s H1 locs1 → W p l e R s m args below meth c H1 locs1 cells slots Q (F0 m (pc + 3) ls rest)) : W p l e R s m args below meth c H locs cells slots Q (F0 m pc ls (.int v :: .ref (a 0) :: rest)) :=
  va_put (D := D) (ci := 5) (v := .int v) (ty := .int) (C := RX5) (T := TX5) (N := 13) C.1 C.2.1 C.2.2.2.2.1 wx_X5 tyX5 tyX5_ok nmX5 C.2.2.2.1 C.2.2.2.2.2.1 X.1 X.2.1 X.2.2 0 rfl rfl 7 (by decide) (C.2.2.2.2.1 _ wf_X5_58) (fun _ h9 => h9) rfl (by decide +kernel) rfl rfl (Nat.le_of_ble_eq_true rfl) hd (fun H1 locs1 hP hD hS => k H1 locs1 ⟨hP, hD, hS⟩)
theorem cg_X5_X5_nextToSweep {σ : CSt} (C : Cx p s m args meth c cc nL RX5 D (tyIZ cI cZ)) (X : Sx A D (wC a cI cZ σ) s H locs) {v : Int32} (hv : c_nextS σ = v) (hd : decode cc pc = .ok (.getfield 61, 3)) (k : W p l e R s m args below meth c H locs cells slots Q (F0 m (pc + 3) ls (.int v :: rest))) : W p l e R s m args below meth c H locs cells slots Q (F0 m pc ls (.ref (a 0) :: rest)) := by
  subst hv
  exact va_get (D := D) (ci := 5) (v := .int (c_nextS σ)) (C := RX5) (T := TX5) (N := 13) C.1 C.2.1 C.2.2.2.2.1 wx_X5 C.2.2.2.1 C.2.2.2.2.2.1 X.1 0 rfl rfl 8 (by decide) (C.2.2.2.2.1 _ wf_X5_61) (fun _ h9 => h9) rfl hd k
theorem cp_X5_X5_nextToSweep {σ : CSt} (C : Cx p s m args meth c cc nL RX5 D (tyIZ cI cZ)) (X : Sx A D (wC a cI cZ σ) s H locs) {v : Int32} (hd : decode cc pc = .ok (.putfield 61, 3)) (k : ∀ (H1 : Heap) (locs1 : List Loc), Sx A D (wC a cI cZ (c_nextS_s σ v)) s H1 locs1 → W p l e R s m args below meth c H1 locs1 cells slots Q (F0 m (pc + 3) ls rest)) : W p l e R s m args below meth c H locs cells slots Q (F0 m pc ls (.int v :: .ref (a 0) :: rest)) :=
  va_put (D := D) (ci := 5) (v := .int v) (ty := .int) (C := RX5) (T := TX5) (N := 13) C.1 C.2.1 C.2.2.2.2.1 wx_X5 tyX5 tyX5_ok nmX5 C.2.2.2.1 C.2.2.2.2.2.1 X.1 X.2.1 X.2.2 0 rfl rfl 8 (by decide) (C.2.2.2.2.1 _ wf_X5_61) (fun _ h9 => h9) rfl (by decide +kernel) rfl rfl (Nat.le_of_ble_eq_true rfl) hd (fun H1 locs1 hP hD hS => k H1 locs1 ⟨hP, hD, hS⟩)
theorem cg_X5_X5_rounds {σ : CSt} (C : Cx p s m args meth c cc nL RX5 D (tyIZ cI cZ)) (X : Sx A D (wC a cI cZ σ) s H locs) {v : Int32} (hv : c_rounds σ = v) (hd : decode cc pc = .ok (.getfield 64, 3)) (k : W p l e R s m args below meth c H locs cells slots Q (F0 m (pc + 3) ls (.int v :: rest))) : W p l e R s m args below meth c H locs cells slots Q (F0 m pc ls (.ref (a 0) :: rest)) := by
  subst hv
  exact va_get (D := D) (ci := 5) (v := .int (c_rounds σ)) (C := RX5) (T := TX5) (N := 13) C.1 C.2.1 C.2.2.2.2.1 wx_X5 C.2.2.2.1 C.2.2.2.2.2.1 X.1 0 rfl rfl 9 (by decide) (C.2.2.2.2.1 _ wf_X5_64) (fun _ h9 => h9) rfl hd k
theorem cp_X5_X5_rounds {σ : CSt} (C : Cx p s m args meth c cc nL RX5 D (tyIZ cI cZ)) (X : Sx A D (wC a cI cZ σ) s H locs) {v : Int32} (hd : decode cc pc = .ok (.putfield 64, 3)) (k : ∀ (H1 : Heap) (locs1 : List Loc), Sx A D (wC a cI cZ (c_rounds_s σ v)) s H1 locs1 → W p l e R s m args below meth c H1 locs1 cells slots Q (F0 m (pc + 3) ls rest)) : W p l e R s m args below meth c H locs cells slots Q (F0 m pc ls (.int v :: .ref (a 0) :: rest)) :=
  va_put (D := D) (ci := 5) (v := .int v) (ty := .int) (C := RX5) (T := TX5) (N := 13) C.1 C.2.1 C.2.2.2.2.1 wx_X5 tyX5 tyX5_ok nmX5 C.2.2.2.1 C.2.2.2.2.2.1 X.1 X.2.1 X.2.2 0 rfl rfl 9 (by decide) (C.2.2.2.2.1 _ wf_X5_64) (fun _ h9 => h9) rfl (by decide +kernel) rfl rfl (Nat.le_of_ble_eq_true rfl) hd (fun H1 locs1 hP hD hS => k H1 locs1 ⟨hP, hD, hS⟩)
theorem cg_X5_X5_steps {σ : CSt} (C : Cx p s m args meth c cc nL RX5 D (tyIZ cI cZ)) (X : Sx A D (wC a cI cZ σ) s H locs) {v : Int32} (hv : c_steps σ = v) (hd : decode cc pc = .ok (.getfield 67, 3)) (k : W p l e R s m args below meth c H locs cells slots Q (F0 m (pc + 3) ls (.int v :: rest))) : W p l e R s m args below meth c H locs cells slots Q (F0 m pc ls (.ref (a 0) :: rest)) := by
  subst hv
  exact va_get (D := D) (ci := 5) (v := .int (c_steps σ)) (C := RX5) (T := TX5) (N := 13) C.1 C.2.1 C.2.2.2.2.1 wx_X5 C.2.2.2.1 C.2.2.2.2.2.1 X.1 0 rfl rfl 10 (by decide) (C.2.2.2.2.1 _ wf_X5_67) (fun _ h9 => h9) rfl hd k
theorem cp_X5_X5_steps {σ : CSt} (C : Cx p s m args meth c cc nL RX5 D (tyIZ cI cZ)) (X : Sx A D (wC a cI cZ σ) s H locs) {v : Int32} (hd : decode cc pc = .ok (.putfield 67, 3)) (k : ∀ (H1 : Heap) (locs1 : List Loc), Sx A D (wC a cI cZ (c_steps_s σ v)) s H1 locs1 → W p l e R s m args below meth c H1 locs1 cells slots Q (F0 m (pc + 3) ls rest)) : W p l e R s m args below meth c H locs cells slots Q (F0 m pc ls (.int v :: .ref (a 0) :: rest)) :=
  va_put (D := D) (ci := 5) (v := .int v) (ty := .int) (C := RX5) (T := TX5) (N := 13) C.1 C.2.1 C.2.2.2.2.1 wx_X5 tyX5 tyX5_ok nmX5 C.2.2.2.1 C.2.2.2.2.2.1 X.1 X.2.1 X.2.2 0 rfl rfl 10 (by decide) (C.2.2.2.2.1 _ wf_X5_67) (fun _ h9 => h9) rfl (by decide +kernel) rfl rfl (Nat.le_of_ble_eq_true rfl) hd (fun H1 locs1 hP hD hS => k H1 locs1 ⟨hP, hD, hS⟩)
theorem cg_X5_X5_shaded {σ : CSt} (C : Cx p s m args meth c cc nL RX5 D (tyIZ cI cZ)) (X : Sx A D (wC a cI cZ σ) s H locs) {v : Int32} (hv : c_shaded σ = v) (hd : decode cc pc = .ok (.getfield 70, 3)) (k : W p l e R s m args below meth c H locs cells slots Q (F0 m (pc + 3) ls (.int v :: rest))) : W p l e R s m args below meth c H locs cells slots Q (F0 m pc ls (.ref (a 0) :: rest)) := by
  subst hv
  exact va_get (D := D) (ci := 5) (v := .int (c_shaded σ)) (C := RX5) (T := TX5) (N := 13) C.1 C.2.1 C.2.2.2.2.1 wx_X5 C.2.2.2.1 C.2.2.2.2.2.1 X.1 0 rfl rfl 11 (by decide) (C.2.2.2.2.1 _ wf_X5_70) (fun _ h9 => h9) rfl hd k
theorem cp_X5_X5_shaded {σ : CSt} (C : Cx p s m args meth c cc nL RX5 D (tyIZ cI cZ)) (X : Sx A D (wC a cI cZ σ) s H locs) {v : Int32} (hd : decode cc pc = .ok (.putfield 70, 3)) (k : ∀ (H1 : Heap) (locs1 : List Loc), Sx A D (wC a cI cZ (c_shaded_s σ v)) s H1 locs1 → W p l e R s m args below meth c H1 locs1 cells slots Q (F0 m (pc + 3) ls rest)) : W p l e R s m args below meth c H locs cells slots Q (F0 m pc ls (.int v :: .ref (a 0) :: rest)) :=
  va_put (D := D) (ci := 5) (v := .int v) (ty := .int) (C := RX5) (T := TX5) (N := 13) C.1 C.2.1 C.2.2.2.2.1 wx_X5 tyX5 tyX5_ok nmX5 C.2.2.2.1 C.2.2.2.2.2.1 X.1 X.2.1 X.2.2 0 rfl rfl 11 (by decide) (C.2.2.2.2.1 _ wf_X5_70) (fun _ h9 => h9) rfl (by decide +kernel) rfl rfl (Nat.le_of_ble_eq_true rfl) hd (fun H1 locs1 hP hD hS => k H1 locs1 ⟨hP, hD, hS⟩)
theorem cg_X5_X5_moved {σ : CSt} (C : Cx p s m args meth c cc nL RX5 D (tyIZ cI cZ)) (X : Sx A D (wC a cI cZ σ) s H locs) {v : Int32} (hv : c_moved σ = v) (hd : decode cc pc = .ok (.getfield 73, 3)) (k : W p l e R s m args below meth c H locs cells slots Q (F0 m (pc + 3) ls (.int v :: rest))) : W p l e R s m args below meth c H locs cells slots Q (F0 m pc ls (.ref (a 0) :: rest)) := by
  subst hv
  exact va_get (D := D) (ci := 5) (v := .int (c_moved σ)) (C := RX5) (T := TX5) (N := 13) C.1 C.2.1 C.2.2.2.2.1 wx_X5 C.2.2.2.1 C.2.2.2.2.2.1 X.1 0 rfl rfl 12 (by decide) (C.2.2.2.2.1 _ wf_X5_73) (fun _ h9 => h9) rfl hd k
theorem cp_X5_X5_moved {σ : CSt} (C : Cx p s m args meth c cc nL RX5 D (tyIZ cI cZ)) (X : Sx A D (wC a cI cZ σ) s H locs) {v : Int32} (hd : decode cc pc = .ok (.putfield 73, 3)) (k : ∀ (H1 : Heap) (locs1 : List Loc), Sx A D (wC a cI cZ (c_moved_s σ v)) s H1 locs1 → W p l e R s m args below meth c H1 locs1 cells slots Q (F0 m (pc + 3) ls rest)) : W p l e R s m args below meth c H locs cells slots Q (F0 m pc ls (.int v :: .ref (a 0) :: rest)) :=
  va_put (D := D) (ci := 5) (v := .int v) (ty := .int) (C := RX5) (T := TX5) (N := 13) C.1 C.2.1 C.2.2.2.2.1 wx_X5 tyX5 tyX5_ok nmX5 C.2.2.2.1 C.2.2.2.2.2.1 X.1 X.2.1 X.2.2 0 rfl rfl 12 (by decide) (C.2.2.2.2.1 _ wf_X5_73) (fun _ h9 => h9) rfl (by decide +kernel) rfl rfl (Nat.le_of_ble_eq_true rfl) hd (fun H1 locs1 hP hD hS => k H1 locs1 ⟨hP, hD, hS⟩)
theorem cg_X5_X2_made {σ : CSt} (C : Cx p s m args meth c cc nL RX5 D (tyIZ cI cZ)) (X : Sx A D (wC a cI cZ σ) s H locs) {v : Int32} (hv : c_pmade σ = v) (hd : decode cc pc = .ok (.getfield 76, 3)) (k : W p l e R s m args below meth c H locs cells slots Q (F0 m (pc + 3) ls (.int v :: rest))) : W p l e R s m args below meth c H locs cells slots Q (F0 m pc ls (.ref (a 4) :: rest)) := by
  subst hv
  exact va_getN (D := D) (ci := 2) (v := .int (c_pmade σ)) (C := RX2) (T := TX2) (N := 3) C.1 C.2.1 C.2.2.2.2.1 wx_X2 C.2.2.2.1 C.2.2.2.2.2.1 X.1 4 rfl rfl 0 (by decide) (va_Nw.use rfl (C.2.2.2.2.2.2 _ (List.mem_of_getElem? (i := 8) rfl))) (fun _ h9 => h9) rfl hd k
theorem cp_X5_X2_made {σ : CSt} (C : Cx p s m args meth c cc nL RX5 D (tyIZ cI cZ)) (X : Sx A D (wC a cI cZ σ) s H locs) {v : Int32} (hd : decode cc pc = .ok (.putfield 76, 3)) (k : ∀ (H1 : Heap) (locs1 : List Loc), Sx A D (wC a cI cZ (c_pmade_s σ v)) s H1 locs1 → W p l e R s m args below meth c H1 locs1 cells slots Q (F0 m (pc + 3) ls rest)) : W p l e R s m args below meth c H locs cells slots Q (F0 m pc ls (.int v :: .ref (a 4) :: rest)) :=
  va_putN (D := D) (ci := 2) (v := .int v) (ty := .int) (C := RX2) (T := TX2) (N := 3) C.1 C.2.1 C.2.2.2.2.1 wx_X2 tyX2 tyX2_ok nmX2 C.2.2.2.1 C.2.2.2.2.2.1 X.1 X.2.1 X.2.2 4 rfl rfl 0 (by decide) (va_Nw.use rfl (C.2.2.2.2.2.2 _ (List.mem_of_getElem? (i := 8) rfl))) (fun _ h9 => h9) rfl (by decide +kernel) rfl rfl (Nat.le_of_ble_eq_true rfl) hd (fun H1 locs1 hP hD hS => k H1 locs1 ⟨hP, hD, hS⟩)
theorem cg_X5_X0_behind {σ : CSt} (C : Cx p s m args meth c cc nL RX5 D (tyIZ cI cZ)) (X : Sx A D (wC a cI cZ σ) s H locs) {v : Int32} (hv : c_behind σ = v) (hd : decode cc pc = .ok (.getfield 119, 3)) (k : W p l e R s m args below meth c H locs cells slots Q (F0 m (pc + 3) ls (.int v :: rest))) : W p l e R s m args below meth c H locs cells slots Q (F0 m pc ls (.ref (a 2) :: rest)) := by
  subst hv
  exact va_getN (D := D) (ci := 0) (v := .int (c_behind σ)) (C := RX0) (T := TX0) (N := 3) C.1 C.2.1 C.2.2.2.2.1 wx_X0 C.2.2.2.1 C.2.2.2.2.2.1 X.1 2 rfl rfl 2 (by decide) (va_Nw.use rfl (C.2.2.2.2.2.2 _ (List.mem_of_getElem? (i := 3) rfl))) (fun _ h9 => h9) rfl hd k
theorem cg_X5_X1_wishes {σ : CSt} (C : Cx p s m args meth c cc nL RX5 D (tyIZ cI cZ)) (X : Sx A D (wC a cI cZ σ) s H locs) {v : Int32} (hv : c_wishes σ = v) (hd : decode cc pc = .ok (.getfield 171, 3)) (k : W p l e R s m args below meth c H locs cells slots Q (F0 m (pc + 3) ls (.int v :: rest))) : W p l e R s m args below meth c H locs cells slots Q (F0 m pc ls (.ref (a 3) :: rest)) := by
  subst hv
  exact va_getN (D := D) (ci := 1) (v := .int (c_wishes σ)) (C := RX1) (T := TX1) (N := 3) C.1 C.2.1 C.2.2.2.2.1 wx_X1 C.2.2.2.1 C.2.2.2.2.2.1 X.1 3 rfl rfl 2 (by decide) (va_Nw.use rfl (C.2.2.2.2.2.2 _ (List.mem_of_getElem? (i := 6) rfl))) (fun _ h9 => h9) rfl hd k
theorem rg_X6_X6_many {σ : RSt} (C : Cx p s m args meth c cc nL RX6 D (tyIZ cI cZ)) (X : Sx A D (wR a cI cZ σ) s H locs) (hd : decode cc pc = .ok (.getfield 7, 3)) (k : W p l e R s m args below meth c H locs cells slots Q (F0 m (pc + 3) ls (.ref (a 1) :: rest))) : W p l e R s m args below meth c H locs cells slots Q (F0 m pc ls (.ref (a 0) :: rest)) :=
  va_get (D := D) (ci := 6) (v := .ref (a 1)) (C := RX6) (T := TX6) (N := 30) C.1 C.2.1 C.2.2.2.2.1 wx_X6 C.2.2.2.1 C.2.2.2.2.2.1 X.1 0 rfl rfl 3 (by decide) (C.2.2.2.2.1 _ wf_X6_7) (fun _ h9 => h9) rfl hd k
theorem rg_X6_X6_field {σ : RSt} (C : Cx p s m args meth c cc nL RX6 D (tyIZ cI cZ)) (X : Sx A D (wR a cI cZ σ) s H locs) (hd : decode cc pc = .ok (.getfield 13, 3)) (k : W p l e R s m args below meth c H locs cells slots Q (F0 m (pc + 3) ls (.ref (a 2) :: rest))) : W p l e R s m args below meth c H locs cells slots Q (F0 m pc ls (.ref (a 0) :: rest)) :=
  va_get (D := D) (ci := 6) (v := .ref (a 2)) (C := RX6) (T := TX6) (N := 30) C.1 C.2.1 C.2.2.2.2.1 wx_X6 C.2.2.2.1 C.2.2.2.2.2.1 X.1 0 rfl rfl 4 (by decide) (C.2.2.2.2.1 _ wf_X6_13) (fun _ h9 => h9) rfl hd k
theorem rg_X6_X6_place {σ : RSt} (C : Cx p s m args meth c cc nL RX6 D (tyIZ cI cZ)) (X : Sx A D (wR a cI cZ σ) s H locs) (hd : decode cc pc = .ok (.getfield 16, 3)) (k : W p l e R s m args below meth c H locs cells slots Q (F0 m (pc + 3) ls (.ref (a 3) :: rest))) : W p l e R s m args below meth c H locs cells slots Q (F0 m pc ls (.ref (a 0) :: rest)) :=
  va_get (D := D) (ci := 6) (v := .ref (a 3)) (C := RX6) (T := TX6) (N := 30) C.1 C.2.1 C.2.2.2.2.1 wx_X6 C.2.2.2.1 C.2.2.2.2.2.1 X.1 0 rfl rfl 5 (by decide) (C.2.2.2.2.1 _ wf_X6_16) (fun _ h9 => h9) rfl hd k
theorem rg_X6_X6_colour {σ : RSt} (C : Cx p s m args meth c cc nL RX6 D (tyIZ cI cZ)) (X : Sx A D (wR a cI cZ σ) s H locs) (hd : decode cc pc = .ok (.getfield 19, 3)) (k : W p l e R s m args below meth c H locs cells slots Q (F0 m (pc + 3) ls (.ref (a 4) :: rest))) : W p l e R s m args below meth c H locs cells slots Q (F0 m pc ls (.ref (a 0) :: rest)) :=
  va_get (D := D) (ci := 6) (v := .ref (a 4)) (C := RX6) (T := TX6) (N := 30) C.1 C.2.1 C.2.2.2.2.1 wx_X6 C.2.2.2.1 C.2.2.2.2.2.1 X.1 0 rfl rfl 6 (by decide) (C.2.2.2.2.1 _ wf_X6_19) (fun _ h9 => h9) rfl hd k
theorem rg_X6_X6_isFreed {σ : RSt} (C : Cx p s m args meth c cc nL RX6 D (tyIZ cI cZ)) (X : Sx A D (wR a cI cZ σ) s H locs) (hd : decode cc pc = .ok (.getfield 22, 3)) (k : W p l e R s m args below meth c H locs cells slots Q (F0 m (pc + 3) ls (.ref (a 5) :: rest))) : W p l e R s m args below meth c H locs cells slots Q (F0 m pc ls (.ref (a 0) :: rest)) :=
  va_get (D := D) (ci := 6) (v := .ref (a 5)) (C := RX6) (T := TX6) (N := 30) C.1 C.2.1 C.2.2.2.2.1 wx_X6 C.2.2.2.1 C.2.2.2.2.2.1 X.1 0 rfl rfl 7 (by decide) (C.2.2.2.2.1 _ wf_X6_22) (fun _ h9 => h9) rfl hd k
theorem rg_X6_X6_hasWish {σ : RSt} (C : Cx p s m args meth c cc nL RX6 D (tyIZ cI cZ)) (X : Sx A D (wR a cI cZ σ) s H locs) (hd : decode cc pc = .ok (.getfield 26, 3)) (k : W p l e R s m args below meth c H locs cells slots Q (F0 m (pc + 3) ls (.ref (a 6) :: rest))) : W p l e R s m args below meth c H locs cells slots Q (F0 m pc ls (.ref (a 0) :: rest)) :=
  va_get (D := D) (ci := 6) (v := .ref (a 6)) (C := RX6) (T := TX6) (N := 30) C.1 C.2.1 C.2.2.2.2.1 wx_X6 C.2.2.2.1 C.2.2.2.2.2.1 X.1 0 rfl rfl 8 (by decide) (C.2.2.2.2.1 _ wf_X6_26) (fun _ h9 => h9) rfl hd k
theorem rg_X6_X6_moved {σ : RSt} (C : Cx p s m args meth c cc nL RX6 D (tyIZ cI cZ)) (X : Sx A D (wR a cI cZ σ) s H locs) (hd : decode cc pc = .ok (.getfield 29, 3)) (k : W p l e R s m args below meth c H locs cells slots Q (F0 m (pc + 3) ls (.ref (a 7) :: rest))) : W p l e R s m args below meth c H locs cells slots Q (F0 m pc ls (.ref (a 0) :: rest)) :=
  va_get (D := D) (ci := 6) (v := .ref (a 7)) (C := RX6) (T := TX6) (N := 30) C.1 C.2.1 C.2.2.2.2.1 wx_X6 C.2.2.2.1 C.2.2.2.2.2.1 X.1 0 rfl rfl 9 (by decide) (C.2.2.2.2.1 _ wf_X6_29) (fun _ h9 => h9) rfl hd k
theorem rg_X6_X6_register {σ : RSt} (C : Cx p s m args meth c cc nL RX6 D (tyIZ cI cZ)) (X : Sx A D (wR a cI cZ σ) s H locs) (hd : decode cc pc = .ok (.getfield 32, 3)) (k : W p l e R s m args below meth c H locs cells slots Q (F0 m (pc + 3) ls (.ref (a 8) :: rest))) : W p l e R s m args below meth c H locs cells slots Q (F0 m pc ls (.ref (a 0) :: rest)) :=
  va_get (D := D) (ci := 6) (v := .ref (a 8)) (C := RX6) (T := TX6) (N := 30) C.1 C.2.1 C.2.2.2.2.1 wx_X6 C.2.2.2.1 C.2.2.2.2.2.1 X.1 0 rfl rfl 10 (by decide) (C.2.2.2.2.1 _ wf_X6_32) (fun _ h9 => h9) rfl hd k
theorem rg_X6_X6_slot {σ : RSt} (C : Cx p s m args meth c cc nL RX6 D (tyIZ cI cZ)) (X : Sx A D (wR a cI cZ σ) s H locs) (hd : decode cc pc = .ok (.getfield 35, 3)) (k : W p l e R s m args below meth c H locs cells slots Q (F0 m (pc + 3) ls (.ref (a 9) :: rest))) : W p l e R s m args below meth c H locs cells slots Q (F0 m pc ls (.ref (a 0) :: rest)) :=
  va_get (D := D) (ci := 6) (v := .ref (a 9)) (C := RX6) (T := TX6) (N := 30) C.1 C.2.1 C.2.2.2.2.1 wx_X6 C.2.2.2.1 C.2.2.2.2.2.1 X.1 0 rfl rfl 11 (by decide) (C.2.2.2.2.1 _ wf_X6_35) (fun _ h9 => h9) rfl hd k
theorem rg_X6_X6_wishAt {σ : RSt} (C : Cx p s m args meth c cc nL RX6 D (tyIZ cI cZ)) (X : Sx A D (wR a cI cZ σ) s H locs) (hd : decode cc pc = .ok (.getfield 38, 3)) (k : W p l e R s m args below meth c H locs cells slots Q (F0 m (pc + 3) ls (.ref (a 10) :: rest))) : W p l e R s m args below meth c H locs cells slots Q (F0 m pc ls (.ref (a 0) :: rest)) :=
  va_get (D := D) (ci := 6) (v := .ref (a 10)) (C := RX6) (T := TX6) (N := 30) C.1 C.2.1 C.2.2.2.2.1 wx_X6 C.2.2.2.1 C.2.2.2.2.2.1 X.1 0 rfl rfl 13 (by decide) (C.2.2.2.2.1 _ wf_X6_38) (fun _ h9 => h9) rfl hd k
theorem rg_X6_X6_weakAt {σ : RSt} (C : Cx p s m args meth c cc nL RX6 D (tyIZ cI cZ)) (X : Sx A D (wR a cI cZ σ) s H locs) (hd : decode cc pc = .ok (.getfield 41, 3)) (k : W p l e R s m args below meth c H locs cells slots Q (F0 m (pc + 3) ls (.ref (a 11) :: rest))) : W p l e R s m args below meth c H locs cells slots Q (F0 m pc ls (.ref (a 0) :: rest)) :=
  va_get (D := D) (ci := 6) (v := .ref (a 11)) (C := RX6) (T := TX6) (N := 30) C.1 C.2.1 C.2.2.2.2.1 wx_X6 C.2.2.2.1 C.2.2.2.2.2.1 X.1 0 rfl rfl 14 (by decide) (C.2.2.2.2.1 _ wf_X6_41) (fun _ h9 => h9) rfl hd k
theorem rg_X6_X6_key {σ : RSt} (C : Cx p s m args meth c cc nL RX6 D (tyIZ cI cZ)) (X : Sx A D (wR a cI cZ σ) s H locs) (hd : decode cc pc = .ok (.getfield 44, 3)) (k : W p l e R s m args below meth c H locs cells slots Q (F0 m (pc + 3) ls (.ref (a 12) :: rest))) : W p l e R s m args below meth c H locs cells slots Q (F0 m pc ls (.ref (a 0) :: rest)) :=
  va_get (D := D) (ci := 6) (v := .ref (a 12)) (C := RX6) (T := TX6) (N := 30) C.1 C.2.1 C.2.2.2.2.1 wx_X6 C.2.2.2.1 C.2.2.2.2.2.1 X.1 0 rfl rfl 16 (by decide) (C.2.2.2.2.1 _ wf_X6_44) (fun _ h9 => h9) rfl hd k
theorem rg_X6_X6_value {σ : RSt} (C : Cx p s m args meth c cc nL RX6 D (tyIZ cI cZ)) (X : Sx A D (wR a cI cZ σ) s H locs) (hd : decode cc pc = .ok (.getfield 47, 3)) (k : W p l e R s m args below meth c H locs cells slots Q (F0 m (pc + 3) ls (.ref (a 13) :: rest))) : W p l e R s m args below meth c H locs cells slots Q (F0 m pc ls (.ref (a 0) :: rest)) :=
  va_get (D := D) (ci := 6) (v := .ref (a 13)) (C := RX6) (T := TX6) (N := 30) C.1 C.2.1 C.2.2.2.2.1 wx_X6 C.2.2.2.1 C.2.2.2.2.2.1 X.1 0 rfl rfl 17 (by decide) (C.2.2.2.2.1 _ wf_X6_47) (fun _ h9 => h9) rfl hd k
theorem rg_X6_X6_isPair {σ : RSt} (C : Cx p s m args meth c cc nL RX6 D (tyIZ cI cZ)) (X : Sx A D (wR a cI cZ σ) s H locs) (hd : decode cc pc = .ok (.getfield 50, 3)) (k : W p l e R s m args below meth c H locs cells slots Q (F0 m (pc + 3) ls (.ref (a 14) :: rest))) : W p l e R s m args below meth c H locs cells slots Q (F0 m pc ls (.ref (a 0) :: rest)) :=
  va_get (D := D) (ci := 6) (v := .ref (a 14)) (C := RX6) (T := TX6) (N := 30) C.1 C.2.1 C.2.2.2.2.1 wx_X6 C.2.2.2.1 C.2.2.2.2.2.1 X.1 0 rfl rfl 18 (by decide) (C.2.2.2.2.1 _ wf_X6_50) (fun _ h9 => h9) rfl hd k
theorem rg_X6_X6_isReached {σ : RSt} (C : Cx p s m args meth c cc nL RX6 D (tyIZ cI cZ)) (X : Sx A D (wR a cI cZ σ) s H locs) (hd : decode cc pc = .ok (.getfield 53, 3)) (k : W p l e R s m args below meth c H locs cells slots Q (F0 m (pc + 3) ls (.ref (a 15) :: rest))) : W p l e R s m args below meth c H locs cells slots Q (F0 m pc ls (.ref (a 0) :: rest)) :=
  va_get (D := D) (ci := 6) (v := .ref (a 15)) (C := RX6) (T := TX6) (N := 30) C.1 C.2.1 C.2.2.2.2.1 wx_X6 C.2.2.2.1 C.2.2.2.2.2.1 X.1 0 rfl rfl 28 (by decide) (C.2.2.2.2.1 _ wf_X6_53) (fun _ h9 => h9) rfl hd k
theorem rg_X6_X6_things {σ : RSt} (C : Cx p s m args meth c cc nL RX6 D (tyIZ cI cZ)) (X : Sx A D (wR a cI cZ σ) s H locs) {v : Int32} (hv : r_things σ = v) (hd : decode cc pc = .ok (.getfield 59, 3)) (k : W p l e R s m args below meth c H locs cells slots Q (F0 m (pc + 3) ls (.int v :: rest))) : W p l e R s m args below meth c H locs cells slots Q (F0 m pc ls (.ref (a 0) :: rest)) := by
  subst hv
  exact va_get (D := D) (ci := 6) (v := .int (r_things σ)) (C := RX6) (T := TX6) (N := 30) C.1 C.2.1 C.2.2.2.2.1 wx_X6 C.2.2.2.1 C.2.2.2.2.2.1 X.1 0 rfl rfl 2 (by decide) (C.2.2.2.2.1 _ wf_X6_59) (fun _ h9 => h9) rfl hd k
theorem rp_X6_X6_things {σ : RSt} (C : Cx p s m args meth c cc nL RX6 D (tyIZ cI cZ)) (X : Sx A D (wR a cI cZ σ) s H locs) {v : Int32} (hd : decode cc pc = .ok (.putfield 59, 3)) (k : ∀ (H1 : Heap) (locs1 : List Loc), Sx A D (wR a cI cZ (r_things_s σ v)) s H1 locs1 → W p l e R s m args below meth c H1 locs1 cells slots Q (F0 m (pc + 3) ls rest)) : W p l e R s m args below meth c H locs cells slots Q (F0 m pc ls (.int v :: .ref (a 0) :: rest)) :=
  va_put (D := D) (ci := 6) (v := .int v) (ty := .int) (C := RX6) (T := TX6) (N := 30) C.1 C.2.1 C.2.2.2.2.1 wx_X6 tyX6 tyX6_ok nmX6 C.2.2.2.1 C.2.2.2.2.2.1 X.1 X.2.1 X.2.2 0 rfl rfl 2 (by decide) (C.2.2.2.2.1 _ wf_X6_59) (fun _ h9 => h9) rfl (by decide +kernel) rfl rfl (Nat.le_of_ble_eq_true rfl) hd (fun H1 locs1 hP hD hS => k H1 locs1 ⟨hP, hD, hS⟩)
theorem rg_X6_X6_wishes {σ : RSt} (C : Cx p s m args meth c cc nL RX6 D (tyIZ cI cZ)) (X : Sx A D (wR a cI cZ σ) s H locs) {v : Int32} (hv : r_wishes σ = v) (hd : decode cc pc = .ok (.getfield 63, 3)) (k : W p l e R s m args below meth c H locs cells slots Q (F0 m (pc + 3) ls (.int v :: rest))) : W p l e R s m args below meth c H locs cells slots Q (F0 m pc ls (.ref (a 0) :: rest)) := by
  subst hv
  exact va_get (D := D) (ci := 6) (v := .int (r_wishes σ)) (C := RX6) (T := TX6) (N := 30) C.1 C.2.1 C.2.2.2.2.1 wx_X6 C.2.2.2.1 C.2.2.2.2.2.1 X.1 0 rfl rfl 12 (by decide) (C.2.2.2.2.1 _ wf_X6_63) (fun _ h9 => h9) rfl hd k
theorem rp_X6_X6_wishes {σ : RSt} (C : Cx p s m args meth c cc nL RX6 D (tyIZ cI cZ)) (X : Sx A D (wR a cI cZ σ) s H locs) {v : Int32} (hd : decode cc pc = .ok (.putfield 63, 3)) (k : ∀ (H1 : Heap) (locs1 : List Loc), Sx A D (wR a cI cZ (r_wishes_s σ v)) s H1 locs1 → W p l e R s m args below meth c H1 locs1 cells slots Q (F0 m (pc + 3) ls rest)) : W p l e R s m args below meth c H locs cells slots Q (F0 m pc ls (.int v :: .ref (a 0) :: rest)) :=
  va_put (D := D) (ci := 6) (v := .int v) (ty := .int) (C := RX6) (T := TX6) (N := 30) C.1 C.2.1 C.2.2.2.2.1 wx_X6 tyX6 tyX6_ok nmX6 C.2.2.2.1 C.2.2.2.2.2.1 X.1 X.2.1 X.2.2 0 rfl rfl 12 (by decide) (C.2.2.2.2.1 _ wf_X6_63) (fun _ h9 => h9) rfl (by decide +kernel) rfl rfl (Nat.le_of_ble_eq_true rfl) hd (fun H1 locs1 hP hD hS => k H1 locs1 ⟨hP, hD, hS⟩)
theorem rg_X6_X6_pairs {σ : RSt} (C : Cx p s m args meth c cc nL RX6 D (tyIZ cI cZ)) (X : Sx A D (wR a cI cZ σ) s H locs) {v : Int32} (hv : r_pairs σ = v) (hd : decode cc pc = .ok (.getfield 66, 3)) (k : W p l e R s m args below meth c H locs cells slots Q (F0 m (pc + 3) ls (.int v :: rest))) : W p l e R s m args below meth c H locs cells slots Q (F0 m pc ls (.ref (a 0) :: rest)) := by
  subst hv
  exact va_get (D := D) (ci := 6) (v := .int (r_pairs σ)) (C := RX6) (T := TX6) (N := 30) C.1 C.2.1 C.2.2.2.2.1 wx_X6 C.2.2.2.1 C.2.2.2.2.2.1 X.1 0 rfl rfl 15 (by decide) (C.2.2.2.2.1 _ wf_X6_66) (fun _ h9 => h9) rfl hd k
theorem rp_X6_X6_pairs {σ : RSt} (C : Cx p s m args meth c cc nL RX6 D (tyIZ cI cZ)) (X : Sx A D (wR a cI cZ σ) s H locs) {v : Int32} (hd : decode cc pc = .ok (.putfield 66, 3)) (k : ∀ (H1 : Heap) (locs1 : List Loc), Sx A D (wR a cI cZ (r_pairs_s σ v)) s H1 locs1 → W p l e R s m args below meth c H1 locs1 cells slots Q (F0 m (pc + 3) ls rest)) : W p l e R s m args below meth c H locs cells slots Q (F0 m pc ls (.int v :: .ref (a 0) :: rest)) :=
  va_put (D := D) (ci := 6) (v := .int v) (ty := .int) (C := RX6) (T := TX6) (N := 30) C.1 C.2.1 C.2.2.2.2.1 wx_X6 tyX6 tyX6_ok nmX6 C.2.2.2.1 C.2.2.2.2.2.1 X.1 X.2.1 X.2.2 0 rfl rfl 15 (by decide) (C.2.2.2.2.1 _ wf_X6_66) (fun _ h9 => h9) rfl (by decide +kernel) rfl rfl (Nat.le_of_ble_eq_true rfl) hd (fun H1 locs1 hP hD hS => k H1 locs1 ⟨hP, hD, hS⟩)
theorem rg_X6_X6_half {σ : RSt} (C : Cx p s m args meth c cc nL RX6 D (tyIZ cI cZ)) (X : Sx A D (wR a cI cZ σ) s H locs) {v : Int32} (hv : r_half σ = v) (hd : decode cc pc = .ok (.getfield 69, 3)) (k : W p l e R s m args below meth c H locs cells slots Q (F0 m (pc + 3) ls (.int v :: rest))) : W p l e R s m args below meth c H locs cells slots Q (F0 m pc ls (.ref (a 0) :: rest)) := by
  subst hv
  exact va_get (D := D) (ci := 6) (v := .int (r_half σ)) (C := RX6) (T := TX6) (N := 30) C.1 C.2.1 C.2.2.2.2.1 wx_X6 C.2.2.2.1 C.2.2.2.2.2.1 X.1 0 rfl rfl 19 (by decide) (C.2.2.2.2.1 _ wf_X6_69) (fun _ h9 => h9) rfl hd k
theorem rp_X6_X6_half {σ : RSt} (C : Cx p s m args meth c cc nL RX6 D (tyIZ cI cZ)) (X : Sx A D (wR a cI cZ σ) s H locs) {v : Int32} (hd : decode cc pc = .ok (.putfield 69, 3)) (k : ∀ (H1 : Heap) (locs1 : List Loc), Sx A D (wR a cI cZ (r_half_s σ v)) s H1 locs1 → W p l e R s m args below meth c H1 locs1 cells slots Q (F0 m (pc + 3) ls rest)) : W p l e R s m args below meth c H locs cells slots Q (F0 m pc ls (.int v :: .ref (a 0) :: rest)) :=
  va_put (D := D) (ci := 6) (v := .int v) (ty := .int) (C := RX6) (T := TX6) (N := 30) C.1 C.2.1 C.2.2.2.2.1 wx_X6 tyX6 tyX6_ok nmX6 C.2.2.2.1 C.2.2.2.2.2.1 X.1 X.2.1 X.2.2 0 rfl rfl 19 (by decide) (C.2.2.2.2.1 _ wf_X6_69) (fun _ h9 => h9) rfl (by decide +kernel) rfl rfl (Nat.le_of_ble_eq_true rfl) hd (fun H1 locs1 hP hD hS => k H1 locs1 ⟨hP, hD, hS⟩)
theorem rg_X6_X6_top {σ : RSt} (C : Cx p s m args meth c cc nL RX6 D (tyIZ cI cZ)) (X : Sx A D (wR a cI cZ σ) s H locs) {v : Int32} (hv : r_top σ = v) (hd : decode cc pc = .ok (.getfield 72, 3)) (k : W p l e R s m args below meth c H locs cells slots Q (F0 m (pc + 3) ls (.int v :: rest))) : W p l e R s m args below meth c H locs cells slots Q (F0 m pc ls (.ref (a 0) :: rest)) := by
  subst hv
  exact va_get (D := D) (ci := 6) (v := .int (r_top σ)) (C := RX6) (T := TX6) (N := 30) C.1 C.2.1 C.2.2.2.2.1 wx_X6 C.2.2.2.1 C.2.2.2.2.2.1 X.1 0 rfl rfl 20 (by decide) (C.2.2.2.2.1 _ wf_X6_72) (fun _ h9 => h9) rfl hd k
theorem rp_X6_X6_top {σ : RSt} (C : Cx p s m args meth c cc nL RX6 D (tyIZ cI cZ)) (X : Sx A D (wR a cI cZ σ) s H locs) {v : Int32} (hd : decode cc pc = .ok (.putfield 72, 3)) (k : ∀ (H1 : Heap) (locs1 : List Loc), Sx A D (wR a cI cZ (r_top_s σ v)) s H1 locs1 → W p l e R s m args below meth c H1 locs1 cells slots Q (F0 m (pc + 3) ls rest)) : W p l e R s m args below meth c H locs cells slots Q (F0 m pc ls (.int v :: .ref (a 0) :: rest)) :=
  va_put (D := D) (ci := 6) (v := .int v) (ty := .int) (C := RX6) (T := TX6) (N := 30) C.1 C.2.1 C.2.2.2.2.1 wx_X6 tyX6 tyX6_ok nmX6 C.2.2.2.1 C.2.2.2.2.2.1 X.1 X.2.1 X.2.2 0 rfl rfl 20 (by decide) (C.2.2.2.2.1 _ wf_X6_72) (fun _ h9 => h9) rfl (by decide +kernel) rfl rfl (Nat.le_of_ble_eq_true rfl) hd (fun H1 locs1 hP hD hS => k H1 locs1 ⟨hP, hD, hS⟩)
theorem rg_X6_X6_way {σ : RSt} (C : Cx p s m args meth c cc nL RX6 D (tyIZ cI cZ)) (X : Sx A D (wR a cI cZ σ) s H locs) {v : Int32} (hv : r_way σ = v) (hd : decode cc pc = .ok (.getfield 75, 3)) (k : W p l e R s m args below meth c H locs cells slots Q (F0 m (pc + 3) ls (.int v :: rest))) : W p l e R s m args below meth c H locs cells slots Q (F0 m pc ls (.ref (a 0) :: rest)) := by
  subst hv
  exact va_get (D := D) (ci := 6) (v := .int (r_way σ)) (C := RX6) (T := TX6) (N := 30) C.1 C.2.1 C.2.2.2.2.1 wx_X6 C.2.2.2.1 C.2.2.2.2.2.1 X.1 0 rfl rfl 21 (by decide) (C.2.2.2.2.1 _ wf_X6_75) (fun _ h9 => h9) rfl hd k
theorem rp_X6_X6_way {σ : RSt} (C : Cx p s m args meth c cc nL RX6 D (tyIZ cI cZ)) (X : Sx A D (wR a cI cZ σ) s H locs) {v : Int32} (hd : decode cc pc = .ok (.putfield 75, 3)) (k : ∀ (H1 : Heap) (locs1 : List Loc), Sx A D (wR a cI cZ (r_way_s σ v)) s H1 locs1 → W p l e R s m args below meth c H1 locs1 cells slots Q (F0 m (pc + 3) ls rest)) : W p l e R s m args below meth c H locs cells slots Q (F0 m pc ls (.int v :: .ref (a 0) :: rest)) :=
  va_put (D := D) (ci := 6) (v := .int v) (ty := .int) (C := RX6) (T := TX6) (N := 30) C.1 C.2.1 C.2.2.2.2.1 wx_X6 tyX6 tyX6_ok nmX6 C.2.2.2.1 C.2.2.2.2.2.1 X.1 X.2.1 X.2.2 0 rfl rfl 21 (by decide) (C.2.2.2.2.1 _ wf_X6_75) (fun _ h9 => h9) rfl (by decide +kernel) rfl rfl (Nat.le_of_ble_eq_true rfl) hd (fun H1 locs1 hP hD hS => k H1 locs1 ⟨hP, hD, hS⟩)
theorem rg_X6_X6_rounds {σ : RSt} (C : Cx p s m args meth c cc nL RX6 D (tyIZ cI cZ)) (X : Sx A D (wR a cI cZ σ) s H locs) {v : Int32} (hv : r_rounds σ = v) (hd : decode cc pc = .ok (.getfield 78, 3)) (k : W p l e R s m args below meth c H locs cells slots Q (F0 m (pc + 3) ls (.int v :: rest))) : W p l e R s m args below meth c H locs cells slots Q (F0 m pc ls (.ref (a 0) :: rest)) := by
  subst hv
  exact va_get (D := D) (ci := 6) (v := .int (r_rounds σ)) (C := RX6) (T := TX6) (N := 30) C.1 C.2.1 C.2.2.2.2.1 wx_X6 C.2.2.2.1 C.2.2.2.2.2.1 X.1 0 rfl rfl 24 (by decide) (C.2.2.2.2.1 _ wf_X6_78) (fun _ h9 => h9) rfl hd k
theorem rp_X6_X6_rounds {σ : RSt} (C : Cx p s m args meth c cc nL RX6 D (tyIZ cI cZ)) (X : Sx A D (wR a cI cZ σ) s H locs) {v : Int32} (hd : decode cc pc = .ok (.putfield 78, 3)) (k : ∀ (H1 : Heap) (locs1 : List Loc), Sx A D (wR a cI cZ (r_rounds_s σ v)) s H1 locs1 → W p l e R s m args below meth c H1 locs1 cells slots Q (F0 m (pc + 3) ls rest)) : W p l e R s m args below meth c H locs cells slots Q (F0 m pc ls (.int v :: .ref (a 0) :: rest)) :=
  va_put (D := D) (ci := 6) (v := .int v) (ty := .int) (C := RX6) (T := TX6) (N := 30) C.1 C.2.1 C.2.2.2.2.1 wx_X6 tyX6 tyX6_ok nmX6 C.2.2.2.1 C.2.2.2.2.2.1 X.1 X.2.1 X.2.2 0 rfl rfl 24 (by decide) (C.2.2.2.2.1 _ wf_X6_78) (fun _ h9 => h9) rfl (by decide +kernel) rfl rfl (Nat.le_of_ble_eq_true rfl) hd (fun H1 locs1 hP hD hS => k H1 locs1 ⟨hP, hD, hS⟩)
theorem rg_X6_X6_steps {σ : RSt} (C : Cx p s m args meth c cc nL RX6 D (tyIZ cI cZ)) (X : Sx A D (wR a cI cZ σ) s H locs) {v : Int32} (hv : r_steps σ = v) (hd : decode cc pc = .ok (.getfield 81, 3)) (k : W p l e R s m args below meth c H locs cells slots Q (F0 m (pc + 3) ls (.int v :: rest))) : W p l e R s m args below meth c H locs cells slots Q (F0 m pc ls (.ref (a 0) :: rest)) := by
  subst hv
  exact va_get (D := D) (ci := 6) (v := .int (r_steps σ)) (C := RX6) (T := TX6) (N := 30) C.1 C.2.1 C.2.2.2.2.1 wx_X6 C.2.2.2.1 C.2.2.2.2.2.1 X.1 0 rfl rfl 25 (by decide) (C.2.2.2.2.1 _ wf_X6_81) (fun _ h9 => h9) rfl hd k
theorem rp_X6_X6_steps {σ : RSt} (C : Cx p s m args meth c cc nL RX6 D (tyIZ cI cZ)) (X : Sx A D (wR a cI cZ σ) s H locs) {v : Int32} (hd : decode cc pc = .ok (.putfield 81, 3)) (k : ∀ (H1 : Heap) (locs1 : List Loc), Sx A D (wR a cI cZ (r_steps_s σ v)) s H1 locs1 → W p l e R s m args below meth c H1 locs1 cells slots Q (F0 m (pc + 3) ls rest)) : W p l e R s m args below meth c H locs cells slots Q (F0 m pc ls (.int v :: .ref (a 0) :: rest)) :=
  va_put (D := D) (ci := 6) (v := .int v) (ty := .int) (C := RX6) (T := TX6) (N := 30) C.1 C.2.1 C.2.2.2.2.1 wx_X6 tyX6 tyX6_ok nmX6 C.2.2.2.1 C.2.2.2.2.2.1 X.1 X.2.1 X.2.2 0 rfl rfl 25 (by decide) (C.2.2.2.2.1 _ wf_X6_81) (fun _ h9 => h9) rfl (by decide +kernel) rfl rfl (Nat.le_of_ble_eq_true rfl) hd (fun H1 locs1 hP hD hS => k H1 locs1 ⟨hP, hD, hS⟩)
theorem rg_X6_X6_shaded {σ : RSt} (C : Cx p s m args meth c cc nL RX6 D (tyIZ cI cZ)) (X : Sx A D (wR a cI cZ σ) s H locs) {v : Int32} (hv : r_shaded σ = v) (hd : decode cc pc = .ok (.getfield 84, 3)) (k : W p l e R s m args below meth c H locs cells slots Q (F0 m (pc + 3) ls (.int v :: rest))) : W p l e R s m args below meth c H locs cells slots Q (F0 m pc ls (.ref (a 0) :: rest)) := by
  subst hv
  exact va_get (D := D) (ci := 6) (v := .int (r_shaded σ)) (C := RX6) (T := TX6) (N := 30) C.1 C.2.1 C.2.2.2.2.1 wx_X6 C.2.2.2.1 C.2.2.2.2.2.1 X.1 0 rfl rfl 26 (by decide) (C.2.2.2.2.1 _ wf_X6_84) (fun _ h9 => h9) rfl hd k
theorem rp_X6_X6_shaded {σ : RSt} (C : Cx p s m args meth c cc nL RX6 D (tyIZ cI cZ)) (X : Sx A D (wR a cI cZ σ) s H locs) {v : Int32} (hd : decode cc pc = .ok (.putfield 84, 3)) (k : ∀ (H1 : Heap) (locs1 : List Loc), Sx A D (wR a cI cZ (r_shaded_s σ v)) s H1 locs1 → W p l e R s m args below meth c H1 locs1 cells slots Q (F0 m (pc + 3) ls rest)) : W p l e R s m args below meth c H locs cells slots Q (F0 m pc ls (.int v :: .ref (a 0) :: rest)) :=
  va_put (D := D) (ci := 6) (v := .int v) (ty := .int) (C := RX6) (T := TX6) (N := 30) C.1 C.2.1 C.2.2.2.2.1 wx_X6 tyX6 tyX6_ok nmX6 C.2.2.2.1 C.2.2.2.2.2.1 X.1 X.2.1 X.2.2 0 rfl rfl 26 (by decide) (C.2.2.2.2.1 _ wf_X6_84) (fun _ h9 => h9) rfl (by decide +kernel) rfl rfl (Nat.le_of_ble_eq_true rfl) hd (fun H1 locs1 hP hD hS => k H1 locs1 ⟨hP, hD, hS⟩)
theorem rg_X6_X6_movedMany {σ : RSt} (C : Cx p s m args meth c cc nL RX6 D (tyIZ cI cZ)) (X : Sx A D (wR a cI cZ σ) s H locs) {v : Int32} (hv : r_movedMany σ = v) (hd : decode cc pc = .ok (.getfield 87, 3)) (k : W p l e R s m args below meth c H locs cells slots Q (F0 m (pc + 3) ls (.int v :: rest))) : W p l e R s m args below meth c H locs cells slots Q (F0 m pc ls (.ref (a 0) :: rest)) := by
  subst hv
  exact va_get (D := D) (ci := 6) (v := .int (r_movedMany σ)) (C := RX6) (T := TX6) (N := 30) C.1 C.2.1 C.2.2.2.2.1 wx_X6 C.2.2.2.1 C.2.2.2.2.2.1 X.1 0 rfl rfl 27 (by decide) (C.2.2.2.2.1 _ wf_X6_87) (fun _ h9 => h9) rfl hd k
theorem rp_X6_X6_movedMany {σ : RSt} (C : Cx p s m args meth c cc nL RX6 D (tyIZ cI cZ)) (X : Sx A D (wR a cI cZ σ) s H locs) {v : Int32} (hd : decode cc pc = .ok (.putfield 87, 3)) (k : ∀ (H1 : Heap) (locs1 : List Loc), Sx A D (wR a cI cZ (r_movedMany_s σ v)) s H1 locs1 → W p l e R s m args below meth c H1 locs1 cells slots Q (F0 m (pc + 3) ls rest)) : W p l e R s m args below meth c H locs cells slots Q (F0 m pc ls (.int v :: .ref (a 0) :: rest)) :=
  va_put (D := D) (ci := 6) (v := .int v) (ty := .int) (C := RX6) (T := TX6) (N := 30) C.1 C.2.1 C.2.2.2.2.1 wx_X6 tyX6 tyX6_ok nmX6 C.2.2.2.1 C.2.2.2.2.2.1 X.1 X.2.1 X.2.2 0 rfl rfl 27 (by decide) (C.2.2.2.2.1 _ wf_X6_87) (fun _ h9 => h9) rfl (by decide +kernel) rfl rfl (Nat.le_of_ble_eq_true rfl) hd (fun H1 locs1 hP hD hS => k H1 locs1 ⟨hP, hD, hS⟩)
theorem rg_X6_X6_manner {σ : RSt} (C : Cx p s m args meth c cc nL RX6 D (tyIZ cI cZ)) (X : Sx A D (wR a cI cZ σ) s H locs) {v : Int32} (hv : r_manner σ = v) (hd : decode cc pc = .ok (.getfield 94, 3)) (k : W p l e R s m args below meth c H locs cells slots Q (F0 m (pc + 3) ls (.int v :: rest))) : W p l e R s m args below meth c H locs cells slots Q (F0 m pc ls (.ref (a 0) :: rest)) := by
  subst hv
  exact va_get (D := D) (ci := 6) (v := .int (r_manner σ)) (C := RX6) (T := TX6) (N := 30) C.1 C.2.1 C.2.2.2.2.1 wx_X6 C.2.2.2.1 C.2.2.2.2.2.1 X.1 0 rfl rfl 0 (by decide) (C.2.2.2.2.1 _ wf_X6_94) (fun _ h9 => h9) rfl hd k
theorem rp_X6_X6_manner {σ : RSt} (C : Cx p s m args meth c cc nL RX6 D (tyIZ cI cZ)) (X : Sx A D (wR a cI cZ σ) s H locs) {v : Int32} (hd : decode cc pc = .ok (.putfield 94, 3)) (k : ∀ (H1 : Heap) (locs1 : List Loc), Sx A D (wR a cI cZ (r_manner_s σ v)) s H1 locs1 → W p l e R s m args below meth c H1 locs1 cells slots Q (F0 m (pc + 3) ls rest)) : W p l e R s m args below meth c H locs cells slots Q (F0 m pc ls (.int v :: .ref (a 0) :: rest)) :=
  va_put (D := D) (ci := 6) (v := .int v) (ty := .int) (C := RX6) (T := TX6) (N := 30) C.1 C.2.1 C.2.2.2.2.1 wx_X6 tyX6 tyX6_ok nmX6 C.2.2.2.1 C.2.2.2.2.2.1 X.1 X.2.1 X.2.2 0 rfl rfl 0 (by decide) (C.2.2.2.2.1 _ wf_X6_94) (fun _ h9 => h9) rfl (by decide +kernel) rfl rfl (Nat.le_of_ble_eq_true rfl) hd (fun H1 locs1 hP hD hS => k H1 locs1 ⟨hP, hD, hS⟩)
theorem rg_X6_X6_fault {σ : RSt} (C : Cx p s m args meth c cc nL RX6 D (tyIZ cI cZ)) (X : Sx A D (wR a cI cZ σ) s H locs) {v : Int32} (hv : r_fault σ = v) (hd : decode cc pc = .ok (.getfield 97, 3)) (k : W p l e R s m args below meth c H locs cells slots Q (F0 m (pc + 3) ls (.int v :: rest))) : W p l e R s m args below meth c H locs cells slots Q (F0 m pc ls (.ref (a 0) :: rest)) := by
  subst hv
  exact va_get (D := D) (ci := 6) (v := .int (r_fault σ)) (C := RX6) (T := TX6) (N := 30) C.1 C.2.1 C.2.2.2.2.1 wx_X6 C.2.2.2.1 C.2.2.2.2.2.1 X.1 0 rfl rfl 1 (by decide) (C.2.2.2.2.1 _ wf_X6_97) (fun _ h9 => h9) rfl hd k
theorem rp_X6_X6_fault {σ : RSt} (C : Cx p s m args meth c cc nL RX6 D (tyIZ cI cZ)) (X : Sx A D (wR a cI cZ σ) s H locs) {v : Int32} (hd : decode cc pc = .ok (.putfield 97, 3)) (k : ∀ (H1 : Heap) (locs1 : List Loc), Sx A D (wR a cI cZ (r_fault_s σ v)) s H1 locs1 → W p l e R s m args below meth c H1 locs1 cells slots Q (F0 m (pc + 3) ls rest)) : W p l e R s m args below meth c H locs cells slots Q (F0 m pc ls (.int v :: .ref (a 0) :: rest)) :=
  va_put (D := D) (ci := 6) (v := .int v) (ty := .int) (C := RX6) (T := TX6) (N := 30) C.1 C.2.1 C.2.2.2.2.1 wx_X6 tyX6 tyX6_ok nmX6 C.2.2.2.1 C.2.2.2.2.2.1 X.1 X.2.1 X.2.2 0 rfl rfl 1 (by decide) (C.2.2.2.2.1 _ wf_X6_97) (fun _ h9 => h9) rfl (by decide +kernel) rfl rfl (Nat.le_of_ble_eq_true rfl) hd (fun H1 locs1 hP hD hS => k H1 locs1 ⟨hP, hD, hS⟩)
theorem rg_X6_X6_freedMany {σ : RSt} (C : Cx p s m args meth c cc nL RX6 D (tyIZ cI cZ)) (X : Sx A D (wR a cI cZ σ) s H locs) {v : Int32} (hv : r_freedMany σ = v) (hd : decode cc pc = .ok (.getfield 104, 3)) (k : W p l e R s m args below meth c H locs cells slots Q (F0 m (pc + 3) ls (.int v :: rest))) : W p l e R s m args below meth c H locs cells slots Q (F0 m pc ls (.ref (a 0) :: rest)) := by
  subst hv
  exact va_get (D := D) (ci := 6) (v := .int (r_freedMany σ)) (C := RX6) (T := TX6) (N := 30) C.1 C.2.1 C.2.2.2.2.1 wx_X6 C.2.2.2.1 C.2.2.2.2.2.1 X.1 0 rfl rfl 23 (by decide) (C.2.2.2.2.1 _ wf_X6_104) (fun _ h9 => h9) rfl hd k
theorem rp_X6_X6_freedMany {σ : RSt} (C : Cx p s m args meth c cc nL RX6 D (tyIZ cI cZ)) (X : Sx A D (wR a cI cZ σ) s H locs) {v : Int32} (hd : decode cc pc = .ok (.putfield 104, 3)) (k : ∀ (H1 : Heap) (locs1 : List Loc), Sx A D (wR a cI cZ (r_freedMany_s σ v)) s H1 locs1 → W p l e R s m args below meth c H1 locs1 cells slots Q (F0 m (pc + 3) ls rest)) : W p l e R s m args below meth c H locs cells slots Q (F0 m pc ls (.int v :: .ref (a 0) :: rest)) :=
  va_put (D := D) (ci := 6) (v := .int v) (ty := .int) (C := RX6) (T := TX6) (N := 30) C.1 C.2.1 C.2.2.2.2.1 wx_X6 tyX6 tyX6_ok nmX6 C.2.2.2.1 C.2.2.2.2.2.1 X.1 X.2.1 X.2.2 0 rfl rfl 23 (by decide) (C.2.2.2.2.1 _ wf_X6_104) (fun _ h9 => h9) rfl (by decide +kernel) rfl rfl (Nat.le_of_ble_eq_true rfl) hd (fun H1 locs1 hP hD hS => k H1 locs1 ⟨hP, hD, hS⟩)
theorem rg_X6_X6_next {σ : RSt} (C : Cx p s m args meth c cc nL RX6 D (tyIZ cI cZ)) (X : Sx A D (wR a cI cZ σ) s H locs) {v : Int32} (hv : r_next σ = v) (hd : decode cc pc = .ok (.getfield 124, 3)) (k : W p l e R s m args below meth c H locs cells slots Q (F0 m (pc + 3) ls (.int v :: rest))) : W p l e R s m args below meth c H locs cells slots Q (F0 m pc ls (.ref (a 0) :: rest)) := by
  subst hv
  exact va_get (D := D) (ci := 6) (v := .int (r_next σ)) (C := RX6) (T := TX6) (N := 30) C.1 C.2.1 C.2.2.2.2.1 wx_X6 C.2.2.2.1 C.2.2.2.2.2.1 X.1 0 rfl rfl 22 (by decide) (C.2.2.2.2.1 _ wf_X6_124) (fun _ h9 => h9) rfl hd k
theorem rp_X6_X6_next {σ : RSt} (C : Cx p s m args meth c cc nL RX6 D (tyIZ cI cZ)) (X : Sx A D (wR a cI cZ σ) s H locs) {v : Int32} (hd : decode cc pc = .ok (.putfield 124, 3)) (k : ∀ (H1 : Heap) (locs1 : List Loc), Sx A D (wR a cI cZ (r_next_s σ v)) s H1 locs1 → W p l e R s m args below meth c H1 locs1 cells slots Q (F0 m (pc + 3) ls rest)) : W p l e R s m args below meth c H locs cells slots Q (F0 m pc ls (.int v :: .ref (a 0) :: rest)) :=
  va_put (D := D) (ci := 6) (v := .int v) (ty := .int) (C := RX6) (T := TX6) (N := 30) C.1 C.2.1 C.2.2.2.2.1 wx_X6 tyX6 tyX6_ok nmX6 C.2.2.2.1 C.2.2.2.2.2.1 X.1 X.2.1 X.2.2 0 rfl rfl 22 (by decide) (C.2.2.2.2.1 _ wf_X6_124) (fun _ h9 => h9) rfl (by decide +kernel) rfl rfl (Nat.le_of_ble_eq_true rfl) hd (fun H1 locs1 hP hD hS => k H1 locs1 ⟨hP, hD, hS⟩)
theorem rg_X6_X6_more {σ : RSt} (C : Cx p s m args meth c cc nL RX6 D (tyIZ cI cZ)) (X : Sx A D (wR a cI cZ σ) s H locs) {v : Int32} (hv : r_more σ = v) (hd : decode cc pc = .ok (.getfield 176, 3)) (k : W p l e R s m args below meth c H locs cells slots Q (F0 m (pc + 3) ls (.int v :: rest))) : W p l e R s m args below meth c H locs cells slots Q (F0 m pc ls (.ref (a 0) :: rest)) := by
  subst hv
  exact va_get (D := D) (ci := 6) (v := .int (r_more σ)) (C := RX6) (T := TX6) (N := 30) C.1 C.2.1 C.2.2.2.2.1 wx_X6 C.2.2.2.1 C.2.2.2.2.2.1 X.1 0 rfl rfl 29 (by decide) (C.2.2.2.2.1 _ wf_X6_176) (fun _ h9 => h9) rfl hd k
theorem rp_X6_X6_more {σ : RSt} (C : Cx p s m args meth c cc nL RX6 D (tyIZ cI cZ)) (X : Sx A D (wR a cI cZ σ) s H locs) {v : Int32} (hn : narrow .boolean (.int v) = .int v) (hfit : fits .boolean (.int v) = true) (hd : decode cc pc = .ok (.putfield 176, 3)) (k : ∀ (H1 : Heap) (locs1 : List Loc), Sx A D (wR a cI cZ (r_more_s σ v)) s H1 locs1 → W p l e R s m args below meth c H1 locs1 cells slots Q (F0 m (pc + 3) ls rest)) : W p l e R s m args below meth c H locs cells slots Q (F0 m pc ls (.int v :: .ref (a 0) :: rest)) :=
  va_put (D := D) (ci := 6) (v := .int v) (ty := .boolean) (C := RX6) (T := TX6) (N := 30) C.1 C.2.1 C.2.2.2.2.1 wx_X6 tyX6 tyX6_ok nmX6 C.2.2.2.1 C.2.2.2.2.2.1 X.1 X.2.1 X.2.2 0 rfl rfl 29 (by decide) (C.2.2.2.2.1 _ wf_X6_176) (fun _ h9 => h9) rfl (by decide +kernel) hn hfit (Nat.le_of_ble_eq_true rfl) hd (fun H1 locs1 hP hD hS => k H1 locs1 ⟨hP, hD, hS⟩)
theorem ra_many {σ : RSt} {own : String} (C : Cx p s m args meth c cc nL own D (tyIZ cI cZ)) (X : Sx A D (wR a cI cZ σ) s H locs) {i v : Int32} (hi : vp_in i 120) (hv : r_many σ (ix i) = v) (hd : decode cc pc = .ok (.iaload, 1)) (k : W p l e R s m args below meth c H locs cells slots Q (F0 m (pc + 1) ls (.int v :: rest))) : W p l e R s m args below meth c H locs cells slots Q (F0 m pc ls (.int i :: .ref (a 1) :: rest)) := by
  subst hv
  exact va_iald (f := r_many σ) C.1 C.2.1 C.2.2.2.2.2.1 X.1 1 0 rfl rfl hi hd k
theorem rs_many {σ : RSt} {own : String} (C : Cx p s m args meth c cc nL own D (tyIZ cI cZ)) (X : Sx A D (wR a cI cZ σ) s H locs) {i x : Int32} (hi : vp_in i 120) (hd : decode cc pc = .ok (.iastore, 1)) (k : ∀ (H1 : Heap) (locs1 : List Loc), Sx A D (wR a cI cZ (r_many_s σ (upd (r_many σ) (ix i) x))) s H1 locs1 → W p l e R s m args below meth c H1 locs1 cells slots Q (F0 m (pc + 1) ls rest)) : W p l e R s m args below meth c H locs cells slots Q (F0 m pc ls (.int x :: .int i :: .ref (a 1) :: rest)) :=
  va_iast (f := r_many σ) C.1 C.2.1 C.2.2.2.2.2.1 X.1 X.2.1 X.2.2 1 0 rfl rfl hi hd (fun H1 locs1 hP hD hS => k H1 locs1 ⟨hP, hD, hS⟩)
theorem ra_field {σ : RSt} {own : String} (C : Cx p s m args meth c cc nL own D (tyIZ cI cZ)) (X : Sx A D (wR a cI cZ σ) s H locs) {i v : Int32} (hi : vp_in i 720) (hv : r_field σ (ix i) = v) (hd : decode cc pc = .ok (.iaload, 1)) (k : W p l e R s m args below meth c H locs cells slots Q (F0 m (pc + 1) ls (.int v :: rest))) : W p l e R s m args below meth c H locs cells slots Q (F0 m pc ls (.int i :: .ref (a 2) :: rest)) := by
  subst hv
  exact va_iald (f := r_field σ) C.1 C.2.1 C.2.2.2.2.2.1 X.1 2 0 rfl rfl hi hd k
theorem rs_field {σ : RSt} {own : String} (C : Cx p s m args meth c cc nL own D (tyIZ cI cZ)) (X : Sx A D (wR a cI cZ σ) s H locs) {i x : Int32} (hi : vp_in i 720) (hd : decode cc pc = .ok (.iastore, 1)) (k : ∀ (H1 : Heap) (locs1 : List Loc), Sx A D (wR a cI cZ (r_field_s σ (upd (r_field σ) (ix i) x))) s H1 locs1 → W p l e R s m args below meth c H1 locs1 cells slots Q (F0 m (pc + 1) ls rest)) : W p l e R s m args below meth c H locs cells slots Q (F0 m pc ls (.int x :: .int i :: .ref (a 2) :: rest)) :=
  va_iast (f := r_field σ) C.1 C.2.1 C.2.2.2.2.2.1 X.1 X.2.1 X.2.2 2 0 rfl rfl hi hd (fun H1 locs1 hP hD hS => k H1 locs1 ⟨hP, hD, hS⟩)
theorem ra_place {σ : RSt} {own : String} (C : Cx p s m args meth c cc nL own D (tyIZ cI cZ)) (X : Sx A D (wR a cI cZ σ) s H locs) {i v : Int32} (hi : vp_in i 120) (hv : r_place σ (ix i) = v) (hd : decode cc pc = .ok (.iaload, 1)) (k : W p l e R s m args below meth c H locs cells slots Q (F0 m (pc + 1) ls (.int v :: rest))) : W p l e R s m args below meth c H locs cells slots Q (F0 m pc ls (.int i :: .ref (a 3) :: rest)) := by
  subst hv
  exact va_iald (f := r_place σ) C.1 C.2.1 C.2.2.2.2.2.1 X.1 3 0 rfl rfl hi hd k
theorem rs_place {σ : RSt} {own : String} (C : Cx p s m args meth c cc nL own D (tyIZ cI cZ)) (X : Sx A D (wR a cI cZ σ) s H locs) {i x : Int32} (hi : vp_in i 120) (hd : decode cc pc = .ok (.iastore, 1)) (k : ∀ (H1 : Heap) (locs1 : List Loc), Sx A D (wR a cI cZ (r_place_s σ (upd (r_place σ) (ix i) x))) s H1 locs1 → W p l e R s m args below meth c H1 locs1 cells slots Q (F0 m (pc + 1) ls rest)) : W p l e R s m args below meth c H locs cells slots Q (F0 m pc ls (.int x :: .int i :: .ref (a 3) :: rest)) :=
  va_iast (f := r_place σ) C.1 C.2.1 C.2.2.2.2.2.1 X.1 X.2.1 X.2.2 3 0 rfl rfl hi hd (fun H1 locs1 hP hD hS => k H1 locs1 ⟨hP, hD, hS⟩)
theorem ra_colour {σ : RSt} {own : String} (C : Cx p s m args meth c cc nL own D (tyIZ cI cZ)) (X : Sx A D (wR a cI cZ σ) s H locs) {i v : Int32} (hi : vp_in i 120) (hv : r_colour σ (ix i) = v) (hd : decode cc pc = .ok (.iaload, 1)) (k : W p l e R s m args below meth c H locs cells slots Q (F0 m (pc + 1) ls (.int v :: rest))) : W p l e R s m args below meth c H locs cells slots Q (F0 m pc ls (.int i :: .ref (a 4) :: rest)) := by
  subst hv
  exact va_iald (f := r_colour σ) C.1 C.2.1 C.2.2.2.2.2.1 X.1 4 0 rfl rfl hi hd k
theorem rs_colour {σ : RSt} {own : String} (C : Cx p s m args meth c cc nL own D (tyIZ cI cZ)) (X : Sx A D (wR a cI cZ σ) s H locs) {i x : Int32} (hi : vp_in i 120) (hd : decode cc pc = .ok (.iastore, 1)) (k : ∀ (H1 : Heap) (locs1 : List Loc), Sx A D (wR a cI cZ (r_colour_s σ (upd (r_colour σ) (ix i) x))) s H1 locs1 → W p l e R s m args below meth c H1 locs1 cells slots Q (F0 m (pc + 1) ls rest)) : W p l e R s m args below meth c H locs cells slots Q (F0 m pc ls (.int x :: .int i :: .ref (a 4) :: rest)) :=
  va_iast (f := r_colour σ) C.1 C.2.1 C.2.2.2.2.2.1 X.1 X.2.1 X.2.2 4 0 rfl rfl hi hd (fun H1 locs1 hP hD hS => k H1 locs1 ⟨hP, hD, hS⟩)
theorem ra_isFreed {σ : RSt} {own : String} (C : Cx p s m args meth c cc nL own D (tyIZ cI cZ)) (X : Sx A D (wR a cI cZ σ) s H locs) {i v : Int32} (hi : vp_in i 120) (hv : r_isFreed σ (ix i) = v) (hd : decode cc pc = .ok (.baload, 1)) (k : W p l e R s m args below meth c H locs cells slots Q (F0 m (pc + 1) ls (.int v :: rest))) : W p l e R s m args below meth c H locs cells slots Q (F0 m pc ls (.int i :: .ref (a 5) :: rest)) := by
  subst hv
  exact va_zald (f := r_isFreed σ) C.1 C.2.1 C.2.2.2.2.2.1 X.1 5 1 rfl rfl hi hd k
theorem rs_isFreed {σ : RSt} {own : String} (C : Cx p s m args meth c cc nL own D (tyIZ cI cZ)) (X : Sx A D (wR a cI cZ σ) s H locs) {i x x1 : Int32} (hi : vp_in i 120) (hx : vp_nar .boolean x = x1) (hd : decode cc pc = .ok (.bastore, 1)) (k : ∀ (H1 : Heap) (locs1 : List Loc), Sx A D (wR a cI cZ (r_isFreed_s σ (upd (r_isFreed σ) (ix i) x1))) s H1 locs1 → W p l e R s m args below meth c H1 locs1 cells slots Q (F0 m (pc + 1) ls rest)) : W p l e R s m args below meth c H locs cells slots Q (F0 m pc ls (.int x :: .int i :: .ref (a 5) :: rest)) := by
  subst hx
  exact va_zast (f := r_isFreed σ) C.1 C.2.1 C.2.2.2.2.2.1 X.1 X.2.1 X.2.2 5 1 rfl rfl hi hd (fun H1 locs1 hP hD hS => k H1 locs1 ⟨hP, hD, hS⟩)
theorem ra_hasWish {σ : RSt} {own : String} (C : Cx p s m args meth c cc nL own D (tyIZ cI cZ)) (X : Sx A D (wR a cI cZ σ) s H locs) {i v : Int32} (hi : vp_in i 120) (hv : r_hasWish σ (ix i) = v) (hd : decode cc pc = .ok (.baload, 1)) (k : W p l e R s m args below meth c H locs cells slots Q (F0 m (pc + 1) ls (.int v :: rest))) : W p l e R s m args below meth c H locs cells slots Q (F0 m pc ls (.int i :: .ref (a 6) :: rest)) := by
  subst hv
  exact va_zald (f := r_hasWish σ) C.1 C.2.1 C.2.2.2.2.2.1 X.1 6 1 rfl rfl hi hd k
theorem rs_hasWish {σ : RSt} {own : String} (C : Cx p s m args meth c cc nL own D (tyIZ cI cZ)) (X : Sx A D (wR a cI cZ σ) s H locs) {i x x1 : Int32} (hi : vp_in i 120) (hx : vp_nar .boolean x = x1) (hd : decode cc pc = .ok (.bastore, 1)) (k : ∀ (H1 : Heap) (locs1 : List Loc), Sx A D (wR a cI cZ (r_hasWish_s σ (upd (r_hasWish σ) (ix i) x1))) s H1 locs1 → W p l e R s m args below meth c H1 locs1 cells slots Q (F0 m (pc + 1) ls rest)) : W p l e R s m args below meth c H locs cells slots Q (F0 m pc ls (.int x :: .int i :: .ref (a 6) :: rest)) := by
  subst hx
  exact va_zast (f := r_hasWish σ) C.1 C.2.1 C.2.2.2.2.2.1 X.1 X.2.1 X.2.2 6 1 rfl rfl hi hd (fun H1 locs1 hP hD hS => k H1 locs1 ⟨hP, hD, hS⟩)
theorem ra_moved {σ : RSt} {own : String} (C : Cx p s m args meth c cc nL own D (tyIZ cI cZ)) (X : Sx A D (wR a cI cZ σ) s H locs) {i v : Int32} (hi : vp_in i 120) (hv : r_moved σ (ix i) = v) (hd : decode cc pc = .ok (.iaload, 1)) (k : W p l e R s m args below meth c H locs cells slots Q (F0 m (pc + 1) ls (.int v :: rest))) : W p l e R s m args below meth c H locs cells slots Q (F0 m pc ls (.int i :: .ref (a 7) :: rest)) := by
  subst hv
  exact va_iald (f := r_moved σ) C.1 C.2.1 C.2.2.2.2.2.1 X.1 7 0 rfl rfl hi hd k
theorem rs_moved {σ : RSt} {own : String} (C : Cx p s m args meth c cc nL own D (tyIZ cI cZ)) (X : Sx A D (wR a cI cZ σ) s H locs) {i x : Int32} (hi : vp_in i 120) (hd : decode cc pc = .ok (.iastore, 1)) (k : ∀ (H1 : Heap) (locs1 : List Loc), Sx A D (wR a cI cZ (r_moved_s σ (upd (r_moved σ) (ix i) x))) s H1 locs1 → W p l e R s m args below meth c H1 locs1 cells slots Q (F0 m (pc + 1) ls rest)) : W p l e R s m args below meth c H locs cells slots Q (F0 m pc ls (.int x :: .int i :: .ref (a 7) :: rest)) :=
  va_iast (f := r_moved σ) C.1 C.2.1 C.2.2.2.2.2.1 X.1 X.2.1 X.2.2 7 0 rfl rfl hi hd (fun H1 locs1 hP hD hS => k H1 locs1 ⟨hP, hD, hS⟩)
theorem ra_register {σ : RSt} {own : String} (C : Cx p s m args meth c cc nL own D (tyIZ cI cZ)) (X : Sx A D (wR a cI cZ σ) s H locs) {i v : Int32} (hi : vp_in i 12) (hv : r_register σ (ix i) = v) (hd : decode cc pc = .ok (.iaload, 1)) (k : W p l e R s m args below meth c H locs cells slots Q (F0 m (pc + 1) ls (.int v :: rest))) : W p l e R s m args below meth c H locs cells slots Q (F0 m pc ls (.int i :: .ref (a 8) :: rest)) := by
  subst hv
  exact va_iald (f := r_register σ) C.1 C.2.1 C.2.2.2.2.2.1 X.1 8 0 rfl rfl hi hd k
theorem rs_register {σ : RSt} {own : String} (C : Cx p s m args meth c cc nL own D (tyIZ cI cZ)) (X : Sx A D (wR a cI cZ σ) s H locs) {i x : Int32} (hi : vp_in i 12) (hd : decode cc pc = .ok (.iastore, 1)) (k : ∀ (H1 : Heap) (locs1 : List Loc), Sx A D (wR a cI cZ (r_register_s σ (upd (r_register σ) (ix i) x))) s H1 locs1 → W p l e R s m args below meth c H1 locs1 cells slots Q (F0 m (pc + 1) ls rest)) : W p l e R s m args below meth c H locs cells slots Q (F0 m pc ls (.int x :: .int i :: .ref (a 8) :: rest)) :=
  va_iast (f := r_register σ) C.1 C.2.1 C.2.2.2.2.2.1 X.1 X.2.1 X.2.2 8 0 rfl rfl hi hd (fun H1 locs1 hP hD hS => k H1 locs1 ⟨hP, hD, hS⟩)
theorem ra_slot {σ : RSt} {own : String} (C : Cx p s m args meth c cc nL own D (tyIZ cI cZ)) (X : Sx A D (wR a cI cZ σ) s H locs) {i v : Int32} (hi : vp_in i 4) (hv : r_slot σ (ix i) = v) (hd : decode cc pc = .ok (.iaload, 1)) (k : W p l e R s m args below meth c H locs cells slots Q (F0 m (pc + 1) ls (.int v :: rest))) : W p l e R s m args below meth c H locs cells slots Q (F0 m pc ls (.int i :: .ref (a 9) :: rest)) := by
  subst hv
  exact va_iald (f := r_slot σ) C.1 C.2.1 C.2.2.2.2.2.1 X.1 9 0 rfl rfl hi hd k
theorem rs_slot {σ : RSt} {own : String} (C : Cx p s m args meth c cc nL own D (tyIZ cI cZ)) (X : Sx A D (wR a cI cZ σ) s H locs) {i x : Int32} (hi : vp_in i 4) (hd : decode cc pc = .ok (.iastore, 1)) (k : ∀ (H1 : Heap) (locs1 : List Loc), Sx A D (wR a cI cZ (r_slot_s σ (upd (r_slot σ) (ix i) x))) s H1 locs1 → W p l e R s m args below meth c H1 locs1 cells slots Q (F0 m (pc + 1) ls rest)) : W p l e R s m args below meth c H locs cells slots Q (F0 m pc ls (.int x :: .int i :: .ref (a 9) :: rest)) :=
  va_iast (f := r_slot σ) C.1 C.2.1 C.2.2.2.2.2.1 X.1 X.2.1 X.2.2 9 0 rfl rfl hi hd (fun H1 locs1 hP hD hS => k H1 locs1 ⟨hP, hD, hS⟩)
theorem ra_wishAt {σ : RSt} {own : String} (C : Cx p s m args meth c cc nL own D (tyIZ cI cZ)) (X : Sx A D (wR a cI cZ σ) s H locs) {i v : Int32} (hi : vp_in i 120) (hv : r_wishAt σ (ix i) = v) (hd : decode cc pc = .ok (.iaload, 1)) (k : W p l e R s m args below meth c H locs cells slots Q (F0 m (pc + 1) ls (.int v :: rest))) : W p l e R s m args below meth c H locs cells slots Q (F0 m pc ls (.int i :: .ref (a 10) :: rest)) := by
  subst hv
  exact va_iald (f := r_wishAt σ) C.1 C.2.1 C.2.2.2.2.2.1 X.1 10 0 rfl rfl hi hd k
theorem rs_wishAt {σ : RSt} {own : String} (C : Cx p s m args meth c cc nL own D (tyIZ cI cZ)) (X : Sx A D (wR a cI cZ σ) s H locs) {i x : Int32} (hi : vp_in i 120) (hd : decode cc pc = .ok (.iastore, 1)) (k : ∀ (H1 : Heap) (locs1 : List Loc), Sx A D (wR a cI cZ (r_wishAt_s σ (upd (r_wishAt σ) (ix i) x))) s H1 locs1 → W p l e R s m args below meth c H1 locs1 cells slots Q (F0 m (pc + 1) ls rest)) : W p l e R s m args below meth c H locs cells slots Q (F0 m pc ls (.int x :: .int i :: .ref (a 10) :: rest)) :=
  va_iast (f := r_wishAt σ) C.1 C.2.1 C.2.2.2.2.2.1 X.1 X.2.1 X.2.2 10 0 rfl rfl hi hd (fun H1 locs1 hP hD hS => k H1 locs1 ⟨hP, hD, hS⟩)
theorem ra_weakAt {σ : RSt} {own : String} (C : Cx p s m args meth c cc nL own D (tyIZ cI cZ)) (X : Sx A D (wR a cI cZ σ) s H locs) {i v : Int32} (hi : vp_in i 6) (hv : r_weakAt σ (ix i) = v) (hd : decode cc pc = .ok (.iaload, 1)) (k : W p l e R s m args below meth c H locs cells slots Q (F0 m (pc + 1) ls (.int v :: rest))) : W p l e R s m args below meth c H locs cells slots Q (F0 m pc ls (.int i :: .ref (a 11) :: rest)) := by
  subst hv
  exact va_iald (f := r_weakAt σ) C.1 C.2.1 C.2.2.2.2.2.1 X.1 11 0 rfl rfl hi hd k
theorem rs_weakAt {σ : RSt} {own : String} (C : Cx p s m args meth c cc nL own D (tyIZ cI cZ)) (X : Sx A D (wR a cI cZ σ) s H locs) {i x : Int32} (hi : vp_in i 6) (hd : decode cc pc = .ok (.iastore, 1)) (k : ∀ (H1 : Heap) (locs1 : List Loc), Sx A D (wR a cI cZ (r_weakAt_s σ (upd (r_weakAt σ) (ix i) x))) s H1 locs1 → W p l e R s m args below meth c H1 locs1 cells slots Q (F0 m (pc + 1) ls rest)) : W p l e R s m args below meth c H locs cells slots Q (F0 m pc ls (.int x :: .int i :: .ref (a 11) :: rest)) :=
  va_iast (f := r_weakAt σ) C.1 C.2.1 C.2.2.2.2.2.1 X.1 X.2.1 X.2.2 11 0 rfl rfl hi hd (fun H1 locs1 hP hD hS => k H1 locs1 ⟨hP, hD, hS⟩)
theorem ra_key {σ : RSt} {own : String} (C : Cx p s m args meth c cc nL own D (tyIZ cI cZ)) (X : Sx A D (wR a cI cZ σ) s H locs) {i v : Int32} (hi : vp_in i 8) (hv : r_key σ (ix i) = v) (hd : decode cc pc = .ok (.iaload, 1)) (k : W p l e R s m args below meth c H locs cells slots Q (F0 m (pc + 1) ls (.int v :: rest))) : W p l e R s m args below meth c H locs cells slots Q (F0 m pc ls (.int i :: .ref (a 12) :: rest)) := by
  subst hv
  exact va_iald (f := r_key σ) C.1 C.2.1 C.2.2.2.2.2.1 X.1 12 0 rfl rfl hi hd k
theorem rs_key {σ : RSt} {own : String} (C : Cx p s m args meth c cc nL own D (tyIZ cI cZ)) (X : Sx A D (wR a cI cZ σ) s H locs) {i x : Int32} (hi : vp_in i 8) (hd : decode cc pc = .ok (.iastore, 1)) (k : ∀ (H1 : Heap) (locs1 : List Loc), Sx A D (wR a cI cZ (r_key_s σ (upd (r_key σ) (ix i) x))) s H1 locs1 → W p l e R s m args below meth c H1 locs1 cells slots Q (F0 m (pc + 1) ls rest)) : W p l e R s m args below meth c H locs cells slots Q (F0 m pc ls (.int x :: .int i :: .ref (a 12) :: rest)) :=
  va_iast (f := r_key σ) C.1 C.2.1 C.2.2.2.2.2.1 X.1 X.2.1 X.2.2 12 0 rfl rfl hi hd (fun H1 locs1 hP hD hS => k H1 locs1 ⟨hP, hD, hS⟩)
theorem ra_value {σ : RSt} {own : String} (C : Cx p s m args meth c cc nL own D (tyIZ cI cZ)) (X : Sx A D (wR a cI cZ σ) s H locs) {i v : Int32} (hi : vp_in i 8) (hv : r_value σ (ix i) = v) (hd : decode cc pc = .ok (.iaload, 1)) (k : W p l e R s m args below meth c H locs cells slots Q (F0 m (pc + 1) ls (.int v :: rest))) : W p l e R s m args below meth c H locs cells slots Q (F0 m pc ls (.int i :: .ref (a 13) :: rest)) := by
  subst hv
  exact va_iald (f := r_value σ) C.1 C.2.1 C.2.2.2.2.2.1 X.1 13 0 rfl rfl hi hd k
theorem rs_value {σ : RSt} {own : String} (C : Cx p s m args meth c cc nL own D (tyIZ cI cZ)) (X : Sx A D (wR a cI cZ σ) s H locs) {i x : Int32} (hi : vp_in i 8) (hd : decode cc pc = .ok (.iastore, 1)) (k : ∀ (H1 : Heap) (locs1 : List Loc), Sx A D (wR a cI cZ (r_value_s σ (upd (r_value σ) (ix i) x))) s H1 locs1 → W p l e R s m args below meth c H1 locs1 cells slots Q (F0 m (pc + 1) ls rest)) : W p l e R s m args below meth c H locs cells slots Q (F0 m pc ls (.int x :: .int i :: .ref (a 13) :: rest)) :=
  va_iast (f := r_value σ) C.1 C.2.1 C.2.2.2.2.2.1 X.1 X.2.1 X.2.2 13 0 rfl rfl hi hd (fun H1 locs1 hP hD hS => k H1 locs1 ⟨hP, hD, hS⟩)
theorem ra_isPair {σ : RSt} {own : String} (C : Cx p s m args meth c cc nL own D (tyIZ cI cZ)) (X : Sx A D (wR a cI cZ σ) s H locs) {i v : Int32} (hi : vp_in i 8) (hv : r_isPair σ (ix i) = v) (hd : decode cc pc = .ok (.baload, 1)) (k : W p l e R s m args below meth c H locs cells slots Q (F0 m (pc + 1) ls (.int v :: rest))) : W p l e R s m args below meth c H locs cells slots Q (F0 m pc ls (.int i :: .ref (a 14) :: rest)) := by
  subst hv
  exact va_zald (f := r_isPair σ) C.1 C.2.1 C.2.2.2.2.2.1 X.1 14 1 rfl rfl hi hd k
theorem rs_isPair {σ : RSt} {own : String} (C : Cx p s m args meth c cc nL own D (tyIZ cI cZ)) (X : Sx A D (wR a cI cZ σ) s H locs) {i x x1 : Int32} (hi : vp_in i 8) (hx : vp_nar .boolean x = x1) (hd : decode cc pc = .ok (.bastore, 1)) (k : ∀ (H1 : Heap) (locs1 : List Loc), Sx A D (wR a cI cZ (r_isPair_s σ (upd (r_isPair σ) (ix i) x1))) s H1 locs1 → W p l e R s m args below meth c H1 locs1 cells slots Q (F0 m (pc + 1) ls rest)) : W p l e R s m args below meth c H locs cells slots Q (F0 m pc ls (.int x :: .int i :: .ref (a 14) :: rest)) := by
  subst hx
  exact va_zast (f := r_isPair σ) C.1 C.2.1 C.2.2.2.2.2.1 X.1 X.2.1 X.2.2 14 1 rfl rfl hi hd (fun H1 locs1 hP hD hS => k H1 locs1 ⟨hP, hD, hS⟩)
theorem ra_isReached {σ : RSt} {own : String} (C : Cx p s m args meth c cc nL own D (tyIZ cI cZ)) (X : Sx A D (wR a cI cZ σ) s H locs) {i v : Int32} (hi : vp_in i 120) (hv : r_isReached σ (ix i) = v) (hd : decode cc pc = .ok (.baload, 1)) (k : W p l e R s m args below meth c H locs cells slots Q (F0 m (pc + 1) ls (.int v :: rest))) : W p l e R s m args below meth c H locs cells slots Q (F0 m pc ls (.int i :: .ref (a 15) :: rest)) := by
  subst hv
  exact va_zald (f := r_isReached σ) C.1 C.2.1 C.2.2.2.2.2.1 X.1 15 1 rfl rfl hi hd k
theorem rs_isReached {σ : RSt} {own : String} (C : Cx p s m args meth c cc nL own D (tyIZ cI cZ)) (X : Sx A D (wR a cI cZ σ) s H locs) {i x x1 : Int32} (hi : vp_in i 120) (hx : vp_nar .boolean x = x1) (hd : decode cc pc = .ok (.bastore, 1)) (k : ∀ (H1 : Heap) (locs1 : List Loc), Sx A D (wR a cI cZ (r_isReached_s σ (upd (r_isReached σ) (ix i) x1))) s H1 locs1 → W p l e R s m args below meth c H1 locs1 cells slots Q (F0 m (pc + 1) ls rest)) : W p l e R s m args below meth c H locs cells slots Q (F0 m pc ls (.int x :: .int i :: .ref (a 15) :: rest)) := by
  subst hx
  exact va_zast (f := r_isReached σ) C.1 C.2.1 C.2.2.2.2.2.1 X.1 X.2.1 X.2.2 15 1 rfl rfl hi hd (fun H1 locs1 hP hD hS => k H1 locs1 ⟨hP, hD, hS⟩)
theorem ca_sizes {σ : CSt} {own : String} (C : Cx p s m args meth c cc nL own D (tyIZ cI cZ)) (X : Sx A D (wC a cI cZ σ) s H locs) {i v : Int32} (hi : vp_in i 120) (hv : c_sizes σ (ix i) = v) (hd : decode cc pc = .ok (.iaload, 1)) (k : W p l e R s m args below meth c H locs cells slots Q (F0 m (pc + 1) ls (.int v :: rest))) : W p l e R s m args below meth c H locs cells slots Q (F0 m pc ls (.int i :: .ref (a 6) :: rest)) := by
  subst hv
  exact va_iald (f := c_sizes σ) C.1 C.2.1 C.2.2.2.2.2.1 X.1 6 0 rfl rfl hi hd k
theorem cs_sizes {σ : CSt} {own : String} (C : Cx p s m args meth c cc nL own D (tyIZ cI cZ)) (X : Sx A D (wC a cI cZ σ) s H locs) {i x : Int32} (hi : vp_in i 120) (hd : decode cc pc = .ok (.iastore, 1)) (k : ∀ (H1 : Heap) (locs1 : List Loc), Sx A D (wC a cI cZ (c_sizes_s σ (upd (c_sizes σ) (ix i) x))) s H1 locs1 → W p l e R s m args below meth c H1 locs1 cells slots Q (F0 m (pc + 1) ls rest)) : W p l e R s m args below meth c H locs cells slots Q (F0 m pc ls (.int x :: .int i :: .ref (a 6) :: rest)) :=
  va_iast (f := c_sizes σ) C.1 C.2.1 C.2.2.2.2.2.1 X.1 X.2.1 X.2.2 6 0 rfl rfl hi hd (fun H1 locs1 hP hD hS => k H1 locs1 ⟨hP, hD, hS⟩)
theorem ca_places {σ : CSt} {own : String} (C : Cx p s m args meth c cc nL own D (tyIZ cI cZ)) (X : Sx A D (wC a cI cZ σ) s H locs) {i v : Int32} (hi : vp_in i 120) (hv : c_places σ (ix i) = v) (hd : decode cc pc = .ok (.iaload, 1)) (k : W p l e R s m args below meth c H locs cells slots Q (F0 m (pc + 1) ls (.int v :: rest))) : W p l e R s m args below meth c H locs cells slots Q (F0 m pc ls (.int i :: .ref (a 7) :: rest)) := by
  subst hv
  exact va_iald (f := c_places σ) C.1 C.2.1 C.2.2.2.2.2.1 X.1 7 0 rfl rfl hi hd k
theorem cs_places {σ : CSt} {own : String} (C : Cx p s m args meth c cc nL own D (tyIZ cI cZ)) (X : Sx A D (wC a cI cZ σ) s H locs) {i x : Int32} (hi : vp_in i 120) (hd : decode cc pc = .ok (.iastore, 1)) (k : ∀ (H1 : Heap) (locs1 : List Loc), Sx A D (wC a cI cZ (c_places_s σ (upd (c_places σ) (ix i) x))) s H1 locs1 → W p l e R s m args below meth c H1 locs1 cells slots Q (F0 m (pc + 1) ls rest)) : W p l e R s m args below meth c H locs cells slots Q (F0 m pc ls (.int x :: .int i :: .ref (a 7) :: rest)) :=
  va_iast (f := c_places σ) C.1 C.2.1 C.2.2.2.2.2.1 X.1 X.2.1 X.2.2 7 0 rfl rfl hi hd (fun H1 locs1 hP hD hS => k H1 locs1 ⟨hP, hD, hS⟩)
theorem ca_colours {σ : CSt} {own : String} (C : Cx p s m args meth c cc nL own D (tyIZ cI cZ)) (X : Sx A D (wC a cI cZ σ) s H locs) {i v : Int32} (hi : vp_in i 120) (hv : c_colours σ (ix i) = v) (hd : decode cc pc = .ok (.iaload, 1)) (k : W p l e R s m args below meth c H locs cells slots Q (F0 m (pc + 1) ls (.int v :: rest))) : W p l e R s m args below meth c H locs cells slots Q (F0 m pc ls (.int i :: .ref (a 8) :: rest)) := by
  subst hv
  exact va_iald (f := c_colours σ) C.1 C.2.1 C.2.2.2.2.2.1 X.1 8 0 rfl rfl hi hd k
theorem cs_colours {σ : CSt} {own : String} (C : Cx p s m args meth c cc nL own D (tyIZ cI cZ)) (X : Sx A D (wC a cI cZ σ) s H locs) {i x : Int32} (hi : vp_in i 120) (hd : decode cc pc = .ok (.iastore, 1)) (k : ∀ (H1 : Heap) (locs1 : List Loc), Sx A D (wC a cI cZ (c_colours_s σ (upd (c_colours σ) (ix i) x))) s H1 locs1 → W p l e R s m args below meth c H1 locs1 cells slots Q (F0 m (pc + 1) ls rest)) : W p l e R s m args below meth c H locs cells slots Q (F0 m pc ls (.int x :: .int i :: .ref (a 8) :: rest)) :=
  va_iast (f := c_colours σ) C.1 C.2.1 C.2.2.2.2.2.1 X.1 X.2.1 X.2.2 8 0 rfl rfl hi hd (fun H1 locs1 hP hD hS => k H1 locs1 ⟨hP, hD, hS⟩)
theorem ca_moves {σ : CSt} {own : String} (C : Cx p s m args meth c cc nL own D (tyIZ cI cZ)) (X : Sx A D (wC a cI cZ σ) s H locs) {i v : Int32} (hi : vp_in i 120) (hv : c_moves σ (ix i) = v) (hd : decode cc pc = .ok (.iaload, 1)) (k : W p l e R s m args below meth c H locs cells slots Q (F0 m (pc + 1) ls (.int v :: rest))) : W p l e R s m args below meth c H locs cells slots Q (F0 m pc ls (.int i :: .ref (a 9) :: rest)) := by
  subst hv
  exact va_iald (f := c_moves σ) C.1 C.2.1 C.2.2.2.2.2.1 X.1 9 0 rfl rfl hi hd k
theorem cs_moves {σ : CSt} {own : String} (C : Cx p s m args meth c cc nL own D (tyIZ cI cZ)) (X : Sx A D (wC a cI cZ σ) s H locs) {i x : Int32} (hi : vp_in i 120) (hd : decode cc pc = .ok (.iastore, 1)) (k : ∀ (H1 : Heap) (locs1 : List Loc), Sx A D (wC a cI cZ (c_moves_s σ (upd (c_moves σ) (ix i) x))) s H1 locs1 → W p l e R s m args below meth c H1 locs1 cells slots Q (F0 m (pc + 1) ls rest)) : W p l e R s m args below meth c H locs cells slots Q (F0 m pc ls (.int x :: .int i :: .ref (a 9) :: rest)) :=
  va_iast (f := c_moves σ) C.1 C.2.1 C.2.2.2.2.2.1 X.1 X.2.1 X.2.2 9 0 rfl rfl hi hd (fun H1 locs1 hP hD hS => k H1 locs1 ⟨hP, hD, hS⟩)
theorem ca_freed {σ : CSt} {own : String} (C : Cx p s m args meth c cc nL own D (tyIZ cI cZ)) (X : Sx A D (wC a cI cZ σ) s H locs) {i v : Int32} (hi : vp_in i 120) (hv : c_freed σ (ix i) = v) (hd : decode cc pc = .ok (.baload, 1)) (k : W p l e R s m args below meth c H locs cells slots Q (F0 m (pc + 1) ls (.int v :: rest))) : W p l e R s m args below meth c H locs cells slots Q (F0 m pc ls (.int i :: .ref (a 10) :: rest)) := by
  subst hv
  exact va_zald (f := c_freed σ) C.1 C.2.1 C.2.2.2.2.2.1 X.1 10 1 rfl rfl hi hd k
theorem cs_freed {σ : CSt} {own : String} (C : Cx p s m args meth c cc nL own D (tyIZ cI cZ)) (X : Sx A D (wC a cI cZ σ) s H locs) {i x x1 : Int32} (hi : vp_in i 120) (hx : vp_nar .boolean x = x1) (hd : decode cc pc = .ok (.bastore, 1)) (k : ∀ (H1 : Heap) (locs1 : List Loc), Sx A D (wC a cI cZ (c_freed_s σ (upd (c_freed σ) (ix i) x1))) s H1 locs1 → W p l e R s m args below meth c H1 locs1 cells slots Q (F0 m (pc + 1) ls rest)) : W p l e R s m args below meth c H locs cells slots Q (F0 m pc ls (.int x :: .int i :: .ref (a 10) :: rest)) := by
  subst hx
  exact va_zast (f := c_freed σ) C.1 C.2.1 C.2.2.2.2.2.1 X.1 X.2.1 X.2.2 10 1 rfl rfl hi hd (fun H1 locs1 hP hD hS => k H1 locs1 ⟨hP, hD, hS⟩)
theorem ca_wishing {σ : CSt} {own : String} (C : Cx p s m args meth c cc nL own D (tyIZ cI cZ)) (X : Sx A D (wC a cI cZ σ) s H locs) {i v : Int32} (hi : vp_in i 120) (hv : c_wishing σ (ix i) = v) (hd : decode cc pc = .ok (.baload, 1)) (k : W p l e R s m args below meth c H locs cells slots Q (F0 m (pc + 1) ls (.int v :: rest))) : W p l e R s m args below meth c H locs cells slots Q (F0 m pc ls (.int i :: .ref (a 11) :: rest)) := by
  subst hv
  exact va_zald (f := c_wishing σ) C.1 C.2.1 C.2.2.2.2.2.1 X.1 11 1 rfl rfl hi hd k
theorem cs_wishing {σ : CSt} {own : String} (C : Cx p s m args meth c cc nL own D (tyIZ cI cZ)) (X : Sx A D (wC a cI cZ σ) s H locs) {i x x1 : Int32} (hi : vp_in i 120) (hx : vp_nar .boolean x = x1) (hd : decode cc pc = .ok (.bastore, 1)) (k : ∀ (H1 : Heap) (locs1 : List Loc), Sx A D (wC a cI cZ (c_wishing_s σ (upd (c_wishing σ) (ix i) x1))) s H1 locs1 → W p l e R s m args below meth c H1 locs1 cells slots Q (F0 m (pc + 1) ls rest)) : W p l e R s m args below meth c H locs cells slots Q (F0 m pc ls (.int x :: .int i :: .ref (a 11) :: rest)) := by
  subst hx
  exact va_zast (f := c_wishing σ) C.1 C.2.1 C.2.2.2.2.2.1 X.1 X.2.1 X.2.2 11 1 rfl rfl hi hd (fun H1 locs1 hP hD hS => k H1 locs1 ⟨hP, hD, hS⟩)
theorem ca_theld {σ : CSt} {own : String} (C : Cx p s m args meth c cc nL own D (tyIZ cI cZ)) (X : Sx A D (wC a cI cZ σ) s H locs) {i v : Int32} (hi : vp_in i 720) (hv : c_theld σ (ix i) = v) (hd : decode cc pc = .ok (.iaload, 1)) (k : W p l e R s m args below meth c H locs cells slots Q (F0 m (pc + 1) ls (.int v :: rest))) : W p l e R s m args below meth c H locs cells slots Q (F0 m pc ls (.int i :: .ref (a 12) :: rest)) := by
  subst hv
  exact va_iald (f := c_theld σ) C.1 C.2.1 C.2.2.2.2.2.1 X.1 12 0 rfl rfl hi hd k
theorem cs_theld {σ : CSt} {own : String} (C : Cx p s m args meth c cc nL own D (tyIZ cI cZ)) (X : Sx A D (wC a cI cZ σ) s H locs) {i x : Int32} (hi : vp_in i 720) (hd : decode cc pc = .ok (.iastore, 1)) (k : ∀ (H1 : Heap) (locs1 : List Loc), Sx A D (wC a cI cZ (c_theld_s σ (upd (c_theld σ) (ix i) x))) s H1 locs1 → W p l e R s m args below meth c H1 locs1 cells slots Q (F0 m (pc + 1) ls rest)) : W p l e R s m args below meth c H locs cells slots Q (F0 m pc ls (.int x :: .int i :: .ref (a 12) :: rest)) :=
  va_iast (f := c_theld σ) C.1 C.2.1 C.2.2.2.2.2.1 X.1 X.2.1 X.2.2 12 0 rfl rfl hi hd (fun H1 locs1 hP hD hS => k H1 locs1 ⟨hP, hD, hS⟩)
theorem ca_cmap {σ : CSt} {own : String} (C : Cx p s m args meth c cc nL own D (tyIZ cI cZ)) (X : Sx A D (wC a cI cZ σ) s H locs) {i v : Int32} (hi : vp_in i 200) (hv : c_cmap σ (ix i) = v) (hd : decode cc pc = .ok (.iaload, 1)) (k : W p l e R s m args below meth c H locs cells slots Q (F0 m (pc + 1) ls (.int v :: rest))) : W p l e R s m args below meth c H locs cells slots Q (F0 m pc ls (.int i :: .ref (a 13) :: rest)) := by
  subst hv
  exact va_iald (f := c_cmap σ) C.1 C.2.1 C.2.2.2.2.2.1 X.1 13 0 rfl rfl hi hd k
theorem cs_cmap {σ : CSt} {own : String} (C : Cx p s m args meth c cc nL own D (tyIZ cI cZ)) (X : Sx A D (wC a cI cZ σ) s H locs) {i x : Int32} (hi : vp_in i 200) (hd : decode cc pc = .ok (.iastore, 1)) (k : ∀ (H1 : Heap) (locs1 : List Loc), Sx A D (wC a cI cZ (c_cmap_s σ (upd (c_cmap σ) (ix i) x))) s H1 locs1 → W p l e R s m args below meth c H1 locs1 cells slots Q (F0 m (pc + 1) ls rest)) : W p l e R s m args below meth c H locs cells slots Q (F0 m pc ls (.int x :: .int i :: .ref (a 13) :: rest)) :=
  va_iast (f := c_cmap σ) C.1 C.2.1 C.2.2.2.2.2.1 X.1 X.2.1 X.2.2 13 0 rfl rfl hi hd (fun H1 locs1 hP hD hS => k H1 locs1 ⟨hP, hD, hS⟩)
theorem ca_hheld {σ : CSt} {own : String} (C : Cx p s m args meth c cc nL own D (tyIZ cI cZ)) (X : Sx A D (wC a cI cZ σ) s H locs) {i v : Int32} (hi : vp_in i 136) (hv : c_hheld σ (ix i) = v) (hd : decode cc pc = .ok (.iaload, 1)) (k : W p l e R s m args below meth c H locs cells slots Q (F0 m (pc + 1) ls (.int v :: rest))) : W p l e R s m args below meth c H locs cells slots Q (F0 m pc ls (.int i :: .ref (a 14) :: rest)) := by
  subst hv
  exact va_iald (f := c_hheld σ) C.1 C.2.1 C.2.2.2.2.2.1 X.1 14 0 rfl rfl hi hd k
theorem cs_hheld {σ : CSt} {own : String} (C : Cx p s m args meth c cc nL own D (tyIZ cI cZ)) (X : Sx A D (wC a cI cZ σ) s H locs) {i x : Int32} (hi : vp_in i 136) (hd : decode cc pc = .ok (.iastore, 1)) (k : ∀ (H1 : Heap) (locs1 : List Loc), Sx A D (wC a cI cZ (c_hheld_s σ (upd (c_hheld σ) (ix i) x))) s H1 locs1 → W p l e R s m args below meth c H1 locs1 cells slots Q (F0 m (pc + 1) ls rest)) : W p l e R s m args below meth c H locs cells slots Q (F0 m pc ls (.int x :: .int i :: .ref (a 14) :: rest)) :=
  va_iast (f := c_hheld σ) C.1 C.2.1 C.2.2.2.2.2.1 X.1 X.2.1 X.2.2 14 0 rfl rfl hi hd (fun H1 locs1 hP hD hS => k H1 locs1 ⟨hP, hD, hS⟩)
theorem ca_named {σ : CSt} {own : String} (C : Cx p s m args meth c cc nL own D (tyIZ cI cZ)) (X : Sx A D (wC a cI cZ σ) s H locs) {i v : Int32} (hi : vp_in i 6) (hv : c_named σ (ix i) = v) (hd : decode cc pc = .ok (.iaload, 1)) (k : W p l e R s m args below meth c H locs cells slots Q (F0 m (pc + 1) ls (.int v :: rest))) : W p l e R s m args below meth c H locs cells slots Q (F0 m pc ls (.int i :: .ref (a 15) :: rest)) := by
  subst hv
  exact va_iald (f := c_named σ) C.1 C.2.1 C.2.2.2.2.2.1 X.1 15 0 rfl rfl hi hd k
theorem cs_named {σ : CSt} {own : String} (C : Cx p s m args meth c cc nL own D (tyIZ cI cZ)) (X : Sx A D (wC a cI cZ σ) s H locs) {i x : Int32} (hi : vp_in i 6) (hd : decode cc pc = .ok (.iastore, 1)) (k : ∀ (H1 : Heap) (locs1 : List Loc), Sx A D (wC a cI cZ (c_named_s σ (upd (c_named σ) (ix i) x))) s H1 locs1 → W p l e R s m args below meth c H1 locs1 cells slots Q (F0 m (pc + 1) ls rest)) : W p l e R s m args below meth c H locs cells slots Q (F0 m pc ls (.int x :: .int i :: .ref (a 15) :: rest)) :=
  va_iast (f := c_named σ) C.1 C.2.1 C.2.2.2.2.2.1 X.1 X.2.1 X.2.2 15 0 rfl rfl hi hd (fun H1 locs1 hP hD hS => k H1 locs1 ⟨hP, hD, hS⟩)
theorem ca_keys {σ : CSt} {own : String} (C : Cx p s m args meth c cc nL own D (tyIZ cI cZ)) (X : Sx A D (wC a cI cZ σ) s H locs) {i v : Int32} (hi : vp_in i 8) (hv : c_keys σ (ix i) = v) (hd : decode cc pc = .ok (.iaload, 1)) (k : W p l e R s m args below meth c H locs cells slots Q (F0 m (pc + 1) ls (.int v :: rest))) : W p l e R s m args below meth c H locs cells slots Q (F0 m pc ls (.int i :: .ref (a 16) :: rest)) := by
  subst hv
  exact va_iald (f := c_keys σ) C.1 C.2.1 C.2.2.2.2.2.1 X.1 16 0 rfl rfl hi hd k
theorem cs_keys {σ : CSt} {own : String} (C : Cx p s m args meth c cc nL own D (tyIZ cI cZ)) (X : Sx A D (wC a cI cZ σ) s H locs) {i x : Int32} (hi : vp_in i 8) (hd : decode cc pc = .ok (.iastore, 1)) (k : ∀ (H1 : Heap) (locs1 : List Loc), Sx A D (wC a cI cZ (c_keys_s σ (upd (c_keys σ) (ix i) x))) s H1 locs1 → W p l e R s m args below meth c H1 locs1 cells slots Q (F0 m (pc + 1) ls rest)) : W p l e R s m args below meth c H locs cells slots Q (F0 m pc ls (.int x :: .int i :: .ref (a 16) :: rest)) :=
  va_iast (f := c_keys σ) C.1 C.2.1 C.2.2.2.2.2.1 X.1 X.2.1 X.2.2 16 0 rfl rfl hi hd (fun H1 locs1 hP hD hS => k H1 locs1 ⟨hP, hD, hS⟩)
theorem ca_values {σ : CSt} {own : String} (C : Cx p s m args meth c cc nL own D (tyIZ cI cZ)) (X : Sx A D (wC a cI cZ σ) s H locs) {i v : Int32} (hi : vp_in i 8) (hv : c_values σ (ix i) = v) (hd : decode cc pc = .ok (.iaload, 1)) (k : W p l e R s m args below meth c H locs cells slots Q (F0 m (pc + 1) ls (.int v :: rest))) : W p l e R s m args below meth c H locs cells slots Q (F0 m pc ls (.int i :: .ref (a 17) :: rest)) := by
  subst hv
  exact va_iald (f := c_values σ) C.1 C.2.1 C.2.2.2.2.2.1 X.1 17 0 rfl rfl hi hd k
theorem cs_values {σ : CSt} {own : String} (C : Cx p s m args meth c cc nL own D (tyIZ cI cZ)) (X : Sx A D (wC a cI cZ σ) s H locs) {i x : Int32} (hi : vp_in i 8) (hd : decode cc pc = .ok (.iastore, 1)) (k : ∀ (H1 : Heap) (locs1 : List Loc), Sx A D (wC a cI cZ (c_values_s σ (upd (c_values σ) (ix i) x))) s H1 locs1 → W p l e R s m args below meth c H1 locs1 cells slots Q (F0 m (pc + 1) ls rest)) : W p l e R s m args below meth c H locs cells slots Q (F0 m pc ls (.int x :: .int i :: .ref (a 17) :: rest)) :=
  va_iast (f := c_values σ) C.1 C.2.1 C.2.2.2.2.2.1 X.1 X.2.1 X.2.2 17 0 rfl rfl hi hd (fun H1 locs1 hP hD hS => k H1 locs1 ⟨hP, hD, hS⟩)
theorem ca_found {σ : CSt} {own : String} (C : Cx p s m args meth c cc nL own D (tyIZ cI cZ)) (X : Sx A D (wC a cI cZ σ) s H locs) {i v : Int32} (hi : vp_in i 120) (hv : c_found σ (ix i) = v) (hd : decode cc pc = .ok (.baload, 1)) (k : W p l e R s m args below meth c H locs cells slots Q (F0 m (pc + 1) ls (.int v :: rest))) : W p l e R s m args below meth c H locs cells slots Q (F0 m pc ls (.int i :: .ref (a 18) :: rest)) := by
  subst hv
  exact va_zald (f := c_found σ) C.1 C.2.1 C.2.2.2.2.2.1 X.1 18 1 rfl rfl hi hd k
theorem cs_found {σ : CSt} {own : String} (C : Cx p s m args meth c cc nL own D (tyIZ cI cZ)) (X : Sx A D (wC a cI cZ σ) s H locs) {i x x1 : Int32} (hi : vp_in i 120) (hx : vp_nar .boolean x = x1) (hd : decode cc pc = .ok (.bastore, 1)) (k : ∀ (H1 : Heap) (locs1 : List Loc), Sx A D (wC a cI cZ (c_found_s σ (upd (c_found σ) (ix i) x1))) s H1 locs1 → W p l e R s m args below meth c H1 locs1 cells slots Q (F0 m (pc + 1) ls rest)) : W p l e R s m args below meth c H locs cells slots Q (F0 m pc ls (.int x :: .int i :: .ref (a 18) :: rest)) := by
  subst hx
  exact va_zast (f := c_found σ) C.1 C.2.1 C.2.2.2.2.2.1 X.1 X.2.1 X.2.2 18 1 rfl rfl hi hd (fun H1 locs1 hP hD hS => k H1 locs1 ⟨hP, hD, hS⟩)
theorem ca_order {σ : CSt} {own : String} (C : Cx p s m args meth c cc nL own D (tyIZ cI cZ)) (X : Sx A D (wC a cI cZ σ) s H locs) {i v : Int32} (hi : vp_in i 120) (hv : c_order σ (ix i) = v) (hd : decode cc pc = .ok (.iaload, 1)) (k : W p l e R s m args below meth c H locs cells slots Q (F0 m (pc + 1) ls (.int v :: rest))) : W p l e R s m args below meth c H locs cells slots Q (F0 m pc ls (.int i :: .ref (a 19) :: rest)) := by
  subst hv
  exact va_iald (f := c_order σ) C.1 C.2.1 C.2.2.2.2.2.1 X.1 19 0 rfl rfl hi hd k
theorem cs_order {σ : CSt} {own : String} (C : Cx p s m args meth c cc nL own D (tyIZ cI cZ)) (X : Sx A D (wC a cI cZ σ) s H locs) {i x : Int32} (hi : vp_in i 120) (hd : decode cc pc = .ok (.iastore, 1)) (k : ∀ (H1 : Heap) (locs1 : List Loc), Sx A D (wC a cI cZ (c_order_s σ (upd (c_order σ) (ix i) x))) s H1 locs1 → W p l e R s m args below meth c H1 locs1 cells slots Q (F0 m (pc + 1) ls rest)) : W p l e R s m args below meth c H locs cells slots Q (F0 m pc ls (.int x :: .int i :: .ref (a 19) :: rest)) :=
  va_iast (f := c_order σ) C.1 C.2.1 C.2.2.2.2.2.1 X.1 X.2.1 X.2.2 19 0 rfl rfl hi hd (fun H1 locs1 hP hD hS => k H1 locs1 ⟨hP, hD, hS⟩)
end BR
end
section
/-- loops whose counter goes up by one to a bound -/
theorem lp_z {B x : Int32} (h : (B.toInt - x.toInt).toNat = 0) (c : ¬ B ≤ x) : False := by
  rw [Int32.le_iff_toInt_le] at c
  omega
theorem lp_s {B x : Int32} {f : Nat} (h : (B.toInt - x.toInt).toNat = f + 1) (c : B ≤ x) : False := by
  rw [Int32.le_iff_toInt_le] at c
  omega
theorem i32_1 {x B : Int32} (h : x.toInt < B.toInt) : (x + 1).toInt = x.toInt + 1 := by
  have h1 : B.toInt < 2 ^ 31 := Int32.toInt_lt B
  have h2 : -2 ^ 31 ≤ x.toInt := Int32.le_toInt x
  rw [Int32.toInt_add]
  have h3 : (1 : Int32).toInt = 1 := rfl
  rw [h3]
  have : (x.toInt + 1).bmod (2 ^ 32) = x.toInt + 1 := Int.bmod_eq_of_le (by omega) (by omega)
  exact this
theorem lp_b {B x : Int32} {f : Nat} (h : (B.toInt - x.toInt).toNat = f + 1) : (B.toInt - (x + 1).toInt).toNat = f := by
  rw [i32_1 (B := B) (by omega)]
  omega
theorem lp_nn {B x : Int32} {f : Nat} (h0 : 0 ≤ x.toInt) (h : (B.toInt - x.toInt).toNat = f + 1) : 0 ≤ (x + 1).toInt := by
  rw [i32_1 (B := B) (by omega)]
  omega
theorem lp_in {B x : Int32} {f n : Nat} (h0 : 0 ≤ x.toInt) (h : (B.toInt - x.toInt).toNat = f + 1) (hB : B.toInt ≤ n) : vp_in x n := vp_in_iff.mpr ⟨h0, by omega⟩
theorem i32_lt {x y : Int32} (h : x < y) : x.toInt < y.toInt := Int32.lt_iff_toInt_lt.mp h
theorem i32_le {x y : Int32} (h : x ≤ y) : x.toInt ≤ y.toInt := Int32.le_iff_toInt_le.mp h
theorem i32_nlt {x y : Int32} (h : ¬ x < y) : y.toInt ≤ x.toInt := by
  rw [Int32.lt_iff_toInt_lt] at h
  omega
theorem i32_nle {x y : Int32} (h : ¬ x ≤ y) : y.toInt < x.toInt := by
  rw [Int32.le_iff_toInt_le] at h
  omega
theorem nar_b {x : Int32} (h : x = 0 ∨ x = 1) : narrow .boolean (.int x) = .int x := by
  rcases h with rfl | rfl <;> rfl
theorem vnar_b {x : Int32} (h : x = 0 ∨ x = 1) : vp_nar .boolean x = x := by
  rcases h with rfl | rfl <;> rfl
theorem pnX0 : plainName RX0 = true := by decide +kernel
theorem pnX1 : plainName RX1 = true := by decide +kernel
theorem pnX2 : plainName RX2 = true := by decide +kernel
theorem pnX3 : plainName RX3 = true := by decide +kernel
theorem pnX4 : plainName RX4 = true := by decide +kernel
theorem pnX5 : plainName RX5 = true := by decide +kernel
theorem pnX6 : plainName RX6 = true := by decide +kernel
theorem i32_ne {x y : Int32} (h : ¬ x = y) : ¬ x.toInt = y.toInt := fun e => h (Int32.toInt_inj.mp e)
theorem ix_mul6 {x i : Int32} (hx : vp_in x 120) (hi : vp_in i 6) : (x * 6 + i).toInt = x.toInt * 6 + i.toInt := by
  have h1 := vp_in_iff.mp hx
  have h2 := vp_in_iff.mp hi
  have q : (6 : Int32).toInt = 6 := rfl
  rw [Int32.toInt_add, Int32.toInt_mul, q]
  have e1 : (x.toInt * 6).bmod (2 ^ 32) = x.toInt * 6 := Int.bmod_eq_of_le (by omega) (by omega)
  rw [e1]
  exact Int.bmod_eq_of_le (by omega) (by omega)
theorem in_x6 {x i : Int32} (hx : vp_in x 120) (hi : vp_in i 6) : vp_in (x * 6 + i) 720 := by
  have h1 := vp_in_iff.mp hx
  have h2 := vp_in_iff.mp hi
  rw [vp_in_iff, ix_mul6 hx hi]
  omega
theorem in_6x {x i : Int32} (hx : vp_in x 120) (hi : vp_in i 6) : vp_in (6 * x + i) 720 := by
  rw [Int32.mul_comm 6 x]
  exact in_x6 hx hi
theorem i32_p {x : Int32} (h0 : 0 ≤ x.toInt) (h1 : 0 ≤ (x + 1).toInt) : (x + 1).toInt = x.toInt + 1 := by
  rcases Int.lt_or_le x.toInt (2 ^ 31 - 1) with h | h
  · rw [Int32.toInt_add]
    exact Int.bmod_eq_of_le (by have q : (1 : Int32).toInt = 1 := rfl; omega) (by have q : (1 : Int32).toInt = 1 := rfl; omega)
  · have h2 : x.toInt < 2 ^ 31 := Int32.toInt_lt x
    have e : x.toInt = 2147483647 := by omega
    have e2 : x = 2147483647 := Int32.toInt_inj.mp (e.trans rfl)
    subst e2
    exact absurd h1 (by decide)
theorem in_16 {w : Int32} (h : vp_in w 120) : vp_in (16 + w) 136 := by
  have h1 := vp_in_iff.mp h
  have q : (16 : Int32).toInt = 16 := rfl
  rw [vp_in_iff, Int32.toInt_add, q, Int.bmod_eq_of_le (by omega) (by omega)]
  omega
theorem V_in {x : Int32} {n : Nat} (h : x = -1 ∨ vp_in x n) (c : ¬ x = -1) : vp_in x n := h.resolve_left c
end
section
def fX4_isThing (σ : CSt) (x1 : Int32) : Int32 := (if x1 < (0 : Int32) then (0 : Int32) else (if (c_tmade σ) ≤ x1 then (0 : Int32) else (if (120 : Int32) ≤ x1 then (0 : Int32) else (1 : Int32))))
theorem hdX4_isThing : yX4_isThing.cls = RX4 ∧ yX4_isThing.cls ≠ "java/lang/invoke/MethodHandle" ∧ yX4_isThing.cls ≠ "java/lang/invoke/VarHandle" ∧ (parseMethodDescriptor yX4_isThing.desc).map (fun d => d.parameters.length) = some 1 := by decide +kernel
theorem bX4_isThing (σ : CSt) (x1 : Int32) : (fX4_isThing σ x1) = 0 ∨ (fX4_isThing σ x1) = 1 := by
  unfold fX4_isThing
  (repeat' split) <;> first | exact Or.inl rfl | exact Or.inr rfl
set_option maxHeartbeats 4000000 in
set_option maxRecDepth 100000 in
theorem kX4_isThing (l : Launch) (D : va_G) (a : Nat → Nat) (cI cZ : ClassId) (σ : CSt) (x1 : Int32) : CR l D (tyIZ cI cZ) (wC a cI cZ) yX4_isThing cX4_isThing 2 .boolean (rmk 0 0) [.ref (a 1), .int x1] σ (fX4_isThing σ x1) σ := by
  refine CR.of pnX4 ⟨rfl, rfl⟩ (Nat.le_of_ble_eq_true rfl) (nar_b (bX4_isThing σ x1)) (fun p e s m args below meth c A Q ls C X hA hl ret => ?_)
  have C : Cx p s m args meth c cX4_isThing 2 RX4 D (tyIZ cI cZ) := C
  have hx := C.1
  have hb := C.2.1
  have hl : lv_has ls 2 [(0, .ref (a 1)), (1, .int x1)] := hl
  refine lv_iload_n hx hb dX4_isThing_0 rfl (lv_at hl 1 rfl) ?_
  refine lv_if_lt (tgt := 22) hx hb dX4_isThing_1 (by decide) (fun c1 => ?_) (fun c1 => ?_)
  · refine lv_iconst (v := (0)) hx hb dX4_isThing_22 (by decide) ?_
    exact ret dX4_isThing_23 (congrArg (fun z => (z, _)) (Eq.symm (if_pos c1))) X
  · refine lv_iload_n hx hb dX4_isThing_4 rfl (lv_at hl 1 rfl) ?_
    refine lv_aload_n hx hb dX4_isThing_5 rfl (lv_at hl 0 rfl) ?_
    refine cg_X4_X4_made (v := (c_tmade σ)) C X rfl dX4_isThing_6 ?_
    refine lv_icmp_ge (tgt := 22) hx hb dX4_isThing_9 (by decide) (fun c9 => ?_) (fun c9 => ?_)
    · refine lv_iconst (v := (0)) hx hb dX4_isThing_22 (by decide) ?_
      exact ret dX4_isThing_23 (congrArg (fun z => (z, _)) (Eq.symm (Eq.trans (if_neg c1) (if_pos c9)))) X
    · refine lv_iload_n hx hb dX4_isThing_12 rfl (lv_at hl 1 rfl) ?_
      refine lv_bipush (v := (120)) hx hb dX4_isThing_13 (by decide) ?_
      refine lv_icmp_ge (tgt := 22) hx hb dX4_isThing_15 (by decide) (fun c15 => ?_) (fun c15 => ?_)
      · refine lv_iconst (v := (0)) hx hb dX4_isThing_22 (by decide) ?_
        exact ret dX4_isThing_23 (congrArg (fun z => (z, _)) (Eq.symm (Eq.trans (if_neg c1) (Eq.trans (if_neg c9) (if_pos c15))))) X
      · refine lv_iconst (v := (1)) hx hb dX4_isThing_18 (by decide) ?_
        refine lv_goto (tgt := 23) hx hb dX4_isThing_19 (by decide) ?_
        exact ret dX4_isThing_23 (congrArg (fun z => (z, _)) (Eq.symm (Eq.trans (if_neg c1) (Eq.trans (if_neg c9) (if_neg c15))))) X
theorem in_isThing {σ : CSt} {x : Int32} (h : ¬ fX4_isThing σ x = 0) : vp_in x 120 := by
  unfold fX4_isThing at h
  split at h
  · exact absurd rfl h
  · split at h
    · exact absurd rfl h
    · split at h
      · exact absurd rfl h
      · rename_i h1 h2 h3
        exact vp_in_iff.mpr (by have a1 := i32_nlt h1; have a3 := i32_nle h3; have q : (120 : Int32).toInt = 120 := rfl; have q2 : (0 : Int32).toInt = 0 := rfl; omega)

def fX4_sizeOf (σ : CSt) (x1 : Int32) : Int32 := (if (fX4_isThing σ x1) = (0 : Int32) then (0 : Int32) else ((c_sizes σ) (ix x1)))
theorem hdX4_sizeOf : yX4_sizeOf.cls = RX4 ∧ yX4_sizeOf.cls ≠ "java/lang/invoke/MethodHandle" ∧ yX4_sizeOf.cls ≠ "java/lang/invoke/VarHandle" ∧ (parseMethodDescriptor yX4_sizeOf.desc).map (fun d => d.parameters.length) = some 1 := by decide +kernel
set_option maxHeartbeats 4000000 in
set_option maxRecDepth 100000 in
theorem kX4_sizeOf (l : Launch) (D : va_G) (a : Nat → Nat) (cI cZ : ClassId) (σ : CSt) (x1 : Int32) : CR l D (tyIZ cI cZ) (wC a cI cZ) yX4_sizeOf cX4_sizeOf 2 .int (rmk 1 21) [.ref (a 1), .int x1] σ (fX4_sizeOf σ x1) σ := by
  refine CR.of pnX4 ⟨rfl, rfl⟩ (Nat.le_of_ble_eq_true rfl) rfl (fun p e s m args below meth c A Q ls C X hA hl ret => ?_)
  have C : Cx p s m args meth c cX4_sizeOf 2 RX4 D (tyIZ cI cZ) := C
  have hx := C.1
  have hb := C.2.1
  have hl : lv_has ls 2 [(0, .ref (a 1)), (1, .int x1)] := hl
  refine lv_aload_n hx hb dX4_sizeOf_0 rfl (lv_at hl 0 rfl) ?_
  refine lv_iload_n hx hb dX4_sizeOf_1 rfl (lv_at hl 1 rfl) ?_
  refine callVR (rest := []) C hA (wC_sh a cI cZ) X (kX4_isThing l D a cI cZ _ x1) (cwV 1 C.2.2.2.2.1 (gV wl_X4_38 wt_yX4_isThing ws_yX4_isThing wi_X4 wk_yX4_isThing) rfl rfl rfl hdX4_isThing ⟨Nat.le_of_ble_eq_true rfl, Nat.le_of_ble_eq_true rfl⟩) (ci := 4) (q0 := 1) rfl rfl rfl hl.1 rfl (Nat.le_of_ble_eq_true rfl) dX4_sizeOf_2 ⟨Nat.le_refl 0, Nat.le_refl 0⟩ (fun H locs X => ?_)
  refine lv_if_eq (tgt := 17) hx hb dX4_sizeOf_5 (by decide) (fun c5 => ?_) (fun c5 => ?_)
  · refine lv_iconst (v := (0)) hx hb dX4_sizeOf_17 (by decide) ?_
    exact ret dX4_sizeOf_18 (congrArg (fun z => (z, _)) (Eq.symm (if_pos c5))) X
  · refine lv_aload_n hx hb dX4_sizeOf_8 rfl (lv_at hl 0 rfl) ?_
    refine cg_X4_X4_sizes C X dX4_sizeOf_9 ?_
    refine lv_iload_n hx hb dX4_sizeOf_12 rfl (lv_at hl 1 rfl) ?_
    refine ca_sizes (v := ((c_sizes σ) (ix x1))) C X (in_isThing c5) rfl dX4_sizeOf_13 ?_
    refine lv_goto (tgt := 18) hx hb dX4_sizeOf_14 (by decide) ?_
    exact ret dX4_sizeOf_18 (congrArg (fun z => (z, _)) (Eq.symm (if_neg c5))) X
def fX4_fieldsOf (σ : CSt) (x1 : Int32) : Int32 := (if (fX4_isThing σ x1) = (0 : Int32) then (0 : Int32) else (((c_sizes σ) (ix x1)) - (1 : Int32)))
theorem hdX4_fieldsOf : yX4_fieldsOf.cls = RX4 ∧ yX4_fieldsOf.cls ≠ "java/lang/invoke/MethodHandle" ∧ yX4_fieldsOf.cls ≠ "java/lang/invoke/VarHandle" ∧ (parseMethodDescriptor yX4_fieldsOf.desc).map (fun d => d.parameters.length) = some 1 := by decide +kernel
set_option maxHeartbeats 4000000 in
set_option maxRecDepth 100000 in
theorem kX4_fieldsOf (l : Launch) (D : va_G) (a : Nat → Nat) (cI cZ : ClassId) (σ : CSt) (x1 : Int32) : CR l D (tyIZ cI cZ) (wC a cI cZ) yX4_fieldsOf cX4_fieldsOf 2 .int (rmk 1 21) [.ref (a 1), .int x1] σ (fX4_fieldsOf σ x1) σ := by
  refine CR.of pnX4 ⟨rfl, rfl⟩ (Nat.le_of_ble_eq_true rfl) rfl (fun p e s m args below meth c A Q ls C X hA hl ret => ?_)
  have C : Cx p s m args meth c cX4_fieldsOf 2 RX4 D (tyIZ cI cZ) := C
  have hx := C.1
  have hb := C.2.1
  have hl : lv_has ls 2 [(0, .ref (a 1)), (1, .int x1)] := hl
  refine lv_aload_n hx hb dX4_fieldsOf_0 rfl (lv_at hl 0 rfl) ?_
  refine lv_iload_n hx hb dX4_fieldsOf_1 rfl (lv_at hl 1 rfl) ?_
  refine callVR (rest := []) C hA (wC_sh a cI cZ) X (kX4_isThing l D a cI cZ _ x1) (cwV 1 C.2.2.2.2.1 (gV wl_X4_38 wt_yX4_isThing ws_yX4_isThing wi_X4 wk_yX4_isThing) rfl rfl rfl hdX4_isThing ⟨Nat.le_of_ble_eq_true rfl, Nat.le_of_ble_eq_true rfl⟩) (ci := 4) (q0 := 1) rfl rfl rfl hl.1 rfl (Nat.le_of_ble_eq_true rfl) dX4_fieldsOf_2 ⟨Nat.le_refl 0, Nat.le_refl 0⟩ (fun H locs X => ?_)
  refine lv_if_eq (tgt := 19) hx hb dX4_fieldsOf_5 (by decide) (fun c5 => ?_) (fun c5 => ?_)
  · refine lv_iconst (v := (0)) hx hb dX4_fieldsOf_19 (by decide) ?_
    exact ret dX4_fieldsOf_20 (congrArg (fun z => (z, _)) (Eq.symm (if_pos c5))) X
  · refine lv_aload_n hx hb dX4_fieldsOf_8 rfl (lv_at hl 0 rfl) ?_
    refine cg_X4_X4_sizes C X dX4_fieldsOf_9 ?_
    refine lv_iload_n hx hb dX4_fieldsOf_12 rfl (lv_at hl 1 rfl) ?_
    refine ca_sizes (v := ((c_sizes σ) (ix x1))) C X (in_isThing c5) rfl dX4_fieldsOf_13 ?_
    refine lv_iconst (v := (1)) hx hb dX4_fieldsOf_14 (by decide) ?_
    refine lv_isub hx hb dX4_fieldsOf_15 ?_
    refine lv_goto (tgt := 20) hx hb dX4_fieldsOf_16 (by decide) ?_
    exact ret dX4_fieldsOf_20 (congrArg (fun z => (z, _)) (Eq.symm (if_neg c5))) X
def fX4_placeOf (σ : CSt) (x1 : Int32) : Int32 := (if (fX4_isThing σ x1) = (0 : Int32) then (-1 : Int32) else ((c_places σ) (ix x1)))
theorem hdX4_placeOf : yX4_placeOf.cls = RX4 ∧ yX4_placeOf.cls ≠ "java/lang/invoke/MethodHandle" ∧ yX4_placeOf.cls ≠ "java/lang/invoke/VarHandle" ∧ (parseMethodDescriptor yX4_placeOf.desc).map (fun d => d.parameters.length) = some 1 := by decide +kernel
set_option maxHeartbeats 4000000 in
set_option maxRecDepth 100000 in
theorem kX4_placeOf (l : Launch) (D : va_G) (a : Nat → Nat) (cI cZ : ClassId) (σ : CSt) (x1 : Int32) : CR l D (tyIZ cI cZ) (wC a cI cZ) yX4_placeOf cX4_placeOf 2 .int (rmk 1 21) [.ref (a 1), .int x1] σ (fX4_placeOf σ x1) σ := by
  refine CR.of pnX4 ⟨rfl, rfl⟩ (Nat.le_of_ble_eq_true rfl) rfl (fun p e s m args below meth c A Q ls C X hA hl ret => ?_)
  have C : Cx p s m args meth c cX4_placeOf 2 RX4 D (tyIZ cI cZ) := C
  have hx := C.1
  have hb := C.2.1
  have hl : lv_has ls 2 [(0, .ref (a 1)), (1, .int x1)] := hl
  refine lv_aload_n hx hb dX4_placeOf_0 rfl (lv_at hl 0 rfl) ?_
  refine lv_iload_n hx hb dX4_placeOf_1 rfl (lv_at hl 1 rfl) ?_
  refine callVR (rest := []) C hA (wC_sh a cI cZ) X (kX4_isThing l D a cI cZ _ x1) (cwV 1 C.2.2.2.2.1 (gV wl_X4_38 wt_yX4_isThing ws_yX4_isThing wi_X4 wk_yX4_isThing) rfl rfl rfl hdX4_isThing ⟨Nat.le_of_ble_eq_true rfl, Nat.le_of_ble_eq_true rfl⟩) (ci := 4) (q0 := 1) rfl rfl rfl hl.1 rfl (Nat.le_of_ble_eq_true rfl) dX4_placeOf_2 ⟨Nat.le_refl 0, Nat.le_refl 0⟩ (fun H locs X => ?_)
  refine lv_if_eq (tgt := 17) hx hb dX4_placeOf_5 (by decide) (fun c5 => ?_) (fun c5 => ?_)
  · refine lv_iconst (v := (-1)) hx hb dX4_placeOf_17 (by decide) ?_
    exact ret dX4_placeOf_18 (congrArg (fun z => (z, _)) (Eq.symm (if_pos c5))) X
  · refine lv_aload_n hx hb dX4_placeOf_8 rfl (lv_at hl 0 rfl) ?_
    refine cg_X4_X4_places C X dX4_placeOf_9 ?_
    refine lv_iload_n hx hb dX4_placeOf_12 rfl (lv_at hl 1 rfl) ?_
    refine ca_places (v := ((c_places σ) (ix x1))) C X (in_isThing c5) rfl dX4_placeOf_13 ?_
    refine lv_goto (tgt := 18) hx hb dX4_placeOf_14 (by decide) ?_
    exact ret dX4_placeOf_18 (congrArg (fun z => (z, _)) (Eq.symm (if_neg c5))) X
def fX4_colourOf (σ : CSt) (x1 : Int32) : Int32 := (if (fX4_isThing σ x1) = (0 : Int32) then (-1 : Int32) else ((c_colours σ) (ix x1)))
theorem hdX4_colourOf : yX4_colourOf.cls = RX4 ∧ yX4_colourOf.cls ≠ "java/lang/invoke/MethodHandle" ∧ yX4_colourOf.cls ≠ "java/lang/invoke/VarHandle" ∧ (parseMethodDescriptor yX4_colourOf.desc).map (fun d => d.parameters.length) = some 1 := by decide +kernel
set_option maxHeartbeats 4000000 in
set_option maxRecDepth 100000 in
theorem kX4_colourOf (l : Launch) (D : va_G) (a : Nat → Nat) (cI cZ : ClassId) (σ : CSt) (x1 : Int32) : CR l D (tyIZ cI cZ) (wC a cI cZ) yX4_colourOf cX4_colourOf 2 .int (rmk 1 21) [.ref (a 1), .int x1] σ (fX4_colourOf σ x1) σ := by
  refine CR.of pnX4 ⟨rfl, rfl⟩ (Nat.le_of_ble_eq_true rfl) rfl (fun p e s m args below meth c A Q ls C X hA hl ret => ?_)
  have C : Cx p s m args meth c cX4_colourOf 2 RX4 D (tyIZ cI cZ) := C
  have hx := C.1
  have hb := C.2.1
  have hl : lv_has ls 2 [(0, .ref (a 1)), (1, .int x1)] := hl
  refine lv_aload_n hx hb dX4_colourOf_0 rfl (lv_at hl 0 rfl) ?_
  refine lv_iload_n hx hb dX4_colourOf_1 rfl (lv_at hl 1 rfl) ?_
  refine callVR (rest := []) C hA (wC_sh a cI cZ) X (kX4_isThing l D a cI cZ _ x1) (cwV 1 C.2.2.2.2.1 (gV wl_X4_38 wt_yX4_isThing ws_yX4_isThing wi_X4 wk_yX4_isThing) rfl rfl rfl hdX4_isThing ⟨Nat.le_of_ble_eq_true rfl, Nat.le_of_ble_eq_true rfl⟩) (ci := 4) (q0 := 1) rfl rfl rfl hl.1 rfl (Nat.le_of_ble_eq_true rfl) dX4_colourOf_2 ⟨Nat.le_refl 0, Nat.le_refl 0⟩ (fun H locs X => ?_)
  refine lv_if_eq (tgt := 17) hx hb dX4_colourOf_5 (by decide) (fun c5 => ?_) (fun c5 => ?_)
  · refine lv_iconst (v := (-1)) hx hb dX4_colourOf_17 (by decide) ?_
    exact ret dX4_colourOf_18 (congrArg (fun z => (z, _)) (Eq.symm (if_pos c5))) X
  · refine lv_aload_n hx hb dX4_colourOf_8 rfl (lv_at hl 0 rfl) ?_
    refine cg_X4_X4_colours C X dX4_colourOf_9 ?_
    refine lv_iload_n hx hb dX4_colourOf_12 rfl (lv_at hl 1 rfl) ?_
    refine ca_colours (v := ((c_colours σ) (ix x1))) C X (in_isThing c5) rfl dX4_colourOf_13 ?_
    refine lv_goto (tgt := 18) hx hb dX4_colourOf_14 (by decide) ?_
    exact ret dX4_colourOf_18 (congrArg (fun z => (z, _)) (Eq.symm (if_neg c5))) X
def fX4_movesOf (σ : CSt) (x1 : Int32) : Int32 := (if (fX4_isThing σ x1) = (0 : Int32) then (0 : Int32) else ((c_moves σ) (ix x1)))
theorem hdX4_movesOf : yX4_movesOf.cls = RX4 ∧ yX4_movesOf.cls ≠ "java/lang/invoke/MethodHandle" ∧ yX4_movesOf.cls ≠ "java/lang/invoke/VarHandle" ∧ (parseMethodDescriptor yX4_movesOf.desc).map (fun d => d.parameters.length) = some 1 := by decide +kernel
set_option maxHeartbeats 4000000 in
set_option maxRecDepth 100000 in
theorem kX4_movesOf (l : Launch) (D : va_G) (a : Nat → Nat) (cI cZ : ClassId) (σ : CSt) (x1 : Int32) : CR l D (tyIZ cI cZ) (wC a cI cZ) yX4_movesOf cX4_movesOf 2 .int (rmk 1 21) [.ref (a 1), .int x1] σ (fX4_movesOf σ x1) σ := by
  refine CR.of pnX4 ⟨rfl, rfl⟩ (Nat.le_of_ble_eq_true rfl) rfl (fun p e s m args below meth c A Q ls C X hA hl ret => ?_)
  have C : Cx p s m args meth c cX4_movesOf 2 RX4 D (tyIZ cI cZ) := C
  have hx := C.1
  have hb := C.2.1
  have hl : lv_has ls 2 [(0, .ref (a 1)), (1, .int x1)] := hl
  refine lv_aload_n hx hb dX4_movesOf_0 rfl (lv_at hl 0 rfl) ?_
  refine lv_iload_n hx hb dX4_movesOf_1 rfl (lv_at hl 1 rfl) ?_
  refine callVR (rest := []) C hA (wC_sh a cI cZ) X (kX4_isThing l D a cI cZ _ x1) (cwV 1 C.2.2.2.2.1 (gV wl_X4_38 wt_yX4_isThing ws_yX4_isThing wi_X4 wk_yX4_isThing) rfl rfl rfl hdX4_isThing ⟨Nat.le_of_ble_eq_true rfl, Nat.le_of_ble_eq_true rfl⟩) (ci := 4) (q0 := 1) rfl rfl rfl hl.1 rfl (Nat.le_of_ble_eq_true rfl) dX4_movesOf_2 ⟨Nat.le_refl 0, Nat.le_refl 0⟩ (fun H locs X => ?_)
  refine lv_if_eq (tgt := 17) hx hb dX4_movesOf_5 (by decide) (fun c5 => ?_) (fun c5 => ?_)
  · refine lv_iconst (v := (0)) hx hb dX4_movesOf_17 (by decide) ?_
    exact ret dX4_movesOf_18 (congrArg (fun z => (z, _)) (Eq.symm (if_pos c5))) X
  · refine lv_aload_n hx hb dX4_movesOf_8 rfl (lv_at hl 0 rfl) ?_
    refine cg_X4_X4_moves C X dX4_movesOf_9 ?_
    refine lv_iload_n hx hb dX4_movesOf_12 rfl (lv_at hl 1 rfl) ?_
    refine ca_moves (v := ((c_moves σ) (ix x1))) C X (in_isThing c5) rfl dX4_movesOf_13 ?_
    refine lv_goto (tgt := 18) hx hb dX4_movesOf_14 (by decide) ?_
    exact ret dX4_movesOf_18 (congrArg (fun z => (z, _)) (Eq.symm (if_neg c5))) X
def fX4_isWhite (σ : CSt) (x1 : Int32) : Int32 := (if (fX4_isThing σ x1) = (0 : Int32) then (0 : Int32) else (if ((c_colours σ) (ix x1)) = (0 : Int32) then (1 : Int32) else (0 : Int32)))
theorem hdX4_isWhite : yX4_isWhite.cls = RX4 ∧ yX4_isWhite.cls ≠ "java/lang/invoke/MethodHandle" ∧ yX4_isWhite.cls ≠ "java/lang/invoke/VarHandle" ∧ (parseMethodDescriptor yX4_isWhite.desc).map (fun d => d.parameters.length) = some 1 := by decide +kernel
theorem bX4_isWhite (σ : CSt) (x1 : Int32) : (fX4_isWhite σ x1) = 0 ∨ (fX4_isWhite σ x1) = 1 := by
  unfold fX4_isWhite
  (repeat' split) <;> first | exact Or.inl rfl | exact Or.inr rfl
set_option maxHeartbeats 4000000 in
set_option maxRecDepth 100000 in
theorem kX4_isWhite (l : Launch) (D : va_G) (a : Nat → Nat) (cI cZ : ClassId) (σ : CSt) (x1 : Int32) : CR l D (tyIZ cI cZ) (wC a cI cZ) yX4_isWhite cX4_isWhite 2 .boolean (rmk 1 21) [.ref (a 1), .int x1] σ (fX4_isWhite σ x1) σ := by
  refine CR.of pnX4 ⟨rfl, rfl⟩ (Nat.le_of_ble_eq_true rfl) (nar_b (bX4_isWhite σ x1)) (fun p e s m args below meth c A Q ls C X hA hl ret => ?_)
  have C : Cx p s m args meth c cX4_isWhite 2 RX4 D (tyIZ cI cZ) := C
  have hx := C.1
  have hb := C.2.1
  have hl : lv_has ls 2 [(0, .ref (a 1)), (1, .int x1)] := hl
  refine lv_aload_n hx hb dX4_isWhite_0 rfl (lv_at hl 0 rfl) ?_
  refine lv_iload_n hx hb dX4_isWhite_1 rfl (lv_at hl 1 rfl) ?_
  refine callVR (rest := []) C hA (wC_sh a cI cZ) X (kX4_isThing l D a cI cZ _ x1) (cwV 1 C.2.2.2.2.1 (gV wl_X4_38 wt_yX4_isThing ws_yX4_isThing wi_X4 wk_yX4_isThing) rfl rfl rfl hdX4_isThing ⟨Nat.le_of_ble_eq_true rfl, Nat.le_of_ble_eq_true rfl⟩) (ci := 4) (q0 := 1) rfl rfl rfl hl.1 rfl (Nat.le_of_ble_eq_true rfl) dX4_isWhite_2 ⟨Nat.le_refl 0, Nat.le_refl 0⟩ (fun H locs X => ?_)
  refine lv_if_eq (tgt := 21) hx hb dX4_isWhite_5 (by decide) (fun c5 => ?_) (fun c5 => ?_)
  · refine lv_iconst (v := (0)) hx hb dX4_isWhite_21 (by decide) ?_
    exact ret dX4_isWhite_22 (congrArg (fun z => (z, _)) (Eq.symm (if_pos c5))) X
  · refine lv_aload_n hx hb dX4_isWhite_8 rfl (lv_at hl 0 rfl) ?_
    refine cg_X4_X4_colours C X dX4_isWhite_9 ?_
    refine lv_iload_n hx hb dX4_isWhite_12 rfl (lv_at hl 1 rfl) ?_
    refine ca_colours (v := ((c_colours σ) (ix x1))) C X (in_isThing c5) rfl dX4_isWhite_13 ?_
    refine lv_if_ne (tgt := 21) hx hb dX4_isWhite_14 (by decide) (fun c14 => ?_) (fun c14 => ?_)
    · refine lv_iconst (v := (0)) hx hb dX4_isWhite_21 (by decide) ?_
      exact ret dX4_isWhite_22 (congrArg (fun z => (z, _)) (Eq.symm (Eq.trans (if_neg c5) (if_neg c14)))) X
    · refine lv_iconst (v := (1)) hx hb dX4_isWhite_17 (by decide) ?_
      refine lv_goto (tgt := 22) hx hb dX4_isWhite_18 (by decide) ?_
      exact ret dX4_isWhite_22 (congrArg (fun z => (z, _)) (Eq.symm (Eq.trans (if_neg c5) (if_pos c14)))) X
def fX4_isFreed (σ : CSt) (x1 : Int32) : Int32 := (if (fX4_isThing σ x1) = (0 : Int32) then (0 : Int32) else (if ((c_freed σ) (ix x1)) = (0 : Int32) then (0 : Int32) else (1 : Int32)))
theorem hdX4_isFreed : yX4_isFreed.cls = RX4 ∧ yX4_isFreed.cls ≠ "java/lang/invoke/MethodHandle" ∧ yX4_isFreed.cls ≠ "java/lang/invoke/VarHandle" ∧ (parseMethodDescriptor yX4_isFreed.desc).map (fun d => d.parameters.length) = some 1 := by decide +kernel
theorem bX4_isFreed (σ : CSt) (x1 : Int32) : (fX4_isFreed σ x1) = 0 ∨ (fX4_isFreed σ x1) = 1 := by
  unfold fX4_isFreed
  (repeat' split) <;> first | exact Or.inl rfl | exact Or.inr rfl
set_option maxHeartbeats 4000000 in
set_option maxRecDepth 100000 in
theorem kX4_isFreed (l : Launch) (D : va_G) (a : Nat → Nat) (cI cZ : ClassId) (σ : CSt) (x1 : Int32) : CR l D (tyIZ cI cZ) (wC a cI cZ) yX4_isFreed cX4_isFreed 2 .boolean (rmk 1 21) [.ref (a 1), .int x1] σ (fX4_isFreed σ x1) σ := by
  refine CR.of pnX4 ⟨rfl, rfl⟩ (Nat.le_of_ble_eq_true rfl) (nar_b (bX4_isFreed σ x1)) (fun p e s m args below meth c A Q ls C X hA hl ret => ?_)
  have C : Cx p s m args meth c cX4_isFreed 2 RX4 D (tyIZ cI cZ) := C
  have hx := C.1
  have hb := C.2.1
  have hl : lv_has ls 2 [(0, .ref (a 1)), (1, .int x1)] := hl
  refine lv_aload_n hx hb dX4_isFreed_0 rfl (lv_at hl 0 rfl) ?_
  refine lv_iload_n hx hb dX4_isFreed_1 rfl (lv_at hl 1 rfl) ?_
  refine callVR (rest := []) C hA (wC_sh a cI cZ) X (kX4_isThing l D a cI cZ _ x1) (cwV 1 C.2.2.2.2.1 (gV wl_X4_38 wt_yX4_isThing ws_yX4_isThing wi_X4 wk_yX4_isThing) rfl rfl rfl hdX4_isThing ⟨Nat.le_of_ble_eq_true rfl, Nat.le_of_ble_eq_true rfl⟩) (ci := 4) (q0 := 1) rfl rfl rfl hl.1 rfl (Nat.le_of_ble_eq_true rfl) dX4_isFreed_2 ⟨Nat.le_refl 0, Nat.le_refl 0⟩ (fun H locs X => ?_)
  refine lv_if_eq (tgt := 21) hx hb dX4_isFreed_5 (by decide) (fun c5 => ?_) (fun c5 => ?_)
  · refine lv_iconst (v := (0)) hx hb dX4_isFreed_21 (by decide) ?_
    exact ret dX4_isFreed_22 (congrArg (fun z => (z, _)) (Eq.symm (if_pos c5))) X
  · refine lv_aload_n hx hb dX4_isFreed_8 rfl (lv_at hl 0 rfl) ?_
    refine cg_X4_X4_freed C X dX4_isFreed_9 ?_
    refine lv_iload_n hx hb dX4_isFreed_12 rfl (lv_at hl 1 rfl) ?_
    refine ca_freed (v := ((c_freed σ) (ix x1))) C X (in_isThing c5) rfl dX4_isFreed_13 ?_
    refine lv_if_eq (tgt := 21) hx hb dX4_isFreed_14 (by decide) (fun c14 => ?_) (fun c14 => ?_)
    · refine lv_iconst (v := (0)) hx hb dX4_isFreed_21 (by decide) ?_
      exact ret dX4_isFreed_22 (congrArg (fun z => (z, _)) (Eq.symm (Eq.trans (if_neg c5) (if_pos c14)))) X
    · refine lv_iconst (v := (1)) hx hb dX4_isFreed_17 (by decide) ?_
      refine lv_goto (tgt := 22) hx hb dX4_isFreed_18 (by decide) ?_
      exact ret dX4_isFreed_22 (congrArg (fun z => (z, _)) (Eq.symm (Eq.trans (if_neg c5) (if_neg c14)))) X
def fX4_hasWish (σ : CSt) (x1 : Int32) : Int32 := (if (fX4_isThing σ x1) = (0 : Int32) then (0 : Int32) else (if ((c_wishing σ) (ix x1)) = (0 : Int32) then (0 : Int32) else (1 : Int32)))
theorem hdX4_hasWish : yX4_hasWish.cls = RX4 ∧ yX4_hasWish.cls ≠ "java/lang/invoke/MethodHandle" ∧ yX4_hasWish.cls ≠ "java/lang/invoke/VarHandle" ∧ (parseMethodDescriptor yX4_hasWish.desc).map (fun d => d.parameters.length) = some 1 := by decide +kernel
theorem bX4_hasWish (σ : CSt) (x1 : Int32) : (fX4_hasWish σ x1) = 0 ∨ (fX4_hasWish σ x1) = 1 := by
  unfold fX4_hasWish
  (repeat' split) <;> first | exact Or.inl rfl | exact Or.inr rfl
set_option maxHeartbeats 4000000 in
set_option maxRecDepth 100000 in
theorem kX4_hasWish (l : Launch) (D : va_G) (a : Nat → Nat) (cI cZ : ClassId) (σ : CSt) (x1 : Int32) : CR l D (tyIZ cI cZ) (wC a cI cZ) yX4_hasWish cX4_hasWish 2 .boolean (rmk 1 21) [.ref (a 1), .int x1] σ (fX4_hasWish σ x1) σ := by
  refine CR.of pnX4 ⟨rfl, rfl⟩ (Nat.le_of_ble_eq_true rfl) (nar_b (bX4_hasWish σ x1)) (fun p e s m args below meth c A Q ls C X hA hl ret => ?_)
  have C : Cx p s m args meth c cX4_hasWish 2 RX4 D (tyIZ cI cZ) := C
  have hx := C.1
  have hb := C.2.1
  have hl : lv_has ls 2 [(0, .ref (a 1)), (1, .int x1)] := hl
  refine lv_aload_n hx hb dX4_hasWish_0 rfl (lv_at hl 0 rfl) ?_
  refine lv_iload_n hx hb dX4_hasWish_1 rfl (lv_at hl 1 rfl) ?_
  refine callVR (rest := []) C hA (wC_sh a cI cZ) X (kX4_isThing l D a cI cZ _ x1) (cwV 1 C.2.2.2.2.1 (gV wl_X4_38 wt_yX4_isThing ws_yX4_isThing wi_X4 wk_yX4_isThing) rfl rfl rfl hdX4_isThing ⟨Nat.le_of_ble_eq_true rfl, Nat.le_of_ble_eq_true rfl⟩) (ci := 4) (q0 := 1) rfl rfl rfl hl.1 rfl (Nat.le_of_ble_eq_true rfl) dX4_hasWish_2 ⟨Nat.le_refl 0, Nat.le_refl 0⟩ (fun H locs X => ?_)
  refine lv_if_eq (tgt := 21) hx hb dX4_hasWish_5 (by decide) (fun c5 => ?_) (fun c5 => ?_)
  · refine lv_iconst (v := (0)) hx hb dX4_hasWish_21 (by decide) ?_
    exact ret dX4_hasWish_22 (congrArg (fun z => (z, _)) (Eq.symm (if_pos c5))) X
  · refine lv_aload_n hx hb dX4_hasWish_8 rfl (lv_at hl 0 rfl) ?_
    refine cg_X4_X4_wishing C X dX4_hasWish_9 ?_
    refine lv_iload_n hx hb dX4_hasWish_12 rfl (lv_at hl 1 rfl) ?_
    refine ca_wishing (v := ((c_wishing σ) (ix x1))) C X (in_isThing c5) rfl dX4_hasWish_13 ?_
    refine lv_if_eq (tgt := 21) hx hb dX4_hasWish_14 (by decide) (fun c14 => ?_) (fun c14 => ?_)
    · refine lv_iconst (v := (0)) hx hb dX4_hasWish_21 (by decide) ?_
      exact ret dX4_hasWish_22 (congrArg (fun z => (z, _)) (Eq.symm (Eq.trans (if_neg c5) (if_pos c14)))) X
    · refine lv_iconst (v := (1)) hx hb dX4_hasWish_17 (by decide) ?_
      refine lv_goto (tgt := 22) hx hb dX4_hasWish_18 (by decide) ?_
      exact ret dX4_hasWish_22 (congrArg (fun z => (z, _)) (Eq.symm (Eq.trans (if_neg c5) (if_neg c14)))) X
def fX4_hasField (σ : CSt) (x1 : Int32) (x2 : Int32) : Int32 := (if (fX4_isThing σ x1) = (0 : Int32) then (0 : Int32) else (if x2 < (0 : Int32) then (0 : Int32) else (if (6 : Int32) ≤ x2 then (0 : Int32) else (if (((c_sizes σ) (ix x1)) - (1 : Int32)) ≤ x2 then (0 : Int32) else (1 : Int32)))))
theorem hdX4_hasField : yX4_hasField.cls = RX4 ∧ yX4_hasField.cls ≠ "java/lang/invoke/MethodHandle" ∧ yX4_hasField.cls ≠ "java/lang/invoke/VarHandle" ∧ (parseMethodDescriptor yX4_hasField.desc).map (fun d => d.parameters.length) = some 2 := by decide +kernel
theorem bX4_hasField (σ : CSt) (x1 : Int32) (x2 : Int32) : (fX4_hasField σ x1 x2) = 0 ∨ (fX4_hasField σ x1 x2) = 1 := by
  unfold fX4_hasField
  (repeat' split) <;> first | exact Or.inl rfl | exact Or.inr rfl
set_option maxHeartbeats 4000000 in
set_option maxRecDepth 100000 in
theorem kX4_hasField (l : Launch) (D : va_G) (a : Nat → Nat) (cI cZ : ClassId) (σ : CSt) (x1 : Int32) (x2 : Int32) : CR l D (tyIZ cI cZ) (wC a cI cZ) yX4_hasField cX4_hasField 3 .boolean (rmk 1 21) [.ref (a 1), .int x1, .int x2] σ (fX4_hasField σ x1 x2) σ := by
  refine CR.of pnX4 ⟨rfl, rfl⟩ (Nat.le_of_ble_eq_true rfl) (nar_b (bX4_hasField σ x1 x2)) (fun p e s m args below meth c A Q ls C X hA hl ret => ?_)
  have C : Cx p s m args meth c cX4_hasField 3 RX4 D (tyIZ cI cZ) := C
  have hx := C.1
  have hb := C.2.1
  have hl : lv_has ls 3 [(0, .ref (a 1)), (1, .int x1), (2, .int x2)] := hl
  refine lv_aload_n hx hb dX4_hasField_0 rfl (lv_at hl 0 rfl) ?_
  refine lv_iload_n hx hb dX4_hasField_1 rfl (lv_at hl 1 rfl) ?_
  refine callVR (rest := []) C hA (wC_sh a cI cZ) X (kX4_isThing l D a cI cZ _ x1) (cwV 1 C.2.2.2.2.1 (gV wl_X4_38 wt_yX4_isThing ws_yX4_isThing wi_X4 wk_yX4_isThing) rfl rfl rfl hdX4_isThing ⟨Nat.le_of_ble_eq_true rfl, Nat.le_of_ble_eq_true rfl⟩) (ci := 4) (q0 := 1) rfl rfl rfl hl.1 rfl (Nat.le_of_ble_eq_true rfl) dX4_hasField_2 ⟨Nat.le_refl 0, Nat.le_refl 0⟩ (fun H locs X => ?_)
  refine lv_if_eq (tgt := 34) hx hb dX4_hasField_5 (by decide) (fun c5 => ?_) (fun c5 => ?_)
  · refine lv_iconst (v := (0)) hx hb dX4_hasField_34 (by decide) ?_
    exact ret dX4_hasField_35 (congrArg (fun z => (z, _)) (Eq.symm (if_pos c5))) X
  · refine lv_iload_n hx hb dX4_hasField_8 rfl (lv_at hl 2 rfl) ?_
    refine lv_if_lt (tgt := 34) hx hb dX4_hasField_9 (by decide) (fun c9 => ?_) (fun c9 => ?_)
    · refine lv_iconst (v := (0)) hx hb dX4_hasField_34 (by decide) ?_
      exact ret dX4_hasField_35 (congrArg (fun z => (z, _)) (Eq.symm (Eq.trans (if_neg c5) (if_pos c9)))) X
    · refine lv_iload_n hx hb dX4_hasField_12 rfl (lv_at hl 2 rfl) ?_
      refine lv_bipush (v := (6)) hx hb dX4_hasField_13 (by decide) ?_
      refine lv_icmp_ge (tgt := 34) hx hb dX4_hasField_15 (by decide) (fun c15 => ?_) (fun c15 => ?_)
      · refine lv_iconst (v := (0)) hx hb dX4_hasField_34 (by decide) ?_
        exact ret dX4_hasField_35 (congrArg (fun z => (z, _)) (Eq.symm (Eq.trans (if_neg c5) (Eq.trans (if_neg c9) (if_pos c15))))) X
      · refine lv_iload_n hx hb dX4_hasField_18 rfl (lv_at hl 2 rfl) ?_
        refine lv_aload_n hx hb dX4_hasField_19 rfl (lv_at hl 0 rfl) ?_
        refine cg_X4_X4_sizes C X dX4_hasField_20 ?_
        refine lv_iload_n hx hb dX4_hasField_23 rfl (lv_at hl 1 rfl) ?_
        refine ca_sizes (v := ((c_sizes σ) (ix x1))) C X (in_isThing c5) rfl dX4_hasField_24 ?_
        refine lv_iconst (v := (1)) hx hb dX4_hasField_25 (by decide) ?_
        refine lv_isub hx hb dX4_hasField_26 ?_
        refine lv_icmp_ge (tgt := 34) hx hb dX4_hasField_27 (by decide) (fun c27 => ?_) (fun c27 => ?_)
        · refine lv_iconst (v := (0)) hx hb dX4_hasField_34 (by decide) ?_
          exact ret dX4_hasField_35 (congrArg (fun z => (z, _)) (Eq.symm (Eq.trans (if_neg c5) (Eq.trans (if_neg c9) (Eq.trans (if_neg c15) (if_pos c27)))))) X
        · refine lv_iconst (v := (1)) hx hb dX4_hasField_30 (by decide) ?_
          refine lv_goto (tgt := 35) hx hb dX4_hasField_31 (by decide) ?_
          exact ret dX4_hasField_35 (congrArg (fun z => (z, _)) (Eq.symm (Eq.trans (if_neg c5) (Eq.trans (if_neg c9) (Eq.trans (if_neg c15) (if_neg c27)))))) X
theorem in_hasField {σ : CSt} {x i : Int32} (h : ¬ fX4_hasField σ x i = 0) : vp_in (x * 6 + i) 720 := by
  unfold fX4_hasField at h
  split at h
  · exact absurd rfl h
  · rename_i h0
    have hx := vp_in_iff.mp (in_isThing h0)
    split at h
    · exact absurd rfl h
    · split at h
      · exact absurd rfl h
      · rename_i h1 h2
        have a1 := i32_nlt h1
        have a2 := i32_nle h2
        have q : (6 : Int32).toInt = 6 := rfl
        have q2 : (0 : Int32).toInt = 0 := rfl
        refine vp_in_iff.mpr ?_
        have e : (x * 6 + i).toInt = x.toInt * 6 + i.toInt := by
          rw [Int32.toInt_add, Int32.toInt_mul, q]
          have e1 : (x.toInt * 6).bmod (2 ^ 32) = x.toInt * 6 := Int.bmod_eq_of_le (by omega) (by omega)
          rw [e1]
          exact Int.bmod_eq_of_le (by omega) (by omega)
        rw [e]
        omega

def fX4_inField (σ : CSt) (x1 : Int32) (x2 : Int32) : Int32 := (if (fX4_hasField σ x1 x2) = (0 : Int32) then (-1 : Int32) else ((c_theld σ) (ix ((x1 * (6 : Int32)) + x2))))
theorem hdX4_inField : yX4_inField.cls = RX4 ∧ yX4_inField.cls ≠ "java/lang/invoke/MethodHandle" ∧ yX4_inField.cls ≠ "java/lang/invoke/VarHandle" ∧ (parseMethodDescriptor yX4_inField.desc).map (fun d => d.parameters.length) = some 2 := by decide +kernel
set_option maxHeartbeats 4000000 in
set_option maxRecDepth 100000 in
theorem kX4_inField (l : Launch) (D : va_G) (a : Nat → Nat) (cI cZ : ClassId) (σ : CSt) (x1 : Int32) (x2 : Int32) : CR l D (tyIZ cI cZ) (wC a cI cZ) yX4_inField cX4_inField 3 .int (rmk 2 43) [.ref (a 1), .int x1, .int x2] σ (fX4_inField σ x1 x2) σ := by
  refine CR.of pnX4 ⟨rfl, rfl⟩ (Nat.le_of_ble_eq_true rfl) rfl (fun p e s m args below meth c A Q ls C X hA hl ret => ?_)
  have C : Cx p s m args meth c cX4_inField 3 RX4 D (tyIZ cI cZ) := C
  have hx := C.1
  have hb := C.2.1
  have hl : lv_has ls 3 [(0, .ref (a 1)), (1, .int x1), (2, .int x2)] := hl
  refine lv_aload_n hx hb dX4_inField_0 rfl (lv_at hl 0 rfl) ?_
  refine lv_iload_n hx hb dX4_inField_1 rfl (lv_at hl 1 rfl) ?_
  refine lv_iload_n hx hb dX4_inField_2 rfl (lv_at hl 2 rfl) ?_
  refine callVR (rest := []) C hA (wC_sh a cI cZ) X (kX4_hasField l D a cI cZ _ x1 x2) (cwV 2 C.2.2.2.2.1 (gV wl_X4_42 wt_yX4_hasField ws_yX4_hasField wi_X4 wk_yX4_hasField) rfl rfl rfl hdX4_hasField ⟨Nat.le_of_ble_eq_true rfl, Nat.le_of_ble_eq_true rfl⟩) (ci := 4) (q0 := 1) rfl rfl rfl hl.1 rfl (Nat.le_of_ble_eq_true rfl) dX4_inField_3 ⟨Nat.le_refl 0, Nat.le_refl 0⟩ (fun H locs X => ?_)
  refine lv_if_eq (tgt := 23) hx hb dX4_inField_6 (by decide) (fun c6 => ?_) (fun c6 => ?_)
  · refine lv_iconst (v := (-1)) hx hb dX4_inField_23 (by decide) ?_
    exact ret dX4_inField_24 (congrArg (fun z => (z, _)) (Eq.symm (if_pos c6))) X
  · refine lv_aload_n hx hb dX4_inField_9 rfl (lv_at hl 0 rfl) ?_
    refine cg_X4_X4_held C X dX4_inField_10 ?_
    refine lv_iload_n hx hb dX4_inField_13 rfl (lv_at hl 1 rfl) ?_
    refine lv_bipush (v := (6)) hx hb dX4_inField_14 (by decide) ?_
    refine lv_imul hx hb dX4_inField_16 ?_
    refine lv_iload_n hx hb dX4_inField_17 rfl (lv_at hl 2 rfl) ?_
    refine lv_iadd hx hb dX4_inField_18 ?_
    refine ca_theld (v := ((c_theld σ) (ix ((x1 * (6 : Int32)) + x2)))) C X (in_hasField c6) rfl dX4_inField_19 ?_
    refine lv_goto (tgt := 24) hx hb dX4_inField_20 (by decide) ?_
    exact ret dX4_inField_24 (congrArg (fun z => (z, _)) (Eq.symm (if_neg c6))) X
def fX4_setField (σ : CSt) (x1 : Int32) (x2 : Int32) (x3 : Int32) : CSt := (if (fX4_hasField σ x1 x2) = (0 : Int32) then σ else (c_theld_s σ (upd (c_theld σ) (ix ((x1 * (6 : Int32)) + x2)) x3)))
theorem hdX4_setField : yX4_setField.cls = RX4 ∧ yX4_setField.cls ≠ "java/lang/invoke/MethodHandle" ∧ yX4_setField.cls ≠ "java/lang/invoke/VarHandle" ∧ (parseMethodDescriptor yX4_setField.desc).map (fun d => d.parameters.length) = some 3 := by decide +kernel
set_option maxHeartbeats 4000000 in
set_option maxRecDepth 100000 in
theorem kX4_setField (l : Launch) (D : va_G) (a : Nat → Nat) (cI cZ : ClassId) (σ : CSt) (x1 : Int32) (x2 : Int32) (x3 : Int32) : CU l D (tyIZ cI cZ) (wC a cI cZ) yX4_setField cX4_setField 4 (rmk 2 43) [.ref (a 1), .int x1, .int x2, .int x3] σ (fX4_setField σ x1 x2 x3) := by
  refine CU.of pnX4 ⟨rfl, rfl⟩ (Nat.le_of_ble_eq_true rfl) (fun p e s m args below meth c A Q ls C X hA hl ret => ?_)
  have C : Cx p s m args meth c cX4_setField 4 RX4 D (tyIZ cI cZ) := C
  have hx := C.1
  have hb := C.2.1
  have hl : lv_has ls 4 [(0, .ref (a 1)), (1, .int x1), (2, .int x2), (3, .int x3)] := hl
  refine lv_aload_n hx hb dX4_setField_0 rfl (lv_at hl 0 rfl) ?_
  refine lv_iload_n hx hb dX4_setField_1 rfl (lv_at hl 1 rfl) ?_
  refine lv_iload_n hx hb dX4_setField_2 rfl (lv_at hl 2 rfl) ?_
  refine callVR (rest := []) C hA (wC_sh a cI cZ) X (kX4_hasField l D a cI cZ _ x1 x2) (cwV 2 C.2.2.2.2.1 (gV wl_X4_42 wt_yX4_hasField ws_yX4_hasField wi_X4 wk_yX4_hasField) rfl rfl rfl hdX4_hasField ⟨Nat.le_of_ble_eq_true rfl, Nat.le_of_ble_eq_true rfl⟩) (ci := 4) (q0 := 1) rfl rfl rfl hl.1 rfl (Nat.le_of_ble_eq_true rfl) dX4_setField_3 ⟨Nat.le_refl 0, Nat.le_refl 0⟩ (fun H locs X => ?_)
  refine lv_if_eq (tgt := 21) hx hb dX4_setField_6 (by decide) (fun c6 => ?_) (fun c6 => ?_)
  · exact ret dX4_setField_21 (Eq.symm (if_pos c6)) X
  · refine lv_aload_n hx hb dX4_setField_9 rfl (lv_at hl 0 rfl) ?_
    refine cg_X4_X4_held C X dX4_setField_10 ?_
    refine lv_iload_n hx hb dX4_setField_13 rfl (lv_at hl 1 rfl) ?_
    refine lv_bipush (v := (6)) hx hb dX4_setField_14 (by decide) ?_
    refine lv_imul hx hb dX4_setField_16 ?_
    refine lv_iload_n hx hb dX4_setField_17 rfl (lv_at hl 2 rfl) ?_
    refine lv_iadd hx hb dX4_setField_18 ?_
    refine lv_iload_n hx hb dX4_setField_19 rfl (lv_at hl 3 rfl) ?_
    refine cs_theld C X (in_hasField c6) dX4_setField_20 (fun H locs X => ?_)
    exact ret dX4_setField_21 (Eq.symm (if_neg c6)) X
def fX4_paint (σ : CSt) (x1 : Int32) (x2 : Int32) : CSt := (if (fX4_isThing σ x1) = (0 : Int32) then σ else (c_colours_s σ (upd (c_colours σ) (ix x1) x2)))
theorem hdX4_paint : yX4_paint.cls = RX4 ∧ yX4_paint.cls ≠ "java/lang/invoke/MethodHandle" ∧ yX4_paint.cls ≠ "java/lang/invoke/VarHandle" ∧ (parseMethodDescriptor yX4_paint.desc).map (fun d => d.parameters.length) = some 2 := by decide +kernel
set_option maxHeartbeats 4000000 in
set_option maxRecDepth 100000 in
theorem kX4_paint (l : Launch) (D : va_G) (a : Nat → Nat) (cI cZ : ClassId) (σ : CSt) (x1 : Int32) (x2 : Int32) : CU l D (tyIZ cI cZ) (wC a cI cZ) yX4_paint cX4_paint 3 (rmk 1 21) [.ref (a 1), .int x1, .int x2] σ (fX4_paint σ x1 x2) := by
  refine CU.of pnX4 ⟨rfl, rfl⟩ (Nat.le_of_ble_eq_true rfl) (fun p e s m args below meth c A Q ls C X hA hl ret => ?_)
  have C : Cx p s m args meth c cX4_paint 3 RX4 D (tyIZ cI cZ) := C
  have hx := C.1
  have hb := C.2.1
  have hl : lv_has ls 3 [(0, .ref (a 1)), (1, .int x1), (2, .int x2)] := hl
  refine lv_aload_n hx hb dX4_paint_0 rfl (lv_at hl 0 rfl) ?_
  refine lv_iload_n hx hb dX4_paint_1 rfl (lv_at hl 1 rfl) ?_
  refine callVR (rest := []) C hA (wC_sh a cI cZ) X (kX4_isThing l D a cI cZ _ x1) (cwV 1 C.2.2.2.2.1 (gV wl_X4_38 wt_yX4_isThing ws_yX4_isThing wi_X4 wk_yX4_isThing) rfl rfl rfl hdX4_isThing ⟨Nat.le_of_ble_eq_true rfl, Nat.le_of_ble_eq_true rfl⟩) (ci := 4) (q0 := 1) rfl rfl rfl hl.1 rfl (Nat.le_of_ble_eq_true rfl) dX4_paint_2 ⟨Nat.le_refl 0, Nat.le_refl 0⟩ (fun H locs X => ?_)
  refine lv_if_eq (tgt := 15) hx hb dX4_paint_5 (by decide) (fun c5 => ?_) (fun c5 => ?_)
  · exact ret dX4_paint_15 (Eq.symm (if_pos c5)) X
  · refine lv_aload_n hx hb dX4_paint_8 rfl (lv_at hl 0 rfl) ?_
    refine cg_X4_X4_colours C X dX4_paint_9 ?_
    refine lv_iload_n hx hb dX4_paint_12 rfl (lv_at hl 1 rfl) ?_
    refine lv_iload_n hx hb dX4_paint_13 rfl (lv_at hl 2 rfl) ?_
    refine cs_colours C X (in_isThing c5) dX4_paint_14 (fun H locs X => ?_)
    exact ret dX4_paint_15 (Eq.symm (if_neg c5)) X
theorem tmade_paint {σ : CSt} {x y : Int32} : c_tmade (fX4_paint σ x y) = c_tmade σ := by
  unfold fX4_paint
  split <;> rfl

def fX4_moveTo (σ : CSt) (x1 : Int32) (x2 : Int32) : CSt := (if (fX4_isThing σ x1) = (0 : Int32) then σ else (c_moves_s (c_places_s σ (upd (c_places σ) (ix x1) x2)) (upd (c_moves σ) (ix x1) (((c_moves σ) (ix x1)) + (1 : Int32)))))
theorem hdX4_moveTo : yX4_moveTo.cls = RX4 ∧ yX4_moveTo.cls ≠ "java/lang/invoke/MethodHandle" ∧ yX4_moveTo.cls ≠ "java/lang/invoke/VarHandle" ∧ (parseMethodDescriptor yX4_moveTo.desc).map (fun d => d.parameters.length) = some 2 := by decide +kernel
set_option maxHeartbeats 4000000 in
set_option maxRecDepth 100000 in
theorem kX4_moveTo (l : Launch) (D : va_G) (a : Nat → Nat) (cI cZ : ClassId) (σ : CSt) (x1 : Int32) (x2 : Int32) : CU l D (tyIZ cI cZ) (wC a cI cZ) yX4_moveTo cX4_moveTo 3 (rmk 1 21) [.ref (a 1), .int x1, .int x2] σ (fX4_moveTo σ x1 x2) := by
  refine CU.of pnX4 ⟨rfl, rfl⟩ (Nat.le_of_ble_eq_true rfl) (fun p e s m args below meth c A Q ls C X hA hl ret => ?_)
  have C : Cx p s m args meth c cX4_moveTo 3 RX4 D (tyIZ cI cZ) := C
  have hx := C.1
  have hb := C.2.1
  have hl : lv_has ls 3 [(0, .ref (a 1)), (1, .int x1), (2, .int x2)] := hl
  refine lv_aload_n hx hb dX4_moveTo_0 rfl (lv_at hl 0 rfl) ?_
  refine lv_iload_n hx hb dX4_moveTo_1 rfl (lv_at hl 1 rfl) ?_
  refine callVR (rest := []) C hA (wC_sh a cI cZ) X (kX4_isThing l D a cI cZ _ x1) (cwV 1 C.2.2.2.2.1 (gV wl_X4_38 wt_yX4_isThing ws_yX4_isThing wi_X4 wk_yX4_isThing) rfl rfl rfl hdX4_isThing ⟨Nat.le_of_ble_eq_true rfl, Nat.le_of_ble_eq_true rfl⟩) (ci := 4) (q0 := 1) rfl rfl rfl hl.1 rfl (Nat.le_of_ble_eq_true rfl) dX4_moveTo_2 ⟨Nat.le_refl 0, Nat.le_refl 0⟩ (fun H locs X => ?_)
  refine lv_if_eq (tgt := 25) hx hb dX4_moveTo_5 (by decide) (fun c5 => ?_) (fun c5 => ?_)
  · exact ret dX4_moveTo_25 (Eq.symm (if_pos c5)) X
  · refine lv_aload_n hx hb dX4_moveTo_8 rfl (lv_at hl 0 rfl) ?_
    refine cg_X4_X4_places C X dX4_moveTo_9 ?_
    refine lv_iload_n hx hb dX4_moveTo_12 rfl (lv_at hl 1 rfl) ?_
    refine lv_iload_n hx hb dX4_moveTo_13 rfl (lv_at hl 2 rfl) ?_
    refine cs_places C X (in_isThing c5) dX4_moveTo_14 (fun H locs X => ?_)
    refine lv_aload_n hx hb dX4_moveTo_15 rfl (lv_at hl 0 rfl) ?_
    refine cg_X4_X4_moves C X dX4_moveTo_16 ?_
    refine lv_iload_n hx hb dX4_moveTo_19 rfl (lv_at hl 1 rfl) ?_
    refine lv_dup2_11 hx hb dX4_moveTo_20 rfl rfl ?_
    refine ca_moves (v := ((c_moves σ) (ix x1))) C X (in_isThing c5) rfl dX4_moveTo_21 ?_
    refine lv_iconst (v := (1)) hx hb dX4_moveTo_22 (by decide) ?_
    refine lv_iadd hx hb dX4_moveTo_23 ?_
    refine cs_moves C X (in_isThing c5) dX4_moveTo_24 (fun H locs X => ?_)
    exact ret dX4_moveTo_25 (Eq.symm (if_neg c5)) X
def fX4_free (σ : CSt) (x1 : Int32) : CSt := (if (fX4_isThing σ x1) = (0 : Int32) then σ else (c_places_s (c_freed_s σ (upd (c_freed σ) (ix x1) (1 : Int32))) (upd (c_places σ) (ix x1) (-1 : Int32))))
theorem hdX4_free : yX4_free.cls = RX4 ∧ yX4_free.cls ≠ "java/lang/invoke/MethodHandle" ∧ yX4_free.cls ≠ "java/lang/invoke/VarHandle" ∧ (parseMethodDescriptor yX4_free.desc).map (fun d => d.parameters.length) = some 1 := by decide +kernel
set_option maxHeartbeats 4000000 in
set_option maxRecDepth 100000 in
theorem kX4_free (l : Launch) (D : va_G) (a : Nat → Nat) (cI cZ : ClassId) (σ : CSt) (x1 : Int32) : CU l D (tyIZ cI cZ) (wC a cI cZ) yX4_free cX4_free 2 (rmk 1 21) [.ref (a 1), .int x1] σ (fX4_free σ x1) := by
  refine CU.of pnX4 ⟨rfl, rfl⟩ (Nat.le_of_ble_eq_true rfl) (fun p e s m args below meth c A Q ls C X hA hl ret => ?_)
  have C : Cx p s m args meth c cX4_free 2 RX4 D (tyIZ cI cZ) := C
  have hx := C.1
  have hb := C.2.1
  have hl : lv_has ls 2 [(0, .ref (a 1)), (1, .int x1)] := hl
  refine lv_aload_n hx hb dX4_free_0 rfl (lv_at hl 0 rfl) ?_
  refine lv_iload_n hx hb dX4_free_1 rfl (lv_at hl 1 rfl) ?_
  refine callVR (rest := []) C hA (wC_sh a cI cZ) X (kX4_isThing l D a cI cZ _ x1) (cwV 1 C.2.2.2.2.1 (gV wl_X4_38 wt_yX4_isThing ws_yX4_isThing wi_X4 wk_yX4_isThing) rfl rfl rfl hdX4_isThing ⟨Nat.le_of_ble_eq_true rfl, Nat.le_of_ble_eq_true rfl⟩) (ci := 4) (q0 := 1) rfl rfl rfl hl.1 rfl (Nat.le_of_ble_eq_true rfl) dX4_free_2 ⟨Nat.le_refl 0, Nat.le_refl 0⟩ (fun H locs X => ?_)
  refine lv_if_eq (tgt := 22) hx hb dX4_free_5 (by decide) (fun c5 => ?_) (fun c5 => ?_)
  · exact ret dX4_free_22 (Eq.symm (if_pos c5)) X
  · refine lv_aload_n hx hb dX4_free_8 rfl (lv_at hl 0 rfl) ?_
    refine cg_X4_X4_freed C X dX4_free_9 ?_
    refine lv_iload_n hx hb dX4_free_12 rfl (lv_at hl 1 rfl) ?_
    refine lv_iconst (v := (1)) hx hb dX4_free_13 (by decide) ?_
    refine cs_freed (x1 := (1 : Int32)) C X (in_isThing c5) rfl dX4_free_14 (fun H locs X => ?_)
    refine lv_aload_n hx hb dX4_free_15 rfl (lv_at hl 0 rfl) ?_
    refine cg_X4_X4_places C X dX4_free_16 ?_
    refine lv_iload_n hx hb dX4_free_19 rfl (lv_at hl 1 rfl) ?_
    refine lv_iconst (v := (-1)) hx hb dX4_free_20 (by decide) ?_
    refine cs_places C X (in_isThing c5) dX4_free_21 (fun H locs X => ?_)
    exact ret dX4_free_22 (Eq.symm (if_neg c5)) X
def fX4_endWish (σ : CSt) (x1 : Int32) : CSt := (if (fX4_isThing σ x1) = (0 : Int32) then σ else (c_wishing_s σ (upd (c_wishing σ) (ix x1) (0 : Int32))))
theorem hdX4_endWish : yX4_endWish.cls = RX4 ∧ yX4_endWish.cls ≠ "java/lang/invoke/MethodHandle" ∧ yX4_endWish.cls ≠ "java/lang/invoke/VarHandle" ∧ (parseMethodDescriptor yX4_endWish.desc).map (fun d => d.parameters.length) = some 1 := by decide +kernel
set_option maxHeartbeats 4000000 in
set_option maxRecDepth 100000 in
theorem kX4_endWish (l : Launch) (D : va_G) (a : Nat → Nat) (cI cZ : ClassId) (σ : CSt) (x1 : Int32) : CU l D (tyIZ cI cZ) (wC a cI cZ) yX4_endWish cX4_endWish 2 (rmk 1 21) [.ref (a 1), .int x1] σ (fX4_endWish σ x1) := by
  refine CU.of pnX4 ⟨rfl, rfl⟩ (Nat.le_of_ble_eq_true rfl) (fun p e s m args below meth c A Q ls C X hA hl ret => ?_)
  have C : Cx p s m args meth c cX4_endWish 2 RX4 D (tyIZ cI cZ) := C
  have hx := C.1
  have hb := C.2.1
  have hl : lv_has ls 2 [(0, .ref (a 1)), (1, .int x1)] := hl
  refine lv_aload_n hx hb dX4_endWish_0 rfl (lv_at hl 0 rfl) ?_
  refine lv_iload_n hx hb dX4_endWish_1 rfl (lv_at hl 1 rfl) ?_
  refine callVR (rest := []) C hA (wC_sh a cI cZ) X (kX4_isThing l D a cI cZ _ x1) (cwV 1 C.2.2.2.2.1 (gV wl_X4_38 wt_yX4_isThing ws_yX4_isThing wi_X4 wk_yX4_isThing) rfl rfl rfl hdX4_isThing ⟨Nat.le_of_ble_eq_true rfl, Nat.le_of_ble_eq_true rfl⟩) (ci := 4) (q0 := 1) rfl rfl rfl hl.1 rfl (Nat.le_of_ble_eq_true rfl) dX4_endWish_2 ⟨Nat.le_refl 0, Nat.le_refl 0⟩ (fun H locs X => ?_)
  refine lv_if_eq (tgt := 15) hx hb dX4_endWish_5 (by decide) (fun c5 => ?_) (fun c5 => ?_)
  · exact ret dX4_endWish_15 (Eq.symm (if_pos c5)) X
  · refine lv_aload_n hx hb dX4_endWish_8 rfl (lv_at hl 0 rfl) ?_
    refine cg_X4_X4_wishing C X dX4_endWish_9 ?_
    refine lv_iload_n hx hb dX4_endWish_12 rfl (lv_at hl 1 rfl) ?_
    refine lv_iconst (v := (0)) hx hb dX4_endWish_13 (by decide) ?_
    refine cs_wishing (x1 := (0 : Int32)) C X (in_isThing c5) rfl dX4_endWish_14 (fun H locs X => ?_)
    exact ret dX4_endWish_15 (Eq.symm (if_neg c5)) X
def fX4_whitenAll_L2 : Nat → Int32 → CSt → CSt
  | 0, y1, σ2 => σ2
  | f + 1, y1, σ2 => (if (fX4_isFreed σ2 y1) = (0 : Int32) then (fX4_whitenAll_L2 f (y1 + 1) (fX4_paint σ2 y1 (0 : Int32))) else (fX4_whitenAll_L2 f (y1 + 1) σ2))
def fX4_whitenAll (σ : CSt) : CSt := (fX4_whitenAll_L2 (((Int32.toInt (c_tmade σ)) - (Int32.toInt (0 : Int32))).toNat) (0 : Int32) σ)
theorem hdX4_whitenAll : yX4_whitenAll.cls = RX4 ∧ yX4_whitenAll.cls ≠ "java/lang/invoke/MethodHandle" ∧ yX4_whitenAll.cls ≠ "java/lang/invoke/VarHandle" ∧ (parseMethodDescriptor yX4_whitenAll.desc).map (fun d => d.parameters.length) = some 0 := by decide +kernel
set_option maxHeartbeats 4000000 in
set_option maxRecDepth 100000 in
theorem kX4_whitenAll (l : Launch) (D : va_G) (a : Nat → Nat) (cI cZ : ClassId) (σ : CSt) : CU l D (tyIZ cI cZ) (wC a cI cZ) yX4_whitenAll cX4_whitenAll 2 (rmk 2 43) [.ref (a 1)] σ (fX4_whitenAll σ) := by
  refine CU.of pnX4 ⟨rfl, rfl⟩ (Nat.le_of_ble_eq_true rfl) (fun p e s m args below meth c A Q ls C X hA hl ret => ?_)
  have C : Cx p s m args meth c cX4_whitenAll 2 RX4 D (tyIZ cI cZ) := C
  have hx := C.1
  have hb := C.2.1
  have hl : lv_has ls 2 [(0, .ref (a 1))] := hl
  refine lv_iconst (v := (0)) hx hb dX4_whitenAll_0 (by decide) ?_
  refine lv_istore_n (lv' := [(1, .int (0 : Int32)), (0, .ref (a 1))]) hx hb dX4_whitenAll_1 rfl hl (by decide) rfl (fun ls hl => ?_)
  have L2 : ∀ (f : Nat) (y1 : Int32) (σ2 : CSt) (hf : ((Int32.toInt (c_tmade σ2)) - (Int32.toInt y1)).toNat = f) (hnn : 0 ≤ Int32.toInt y1) (he : fX4_whitenAll_L2 f y1 σ2 = (fX4_whitenAll σ)) (H : Heap) (locs : List Loc) (ls : Array Slot) (X : Sx A D (wC a cI cZ σ2) s H locs) (hl : lv_has ls 2 [(0, .ref (a 1)), (1, .int y1)]), W p l e (rmk 2 43) s m args below meth c H locs 0 0 Q (F0 m 2 ls []) := by
    intro f
    induction f with
    | zero =>
      intro y1 σ2 hf hnn he H locs ls X hl
      refine lv_iload_n hx hb dX4_whitenAll_2 rfl (lv_at hl 1 rfl) ?_
      refine lv_aload_n hx hb dX4_whitenAll_3 rfl (lv_at hl 0 rfl) ?_
      refine cg_X4_X4_made (v := (c_tmade σ2)) C X rfl dX4_whitenAll_4 ?_
      refine lv_icmp_ge (tgt := 30) hx hb dX4_whitenAll_7 (by decide) (fun c7 => ?_) (fun c7 => (lp_z hf c7).elim)
      exact ret dX4_whitenAll_30 he X
    | succ f ih2 =>
      intro y1 σ2 hf hnn he H locs ls X hl
      refine lv_iload_n hx hb dX4_whitenAll_2 rfl (lv_at hl 1 rfl) ?_
      refine lv_aload_n hx hb dX4_whitenAll_3 rfl (lv_at hl 0 rfl) ?_
      refine cg_X4_X4_made (v := (c_tmade σ2)) C X rfl dX4_whitenAll_4 ?_
      refine lv_icmp_ge (tgt := 30) hx hb dX4_whitenAll_7 (by decide) (fun c7 => (lp_s hf c7).elim) (fun c7 => ?_)
      refine lv_aload_n hx hb dX4_whitenAll_10 rfl (lv_at hl 0 rfl) ?_
      refine lv_iload_n hx hb dX4_whitenAll_11 rfl (lv_at hl 1 rfl) ?_
      refine callVR (rest := []) C hA (wC_sh a cI cZ) X (kX4_isFreed l D a cI cZ _ y1) (cwV 1 C.2.2.2.2.1 (gV wl_X4_46 wt_yX4_isFreed ws_yX4_isFreed wi_X4 wk_yX4_isFreed) rfl rfl rfl hdX4_isFreed ⟨Nat.le_of_ble_eq_true rfl, Nat.le_of_ble_eq_true rfl⟩) (ci := 4) (q0 := 1) rfl rfl rfl hl.1 rfl (Nat.le_of_ble_eq_true rfl) dX4_whitenAll_12 ⟨Nat.le_refl 0, Nat.le_refl 0⟩ (fun H locs X => ?_)
      refine lv_if_ne (tgt := 24) hx hb dX4_whitenAll_15 (by decide) (fun c15 => ?_) (fun c15 => ?_)
      · refine lv_iinc (v := (y1 + 1)) (lv' := [(1, .int (y1 + 1)), (0, .ref (a 1))]) hx hb dX4_whitenAll_24 hl (k := 1) rfl rfl (by decide) rfl (fun ls hl => ?_)
        refine lv_goto (tgt := 2) hx hb dX4_whitenAll_27 (by decide) ?_
        exact ih2 (y1 + 1) σ2 (by first | exact lp_b hf | (rw [tmade_paint]; exact lp_b hf)) (lp_nn hnn hf) (Eq.trans (Eq.symm (if_neg c15)) he) _ _ _ X (lv_sub hl [1, 0] rfl)
      · refine lv_aload_n hx hb dX4_whitenAll_18 rfl (lv_at hl 0 rfl) ?_
        refine lv_iload_n hx hb dX4_whitenAll_19 rfl (lv_at hl 1 rfl) ?_
        refine lv_iconst (v := (0)) hx hb dX4_whitenAll_20 (by decide) ?_
        refine callVU (rest := []) C hA (wC_sh a cI cZ) X (kX4_paint l D a cI cZ _ y1 (0 : Int32)) (cwV 2 C.2.2.2.2.1 (gV wl_X4_49 wt_yX4_paint ws_yX4_paint wi_X4 wk_yX4_paint) rfl rfl rfl hdX4_paint ⟨Nat.le_of_ble_eq_true rfl, Nat.le_of_ble_eq_true rfl⟩) (ci := 4) (q0 := 1) rfl rfl rfl hl.1 rfl (Nat.le_of_ble_eq_true rfl) dX4_whitenAll_21 ⟨Nat.le_refl 0, Nat.le_refl 0⟩ (fun H locs X => ?_)
        refine lv_iinc (v := (y1 + 1)) (lv' := [(1, .int (y1 + 1)), (0, .ref (a 1))]) hx hb dX4_whitenAll_24 hl (k := 1) rfl rfl (by decide) rfl (fun ls hl => ?_)
        refine lv_goto (tgt := 2) hx hb dX4_whitenAll_27 (by decide) ?_
        exact ih2 (y1 + 1) (fX4_paint σ2 y1 (0 : Int32)) (by first | exact lp_b hf | (rw [tmade_paint]; exact lp_b hf)) (lp_nn hnn hf) (Eq.trans (Eq.symm (if_pos c15)) he) _ _ _ X (lv_sub hl [1, 0] rfl)
  exact L2 (((Int32.toInt (c_tmade σ)) - (Int32.toInt (0 : Int32))).toNat) (0 : Int32) σ rfl (by decide) rfl _ _ _ X (lv_sub hl [1, 0] rfl)
def fX4_leastGray_L2 : Nat → Int32 → CSt → Int32
  | 0, y1, σ0 => (-1 : Int32)
  | f + 1, y1, σ0 => (if (fX4_colourOf σ0 y1) = (1 : Int32) then y1 else (fX4_leastGray_L2 f (y1 + 1) σ0))
def fX4_leastGray (σ : CSt) : Int32 := (fX4_leastGray_L2 (((Int32.toInt (c_tmade σ)) - (Int32.toInt (0 : Int32))).toNat) (0 : Int32) σ)
theorem hdX4_leastGray : yX4_leastGray.cls = RX4 ∧ yX4_leastGray.cls ≠ "java/lang/invoke/MethodHandle" ∧ yX4_leastGray.cls ≠ "java/lang/invoke/VarHandle" ∧ (parseMethodDescriptor yX4_leastGray.desc).map (fun d => d.parameters.length) = some 0 := by decide +kernel
set_option maxHeartbeats 4000000 in
set_option maxRecDepth 100000 in
theorem kX4_leastGray (l : Launch) (D : va_G) (a : Nat → Nat) (cI cZ : ClassId) (σ : CSt) : CR l D (tyIZ cI cZ) (wC a cI cZ) yX4_leastGray cX4_leastGray 2 .int (rmk 2 42) [.ref (a 1)] σ (fX4_leastGray σ) σ := by
  refine CR.of pnX4 ⟨rfl, rfl⟩ (Nat.le_of_ble_eq_true rfl) rfl (fun p e s m args below meth c A Q ls C X hA hl ret => ?_)
  have C : Cx p s m args meth c cX4_leastGray 2 RX4 D (tyIZ cI cZ) := C
  have hx := C.1
  have hb := C.2.1
  have hl : lv_has ls 2 [(0, .ref (a 1))] := hl
  refine lv_iconst (v := (0)) hx hb dX4_leastGray_0 (by decide) ?_
  refine lv_istore_n (lv' := [(1, .int (0 : Int32)), (0, .ref (a 1))]) hx hb dX4_leastGray_1 rfl hl (by decide) rfl (fun ls hl => ?_)
  have L2 : ∀ (f : Nat) (y1 : Int32) (hf : ((Int32.toInt (c_tmade σ)) - (Int32.toInt y1)).toNat = f) (hnn : 0 ≤ Int32.toInt y1) (he : fX4_leastGray_L2 f y1 σ = (fX4_leastGray σ)) (H : Heap) (locs : List Loc) (ls : Array Slot) (X : Sx A D (wC a cI cZ σ) s H locs) (hl : lv_has ls 2 [(0, .ref (a 1)), (1, .int y1)]), W p l e (rmk 2 42) s m args below meth c H locs 0 0 Q (F0 m 2 ls []) := by
    intro f
    induction f with
    | zero =>
      intro y1 hf hnn he H locs ls X hl
      refine lv_iload_n hx hb dX4_leastGray_2 rfl (lv_at hl 1 rfl) ?_
      refine lv_aload_n hx hb dX4_leastGray_3 rfl (lv_at hl 0 rfl) ?_
      refine cg_X4_X4_made (v := (c_tmade σ)) C X rfl dX4_leastGray_4 ?_
      refine lv_icmp_ge (tgt := 27) hx hb dX4_leastGray_7 (by decide) (fun c7 => ?_) (fun c7 => (lp_z hf c7).elim)
      refine lv_iconst (v := (-1)) hx hb dX4_leastGray_27 (by decide) ?_
      exact ret dX4_leastGray_28 (congrArg (fun z => (z, _)) he) X
    | succ f ih2 =>
      intro y1 hf hnn he H locs ls X hl
      refine lv_iload_n hx hb dX4_leastGray_2 rfl (lv_at hl 1 rfl) ?_
      refine lv_aload_n hx hb dX4_leastGray_3 rfl (lv_at hl 0 rfl) ?_
      refine cg_X4_X4_made (v := (c_tmade σ)) C X rfl dX4_leastGray_4 ?_
      refine lv_icmp_ge (tgt := 27) hx hb dX4_leastGray_7 (by decide) (fun c7 => (lp_s hf c7).elim) (fun c7 => ?_)
      refine lv_aload_n hx hb dX4_leastGray_10 rfl (lv_at hl 0 rfl) ?_
      refine lv_iload_n hx hb dX4_leastGray_11 rfl (lv_at hl 1 rfl) ?_
      refine callVR (rest := []) C hA (wC_sh a cI cZ) X (kX4_colourOf l D a cI cZ _ y1) (cwV 1 C.2.2.2.2.1 (gV wl_X4_53 wt_yX4_colourOf ws_yX4_colourOf wi_X4 wk_yX4_colourOf) rfl rfl rfl hdX4_colourOf ⟨Nat.le_of_ble_eq_true rfl, Nat.le_of_ble_eq_true rfl⟩) (ci := 4) (q0 := 1) rfl rfl rfl hl.1 rfl (Nat.le_of_ble_eq_true rfl) dX4_leastGray_12 ⟨Nat.le_refl 0, Nat.le_refl 0⟩ (fun H locs X => ?_)
      refine lv_iconst (v := (1)) hx hb dX4_leastGray_15 (by decide) ?_
      refine lv_icmp_ne (tgt := 21) hx hb dX4_leastGray_16 (by decide) (fun c16 => ?_) (fun c16 => ?_)
      · refine lv_iinc (v := (y1 + 1)) (lv' := [(1, .int (y1 + 1)), (0, .ref (a 1))]) hx hb dX4_leastGray_21 hl (k := 1) rfl rfl (by decide) rfl (fun ls hl => ?_)
        refine lv_goto (tgt := 2) hx hb dX4_leastGray_24 (by decide) ?_
        exact ih2 (y1 + 1) (lp_b hf) (lp_nn hnn hf) (Eq.trans (Eq.symm (if_neg c16)) he) _ _ _ X (lv_sub hl [1, 0] rfl)
      · refine lv_iload_n hx hb dX4_leastGray_19 rfl (lv_at hl 1 rfl) ?_
        exact ret dX4_leastGray_20 (congrArg (fun z => (z, _)) (Eq.trans (Eq.symm (if_pos c16)) he)) X
  exact L2 (((Int32.toInt (c_tmade σ)) - (Int32.toInt (0 : Int32))).toNat) (0 : Int32) rfl (by decide) rfl _ _ _ X (lv_sub hl [1, 0] rfl)
def fX4_nextNotFreed_L2 : Nat → Int32 → CSt → Int32
  | 0, y2, σ0 => (-1 : Int32)
  | f + 1, y2, σ0 => (if (fX4_isFreed σ0 y2) = (0 : Int32) then y2 else (fX4_nextNotFreed_L2 f (y2 + 1) σ0))
def fX4_nextNotFreed (σ : CSt) (x1 : Int32) : Int32 := (fX4_nextNotFreed_L2 (((Int32.toInt (c_tmade σ)) - (Int32.toInt x1)).toNat) x1 σ)
theorem hdX4_nextNotFreed : yX4_nextNotFreed.cls = RX4 ∧ yX4_nextNotFreed.cls ≠ "java/lang/invoke/MethodHandle" ∧ yX4_nextNotFreed.cls ≠ "java/lang/invoke/VarHandle" ∧ (parseMethodDescriptor yX4_nextNotFreed.desc).map (fun d => d.parameters.length) = some 1 := by decide +kernel
set_option maxHeartbeats 4000000 in
set_option maxRecDepth 100000 in
theorem kX4_nextNotFreed (l : Launch) (D : va_G) (a : Nat → Nat) (cI cZ : ClassId) (σ : CSt) (x1 : Int32) : CR l D (tyIZ cI cZ) (wC a cI cZ) yX4_nextNotFreed cX4_nextNotFreed 3 .int (rmk 2 42) [.ref (a 1), .int x1] σ (fX4_nextNotFreed σ x1) σ := by
  refine CR.of pnX4 ⟨rfl, rfl⟩ (Nat.le_of_ble_eq_true rfl) rfl (fun p e s m args below meth c A Q ls C X hA hl ret => ?_)
  have C : Cx p s m args meth c cX4_nextNotFreed 3 RX4 D (tyIZ cI cZ) := C
  have hx := C.1
  have hb := C.2.1
  have hl : lv_has ls 3 [(0, .ref (a 1)), (1, .int x1)] := hl
  refine lv_iload_n hx hb dX4_nextNotFreed_0 rfl (lv_at hl 1 rfl) ?_
  refine lv_istore_n (lv' := [(2, .int x1), (0, .ref (a 1)), (1, .int x1)]) hx hb dX4_nextNotFreed_1 rfl hl (by decide) rfl (fun ls hl => ?_)
  have L2 : ∀ (f : Nat) (y2 : Int32) (hf : ((Int32.toInt (c_tmade σ)) - (Int32.toInt y2)).toNat = f) (he : fX4_nextNotFreed_L2 f y2 σ = (fX4_nextNotFreed σ x1)) (H : Heap) (locs : List Loc) (ls : Array Slot) (X : Sx A D (wC a cI cZ σ) s H locs) (hl : lv_has ls 3 [(0, .ref (a 1)), (2, .int y2)]), W p l e (rmk 2 42) s m args below meth c H locs 0 0 Q (F0 m 2 ls []) := by
    intro f
    induction f with
    | zero =>
      intro y2 hf he H locs ls X hl
      refine lv_iload_n hx hb dX4_nextNotFreed_2 rfl (lv_at hl 1 rfl) ?_
      refine lv_aload_n hx hb dX4_nextNotFreed_3 rfl (lv_at hl 0 rfl) ?_
      refine cg_X4_X4_made (v := (c_tmade σ)) C X rfl dX4_nextNotFreed_4 ?_
      refine lv_icmp_ge (tgt := 26) hx hb dX4_nextNotFreed_7 (by decide) (fun c7 => ?_) (fun c7 => (lp_z hf c7).elim)
      refine lv_iconst (v := (-1)) hx hb dX4_nextNotFreed_26 (by decide) ?_
      exact ret dX4_nextNotFreed_27 (congrArg (fun z => (z, _)) he) X
    | succ f ih2 =>
      intro y2 hf he H locs ls X hl
      refine lv_iload_n hx hb dX4_nextNotFreed_2 rfl (lv_at hl 1 rfl) ?_
      refine lv_aload_n hx hb dX4_nextNotFreed_3 rfl (lv_at hl 0 rfl) ?_
      refine cg_X4_X4_made (v := (c_tmade σ)) C X rfl dX4_nextNotFreed_4 ?_
      refine lv_icmp_ge (tgt := 26) hx hb dX4_nextNotFreed_7 (by decide) (fun c7 => (lp_s hf c7).elim) (fun c7 => ?_)
      refine lv_aload_n hx hb dX4_nextNotFreed_10 rfl (lv_at hl 0 rfl) ?_
      refine lv_iload_n hx hb dX4_nextNotFreed_11 rfl (lv_at hl 1 rfl) ?_
      refine callVR (rest := []) C hA (wC_sh a cI cZ) X (kX4_isFreed l D a cI cZ _ y2) (cwV 1 C.2.2.2.2.1 (gV wl_X4_46 wt_yX4_isFreed ws_yX4_isFreed wi_X4 wk_yX4_isFreed) rfl rfl rfl hdX4_isFreed ⟨Nat.le_of_ble_eq_true rfl, Nat.le_of_ble_eq_true rfl⟩) (ci := 4) (q0 := 1) rfl rfl rfl hl.1 rfl (Nat.le_of_ble_eq_true rfl) dX4_nextNotFreed_12 ⟨Nat.le_refl 0, Nat.le_refl 0⟩ (fun H locs X => ?_)
      refine lv_if_ne (tgt := 20) hx hb dX4_nextNotFreed_15 (by decide) (fun c15 => ?_) (fun c15 => ?_)
      · refine lv_iinc (v := (y2 + 1)) (lv' := [(2, .int (y2 + 1)), (0, .ref (a 1))]) hx hb dX4_nextNotFreed_20 hl (k := 1) rfl rfl (by decide) rfl (fun ls hl => ?_)
        refine lv_goto (tgt := 2) hx hb dX4_nextNotFreed_23 (by decide) ?_
        exact ih2 (y2 + 1) (lp_b hf) (Eq.trans (Eq.symm (if_neg c15)) he) _ _ _ X (lv_sub hl [1, 0] rfl)
      · refine lv_iload_n hx hb dX4_nextNotFreed_18 rfl (lv_at hl 1 rfl) ?_
        exact ret dX4_nextNotFreed_19 (congrArg (fun z => (z, _)) (Eq.trans (Eq.symm (if_pos c15)) he)) X
  exact L2 (((Int32.toInt (c_tmade σ)) - (Int32.toInt x1)).toNat) x1 rfl rfl _ _ _ X (lv_sub hl [1, 0] rfl)
def fX4_countGray_L4 : Nat → Int32 → Int32 → CSt → Int32
  | 0, y1, y2, σ0 => y1
  | f + 1, y1, y2, σ0 => (if (fX4_colourOf σ0 y2) = (1 : Int32) then (fX4_countGray_L4 f (y1 + 1) (y2 + 1) σ0) else (fX4_countGray_L4 f y1 (y2 + 1) σ0))
def fX4_countGray (σ : CSt) : Int32 := (fX4_countGray_L4 (((Int32.toInt (c_tmade σ)) - (Int32.toInt (0 : Int32))).toNat) (0 : Int32) (0 : Int32) σ)
theorem hdX4_countGray : yX4_countGray.cls = RX4 ∧ yX4_countGray.cls ≠ "java/lang/invoke/MethodHandle" ∧ yX4_countGray.cls ≠ "java/lang/invoke/VarHandle" ∧ (parseMethodDescriptor yX4_countGray.desc).map (fun d => d.parameters.length) = some 0 := by decide +kernel
set_option maxHeartbeats 4000000 in
set_option maxRecDepth 100000 in
theorem kX4_countGray (l : Launch) (D : va_G) (a : Nat → Nat) (cI cZ : ClassId) (σ : CSt) : CR l D (tyIZ cI cZ) (wC a cI cZ) yX4_countGray cX4_countGray 3 .int (rmk 2 42) [.ref (a 1)] σ (fX4_countGray σ) σ := by
  refine CR.of pnX4 ⟨rfl, rfl⟩ (Nat.le_of_ble_eq_true rfl) rfl (fun p e s m args below meth c A Q ls C X hA hl ret => ?_)
  have C : Cx p s m args meth c cX4_countGray 3 RX4 D (tyIZ cI cZ) := C
  have hx := C.1
  have hb := C.2.1
  have hl : lv_has ls 3 [(0, .ref (a 1))] := hl
  refine lv_iconst (v := (0)) hx hb dX4_countGray_0 (by decide) ?_
  refine lv_istore_n (lv' := [(1, .int (0 : Int32)), (0, .ref (a 1))]) hx hb dX4_countGray_1 rfl hl (by decide) rfl (fun ls hl => ?_)
  refine lv_iconst (v := (0)) hx hb dX4_countGray_2 (by decide) ?_
  refine lv_istore_n (lv' := [(2, .int (0 : Int32)), (1, .int (0 : Int32)), (0, .ref (a 1))]) hx hb dX4_countGray_3 rfl hl (by decide) rfl (fun ls hl => ?_)
  have L4 : ∀ (f : Nat) (y1 : Int32) (y2 : Int32) (hf : ((Int32.toInt (c_tmade σ)) - (Int32.toInt y2)).toNat = f) (hnn : 0 ≤ Int32.toInt y2) (he : fX4_countGray_L4 f y1 y2 σ = (fX4_countGray σ)) (H : Heap) (locs : List Loc) (ls : Array Slot) (X : Sx A D (wC a cI cZ σ) s H locs) (hl : lv_has ls 3 [(0, .ref (a 1)), (1, .int y1), (2, .int y2)]), W p l e (rmk 2 42) s m args below meth c H locs 0 0 Q (F0 m 4 ls []) := by
    intro f
    induction f with
    | zero =>
      intro y1 y2 hf hnn he H locs ls X hl
      refine lv_iload_n hx hb dX4_countGray_4 rfl (lv_at hl 2 rfl) ?_
      refine lv_aload_n hx hb dX4_countGray_5 rfl (lv_at hl 0 rfl) ?_
      refine cg_X4_X4_made (v := (c_tmade σ)) C X rfl dX4_countGray_6 ?_
      refine lv_icmp_ge (tgt := 30) hx hb dX4_countGray_9 (by decide) (fun c9 => ?_) (fun c9 => (lp_z hf c9).elim)
      refine lv_iload_n hx hb dX4_countGray_30 rfl (lv_at hl 1 rfl) ?_
      exact ret dX4_countGray_31 (congrArg (fun z => (z, _)) he) X
    | succ f ih4 =>
      intro y1 y2 hf hnn he H locs ls X hl
      refine lv_iload_n hx hb dX4_countGray_4 rfl (lv_at hl 2 rfl) ?_
      refine lv_aload_n hx hb dX4_countGray_5 rfl (lv_at hl 0 rfl) ?_
      refine cg_X4_X4_made (v := (c_tmade σ)) C X rfl dX4_countGray_6 ?_
      refine lv_icmp_ge (tgt := 30) hx hb dX4_countGray_9 (by decide) (fun c9 => (lp_s hf c9).elim) (fun c9 => ?_)
      refine lv_aload_n hx hb dX4_countGray_12 rfl (lv_at hl 0 rfl) ?_
      refine lv_iload_n hx hb dX4_countGray_13 rfl (lv_at hl 2 rfl) ?_
      refine callVR (rest := []) C hA (wC_sh a cI cZ) X (kX4_colourOf l D a cI cZ _ y2) (cwV 1 C.2.2.2.2.1 (gV wl_X4_53 wt_yX4_colourOf ws_yX4_colourOf wi_X4 wk_yX4_colourOf) rfl rfl rfl hdX4_colourOf ⟨Nat.le_of_ble_eq_true rfl, Nat.le_of_ble_eq_true rfl⟩) (ci := 4) (q0 := 1) rfl rfl rfl hl.1 rfl (Nat.le_of_ble_eq_true rfl) dX4_countGray_14 ⟨Nat.le_refl 0, Nat.le_refl 0⟩ (fun H locs X => ?_)
      refine lv_iconst (v := (1)) hx hb dX4_countGray_17 (by decide) ?_
      refine lv_icmp_ne (tgt := 24) hx hb dX4_countGray_18 (by decide) (fun c18 => ?_) (fun c18 => ?_)
      · refine lv_iinc (v := (y2 + 1)) (lv' := [(2, .int (y2 + 1)), (0, .ref (a 1)), (1, .int y1)]) hx hb dX4_countGray_24 hl (k := 2) rfl rfl (by decide) rfl (fun ls hl => ?_)
        refine lv_goto (tgt := 4) hx hb dX4_countGray_27 (by decide) ?_
        exact ih4 y1 (y2 + 1) (lp_b hf) (lp_nn hnn hf) (Eq.trans (Eq.symm (if_neg c18)) he) _ _ _ X (lv_sub hl [1, 2, 0] rfl)
      · refine lv_iinc (v := (y1 + 1)) (lv' := [(1, .int (y1 + 1)), (0, .ref (a 1)), (2, .int y2)]) hx hb dX4_countGray_21 hl (k := 1) rfl rfl (by decide) rfl (fun ls hl => ?_)
        refine lv_iinc (v := (y2 + 1)) (lv' := [(2, .int (y2 + 1)), (1, .int (y1 + 1)), (0, .ref (a 1))]) hx hb dX4_countGray_24 hl (k := 2) rfl rfl (by decide) rfl (fun ls hl => ?_)
        refine lv_goto (tgt := 4) hx hb dX4_countGray_27 (by decide) ?_
        exact ih4 (y1 + 1) (y2 + 1) (lp_b hf) (lp_nn hnn hf) (Eq.trans (Eq.symm (if_pos c18)) he) _ _ _ X (lv_sub hl [2, 1, 0] rfl)
  exact L4 (((Int32.toInt (c_tmade σ)) - (Int32.toInt (0 : Int32))).toNat) (0 : Int32) (0 : Int32) rfl (by decide) rfl _ _ _ X (lv_sub hl [2, 1, 0] rfl)
def fX4_countNotFreed_L4 : Nat → Int32 → Int32 → CSt → Int32
  | 0, y1, y2, σ0 => y1
  | f + 1, y1, y2, σ0 => (if (fX4_isFreed σ0 y2) = (0 : Int32) then (fX4_countNotFreed_L4 f (y1 + 1) (y2 + 1) σ0) else (fX4_countNotFreed_L4 f y1 (y2 + 1) σ0))
def fX4_countNotFreed (σ : CSt) : Int32 := (fX4_countNotFreed_L4 (((Int32.toInt (c_tmade σ)) - (Int32.toInt (0 : Int32))).toNat) (0 : Int32) (0 : Int32) σ)
theorem hdX4_countNotFreed : yX4_countNotFreed.cls = RX4 ∧ yX4_countNotFreed.cls ≠ "java/lang/invoke/MethodHandle" ∧ yX4_countNotFreed.cls ≠ "java/lang/invoke/VarHandle" ∧ (parseMethodDescriptor yX4_countNotFreed.desc).map (fun d => d.parameters.length) = some 0 := by decide +kernel
set_option maxHeartbeats 4000000 in
set_option maxRecDepth 100000 in
theorem kX4_countNotFreed (l : Launch) (D : va_G) (a : Nat → Nat) (cI cZ : ClassId) (σ : CSt) : CR l D (tyIZ cI cZ) (wC a cI cZ) yX4_countNotFreed cX4_countNotFreed 3 .int (rmk 2 42) [.ref (a 1)] σ (fX4_countNotFreed σ) σ := by
  refine CR.of pnX4 ⟨rfl, rfl⟩ (Nat.le_of_ble_eq_true rfl) rfl (fun p e s m args below meth c A Q ls C X hA hl ret => ?_)
  have C : Cx p s m args meth c cX4_countNotFreed 3 RX4 D (tyIZ cI cZ) := C
  have hx := C.1
  have hb := C.2.1
  have hl : lv_has ls 3 [(0, .ref (a 1))] := hl
  refine lv_iconst (v := (0)) hx hb dX4_countNotFreed_0 (by decide) ?_
  refine lv_istore_n (lv' := [(1, .int (0 : Int32)), (0, .ref (a 1))]) hx hb dX4_countNotFreed_1 rfl hl (by decide) rfl (fun ls hl => ?_)
  refine lv_iconst (v := (0)) hx hb dX4_countNotFreed_2 (by decide) ?_
  refine lv_istore_n (lv' := [(2, .int (0 : Int32)), (1, .int (0 : Int32)), (0, .ref (a 1))]) hx hb dX4_countNotFreed_3 rfl hl (by decide) rfl (fun ls hl => ?_)
  have L4 : ∀ (f : Nat) (y1 : Int32) (y2 : Int32) (hf : ((Int32.toInt (c_tmade σ)) - (Int32.toInt y2)).toNat = f) (hnn : 0 ≤ Int32.toInt y2) (he : fX4_countNotFreed_L4 f y1 y2 σ = (fX4_countNotFreed σ)) (H : Heap) (locs : List Loc) (ls : Array Slot) (X : Sx A D (wC a cI cZ σ) s H locs) (hl : lv_has ls 3 [(0, .ref (a 1)), (1, .int y1), (2, .int y2)]), W p l e (rmk 2 42) s m args below meth c H locs 0 0 Q (F0 m 4 ls []) := by
    intro f
    induction f with
    | zero =>
      intro y1 y2 hf hnn he H locs ls X hl
      refine lv_iload_n hx hb dX4_countNotFreed_4 rfl (lv_at hl 2 rfl) ?_
      refine lv_aload_n hx hb dX4_countNotFreed_5 rfl (lv_at hl 0 rfl) ?_
      refine cg_X4_X4_made (v := (c_tmade σ)) C X rfl dX4_countNotFreed_6 ?_
      refine lv_icmp_ge (tgt := 29) hx hb dX4_countNotFreed_9 (by decide) (fun c9 => ?_) (fun c9 => (lp_z hf c9).elim)
      refine lv_iload_n hx hb dX4_countNotFreed_29 rfl (lv_at hl 1 rfl) ?_
      exact ret dX4_countNotFreed_30 (congrArg (fun z => (z, _)) he) X
    | succ f ih4 =>
      intro y1 y2 hf hnn he H locs ls X hl
      refine lv_iload_n hx hb dX4_countNotFreed_4 rfl (lv_at hl 2 rfl) ?_
      refine lv_aload_n hx hb dX4_countNotFreed_5 rfl (lv_at hl 0 rfl) ?_
      refine cg_X4_X4_made (v := (c_tmade σ)) C X rfl dX4_countNotFreed_6 ?_
      refine lv_icmp_ge (tgt := 29) hx hb dX4_countNotFreed_9 (by decide) (fun c9 => (lp_s hf c9).elim) (fun c9 => ?_)
      refine lv_aload_n hx hb dX4_countNotFreed_12 rfl (lv_at hl 0 rfl) ?_
      refine lv_iload_n hx hb dX4_countNotFreed_13 rfl (lv_at hl 2 rfl) ?_
      refine callVR (rest := []) C hA (wC_sh a cI cZ) X (kX4_isFreed l D a cI cZ _ y2) (cwV 1 C.2.2.2.2.1 (gV wl_X4_46 wt_yX4_isFreed ws_yX4_isFreed wi_X4 wk_yX4_isFreed) rfl rfl rfl hdX4_isFreed ⟨Nat.le_of_ble_eq_true rfl, Nat.le_of_ble_eq_true rfl⟩) (ci := 4) (q0 := 1) rfl rfl rfl hl.1 rfl (Nat.le_of_ble_eq_true rfl) dX4_countNotFreed_14 ⟨Nat.le_refl 0, Nat.le_refl 0⟩ (fun H locs X => ?_)
      refine lv_if_ne (tgt := 23) hx hb dX4_countNotFreed_17 (by decide) (fun c17 => ?_) (fun c17 => ?_)
      · refine lv_iinc (v := (y2 + 1)) (lv' := [(2, .int (y2 + 1)), (0, .ref (a 1)), (1, .int y1)]) hx hb dX4_countNotFreed_23 hl (k := 2) rfl rfl (by decide) rfl (fun ls hl => ?_)
        refine lv_goto (tgt := 4) hx hb dX4_countNotFreed_26 (by decide) ?_
        exact ih4 y1 (y2 + 1) (lp_b hf) (lp_nn hnn hf) (Eq.trans (Eq.symm (if_neg c17)) he) _ _ _ X (lv_sub hl [1, 2, 0] rfl)
      · refine lv_iinc (v := (y1 + 1)) (lv' := [(1, .int (y1 + 1)), (0, .ref (a 1)), (2, .int y2)]) hx hb dX4_countNotFreed_20 hl (k := 1) rfl rfl (by decide) rfl (fun ls hl => ?_)
        refine lv_iinc (v := (y2 + 1)) (lv' := [(2, .int (y2 + 1)), (1, .int (y1 + 1)), (0, .ref (a 1))]) hx hb dX4_countNotFreed_23 hl (k := 2) rfl rfl (by decide) rfl (fun ls hl => ?_)
        refine lv_goto (tgt := 4) hx hb dX4_countNotFreed_26 (by decide) ?_
        exact ih4 (y1 + 1) (y2 + 1) (lp_b hf) (lp_nn hnn hf) (Eq.trans (Eq.symm (if_pos c17)) he) _ _ _ X (lv_sub hl [2, 1, 0] rfl)
  exact L4 (((Int32.toInt (c_tmade σ)) - (Int32.toInt (0 : Int32))).toNat) (0 : Int32) (0 : Int32) rfl (by decide) rfl _ _ _ X (lv_sub hl [2, 1, 0] rfl)
def fX4_cellsOfWhite_L4 : Nat → Int32 → Int32 → CSt → Int32
  | 0, y1, y2, σ0 => y1
  | f + 1, y1, y2, σ0 => (if (fX4_isWhite σ0 y2) = (0 : Int32) then (fX4_cellsOfWhite_L4 f y1 (y2 + 1) σ0) else (if (fX4_isFreed σ0 y2) = (0 : Int32) then (fX4_cellsOfWhite_L4 f (y1 + (fX4_sizeOf σ0 y2)) (y2 + 1) σ0) else (fX4_cellsOfWhite_L4 f y1 (y2 + 1) σ0)))
def fX4_cellsOfWhite (σ : CSt) : Int32 := (fX4_cellsOfWhite_L4 (((Int32.toInt (c_tmade σ)) - (Int32.toInt (0 : Int32))).toNat) (0 : Int32) (0 : Int32) σ)
theorem hdX4_cellsOfWhite : yX4_cellsOfWhite.cls = RX4 ∧ yX4_cellsOfWhite.cls ≠ "java/lang/invoke/MethodHandle" ∧ yX4_cellsOfWhite.cls ≠ "java/lang/invoke/VarHandle" ∧ (parseMethodDescriptor yX4_cellsOfWhite.desc).map (fun d => d.parameters.length) = some 0 := by decide +kernel
set_option maxHeartbeats 4000000 in
set_option maxRecDepth 100000 in
theorem kX4_cellsOfWhite (l : Launch) (D : va_G) (a : Nat → Nat) (cI cZ : ClassId) (σ : CSt) : CR l D (tyIZ cI cZ) (wC a cI cZ) yX4_cellsOfWhite cX4_cellsOfWhite 3 .int (rmk 2 42) [.ref (a 1)] σ (fX4_cellsOfWhite σ) σ := by
  refine CR.of pnX4 ⟨rfl, rfl⟩ (Nat.le_of_ble_eq_true rfl) rfl (fun p e s m args below meth c A Q ls C X hA hl ret => ?_)
  have C : Cx p s m args meth c cX4_cellsOfWhite 3 RX4 D (tyIZ cI cZ) := C
  have hx := C.1
  have hb := C.2.1
  have hl : lv_has ls 3 [(0, .ref (a 1))] := hl
  refine lv_iconst (v := (0)) hx hb dX4_cellsOfWhite_0 (by decide) ?_
  refine lv_istore_n (lv' := [(1, .int (0 : Int32)), (0, .ref (a 1))]) hx hb dX4_cellsOfWhite_1 rfl hl (by decide) rfl (fun ls hl => ?_)
  refine lv_iconst (v := (0)) hx hb dX4_cellsOfWhite_2 (by decide) ?_
  refine lv_istore_n (lv' := [(2, .int (0 : Int32)), (1, .int (0 : Int32)), (0, .ref (a 1))]) hx hb dX4_cellsOfWhite_3 rfl hl (by decide) rfl (fun ls hl => ?_)
  have L4 : ∀ (f : Nat) (y1 : Int32) (y2 : Int32) (hf : ((Int32.toInt (c_tmade σ)) - (Int32.toInt y2)).toNat = f) (hnn : 0 ≤ Int32.toInt y2) (he : fX4_cellsOfWhite_L4 f y1 y2 σ = (fX4_cellsOfWhite σ)) (H : Heap) (locs : List Loc) (ls : Array Slot) (X : Sx A D (wC a cI cZ σ) s H locs) (hl : lv_has ls 3 [(0, .ref (a 1)), (1, .int y1), (2, .int y2)]), W p l e (rmk 2 42) s m args below meth c H locs 0 0 Q (F0 m 4 ls []) := by
    intro f
    induction f with
    | zero =>
      intro y1 y2 hf hnn he H locs ls X hl
      refine lv_iload_n hx hb dX4_cellsOfWhite_4 rfl (lv_at hl 2 rfl) ?_
      refine lv_aload_n hx hb dX4_cellsOfWhite_5 rfl (lv_at hl 0 rfl) ?_
      refine cg_X4_X4_made (v := (c_tmade σ)) C X rfl dX4_cellsOfWhite_6 ?_
      refine lv_icmp_ge (tgt := 42) hx hb dX4_cellsOfWhite_9 (by decide) (fun c9 => ?_) (fun c9 => (lp_z hf c9).elim)
      refine lv_iload_n hx hb dX4_cellsOfWhite_42 rfl (lv_at hl 1 rfl) ?_
      exact ret dX4_cellsOfWhite_43 (congrArg (fun z => (z, _)) he) X
    | succ f ih4 =>
      intro y1 y2 hf hnn he H locs ls X hl
      refine lv_iload_n hx hb dX4_cellsOfWhite_4 rfl (lv_at hl 2 rfl) ?_
      refine lv_aload_n hx hb dX4_cellsOfWhite_5 rfl (lv_at hl 0 rfl) ?_
      refine cg_X4_X4_made (v := (c_tmade σ)) C X rfl dX4_cellsOfWhite_6 ?_
      refine lv_icmp_ge (tgt := 42) hx hb dX4_cellsOfWhite_9 (by decide) (fun c9 => (lp_s hf c9).elim) (fun c9 => ?_)
      refine lv_aload_n hx hb dX4_cellsOfWhite_12 rfl (lv_at hl 0 rfl) ?_
      refine lv_iload_n hx hb dX4_cellsOfWhite_13 rfl (lv_at hl 2 rfl) ?_
      refine callVR (rest := []) C hA (wC_sh a cI cZ) X (kX4_isWhite l D a cI cZ _ y2) (cwV 1 C.2.2.2.2.1 (gV wl_X4_57 wt_yX4_isWhite ws_yX4_isWhite wi_X4 wk_yX4_isWhite) rfl rfl rfl hdX4_isWhite ⟨Nat.le_of_ble_eq_true rfl, Nat.le_of_ble_eq_true rfl⟩) (ci := 4) (q0 := 1) rfl rfl rfl hl.1 rfl (Nat.le_of_ble_eq_true rfl) dX4_cellsOfWhite_14 ⟨Nat.le_refl 0, Nat.le_refl 0⟩ (fun H locs X => ?_)
      refine lv_if_eq (tgt := 36) hx hb dX4_cellsOfWhite_17 (by decide) (fun c17 => ?_) (fun c17 => ?_)
      · refine lv_iinc (v := (y2 + 1)) (lv' := [(2, .int (y2 + 1)), (0, .ref (a 1)), (1, .int y1)]) hx hb dX4_cellsOfWhite_36 hl (k := 2) rfl rfl (by decide) rfl (fun ls hl => ?_)
        refine lv_goto (tgt := 4) hx hb dX4_cellsOfWhite_39 (by decide) ?_
        exact ih4 y1 (y2 + 1) (lp_b hf) (lp_nn hnn hf) (Eq.trans (Eq.symm (if_pos c17)) he) _ _ _ X (lv_sub hl [1, 2, 0] rfl)
      · refine lv_aload_n hx hb dX4_cellsOfWhite_20 rfl (lv_at hl 0 rfl) ?_
        refine lv_iload_n hx hb dX4_cellsOfWhite_21 rfl (lv_at hl 2 rfl) ?_
        refine callVR (rest := []) C hA (wC_sh a cI cZ) X (kX4_isFreed l D a cI cZ _ y2) (cwV 1 C.2.2.2.2.1 (gV wl_X4_46 wt_yX4_isFreed ws_yX4_isFreed wi_X4 wk_yX4_isFreed) rfl rfl rfl hdX4_isFreed ⟨Nat.le_of_ble_eq_true rfl, Nat.le_of_ble_eq_true rfl⟩) (ci := 4) (q0 := 1) rfl rfl rfl hl.1 rfl (Nat.le_of_ble_eq_true rfl) dX4_cellsOfWhite_22 ⟨Nat.le_refl 0, Nat.le_refl 0⟩ (fun H locs X => ?_)
        refine lv_if_ne (tgt := 36) hx hb dX4_cellsOfWhite_25 (by decide) (fun c25 => ?_) (fun c25 => ?_)
        · refine lv_iinc (v := (y2 + 1)) (lv' := [(2, .int (y2 + 1)), (0, .ref (a 1)), (1, .int y1)]) hx hb dX4_cellsOfWhite_36 hl (k := 2) rfl rfl (by decide) rfl (fun ls hl => ?_)
          refine lv_goto (tgt := 4) hx hb dX4_cellsOfWhite_39 (by decide) ?_
          exact ih4 y1 (y2 + 1) (lp_b hf) (lp_nn hnn hf) (Eq.trans (Eq.symm (Eq.trans (if_neg c17) (if_neg c25))) he) _ _ _ X (lv_sub hl [1, 2, 0] rfl)
        · refine lv_iload_n hx hb dX4_cellsOfWhite_28 rfl (lv_at hl 1 rfl) ?_
          refine lv_aload_n hx hb dX4_cellsOfWhite_29 rfl (lv_at hl 0 rfl) ?_
          refine lv_iload_n hx hb dX4_cellsOfWhite_30 rfl (lv_at hl 2 rfl) ?_
          refine callVR (rest := [.int y1]) C hA (wC_sh a cI cZ) X (kX4_sizeOf l D a cI cZ _ y2) (cwV 1 C.2.2.2.2.1 (gV wl_X4_60 wt_yX4_sizeOf ws_yX4_sizeOf wi_X4 wk_yX4_sizeOf) rfl rfl rfl hdX4_sizeOf ⟨Nat.le_of_ble_eq_true rfl, Nat.le_of_ble_eq_true rfl⟩) (ci := 4) (q0 := 1) rfl rfl rfl hl.1 rfl (Nat.le_of_ble_eq_true rfl) dX4_cellsOfWhite_31 ⟨Nat.le_refl 0, Nat.le_refl 0⟩ (fun H locs X => ?_)
          refine lv_iadd hx hb dX4_cellsOfWhite_34 ?_
          refine lv_istore_n (lv' := [(1, .int (y1 + (fX4_sizeOf σ y2))), (0, .ref (a 1)), (2, .int y2)]) hx hb dX4_cellsOfWhite_35 rfl hl (by decide) rfl (fun ls hl => ?_)
          refine lv_iinc (v := (y2 + 1)) (lv' := [(2, .int (y2 + 1)), (1, .int (y1 + (fX4_sizeOf σ y2))), (0, .ref (a 1))]) hx hb dX4_cellsOfWhite_36 hl (k := 2) rfl rfl (by decide) rfl (fun ls hl => ?_)
          refine lv_goto (tgt := 4) hx hb dX4_cellsOfWhite_39 (by decide) ?_
          exact ih4 (y1 + (fX4_sizeOf σ y2)) (y2 + 1) (lp_b hf) (lp_nn hnn hf) (Eq.trans (Eq.symm (Eq.trans (if_neg c17) (if_pos c25))) he) _ _ _ X (lv_sub hl [2, 1, 0] rfl)
  exact L4 (((Int32.toInt (c_tmade σ)) - (Int32.toInt (0 : Int32))).toNat) (0 : Int32) (0 : Int32) rfl (by decide) rfl _ _ _ X (lv_sub hl [2, 1, 0] rfl)
def fX4_add_L78 (z5 : Int32) : Nat → Int32 → CSt → Int32 × CSt
  | 0, y6, σ78 => (z5, (c_tmade_s σ78 ((c_tmade σ78) + (1 : Int32))))
  | f + 1, y6, σ78 => (fX4_add_L78 z5 f (y6 + 1) (c_theld_s σ78 (upd (c_theld σ78) (ix ((z5 * (6 : Int32)) + y6)) (-1 : Int32))))
def fX4_add (σ : CSt) (x1 : Int32) (x2 : Int32) (x3 : Int32) (x4 : Int32) : Int32 × CSt := (if (c_tmade σ) < (0 : Int32) then ((-1 : Int32), σ) else (if (c_tmade σ) < (120 : Int32) then (fX4_add_L78 (c_tmade σ) (((Int32.toInt (6 : Int32)) - (Int32.toInt (0 : Int32))).toNat) (0 : Int32) (c_wishing_s (c_freed_s (c_moves_s (c_colours_s (c_places_s (c_sizes_s σ (upd (c_sizes σ) (ix (c_tmade σ)) (x1 + (1 : Int32)))) (upd (c_places σ) (ix (c_tmade σ)) x4)) (upd (c_colours σ) (ix (c_tmade σ)) x3)) (upd (c_moves σ) (ix (c_tmade σ)) (0 : Int32))) (upd (c_freed σ) (ix (c_tmade σ)) (0 : Int32))) (upd (c_wishing σ) (ix (c_tmade σ)) (vp_nar .boolean x2)))) else ((-1 : Int32), σ)))
theorem hdX4_add : yX4_add.cls = RX4 ∧ yX4_add.cls ≠ "java/lang/invoke/MethodHandle" ∧ yX4_add.cls ≠ "java/lang/invoke/VarHandle" ∧ (parseMethodDescriptor yX4_add.desc).map (fun d => d.parameters.length) = some 4 := by decide +kernel
set_option maxHeartbeats 4000000 in
set_option maxRecDepth 100000 in
theorem kX4_add (l : Launch) (D : va_G) (a : Nat → Nat) (cI cZ : ClassId) (σ : CSt) (x1 : Int32) (x2 : Int32) (x3 : Int32) (x4 : Int32) : CR l D (tyIZ cI cZ) (wC a cI cZ) yX4_add cX4_add 7 .int (rmk 0 0) [.ref (a 1), .int x1, .int x2, .int x3, .int x4] σ (fX4_add σ x1 x2 x3 x4).1 (fX4_add σ x1 x2 x3 x4).2 := by
  refine CR.of pnX4 ⟨rfl, rfl⟩ (Nat.le_of_ble_eq_true rfl) rfl (fun p e s m args below meth c A Q ls C X hA hl ret => ?_)
  have C : Cx p s m args meth c cX4_add 7 RX4 D (tyIZ cI cZ) := C
  have hx := C.1
  have hb := C.2.1
  have hl : lv_has ls 7 [(0, .ref (a 1)), (1, .int x1), (2, .int x2), (3, .int x3), (4, .int x4)] := hl
  refine lv_aload_n hx hb dX4_add_0 rfl (lv_at hl 0 rfl) ?_
  refine cg_X4_X4_made (v := (c_tmade σ)) C X rfl dX4_add_1 ?_
  refine lv_if_lt (tgt := 16) hx hb dX4_add_4 (by decide) (fun c4 => ?_) (fun c4 => ?_)
  · refine lv_iconst (v := (-1)) hx hb dX4_add_16 (by decide) ?_
    exact ret dX4_add_17 (Eq.symm (if_pos c4)) X
  · refine lv_aload_n hx hb dX4_add_7 rfl (lv_at hl 0 rfl) ?_
    refine cg_X4_X4_made (v := (c_tmade σ)) C X rfl dX4_add_8 ?_
    refine lv_bipush (v := (120)) hx hb dX4_add_11 (by decide) ?_
    refine lv_icmp_lt (tgt := 18) hx hb dX4_add_13 (by decide) (fun c13 => ?_) (fun c13 => ?_)
    · refine lv_aload_n hx hb dX4_add_18 rfl (lv_at hl 0 rfl) ?_
      refine cg_X4_X4_made (v := (c_tmade σ)) C X rfl dX4_add_19 ?_
      refine lv_istore (lv' := [(5, .int (c_tmade σ)), (0, .ref (a 1)), (1, .int x1), (2, .int x2), (3, .int x3), (4, .int x4)]) hx hb dX4_add_22 hl (by decide) rfl (fun ls hl => ?_)
      refine lv_aload_n hx hb dX4_add_24 rfl (lv_at hl 1 rfl) ?_
      refine cg_X4_X4_sizes C X dX4_add_25 ?_
      refine lv_iload hx hb dX4_add_28 (lv_at hl 0 rfl) ?_
      refine lv_iload_n hx hb dX4_add_30 rfl (lv_at hl 2 rfl) ?_
      refine lv_iconst (v := (1)) hx hb dX4_add_31 (by decide) ?_
      refine lv_iadd hx hb dX4_add_32 ?_
      refine cs_sizes C X (vp_in_iff.mpr (by have tc4 := i32_nlt c4; have tc13 := i32_lt c13; have q0_ : (0 : Int32).toInt = 0 := rfl; have q1_ : (120 : Int32).toInt = 120 := rfl; omega)) dX4_add_33 (fun H locs X => ?_)
      refine lv_aload_n hx hb dX4_add_34 rfl (lv_at hl 1 rfl) ?_
      refine cg_X4_X4_places C X dX4_add_35 ?_
      refine lv_iload hx hb dX4_add_38 (lv_at hl 0 rfl) ?_
      refine lv_iload hx hb dX4_add_40 (lv_at hl 5 rfl) ?_
      refine cs_places C X (vp_in_iff.mpr (by have tc4 := i32_nlt c4; have tc13 := i32_lt c13; have q0_ : (0 : Int32).toInt = 0 := rfl; have q1_ : (120 : Int32).toInt = 120 := rfl; omega)) dX4_add_42 (fun H locs X => ?_)
      refine lv_aload_n hx hb dX4_add_43 rfl (lv_at hl 1 rfl) ?_
      refine cg_X4_X4_colours C X dX4_add_44 ?_
      refine lv_iload hx hb dX4_add_47 (lv_at hl 0 rfl) ?_
      refine lv_iload_n hx hb dX4_add_49 rfl (lv_at hl 4 rfl) ?_
      refine cs_colours C X (vp_in_iff.mpr (by have tc4 := i32_nlt c4; have tc13 := i32_lt c13; have q0_ : (0 : Int32).toInt = 0 := rfl; have q1_ : (120 : Int32).toInt = 120 := rfl; omega)) dX4_add_50 (fun H locs X => ?_)
      refine lv_aload_n hx hb dX4_add_51 rfl (lv_at hl 1 rfl) ?_
      refine cg_X4_X4_moves C X dX4_add_52 ?_
      refine lv_iload hx hb dX4_add_55 (lv_at hl 0 rfl) ?_
      refine lv_iconst (v := (0)) hx hb dX4_add_57 (by decide) ?_
      refine cs_moves C X (vp_in_iff.mpr (by have tc4 := i32_nlt c4; have tc13 := i32_lt c13; have q0_ : (0 : Int32).toInt = 0 := rfl; have q1_ : (120 : Int32).toInt = 120 := rfl; omega)) dX4_add_58 (fun H locs X => ?_)
      refine lv_aload_n hx hb dX4_add_59 rfl (lv_at hl 1 rfl) ?_
      refine cg_X4_X4_freed C X dX4_add_60 ?_
      refine lv_iload hx hb dX4_add_63 (lv_at hl 0 rfl) ?_
      refine lv_iconst (v := (0)) hx hb dX4_add_65 (by decide) ?_
      refine cs_freed (x1 := (0 : Int32)) C X (vp_in_iff.mpr (by have tc4 := i32_nlt c4; have tc13 := i32_lt c13; have q0_ : (0 : Int32).toInt = 0 := rfl; have q1_ : (120 : Int32).toInt = 120 := rfl; omega)) rfl dX4_add_66 (fun H locs X => ?_)
      refine lv_aload_n hx hb dX4_add_67 rfl (lv_at hl 1 rfl) ?_
      refine cg_X4_X4_wishing C X dX4_add_68 ?_
      refine lv_iload hx hb dX4_add_71 (lv_at hl 0 rfl) ?_
      refine lv_iload_n hx hb dX4_add_73 rfl (lv_at hl 3 rfl) ?_
      refine cs_wishing (x1 := (vp_nar .boolean x2)) C X (vp_in_iff.mpr (by have tc4 := i32_nlt c4; have tc13 := i32_lt c13; have q0_ : (0 : Int32).toInt = 0 := rfl; have q1_ : (120 : Int32).toInt = 120 := rfl; omega)) rfl dX4_add_74 (fun H locs X => ?_)
      refine lv_iconst (v := (0)) hx hb dX4_add_75 (by decide) ?_
      refine lv_istore (lv' := [(6, .int (0 : Int32)), (5, .int (c_tmade σ)), (0, .ref (a 1)), (1, .int x1), (2, .int x2), (3, .int x3), (4, .int x4)]) hx hb dX4_add_76 hl (by decide) rfl (fun ls hl => ?_)
      have L78 : ∀ (f : Nat) (y6 : Int32) (σ78 : CSt) (hf : ((Int32.toInt (6 : Int32)) - (Int32.toInt y6)).toNat = f) (hnn : 0 ≤ Int32.toInt y6) (he : fX4_add_L78 (c_tmade σ) f y6 σ78 = (fX4_add σ x1 x2 x3 x4)) (H : Heap) (locs : List Loc) (ls : Array Slot) (X : Sx A D (wC a cI cZ σ78) s H locs) (hl : lv_has ls 7 [(0, .ref (a 1)), (5, .int (c_tmade σ)), (6, .int y6)]), W p l e (rmk 0 0) s m args below meth c H locs 0 0 Q (F0 m 78 ls []) := by
        intro f
        induction f with
        | zero =>
          intro y6 σ78 hf hnn he H locs ls X hl
          refine lv_iload hx hb dX4_add_78 (lv_at hl 2 rfl) ?_
          refine lv_bipush (v := (6)) hx hb dX4_add_80 (by decide) ?_
          refine lv_icmp_ge (tgt := 105) hx hb dX4_add_82 (by decide) (fun c82 => ?_) (fun c82 => (lp_z hf c82).elim)
          refine lv_aload_n hx hb dX4_add_105 rfl (lv_at hl 0 rfl) ?_
          refine lv_dup hx hb dX4_add_106 rfl ?_
          refine cg_X4_X4_made (v := (c_tmade σ78)) C X rfl dX4_add_107 ?_
          refine lv_iconst (v := (1)) hx hb dX4_add_110 (by decide) ?_
          refine lv_iadd hx hb dX4_add_111 ?_
          refine cp_X4_X4_made C X dX4_add_112 (fun H locs X => ?_)
          refine lv_iload hx hb dX4_add_115 (lv_at hl 1 rfl) ?_
          exact ret dX4_add_117 he X
        | succ f ih78 =>
          intro y6 σ78 hf hnn he H locs ls X hl
          refine lv_iload hx hb dX4_add_78 (lv_at hl 2 rfl) ?_
          refine lv_bipush (v := (6)) hx hb dX4_add_80 (by decide) ?_
          refine lv_icmp_ge (tgt := 105) hx hb dX4_add_82 (by decide) (fun c82 => (lp_s hf c82).elim) (fun c82 => ?_)
          refine lv_aload_n hx hb dX4_add_85 rfl (lv_at hl 0 rfl) ?_
          refine cg_X4_X4_held C X dX4_add_86 ?_
          refine lv_iload hx hb dX4_add_89 (lv_at hl 1 rfl) ?_
          refine lv_bipush (v := (6)) hx hb dX4_add_91 (by decide) ?_
          refine lv_imul hx hb dX4_add_93 ?_
          refine lv_iload hx hb dX4_add_94 (lv_at hl 2 rfl) ?_
          refine lv_iadd hx hb dX4_add_96 ?_
          refine lv_iconst (v := (-1)) hx hb dX4_add_97 (by decide) ?_
          refine cs_theld C X (in_x6 (vp_in_iff.mpr (by have a1 := i32_nlt c4; have a2 := i32_lt c13; have q0_ : (120 : Int32).toInt = 120 := rfl; have q1_ : (0 : Int32).toInt = 0 := rfl; omega)) (lp_in hnn hf (show (Int32.toInt (6 : Int32) : Int) ≤ 6 by decide))) dX4_add_98 (fun H locs X => ?_)
          refine lv_iinc (v := (y6 + 1)) (lv' := [(6, .int (y6 + 1)), (0, .ref (a 1)), (5, .int (c_tmade σ))]) hx hb dX4_add_99 hl (k := 2) rfl rfl (by decide) rfl (fun ls hl => ?_)
          refine lv_goto (tgt := 78) hx hb dX4_add_102 (by decide) ?_
          exact ih78 (y6 + 1) (c_theld_s σ78 (upd (c_theld σ78) (ix (((c_tmade σ) * (6 : Int32)) + y6)) (-1 : Int32))) (lp_b hf) (lp_nn hnn hf) he _ _ _ X (lv_sub hl [1, 2, 0] rfl)
      exact L78 (((Int32.toInt (6 : Int32)) - (Int32.toInt (0 : Int32))).toNat) (0 : Int32) (c_wishing_s (c_freed_s (c_moves_s (c_colours_s (c_places_s (c_sizes_s σ (upd (c_sizes σ) (ix (c_tmade σ)) (x1 + (1 : Int32)))) (upd (c_places σ) (ix (c_tmade σ)) x4)) (upd (c_colours σ) (ix (c_tmade σ)) x3)) (upd (c_moves σ) (ix (c_tmade σ)) (0 : Int32))) (upd (c_freed σ) (ix (c_tmade σ)) (0 : Int32))) (upd (c_wishing σ) (ix (c_tmade σ)) (vp_nar .boolean x2))) rfl (by decide) (Eq.symm (Eq.trans (if_neg c4) (if_pos c13))) _ _ _ X (lv_sub hl [2, 1, 0] rfl)
    · refine lv_iconst (v := (-1)) hx hb dX4_add_16 (by decide) ?_
      exact ret dX4_add_17 (Eq.symm (Eq.trans (if_neg c4) (if_neg c13))) X
end
section
def fX0_empty_L2 : Nat → Int32 → CSt → CSt
  | 0, y1, σ2 => (c_halfEnd_s (c_behind_s σ2 (0 : Int32)) (100 : Int32))
  | f + 1, y1, σ2 => (fX0_empty_L2 f (y1 + 1) (c_cmap_s σ2 (upd (c_cmap σ2) (ix y1) (-1 : Int32))))
def fX0_empty (σ : CSt) : CSt := (fX0_empty_L2 (((Int32.toInt (200 : Int32)) - (Int32.toInt (0 : Int32))).toNat) (0 : Int32) σ)
theorem hdX0_empty : yX0_empty.cls = RX0 ∧ yX0_empty.cls ≠ "java/lang/invoke/MethodHandle" ∧ yX0_empty.cls ≠ "java/lang/invoke/VarHandle" ∧ (parseMethodDescriptor yX0_empty.desc).map (fun d => d.parameters.length) = some 0 := by decide +kernel
set_option maxHeartbeats 4000000 in
set_option maxRecDepth 100000 in
theorem kX0_empty (l : Launch) (D : va_G) (a : Nat → Nat) (cI cZ : ClassId) (σ : CSt) : CU l D (tyIZ cI cZ) (wC a cI cZ) yX0_empty cX0_empty 2 (rmk 0 0) [.ref (a 2)] σ (fX0_empty σ) := by
  refine CU.of pnX0 ⟨rfl, rfl⟩ (Nat.le_of_ble_eq_true rfl) (fun p e s m args below meth c A Q ls C X hA hl ret => ?_)
  have C : Cx p s m args meth c cX0_empty 2 RX0 D (tyIZ cI cZ) := C
  have hx := C.1
  have hb := C.2.1
  have hl : lv_has ls 2 [(0, .ref (a 2))] := hl
  refine lv_iconst (v := (0)) hx hb dX0_empty_0 (by decide) ?_
  refine lv_istore_n (lv' := [(1, .int (0 : Int32)), (0, .ref (a 2))]) hx hb dX0_empty_1 rfl hl (by decide) rfl (fun ls hl => ?_)
  have L2 : ∀ (f : Nat) (y1 : Int32) (σ2 : CSt) (hf : ((Int32.toInt (200 : Int32)) - (Int32.toInt y1)).toNat = f) (hnn : 0 ≤ Int32.toInt y1) (he : fX0_empty_L2 f y1 σ2 = (fX0_empty σ)) (H : Heap) (locs : List Loc) (ls : Array Slot) (X : Sx A D (wC a cI cZ σ2) s H locs) (hl : lv_has ls 2 [(0, .ref (a 2)), (1, .int y1)]), W p l e (rmk 0 0) s m args below meth c H locs 0 0 Q (F0 m 2 ls []) := by
    intro f
    induction f with
    | zero =>
      intro y1 σ2 hf hnn he H locs ls X hl
      refine lv_iload_n hx hb dX0_empty_2 rfl (lv_at hl 1 rfl) ?_
      refine lv_sipush (v := (200)) hx hb dX0_empty_3 (by decide) ?_
      refine lv_icmp_ge (tgt := 22) hx hb dX0_empty_6 (by decide) (fun c6 => ?_) (fun c6 => (lp_z hf c6).elim)
      refine lv_aload_n hx hb dX0_empty_22 rfl (lv_at hl 0 rfl) ?_
      refine lv_iconst (v := (0)) hx hb dX0_empty_23 (by decide) ?_
      refine cp_X0_X0_behind C X dX0_empty_24 (fun H locs X => ?_)
      refine lv_aload_n hx hb dX0_empty_27 rfl (lv_at hl 0 rfl) ?_
      refine lv_bipush (v := (100)) hx hb dX0_empty_28 (by decide) ?_
      refine cp_X0_X0_halfEnd C X dX0_empty_30 (fun H locs X => ?_)
      exact ret dX0_empty_33 he X
    | succ f ih2 =>
      intro y1 σ2 hf hnn he H locs ls X hl
      refine lv_iload_n hx hb dX0_empty_2 rfl (lv_at hl 1 rfl) ?_
      refine lv_sipush (v := (200)) hx hb dX0_empty_3 (by decide) ?_
      refine lv_icmp_ge (tgt := 22) hx hb dX0_empty_6 (by decide) (fun c6 => (lp_s hf c6).elim) (fun c6 => ?_)
      refine lv_aload_n hx hb dX0_empty_9 rfl (lv_at hl 0 rfl) ?_
      refine cg_X0_X0_things C X dX0_empty_10 ?_
      refine lv_iload_n hx hb dX0_empty_13 rfl (lv_at hl 1 rfl) ?_
      refine lv_iconst (v := (-1)) hx hb dX0_empty_14 (by decide) ?_
      refine cs_cmap C X (lp_in hnn hf (show (Int32.toInt (200 : Int32) : Int) ≤ 200 by decide)) dX0_empty_15 (fun H locs X => ?_)
      refine lv_iinc (v := (y1 + 1)) (lv' := [(1, .int (y1 + 1)), (0, .ref (a 2))]) hx hb dX0_empty_16 hl (k := 1) rfl rfl (by decide) rfl (fun ls hl => ?_)
      refine lv_goto (tgt := 2) hx hb dX0_empty_19 (by decide) ?_
      exact ih2 (y1 + 1) (c_cmap_s σ2 (upd (c_cmap σ2) (ix y1) (-1 : Int32))) (lp_b hf) (lp_nn hnn hf) he _ _ _ X (lv_sub hl [1, 0] rfl)
  exact L2 (((Int32.toInt (200 : Int32)) - (Int32.toInt (0 : Int32))).toNat) (0 : Int32) σ rfl (by decide) rfl _ _ _ X (lv_sub hl [1, 0] rfl)
def fX0_changeHalves (σ : CSt) : CSt := (if (c_halfEnd σ) = (100 : Int32) then (c_halfEnd_s (c_behind_s σ (100 : Int32)) ((100 : Int32) + (100 : Int32))) else (c_halfEnd_s (c_behind_s σ (0 : Int32)) ((0 : Int32) + (100 : Int32))))
theorem hdX0_changeHalves : yX0_changeHalves.cls = RX0 ∧ yX0_changeHalves.cls ≠ "java/lang/invoke/MethodHandle" ∧ yX0_changeHalves.cls ≠ "java/lang/invoke/VarHandle" ∧ (parseMethodDescriptor yX0_changeHalves.desc).map (fun d => d.parameters.length) = some 0 := by decide +kernel
set_option maxHeartbeats 4000000 in
set_option maxRecDepth 100000 in
theorem kX0_changeHalves (l : Launch) (D : va_G) (a : Nat → Nat) (cI cZ : ClassId) (σ : CSt) : CU l D (tyIZ cI cZ) (wC a cI cZ) yX0_changeHalves cX0_changeHalves 1 (rmk 0 0) [.ref (a 2)] σ (fX0_changeHalves σ) := by
  refine CU.of pnX0 ⟨rfl, rfl⟩ (Nat.le_of_ble_eq_true rfl) (fun p e s m args below meth c A Q ls C X hA hl ret => ?_)
  have C : Cx p s m args meth c cX0_changeHalves 1 RX0 D (tyIZ cI cZ) := C
  have hx := C.1
  have hb := C.2.1
  have hl : lv_has ls 1 [(0, .ref (a 2))] := hl
  refine lv_aload_n hx hb dX0_changeHalves_0 rfl (lv_at hl 0 rfl) ?_
  refine lv_aload_n hx hb dX0_changeHalves_1 rfl (lv_at hl 0 rfl) ?_
  refine cg_X0_X0_halfEnd (v := (c_halfEnd σ)) C X rfl dX0_changeHalves_2 ?_
  refine lv_bipush (v := (100)) hx hb dX0_changeHalves_5 (by decide) ?_
  refine lv_icmp_ne (tgt := 15) hx hb dX0_changeHalves_7 (by decide) (fun c7 => ?_) (fun c7 => ?_)
  · refine lv_iconst (v := (0)) hx hb dX0_changeHalves_15 (by decide) ?_
    refine cp_X0_X0_behind C X dX0_changeHalves_16 (fun H locs X => ?_)
    refine lv_aload_n hx hb dX0_changeHalves_19 rfl (lv_at hl 0 rfl) ?_
    refine lv_aload_n hx hb dX0_changeHalves_20 rfl (lv_at hl 0 rfl) ?_
    refine cg_X0_X0_behind (v := (0 : Int32)) C X rfl dX0_changeHalves_21 ?_
    refine lv_bipush (v := (100)) hx hb dX0_changeHalves_24 (by decide) ?_
    refine lv_iadd hx hb dX0_changeHalves_26 ?_
    refine cp_X0_X0_halfEnd C X dX0_changeHalves_27 (fun H locs X => ?_)
    exact ret dX0_changeHalves_30 (Eq.symm (if_neg c7)) X
  · refine lv_bipush (v := (100)) hx hb dX0_changeHalves_10 (by decide) ?_
    refine lv_goto (tgt := 16) hx hb dX0_changeHalves_12 (by decide) ?_
    refine cp_X0_X0_behind C X dX0_changeHalves_16 (fun H locs X => ?_)
    refine lv_aload_n hx hb dX0_changeHalves_19 rfl (lv_at hl 0 rfl) ?_
    refine lv_aload_n hx hb dX0_changeHalves_20 rfl (lv_at hl 0 rfl) ?_
    refine cg_X0_X0_behind (v := (100 : Int32)) C X rfl dX0_changeHalves_21 ?_
    refine lv_bipush (v := (100)) hx hb dX0_changeHalves_24 (by decide) ?_
    refine lv_iadd hx hb dX0_changeHalves_26 ?_
    refine cp_X0_X0_halfEnd C X dX0_changeHalves_27 (fun H locs X => ?_)
    exact ret dX0_changeHalves_30 (Eq.symm (if_pos c7)) X
def fX0_leftBehind (σ : CSt) : Int32 := ((c_halfEnd σ) - (c_behind σ))
theorem hdX0_leftBehind : yX0_leftBehind.cls = RX0 ∧ yX0_leftBehind.cls ≠ "java/lang/invoke/MethodHandle" ∧ yX0_leftBehind.cls ≠ "java/lang/invoke/VarHandle" ∧ (parseMethodDescriptor yX0_leftBehind.desc).map (fun d => d.parameters.length) = some 0 := by decide +kernel
set_option maxHeartbeats 4000000 in
set_option maxRecDepth 100000 in
theorem kX0_leftBehind (l : Launch) (D : va_G) (a : Nat → Nat) (cI cZ : ClassId) (σ : CSt) : CR l D (tyIZ cI cZ) (wC a cI cZ) yX0_leftBehind cX0_leftBehind 1 .int (rmk 0 0) [.ref (a 2)] σ (fX0_leftBehind σ) σ := by
  refine CR.of pnX0 ⟨rfl, rfl⟩ (Nat.le_of_ble_eq_true rfl) rfl (fun p e s m args below meth c A Q ls C X hA hl ret => ?_)
  have C : Cx p s m args meth c cX0_leftBehind 1 RX0 D (tyIZ cI cZ) := C
  have hx := C.1
  have hb := C.2.1
  have hl : lv_has ls 1 [(0, .ref (a 2))] := hl
  refine lv_aload_n hx hb dX0_leftBehind_0 rfl (lv_at hl 0 rfl) ?_
  refine cg_X0_X0_halfEnd (v := (c_halfEnd σ)) C X rfl dX0_leftBehind_1 ?_
  refine lv_aload_n hx hb dX0_leftBehind_4 rfl (lv_at hl 0 rfl) ?_
  refine cg_X0_X0_behind (v := (c_behind σ)) C X rfl dX0_leftBehind_5 ?_
  refine lv_isub hx hb dX0_leftBehind_8 ?_
  exact ret dX0_leftBehind_9 (congrArg (fun z => (z, _)) rfl) X
def fX0_thingAt (σ : CSt) (x1 : Int32) : Int32 := (if x1 < (0 : Int32) then (-1 : Int32) else (if (200 : Int32) ≤ x1 then (-1 : Int32) else ((c_cmap σ) (ix x1))))
theorem hdX0_thingAt : yX0_thingAt.cls = RX0 ∧ yX0_thingAt.cls ≠ "java/lang/invoke/MethodHandle" ∧ yX0_thingAt.cls ≠ "java/lang/invoke/VarHandle" ∧ (parseMethodDescriptor yX0_thingAt.desc).map (fun d => d.parameters.length) = some 1 := by decide +kernel
set_option maxHeartbeats 4000000 in
set_option maxRecDepth 100000 in
theorem kX0_thingAt (l : Launch) (D : va_G) (a : Nat → Nat) (cI cZ : ClassId) (σ : CSt) (x1 : Int32) : CR l D (tyIZ cI cZ) (wC a cI cZ) yX0_thingAt cX0_thingAt 2 .int (rmk 0 0) [.ref (a 2), .int x1] σ (fX0_thingAt σ x1) σ := by
  refine CR.of pnX0 ⟨rfl, rfl⟩ (Nat.le_of_ble_eq_true rfl) rfl (fun p e s m args below meth c A Q ls C X hA hl ret => ?_)
  have C : Cx p s m args meth c cX0_thingAt 2 RX0 D (tyIZ cI cZ) := C
  have hx := C.1
  have hb := C.2.1
  have hl : lv_has ls 2 [(0, .ref (a 2)), (1, .int x1)] := hl
  refine lv_iload_n hx hb dX0_thingAt_0 rfl (lv_at hl 1 rfl) ?_
  refine lv_if_lt (tgt := 20) hx hb dX0_thingAt_1 (by decide) (fun c1 => ?_) (fun c1 => ?_)
  · refine lv_iconst (v := (-1)) hx hb dX0_thingAt_20 (by decide) ?_
    exact ret dX0_thingAt_21 (congrArg (fun z => (z, _)) (Eq.symm (if_pos c1))) X
  · refine lv_iload_n hx hb dX0_thingAt_4 rfl (lv_at hl 1 rfl) ?_
    refine lv_sipush (v := (200)) hx hb dX0_thingAt_5 (by decide) ?_
    refine lv_icmp_ge (tgt := 20) hx hb dX0_thingAt_8 (by decide) (fun c8 => ?_) (fun c8 => ?_)
    · refine lv_iconst (v := (-1)) hx hb dX0_thingAt_20 (by decide) ?_
      exact ret dX0_thingAt_21 (congrArg (fun z => (z, _)) (Eq.symm (Eq.trans (if_neg c1) (if_pos c8)))) X
    · refine lv_aload_n hx hb dX0_thingAt_11 rfl (lv_at hl 0 rfl) ?_
      refine cg_X0_X0_things C X dX0_thingAt_12 ?_
      refine lv_iload_n hx hb dX0_thingAt_15 rfl (lv_at hl 1 rfl) ?_
      refine ca_cmap (v := ((c_cmap σ) (ix x1))) C X (vp_in_iff.mpr (by have tc1 := i32_nlt c1; have tc8 := i32_nle c8; have q0_ : (0 : Int32).toInt = 0 := rfl; have q1_ : (200 : Int32).toInt = 200 := rfl; omega)) rfl dX0_thingAt_16 ?_
      refine lv_goto (tgt := 21) hx hb dX0_thingAt_17 (by decide) ?_
      exact ret dX0_thingAt_21 (congrArg (fun z => (z, _)) (Eq.symm (Eq.trans (if_neg c1) (if_neg c8)))) X
def fX0_assign_L3 (z1 : Int32) (z2 : Int32) (z3 : Int32) : Nat → Int32 → CSt → CSt
  | 0, y4, σ3 => σ3
  | f + 1, y4, σ3 => (if y4 < (0 : Int32) then (fX0_assign_L3 z1 z2 z3 f (y4 + 1) σ3) else (if (200 : Int32) ≤ y4 then (fX0_assign_L3 z1 z2 z3 f (y4 + 1) σ3) else (fX0_assign_L3 z1 z2 z3 f (y4 + 1) (c_cmap_s σ3 (upd (c_cmap σ3) (ix y4) z3)))))
def fX0_assign (σ : CSt) (x1 : Int32) (x2 : Int32) (x3 : Int32) : CSt := (fX0_assign_L3 x1 x2 x3 (((Int32.toInt (x1 + x2)) - (Int32.toInt x1)).toNat) x1 σ)
theorem hdX0_assign : yX0_assign.cls = RX0 ∧ yX0_assign.cls ≠ "java/lang/invoke/MethodHandle" ∧ yX0_assign.cls ≠ "java/lang/invoke/VarHandle" ∧ (parseMethodDescriptor yX0_assign.desc).map (fun d => d.parameters.length) = some 3 := by decide +kernel
set_option maxHeartbeats 4000000 in
set_option maxRecDepth 100000 in
theorem kX0_assign (l : Launch) (D : va_G) (a : Nat → Nat) (cI cZ : ClassId) (σ : CSt) (x1 : Int32) (x2 : Int32) (x3 : Int32) : CU l D (tyIZ cI cZ) (wC a cI cZ) yX0_assign cX0_assign 5 (rmk 0 0) [.ref (a 2), .int x1, .int x2, .int x3] σ (fX0_assign σ x1 x2 x3) := by
  refine CU.of pnX0 ⟨rfl, rfl⟩ (Nat.le_of_ble_eq_true rfl) (fun p e s m args below meth c A Q ls C X hA hl ret => ?_)
  have C : Cx p s m args meth c cX0_assign 5 RX0 D (tyIZ cI cZ) := C
  have hx := C.1
  have hb := C.2.1
  have hl : lv_has ls 5 [(0, .ref (a 2)), (1, .int x1), (2, .int x2), (3, .int x3)] := hl
  refine lv_iload_n hx hb dX0_assign_0 rfl (lv_at hl 1 rfl) ?_
  refine lv_istore (lv' := [(4, .int x1), (0, .ref (a 2)), (1, .int x1), (2, .int x2), (3, .int x3)]) hx hb dX0_assign_1 hl (by decide) rfl (fun ls hl => ?_)
  have L3 : ∀ (f : Nat) (y4 : Int32) (σ3 : CSt) (hf : ((Int32.toInt (x1 + x2)) - (Int32.toInt y4)).toNat = f) (he : fX0_assign_L3 x1 x2 x3 f y4 σ3 = (fX0_assign σ x1 x2 x3)) (H : Heap) (locs : List Loc) (ls : Array Slot) (X : Sx A D (wC a cI cZ σ3) s H locs) (hl : lv_has ls 5 [(0, .ref (a 2)), (1, .int x1), (2, .int x2), (3, .int x3), (4, .int y4)]), W p l e (rmk 0 0) s m args below meth c H locs 0 0 Q (F0 m 3 ls []) := by
    intro f
    induction f with
    | zero =>
      intro y4 σ3 hf he H locs ls X hl
      refine lv_iload hx hb dX0_assign_3 (lv_at hl 4 rfl) ?_
      refine lv_iload_n hx hb dX0_assign_5 rfl (lv_at hl 1 rfl) ?_
      refine lv_iload_n hx hb dX0_assign_6 rfl (lv_at hl 2 rfl) ?_
      refine lv_iadd hx hb dX0_assign_7 ?_
      refine lv_icmp_ge (tgt := 38) hx hb dX0_assign_8 (by decide) (fun c8 => ?_) (fun c8 => (lp_z hf c8).elim)
      exact ret dX0_assign_38 he X
    | succ f ih3 =>
      intro y4 σ3 hf he H locs ls X hl
      refine lv_iload hx hb dX0_assign_3 (lv_at hl 4 rfl) ?_
      refine lv_iload_n hx hb dX0_assign_5 rfl (lv_at hl 1 rfl) ?_
      refine lv_iload_n hx hb dX0_assign_6 rfl (lv_at hl 2 rfl) ?_
      refine lv_iadd hx hb dX0_assign_7 ?_
      refine lv_icmp_ge (tgt := 38) hx hb dX0_assign_8 (by decide) (fun c8 => (lp_s hf c8).elim) (fun c8 => ?_)
      refine lv_iload hx hb dX0_assign_11 (lv_at hl 4 rfl) ?_
      refine lv_if_lt (tgt := 32) hx hb dX0_assign_13 (by decide) (fun c13 => ?_) (fun c13 => ?_)
      · refine lv_iinc (v := (y4 + 1)) (lv' := [(4, .int (y4 + 1)), (0, .ref (a 2)), (1, .int x1), (2, .int x2), (3, .int x3)]) hx hb dX0_assign_32 hl (k := 4) rfl rfl (by decide) rfl (fun ls hl => ?_)
        refine lv_goto (tgt := 3) hx hb dX0_assign_35 (by decide) ?_
        exact ih3 (y4 + 1) σ3 (lp_b hf) (Eq.trans (Eq.symm (if_pos c13)) he) _ _ _ X (lv_sub hl [1, 2, 3, 4, 0] rfl)
      · refine lv_iload hx hb dX0_assign_16 (lv_at hl 4 rfl) ?_
        refine lv_sipush (v := (200)) hx hb dX0_assign_18 (by decide) ?_
        refine lv_icmp_ge (tgt := 32) hx hb dX0_assign_21 (by decide) (fun c21 => ?_) (fun c21 => ?_)
        · refine lv_iinc (v := (y4 + 1)) (lv' := [(4, .int (y4 + 1)), (0, .ref (a 2)), (1, .int x1), (2, .int x2), (3, .int x3)]) hx hb dX0_assign_32 hl (k := 4) rfl rfl (by decide) rfl (fun ls hl => ?_)
          refine lv_goto (tgt := 3) hx hb dX0_assign_35 (by decide) ?_
          exact ih3 (y4 + 1) σ3 (lp_b hf) (Eq.trans (Eq.symm (Eq.trans (if_neg c13) (if_pos c21))) he) _ _ _ X (lv_sub hl [1, 2, 3, 4, 0] rfl)
        · refine lv_aload_n hx hb dX0_assign_24 rfl (lv_at hl 0 rfl) ?_
          refine cg_X0_X0_things C X dX0_assign_25 ?_
          refine lv_iload hx hb dX0_assign_28 (lv_at hl 4 rfl) ?_
          refine lv_iload_n hx hb dX0_assign_30 rfl (lv_at hl 3 rfl) ?_
          refine cs_cmap C X (vp_in_iff.mpr (by have tc8 := i32_nle c8; have tc13 := i32_nlt c13; have tc21 := i32_nle c21; have q0_ : (0 : Int32).toInt = 0 := rfl; have q1_ : (200 : Int32).toInt = 200 := rfl; omega)) dX0_assign_31 (fun H locs X => ?_)
          refine lv_iinc (v := (y4 + 1)) (lv' := [(4, .int (y4 + 1)), (0, .ref (a 2)), (1, .int x1), (2, .int x2), (3, .int x3)]) hx hb dX0_assign_32 hl (k := 4) rfl rfl (by decide) rfl (fun ls hl => ?_)
          refine lv_goto (tgt := 3) hx hb dX0_assign_35 (by decide) ?_
          exact ih3 (y4 + 1) (c_cmap_s σ3 (upd (c_cmap σ3) (ix y4) x3)) (lp_b hf) (Eq.trans (Eq.symm (Eq.trans (if_neg c13) (if_neg c21))) he) _ _ _ X (lv_sub hl [1, 2, 3, 4, 0] rfl)
  exact L3 (((Int32.toInt (x1 + x2)) - (Int32.toInt x1)).toNat) x1 σ rfl rfl _ _ _ X (lv_sub hl [1, 2, 3, 4, 0] rfl)
def fX0_takeBehind (σ : CSt) (x1 : Int32) (x2 : Int32) : CSt := (c_behind_s (fX0_assign σ (c_behind σ) x1 x2) ((c_behind (fX0_assign σ (c_behind σ) x1 x2)) + x1))
theorem hdX0_takeBehind : yX0_takeBehind.cls = RX0 ∧ yX0_takeBehind.cls ≠ "java/lang/invoke/MethodHandle" ∧ yX0_takeBehind.cls ≠ "java/lang/invoke/VarHandle" ∧ (parseMethodDescriptor yX0_takeBehind.desc).map (fun d => d.parameters.length) = some 2 := by decide +kernel
set_option maxHeartbeats 4000000 in
set_option maxRecDepth 100000 in
theorem kX0_takeBehind (l : Launch) (D : va_G) (a : Nat → Nat) (cI cZ : ClassId) (σ : CSt) (x1 : Int32) (x2 : Int32) : CU l D (tyIZ cI cZ) (wC a cI cZ) yX0_takeBehind cX0_takeBehind 3 (rmk 1 24) [.ref (a 2), .int x1, .int x2] σ (fX0_takeBehind σ x1 x2) := by
  refine CU.of pnX0 ⟨rfl, rfl⟩ (Nat.le_of_ble_eq_true rfl) (fun p e s m args below meth c A Q ls C X hA hl ret => ?_)
  have C : Cx p s m args meth c cX0_takeBehind 3 RX0 D (tyIZ cI cZ) := C
  have hx := C.1
  have hb := C.2.1
  have hl : lv_has ls 3 [(0, .ref (a 2)), (1, .int x1), (2, .int x2)] := hl
  refine lv_aload_n hx hb dX0_takeBehind_0 rfl (lv_at hl 0 rfl) ?_
  refine lv_aload_n hx hb dX0_takeBehind_1 rfl (lv_at hl 0 rfl) ?_
  refine cg_X0_X0_behind (v := (c_behind σ)) C X rfl dX0_takeBehind_2 ?_
  refine lv_iload_n hx hb dX0_takeBehind_5 rfl (lv_at hl 1 rfl) ?_
  refine lv_iload_n hx hb dX0_takeBehind_6 rfl (lv_at hl 2 rfl) ?_
  refine callVU (rest := []) C hA (wC_sh a cI cZ) X (kX0_assign l D a cI cZ _ (c_behind σ) x1 x2) (cwV 3 C.2.2.2.2.1 (gV wl_X0_22 wt_yX0_assign ws_yX0_assign wi_X0 wk_yX0_assign) rfl rfl rfl hdX0_assign ⟨Nat.le_of_ble_eq_true rfl, Nat.le_of_ble_eq_true rfl⟩) (ci := 0) (q0 := 2) rfl rfl rfl hl.1 rfl (Nat.le_of_ble_eq_true rfl) dX0_takeBehind_7 ⟨Nat.le_refl 0, Nat.le_refl 0⟩ (fun H locs X => ?_)
  refine lv_aload_n hx hb dX0_takeBehind_10 rfl (lv_at hl 0 rfl) ?_
  refine lv_dup hx hb dX0_takeBehind_11 rfl ?_
  refine cg_X0_X0_behind (v := (c_behind (fX0_assign σ (c_behind σ) x1 x2))) C X rfl dX0_takeBehind_12 ?_
  refine lv_iload_n hx hb dX0_takeBehind_15 rfl (lv_at hl 1 rfl) ?_
  refine lv_iadd hx hb dX0_takeBehind_16 ?_
  refine cp_X0_X0_behind C X dX0_takeBehind_17 (fun H locs X => ?_)
  exact ret dX0_takeBehind_20 rfl X
def fX0_leastPlace_L4 (z1 : Int32) : Nat → Int32 → Int32 → CSt → Int32
  | 0, y2, y3, σ0 => (-1 : Int32)
  | f + 1, y2, y3, σ0 => (if ((c_cmap σ0) (ix y3)) = (-1 : Int32) then (if (y2 + (1 : Int32)) = z1 then ((y3 + (1 : Int32)) - z1) else (fX0_leastPlace_L4 z1 f (y2 + (1 : Int32)) (y3 + 1) σ0)) else (if (0 : Int32) = z1 then ((y3 + (1 : Int32)) - z1) else (fX0_leastPlace_L4 z1 f (0 : Int32) (y3 + 1) σ0)))
def fX0_leastPlace (σ : CSt) (x1 : Int32) : Int32 := (fX0_leastPlace_L4 x1 (((Int32.toInt (200 : Int32)) - (Int32.toInt (0 : Int32))).toNat) (0 : Int32) (0 : Int32) σ)
theorem hdX0_leastPlace : yX0_leastPlace.cls = RX0 ∧ yX0_leastPlace.cls ≠ "java/lang/invoke/MethodHandle" ∧ yX0_leastPlace.cls ≠ "java/lang/invoke/VarHandle" ∧ (parseMethodDescriptor yX0_leastPlace.desc).map (fun d => d.parameters.length) = some 1 := by decide +kernel
set_option maxHeartbeats 4000000 in
set_option maxRecDepth 100000 in
theorem kX0_leastPlace (l : Launch) (D : va_G) (a : Nat → Nat) (cI cZ : ClassId) (σ : CSt) (x1 : Int32) : CR l D (tyIZ cI cZ) (wC a cI cZ) yX0_leastPlace cX0_leastPlace 4 .int (rmk 0 0) [.ref (a 2), .int x1] σ (fX0_leastPlace σ x1) σ := by
  refine CR.of pnX0 ⟨rfl, rfl⟩ (Nat.le_of_ble_eq_true rfl) rfl (fun p e s m args below meth c A Q ls C X hA hl ret => ?_)
  have C : Cx p s m args meth c cX0_leastPlace 4 RX0 D (tyIZ cI cZ) := C
  have hx := C.1
  have hb := C.2.1
  have hl : lv_has ls 4 [(0, .ref (a 2)), (1, .int x1)] := hl
  refine lv_iconst (v := (0)) hx hb dX0_leastPlace_0 (by decide) ?_
  refine lv_istore_n (lv' := [(2, .int (0 : Int32)), (0, .ref (a 2)), (1, .int x1)]) hx hb dX0_leastPlace_1 rfl hl (by decide) rfl (fun ls hl => ?_)
  refine lv_iconst (v := (0)) hx hb dX0_leastPlace_2 (by decide) ?_
  refine lv_istore_n (lv' := [(3, .int (0 : Int32)), (2, .int (0 : Int32)), (0, .ref (a 2)), (1, .int x1)]) hx hb dX0_leastPlace_3 rfl hl (by decide) rfl (fun ls hl => ?_)
  have L4 : ∀ (f : Nat) (y2 : Int32) (y3 : Int32) (hf : ((Int32.toInt (200 : Int32)) - (Int32.toInt y3)).toNat = f) (hnn : 0 ≤ Int32.toInt y3) (he : fX0_leastPlace_L4 x1 f y2 y3 σ = (fX0_leastPlace σ x1)) (H : Heap) (locs : List Loc) (ls : Array Slot) (X : Sx A D (wC a cI cZ σ) s H locs) (hl : lv_has ls 4 [(0, .ref (a 2)), (1, .int x1), (2, .int y2), (3, .int y3)]), W p l e (rmk 0 0) s m args below meth c H locs 0 0 Q (F0 m 4 ls []) := by
    intro f
    induction f with
    | zero =>
      intro y2 y3 hf hnn he H locs ls X hl
      refine lv_iload_n hx hb dX0_leastPlace_4 rfl (lv_at hl 3 rfl) ?_
      refine lv_sipush (v := (200)) hx hb dX0_leastPlace_5 (by decide) ?_
      refine lv_icmp_ge (tgt := 46) hx hb dX0_leastPlace_8 (by decide) (fun c8 => ?_) (fun c8 => (lp_z hf c8).elim)
      refine lv_iconst (v := (-1)) hx hb dX0_leastPlace_46 (by decide) ?_
      exact ret dX0_leastPlace_47 (congrArg (fun z => (z, _)) he) X
    | succ f ih4 =>
      intro y2 y3 hf hnn he H locs ls X hl
      refine lv_iload_n hx hb dX0_leastPlace_4 rfl (lv_at hl 3 rfl) ?_
      refine lv_sipush (v := (200)) hx hb dX0_leastPlace_5 (by decide) ?_
      refine lv_icmp_ge (tgt := 46) hx hb dX0_leastPlace_8 (by decide) (fun c8 => (lp_s hf c8).elim) (fun c8 => ?_)
      refine lv_aload_n hx hb dX0_leastPlace_11 rfl (lv_at hl 0 rfl) ?_
      refine cg_X0_X0_things C X dX0_leastPlace_12 ?_
      refine lv_iload_n hx hb dX0_leastPlace_15 rfl (lv_at hl 3 rfl) ?_
      refine ca_cmap (v := ((c_cmap σ) (ix y3))) C X (lp_in hnn hf (show (Int32.toInt (200 : Int32) : Int) ≤ 200 by decide)) rfl dX0_leastPlace_16 ?_
      refine lv_iconst (v := (-1)) hx hb dX0_leastPlace_17 (by decide) ?_
      refine lv_icmp_ne (tgt := 27) hx hb dX0_leastPlace_18 (by decide) (fun c18 => ?_) (fun c18 => ?_)
      · refine lv_iconst (v := (0)) hx hb dX0_leastPlace_27 (by decide) ?_
        refine lv_istore_n (lv' := [(2, .int (0 : Int32)), (0, .ref (a 2)), (1, .int x1), (3, .int y3)]) hx hb dX0_leastPlace_28 rfl hl (by decide) rfl (fun ls hl => ?_)
        refine lv_iload_n hx hb dX0_leastPlace_29 rfl (lv_at hl 0 rfl) ?_
        refine lv_iload_n hx hb dX0_leastPlace_30 rfl (lv_at hl 2 rfl) ?_
        refine lv_icmp_ne (tgt := 40) hx hb dX0_leastPlace_31 (by decide) (fun c31 => ?_) (fun c31 => ?_)
        · refine lv_iinc (v := (y3 + 1)) (lv' := [(3, .int (y3 + 1)), (2, .int (0 : Int32)), (0, .ref (a 2)), (1, .int x1)]) hx hb dX0_leastPlace_40 hl (k := 3) rfl rfl (by decide) rfl (fun ls hl => ?_)
          refine lv_goto (tgt := 4) hx hb dX0_leastPlace_43 (by decide) ?_
          exact ih4 (0 : Int32) (y3 + 1) (lp_b hf) (lp_nn hnn hf) (Eq.trans (Eq.symm (Eq.trans (if_neg c18) (if_neg c31))) he) _ _ _ X (lv_sub hl [2, 3, 1, 0] rfl)
        · refine lv_iload_n hx hb dX0_leastPlace_34 rfl (lv_at hl 3 rfl) ?_
          refine lv_iconst (v := (1)) hx hb dX0_leastPlace_35 (by decide) ?_
          refine lv_iadd hx hb dX0_leastPlace_36 ?_
          refine lv_iload_n hx hb dX0_leastPlace_37 rfl (lv_at hl 2 rfl) ?_
          refine lv_isub hx hb dX0_leastPlace_38 ?_
          exact ret dX0_leastPlace_39 (congrArg (fun z => (z, _)) (Eq.trans (Eq.symm (Eq.trans (if_neg c18) (if_pos c31))) he)) X
      · refine lv_iload_n hx hb dX0_leastPlace_21 rfl (lv_at hl 2 rfl) ?_
        refine lv_iconst (v := (1)) hx hb dX0_leastPlace_22 (by decide) ?_
        refine lv_iadd hx hb dX0_leastPlace_23 ?_
        refine lv_goto (tgt := 28) hx hb dX0_leastPlace_24 (by decide) ?_
        refine lv_istore_n (lv' := [(2, .int (y2 + (1 : Int32))), (0, .ref (a 2)), (1, .int x1), (3, .int y3)]) hx hb dX0_leastPlace_28 rfl hl (by decide) rfl (fun ls hl => ?_)
        refine lv_iload_n hx hb dX0_leastPlace_29 rfl (lv_at hl 0 rfl) ?_
        refine lv_iload_n hx hb dX0_leastPlace_30 rfl (lv_at hl 2 rfl) ?_
        refine lv_icmp_ne (tgt := 40) hx hb dX0_leastPlace_31 (by decide) (fun c31 => ?_) (fun c31 => ?_)
        · refine lv_iinc (v := (y3 + 1)) (lv' := [(3, .int (y3 + 1)), (2, .int (y2 + (1 : Int32))), (0, .ref (a 2)), (1, .int x1)]) hx hb dX0_leastPlace_40 hl (k := 3) rfl rfl (by decide) rfl (fun ls hl => ?_)
          refine lv_goto (tgt := 4) hx hb dX0_leastPlace_43 (by decide) ?_
          exact ih4 (y2 + (1 : Int32)) (y3 + 1) (lp_b hf) (lp_nn hnn hf) (Eq.trans (Eq.symm (Eq.trans (if_pos c18) (if_neg c31))) he) _ _ _ X (lv_sub hl [2, 3, 1, 0] rfl)
        · refine lv_iload_n hx hb dX0_leastPlace_34 rfl (lv_at hl 3 rfl) ?_
          refine lv_iconst (v := (1)) hx hb dX0_leastPlace_35 (by decide) ?_
          refine lv_iadd hx hb dX0_leastPlace_36 ?_
          refine lv_iload_n hx hb dX0_leastPlace_37 rfl (lv_at hl 2 rfl) ?_
          refine lv_isub hx hb dX0_leastPlace_38 ?_
          exact ret dX0_leastPlace_39 (congrArg (fun z => (z, _)) (Eq.trans (Eq.symm (Eq.trans (if_pos c18) (if_pos c31))) he)) X
  exact L4 (((Int32.toInt (200 : Int32)) - (Int32.toInt (0 : Int32))).toNat) (0 : Int32) (0 : Int32) rfl (by decide) rfl _ _ _ X (lv_sub hl [2, 3, 1, 0] rfl)
def fX0_countFree_L4 : Nat → Int32 → Int32 → CSt → Int32
  | 0, y1, y2, σ0 => y1
  | f + 1, y1, y2, σ0 => (if ((c_cmap σ0) (ix y2)) = (-1 : Int32) then (fX0_countFree_L4 f (y1 + 1) (y2 + 1) σ0) else (fX0_countFree_L4 f y1 (y2 + 1) σ0))
def fX0_countFree (σ : CSt) : Int32 := (fX0_countFree_L4 (((Int32.toInt (200 : Int32)) - (Int32.toInt (0 : Int32))).toNat) (0 : Int32) (0 : Int32) σ)
theorem hdX0_countFree : yX0_countFree.cls = RX0 ∧ yX0_countFree.cls ≠ "java/lang/invoke/MethodHandle" ∧ yX0_countFree.cls ≠ "java/lang/invoke/VarHandle" ∧ (parseMethodDescriptor yX0_countFree.desc).map (fun d => d.parameters.length) = some 0 := by decide +kernel
set_option maxHeartbeats 4000000 in
set_option maxRecDepth 100000 in
theorem kX0_countFree (l : Launch) (D : va_G) (a : Nat → Nat) (cI cZ : ClassId) (σ : CSt) : CR l D (tyIZ cI cZ) (wC a cI cZ) yX0_countFree cX0_countFree 3 .int (rmk 0 0) [.ref (a 2)] σ (fX0_countFree σ) σ := by
  refine CR.of pnX0 ⟨rfl, rfl⟩ (Nat.le_of_ble_eq_true rfl) rfl (fun p e s m args below meth c A Q ls C X hA hl ret => ?_)
  have C : Cx p s m args meth c cX0_countFree 3 RX0 D (tyIZ cI cZ) := C
  have hx := C.1
  have hb := C.2.1
  have hl : lv_has ls 3 [(0, .ref (a 2))] := hl
  refine lv_iconst (v := (0)) hx hb dX0_countFree_0 (by decide) ?_
  refine lv_istore_n (lv' := [(1, .int (0 : Int32)), (0, .ref (a 2))]) hx hb dX0_countFree_1 rfl hl (by decide) rfl (fun ls hl => ?_)
  refine lv_iconst (v := (0)) hx hb dX0_countFree_2 (by decide) ?_
  refine lv_istore_n (lv' := [(2, .int (0 : Int32)), (1, .int (0 : Int32)), (0, .ref (a 2))]) hx hb dX0_countFree_3 rfl hl (by decide) rfl (fun ls hl => ?_)
  have L4 : ∀ (f : Nat) (y1 : Int32) (y2 : Int32) (hf : ((Int32.toInt (200 : Int32)) - (Int32.toInt y2)).toNat = f) (hnn : 0 ≤ Int32.toInt y2) (he : fX0_countFree_L4 f y1 y2 σ = (fX0_countFree σ)) (H : Heap) (locs : List Loc) (ls : Array Slot) (X : Sx A D (wC a cI cZ σ) s H locs) (hl : lv_has ls 3 [(0, .ref (a 2)), (1, .int y1), (2, .int y2)]), W p l e (rmk 0 0) s m args below meth c H locs 0 0 Q (F0 m 4 ls []) := by
    intro f
    induction f with
    | zero =>
      intro y1 y2 hf hnn he H locs ls X hl
      refine lv_iload_n hx hb dX0_countFree_4 rfl (lv_at hl 2 rfl) ?_
      refine lv_sipush (v := (200)) hx hb dX0_countFree_5 (by decide) ?_
      refine lv_icmp_ge (tgt := 30) hx hb dX0_countFree_8 (by decide) (fun c8 => ?_) (fun c8 => (lp_z hf c8).elim)
      refine lv_iload_n hx hb dX0_countFree_30 rfl (lv_at hl 1 rfl) ?_
      exact ret dX0_countFree_31 (congrArg (fun z => (z, _)) he) X
    | succ f ih4 =>
      intro y1 y2 hf hnn he H locs ls X hl
      refine lv_iload_n hx hb dX0_countFree_4 rfl (lv_at hl 2 rfl) ?_
      refine lv_sipush (v := (200)) hx hb dX0_countFree_5 (by decide) ?_
      refine lv_icmp_ge (tgt := 30) hx hb dX0_countFree_8 (by decide) (fun c8 => (lp_s hf c8).elim) (fun c8 => ?_)
      refine lv_aload_n hx hb dX0_countFree_11 rfl (lv_at hl 0 rfl) ?_
      refine cg_X0_X0_things C X dX0_countFree_12 ?_
      refine lv_iload_n hx hb dX0_countFree_15 rfl (lv_at hl 2 rfl) ?_
      refine ca_cmap (v := ((c_cmap σ) (ix y2))) C X (lp_in hnn hf (show (Int32.toInt (200 : Int32) : Int) ≤ 200 by decide)) rfl dX0_countFree_16 ?_
      refine lv_iconst (v := (-1)) hx hb dX0_countFree_17 (by decide) ?_
      refine lv_icmp_ne (tgt := 24) hx hb dX0_countFree_18 (by decide) (fun c18 => ?_) (fun c18 => ?_)
      · refine lv_iinc (v := (y2 + 1)) (lv' := [(2, .int (y2 + 1)), (0, .ref (a 2)), (1, .int y1)]) hx hb dX0_countFree_24 hl (k := 2) rfl rfl (by decide) rfl (fun ls hl => ?_)
        refine lv_goto (tgt := 4) hx hb dX0_countFree_27 (by decide) ?_
        exact ih4 y1 (y2 + 1) (lp_b hf) (lp_nn hnn hf) (Eq.trans (Eq.symm (if_neg c18)) he) _ _ _ X (lv_sub hl [1, 2, 0] rfl)
      · refine lv_iinc (v := (y1 + 1)) (lv' := [(1, .int (y1 + 1)), (0, .ref (a 2)), (2, .int y2)]) hx hb dX0_countFree_21 hl (k := 1) rfl rfl (by decide) rfl (fun ls hl => ?_)
        refine lv_iinc (v := (y2 + 1)) (lv' := [(2, .int (y2 + 1)), (1, .int (y1 + 1)), (0, .ref (a 2))]) hx hb dX0_countFree_24 hl (k := 2) rfl rfl (by decide) rfl (fun ls hl => ?_)
        refine lv_goto (tgt := 4) hx hb dX0_countFree_27 (by decide) ?_
        exact ih4 (y1 + 1) (y2 + 1) (lp_b hf) (lp_nn hnn hf) (Eq.trans (Eq.symm (if_pos c18)) he) _ _ _ X (lv_sub hl [2, 1, 0] rfl)
  exact L4 (((Int32.toInt (200 : Int32)) - (Int32.toInt (0 : Int32))).toNat) (0 : Int32) (0 : Int32) rfl (by decide) rfl _ _ _ X (lv_sub hl [2, 1, 0] rfl)
def fX0_longestFree_L6 : Nat → Int32 → Int32 → Int32 → CSt → Int32
  | 0, y1, y2, y3, σ0 => y1
  | f + 1, y1, y2, y3, σ0 => (if ((c_cmap σ0) (ix y3)) = (-1 : Int32) then (fX0_longestFree_L6 f (if y1 < (y2 + (1 : Int32)) then (y2 + (1 : Int32)) else y1) (y2 + (1 : Int32)) (y3 + 1) σ0) else (fX0_longestFree_L6 f (if y1 < (0 : Int32) then (0 : Int32) else y1) (0 : Int32) (y3 + 1) σ0))
def fX0_longestFree (σ : CSt) : Int32 := (fX0_longestFree_L6 (((Int32.toInt (200 : Int32)) - (Int32.toInt (0 : Int32))).toNat) (0 : Int32) (0 : Int32) (0 : Int32) σ)
theorem hdX0_longestFree : yX0_longestFree.cls = RX0 ∧ yX0_longestFree.cls ≠ "java/lang/invoke/MethodHandle" ∧ yX0_longestFree.cls ≠ "java/lang/invoke/VarHandle" ∧ (parseMethodDescriptor yX0_longestFree.desc).map (fun d => d.parameters.length) = some 0 := by decide +kernel
set_option maxHeartbeats 4000000 in
set_option maxRecDepth 100000 in
theorem kX0_longestFree (l : Launch) (D : va_G) (a : Nat → Nat) (cI cZ : ClassId) (σ : CSt) : CR l D (tyIZ cI cZ) (wC a cI cZ) yX0_longestFree cX0_longestFree 4 .int (rmk 1 29) [.ref (a 2)] σ (fX0_longestFree σ) σ := by
  refine CR.of pnX0 ⟨rfl, rfl⟩ (Nat.le_of_ble_eq_true rfl) rfl (fun p e s m args below meth c A Q ls C X hA hl ret => ?_)
  have C : Cx p s m args meth c cX0_longestFree 4 RX0 D (tyIZ cI cZ) := C
  have hx := C.1
  have hb := C.2.1
  have hl : lv_has ls 4 [(0, .ref (a 2))] := hl
  refine lv_iconst (v := (0)) hx hb dX0_longestFree_0 (by decide) ?_
  refine lv_istore_n (lv' := [(1, .int (0 : Int32)), (0, .ref (a 2))]) hx hb dX0_longestFree_1 rfl hl (by decide) rfl (fun ls hl => ?_)
  refine lv_iconst (v := (0)) hx hb dX0_longestFree_2 (by decide) ?_
  refine lv_istore_n (lv' := [(2, .int (0 : Int32)), (1, .int (0 : Int32)), (0, .ref (a 2))]) hx hb dX0_longestFree_3 rfl hl (by decide) rfl (fun ls hl => ?_)
  refine lv_iconst (v := (0)) hx hb dX0_longestFree_4 (by decide) ?_
  refine lv_istore_n (lv' := [(3, .int (0 : Int32)), (2, .int (0 : Int32)), (1, .int (0 : Int32)), (0, .ref (a 2))]) hx hb dX0_longestFree_5 rfl hl (by decide) rfl (fun ls hl => ?_)
  have L6 : ∀ (f : Nat) (y1 : Int32) (y2 : Int32) (y3 : Int32) (hf : ((Int32.toInt (200 : Int32)) - (Int32.toInt y3)).toNat = f) (hnn : 0 ≤ Int32.toInt y3) (he : fX0_longestFree_L6 f y1 y2 y3 σ = (fX0_longestFree σ)) (H : Heap) (locs : List Loc) (ls : Array Slot) (X : Sx A D (wC a cI cZ σ) s H locs) (hl : lv_has ls 4 [(0, .ref (a 2)), (1, .int y1), (2, .int y2), (3, .int y3)]), W p l e (rmk 1 29) s m args below meth c H locs 0 0 Q (F0 m 6 ls []) := by
    intro f
    induction f with
    | zero =>
      intro y1 y2 y3 hf hnn he H locs ls X hl
      refine lv_iload_n hx hb dX0_longestFree_6 rfl (lv_at hl 3 rfl) ?_
      refine lv_sipush (v := (200)) hx hb dX0_longestFree_7 (by decide) ?_
      refine lv_icmp_ge (tgt := 43) hx hb dX0_longestFree_10 (by decide) (fun c10 => ?_) (fun c10 => (lp_z hf c10).elim)
      refine lv_iload_n hx hb dX0_longestFree_43 rfl (lv_at hl 1 rfl) ?_
      exact ret dX0_longestFree_44 (congrArg (fun z => (z, _)) he) X
    | succ f ih6 =>
      intro y1 y2 y3 hf hnn he H locs ls X hl
      refine lv_iload_n hx hb dX0_longestFree_6 rfl (lv_at hl 3 rfl) ?_
      refine lv_sipush (v := (200)) hx hb dX0_longestFree_7 (by decide) ?_
      refine lv_icmp_ge (tgt := 43) hx hb dX0_longestFree_10 (by decide) (fun c10 => (lp_s hf c10).elim) (fun c10 => ?_)
      refine lv_aload_n hx hb dX0_longestFree_13 rfl (lv_at hl 0 rfl) ?_
      refine cg_X0_X0_things C X dX0_longestFree_14 ?_
      refine lv_iload_n hx hb dX0_longestFree_17 rfl (lv_at hl 3 rfl) ?_
      refine ca_cmap (v := ((c_cmap σ) (ix y3))) C X (lp_in hnn hf (show (Int32.toInt (200 : Int32) : Int) ≤ 200 by decide)) rfl dX0_longestFree_18 ?_
      refine lv_iconst (v := (-1)) hx hb dX0_longestFree_19 (by decide) ?_
      refine lv_icmp_ne (tgt := 29) hx hb dX0_longestFree_20 (by decide) (fun c20 => ?_) (fun c20 => ?_)
      · refine lv_iconst (v := (0)) hx hb dX0_longestFree_29 (by decide) ?_
        refine lv_istore_n (lv' := [(2, .int (0 : Int32)), (0, .ref (a 2)), (1, .int y1), (3, .int y3)]) hx hb dX0_longestFree_30 rfl hl (by decide) rfl (fun ls hl => ?_)
        refine lv_iload_n hx hb dX0_longestFree_31 rfl (lv_at hl 2 rfl) ?_
        refine lv_iload_n hx hb dX0_longestFree_32 rfl (lv_at hl 0 rfl) ?_
        refine va_mmax hx hb (C.2.2.1.trans hl.1.symm) C.2.2.2.1 (C.2.2.2.2.1 _ wl_X0_26) (C.2.2.2.2.1 _ wz_Lib_Math_max_name) (C.2.2.2.2.1 _ wi_J9) (C.2.2.2.2.1 _ wk_Lib_Math_max_name) (by decide) (Nat.le_of_ble_eq_true rfl) (Nat.le_refl 0) (Nat.le_refl 0) dX0_longestFree_33 ?_
        refine lv_istore_n (lv' := [(1, .int (if y1 < (0 : Int32) then (0 : Int32) else y1)), (2, .int (0 : Int32)), (0, .ref (a 2)), (3, .int y3)]) hx hb dX0_longestFree_36 rfl hl (by decide) rfl (fun ls hl => ?_)
        refine lv_iinc (v := (y3 + 1)) (lv' := [(3, .int (y3 + 1)), (1, .int (if y1 < (0 : Int32) then (0 : Int32) else y1)), (2, .int (0 : Int32)), (0, .ref (a 2))]) hx hb dX0_longestFree_37 hl (k := 3) rfl rfl (by decide) rfl (fun ls hl => ?_)
        refine lv_goto (tgt := 6) hx hb dX0_longestFree_40 (by decide) ?_
        exact ih6 (if y1 < (0 : Int32) then (0 : Int32) else y1) (0 : Int32) (y3 + 1) (lp_b hf) (lp_nn hnn hf) (Eq.trans (Eq.symm (if_neg c20)) he) _ _ _ X (lv_sub hl [3, 1, 2, 0] rfl)
      · refine lv_iload_n hx hb dX0_longestFree_23 rfl (lv_at hl 2 rfl) ?_
        refine lv_iconst (v := (1)) hx hb dX0_longestFree_24 (by decide) ?_
        refine lv_iadd hx hb dX0_longestFree_25 ?_
        refine lv_goto (tgt := 30) hx hb dX0_longestFree_26 (by decide) ?_
        refine lv_istore_n (lv' := [(2, .int (y2 + (1 : Int32))), (0, .ref (a 2)), (1, .int y1), (3, .int y3)]) hx hb dX0_longestFree_30 rfl hl (by decide) rfl (fun ls hl => ?_)
        refine lv_iload_n hx hb dX0_longestFree_31 rfl (lv_at hl 2 rfl) ?_
        refine lv_iload_n hx hb dX0_longestFree_32 rfl (lv_at hl 0 rfl) ?_
        refine va_mmax hx hb (C.2.2.1.trans hl.1.symm) C.2.2.2.1 (C.2.2.2.2.1 _ wl_X0_26) (C.2.2.2.2.1 _ wz_Lib_Math_max_name) (C.2.2.2.2.1 _ wi_J9) (C.2.2.2.2.1 _ wk_Lib_Math_max_name) (by decide) (Nat.le_of_ble_eq_true rfl) (Nat.le_refl 0) (Nat.le_refl 0) dX0_longestFree_33 ?_
        refine lv_istore_n (lv' := [(1, .int (if y1 < (y2 + (1 : Int32)) then (y2 + (1 : Int32)) else y1)), (2, .int (y2 + (1 : Int32))), (0, .ref (a 2)), (3, .int y3)]) hx hb dX0_longestFree_36 rfl hl (by decide) rfl (fun ls hl => ?_)
        refine lv_iinc (v := (y3 + 1)) (lv' := [(3, .int (y3 + 1)), (1, .int (if y1 < (y2 + (1 : Int32)) then (y2 + (1 : Int32)) else y1)), (2, .int (y2 + (1 : Int32))), (0, .ref (a 2))]) hx hb dX0_longestFree_37 hl (k := 3) rfl rfl (by decide) rfl (fun ls hl => ?_)
        refine lv_goto (tgt := 6) hx hb dX0_longestFree_40 (by decide) ?_
        exact ih6 (if y1 < (y2 + (1 : Int32)) then (y2 + (1 : Int32)) else y1) (y2 + (1 : Int32)) (y3 + 1) (lp_b hf) (lp_nn hnn hf) (Eq.trans (Eq.symm (if_pos c20)) he) _ _ _ X (lv_sub hl [3, 1, 2, 0] rfl)
  exact L6 (((Int32.toInt (200 : Int32)) - (Int32.toInt (0 : Int32))).toNat) (0 : Int32) (0 : Int32) (0 : Int32) rfl (by decide) rfl _ _ _ X (lv_sub hl [3, 2, 1, 0] rfl)
def fX5_isWeakHolder (σ : CSt) (x0 : Int32) : Int32 := (if x0 < (0 : Int32) then (0 : Int32) else (if (6 : Int32) ≤ x0 then (0 : Int32) else (1 : Int32)))
theorem hdX5_isWeakHolder : yX5_isWeakHolder.cls = RX5 ∧ yX5_isWeakHolder.cls ≠ "java/lang/invoke/MethodHandle" ∧ yX5_isWeakHolder.cls ≠ "java/lang/invoke/VarHandle" ∧ (parseMethodDescriptor yX5_isWeakHolder.desc).map (fun d => d.parameters.length) = some 1 := by decide +kernel
theorem bX5_isWeakHolder (σ : CSt) (x0 : Int32) : (fX5_isWeakHolder σ x0) = 0 ∨ (fX5_isWeakHolder σ x0) = 1 := by
  unfold fX5_isWeakHolder
  (repeat' split) <;> first | exact Or.inl rfl | exact Or.inr rfl
set_option maxHeartbeats 4000000 in
set_option maxRecDepth 100000 in
theorem kX5_isWeakHolder (l : Launch) (D : va_G) (a : Nat → Nat) (cI cZ : ClassId) (σ : CSt) (x0 : Int32) : CR l D (tyIZ cI cZ) (wC a cI cZ) yX5_isWeakHolder cX5_isWeakHolder 1 .boolean (rmk 0 0) [.int x0] σ (fX5_isWeakHolder σ x0) σ := by
  refine CR.of pnX5 ⟨rfl, rfl⟩ (Nat.le_of_ble_eq_true rfl) (nar_b (bX5_isWeakHolder σ x0)) (fun p e s m args below meth c A Q ls C X hA hl ret => ?_)
  have C : Cx p s m args meth c cX5_isWeakHolder 1 RX5 D (tyIZ cI cZ) := C
  have hx := C.1
  have hb := C.2.1
  have hl : lv_has ls 1 [(0, .int x0)] := hl
  refine lv_iload_n hx hb dX5_isWeakHolder_0 rfl (lv_at hl 0 rfl) ?_
  refine lv_if_lt (tgt := 14) hx hb dX5_isWeakHolder_1 (by decide) (fun c1 => ?_) (fun c1 => ?_)
  · refine lv_iconst (v := (0)) hx hb dX5_isWeakHolder_14 (by decide) ?_
    exact ret dX5_isWeakHolder_15 (congrArg (fun z => (z, _)) (Eq.symm (if_pos c1))) X
  · refine lv_iload_n hx hb dX5_isWeakHolder_4 rfl (lv_at hl 0 rfl) ?_
    refine lv_bipush (v := (6)) hx hb dX5_isWeakHolder_5 (by decide) ?_
    refine lv_icmp_ge (tgt := 14) hx hb dX5_isWeakHolder_7 (by decide) (fun c7 => ?_) (fun c7 => ?_)
    · refine lv_iconst (v := (0)) hx hb dX5_isWeakHolder_14 (by decide) ?_
      exact ret dX5_isWeakHolder_15 (congrArg (fun z => (z, _)) (Eq.symm (Eq.trans (if_neg c1) (if_pos c7)))) X
    · refine lv_iconst (v := (1)) hx hb dX5_isWeakHolder_10 (by decide) ?_
      refine lv_goto (tgt := 15) hx hb dX5_isWeakHolder_11 (by decide) ?_
      exact ret dX5_isWeakHolder_15 (congrArg (fun z => (z, _)) (Eq.symm (Eq.trans (if_neg c1) (if_neg c7)))) X
theorem in_isWeakHolder {σ : CSt} {x : Int32} (h : ¬ fX5_isWeakHolder σ x = 0) : vp_in x 6 := by
  unfold fX5_isWeakHolder at h
  split at h
  · exact absurd rfl h
  · split at h
    · exact absurd rfl h
    · rename_i h1 h3
      exact vp_in_iff.mpr (by have a1 := i32_nlt h1; have a3 := i32_nle h3; have q : (6 : Int32).toInt = 6 := rfl; have q2 : (0 : Int32).toInt = 0 := rfl; omega)

def fX1_empty_L2 : Nat → Int32 → CSt → CSt
  | 0, y1, σ2 => σ2
  | f + 1, y1, σ2 => (fX1_empty_L2 f (y1 + 1) (c_hheld_s σ2 (upd (c_hheld σ2) (ix y1) (-1 : Int32))))
def fX1_empty_L23 : Nat → Int32 → CSt → CSt
  | 0, y1, σ23 => (c_wishes_s σ23 (0 : Int32))
  | f + 1, y1, σ23 => (fX1_empty_L23 f (y1 + 1) (c_named_s σ23 (upd (c_named σ23) (ix y1) (-1 : Int32))))
def fX1_empty (σ : CSt) : CSt := (fX1_empty_L23 (((Int32.toInt (6 : Int32)) - (Int32.toInt (0 : Int32))).toNat) (0 : Int32) (fX1_empty_L2 (((Int32.toInt (16 : Int32)) - (Int32.toInt (0 : Int32))).toNat) (0 : Int32) σ))
theorem hdX1_empty : yX1_empty.cls = RX1 ∧ yX1_empty.cls ≠ "java/lang/invoke/MethodHandle" ∧ yX1_empty.cls ≠ "java/lang/invoke/VarHandle" ∧ (parseMethodDescriptor yX1_empty.desc).map (fun d => d.parameters.length) = some 0 := by decide +kernel
set_option maxHeartbeats 4000000 in
set_option maxRecDepth 100000 in
theorem kX1_empty (l : Launch) (D : va_G) (a : Nat → Nat) (cI cZ : ClassId) (σ : CSt) : CU l D (tyIZ cI cZ) (wC a cI cZ) yX1_empty cX1_empty 2 (rmk 0 0) [.ref (a 3)] σ (fX1_empty σ) := by
  refine CU.of pnX1 ⟨rfl, rfl⟩ (Nat.le_of_ble_eq_true rfl) (fun p e s m args below meth c A Q ls C X hA hl ret => ?_)
  have C : Cx p s m args meth c cX1_empty 2 RX1 D (tyIZ cI cZ) := C
  have hx := C.1
  have hb := C.2.1
  have hl : lv_has ls 2 [(0, .ref (a 3))] := hl
  refine lv_iconst (v := (0)) hx hb dX1_empty_0 (by decide) ?_
  refine lv_istore_n (lv' := [(1, .int (0 : Int32)), (0, .ref (a 3))]) hx hb dX1_empty_1 rfl hl (by decide) rfl (fun ls hl => ?_)
  have L2 : ∀ (res : CSt) (hx2 : ∀ (H : Heap) (locs : List Loc) (ls : Array Slot), Sx A D (wC a cI cZ res) s H locs → lv_has ls 2 [(0, .ref (a 3))] → W p l e (rmk 0 0) s m args below meth c H locs 0 0 Q (F0 m 21 ls [])) (f : Nat) (y1 : Int32) (σ2 : CSt) (hf : ((Int32.toInt (16 : Int32)) - (Int32.toInt y1)).toNat = f) (hnn : 0 ≤ Int32.toInt y1) (he : fX1_empty_L2 f y1 σ2 = res) (H : Heap) (locs : List Loc) (ls : Array Slot) (X : Sx A D (wC a cI cZ σ2) s H locs) (hl : lv_has ls 2 [(0, .ref (a 3)), (1, .int y1)]), W p l e (rmk 0 0) s m args below meth c H locs 0 0 Q (F0 m 2 ls []) := by
    intro res hx2 f
    induction f with
    | zero =>
      intro y1 σ2 hf hnn he H locs ls X hl
      refine lv_iload_n hx hb dX1_empty_2 rfl (lv_at hl 1 rfl) ?_
      refine lv_bipush (v := (16)) hx hb dX1_empty_3 (by decide) ?_
      refine lv_icmp_ge (tgt := 21) hx hb dX1_empty_5 (by decide) (fun c5 => ?_) (fun c5 => (lp_z hf c5).elim)
      exact hx2 _ _ _ (Eq.subst (motive := fun z => Sx A D (wC a cI cZ z) s _ _) he X) (Eq.subst (motive := fun z => lv_has _ 2 [(0, .ref (a 3))]) he (lv_sub hl [0] rfl))
    | succ f ih2 =>
      intro y1 σ2 hf hnn he H locs ls X hl
      refine lv_iload_n hx hb dX1_empty_2 rfl (lv_at hl 1 rfl) ?_
      refine lv_bipush (v := (16)) hx hb dX1_empty_3 (by decide) ?_
      refine lv_icmp_ge (tgt := 21) hx hb dX1_empty_5 (by decide) (fun c5 => (lp_s hf c5).elim) (fun c5 => ?_)
      refine lv_aload_n hx hb dX1_empty_8 rfl (lv_at hl 0 rfl) ?_
      refine cg_X1_X1_held C X dX1_empty_9 ?_
      refine lv_iload_n hx hb dX1_empty_12 rfl (lv_at hl 1 rfl) ?_
      refine lv_iconst (v := (-1)) hx hb dX1_empty_13 (by decide) ?_
      refine cs_hheld C X (lp_in hnn hf (show (Int32.toInt (16 : Int32) : Int) ≤ 136 by decide)) dX1_empty_14 (fun H locs X => ?_)
      refine lv_iinc (v := (y1 + 1)) (lv' := [(1, .int (y1 + 1)), (0, .ref (a 3))]) hx hb dX1_empty_15 hl (k := 1) rfl rfl (by decide) rfl (fun ls hl => ?_)
      refine lv_goto (tgt := 2) hx hb dX1_empty_18 (by decide) ?_
      exact ih2 (y1 + 1) (c_hheld_s σ2 (upd (c_hheld σ2) (ix y1) (-1 : Int32))) (lp_b hf) (lp_nn hnn hf) he _ _ _ X (lv_sub hl [1, 0] rfl)
  refine L2 (fX1_empty_L2 (((Int32.toInt (16 : Int32)) - (Int32.toInt (0 : Int32))).toNat) (0 : Int32) σ) (fun H locs ls X hl => ?_) (((Int32.toInt (16 : Int32)) - (Int32.toInt (0 : Int32))).toNat) (0 : Int32) σ rfl (by decide) rfl _ _ _ X (lv_sub hl [1, 0] rfl)
  refine lv_iconst (v := (0)) hx hb dX1_empty_21 (by decide) ?_
  refine lv_istore_n (lv' := [(1, .int (0 : Int32)), (0, .ref (a 3))]) hx hb dX1_empty_22 rfl hl (by decide) rfl (fun ls hl => ?_)
  have L23 : ∀ (f : Nat) (y1 : Int32) (σ23 : CSt) (hf : ((Int32.toInt (6 : Int32)) - (Int32.toInt y1)).toNat = f) (hnn : 0 ≤ Int32.toInt y1) (he : fX1_empty_L23 f y1 σ23 = (fX1_empty σ)) (H : Heap) (locs : List Loc) (ls : Array Slot) (X : Sx A D (wC a cI cZ σ23) s H locs) (hl : lv_has ls 2 [(0, .ref (a 3)), (1, .int y1)]), W p l e (rmk 0 0) s m args below meth c H locs 0 0 Q (F0 m 23 ls []) := by
    intro f
    induction f with
    | zero =>
      intro y1 σ23 hf hnn he H locs ls X hl
      refine lv_iload_n hx hb dX1_empty_23 rfl (lv_at hl 1 rfl) ?_
      refine lv_bipush (v := (6)) hx hb dX1_empty_24 (by decide) ?_
      refine lv_icmp_ge (tgt := 42) hx hb dX1_empty_26 (by decide) (fun c26 => ?_) (fun c26 => (lp_z hf c26).elim)
      refine lv_aload_n hx hb dX1_empty_42 rfl (lv_at hl 0 rfl) ?_
      refine lv_iconst (v := (0)) hx hb dX1_empty_43 (by decide) ?_
      refine cp_X1_X1_wishes C X dX1_empty_44 (fun H locs X => ?_)
      exact ret dX1_empty_47 he X
    | succ f ih23 =>
      intro y1 σ23 hf hnn he H locs ls X hl
      refine lv_iload_n hx hb dX1_empty_23 rfl (lv_at hl 1 rfl) ?_
      refine lv_bipush (v := (6)) hx hb dX1_empty_24 (by decide) ?_
      refine lv_icmp_ge (tgt := 42) hx hb dX1_empty_26 (by decide) (fun c26 => (lp_s hf c26).elim) (fun c26 => ?_)
      refine lv_aload_n hx hb dX1_empty_29 rfl (lv_at hl 0 rfl) ?_
      refine cg_X1_X1_named C X dX1_empty_30 ?_
      refine lv_iload_n hx hb dX1_empty_33 rfl (lv_at hl 1 rfl) ?_
      refine lv_iconst (v := (-1)) hx hb dX1_empty_34 (by decide) ?_
      refine cs_named C X (lp_in hnn hf (show (Int32.toInt (6 : Int32) : Int) ≤ 6 by decide)) dX1_empty_35 (fun H locs X => ?_)
      refine lv_iinc (v := (y1 + 1)) (lv' := [(1, .int (y1 + 1)), (0, .ref (a 3))]) hx hb dX1_empty_36 hl (k := 1) rfl rfl (by decide) rfl (fun ls hl => ?_)
      refine lv_goto (tgt := 23) hx hb dX1_empty_39 (by decide) ?_
      exact ih23 (y1 + 1) (c_named_s σ23 (upd (c_named σ23) (ix y1) (-1 : Int32))) (lp_b hf) (lp_nn hnn hf) he _ _ _ X (lv_sub hl [1, 0] rfl)
  exact L23 (((Int32.toInt (6 : Int32)) - (Int32.toInt (0 : Int32))).toNat) (0 : Int32) (fX1_empty_L2 (((Int32.toInt (16 : Int32)) - (Int32.toInt (0 : Int32))).toNat) (0 : Int32) σ) rfl (by decide) rfl _ _ _ X (lv_sub hl [1, 0] rfl)
def fX1_heldAt (σ : CSt) (x1 : Int32) : Int32 := (if x1 < (0 : Int32) then (-1 : Int32) else (if ((16 : Int32) + (c_wishes σ)) ≤ x1 then (-1 : Int32) else (if (136 : Int32) ≤ x1 then (-1 : Int32) else ((c_hheld σ) (ix x1)))))
theorem hdX1_heldAt : yX1_heldAt.cls = RX1 ∧ yX1_heldAt.cls ≠ "java/lang/invoke/MethodHandle" ∧ yX1_heldAt.cls ≠ "java/lang/invoke/VarHandle" ∧ (parseMethodDescriptor yX1_heldAt.desc).map (fun d => d.parameters.length) = some 1 := by decide +kernel
set_option maxHeartbeats 4000000 in
set_option maxRecDepth 100000 in
theorem kX1_heldAt (l : Launch) (D : va_G) (a : Nat → Nat) (cI cZ : ClassId) (σ : CSt) (x1 : Int32) : CR l D (tyIZ cI cZ) (wC a cI cZ) yX1_heldAt cX1_heldAt 2 .int (rmk 0 0) [.ref (a 3), .int x1] σ (fX1_heldAt σ x1) σ := by
  refine CR.of pnX1 ⟨rfl, rfl⟩ (Nat.le_of_ble_eq_true rfl) rfl (fun p e s m args below meth c A Q ls C X hA hl ret => ?_)
  have C : Cx p s m args meth c cX1_heldAt 2 RX1 D (tyIZ cI cZ) := C
  have hx := C.1
  have hb := C.2.1
  have hl : lv_has ls 2 [(0, .ref (a 3)), (1, .int x1)] := hl
  refine lv_iload_n hx hb dX1_heldAt_0 rfl (lv_at hl 1 rfl) ?_
  refine lv_if_lt (tgt := 33) hx hb dX1_heldAt_1 (by decide) (fun c1 => ?_) (fun c1 => ?_)
  · refine lv_iconst (v := (-1)) hx hb dX1_heldAt_33 (by decide) ?_
    exact ret dX1_heldAt_34 (congrArg (fun z => (z, _)) (Eq.symm (if_pos c1))) X
  · refine lv_iload_n hx hb dX1_heldAt_4 rfl (lv_at hl 1 rfl) ?_
    refine lv_bipush (v := (16)) hx hb dX1_heldAt_5 (by decide) ?_
    refine lv_aload_n hx hb dX1_heldAt_7 rfl (lv_at hl 0 rfl) ?_
    refine cg_X1_X1_wishes (v := (c_wishes σ)) C X rfl dX1_heldAt_8 ?_
    refine lv_iadd hx hb dX1_heldAt_11 ?_
    refine lv_icmp_ge (tgt := 33) hx hb dX1_heldAt_12 (by decide) (fun c12 => ?_) (fun c12 => ?_)
    · refine lv_iconst (v := (-1)) hx hb dX1_heldAt_33 (by decide) ?_
      exact ret dX1_heldAt_34 (congrArg (fun z => (z, _)) (Eq.symm (Eq.trans (if_neg c1) (if_pos c12)))) X
    · refine lv_iload_n hx hb dX1_heldAt_15 rfl (lv_at hl 1 rfl) ?_
      refine lv_aload_n hx hb dX1_heldAt_16 rfl (lv_at hl 0 rfl) ?_
      refine cg_X1_X1_held C X dX1_heldAt_17 ?_
      refine va_alen (v := (136)) hx hb C.2.2.2.2.2.1 X.1 14 0 rfl rfl rfl dX1_heldAt_20 ?_
      refine lv_icmp_ge (tgt := 33) hx hb dX1_heldAt_21 (by decide) (fun c21 => ?_) (fun c21 => ?_)
      · refine lv_iconst (v := (-1)) hx hb dX1_heldAt_33 (by decide) ?_
        exact ret dX1_heldAt_34 (congrArg (fun z => (z, _)) (Eq.symm (Eq.trans (if_neg c1) (Eq.trans (if_neg c12) (if_pos c21))))) X
      · refine lv_aload_n hx hb dX1_heldAt_24 rfl (lv_at hl 0 rfl) ?_
        refine cg_X1_X1_held C X dX1_heldAt_25 ?_
        refine lv_iload_n hx hb dX1_heldAt_28 rfl (lv_at hl 1 rfl) ?_
        refine ca_hheld (v := ((c_hheld σ) (ix x1))) C X (vp_in_iff.mpr (by have tc1 := i32_nlt c1; have tc12 := i32_nle c12; have tc21 := i32_nle c21; have q0_ : (0 : Int32).toInt = 0 := rfl; have q1_ : (136 : Int32).toInt = 136 := rfl; omega)) rfl dX1_heldAt_29 ?_
        refine lv_goto (tgt := 34) hx hb dX1_heldAt_30 (by decide) ?_
        exact ret dX1_heldAt_34 (congrArg (fun z => (z, _)) (Eq.symm (Eq.trans (if_neg c1) (Eq.trans (if_neg c12) (if_neg c21))))) X
def fX1_hold (σ : CSt) (x1 : Int32) (x2 : Int32) : Int32 × CSt := (if x1 < (0 : Int32) then (x2, σ) else (if (16 : Int32) ≤ x1 then (x2, σ) else (x2, (c_hheld_s σ (upd (c_hheld σ) (ix x1) x2)))))
theorem hdX1_hold : yX1_hold.cls = RX1 ∧ yX1_hold.cls ≠ "java/lang/invoke/MethodHandle" ∧ yX1_hold.cls ≠ "java/lang/invoke/VarHandle" ∧ (parseMethodDescriptor yX1_hold.desc).map (fun d => d.parameters.length) = some 2 := by decide +kernel
set_option maxHeartbeats 4000000 in
set_option maxRecDepth 100000 in
theorem kX1_hold (l : Launch) (D : va_G) (a : Nat → Nat) (cI cZ : ClassId) (σ : CSt) (x1 : Int32) (x2 : Int32) : CR l D (tyIZ cI cZ) (wC a cI cZ) yX1_hold cX1_hold 3 .int (rmk 0 0) [.ref (a 3), .int x1, .int x2] σ (fX1_hold σ x1 x2).1 (fX1_hold σ x1 x2).2 := by
  refine CR.of pnX1 ⟨rfl, rfl⟩ (Nat.le_of_ble_eq_true rfl) rfl (fun p e s m args below meth c A Q ls C X hA hl ret => ?_)
  have C : Cx p s m args meth c cX1_hold 3 RX1 D (tyIZ cI cZ) := C
  have hx := C.1
  have hb := C.2.1
  have hl : lv_has ls 3 [(0, .ref (a 3)), (1, .int x1), (2, .int x2)] := hl
  refine lv_iload_n hx hb dX1_hold_0 rfl (lv_at hl 1 rfl) ?_
  refine lv_if_lt (tgt := 17) hx hb dX1_hold_1 (by decide) (fun c1 => ?_) (fun c1 => ?_)
  · refine lv_iload_n hx hb dX1_hold_17 rfl (lv_at hl 2 rfl) ?_
    exact ret dX1_hold_18 (Eq.symm (if_pos c1)) X
  · refine lv_iload_n hx hb dX1_hold_4 rfl (lv_at hl 1 rfl) ?_
    refine lv_bipush (v := (16)) hx hb dX1_hold_5 (by decide) ?_
    refine lv_icmp_ge (tgt := 17) hx hb dX1_hold_7 (by decide) (fun c7 => ?_) (fun c7 => ?_)
    · refine lv_iload_n hx hb dX1_hold_17 rfl (lv_at hl 2 rfl) ?_
      exact ret dX1_hold_18 (Eq.symm (Eq.trans (if_neg c1) (if_pos c7))) X
    · refine lv_aload_n hx hb dX1_hold_10 rfl (lv_at hl 0 rfl) ?_
      refine cg_X1_X1_held C X dX1_hold_11 ?_
      refine lv_iload_n hx hb dX1_hold_14 rfl (lv_at hl 1 rfl) ?_
      refine lv_iload_n hx hb dX1_hold_15 rfl (lv_at hl 2 rfl) ?_
      refine cs_hheld C X (vp_in_iff.mpr (by have tc1 := i32_nlt c1; have tc7 := i32_nle c7; have q0_ : (0 : Int32).toInt = 0 := rfl; have q1_ : (16 : Int32).toInt = 16 := rfl; omega)) dX1_hold_16 (fun H locs X => ?_)
      refine lv_iload_n hx hb dX1_hold_17 rfl (lv_at hl 2 rfl) ?_
      exact ret dX1_hold_18 (Eq.symm (Eq.trans (if_neg c1) (if_neg c7))) X
def fX1_namedBy (σ : CSt) (x1 : Int32) : Int32 := (if (fX5_isWeakHolder σ x1) = (0 : Int32) then (-1 : Int32) else ((c_named σ) (ix x1)))
theorem hdX1_namedBy : yX1_namedBy.cls = RX1 ∧ yX1_namedBy.cls ≠ "java/lang/invoke/MethodHandle" ∧ yX1_namedBy.cls ≠ "java/lang/invoke/VarHandle" ∧ (parseMethodDescriptor yX1_namedBy.desc).map (fun d => d.parameters.length) = some 1 := by decide +kernel
set_option maxHeartbeats 4000000 in
set_option maxRecDepth 100000 in
theorem kX1_namedBy (l : Launch) (D : va_G) (a : Nat → Nat) (cI cZ : ClassId) (σ : CSt) (x1 : Int32) : CR l D (tyIZ cI cZ) (wC a cI cZ) yX1_namedBy cX1_namedBy 2 .int (rmk 1 20) [.ref (a 3), .int x1] σ (fX1_namedBy σ x1) σ := by
  refine CR.of pnX1 ⟨rfl, rfl⟩ (Nat.le_of_ble_eq_true rfl) rfl (fun p e s m args below meth c A Q ls C X hA hl ret => ?_)
  have C : Cx p s m args meth c cX1_namedBy 2 RX1 D (tyIZ cI cZ) := C
  have hx := C.1
  have hb := C.2.1
  have hl : lv_has ls 2 [(0, .ref (a 3)), (1, .int x1)] := hl
  refine lv_iload_n hx hb dX1_namedBy_0 rfl (lv_at hl 1 rfl) ?_
  refine callNR (rest := []) C hA (wC_sh a cI cZ) X (kX5_isWeakHolder l D a cI cZ _ x1) ⟨va_cnB 1 C.2.2.2.2.1 (gCode wk_yX5_isWeakHolder) rfl rfl rfl (C.2.2.2.2.2.2 _ (List.mem_of_getElem? (i := 11) rfl)) (C.2.2.2.2.1 _ wi_X5) hdX5_isWeakHolder.2 ⟨Nat.le_of_ble_eq_true rfl, Nat.le_of_ble_eq_true rfl⟩, C.2.2.2.2.1 _ wz_yX5_isWeakHolder, trivial⟩ rfl hl.1 rfl (Nat.le_of_ble_eq_true rfl) dX1_namedBy_1 ⟨Nat.le_refl 0, Nat.le_refl 0⟩ (fun H locs X => ?_)
  refine lv_if_eq (tgt := 16) hx hb dX1_namedBy_4 (by decide) (fun c4 => ?_) (fun c4 => ?_)
  · refine lv_iconst (v := (-1)) hx hb dX1_namedBy_16 (by decide) ?_
    exact ret dX1_namedBy_17 (congrArg (fun z => (z, _)) (Eq.symm (if_pos c4))) X
  · refine lv_aload_n hx hb dX1_namedBy_7 rfl (lv_at hl 0 rfl) ?_
    refine cg_X1_X1_named C X dX1_namedBy_8 ?_
    refine lv_iload_n hx hb dX1_namedBy_11 rfl (lv_at hl 1 rfl) ?_
    refine ca_named (v := ((c_named σ) (ix x1))) C X (in_isWeakHolder c4) rfl dX1_namedBy_12 ?_
    refine lv_goto (tgt := 17) hx hb dX1_namedBy_13 (by decide) ?_
    exact ret dX1_namedBy_17 (congrArg (fun z => (z, _)) (Eq.symm (if_neg c4))) X
def fX1_name (σ : CSt) (x1 : Int32) (x2 : Int32) : CSt := (if (fX5_isWeakHolder σ x1) = (0 : Int32) then σ else (c_named_s σ (upd (c_named σ) (ix x1) x2)))
theorem hdX1_name : yX1_name.cls = RX1 ∧ yX1_name.cls ≠ "java/lang/invoke/MethodHandle" ∧ yX1_name.cls ≠ "java/lang/invoke/VarHandle" ∧ (parseMethodDescriptor yX1_name.desc).map (fun d => d.parameters.length) = some 2 := by decide +kernel
set_option maxHeartbeats 4000000 in
set_option maxRecDepth 100000 in
theorem kX1_name (l : Launch) (D : va_G) (a : Nat → Nat) (cI cZ : ClassId) (σ : CSt) (x1 : Int32) (x2 : Int32) : CU l D (tyIZ cI cZ) (wC a cI cZ) yX1_name cX1_name 3 (rmk 1 20) [.ref (a 3), .int x1, .int x2] σ (fX1_name σ x1 x2) := by
  refine CU.of pnX1 ⟨rfl, rfl⟩ (Nat.le_of_ble_eq_true rfl) (fun p e s m args below meth c A Q ls C X hA hl ret => ?_)
  have C : Cx p s m args meth c cX1_name 3 RX1 D (tyIZ cI cZ) := C
  have hx := C.1
  have hb := C.2.1
  have hl : lv_has ls 3 [(0, .ref (a 3)), (1, .int x1), (2, .int x2)] := hl
  refine lv_iload_n hx hb dX1_name_0 rfl (lv_at hl 1 rfl) ?_
  refine callNR (rest := []) C hA (wC_sh a cI cZ) X (kX5_isWeakHolder l D a cI cZ _ x1) ⟨va_cnB 1 C.2.2.2.2.1 (gCode wk_yX5_isWeakHolder) rfl rfl rfl (C.2.2.2.2.2.2 _ (List.mem_of_getElem? (i := 11) rfl)) (C.2.2.2.2.1 _ wi_X5) hdX5_isWeakHolder.2 ⟨Nat.le_of_ble_eq_true rfl, Nat.le_of_ble_eq_true rfl⟩, C.2.2.2.2.1 _ wz_yX5_isWeakHolder, trivial⟩ rfl hl.1 rfl (Nat.le_of_ble_eq_true rfl) dX1_name_1 ⟨Nat.le_refl 0, Nat.le_refl 0⟩ (fun H locs X => ?_)
  refine lv_if_eq (tgt := 14) hx hb dX1_name_4 (by decide) (fun c4 => ?_) (fun c4 => ?_)
  · exact ret dX1_name_14 (Eq.symm (if_pos c4)) X
  · refine lv_aload_n hx hb dX1_name_7 rfl (lv_at hl 0 rfl) ?_
    refine cg_X1_X1_named C X dX1_name_8 ?_
    refine lv_iload_n hx hb dX1_name_11 rfl (lv_at hl 1 rfl) ?_
    refine lv_iload_n hx hb dX1_name_12 rfl (lv_at hl 2 rfl) ?_
    refine cs_named C X (in_isWeakHolder c4) dX1_name_13 (fun H locs X => ?_)
    exact ret dX1_name_14 (Eq.symm (if_neg c4)) X
def fX1_wishAt (σ : CSt) (x1 : Int32) : Int32 := (if x1 < (0 : Int32) then (-1 : Int32) else (if (c_wishes σ) ≤ x1 then (-1 : Int32) else (fX1_heldAt σ ((16 : Int32) + x1))))
theorem hdX1_wishAt : yX1_wishAt.cls = RX1 ∧ yX1_wishAt.cls ≠ "java/lang/invoke/MethodHandle" ∧ yX1_wishAt.cls ≠ "java/lang/invoke/VarHandle" ∧ (parseMethodDescriptor yX1_wishAt.desc).map (fun d => d.parameters.length) = some 1 := by decide +kernel
set_option maxHeartbeats 4000000 in
set_option maxRecDepth 100000 in
theorem kX1_wishAt (l : Launch) (D : va_G) (a : Nat → Nat) (cI cZ : ClassId) (σ : CSt) (x1 : Int32) : CR l D (tyIZ cI cZ) (wC a cI cZ) yX1_wishAt cX1_wishAt 2 .int (rmk 1 21) [.ref (a 3), .int x1] σ (fX1_wishAt σ x1) σ := by
  refine CR.of pnX1 ⟨rfl, rfl⟩ (Nat.le_of_ble_eq_true rfl) rfl (fun p e s m args below meth c A Q ls C X hA hl ret => ?_)
  have C : Cx p s m args meth c cX1_wishAt 2 RX1 D (tyIZ cI cZ) := C
  have hx := C.1
  have hb := C.2.1
  have hl : lv_has ls 2 [(0, .ref (a 3)), (1, .int x1)] := hl
  refine lv_iload_n hx hb dX1_wishAt_0 rfl (lv_at hl 1 rfl) ?_
  refine lv_if_lt (tgt := 23) hx hb dX1_wishAt_1 (by decide) (fun c1 => ?_) (fun c1 => ?_)
  · refine lv_iconst (v := (-1)) hx hb dX1_wishAt_23 (by decide) ?_
    exact ret dX1_wishAt_24 (congrArg (fun z => (z, _)) (Eq.symm (if_pos c1))) X
  · refine lv_iload_n hx hb dX1_wishAt_4 rfl (lv_at hl 1 rfl) ?_
    refine lv_aload_n hx hb dX1_wishAt_5 rfl (lv_at hl 0 rfl) ?_
    refine cg_X1_X1_wishes (v := (c_wishes σ)) C X rfl dX1_wishAt_6 ?_
    refine lv_icmp_ge (tgt := 23) hx hb dX1_wishAt_9 (by decide) (fun c9 => ?_) (fun c9 => ?_)
    · refine lv_iconst (v := (-1)) hx hb dX1_wishAt_23 (by decide) ?_
      exact ret dX1_wishAt_24 (congrArg (fun z => (z, _)) (Eq.symm (Eq.trans (if_neg c1) (if_pos c9)))) X
    · refine lv_aload_n hx hb dX1_wishAt_12 rfl (lv_at hl 0 rfl) ?_
      refine lv_bipush (v := (16)) hx hb dX1_wishAt_13 (by decide) ?_
      refine lv_iload_n hx hb dX1_wishAt_15 rfl (lv_at hl 1 rfl) ?_
      refine lv_iadd hx hb dX1_wishAt_16 ?_
      refine callVR (rest := []) C hA (wC_sh a cI cZ) X (kX1_heldAt l D a cI cZ _ ((16 : Int32) + x1)) (cwV 1 C.2.2.2.2.1 (gV wl_X1_26 wt_yX1_heldAt ws_yX1_heldAt wi_X1 wk_yX1_heldAt) rfl rfl rfl hdX1_heldAt ⟨Nat.le_of_ble_eq_true rfl, Nat.le_of_ble_eq_true rfl⟩) (ci := 1) (q0 := 3) rfl rfl rfl hl.1 rfl (Nat.le_of_ble_eq_true rfl) dX1_wishAt_17 ⟨Nat.le_refl 0, Nat.le_refl 0⟩ (fun H locs X => ?_)
      refine lv_goto (tgt := 24) hx hb dX1_wishAt_20 (by decide) ?_
      exact ret dX1_wishAt_24 (congrArg (fun z => (z, _)) (Eq.symm (Eq.trans (if_neg c1) (if_neg c9)))) X
def fX1_addWish (σ : CSt) (x1 : Int32) : CSt := (if (c_wishes σ) < (0 : Int32) then σ else (if (120 : Int32) ≤ (c_wishes σ) then σ else (c_wishes_s (c_hheld_s σ (upd (c_hheld σ) (ix ((16 : Int32) + (c_wishes σ))) x1)) ((c_wishes σ) + (1 : Int32)))))
theorem hdX1_addWish : yX1_addWish.cls = RX1 ∧ yX1_addWish.cls ≠ "java/lang/invoke/MethodHandle" ∧ yX1_addWish.cls ≠ "java/lang/invoke/VarHandle" ∧ (parseMethodDescriptor yX1_addWish.desc).map (fun d => d.parameters.length) = some 1 := by decide +kernel
set_option maxHeartbeats 4000000 in
set_option maxRecDepth 100000 in
theorem kX1_addWish (l : Launch) (D : va_G) (a : Nat → Nat) (cI cZ : ClassId) (σ : CSt) (x1 : Int32) : CU l D (tyIZ cI cZ) (wC a cI cZ) yX1_addWish cX1_addWish 2 (rmk 0 0) [.ref (a 3), .int x1] σ (fX1_addWish σ x1) := by
  refine CU.of pnX1 ⟨rfl, rfl⟩ (Nat.le_of_ble_eq_true rfl) (fun p e s m args below meth c A Q ls C X hA hl ret => ?_)
  have C : Cx p s m args meth c cX1_addWish 2 RX1 D (tyIZ cI cZ) := C
  have hx := C.1
  have hb := C.2.1
  have hl : lv_has ls 2 [(0, .ref (a 3)), (1, .int x1)] := hl
  refine lv_aload_n hx hb dX1_addWish_0 rfl (lv_at hl 0 rfl) ?_
  refine cg_X1_X1_wishes (v := (c_wishes σ)) C X rfl dX1_addWish_1 ?_
  refine lv_if_lt (tgt := 39) hx hb dX1_addWish_4 (by decide) (fun c4 => ?_) (fun c4 => ?_)
  · exact ret dX1_addWish_39 (Eq.symm (if_pos c4)) X
  · refine lv_aload_n hx hb dX1_addWish_7 rfl (lv_at hl 0 rfl) ?_
    refine cg_X1_X1_wishes (v := (c_wishes σ)) C X rfl dX1_addWish_8 ?_
    refine lv_bipush (v := (120)) hx hb dX1_addWish_11 (by decide) ?_
    refine lv_icmp_ge (tgt := 39) hx hb dX1_addWish_13 (by decide) (fun c13 => ?_) (fun c13 => ?_)
    · exact ret dX1_addWish_39 (Eq.symm (Eq.trans (if_neg c4) (if_pos c13))) X
    · refine lv_aload_n hx hb dX1_addWish_16 rfl (lv_at hl 0 rfl) ?_
      refine cg_X1_X1_held C X dX1_addWish_17 ?_
      refine lv_bipush (v := (16)) hx hb dX1_addWish_20 (by decide) ?_
      refine lv_aload_n hx hb dX1_addWish_22 rfl (lv_at hl 0 rfl) ?_
      refine cg_X1_X1_wishes (v := (c_wishes σ)) C X rfl dX1_addWish_23 ?_
      refine lv_iadd hx hb dX1_addWish_26 ?_
      refine lv_iload_n hx hb dX1_addWish_27 rfl (lv_at hl 1 rfl) ?_
      refine cs_hheld C X (in_16 (vp_in_iff.mpr (by have t1 := i32_nlt c4; have t2 := i32_nle c13; have q : (120 : Int32).toInt = 120 := rfl; have q1 : (0 : Int32).toInt = 0 := rfl; omega))) dX1_addWish_28 (fun H locs X => ?_)
      refine lv_aload_n hx hb dX1_addWish_29 rfl (lv_at hl 0 rfl) ?_
      refine lv_dup hx hb dX1_addWish_30 rfl ?_
      refine cg_X1_X1_wishes (v := (c_wishes σ)) C X rfl dX1_addWish_31 ?_
      refine lv_iconst (v := (1)) hx hb dX1_addWish_34 (by decide) ?_
      refine lv_iadd hx hb dX1_addWish_35 ?_
      refine cp_X1_X1_wishes C X dX1_addWish_36 (fun H locs X => ?_)
      exact ret dX1_addWish_39 (Eq.symm (Eq.trans (if_neg c4) (if_neg c13))) X
def fX1_takeFirstWish_L10 (z1 : Int32) : Nat → Int32 → CSt → Int32 × CSt
  | 0, y2, σ10 => (if (c_wishes σ10) ≤ (0 : Int32) then (z1, σ10) else (z1, (c_wishes_s σ10 ((c_wishes σ10) - (1 : Int32)))))
  | f + 1, y2, σ10 => (if (136 : Int32) ≤ (y2 + (1 : Int32)) then (if (c_wishes σ10) ≤ (0 : Int32) then (z1, σ10) else (z1, (c_wishes_s σ10 ((c_wishes σ10) - (1 : Int32))))) else (fX1_takeFirstWish_L10 z1 f (y2 + 1) (c_hheld_s σ10 (upd (c_hheld σ10) (ix y2) ((c_hheld σ10) (ix (y2 + (1 : Int32))))))))
def fX1_takeFirstWish (σ : CSt) : Int32 × CSt := (fX1_takeFirstWish_L10 (fX1_heldAt σ (16 : Int32)) (((Int32.toInt ((16 : Int32) + (c_wishes σ))) - (Int32.toInt ((16 : Int32) + (1 : Int32)))).toNat) (16 : Int32) σ)
theorem hdX1_takeFirstWish : yX1_takeFirstWish.cls = RX1 ∧ yX1_takeFirstWish.cls ≠ "java/lang/invoke/MethodHandle" ∧ yX1_takeFirstWish.cls ≠ "java/lang/invoke/VarHandle" ∧ (parseMethodDescriptor yX1_takeFirstWish.desc).map (fun d => d.parameters.length) = some 0 := by decide +kernel
set_option maxHeartbeats 4000000 in
set_option maxRecDepth 100000 in
theorem kX1_takeFirstWish (l : Launch) (D : va_G) (a : Nat → Nat) (cI cZ : ClassId) (σ : CSt) : CR l D (tyIZ cI cZ) (wC a cI cZ) yX1_takeFirstWish cX1_takeFirstWish 3 .int (rmk 1 21) [.ref (a 3)] σ (fX1_takeFirstWish σ).1 (fX1_takeFirstWish σ).2 := by
  refine CR.of pnX1 ⟨rfl, rfl⟩ (Nat.le_of_ble_eq_true rfl) rfl (fun p e s m args below meth c A Q ls C X hA hl ret => ?_)
  have C : Cx p s m args meth c cX1_takeFirstWish 3 RX1 D (tyIZ cI cZ) := C
  have hx := C.1
  have hb := C.2.1
  have hl : lv_has ls 3 [(0, .ref (a 3))] := hl
  refine lv_aload_n hx hb dX1_takeFirstWish_0 rfl (lv_at hl 0 rfl) ?_
  refine lv_bipush (v := (16)) hx hb dX1_takeFirstWish_1 (by decide) ?_
  refine callVR (rest := []) C hA (wC_sh a cI cZ) X (kX1_heldAt l D a cI cZ _ (16 : Int32)) (cwV 1 C.2.2.2.2.1 (gV wl_X1_26 wt_yX1_heldAt ws_yX1_heldAt wi_X1 wk_yX1_heldAt) rfl rfl rfl hdX1_heldAt ⟨Nat.le_of_ble_eq_true rfl, Nat.le_of_ble_eq_true rfl⟩) (ci := 1) (q0 := 3) rfl rfl rfl hl.1 rfl (Nat.le_of_ble_eq_true rfl) dX1_takeFirstWish_3 ⟨Nat.le_refl 0, Nat.le_refl 0⟩ (fun H locs X => ?_)
  refine lv_istore_n (lv' := [(1, .int (fX1_heldAt σ (16 : Int32))), (0, .ref (a 3))]) hx hb dX1_takeFirstWish_6 rfl hl (by decide) rfl (fun ls hl => ?_)
  refine lv_bipush (v := (16)) hx hb dX1_takeFirstWish_7 (by decide) ?_
  refine lv_istore_n (lv' := [(2, .int (16 : Int32)), (1, .int (fX1_heldAt σ (16 : Int32))), (0, .ref (a 3))]) hx hb dX1_takeFirstWish_9 rfl hl (by decide) rfl (fun ls hl => ?_)
  have L10 : ∀ (f : Nat) (y2 : Int32) (σ10 : CSt) (hf : ((Int32.toInt ((16 : Int32) + (c_wishes σ10))) - (Int32.toInt (y2 + (1 : Int32)))).toNat = f) (hnn : 0 ≤ Int32.toInt (y2 + (1 : Int32))) (hy : 0 ≤ Int32.toInt y2) (he : fX1_takeFirstWish_L10 (fX1_heldAt σ (16 : Int32)) f y2 σ10 = (fX1_takeFirstWish σ)) (H : Heap) (locs : List Loc) (ls : Array Slot) (X : Sx A D (wC a cI cZ σ10) s H locs) (hl : lv_has ls 3 [(0, .ref (a 3)), (1, .int (fX1_heldAt σ (16 : Int32))), (2, .int y2)]), W p l e (rmk 1 21) s m args below meth c H locs 0 0 Q (F0 m 10 ls []) := by
    intro f
    induction f with
    | zero =>
      intro y2 σ10 hf hnn hy he H locs ls X hl
      refine lv_iload_n hx hb dX1_takeFirstWish_10 rfl (lv_at hl 2 rfl) ?_
      refine lv_iconst (v := (1)) hx hb dX1_takeFirstWish_11 (by decide) ?_
      refine lv_iadd hx hb dX1_takeFirstWish_12 ?_
      refine lv_bipush (v := (16)) hx hb dX1_takeFirstWish_13 (by decide) ?_
      refine lv_aload_n hx hb dX1_takeFirstWish_15 rfl (lv_at hl 0 rfl) ?_
      refine cg_X1_X1_wishes (v := (c_wishes σ10)) C X rfl dX1_takeFirstWish_16 ?_
      refine lv_iadd hx hb dX1_takeFirstWish_19 ?_
      refine lv_icmp_ge (tgt := 54) hx hb dX1_takeFirstWish_20 (by decide) (fun c20 => ?_) (fun c20 => (lp_z hf c20).elim)
      refine lv_aload_n hx hb dX1_takeFirstWish_54 rfl (lv_at hl 0 rfl) ?_
      refine cg_X1_X1_wishes (v := (c_wishes σ10)) C X rfl dX1_takeFirstWish_55 ?_
      refine lv_if_le (tgt := 71) hx hb dX1_takeFirstWish_58 (by decide) (fun c58 => ?_) (fun c58 => ?_)
      · refine lv_iload_n hx hb dX1_takeFirstWish_71 rfl (lv_at hl 1 rfl) ?_
        exact ret dX1_takeFirstWish_72 (Eq.trans (Eq.symm (if_pos c58)) he) X
      · refine lv_aload_n hx hb dX1_takeFirstWish_61 rfl (lv_at hl 0 rfl) ?_
        refine lv_dup hx hb dX1_takeFirstWish_62 rfl ?_
        refine cg_X1_X1_wishes (v := (c_wishes σ10)) C X rfl dX1_takeFirstWish_63 ?_
        refine lv_iconst (v := (1)) hx hb dX1_takeFirstWish_66 (by decide) ?_
        refine lv_isub hx hb dX1_takeFirstWish_67 ?_
        refine cp_X1_X1_wishes C X dX1_takeFirstWish_68 (fun H locs X => ?_)
        refine lv_iload_n hx hb dX1_takeFirstWish_71 rfl (lv_at hl 1 rfl) ?_
        exact ret dX1_takeFirstWish_72 (Eq.trans (Eq.symm (if_neg c58)) he) X
    | succ f ih10 =>
      intro y2 σ10 hf hnn hy he H locs ls X hl
      refine lv_iload_n hx hb dX1_takeFirstWish_10 rfl (lv_at hl 2 rfl) ?_
      refine lv_iconst (v := (1)) hx hb dX1_takeFirstWish_11 (by decide) ?_
      refine lv_iadd hx hb dX1_takeFirstWish_12 ?_
      refine lv_bipush (v := (16)) hx hb dX1_takeFirstWish_13 (by decide) ?_
      refine lv_aload_n hx hb dX1_takeFirstWish_15 rfl (lv_at hl 0 rfl) ?_
      refine cg_X1_X1_wishes (v := (c_wishes σ10)) C X rfl dX1_takeFirstWish_16 ?_
      refine lv_iadd hx hb dX1_takeFirstWish_19 ?_
      refine lv_icmp_ge (tgt := 54) hx hb dX1_takeFirstWish_20 (by decide) (fun c20 => (lp_s hf c20).elim) (fun c20 => ?_)
      refine lv_iload_n hx hb dX1_takeFirstWish_23 rfl (lv_at hl 2 rfl) ?_
      refine lv_iconst (v := (1)) hx hb dX1_takeFirstWish_24 (by decide) ?_
      refine lv_iadd hx hb dX1_takeFirstWish_25 ?_
      refine lv_aload_n hx hb dX1_takeFirstWish_26 rfl (lv_at hl 0 rfl) ?_
      refine cg_X1_X1_held C X dX1_takeFirstWish_27 ?_
      refine va_alen (v := (136)) hx hb C.2.2.2.2.2.1 X.1 14 0 rfl rfl rfl dX1_takeFirstWish_30 ?_
      refine lv_icmp_ge (tgt := 54) hx hb dX1_takeFirstWish_31 (by decide) (fun c31 => ?_) (fun c31 => ?_)
      · refine lv_aload_n hx hb dX1_takeFirstWish_54 rfl (lv_at hl 0 rfl) ?_
        refine cg_X1_X1_wishes (v := (c_wishes σ10)) C X rfl dX1_takeFirstWish_55 ?_
        refine lv_if_le (tgt := 71) hx hb dX1_takeFirstWish_58 (by decide) (fun c58 => ?_) (fun c58 => ?_)
        · refine lv_iload_n hx hb dX1_takeFirstWish_71 rfl (lv_at hl 1 rfl) ?_
          exact ret dX1_takeFirstWish_72 (Eq.trans (Eq.symm (Eq.trans (if_pos c31) (if_pos c58))) he) X
        · refine lv_aload_n hx hb dX1_takeFirstWish_61 rfl (lv_at hl 0 rfl) ?_
          refine lv_dup hx hb dX1_takeFirstWish_62 rfl ?_
          refine cg_X1_X1_wishes (v := (c_wishes σ10)) C X rfl dX1_takeFirstWish_63 ?_
          refine lv_iconst (v := (1)) hx hb dX1_takeFirstWish_66 (by decide) ?_
          refine lv_isub hx hb dX1_takeFirstWish_67 ?_
          refine cp_X1_X1_wishes C X dX1_takeFirstWish_68 (fun H locs X => ?_)
          refine lv_iload_n hx hb dX1_takeFirstWish_71 rfl (lv_at hl 1 rfl) ?_
          exact ret dX1_takeFirstWish_72 (Eq.trans (Eq.symm (Eq.trans (if_pos c31) (if_neg c58))) he) X
      · refine lv_aload_n hx hb dX1_takeFirstWish_34 rfl (lv_at hl 0 rfl) ?_
        refine cg_X1_X1_held C X dX1_takeFirstWish_35 ?_
        refine lv_iload_n hx hb dX1_takeFirstWish_38 rfl (lv_at hl 2 rfl) ?_
        refine lv_aload_n hx hb dX1_takeFirstWish_39 rfl (lv_at hl 0 rfl) ?_
        refine cg_X1_X1_held C X dX1_takeFirstWish_40 ?_
        refine lv_iload_n hx hb dX1_takeFirstWish_43 rfl (lv_at hl 2 rfl) ?_
        refine lv_iconst (v := (1)) hx hb dX1_takeFirstWish_44 (by decide) ?_
        refine lv_iadd hx hb dX1_takeFirstWish_45 ?_
        refine ca_hheld (v := ((c_hheld σ10) (ix (y2 + (1 : Int32))))) C X (vp_in_iff.mpr (by have t := i32_nle c31; have q : (136 : Int32).toInt = 136 := rfl; omega)) rfl dX1_takeFirstWish_46 ?_
        refine cs_hheld C X (vp_in_iff.mpr (by have t := i32_nle c31; have q : (136 : Int32).toInt = 136 := rfl; have e := i32_p hy hnn; omega)) dX1_takeFirstWish_47 (fun H locs X => ?_)
        refine lv_iinc (v := (y2 + 1)) (lv' := [(2, .int (y2 + 1)), (0, .ref (a 3)), (1, .int (fX1_heldAt σ (16 : Int32)))]) hx hb dX1_takeFirstWish_48 hl (k := 2) rfl rfl (by decide) rfl (fun ls hl => ?_)
        refine lv_goto (tgt := 10) hx hb dX1_takeFirstWish_51 (by decide) ?_
        exact ih10 (y2 + 1) (c_hheld_s σ10 (upd (c_hheld σ10) (ix y2) ((c_hheld σ10) (ix (y2 + (1 : Int32)))))) (lp_b hf) (lp_nn hnn hf) (hnn) (Eq.trans (Eq.symm (if_neg c31)) he) _ _ _ X (lv_sub hl [1, 2, 0] rfl)
  exact L10 (((Int32.toInt ((16 : Int32) + (c_wishes σ))) - (Int32.toInt ((16 : Int32) + (1 : Int32)))).toNat) (16 : Int32) σ rfl (by decide) (by decide) rfl _ _ _ X (lv_sub hl [2, 1, 0] rfl)
def fX2_isPair (σ : CSt) (x1 : Int32) : Int32 := (if x1 < (0 : Int32) then (0 : Int32) else (if (c_pmade σ) ≤ x1 then (0 : Int32) else (if (8 : Int32) ≤ x1 then (0 : Int32) else (1 : Int32))))
theorem hdX2_isPair : yX2_isPair.cls = RX2 ∧ yX2_isPair.cls ≠ "java/lang/invoke/MethodHandle" ∧ yX2_isPair.cls ≠ "java/lang/invoke/VarHandle" ∧ (parseMethodDescriptor yX2_isPair.desc).map (fun d => d.parameters.length) = some 1 := by decide +kernel
theorem bX2_isPair (σ : CSt) (x1 : Int32) : (fX2_isPair σ x1) = 0 ∨ (fX2_isPair σ x1) = 1 := by
  unfold fX2_isPair
  (repeat' split) <;> first | exact Or.inl rfl | exact Or.inr rfl
set_option maxHeartbeats 4000000 in
set_option maxRecDepth 100000 in
theorem kX2_isPair (l : Launch) (D : va_G) (a : Nat → Nat) (cI cZ : ClassId) (σ : CSt) (x1 : Int32) : CR l D (tyIZ cI cZ) (wC a cI cZ) yX2_isPair cX2_isPair 2 .boolean (rmk 0 0) [.ref (a 4), .int x1] σ (fX2_isPair σ x1) σ := by
  refine CR.of pnX2 ⟨rfl, rfl⟩ (Nat.le_of_ble_eq_true rfl) (nar_b (bX2_isPair σ x1)) (fun p e s m args below meth c A Q ls C X hA hl ret => ?_)
  have C : Cx p s m args meth c cX2_isPair 2 RX2 D (tyIZ cI cZ) := C
  have hx := C.1
  have hb := C.2.1
  have hl : lv_has ls 2 [(0, .ref (a 4)), (1, .int x1)] := hl
  refine lv_iload_n hx hb dX2_isPair_0 rfl (lv_at hl 1 rfl) ?_
  refine lv_if_lt (tgt := 22) hx hb dX2_isPair_1 (by decide) (fun c1 => ?_) (fun c1 => ?_)
  · refine lv_iconst (v := (0)) hx hb dX2_isPair_22 (by decide) ?_
    exact ret dX2_isPair_23 (congrArg (fun z => (z, _)) (Eq.symm (if_pos c1))) X
  · refine lv_iload_n hx hb dX2_isPair_4 rfl (lv_at hl 1 rfl) ?_
    refine lv_aload_n hx hb dX2_isPair_5 rfl (lv_at hl 0 rfl) ?_
    refine cg_X2_X2_made (v := (c_pmade σ)) C X rfl dX2_isPair_6 ?_
    refine lv_icmp_ge (tgt := 22) hx hb dX2_isPair_9 (by decide) (fun c9 => ?_) (fun c9 => ?_)
    · refine lv_iconst (v := (0)) hx hb dX2_isPair_22 (by decide) ?_
      exact ret dX2_isPair_23 (congrArg (fun z => (z, _)) (Eq.symm (Eq.trans (if_neg c1) (if_pos c9)))) X
    · refine lv_iload_n hx hb dX2_isPair_12 rfl (lv_at hl 1 rfl) ?_
      refine lv_bipush (v := (8)) hx hb dX2_isPair_13 (by decide) ?_
      refine lv_icmp_ge (tgt := 22) hx hb dX2_isPair_15 (by decide) (fun c15 => ?_) (fun c15 => ?_)
      · refine lv_iconst (v := (0)) hx hb dX2_isPair_22 (by decide) ?_
        exact ret dX2_isPair_23 (congrArg (fun z => (z, _)) (Eq.symm (Eq.trans (if_neg c1) (Eq.trans (if_neg c9) (if_pos c15))))) X
      · refine lv_iconst (v := (1)) hx hb dX2_isPair_18 (by decide) ?_
        refine lv_goto (tgt := 23) hx hb dX2_isPair_19 (by decide) ?_
        exact ret dX2_isPair_23 (congrArg (fun z => (z, _)) (Eq.symm (Eq.trans (if_neg c1) (Eq.trans (if_neg c9) (if_neg c15))))) X
theorem in_isPair {σ : CSt} {x : Int32} (h : ¬ fX2_isPair σ x = 0) : vp_in x 8 := by
  unfold fX2_isPair at h
  split at h
  · exact absurd rfl h
  · split at h
    · exact absurd rfl h
    · split at h
      · exact absurd rfl h
      · rename_i h1 h2 h3
        exact vp_in_iff.mpr (by have a1 := i32_nlt h1; have a3 := i32_nle h3; have q : (8 : Int32).toInt = 8 := rfl; have q2 : (0 : Int32).toInt = 0 := rfl; omega)

def fX2_add (σ : CSt) (x1 : Int32) (x2 : Int32) : Int32 × CSt := (if (c_pmade σ) < (0 : Int32) then ((-4 : Int32), σ) else (if (c_pmade σ) < (8 : Int32) then ((((c_pmade σ) + (1 : Int32)) - (1 : Int32)), (c_pmade_s (c_values_s (c_keys_s σ (upd (c_keys σ) (ix (c_pmade σ)) x1)) (upd (c_values σ) (ix (c_pmade σ)) x2)) ((c_pmade σ) + (1 : Int32)))) else ((-4 : Int32), σ)))
theorem hdX2_add : yX2_add.cls = RX2 ∧ yX2_add.cls ≠ "java/lang/invoke/MethodHandle" ∧ yX2_add.cls ≠ "java/lang/invoke/VarHandle" ∧ (parseMethodDescriptor yX2_add.desc).map (fun d => d.parameters.length) = some 2 := by decide +kernel
set_option maxHeartbeats 4000000 in
set_option maxRecDepth 100000 in
theorem kX2_add (l : Launch) (D : va_G) (a : Nat → Nat) (cI cZ : ClassId) (σ : CSt) (x1 : Int32) (x2 : Int32) : CR l D (tyIZ cI cZ) (wC a cI cZ) yX2_add cX2_add 3 .int (rmk 0 0) [.ref (a 4), .int x1, .int x2] σ (fX2_add σ x1 x2).1 (fX2_add σ x1 x2).2 := by
  refine CR.of pnX2 ⟨rfl, rfl⟩ (Nat.le_of_ble_eq_true rfl) rfl (fun p e s m args below meth c A Q ls C X hA hl ret => ?_)
  have C : Cx p s m args meth c cX2_add 3 RX2 D (tyIZ cI cZ) := C
  have hx := C.1
  have hb := C.2.1
  have hl : lv_has ls 3 [(0, .ref (a 4)), (1, .int x1), (2, .int x2)] := hl
  refine lv_aload_n hx hb dX2_add_0 rfl (lv_at hl 0 rfl) ?_
  refine cg_X2_X2_made (v := (c_pmade σ)) C X rfl dX2_add_1 ?_
  refine lv_if_lt (tgt := 16) hx hb dX2_add_4 (by decide) (fun c4 => ?_) (fun c4 => ?_)
  · refine lv_bipush (v := (-4)) hx hb dX2_add_16 (by decide) ?_
    exact ret dX2_add_18 (Eq.symm (if_pos c4)) X
  · refine lv_aload_n hx hb dX2_add_7 rfl (lv_at hl 0 rfl) ?_
    refine cg_X2_X2_made (v := (c_pmade σ)) C X rfl dX2_add_8 ?_
    refine lv_bipush (v := (8)) hx hb dX2_add_11 (by decide) ?_
    refine lv_icmp_lt (tgt := 19) hx hb dX2_add_13 (by decide) (fun c13 => ?_) (fun c13 => ?_)
    · refine lv_aload_n hx hb dX2_add_19 rfl (lv_at hl 0 rfl) ?_
      refine cg_X2_X2_keys C X dX2_add_20 ?_
      refine lv_aload_n hx hb dX2_add_23 rfl (lv_at hl 0 rfl) ?_
      refine cg_X2_X2_made (v := (c_pmade σ)) C X rfl dX2_add_24 ?_
      refine lv_iload_n hx hb dX2_add_27 rfl (lv_at hl 1 rfl) ?_
      refine cs_keys C X (vp_in_iff.mpr (by have tc4 := i32_nlt c4; have tc13 := i32_lt c13; have q0_ : (0 : Int32).toInt = 0 := rfl; have q1_ : (8 : Int32).toInt = 8 := rfl; omega)) dX2_add_28 (fun H locs X => ?_)
      refine lv_aload_n hx hb dX2_add_29 rfl (lv_at hl 0 rfl) ?_
      refine cg_X2_X2_values C X dX2_add_30 ?_
      refine lv_aload_n hx hb dX2_add_33 rfl (lv_at hl 0 rfl) ?_
      refine cg_X2_X2_made (v := (c_pmade σ)) C X rfl dX2_add_34 ?_
      refine lv_iload_n hx hb dX2_add_37 rfl (lv_at hl 2 rfl) ?_
      refine cs_values C X (vp_in_iff.mpr (by have tc4 := i32_nlt c4; have tc13 := i32_lt c13; have q0_ : (0 : Int32).toInt = 0 := rfl; have q1_ : (8 : Int32).toInt = 8 := rfl; omega)) dX2_add_38 (fun H locs X => ?_)
      refine lv_aload_n hx hb dX2_add_39 rfl (lv_at hl 0 rfl) ?_
      refine lv_dup hx hb dX2_add_40 rfl ?_
      refine cg_X2_X2_made (v := (c_pmade σ)) C X rfl dX2_add_41 ?_
      refine lv_iconst (v := (1)) hx hb dX2_add_44 (by decide) ?_
      refine lv_iadd hx hb dX2_add_45 ?_
      refine cp_X2_X2_made C X dX2_add_46 (fun H locs X => ?_)
      refine lv_aload_n hx hb dX2_add_49 rfl (lv_at hl 0 rfl) ?_
      refine cg_X2_X2_made (v := ((c_pmade σ) + (1 : Int32))) C X rfl dX2_add_50 ?_
      refine lv_iconst (v := (1)) hx hb dX2_add_53 (by decide) ?_
      refine lv_isub hx hb dX2_add_54 ?_
      exact ret dX2_add_55 (Eq.symm (Eq.trans (if_neg c4) (if_pos c13))) X
    · refine lv_bipush (v := (-4)) hx hb dX2_add_16 (by decide) ?_
      exact ret dX2_add_18 (Eq.symm (Eq.trans (if_neg c4) (if_neg c13))) X
def fX2_end (σ : CSt) (x1 : Int32) : CSt := (if (fX2_isPair σ x1) = (0 : Int32) then σ else (c_values_s (c_keys_s σ (upd (c_keys σ) (ix x1) (-1 : Int32))) (upd (c_values σ) (ix x1) (-1 : Int32))))
theorem hdX2_end : yX2_end.cls = RX2 ∧ yX2_end.cls ≠ "java/lang/invoke/MethodHandle" ∧ yX2_end.cls ≠ "java/lang/invoke/VarHandle" ∧ (parseMethodDescriptor yX2_end.desc).map (fun d => d.parameters.length) = some 1 := by decide +kernel
set_option maxHeartbeats 4000000 in
set_option maxRecDepth 100000 in
theorem kX2_end (l : Launch) (D : va_G) (a : Nat → Nat) (cI cZ : ClassId) (σ : CSt) (x1 : Int32) : CU l D (tyIZ cI cZ) (wC a cI cZ) yX2_end cX2_end 2 (rmk 1 21) [.ref (a 4), .int x1] σ (fX2_end σ x1) := by
  refine CU.of pnX2 ⟨rfl, rfl⟩ (Nat.le_of_ble_eq_true rfl) (fun p e s m args below meth c A Q ls C X hA hl ret => ?_)
  have C : Cx p s m args meth c cX2_end 2 RX2 D (tyIZ cI cZ) := C
  have hx := C.1
  have hb := C.2.1
  have hl : lv_has ls 2 [(0, .ref (a 4)), (1, .int x1)] := hl
  refine lv_aload_n hx hb dX2_end_0 rfl (lv_at hl 0 rfl) ?_
  refine lv_iload_n hx hb dX2_end_1 rfl (lv_at hl 1 rfl) ?_
  refine callVR (rest := []) C hA (wC_sh a cI cZ) X (kX2_isPair l D a cI cZ _ x1) (cwV 1 C.2.2.2.2.1 (gV wl_X2_22 wt_yX2_isPair ws_yX2_isPair wi_X2 wk_yX2_isPair) rfl rfl rfl hdX2_isPair ⟨Nat.le_of_ble_eq_true rfl, Nat.le_of_ble_eq_true rfl⟩) (ci := 2) (q0 := 4) rfl rfl rfl hl.1 rfl (Nat.le_of_ble_eq_true rfl) dX2_end_2 ⟨Nat.le_refl 0, Nat.le_refl 0⟩ (fun H locs X => ?_)
  refine lv_if_eq (tgt := 22) hx hb dX2_end_5 (by decide) (fun c5 => ?_) (fun c5 => ?_)
  · exact ret dX2_end_22 (Eq.symm (if_pos c5)) X
  · refine lv_aload_n hx hb dX2_end_8 rfl (lv_at hl 0 rfl) ?_
    refine cg_X2_X2_keys C X dX2_end_9 ?_
    refine lv_iload_n hx hb dX2_end_12 rfl (lv_at hl 1 rfl) ?_
    refine lv_iconst (v := (-1)) hx hb dX2_end_13 (by decide) ?_
    refine cs_keys C X (in_isPair c5) dX2_end_14 (fun H locs X => ?_)
    refine lv_aload_n hx hb dX2_end_15 rfl (lv_at hl 0 rfl) ?_
    refine cg_X2_X2_values C X dX2_end_16 ?_
    refine lv_iload_n hx hb dX2_end_19 rfl (lv_at hl 1 rfl) ?_
    refine lv_iconst (v := (-1)) hx hb dX2_end_20 (by decide) ?_
    refine cs_values C X (in_isPair c5) dX2_end_21 (fun H locs X => ?_)
    exact ret dX2_end_22 (Eq.symm (if_neg c5)) X
def fX2_keyOf (σ : CSt) (x1 : Int32) : Int32 := (if (fX2_isPair σ x1) = (0 : Int32) then (-1 : Int32) else ((c_keys σ) (ix x1)))
theorem hdX2_keyOf : yX2_keyOf.cls = RX2 ∧ yX2_keyOf.cls ≠ "java/lang/invoke/MethodHandle" ∧ yX2_keyOf.cls ≠ "java/lang/invoke/VarHandle" ∧ (parseMethodDescriptor yX2_keyOf.desc).map (fun d => d.parameters.length) = some 1 := by decide +kernel
set_option maxHeartbeats 4000000 in
set_option maxRecDepth 100000 in
theorem kX2_keyOf (l : Launch) (D : va_G) (a : Nat → Nat) (cI cZ : ClassId) (σ : CSt) (x1 : Int32) : CR l D (tyIZ cI cZ) (wC a cI cZ) yX2_keyOf cX2_keyOf 2 .int (rmk 1 21) [.ref (a 4), .int x1] σ (fX2_keyOf σ x1) σ := by
  refine CR.of pnX2 ⟨rfl, rfl⟩ (Nat.le_of_ble_eq_true rfl) rfl (fun p e s m args below meth c A Q ls C X hA hl ret => ?_)
  have C : Cx p s m args meth c cX2_keyOf 2 RX2 D (tyIZ cI cZ) := C
  have hx := C.1
  have hb := C.2.1
  have hl : lv_has ls 2 [(0, .ref (a 4)), (1, .int x1)] := hl
  refine lv_aload_n hx hb dX2_keyOf_0 rfl (lv_at hl 0 rfl) ?_
  refine lv_iload_n hx hb dX2_keyOf_1 rfl (lv_at hl 1 rfl) ?_
  refine callVR (rest := []) C hA (wC_sh a cI cZ) X (kX2_isPair l D a cI cZ _ x1) (cwV 1 C.2.2.2.2.1 (gV wl_X2_22 wt_yX2_isPair ws_yX2_isPair wi_X2 wk_yX2_isPair) rfl rfl rfl hdX2_isPair ⟨Nat.le_of_ble_eq_true rfl, Nat.le_of_ble_eq_true rfl⟩) (ci := 2) (q0 := 4) rfl rfl rfl hl.1 rfl (Nat.le_of_ble_eq_true rfl) dX2_keyOf_2 ⟨Nat.le_refl 0, Nat.le_refl 0⟩ (fun H locs X => ?_)
  refine lv_if_eq (tgt := 17) hx hb dX2_keyOf_5 (by decide) (fun c5 => ?_) (fun c5 => ?_)
  · refine lv_iconst (v := (-1)) hx hb dX2_keyOf_17 (by decide) ?_
    exact ret dX2_keyOf_18 (congrArg (fun z => (z, _)) (Eq.symm (if_pos c5))) X
  · refine lv_aload_n hx hb dX2_keyOf_8 rfl (lv_at hl 0 rfl) ?_
    refine cg_X2_X2_keys C X dX2_keyOf_9 ?_
    refine lv_iload_n hx hb dX2_keyOf_12 rfl (lv_at hl 1 rfl) ?_
    refine ca_keys (v := ((c_keys σ) (ix x1))) C X (in_isPair c5) rfl dX2_keyOf_13 ?_
    refine lv_goto (tgt := 18) hx hb dX2_keyOf_14 (by decide) ?_
    exact ret dX2_keyOf_18 (congrArg (fun z => (z, _)) (Eq.symm (if_neg c5))) X
def fX2_valueOf (σ : CSt) (x1 : Int32) : Int32 := (if (fX2_isPair σ x1) = (0 : Int32) then (-1 : Int32) else ((c_values σ) (ix x1)))
theorem hdX2_valueOf : yX2_valueOf.cls = RX2 ∧ yX2_valueOf.cls ≠ "java/lang/invoke/MethodHandle" ∧ yX2_valueOf.cls ≠ "java/lang/invoke/VarHandle" ∧ (parseMethodDescriptor yX2_valueOf.desc).map (fun d => d.parameters.length) = some 1 := by decide +kernel
set_option maxHeartbeats 4000000 in
set_option maxRecDepth 100000 in
theorem kX2_valueOf (l : Launch) (D : va_G) (a : Nat → Nat) (cI cZ : ClassId) (σ : CSt) (x1 : Int32) : CR l D (tyIZ cI cZ) (wC a cI cZ) yX2_valueOf cX2_valueOf 2 .int (rmk 1 21) [.ref (a 4), .int x1] σ (fX2_valueOf σ x1) σ := by
  refine CR.of pnX2 ⟨rfl, rfl⟩ (Nat.le_of_ble_eq_true rfl) rfl (fun p e s m args below meth c A Q ls C X hA hl ret => ?_)
  have C : Cx p s m args meth c cX2_valueOf 2 RX2 D (tyIZ cI cZ) := C
  have hx := C.1
  have hb := C.2.1
  have hl : lv_has ls 2 [(0, .ref (a 4)), (1, .int x1)] := hl
  refine lv_aload_n hx hb dX2_valueOf_0 rfl (lv_at hl 0 rfl) ?_
  refine lv_iload_n hx hb dX2_valueOf_1 rfl (lv_at hl 1 rfl) ?_
  refine callVR (rest := []) C hA (wC_sh a cI cZ) X (kX2_isPair l D a cI cZ _ x1) (cwV 1 C.2.2.2.2.1 (gV wl_X2_22 wt_yX2_isPair ws_yX2_isPair wi_X2 wk_yX2_isPair) rfl rfl rfl hdX2_isPair ⟨Nat.le_of_ble_eq_true rfl, Nat.le_of_ble_eq_true rfl⟩) (ci := 2) (q0 := 4) rfl rfl rfl hl.1 rfl (Nat.le_of_ble_eq_true rfl) dX2_valueOf_2 ⟨Nat.le_refl 0, Nat.le_refl 0⟩ (fun H locs X => ?_)
  refine lv_if_eq (tgt := 17) hx hb dX2_valueOf_5 (by decide) (fun c5 => ?_) (fun c5 => ?_)
  · refine lv_iconst (v := (-1)) hx hb dX2_valueOf_17 (by decide) ?_
    exact ret dX2_valueOf_18 (congrArg (fun z => (z, _)) (Eq.symm (if_pos c5))) X
  · refine lv_aload_n hx hb dX2_valueOf_8 rfl (lv_at hl 0 rfl) ?_
    refine cg_X2_X2_values C X dX2_valueOf_9 ?_
    refine lv_iload_n hx hb dX2_valueOf_12 rfl (lv_at hl 1 rfl) ?_
    refine ca_values (v := ((c_values σ) (ix x1))) C X (in_isPair c5) rfl dX2_valueOf_13 ?_
    refine lv_goto (tgt := 18) hx hb dX2_valueOf_14 (by decide) ?_
    exact ret dX2_valueOf_18 (congrArg (fun z => (z, _)) (Eq.symm (if_neg c5))) X
def fX2_countNotDropped_L4 : Nat → Int32 → Int32 → CSt → Int32
  | 0, y1, y2, σ0 => y1
  | f + 1, y1, y2, σ0 => (if (fX2_keyOf σ0 y2) = (-1 : Int32) then (fX2_countNotDropped_L4 f y1 (y2 + 1) σ0) else (fX2_countNotDropped_L4 f (y1 + 1) (y2 + 1) σ0))
def fX2_countNotDropped (σ : CSt) : Int32 := (fX2_countNotDropped_L4 (((Int32.toInt (c_pmade σ)) - (Int32.toInt (0 : Int32))).toNat) (0 : Int32) (0 : Int32) σ)
theorem hdX2_countNotDropped : yX2_countNotDropped.cls = RX2 ∧ yX2_countNotDropped.cls ≠ "java/lang/invoke/MethodHandle" ∧ yX2_countNotDropped.cls ≠ "java/lang/invoke/VarHandle" ∧ (parseMethodDescriptor yX2_countNotDropped.desc).map (fun d => d.parameters.length) = some 0 := by decide +kernel
set_option maxHeartbeats 4000000 in
set_option maxRecDepth 100000 in
theorem kX2_countNotDropped (l : Launch) (D : va_G) (a : Nat → Nat) (cI cZ : ClassId) (σ : CSt) : CR l D (tyIZ cI cZ) (wC a cI cZ) yX2_countNotDropped cX2_countNotDropped 3 .int (rmk 2 42) [.ref (a 4)] σ (fX2_countNotDropped σ) σ := by
  refine CR.of pnX2 ⟨rfl, rfl⟩ (Nat.le_of_ble_eq_true rfl) rfl (fun p e s m args below meth c A Q ls C X hA hl ret => ?_)
  have C : Cx p s m args meth c cX2_countNotDropped 3 RX2 D (tyIZ cI cZ) := C
  have hx := C.1
  have hb := C.2.1
  have hl : lv_has ls 3 [(0, .ref (a 4))] := hl
  refine lv_iconst (v := (0)) hx hb dX2_countNotDropped_0 (by decide) ?_
  refine lv_istore_n (lv' := [(1, .int (0 : Int32)), (0, .ref (a 4))]) hx hb dX2_countNotDropped_1 rfl hl (by decide) rfl (fun ls hl => ?_)
  refine lv_iconst (v := (0)) hx hb dX2_countNotDropped_2 (by decide) ?_
  refine lv_istore_n (lv' := [(2, .int (0 : Int32)), (1, .int (0 : Int32)), (0, .ref (a 4))]) hx hb dX2_countNotDropped_3 rfl hl (by decide) rfl (fun ls hl => ?_)
  have L4 : ∀ (f : Nat) (y1 : Int32) (y2 : Int32) (hf : ((Int32.toInt (c_pmade σ)) - (Int32.toInt y2)).toNat = f) (hnn : 0 ≤ Int32.toInt y2) (he : fX2_countNotDropped_L4 f y1 y2 σ = (fX2_countNotDropped σ)) (H : Heap) (locs : List Loc) (ls : Array Slot) (X : Sx A D (wC a cI cZ σ) s H locs) (hl : lv_has ls 3 [(0, .ref (a 4)), (1, .int y1), (2, .int y2)]), W p l e (rmk 2 42) s m args below meth c H locs 0 0 Q (F0 m 4 ls []) := by
    intro f
    induction f with
    | zero =>
      intro y1 y2 hf hnn he H locs ls X hl
      refine lv_iload_n hx hb dX2_countNotDropped_4 rfl (lv_at hl 2 rfl) ?_
      refine lv_aload_n hx hb dX2_countNotDropped_5 rfl (lv_at hl 0 rfl) ?_
      refine cg_X2_X2_made (v := (c_pmade σ)) C X rfl dX2_countNotDropped_6 ?_
      refine lv_icmp_ge (tgt := 30) hx hb dX2_countNotDropped_9 (by decide) (fun c9 => ?_) (fun c9 => (lp_z hf c9).elim)
      refine lv_iload_n hx hb dX2_countNotDropped_30 rfl (lv_at hl 1 rfl) ?_
      exact ret dX2_countNotDropped_31 (congrArg (fun z => (z, _)) he) X
    | succ f ih4 =>
      intro y1 y2 hf hnn he H locs ls X hl
      refine lv_iload_n hx hb dX2_countNotDropped_4 rfl (lv_at hl 2 rfl) ?_
      refine lv_aload_n hx hb dX2_countNotDropped_5 rfl (lv_at hl 0 rfl) ?_
      refine cg_X2_X2_made (v := (c_pmade σ)) C X rfl dX2_countNotDropped_6 ?_
      refine lv_icmp_ge (tgt := 30) hx hb dX2_countNotDropped_9 (by decide) (fun c9 => (lp_s hf c9).elim) (fun c9 => ?_)
      refine lv_aload_n hx hb dX2_countNotDropped_12 rfl (lv_at hl 0 rfl) ?_
      refine lv_iload_n hx hb dX2_countNotDropped_13 rfl (lv_at hl 2 rfl) ?_
      refine callVR (rest := []) C hA (wC_sh a cI cZ) X (kX2_keyOf l D a cI cZ _ y2) (cwV 1 C.2.2.2.2.1 (gV wl_X2_26 wt_yX2_keyOf ws_yX2_keyOf wi_X2 wk_yX2_keyOf) rfl rfl rfl hdX2_keyOf ⟨Nat.le_of_ble_eq_true rfl, Nat.le_of_ble_eq_true rfl⟩) (ci := 2) (q0 := 4) rfl rfl rfl hl.1 rfl (Nat.le_of_ble_eq_true rfl) dX2_countNotDropped_14 ⟨Nat.le_refl 0, Nat.le_refl 0⟩ (fun H locs X => ?_)
      refine lv_iconst (v := (-1)) hx hb dX2_countNotDropped_17 (by decide) ?_
      refine lv_icmp_eq (tgt := 24) hx hb dX2_countNotDropped_18 (by decide) (fun c18 => ?_) (fun c18 => ?_)
      · refine lv_iinc (v := (y2 + 1)) (lv' := [(2, .int (y2 + 1)), (0, .ref (a 4)), (1, .int y1)]) hx hb dX2_countNotDropped_24 hl (k := 2) rfl rfl (by decide) rfl (fun ls hl => ?_)
        refine lv_goto (tgt := 4) hx hb dX2_countNotDropped_27 (by decide) ?_
        exact ih4 y1 (y2 + 1) (lp_b hf) (lp_nn hnn hf) (Eq.trans (Eq.symm (if_pos c18)) he) _ _ _ X (lv_sub hl [1, 2, 0] rfl)
      · refine lv_iinc (v := (y1 + 1)) (lv' := [(1, .int (y1 + 1)), (0, .ref (a 4)), (2, .int y2)]) hx hb dX2_countNotDropped_21 hl (k := 1) rfl rfl (by decide) rfl (fun ls hl => ?_)
        refine lv_iinc (v := (y2 + 1)) (lv' := [(2, .int (y2 + 1)), (1, .int (y1 + 1)), (0, .ref (a 4))]) hx hb dX2_countNotDropped_24 hl (k := 2) rfl rfl (by decide) rfl (fun ls hl => ?_)
        refine lv_goto (tgt := 4) hx hb dX2_countNotDropped_27 (by decide) ?_
        exact ih4 (y1 + 1) (y2 + 1) (lp_b hf) (lp_nn hnn hf) (Eq.trans (Eq.symm (if_neg c18)) he) _ _ _ X (lv_sub hl [2, 1, 0] rfl)
  exact L4 (((Int32.toInt (c_pmade σ)) - (Int32.toInt (0 : Int32))).toNat) (0 : Int32) (0 : Int32) rfl (by decide) rfl _ _ _ X (lv_sub hl [2, 1, 0] rfl)
end
