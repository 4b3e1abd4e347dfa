section
-- ===== PART A: goes FIRST, ahead of the names: the tables' words, and 'selects' of the private methods out of them =====
/-- a private method of a class that the tables say can be made, by its rows of tables_1 -/
def lw_okq (q : MethodName × Nat) : Prop := (q.1.cls ≠ "java/lang/invoke/MethodHandle" ∧ q.1.cls ≠ "java/lang/invoke/VarHandle") ∧ Cond.instantiable q.1.cls q.2 ∈ tables_1 ∧ Cond.privateMethod q.1 ∈ tables_1 ∧ Cond.instanceMethod q.1 ∈ tables_1
theorem lw_p0 : lw_okq (⟨"ProgramSlices$Code", "place", "(I)Z"⟩, 14) := ⟨⟨by decide +kernel, by decide +kernel⟩, List.mem_of_getElem? (i := 23) (by decide +kernel), List.mem_of_getElem? (i := 391) (by decide +kernel), List.mem_of_getElem? (i := 392) (by decide +kernel)⟩
theorem lw_p1 : lw_okq (⟨"ProgramSlices$Code", "placeOpener", "(I)Z"⟩, 14) := ⟨⟨by decide +kernel, by decide +kernel⟩, List.mem_of_getElem? (i := 23) (by decide +kernel), List.mem_of_getElem? (i := 395) (by decide +kernel), List.mem_of_getElem? (i := 396) (by decide +kernel)⟩
theorem lw_p2 : lw_okq (⟨"ProgramSlices$Code", "placeElse", "(II)Z"⟩, 14) := ⟨⟨by decide +kernel, by decide +kernel⟩, List.mem_of_getElem? (i := 23) (by decide +kernel), List.mem_of_getElem? (i := 399) (by decide +kernel), List.mem_of_getElem? (i := 400) (by decide +kernel)⟩
theorem lw_p3 : lw_okq (⟨"ProgramSlices$Code", "placeEnd", "(II)Z"⟩, 14) := ⟨⟨by decide +kernel, by decide +kernel⟩, List.mem_of_getElem? (i := 23) (by decide +kernel), List.mem_of_getElem? (i := 403) (by decide +kernel), List.mem_of_getElem? (i := 404) (by decide +kernel)⟩
theorem lw_p4 : lw_okq (⟨"ProgramSlices$Code", "placeProc", "(I)Z"⟩, 14) := ⟨⟨by decide +kernel, by decide +kernel⟩, List.mem_of_getElem? (i := 23) (by decide +kernel), List.mem_of_getElem? (i := 407) (by decide +kernel), List.mem_of_getElem? (i := 408) (by decide +kernel)⟩
theorem lw_p5 : lw_okq (⟨"ProgramSlices$Code", "firstCallOfNothing", "()I"⟩, 14) := ⟨⟨by decide +kernel, by decide +kernel⟩, List.mem_of_getElem? (i := 23) (by decide +kernel), List.mem_of_getElem? (i := 411) (by decide +kernel), List.mem_of_getElem? (i := 412) (by decide +kernel)⟩
theorem lw_p6 : lw_okq (⟨"ProgramSlices$Ways", "stepsFrom", "(I)J"⟩, 6) := ⟨⟨by decide +kernel, by decide +kernel⟩, List.mem_of_getElem? (i := 108) (by decide +kernel), List.mem_of_getElem? (i := 434) (by decide +kernel), List.mem_of_getElem? (i := 435) (by decide +kernel)⟩
theorem lw_p7 : lw_okq (⟨"ProgramSlices$Ways", "flood", "(JJ)J"⟩, 6) := ⟨⟨by decide +kernel, by decide +kernel⟩, List.mem_of_getElem? (i := 108) (by decide +kernel), List.mem_of_getElem? (i := 450) (by decide +kernel), List.mem_of_getElem? (i := 451) (by decide +kernel)⟩
theorem lw_p8 : lw_okq (⟨"ProgramSlices$Dependences", "joinControl", "(I)V"⟩, 7) := ⟨⟨by decide +kernel, by decide +kernel⟩, List.mem_of_getElem? (i := 102) (by decide +kernel), List.mem_of_getElem? (i := 467) (by decide +kernel), List.mem_of_getElem? (i := 468) (by decide +kernel)⟩
theorem lw_p9 : lw_okq (⟨"ProgramSlices$Dependences", "joinAs", "(III)V"⟩, 7) := ⟨⟨by decide +kernel, by decide +kernel⟩, List.mem_of_getElem? (i := 102) (by decide +kernel), List.mem_of_getElem? (i := 474) (by decide +kernel), List.mem_of_getElem? (i := 475) (by decide +kernel)⟩
theorem lw_p10 : lw_okq (⟨"ProgramSlices$Dependences", "join", "(II)V"⟩, 7) := ⟨⟨by decide +kernel, by decide +kernel⟩, List.mem_of_getElem? (i := 102) (by decide +kernel), List.mem_of_getElem? (i := 478) (by decide +kernel), List.mem_of_getElem? (i := 479) (by decide +kernel)⟩
theorem lw_p11 : lw_okq (⟨"ProgramSlices$Dependences", "joinData", "(I)V"⟩, 7) := ⟨⟨by decide +kernel, by decide +kernel⟩, List.mem_of_getElem? (i := 102) (by decide +kernel), List.mem_of_getElem? (i := 487) (by decide +kernel), List.mem_of_getElem? (i := 488) (by decide +kernel)⟩
theorem lw_p12 : lw_okq (⟨"ProgramSlices$Dependences", "joinRead", "(IIII)V"⟩, 7) := ⟨⟨by decide +kernel, by decide +kernel⟩, List.mem_of_getElem? (i := 102) (by decide +kernel), List.mem_of_getElem? (i := 491) (by decide +kernel), List.mem_of_getElem? (i := 492) (by decide +kernel)⟩
theorem lw_p13 : lw_okq (⟨"ProgramSlices$Dependences", "joinHeap", "(I)V"⟩, 7) := ⟨⟨by decide +kernel, by decide +kernel⟩, List.mem_of_getElem? (i := 102) (by decide +kernel), List.mem_of_getElem? (i := 504) (by decide +kernel), List.mem_of_getElem? (i := 505) (by decide +kernel)⟩
theorem lw_p14 : lw_okq (⟨"ProgramSlices$Dependences", "joinSource", "(IIIII)V"⟩, 7) := ⟨⟨by decide +kernel, by decide +kernel⟩, List.mem_of_getElem? (i := 102) (by decide +kernel), List.mem_of_getElem? (i := 512) (by decide +kernel), List.mem_of_getElem? (i := 513) (by decide +kernel)⟩
theorem lw_p15 : lw_okq (⟨"ProgramSlices$Dependences", "joinHalt", "(I)V"⟩, 7) := ⟨⟨by decide +kernel, by decide +kernel⟩, List.mem_of_getElem? (i := 102) (by decide +kernel), List.mem_of_getElem? (i := 516) (by decide +kernel), List.mem_of_getElem? (i := 517) (by decide +kernel)⟩
def lw_privs_1 : List (MethodName × Nat) := [(⟨"ProgramSlices$Code", "place", "(I)Z"⟩, 14), (⟨"ProgramSlices$Code", "placeOpener", "(I)Z"⟩, 14), (⟨"ProgramSlices$Code", "placeElse", "(II)Z"⟩, 14), (⟨"ProgramSlices$Code", "placeEnd", "(II)Z"⟩, 14), (⟨"ProgramSlices$Code", "placeProc", "(I)Z"⟩, 14), (⟨"ProgramSlices$Code", "firstCallOfNothing", "()I"⟩, 14), (⟨"ProgramSlices$Ways", "stepsFrom", "(I)J"⟩, 6), (⟨"ProgramSlices$Ways", "flood", "(JJ)J"⟩, 6), (⟨"ProgramSlices$Dependences", "joinControl", "(I)V"⟩, 7), (⟨"ProgramSlices$Dependences", "joinAs", "(III)V"⟩, 7), (⟨"ProgramSlices$Dependences", "join", "(II)V"⟩, 7), (⟨"ProgramSlices$Dependences", "joinData", "(I)V"⟩, 7), (⟨"ProgramSlices$Dependences", "joinRead", "(IIII)V"⟩, 7), (⟨"ProgramSlices$Dependences", "joinHeap", "(I)V"⟩, 7), (⟨"ProgramSlices$Dependences", "joinSource", "(IIIII)V"⟩, 7), (⟨"ProgramSlices$Dependences", "joinHalt", "(I)V"⟩, 7)]
theorem lw_r1 : ∀ q ∈ lw_privs_1, lw_okq q := List.forall_mem_cons.mpr ⟨lw_p0, List.forall_mem_cons.mpr ⟨lw_p1, List.forall_mem_cons.mpr ⟨lw_p2, List.forall_mem_cons.mpr ⟨lw_p3, List.forall_mem_cons.mpr ⟨lw_p4, List.forall_mem_cons.mpr ⟨lw_p5, List.forall_mem_cons.mpr ⟨lw_p6, List.forall_mem_cons.mpr ⟨lw_p7, List.forall_mem_cons.mpr ⟨lw_p8, List.forall_mem_cons.mpr ⟨lw_p9, List.forall_mem_cons.mpr ⟨lw_p10, List.forall_mem_cons.mpr ⟨lw_p11, List.forall_mem_cons.mpr ⟨lw_p12, List.forall_mem_cons.mpr ⟨lw_p13, List.forall_mem_cons.mpr ⟨lw_p14, List.forall_mem_cons.mpr ⟨lw_p15, fun _ h => absurd h List.not_mem_nil⟩⟩⟩⟩⟩⟩⟩⟩⟩⟩⟩⟩⟩⟩⟩⟩
theorem lw_p16 : lw_okq (⟨"ProgramSlices$Dependences", "joinEnds", "(I)V"⟩, 7) := ⟨⟨by decide +kernel, by decide +kernel⟩, List.mem_of_getElem? (i := 102) (by decide +kernel), List.mem_of_getElem? (i := 520) (by decide +kernel), List.mem_of_getElem? (i := 521) (by decide +kernel)⟩
theorem lw_p17 : lw_okq (⟨"ProgramSlices$Walk", "summariseEnd", "(II)Z"⟩, 5) := ⟨⟨by decide +kernel, by decide +kernel⟩, List.mem_of_getElem? (i := 156) (by decide +kernel), List.mem_of_getElem? (i := 528) (by decide +kernel), List.mem_of_getElem? (i := 529) (by decide +kernel)⟩
theorem lw_p18 : lw_okq (⟨"ProgramSlices$Walk", "begin", "(I)V"⟩, 5) := ⟨⟨by decide +kernel, by decide +kernel⟩, List.mem_of_getElem? (i := 156) (by decide +kernel), List.mem_of_getElem? (i := 533) (by decide +kernel), List.mem_of_getElem? (i := 534) (by decide +kernel)⟩
theorem lw_p19 : lw_okq (⟨"ProgramSlices$Walk", "put", "(I)V"⟩, 5) := ⟨⟨by decide +kernel, by decide +kernel⟩, List.mem_of_getElem? (i := 156) (by decide +kernel), List.mem_of_getElem? (i := 538) (by decide +kernel), List.mem_of_getElem? (i := 539) (by decide +kernel)⟩
theorem lw_p20 : lw_okq (⟨"ProgramSlices$Walk", "follow", "(IZ)V"⟩, 5) := ⟨⟨by decide +kernel, by decide +kernel⟩, List.mem_of_getElem? (i := 156) (by decide +kernel), List.mem_of_getElem? (i := 542) (by decide +kernel), List.mem_of_getElem? (i := 543) (by decide +kernel)⟩
theorem lw_p21 : lw_okq (⟨"ProgramSlices$Walk", "putAll", "(II)V"⟩, 5) := ⟨⟨by decide +kernel, by decide +kernel⟩, List.mem_of_getElem? (i := 156) (by decide +kernel), List.mem_of_getElem? (i := 550) (by decide +kernel), List.mem_of_getElem? (i := 551) (by decide +kernel)⟩
theorem lw_p22 : lw_okq (⟨"ProgramSlices$Walk", "callsBeyond", "(IZ)I"⟩, 5) := ⟨⟨by decide +kernel, by decide +kernel⟩, List.mem_of_getElem? (i := 156) (by decide +kernel), List.mem_of_getElem? (i := 560) (by decide +kernel), List.mem_of_getElem? (i := 561) (by decide +kernel)⟩
theorem lw_p23 : lw_okq (⟨"ProgramSlices$Walk", "sideBeyond", "(IZ)I"⟩, 5) := ⟨⟨by decide +kernel, by decide +kernel⟩, List.mem_of_getElem? (i := 156) (by decide +kernel), List.mem_of_getElem? (i := 571) (by decide +kernel), List.mem_of_getElem? (i := 572) (by decide +kernel)⟩
theorem lw_p24 : lw_okq (⟨"ProgramSlices$Flows", "isSink", "(I)Z"⟩, 3) := ⟨⟨by decide +kernel, by decide +kernel⟩, List.mem_of_getElem? (i := 269) (by decide +kernel), List.mem_of_getElem? (i := 593) (by decide +kernel), List.mem_of_getElem? (i := 594) (by decide +kernel)⟩
theorem lw_p25 : lw_okq (⟨"ProgramSlices$Order", "hasCircle", "()Z"⟩, 4) := ⟨⟨by decide +kernel, by decide +kernel⟩, List.mem_of_getElem? (i := 250) (by decide +kernel), List.mem_of_getElem? (i := 648) (by decide +kernel), List.mem_of_getElem? (i := 649) (by decide +kernel)⟩
theorem lw_p26 : lw_okq (⟨"ProgramSlices$Order", "allJoin", "()Z"⟩, 4) := ⟨⟨by decide +kernel, by decide +kernel⟩, List.mem_of_getElem? (i := 250) (by decide +kernel), List.mem_of_getElem? (i := 652) (by decide +kernel), List.mem_of_getElem? (i := 653) (by decide +kernel)⟩
theorem lw_p27 : lw_okq (⟨"ProgramSlices$Order", "hasLeast", "(I)Z"⟩, 4) := ⟨⟨by decide +kernel, by decide +kernel⟩, List.mem_of_getElem? (i := 250) (by decide +kernel), List.mem_of_getElem? (i := 656) (by decide +kernel), List.mem_of_getElem? (i := 657) (by decide +kernel)⟩
theorem lw_p28 : lw_okq (⟨"ProgramSlices$Slice", "join", "(LProgramSlices$Walk;)V"⟩, 4) := ⟨⟨by decide +kernel, by decide +kernel⟩, List.mem_of_getElem? (i := 285) (by decide +kernel), List.mem_of_getElem? (i := 690) (by decide +kernel), List.mem_of_getElem? (i := 691) (by decide +kernel)⟩
theorem lw_p29 : lw_okq (⟨"ProgramSlices$Slice", "fitCall", "(LProgramSlices$Walk;II)Z"⟩, 4) := ⟨⟨by decide +kernel, by decide +kernel⟩, List.mem_of_getElem? (i := 285) (by decide +kernel), List.mem_of_getElem? (i := 719) (by decide +kernel), List.mem_of_getElem? (i := 720) (by decide +kernel)⟩
theorem lw_p30 : lw_okq (⟨"ProgramSlices$Slice", "lacks", "(III)Z"⟩, 4) := ⟨⟨by decide +kernel, by decide +kernel⟩, List.mem_of_getElem? (i := 285) (by decide +kernel), List.mem_of_getElem? (i := 723) (by decide +kernel), List.mem_of_getElem? (i := 724) (by decide +kernel)⟩
theorem lw_p31 : lw_okq (⟨"ProgramSlices$Machine", "enter", "(IIII)V"⟩, 15) := ⟨⟨by decide +kernel, by decide +kernel⟩, List.mem_of_getElem? (i := 178) (by decide +kernel), List.mem_of_getElem? (i := 765) (by decide +kernel), List.mem_of_getElem? (i := 766) (by decide +kernel)⟩
def lw_privs_2 : List (MethodName × Nat) := [(⟨"ProgramSlices$Dependences", "joinEnds", "(I)V"⟩, 7), (⟨"ProgramSlices$Walk", "summariseEnd", "(II)Z"⟩, 5), (⟨"ProgramSlices$Walk", "begin", "(I)V"⟩, 5), (⟨"ProgramSlices$Walk", "put", "(I)V"⟩, 5), (⟨"ProgramSlices$Walk", "follow", "(IZ)V"⟩, 5), (⟨"ProgramSlices$Walk", "putAll", "(II)V"⟩, 5), (⟨"ProgramSlices$Walk", "callsBeyond", "(IZ)I"⟩, 5), (⟨"ProgramSlices$Walk", "sideBeyond", "(IZ)I"⟩, 5), (⟨"ProgramSlices$Flows", "isSink", "(I)Z"⟩, 3), (⟨"ProgramSlices$Order", "hasCircle", "()Z"⟩, 4), (⟨"ProgramSlices$Order", "allJoin", "()Z"⟩, 4), (⟨"ProgramSlices$Order", "hasLeast", "(I)Z"⟩, 4), (⟨"ProgramSlices$Slice", "join", "(LProgramSlices$Walk;)V"⟩, 4), (⟨"ProgramSlices$Slice", "fitCall", "(LProgramSlices$Walk;II)Z"⟩, 4), (⟨"ProgramSlices$Slice", "lacks", "(III)Z"⟩, 4), (⟨"ProgramSlices$Machine", "enter", "(IIII)V"⟩, 15)]
theorem lw_r2 : ∀ q ∈ lw_privs_2, lw_okq q := List.forall_mem_cons.mpr ⟨lw_p16, List.forall_mem_cons.mpr ⟨lw_p17, List.forall_mem_cons.mpr ⟨lw_p18, List.forall_mem_cons.mpr ⟨lw_p19, List.forall_mem_cons.mpr ⟨lw_p20, List.forall_mem_cons.mpr ⟨lw_p21, List.forall_mem_cons.mpr ⟨lw_p22, List.forall_mem_cons.mpr ⟨lw_p23, List.forall_mem_cons.mpr ⟨lw_p24, List.forall_mem_cons.mpr ⟨lw_p25, List.forall_mem_cons.mpr ⟨lw_p26, List.forall_mem_cons.mpr ⟨lw_p27, List.forall_mem_cons.mpr ⟨lw_p28, List.forall_mem_cons.mpr ⟨lw_p29, List.forall_mem_cons.mpr ⟨lw_p30, List.forall_mem_cons.mpr ⟨lw_p31, fun _ h => absurd h List.not_mem_nil⟩⟩⟩⟩⟩⟩⟩⟩⟩⟩⟩⟩⟩⟩⟩⟩
theorem lw_p32 : lw_okq (⟨"ProgramSlices$Machine", "setVariable", "(II)V"⟩, 15) := ⟨⟨by decide +kernel, by decide +kernel⟩, List.mem_of_getElem? (i := 178) (by decide +kernel), List.mem_of_getElem? (i := 769) (by decide +kernel), List.mem_of_getElem? (i := 770) (by decide +kernel)⟩
theorem lw_p33 : lw_okq (⟨"ProgramSlices$Machine", "takeTurn", "()V"⟩, 15) := ⟨⟨by decide +kernel, by decide +kernel⟩, List.mem_of_getElem? (i := 178) (by decide +kernel), List.mem_of_getElem? (i := 774) (by decide +kernel), List.mem_of_getElem? (i := 775) (by decide +kernel)⟩
theorem lw_p34 : lw_okq (⟨"ProgramSlices$Machine", "leave", "()V"⟩, 15) := ⟨⟨by decide +kernel, by decide +kernel⟩, List.mem_of_getElem? (i := 178) (by decide +kernel), List.mem_of_getElem? (i := 778) (by decide +kernel), List.mem_of_getElem? (i := 779) (by decide +kernel)⟩
theorem lw_p35 : lw_okq (⟨"ProgramSlices$Machine", "variable", "(I)I"⟩, 15) := ⟨⟨by decide +kernel, by decide +kernel⟩, List.mem_of_getElem? (i := 178) (by decide +kernel), List.mem_of_getElem? (i := 782) (by decide +kernel), List.mem_of_getElem? (i := 783) (by decide +kernel)⟩
theorem lw_p36 : lw_okq (⟨"ProgramSlices$Machine", "isBranch", "(I)Z"⟩, 15) := ⟨⟨by decide +kernel, by decide +kernel⟩, List.mem_of_getElem? (i := 178) (by decide +kernel), List.mem_of_getElem? (i := 789) (by decide +kernel), List.mem_of_getElem? (i := 790) (by decide +kernel)⟩
theorem lw_p37 : lw_okq (⟨"ProgramSlices$Machine", "take", "(I)V"⟩, 15) := ⟨⟨by decide +kernel, by decide +kernel⟩, List.mem_of_getElem? (i := 178) (by decide +kernel), List.mem_of_getElem? (i := 793) (by decide +kernel), List.mem_of_getElem? (i := 794) (by decide +kernel)⟩
theorem lw_p38 : lw_okq (⟨"ProgramSlices$Machine", "takeCall", "(I)V"⟩, 15) := ⟨⟨by decide +kernel, by decide +kernel⟩, List.mem_of_getElem? (i := 178) (by decide +kernel), List.mem_of_getElem? (i := 798) (by decide +kernel), List.mem_of_getElem? (i := 799) (by decide +kernel)⟩
theorem lw_p39 : lw_okq (⟨"ProgramSlices$Machine", "takeBranch", "(I)V"⟩, 15) := ⟨⟨by decide +kernel, by decide +kernel⟩, List.mem_of_getElem? (i := 178) (by decide +kernel), List.mem_of_getElem? (i := 803) (by decide +kernel), List.mem_of_getElem? (i := 804) (by decide +kernel)⟩
theorem lw_p40 : lw_okq (⟨"ProgramSlices$Machine", "note", "(II)V"⟩, 15) := ⟨⟨by decide +kernel, by decide +kernel⟩, List.mem_of_getElem? (i := 178) (by decide +kernel), List.mem_of_getElem? (i := 807) (by decide +kernel), List.mem_of_getElem? (i := 808) (by decide +kernel)⟩
theorem lw_p41 : lw_okq (⟨"ProgramSlices$Machine", "newValue", "(I)I"⟩, 15) := ⟨⟨by decide +kernel, by decide +kernel⟩, List.mem_of_getElem? (i := 178) (by decide +kernel), List.mem_of_getElem? (i := 820) (by decide +kernel), List.mem_of_getElem? (i := 821) (by decide +kernel)⟩
theorem lw_p42 : lw_okq (⟨"ProgramSlices", "canCheck", "()Z"⟩, 8) := ⟨⟨by decide +kernel, by decide +kernel⟩, List.mem_of_getElem? (i := 15) (by decide +kernel), List.mem_of_getElem? (i := 855) (by decide +kernel), List.mem_of_getElem? (i := 856) (by decide +kernel)⟩
theorem lw_p43 : lw_okq (⟨"ProgramSlices$Flows", "inputsInto", "(I)I"⟩, 3) := ⟨⟨by decide +kernel, by decide +kernel⟩, List.mem_of_getElem? (i := 269) (by decide +kernel), List.mem_of_getElem? (i := 863) (by decide +kernel), List.mem_of_getElem? (i := 864) (by decide +kernel)⟩
theorem lw_p44 : lw_okq (⟨"ProgramSlicesModel", "structure", "()I"⟩, 38) := ⟨⟨by decide +kernel, by decide +kernel⟩, List.mem_of_getElem? (i := 887) (by decide +kernel), List.mem_of_getElem? (i := 1024) (by decide +kernel), List.mem_of_getElem? (i := 1025) (by decide +kernel)⟩
theorem lw_p45 : lw_okq (⟨"ProgramSlicesModel", "isCall", "(I)Z"⟩, 38) := ⟨⟨by decide +kernel, by decide +kernel⟩, List.mem_of_getElem? (i := 887) (by decide +kernel), List.mem_of_getElem? (i := 1028) (by decide +kernel), List.mem_of_getElem? (i := 1029) (by decide +kernel)⟩
theorem lw_p46 : lw_okq (⟨"ProgramSlicesModel", "ways", "()V"⟩, 38) := ⟨⟨by decide +kernel, by decide +kernel⟩, List.mem_of_getElem? (i := 887) (by decide +kernel), List.mem_of_getElem? (i := 1032) (by decide +kernel), List.mem_of_getElem? (i := 1033) (by decide +kernel)⟩
theorem lw_p47 : lw_okq (⟨"ProgramSlicesModel", "way", "(II)I"⟩, 38) := ⟨⟨by decide +kernel, by decide +kernel⟩, List.mem_of_getElem? (i := 887) (by decide +kernel), List.mem_of_getElem? (i := 1036) (by decide +kernel), List.mem_of_getElem? (i := 1037) (by decide +kernel)⟩
def lw_privs_3 : List (MethodName × Nat) := [(⟨"ProgramSlices$Machine", "setVariable", "(II)V"⟩, 15), (⟨"ProgramSlices$Machine", "takeTurn", "()V"⟩, 15), (⟨"ProgramSlices$Machine", "leave", "()V"⟩, 15), (⟨"ProgramSlices$Machine", "variable", "(I)I"⟩, 15), (⟨"ProgramSlices$Machine", "isBranch", "(I)Z"⟩, 15), (⟨"ProgramSlices$Machine", "take", "(I)V"⟩, 15), (⟨"ProgramSlices$Machine", "takeCall", "(I)V"⟩, 15), (⟨"ProgramSlices$Machine", "takeBranch", "(I)V"⟩, 15), (⟨"ProgramSlices$Machine", "note", "(II)V"⟩, 15), (⟨"ProgramSlices$Machine", "newValue", "(I)I"⟩, 15), (⟨"ProgramSlices", "canCheck", "()Z"⟩, 8), (⟨"ProgramSlices$Flows", "inputsInto", "(I)I"⟩, 3), (⟨"ProgramSlicesModel", "structure", "()I"⟩, 38), (⟨"ProgramSlicesModel", "isCall", "(I)Z"⟩, 38), (⟨"ProgramSlicesModel", "ways", "()V"⟩, 38), (⟨"ProgramSlicesModel", "way", "(II)I"⟩, 38)]
theorem lw_r3 : ∀ q ∈ lw_privs_3, lw_okq q := List.forall_mem_cons.mpr ⟨lw_p32, List.forall_mem_cons.mpr ⟨lw_p33, List.forall_mem_cons.mpr ⟨lw_p34, List.forall_mem_cons.mpr ⟨lw_p35, List.forall_mem_cons.mpr ⟨lw_p36, List.forall_mem_cons.mpr ⟨lw_p37, List.forall_mem_cons.mpr ⟨lw_p38, List.forall_mem_cons.mpr ⟨lw_p39, List.forall_mem_cons.mpr ⟨lw_p40, List.forall_mem_cons.mpr ⟨lw_p41, List.forall_mem_cons.mpr ⟨lw_p42, List.forall_mem_cons.mpr ⟨lw_p43, List.forall_mem_cons.mpr ⟨lw_p44, List.forall_mem_cons.mpr ⟨lw_p45, List.forall_mem_cons.mpr ⟨lw_p46, List.forall_mem_cons.mpr ⟨lw_p47, fun _ h => absurd h List.not_mem_nil⟩⟩⟩⟩⟩⟩⟩⟩⟩⟩⟩⟩⟩⟩⟩⟩
theorem lw_p48 : lw_okq (⟨"ProgramSlicesModel", "behind", "(II)I"⟩, 38) := ⟨⟨by decide +kernel, by decide +kernel⟩, List.mem_of_getElem? (i := 887) (by decide +kernel), List.mem_of_getElem? (i := 1040) (by decide +kernel), List.mem_of_getElem? (i := 1041) (by decide +kernel)⟩
theorem lw_p49 : lw_okq (⟨"ProgramSlicesModel", "dependences", "()V"⟩, 38) := ⟨⟨by decide +kernel, by decide +kernel⟩, List.mem_of_getElem? (i := 887) (by decide +kernel), List.mem_of_getElem? (i := 1044) (by decide +kernel), List.mem_of_getElem? (i := 1045) (by decide +kernel)⟩
theorem lw_p50 : lw_okq (⟨"ProgramSlicesModel", "how", "(II)I"⟩, 38) := ⟨⟨by decide +kernel, by decide +kernel⟩, List.mem_of_getElem? (i := 887) (by decide +kernel), List.mem_of_getElem? (i := 1048) (by decide +kernel), List.mem_of_getElem? (i := 1049) (by decide +kernel)⟩
theorem lw_p51 : lw_okq (⟨"ProgramSlicesModel", "exists", "(I)Z"⟩, 38) := ⟨⟨by decide +kernel, by decide +kernel⟩, List.mem_of_getElem? (i := 887) (by decide +kernel), List.mem_of_getElem? (i := 1052) (by decide +kernel), List.mem_of_getElem? (i := 1053) (by decide +kernel)⟩
theorem lw_p52 : lw_okq (⟨"ProgramSlicesModel", "procedure", "(I)I"⟩, 38) := ⟨⟨by decide +kernel, by decide +kernel⟩, List.mem_of_getElem? (i := 887) (by decide +kernel), List.mem_of_getElem? (i := 1056) (by decide +kernel), List.mem_of_getElem? (i := 1057) (by decide +kernel)⟩
theorem lw_p53 : lw_okq (⟨"ProgramSlicesModel", "control", "(II)Z"⟩, 38) := ⟨⟨by decide +kernel, by decide +kernel⟩, List.mem_of_getElem? (i := 887) (by decide +kernel), List.mem_of_getElem? (i := 1063) (by decide +kernel), List.mem_of_getElem? (i := 1064) (by decide +kernel)⟩
theorem lw_p54 : lw_okq (⟨"ProgramSlicesModel", "data", "(II)Z"⟩, 38) := ⟨⟨by decide +kernel, by decide +kernel⟩, List.mem_of_getElem? (i := 887) (by decide +kernel), List.mem_of_getElem? (i := 1067) (by decide +kernel), List.mem_of_getElem? (i := 1068) (by decide +kernel)⟩
theorem lw_p55 : lw_okq (⟨"ProgramSlicesModel", "reads", "(II)Z"⟩, 38) := ⟨⟨by decide +kernel, by decide +kernel⟩, List.mem_of_getElem? (i := 887) (by decide +kernel), List.mem_of_getElem? (i := 1077) (by decide +kernel), List.mem_of_getElem? (i := 1078) (by decide +kernel)⟩
theorem lw_p56 : lw_okq (⟨"ProgramSlicesModel", "fromBeginning", "(III)Z"⟩, 38) := ⟨⟨by decide +kernel, by decide +kernel⟩, List.mem_of_getElem? (i := 887) (by decide +kernel), List.mem_of_getElem? (i := 1081) (by decide +kernel), List.mem_of_getElem? (i := 1082) (by decide +kernel)⟩
theorem lw_p57 : lw_okq (⟨"ProgramSlicesModel", "spread", "(JI)J"⟩, 38) := ⟨⟨by decide +kernel, by decide +kernel⟩, List.mem_of_getElem? (i := 887) (by decide +kernel), List.mem_of_getElem? (i := 1085) (by decide +kernel), List.mem_of_getElem? (i := 1086) (by decide +kernel)⟩
theorem lw_p58 : lw_okq (⟨"ProgramSlicesModel", "defines", "(II)Z"⟩, 38) := ⟨⟨by decide +kernel, by decide +kernel⟩, List.mem_of_getElem? (i := 887) (by decide +kernel), List.mem_of_getElem? (i := 1089) (by decide +kernel), List.mem_of_getElem? (i := 1090) (by decide +kernel)⟩
theorem lw_p59 : lw_okq (⟨"ProgramSlicesModel", "arrives", "(III)Z"⟩, 38) := ⟨⟨by decide +kernel, by decide +kernel⟩, List.mem_of_getElem? (i := 887) (by decide +kernel), List.mem_of_getElem? (i := 1093) (by decide +kernel), List.mem_of_getElem? (i := 1094) (by decide +kernel)⟩
theorem lw_p60 : lw_okq (⟨"ProgramSlicesModel", "heap", "(II)Z"⟩, 38) := ⟨⟨by decide +kernel, by decide +kernel⟩, List.mem_of_getElem? (i := 887) (by decide +kernel), List.mem_of_getElem? (i := 1097) (by decide +kernel), List.mem_of_getElem? (i := 1098) (by decide +kernel)⟩
theorem lw_p61 : lw_okq (⟨"ProgramSlicesModel", "path", "(II)Z"⟩, 38) := ⟨⟨by decide +kernel, by decide +kernel⟩, List.mem_of_getElem? (i := 887) (by decide +kernel), List.mem_of_getElem? (i := 1101) (by decide +kernel), List.mem_of_getElem? (i := 1102) (by decide +kernel)⟩
theorem lw_p62 : lw_okq (⟨"ProgramSlicesModel", "halt", "(II)Z"⟩, 38) := ⟨⟨by decide +kernel, by decide +kernel⟩, List.mem_of_getElem? (i := 887) (by decide +kernel), List.mem_of_getElem? (i := 1105) (by decide +kernel), List.mem_of_getElem? (i := 1106) (by decide +kernel)⟩
theorem lw_p63 : lw_okq (⟨"ProgramSlicesModel", "summaries", "(I)Z"⟩, 38) := ⟨⟨by decide +kernel, by decide +kernel⟩, List.mem_of_getElem? (i := 887) (by decide +kernel), List.mem_of_getElem? (i := 1112) (by decide +kernel), List.mem_of_getElem? (i := 1113) (by decide +kernel)⟩
def lw_privs_4 : List (MethodName × Nat) := [(⟨"ProgramSlicesModel", "behind", "(II)I"⟩, 38), (⟨"ProgramSlicesModel", "dependences", "()V"⟩, 38), (⟨"ProgramSlicesModel", "how", "(II)I"⟩, 38), (⟨"ProgramSlicesModel", "exists", "(I)Z"⟩, 38), (⟨"ProgramSlicesModel", "procedure", "(I)I"⟩, 38), (⟨"ProgramSlicesModel", "control", "(II)Z"⟩, 38), (⟨"ProgramSlicesModel", "data", "(II)Z"⟩, 38), (⟨"ProgramSlicesModel", "reads", "(II)Z"⟩, 38), (⟨"ProgramSlicesModel", "fromBeginning", "(III)Z"⟩, 38), (⟨"ProgramSlicesModel", "spread", "(JI)J"⟩, 38), (⟨"ProgramSlicesModel", "defines", "(II)Z"⟩, 38), (⟨"ProgramSlicesModel", "arrives", "(III)Z"⟩, 38), (⟨"ProgramSlicesModel", "heap", "(II)Z"⟩, 38), (⟨"ProgramSlicesModel", "path", "(II)Z"⟩, 38), (⟨"ProgramSlicesModel", "halt", "(II)Z"⟩, 38), (⟨"ProgramSlicesModel", "summaries", "(I)Z"⟩, 38)]
theorem lw_r4 : ∀ q ∈ lw_privs_4, lw_okq q := List.forall_mem_cons.mpr ⟨lw_p48, List.forall_mem_cons.mpr ⟨lw_p49, List.forall_mem_cons.mpr ⟨lw_p50, List.forall_mem_cons.mpr ⟨lw_p51, List.forall_mem_cons.mpr ⟨lw_p52, List.forall_mem_cons.mpr ⟨lw_p53, List.forall_mem_cons.mpr ⟨lw_p54, List.forall_mem_cons.mpr ⟨lw_p55, List.forall_mem_cons.mpr ⟨lw_p56, List.forall_mem_cons.mpr ⟨lw_p57, List.forall_mem_cons.mpr ⟨lw_p58, List.forall_mem_cons.mpr ⟨lw_p59, List.forall_mem_cons.mpr ⟨lw_p60, List.forall_mem_cons.mpr ⟨lw_p61, List.forall_mem_cons.mpr ⟨lw_p62, List.forall_mem_cons.mpr ⟨lw_p63, fun _ h => absurd h List.not_mem_nil⟩⟩⟩⟩⟩⟩⟩⟩⟩⟩⟩⟩⟩⟩⟩⟩
theorem lw_p64 : lw_okq (⟨"ProgramSlicesModel", "single", "(I)V"⟩, 38) := ⟨⟨by decide +kernel, by decide +kernel⟩, List.mem_of_getElem? (i := 887) (by decide +kernel), List.mem_of_getElem? (i := 1116) (by decide +kernel), List.mem_of_getElem? (i := 1117) (by decide +kernel)⟩
theorem lw_p65 : lw_okq (⟨"ProgramSlicesModel", "flood", "([J[JZ)V"⟩, 38) := ⟨⟨by decide +kernel, by decide +kernel⟩, List.mem_of_getElem? (i := 887) (by decide +kernel), List.mem_of_getElem? (i := 1120) (by decide +kernel), List.mem_of_getElem? (i := 1121) (by decide +kernel)⟩
theorem lw_p66 : lw_okq (⟨"ProgramSlicesModel", "touches", "([J[JI)Z"⟩, 38) := ⟨⟨by decide +kernel, by decide +kernel⟩, List.mem_of_getElem? (i := 887) (by decide +kernel), List.mem_of_getElem? (i := 1127) (by decide +kernel), List.mem_of_getElem? (i := 1128) (by decide +kernel)⟩
theorem lw_p67 : lw_okq (⟨"ProgramSlicesModel", "backward", "(I)V"⟩, 38) := ⟨⟨by decide +kernel, by decide +kernel⟩, List.mem_of_getElem? (i := 887) (by decide +kernel), List.mem_of_getElem? (i := 1143) (by decide +kernel), List.mem_of_getElem? (i := 1144) (by decide +kernel)⟩
theorem lw_p68 : lw_okq (⟨"ProgramSlicesModel", "instructions", "([J)I"⟩, 38) := ⟨⟨by decide +kernel, by decide +kernel⟩, List.mem_of_getElem? (i := 887) (by decide +kernel), List.mem_of_getElem? (i := 1147) (by decide +kernel), List.mem_of_getElem? (i := 1148) (by decide +kernel)⟩
theorem lw_p69 : lw_okq (⟨"ProgramSlicesModel", "wanting", "()I"⟩, 38) := ⟨⟨by decide +kernel, by decide +kernel⟩, List.mem_of_getElem? (i := 887) (by decide +kernel), List.mem_of_getElem? (i := 1155) (by decide +kernel), List.mem_of_getElem? (i := 1156) (by decide +kernel)⟩
theorem lw_p70 : lw_okq (⟨"ProgramSlicesModel", "leave", "()I"⟩, 38) := ⟨⟨by decide +kernel, by decide +kernel⟩, List.mem_of_getElem? (i := 887) (by decide +kernel), List.mem_of_getElem? (i := 1172) (by decide +kernel), List.mem_of_getElem? (i := 1173) (by decide +kernel)⟩
theorem lw_p71 : lw_okq (⟨"ProgramSlicesModel", "x", "(I)I"⟩, 38) := ⟨⟨by decide +kernel, by decide +kernel⟩, List.mem_of_getElem? (i := 887) (by decide +kernel), List.mem_of_getElem? (i := 1176) (by decide +kernel), List.mem_of_getElem? (i := 1177) (by decide +kernel)⟩
theorem lw_p72 : lw_okq (⟨"ProgramSlicesModel", "become", "(II)V"⟩, 38) := ⟨⟨by decide +kernel, by decide +kernel⟩, List.mem_of_getElem? (i := 887) (by decide +kernel), List.mem_of_getElem? (i := 1180) (by decide +kernel), List.mem_of_getElem? (i := 1181) (by decide +kernel)⟩
theorem lw_p73 : lw_okq (⟨"ProgramSlicesModel", "enter", "(I)V"⟩, 38) := ⟨⟨by decide +kernel, by decide +kernel⟩, List.mem_of_getElem? (i := 887) (by decide +kernel), List.mem_of_getElem? (i := 1184) (by decide +kernel), List.mem_of_getElem? (i := 1185) (by decide +kernel)⟩
theorem lw_p74 : lw_okq (⟨"ProgramSlicesModel", "act", "(I)I"⟩, 38) := ⟨⟨by decide +kernel, by decide +kernel⟩, List.mem_of_getElem? (i := 887) (by decide +kernel), List.mem_of_getElem? (i := 1188) (by decide +kernel), List.mem_of_getElem? (i := 1189) (by decide +kernel)⟩
theorem lw_p75 : lw_okq (⟨"ProgramSlicesModel", "computed", "(III)I"⟩, 38) := ⟨⟨by decide +kernel, by decide +kernel⟩, List.mem_of_getElem? (i := 887) (by decide +kernel), List.mem_of_getElem? (i := 1192) (by decide +kernel), List.mem_of_getElem? (i := 1193) (by decide +kernel)⟩
theorem lw_p76 : lw_okq (⟨"ProgramSlicesModel", "saw", "(II)V"⟩, 38) := ⟨⟨by decide +kernel, by decide +kernel⟩, List.mem_of_getElem? (i := 887) (by decide +kernel), List.mem_of_getElem? (i := 1196) (by decide +kernel), List.mem_of_getElem? (i := 1197) (by decide +kernel)⟩
theorem lw_p77 : lw_okq (⟨"ProgramSlicesModel", "isLevel", "(I)Z"⟩, 38) := ⟨⟨by decide +kernel, by decide +kernel⟩, List.mem_of_getElem? (i := 887) (by decide +kernel), List.mem_of_getElem? (i := 1220) (by decide +kernel), List.mem_of_getElem? (i := 1221) (by decide +kernel)⟩
theorem lw_p78 : lw_okq (⟨"ProgramSlicesModel", "under", "(II)Z"⟩, 38) := ⟨⟨by decide +kernel, by decide +kernel⟩, List.mem_of_getElem? (i := 887) (by decide +kernel), List.mem_of_getElem? (i := 1232) (by decide +kernel), List.mem_of_getElem? (i := 1233) (by decide +kernel)⟩
theorem lw_p79 : lw_okq (⟨"ProgramSlicesModel", "join", "(III)Z"⟩, 38) := ⟨⟨by decide +kernel, by decide +kernel⟩, List.mem_of_getElem? (i := 887) (by decide +kernel), List.mem_of_getElem? (i := 1236) (by decide +kernel), List.mem_of_getElem? (i := 1237) (by decide +kernel)⟩
def lw_privs_5 : List (MethodName × Nat) := [(⟨"ProgramSlicesModel", "single", "(I)V"⟩, 38), (⟨"ProgramSlicesModel", "flood", "([J[JZ)V"⟩, 38), (⟨"ProgramSlicesModel", "touches", "([J[JI)Z"⟩, 38), (⟨"ProgramSlicesModel", "backward", "(I)V"⟩, 38), (⟨"ProgramSlicesModel", "instructions", "([J)I"⟩, 38), (⟨"ProgramSlicesModel", "wanting", "()I"⟩, 38), (⟨"ProgramSlicesModel", "leave", "()I"⟩, 38), (⟨"ProgramSlicesModel", "x", "(I)I"⟩, 38), (⟨"ProgramSlicesModel", "become", "(II)V"⟩, 38), (⟨"ProgramSlicesModel", "enter", "(I)V"⟩, 38), (⟨"ProgramSlicesModel", "act", "(I)I"⟩, 38), (⟨"ProgramSlicesModel", "computed", "(III)I"⟩, 38), (⟨"ProgramSlicesModel", "saw", "(II)V"⟩, 38), (⟨"ProgramSlicesModel", "isLevel", "(I)Z"⟩, 38), (⟨"ProgramSlicesModel", "under", "(II)Z"⟩, 38), (⟨"ProgramSlicesModel", "join", "(III)Z"⟩, 38)]
theorem lw_r5 : ∀ q ∈ lw_privs_5, lw_okq q := List.forall_mem_cons.mpr ⟨lw_p64, List.forall_mem_cons.mpr ⟨lw_p65, List.forall_mem_cons.mpr ⟨lw_p66, List.forall_mem_cons.mpr ⟨lw_p67, List.forall_mem_cons.mpr ⟨lw_p68, List.forall_mem_cons.mpr ⟨lw_p69, List.forall_mem_cons.mpr ⟨lw_p70, List.forall_mem_cons.mpr ⟨lw_p71, List.forall_mem_cons.mpr ⟨lw_p72, List.forall_mem_cons.mpr ⟨lw_p73, List.forall_mem_cons.mpr ⟨lw_p74, List.forall_mem_cons.mpr ⟨lw_p75, List.forall_mem_cons.mpr ⟨lw_p76, List.forall_mem_cons.mpr ⟨lw_p77, List.forall_mem_cons.mpr ⟨lw_p78, List.forall_mem_cons.mpr ⟨lw_p79, fun _ h => absurd h List.not_mem_nil⟩⟩⟩⟩⟩⟩⟩⟩⟩⟩⟩⟩⟩⟩⟩⟩
theorem lw_p80 : lw_okq (⟨"ProgramSlicesModel", "bottom", "()I"⟩, 38) := ⟨⟨by decide +kernel, by decide +kernel⟩, List.mem_of_getElem? (i := 887) (by decide +kernel), List.mem_of_getElem? (i := 1240) (by decide +kernel), List.mem_of_getElem? (i := 1241) (by decide +kernel)⟩
theorem lw_p81 : lw_okq (⟨"ProgramSlicesModel", "search", "(I)I"⟩, 38) := ⟨⟨by decide +kernel, by decide +kernel⟩, List.mem_of_getElem? (i := 887) (by decide +kernel), List.mem_of_getElem? (i := 1249) (by decide +kernel), List.mem_of_getElem? (i := 1250) (by decide +kernel)⟩
def lw_privs_6 : List (MethodName × Nat) := [(⟨"ProgramSlicesModel", "bottom", "()I"⟩, 38), (⟨"ProgramSlicesModel", "search", "(I)I"⟩, 38)]
theorem lw_r6 : ∀ q ∈ lw_privs_6, lw_okq q := List.forall_mem_cons.mpr ⟨lw_p80, List.forall_mem_cons.mpr ⟨lw_p81, fun _ h => absurd h List.not_mem_nil⟩⟩
def lw_privs : List (MethodName × Nat) := lw_privs_1 ++ (lw_privs_2 ++ (lw_privs_3 ++ (lw_privs_4 ++ (lw_privs_5 ++ (lw_privs_6)))))
def lw_tbl : List Cond := k2_sels lw_privs ++ tables_1
theorem lw_privs_ok : ∀ q ∈ lw_privs, lw_okq q := by
  show ∀ q ∈ lw_privs_1 ++ (lw_privs_2 ++ (lw_privs_3 ++ (lw_privs_4 ++ (lw_privs_5 ++ (lw_privs_6))))), lw_okq q
  exact List.forall_mem_append.mpr ⟨lw_r1, List.forall_mem_append.mpr ⟨lw_r2, List.forall_mem_append.mpr ⟨lw_r3, List.forall_mem_append.mpr ⟨lw_r4, List.forall_mem_append.mpr ⟨lw_r5, lw_r6⟩⟩⟩⟩⟩
end
section
/-! The plain world: all cells of both systems in one list of shapes, a memory of ints and longs by place and number, references as places. -/
abbrev sm_S : Type := List ((Nat × List (Option (Option Nat))) ⊕ (Nat × Nat))
abbrev sm_M : Type := (Nat → Nat → Int32) × (Nat → Nat → Int64)
def sm_ui (μ : sm_M) (p i : Nat) (v : Int32) : sm_M := (fun q => if q = p then upd (μ.1 p) i v else μ.1 q, μ.2)
def sm_ul (μ : sm_M) (p i : Nat) (v : Int64) : sm_M := (μ.1, fun q => if q = p then vp_updL (μ.2 p) i v else μ.2 q)
def sm_z (μ : sm_M) (p : Nat) : sm_M := (fun q => if q = p then fun _ => 0 else μ.1 q, fun q => if q = p then fun _ => 0 else μ.2 q)
def sm_v (ad : Nat → Nat) : Value → Value
  | .ref k => .ref (ad k)
  | v => v
theorem sm_v_cat (ad : Nat → Nat) (v : Value) : (sm_v ad v).category = v.category := by cases v <;> rfl
def sm_f (ad : Nat → Nat) (g : Nat → Int32) (k : Nat) (f : Option (Option Nat)) : Value := match f with
  | none => .int (g k)
  | some none => .null
  | some (some q) => .ref (ad q)
def sm_e (ad : Nat → Nat) (cA : Nat → ClassId) (μ : sm_M) (p : Nat) (x : (Nat × List (Option (Option Nat))) ⊕ (Nat × Nat)) : Nat × va_E := match x with
  | .inl o => (ad p, .inr (o.1, o.2.mapIdx (sm_f ad (μ.1 p))))
  | .inr a => (ad p, .inl (cA a.1, a.2, if a.1 = 2 then .inr (.inl (μ.2 p)) else .inl (μ.1 p)))
def sm_w (ad : Nat → Nat) (cA : Nat → ClassId) (sh : sm_S) (μ : sm_M) : va_W := sh.mapIdx (sm_e ad cA μ)
def sm_ty (cA : Nat → ClassId) : List (ClassId × FieldType) := [(cA 0, .int), (cA 1, .boolean), (cA 2, .long)]
def sm_A (ad : Nat → Nat) (sh : sm_S) (sz : Nat) : Nat → Prop := fun q => (∃ p, p < sh.length ∧ q = ad p) ∨ sz ≤ q
def sm_sz : ((Nat × List (Option (Option Nat))) ⊕ (Nat × Nat)) → Nat
  | .inl o => o.2.length
  | .inr a => a.2
def sm_sl (sh : sm_S) : Nat := (sh.map sm_sz).sum
theorem sm_sl_app (sh sh' : sm_S) : sm_sl (sh ++ sh') = sm_sl sh + sm_sl sh' := by simp [sm_sl]
theorem sm_w_at {ad : Nat → Nat} {cA : Nat → ClassId} {sh : sm_S} {μ : sm_M} (p : Nat) : (sm_w ad cA sh μ)[p]? = (sh[p]?).map (sm_e ad cA μ p) := by
  simp [sm_w, List.getElem?_mapIdx]
theorem sm_w_len {ad : Nat → Nat} {cA : Nat → ClassId} {sh : sm_S} {μ : sm_M} : (sm_w ad cA sh μ).length = sh.length := by simp [sm_w]
theorem sm_w_ui {ad : Nat → Nat} {cA : Nat → ClassId} {sh : sm_S} {μ : sm_M} {p k ci : Nat} {fs : List (Option (Option Nat))} {v : Int32} (h : sh[p]? = some (.inl (ci, fs))) (hk : fs[k]? = some none) :
    (sm_w ad cA sh μ).set p (ad p, .inr (ci, (fs.mapIdx (sm_f ad (μ.1 p))).set k (.int v))) = sm_w ad cA sh (sm_ui μ p k v) := by
  apply List.ext_getElem?
  intro i
  by_cases hi : i = p
  · subst hi
    have hlt : i < (sm_w ad cA sh μ).length := by rw [sm_w_len]; exact (List.getElem?_eq_some_iff.mp h).1
    rw [List.getElem?_set_self hlt, sm_w_at, h]
    have hl : (fs.mapIdx (sm_f ad (μ.1 i))).set k (.int v) = fs.mapIdx (sm_f ad ((sm_ui μ i k v).1 i)) := by
      apply List.ext_getElem?
      intro j
      by_cases hj : j = k
      · subst hj
        have hlt2 : j < (fs.mapIdx (sm_f ad (μ.1 i))).length := by rw [List.length_mapIdx]; exact (List.getElem?_eq_some_iff.mp hk).1
        rw [List.getElem?_set_self hlt2, List.getElem?_mapIdx, hk]
        simp [sm_f, sm_ui, upd]
      · rw [List.getElem?_set_ne (Ne.symm hj), List.getElem?_mapIdx, List.getElem?_mapIdx]
        cases fs[j]? with
        | none => rfl
        | some f =>
          cases f with
          | none => simp [sm_f, sm_ui, upd, hj]
          | some f => cases f <;> rfl
    simp only [Option.map, sm_e]
    rw [hl]
  · rw [List.getElem?_set_ne (Ne.symm hi), sm_w_at, sm_w_at]
    cases sh[i]? with
    | none => rfl
    | some x => cases x <;> simp [sm_e, sm_ui, hi]
/-- a reference field becomes a reference -/
theorem sm_w_ur {ad : Nat → Nat} {cA : Nat → ClassId} {sh : sm_S} {μ : sm_M} {p k ci q : Nat} {fs : List (Option (Option Nat))} (h : sh[p]? = some (.inl (ci, fs))) (hk : k < fs.length) :
    (sm_w ad cA sh μ).set p (ad p, .inr (ci, (fs.mapIdx (sm_f ad (μ.1 p))).set k (.ref (ad q)))) = sm_w ad cA (sh.set p (.inl (ci, fs.set k (some (some q))))) μ := by
  apply List.ext_getElem?
  intro i
  by_cases hi : i = p
  · subst hi
    have hs := (List.getElem?_eq_some_iff.mp h).1
    have hlt : i < (sm_w ad cA sh μ).length := by rw [sm_w_len]; exact hs
    rw [List.getElem?_set_self hlt, sm_w_at, List.getElem?_set_self hs]
    have hl : (fs.mapIdx (sm_f ad (μ.1 i))).set k (.ref (ad q)) = (fs.set k (some (some q))).mapIdx (sm_f ad (μ.1 i)) := by
      apply List.ext_getElem?
      intro j
      by_cases hj : j = k
      · subst hj
        have hlt2 : j < (fs.mapIdx (sm_f ad (μ.1 i))).length := by rw [List.length_mapIdx]; exact hk
        rw [List.getElem?_set_self hlt2, List.getElem?_mapIdx, List.getElem?_set_self hk]
        rfl
      · rw [List.getElem?_set_ne (Ne.symm hj), List.getElem?_mapIdx, List.getElem?_mapIdx, List.getElem?_set_ne (Ne.symm hj)]
    simp only [Option.map, sm_e]
    rw [hl]
  · rw [List.getElem?_set_ne (Ne.symm hi), sm_w_at, sm_w_at, List.getElem?_set_ne (Ne.symm hi)]
theorem sm_w_ai {ad : Nat → Nat} {cA : Nat → ClassId} {sh : sm_S} {μ : sm_M} {p i kd n : Nat} {v : Int32} (h : sh[p]? = some (.inr (kd, n))) (hkd : kd ≠ 2) :
    (sm_w ad cA sh μ).set p (ad p, .inl (cA kd, n, .inl (upd (μ.1 p) i v))) = sm_w ad cA sh (sm_ui μ p i v) := by
  apply List.ext_getElem?
  intro j
  by_cases hj : j = p
  · subst hj
    have hlt : j < (sm_w ad cA sh μ).length := by rw [sm_w_len]; exact (List.getElem?_eq_some_iff.mp h).1
    rw [List.getElem?_set_self hlt, sm_w_at, h]
    simp [sm_e, sm_ui, hkd]
  · rw [List.getElem?_set_ne (Ne.symm hj), sm_w_at, sm_w_at]
    cases sh[j]? with
    | none => rfl
    | some x => cases x <;> simp [sm_e, sm_ui, hj]
theorem sm_w_al {ad : Nat → Nat} {cA : Nat → ClassId} {sh : sm_S} {μ : sm_M} {p i n : Nat} {v : Int64} (h : sh[p]? = some (.inr (2, n))) :
    (sm_w ad cA sh μ).set p (ad p, .inl (cA 2, n, .inr (.inl (vp_updL (μ.2 p) i v)))) = sm_w ad cA sh (sm_ul μ p i v) := by
  apply List.ext_getElem?
  intro j
  by_cases hj : j = p
  · subst hj
    have hlt : j < (sm_w ad cA sh μ).length := by rw [sm_w_len]; exact (List.getElem?_eq_some_iff.mp h).1
    rw [List.getElem?_set_self hlt, sm_w_at, h]
    simp [sm_e, sm_ul]
  · rw [List.getElem?_set_ne (Ne.symm hj), sm_w_at, sm_w_at]
    cases sh[j]? with
    | none => rfl
    | some x => cases x <;> simp [sm_e, sm_ul, hj]
/-! no reference in the locals, on the stack, in the shape, to places a .. b - 1 -/
def sm_nv (a b : Nat) : Value → Bool
  | .ref k => k < a || b ≤ k
  | _ => true
def sm_no (a b : Nat) : Option Value → Bool
  | some v => sm_nv a b v
  | none => true
def sm_nf (a b : Nat) : Option (Option Nat) → Bool
  | some (some k) => k < a || b ≤ k
  | _ => true
def sm_ns (a b : Nat) : ((Nat × List (Option (Option Nat))) ⊕ (Nat × Nat)) → Bool
  | .inl o => o.2.all (sm_nf a b)
  | .inr _ => true
def sm_ag (a b : Nat) (ad' ad : Nat → Nat) : Prop := ∀ p, p < a ∨ b ≤ p → ad' p = ad p
theorem sm_nv_eq {a b : Nat} {ad' ad : Nat → Nat} (h : sm_ag a b ad' ad) {v : Value} (hv : sm_nv a b v = true) : sm_v ad' v = sm_v ad v := by
  cases v with
  | ref k =>
    have h2 : k < a ∨ b ≤ k := by simpa [sm_nv] using hv
    show Value.ref _ = Value.ref _
    rw [h k h2]
  | _ => rfl
theorem sm_nf_eq {a b : Nat} {ad' ad : Nat → Nat} (h : sm_ag a b ad' ad) {g : Nat → Int32} {k : Nat} {f : Option (Option Nat)} (hv : sm_nf a b f = true) : sm_f ad' g k f = sm_f ad g k f := by
  cases f with
  | none => rfl
  | some f =>
    cases f with
    | none => rfl
    | some q =>
      have h2 : q < a ∨ b ≤ q := by simpa [sm_nf] using hv
      show Value.ref _ = Value.ref _
      rw [h q h2]
theorem sm_ns_map {a b : Nat} {ad' ad : Nat → Nat} (h : sm_ag a b ad' ad) {g : Nat → Int32} {fs : List (Option (Option Nat))} (hv : fs.all (sm_nf a b) = true) : fs.mapIdx (sm_f ad' g) = fs.mapIdx (sm_f ad g) := by
  apply List.ext_getElem?
  intro i
  rw [List.getElem?_mapIdx, List.getElem?_mapIdx]
  cases hf : fs[i]? with
  | none => rfl
  | some f => simp only [Option.map]; rw [sm_nf_eq h (List.all_eq_true.mp hv f (List.mem_of_getElem? hf))]
/-- one more cell, all of it 0 -/
theorem sm_w_new {ad : Nat → Nat} {cA : Nat → ClassId} {sh : sm_S} {μ : sm_M} {x : (Nat × List (Option (Option Nat))) ⊕ (Nat × Nat)} {a : Nat} {ad' : Nat → Nat} (ha : ad' sh.length = a) (hag : sm_ag sh.length (sh.length + 1) ad' ad) (hn : sh.all (sm_ns sh.length (sh.length + 1)) = true) :
    sm_w ad' cA (sh ++ [x]) (sm_z μ sh.length) = sm_w ad cA sh μ ++ [(a, (sm_e ad' cA (sm_z μ sh.length) sh.length x).2)] := by
  apply List.ext_getElem?
  intro i
  rw [sm_w_at]
  by_cases hi : i < sh.length
  · rw [List.getElem?_append_left hi, List.getElem?_append_left (by rw [sm_w_len]; exact hi), sm_w_at]
    cases hs : sh[i]? with
    | none => rfl
    | some y =>
      have hy := List.all_eq_true.mp hn y (List.mem_of_getElem? hs)
      have hne : i ≠ sh.length := by omega
      have h1 : ad' i = ad i := hag i (Or.inl hi)
      cases y with
      | inl o =>
        simp only [Option.map, sm_e]
        rw [sm_ns_map hag hy, h1]
        simp [sm_z, hne]
      | inr o =>
        simp only [Option.map, sm_e]
        rw [h1]
        simp [sm_z, hne]
  · by_cases he : i = sh.length
    · subst he
      rw [List.getElem?_append_right (Nat.le_refl _), List.getElem?_append_right (by rw [sm_w_len]; exact Nat.le_refl _), sm_w_len, Nat.sub_self]
      simp only [List.getElem?_cons_zero, Option.map]
      rw [← ha]
      cases x <;> rfl
    · rw [List.getElem?_eq_none (by simp; omega), List.getElem?_eq_none (by simp [sm_w_len]; omega)]
      rfl
/-! the locals: a list of places, a value or nothing -/
def sm_has (ls : Array Slot) (nL : Nat) (ad : Nat → Nat) (L : List (Option Value)) : Prop := ls.size = nL ∧ lv_wf ls ∧ ∀ (i : Nat) (v : Value), L[i]? = some (some v) → ls[i]? = some (.val (sm_v ad v))
theorem sm_has.ag {ls : Array Slot} {nL a b : Nat} {ad ad' : Nat → Nat} {L : List (Option Value)} (h : sm_has ls nL ad L) (hag : sm_ag a b ad' ad) (hL : L.all (sm_no a b) = true) : sm_has ls nL ad' L := by
  refine ⟨h.1, h.2.1, fun i v hi => ?_⟩
  rw [sm_nv_eq hag (show sm_nv a b v = true from List.all_eq_true.mp hL (some v) (List.mem_of_getElem? hi))]
  exact h.2.2 i v hi
theorem sm_st_ag {a b : Nat} {ad ad' : Nat → Nat} {r : List Value} (hag : sm_ag a b ad' ad) (hr : r.all (sm_nv a b) = true) : r.map (sm_v ad') = r.map (sm_v ad) := by
  apply List.map_congr_left
  intro v hv
  exact sm_nv_eq hag (List.all_eq_true.mp hr v hv)
def sm_l (ad : Nat → Nat) (L : List (Option Value)) : List (Nat × Value) := (L.mapIdx (fun i v => (i, v))).filterMap (fun q => q.2.map (fun v => (q.1, sm_v ad v)))
theorem sm_l_mem {ad : Nat → Nat} {L : List (Option Value)} {i : Nat} {w : Value} : (i, w) ∈ sm_l ad L ↔ ∃ v, L[i]? = some (some v) ∧ w = sm_v ad v := by
  unfold sm_l
  rw [List.mem_filterMap]
  constructor
  · rintro ⟨⟨j, o⟩, hm, ho⟩
    obtain ⟨k, hk⟩ := List.getElem?_of_mem hm
    rw [List.getElem?_mapIdx] at hk
    cases hL : L[k]? with
    | none => rw [hL] at hk; cases hk
    | some x =>
      rw [hL] at hk
      cases hk
      cases o with
      | none => cases ho
      | some v => cases ho; exact ⟨v, hL, rfl⟩
  · rintro ⟨v, hL, rfl⟩
    refine ⟨(i, some v), ?_, rfl⟩
    apply List.mem_of_getElem? (i := i)
    rw [List.getElem?_mapIdx, hL]
    rfl
theorem sm_has.lv {ls : Array Slot} {nL : Nat} {ad : Nat → Nat} {L : List (Option Value)} (h : sm_has ls nL ad L) : lv_has ls nL (sm_l ad L) := by
  refine ⟨h.1, h.2.1, fun q hq => ?_⟩
  obtain ⟨v, h1, h2⟩ := sm_l_mem.mp (show (q.1, q.2) ∈ sm_l ad L from hq)
  rw [h2]
  exact h.2.2 _ _ h1
def sm_c1 : Option Value → Bool
  | some (.long _) => false
  | some (.double _) => false
  | _ => true
/-- the place ahead of i holds no long -/
def sm_ah (L : List (Option Value)) : Nat → Bool
  | 0 => true
  | i + 1 => sm_c1 (L.getD i none)
theorem sm_ah_ok {L : List (Option Value)} {i j : Nat} {w : Value} (h : sm_ah L i = true) (hj : j + 1 = i) (hw : L[j]? = some (some w)) : ¬ w.category = 2 := by
  subst hj
  have h1 : sm_c1 (L.getD j none) = true := h
  rw [List.getD_eq_getElem?_getD, hw] at h1
  cases w <;> simp_all [sm_c1, Value.category]
theorem sm_has.st1 {ls' : Array Slot} {nL : Nat} {ad : Nat → Nat} {L : List (Option Value)} {i : Nat} {v : Value} (ha : sm_ah L i = true)
    (h : lv_has ls' nL ((i, sm_v ad v) :: (sm_l ad L).filter (fun q => !(q.1 == i) && !(q.1 + 1 == i && q.2.category == 2)))) : sm_has ls' nL ad (L.set i (some v)) := by
  refine ⟨h.1, h.2.1, fun j w hj => ?_⟩
  by_cases hji : j = i
  · subst hji
    have hlt : j < L.length := by
      have := (List.getElem?_eq_some_iff.mp hj).1
      simpa using this
    rw [List.getElem?_set_self hlt] at hj
    cases hj
    exact h.2.2 (j, sm_v ad v) List.mem_cons_self
  · rw [List.getElem?_set_ne (Ne.symm hji)] at hj
    refine h.2.2 (j, sm_v ad w) (List.mem_cons_of_mem _ (List.mem_filter.mpr ⟨sm_l_mem.mpr ⟨w, hj, rfl⟩, ?_⟩))
    have h2 : ¬ (j + 1 = i ∧ w.category = 2) := fun q => sm_ah_ok ha q.1 hj q.2
    by_cases h3 : j + 1 = i
    · have h4 : ¬ w.category = 2 := fun q => h2 ⟨h3, q⟩
      simp [hji, h3, sm_v_cat, h4]
    · simp [hji, h3]
theorem sm_has.st2 {ls' : Array Slot} {nL : Nat} {ad : Nat → Nat} {L : List (Option Value)} {i : Nat} {v : Value} (ha : sm_ah L i = true)
    (h : lv_has ls' nL ((i, sm_v ad v) :: (sm_l ad L).filter (fun q => !(q.1 == i) && (!(q.1 == i + 1) && !(q.1 + 1 == i && q.2.category == 2))))) : sm_has ls' nL ad ((L.set i (some v)).set (i + 1) none) := by
  refine ⟨h.1, h.2.1, fun j w hj => ?_⟩
  by_cases hj1 : j = i + 1
  · subst hj1
    have hlt : i + 1 < (L.set i (some v)).length := (by have := (List.getElem?_eq_some_iff.mp hj).1; simpa using this)
    rw [List.getElem?_set_self hlt] at hj
    cases hj
  · rw [List.getElem?_set_ne (Ne.symm hj1)] at hj
    by_cases hji : j = i
    · subst hji
      have hlt : j < L.length := by
        have := (List.getElem?_eq_some_iff.mp hj).1
        simpa using this
      rw [List.getElem?_set_self hlt] at hj
      cases hj
      exact h.2.2 (j, sm_v ad v) List.mem_cons_self
    · rw [List.getElem?_set_ne (Ne.symm hji)] at hj
      refine h.2.2 (j, sm_v ad w) (List.mem_cons_of_mem _ (List.mem_filter.mpr ⟨sm_l_mem.mpr ⟨w, hj, rfl⟩, ?_⟩))
      have h2 : ¬ (j + 1 = i ∧ w.category = 2) := fun q => sm_ah_ok ha q.1 hj q.2
      by_cases h3 : j + 1 = i
      · have h4 : ¬ w.category = 2 := fun q => h2 ⟨h3, q⟩
        simp [hji, hj1, h3, sm_v_cat, h4]
      · simp [hji, hj1, h3]
/-! words of nest mates: they go with the state -/
def sm_isN : Cond → Bool
  | .fieldLinkNest _ _ _ _ _ _ => true
  | .methodLinkNest _ _ _ _ => true
  | _ => false
def sm_nw (NW : List Cond) (U : State) : Prop := ∀ w ∈ NW, sm_isN w = true ∧ va_Nw w U
theorem sm_nw.warm {NW : List Cond} {s U : State} (h : sm_nw NW s) (hW : s.WarmedH U.vm) : sm_nw NW U := by
  intro w hw
  obtain ⟨h1, h2⟩ := h w hw
  refine ⟨h1, ?_⟩
  cases w with
  | fieldLinkNest a i b n d k => exact va_Nw.warmF hW h2
  | methodLinkNest a i x k => exact va_Nw.warmM hW h2
  | _ => cases h1
theorem sm_nw.same {NW : List Cond} {s U : State} (h : sm_nw NW s) (hv : s.vm = U.vm) : sm_nw NW U := by
  intro w hw
  obtain ⟨h1, h2⟩ := h w hw
  refine ⟨h1, ?_⟩
  cases w with
  | fieldLinkNest a i b n d k => exact va_Nw.same rfl hv h2
  | methodLinkNest a i x k => exact va_Nw.same rfl hv h2
  | _ => cases h1
/-! the judgement: where a method stands, in plain words -/
abbrev sm_Z : Type := Launch × va_G × (Nat → ClassId) × List Cond
abbrev sm_X : Type := sm_Z × Program × Env × Room × State × MethodId × Array Value × List Frame × Method × Code × Nat × (Nat → Prop) × Heap × (State → Prop) × Nat × Nat
def sm_E (cl : List vw_C) (X : sm_X) (pc : Nat) (L : List (Option Value)) (st : List Value) (ad : Nat → Nat) (sh : sm_S) (μ : sm_M) : Prop := match X with
  | ((l, D, cA, NW), p, e, R, s, m, args, below, meth, c, nL, A, H0, Q, n0, s0) => ∀ (ls : Array Slot) (H : Heap) (locs : List Loc) (cells slots : Nat), cells + n0 = sh.length → slots + s0 = sm_sl sh → sm_has ls nL ad L → va_P D cl (sm_w ad cA sh μ) H → va_D A (sm_w ad cA sh μ) → va_S A H0 H locs → W p l e R s m args below meth c H locs cells slots Q (F0 m pc ls (st.map (sm_v ad)))
def sm_ok (cl : List vw_C) (X : sm_X) (cc : ByteArray) (n : Nat) (own : String) (Ts : List Cond) (ret : Option FieldType) (rm : Room) (N S : Nat) (ini : Bool) : Prop := match X with
  | ((l, D, cA, NW), p, e, R, s, m, args, below, meth, c, nL, A, H0, Q, n0, s0) => p.tables.exec = Jvm.exec ∧ c.code = cc ∧ c.maxLocals = nL ∧ nL = n ∧ s.vm.findClass own = some m.cls ∧ (∀ w ∈ Ts, w.before args s = true) ∧ va_K D cl (sm_ty cA) s ∧ meth.locks = false ∧ meth.sig.returnType = ret ∧ R = rm ∧ (∀ q, H0.size ≤ q → A q) ∧ n0 + rm.cells = N ∧ s0 + rm.slots = S ∧ (ini = true → meth.name = "<init>") ∧ sm_nw NW s
def sm_Q (cl : List vw_C) (Z : sm_Z) (ad : Nat → Nat) (sh : sm_S) (mc ms : Nat) (A : Nat → Prop) (Q : Option Value → sm_S → sm_M → Prop) : Array Value → State → Outcome → State → Prop := match Z with
  | (l, D, cA, NW) => fun _ st oc t => (∃ (r : Option Value) (ad' : Nat → Nat) (sh' : sm_S) (μ' : sm_M), oc = .returned (r.map (sm_v ad')) ∧ sh'.length = sh.length + mc ∧ sm_sl sh' = sm_sl sh + ms ∧ sm_ag sh.length sh'.length ad' ad ∧ Q r sh' μ' ∧ va_P D cl (sm_w ad' cA sh' μ') t.heap ∧ va_K D cl (sm_ty cA) t ∧ va_D A (sm_w ad' cA sh' μ')) ∧ va_F A st t
def sm_fin (cl : List vw_C) (X : sm_X) (ad0 : Nat → Nat) (sh0 : sm_S) (mc ms : Nat) (Q0 : Option Value → sm_S → sm_M → Prop) : Prop := match X with
  | ((l, D, cA, NW), p, e, R, s, m, args, below, meth, c, nL, A, H0, Q, n0, s0) => Q = MQ below (sm_Q cl (l, D, cA, NW) ad0 sh0 mc ms A Q0) args s mc ms A ∧ H0 = s.heap ∧ n0 = sh0.length ∧ s0 = sm_sl sh0
/-- a method's contract: called so, at this world, it returns so that Q -/
def sm_C (cl : List vw_C) (Z : sm_Z) (y : MethodName) (ws : List Cond) (rm : Room) (av : List Value) (ad : Nat → Nat) (sh : sm_S) (μ : sm_M) (Q : Option Value → sm_S → sm_M → Prop) : Prop := match Z with
  | (l, D, cA, NW) => ∀ sz : Nat, Met l y ws rm (va_Pc (av.map (sm_v ad)) (fun U => U.heap.size = sz ∧ va_P D cl (sm_w ad cA sh μ) U.heap ∧ va_K D cl (sm_ty cA) U ∧ va_D (fun _ => True) (sm_w ad cA sh μ) ∧ sm_nw NW U)) (sm_Q cl (l, D, cA, NW) ad sh rm.cells rm.slots (sm_A ad sh sz) Q) rm.cells rm.slots (sm_A ad sh sz)
/-- fewer locals are known -/
theorem sm_E.less {cl : List vw_C} {X : sm_X} {pc : Nat} {L L' : List (Option Value)} {st : List Value} {ad : Nat → Nat} {sh : sm_S} {μ : sm_M} (h : ∀ (i : Nat) (v : Value), L'[i]? = some (some v) → L[i]? = some (some v)) (k : sm_E cl X pc L' st ad sh μ) : sm_E cl X pc L st ad sh μ := by
  obtain ⟨⟨l, D, cA, NW⟩, p, e, R, s, m, args, below, meth, c, nL, A, H0, Q, n0, s0⟩ := X
  exact fun ls H locs cells slots g1 g2 h1 h2 h3 h4 => k ls H locs cells slots g1 g2 ⟨h1.1, h1.2.1, fun i v q => h1.2.2 i v (h i v q)⟩ h2 h3 h4
def sm_L0 (n : Nat) (av : List Value) : List (Option Value) := let f := av.flatMap (fun v => if v.category = 2 then [some v, none] else [some v]); f ++ List.replicate (n - f.length) none
theorem sm_L0_args {ad : Nat → Nat} {v : Value} : ∀ (av : List Value) (o i : Nat), (av.flatMap (fun v => if v.category = 2 then [some v, none] else [some v]))[i]? = some (some v) → (o + i, sm_v ad v) ∈ lv_args o (av.map (sm_v ad))
  | [], o, i, h => by simp at h
  | a :: t, o, i, h => by
    rw [List.flatMap_cons] at h
    show _ ∈ (o, sm_v ad a) :: lv_args (if (sm_v ad a).category = 2 then o + 2 else o + 1) (t.map (sm_v ad))
    rw [sm_v_cat]
    by_cases hc : a.category = 2
    · rw [if_pos hc] at h ⊢
      match i, h with
      | 0, h =>
        have h2 : a = v := by simpa using h
        subst h2
        exact List.mem_cons_self
      | 1, h => simp at h
      | j + 2, h =>
        refine List.mem_cons_of_mem _ ?_
        have h2 := sm_L0_args (ad := ad) t (o + 2) j (by simpa using h)
        rwa [show o + 2 + j = o + (j + 2) by omega] at h2
    · rw [if_neg hc] at h ⊢
      match i, h with
      | 0, h =>
        have h2 : a = v := by simpa using h
        subst h2
        exact List.mem_cons_self
      | j + 1, h =>
        refine List.mem_cons_of_mem _ ?_
        have h2 := sm_L0_args (ad := ad) t (o + 1) j (by simpa using h)
        rwa [show o + 1 + j = o + (j + 1) by omega] at h2
theorem sm_sl_len {ad : Nat → Nat} (av : List Value) : (lg_sl (av.map (sm_v ad))).length = (lg_sl av).length := by
  induction av with
  | nil => rfl
  | cons a t ih =>
    simp only [lg_sl, List.map_cons, List.flatMap_cons, List.length_append, sm_v_cat] at ih ⊢
    rw [ih]
    split <;> rfl
theorem sm_enter {cl : List vw_C} {Z : sm_Z} {y : MethodName} {cc : ByteArray} {nL : Nat} {ret : Option FieldType} {W' : List Cond} {rm : Room} {av : List Value} {ad : Nat → Nat} {sh : sm_S} {μ : sm_M} {Q : Option Value → sm_S → sm_M → Prop} (hy : plainName y.cls = true) (hlen : (lg_sl av).length ≤ nL)
    (body : ∀ X : sm_X, X.1 = Z → sm_ok cl X cc nL y.cls W' ret rm (sh.length + rm.cells) (sm_sl sh + rm.slots) (y.name == "<init>") → sm_fin cl X ad sh rm.cells rm.slots Q → sm_E cl X 0 (sm_L0 nL av) [] ad sh μ) : sm_C cl Z y (Cond.code y cc nL ret :: W') rm av ad sh μ Q := by
  obtain ⟨l, D, cA, NW⟩ := Z
  intro sz
  refine Met.ofW (cc := cc) (maxL := nL) (ret := ret) hy rfl ?_
  intro p e s m args below meth c s₁ B hml hv
  obtain ⟨rfl, hsz, hP, hK, hD0, hnw⟩ := hv
  subst hsz
  have hD : va_D (sm_A ad sh s.heap.size) (sm_w ad cA sh μ) := ⟨hD0.1, fun k q hk => by
    rw [sm_w_at] at hk
    cases hs : sh[k]? with
    | none => rw [hs] at hk; cases hk
    | some x =>
      rw [hs] at hk
      cases hk
      refine Or.inl ⟨k, (List.getElem?_eq_some_iff.mp hs).1, ?_⟩
      cases x <;> rfl⟩
  have hl := lv_entry (av.map (sm_v ad)) (n := nL) (by rw [sm_sl_len]; exact hlen)
  rw [lg_entry_eq]
  have h := body ((l, D, cA, NW), p, e, rm, s, m, (av.map (sm_v ad)).toArray, below, meth, c, nL, sm_A ad sh s.heap.size, s.heap, MQ below (sm_Q cl (l, D, cA, NW) ad sh rm.cells rm.slots (sm_A ad sh s.heap.size) Q) (av.map (sm_v ad)).toArray s rm.cells rm.slots (sm_A ad sh s.heap.size), sh.length, sm_sl sh) rfl ⟨B.exec, B.bytes, hml, rfl, findClass_of_methodNamed B.named, fun w hw => atoms_spec (ws := Cond.code y cc nL ret :: W') B.pre w (List.mem_cons_of_mem _ hw), hK, B.notSynchronized, B.returns, rfl, fun _ h => Or.inr h, rfl, rfl, fun h => (name_of_methodNamed B.named B.method).1.trans (eq_of_beq h), hnw⟩ ⟨rfl, rfl, rfl, rfl⟩
  refine h _ s.heap [] 0 0 (Nat.zero_add _) (Nat.zero_add _) ⟨hl.1, hl.2.1, fun i v hi => hl.2.2 (i, sm_v ad v) ?_⟩ hP hD va_S.rf
  have h2 : (av.flatMap (fun v => if v.category = 2 then [some v, none] else [some v]))[i]? = some (some v) := by
    unfold sm_L0 at hi
    rw [List.getElem?_append] at hi
    split at hi
    · exact hi
    · exfalso
      have := List.eq_of_mem_replicate (List.mem_of_getElem? hi)
      cases this
  have h3 := sm_L0_args (ad := ad) av 0 i h2
  rwa [Nat.zero_add] at h3
theorem sm_call_core {cl : List vw_C} {sh : sm_S} {l : Launch} {D : va_G} {NW : List Cond} {ad : Nat → Nat} {cA : Nat → ClassId} {p : Program} {e : Env} {R : Room} {s : State} {m : MethodId} {args : Array Value} {below : List Frame} {meth : Method} {c : Code} {H H0 : Heap} {locs : List Loc} {cells slots pc mc ms sz : Nat} {Q : State → Prop} {ls : Array Slot} {st0 rest : List Value} {A : Nat → Prop} {Q' : Option Value → sm_S → sm_M → Prop} {a : Array Value}
    (hr : va_Run p l e R s m args below meth c H locs cells slots mc ms (F0 m pc ls st0) rest (sm_Q cl (l, D, cA, NW) ad sh mc ms (sm_A ad sh sz) Q' a) (sm_A ad sh sz)) (hS : va_S A H0 H locs) (hA : ∀ q, sm_A ad sh sz q → A q)
    (kk : ∀ (r : Option Value) (ad' : Nat → Nat) (sh' : sm_S) (μ' : sm_M) (H1 : Heap) (locs1 : List Loc), sh'.length = sh.length + mc → sm_sl sh' = sm_sl sh + ms → sm_ag sh.length sh'.length ad' ad → Q' r sh' μ' → va_P D cl (sm_w ad' cA sh' μ') H1 → va_D A (sm_w ad' cA sh' μ') → va_S A H0 H1 locs1 → W p l e R s m args below meth c H1 locs1 (cells + mc) (slots + ms) Q (F0 m (pc + 3) ls ((r.map (sm_v ad')).toList ++ rest))) : W p l e R s m args below meth c H locs cells slots Q (F0 m pc ls st0) := by
  intro T hT X
  obtain ⟨v, st₀, t, T', L, h0, X', hL, e1, e2, ⟨⟨r, ad', sh', μ', hv, hn, hs, hag, hq, hP, hK, hD⟩, hz, hk⟩, st⟩ := hr T hT X
  have hv : v = r.map (sm_v ad') := Outcome.returned.inj hv
  subst hv
  rw [h0] at hz hk
  obtain ⟨t2, a1, b1⟩ := kk r ad' sh' μ' T'.heap (locs ++ L) hn hs hag hq (by rw [e1]; exact hP) (hD.weaken (fun k q _ h => hA q.1 h))
    ⟨Nat.le_trans hS.1 (by rw [e1]; exact hz), fun q g1 g2 => by rw [e1, hk q (Nat.lt_of_lt_of_le g1 hS.1) (fun z => g2 (hA q z))]; exact hS.2.1 q g1 g2, fun q hq => by
      rcases List.mem_append.mp hq with h | h
      · exact hS.2.2 q h
      · exact hA _ (hL q h)⟩ T' rfl X'
  exact ⟨t2, st t2 a1, b1⟩
theorem sm_A_in {A : Nat → Prop} {ad : Nat → Nat} {cA : Nat → ClassId} {sh : sm_S} {μ : sm_M} {H0 H : Heap} {locs : List Loc} (hD : va_D A (sm_w ad cA sh μ)) (hS : va_S A H0 H locs) (hA : ∀ q, H0.size ≤ q → A q) : ∀ q, sm_A ad sh H.size q → A q := by
  intro q h
  rcases h with ⟨k, hk, rfl⟩ | h
  · have h1 : (sm_w ad cA sh μ)[k]? = some (sm_e ad cA μ k sh[k]) := by rw [sm_w_at, List.getElem?_eq_getElem hk]; rfl
    have h2 := hD.2 k _ h1
    have h3 : (sm_e ad cA μ k sh[k]).1 = ad k := by cases sh[k] <;> rfl
    rwa [h3] at h2
  · exact hA q (Nat.le_trans hS.1 h)

theorem sm_iadd {cl : List vw_C} {X : sm_X} {cc : ByteArray} {n : Nat} {own : String} {Ts : List Cond} {ret : Option FieldType} {rm : Room} {N S : Nat} {ini : Bool} (hX : sm_ok cl X cc n own Ts ret rm N S ini) {pc : Nat} {L : List (Option Value)} {r : List Value} {ad : Nat → Nat} {sh : sm_S} {μ : sm_M} {x y : Int32} (d : decode cc pc = .ok (.iadd, 1)) (k : sm_E cl X (pc + 1) L (.int (x + y) :: r) ad sh μ) : sm_E cl X pc L (.int y :: .int x :: r) ad sh μ := by
  obtain ⟨⟨l, D, cA, NW⟩, pr, e, R, s, m, args, below, meth, c, nL, A, H0, Q, n0, s0⟩ := X
  obtain ⟨hx, hb, hml, hn, hown, hts, hK, hlk, hrt, hR, hA, hc0, hs0, hin, hnw⟩ := hX
  exact fun ls H locs cells slots g1 g2 h1 h2 h3 h4 => lv_iadd hx hb d (k ls H locs cells slots g1 g2 h1 h2 h3 h4)
theorem sm_isub {cl : List vw_C} {X : sm_X} {cc : ByteArray} {n : Nat} {own : String} {Ts : List Cond} {ret : Option FieldType} {rm : Room} {N S : Nat} {ini : Bool} (hX : sm_ok cl X cc n own Ts ret rm N S ini) {pc : Nat} {L : List (Option Value)} {r : List Value} {ad : Nat → Nat} {sh : sm_S} {μ : sm_M} {x y : Int32} (d : decode cc pc = .ok (.isub, 1)) (k : sm_E cl X (pc + 1) L (.int (x - y) :: r) ad sh μ) : sm_E cl X pc L (.int y :: .int x :: r) ad sh μ := by
  obtain ⟨⟨l, D, cA, NW⟩, pr, e, R, s, m, args, below, meth, c, nL, A, H0, Q, n0, s0⟩ := X
  obtain ⟨hx, hb, hml, hn, hown, hts, hK, hlk, hrt, hR, hA, hc0, hs0, hin, hnw⟩ := hX
  exact fun ls H locs cells slots g1 g2 h1 h2 h3 h4 => lv_isub hx hb d (k ls H locs cells slots g1 g2 h1 h2 h3 h4)
theorem sm_imul {cl : List vw_C} {X : sm_X} {cc : ByteArray} {n : Nat} {own : String} {Ts : List Cond} {ret : Option FieldType} {rm : Room} {N S : Nat} {ini : Bool} (hX : sm_ok cl X cc n own Ts ret rm N S ini) {pc : Nat} {L : List (Option Value)} {r : List Value} {ad : Nat → Nat} {sh : sm_S} {μ : sm_M} {x y : Int32} (d : decode cc pc = .ok (.imul, 1)) (k : sm_E cl X (pc + 1) L (.int (x * y) :: r) ad sh μ) : sm_E cl X pc L (.int y :: .int x :: r) ad sh μ := by
  obtain ⟨⟨l, D, cA, NW⟩, pr, e, R, s, m, args, below, meth, c, nL, A, H0, Q, n0, s0⟩ := X
  obtain ⟨hx, hb, hml, hn, hown, hts, hK, hlk, hrt, hR, hA, hc0, hs0, hin, hnw⟩ := hX
  exact fun ls H locs cells slots g1 g2 h1 h2 h3 h4 => lv_imul hx hb d (k ls H locs cells slots g1 g2 h1 h2 h3 h4)
theorem sm_iand {cl : List vw_C} {X : sm_X} {cc : ByteArray} {n : Nat} {own : String} {Ts : List Cond} {ret : Option FieldType} {rm : Room} {N S : Nat} {ini : Bool} (hX : sm_ok cl X cc n own Ts ret rm N S ini) {pc : Nat} {L : List (Option Value)} {r : List Value} {ad : Nat → Nat} {sh : sm_S} {μ : sm_M} {x y : Int32} (d : decode cc pc = .ok (.iand, 1)) (k : sm_E cl X (pc + 1) L (.int (x &&& y) :: r) ad sh μ) : sm_E cl X pc L (.int y :: .int x :: r) ad sh μ := by
  obtain ⟨⟨l, D, cA, NW⟩, pr, e, R, s, m, args, below, meth, c, nL, A, H0, Q, n0, s0⟩ := X
  obtain ⟨hx, hb, hml, hn, hown, hts, hK, hlk, hrt, hR, hA, hc0, hs0, hin, hnw⟩ := hX
  exact fun ls H locs cells slots g1 g2 h1 h2 h3 h4 => lv_iand hx hb d (k ls H locs cells slots g1 g2 h1 h2 h3 h4)
theorem sm_ior {cl : List vw_C} {X : sm_X} {cc : ByteArray} {n : Nat} {own : String} {Ts : List Cond} {ret : Option FieldType} {rm : Room} {N S : Nat} {ini : Bool} (hX : sm_ok cl X cc n own Ts ret rm N S ini) {pc : Nat} {L : List (Option Value)} {r : List Value} {ad : Nat → Nat} {sh : sm_S} {μ : sm_M} {x y : Int32} (d : decode cc pc = .ok (.ior, 1)) (k : sm_E cl X (pc + 1) L (.int (x ||| y) :: r) ad sh μ) : sm_E cl X pc L (.int y :: .int x :: r) ad sh μ := by
  obtain ⟨⟨l, D, cA, NW⟩, pr, e, R, s, m, args, below, meth, c, nL, A, H0, Q, n0, s0⟩ := X
  obtain ⟨hx, hb, hml, hn, hown, hts, hK, hlk, hrt, hR, hA, hc0, hs0, hin, hnw⟩ := hX
  exact fun ls H locs cells slots g1 g2 h1 h2 h3 h4 => lv_ior hx hb d (k ls H locs cells slots g1 g2 h1 h2 h3 h4)
theorem sm_ixor {cl : List vw_C} {X : sm_X} {cc : ByteArray} {n : Nat} {own : String} {Ts : List Cond} {ret : Option FieldType} {rm : Room} {N S : Nat} {ini : Bool} (hX : sm_ok cl X cc n own Ts ret rm N S ini) {pc : Nat} {L : List (Option Value)} {r : List Value} {ad : Nat → Nat} {sh : sm_S} {μ : sm_M} {x y : Int32} (d : decode cc pc = .ok (.ixor, 1)) (k : sm_E cl X (pc + 1) L (.int (x ^^^ y) :: r) ad sh μ) : sm_E cl X pc L (.int y :: .int x :: r) ad sh μ := by
  obtain ⟨⟨l, D, cA, NW⟩, pr, e, R, s, m, args, below, meth, c, nL, A, H0, Q, n0, s0⟩ := X
  obtain ⟨hx, hb, hml, hn, hown, hts, hK, hlk, hrt, hR, hA, hc0, hs0, hin, hnw⟩ := hX
  exact fun ls H locs cells slots g1 g2 h1 h2 h3 h4 => lv_ixor hx hb d (k ls H locs cells slots g1 g2 h1 h2 h3 h4)
theorem sm_ladd {cl : List vw_C} {X : sm_X} {cc : ByteArray} {n : Nat} {own : String} {Ts : List Cond} {ret : Option FieldType} {rm : Room} {N S : Nat} {ini : Bool} (hX : sm_ok cl X cc n own Ts ret rm N S ini) {pc : Nat} {L : List (Option Value)} {r : List Value} {ad : Nat → Nat} {sh : sm_S} {μ : sm_M} {x y : Int64} (d : decode cc pc = .ok (.ladd, 1)) (k : sm_E cl X (pc + 1) L (.long (x + y) :: r) ad sh μ) : sm_E cl X pc L (.long y :: .long x :: r) ad sh μ := by
  obtain ⟨⟨l, D, cA, NW⟩, pr, e, R, s, m, args, below, meth, c, nL, A, H0, Q, n0, s0⟩ := X
  obtain ⟨hx, hb, hml, hn, hown, hts, hK, hlk, hrt, hR, hA, hc0, hs0, hin, hnw⟩ := hX
  exact fun ls H locs cells slots g1 g2 h1 h2 h3 h4 => lv_ladd hx hb d (k ls H locs cells slots g1 g2 h1 h2 h3 h4)
theorem sm_lsub {cl : List vw_C} {X : sm_X} {cc : ByteArray} {n : Nat} {own : String} {Ts : List Cond} {ret : Option FieldType} {rm : Room} {N S : Nat} {ini : Bool} (hX : sm_ok cl X cc n own Ts ret rm N S ini) {pc : Nat} {L : List (Option Value)} {r : List Value} {ad : Nat → Nat} {sh : sm_S} {μ : sm_M} {x y : Int64} (d : decode cc pc = .ok (.lsub, 1)) (k : sm_E cl X (pc + 1) L (.long (x - y) :: r) ad sh μ) : sm_E cl X pc L (.long y :: .long x :: r) ad sh μ := by
  obtain ⟨⟨l, D, cA, NW⟩, pr, e, R, s, m, args, below, meth, c, nL, A, H0, Q, n0, s0⟩ := X
  obtain ⟨hx, hb, hml, hn, hown, hts, hK, hlk, hrt, hR, hA, hc0, hs0, hin, hnw⟩ := hX
  exact fun ls H locs cells slots g1 g2 h1 h2 h3 h4 => lv_lsub hx hb d (k ls H locs cells slots g1 g2 h1 h2 h3 h4)
theorem sm_lmul {cl : List vw_C} {X : sm_X} {cc : ByteArray} {n : Nat} {own : String} {Ts : List Cond} {ret : Option FieldType} {rm : Room} {N S : Nat} {ini : Bool} (hX : sm_ok cl X cc n own Ts ret rm N S ini) {pc : Nat} {L : List (Option Value)} {r : List Value} {ad : Nat → Nat} {sh : sm_S} {μ : sm_M} {x y : Int64} (d : decode cc pc = .ok (.lmul, 1)) (k : sm_E cl X (pc + 1) L (.long (x * y) :: r) ad sh μ) : sm_E cl X pc L (.long y :: .long x :: r) ad sh μ := by
  obtain ⟨⟨l, D, cA, NW⟩, pr, e, R, s, m, args, below, meth, c, nL, A, H0, Q, n0, s0⟩ := X
  obtain ⟨hx, hb, hml, hn, hown, hts, hK, hlk, hrt, hR, hA, hc0, hs0, hin, hnw⟩ := hX
  exact fun ls H locs cells slots g1 g2 h1 h2 h3 h4 => lv_lmul hx hb d (k ls H locs cells slots g1 g2 h1 h2 h3 h4)
theorem sm_land {cl : List vw_C} {X : sm_X} {cc : ByteArray} {n : Nat} {own : String} {Ts : List Cond} {ret : Option FieldType} {rm : Room} {N S : Nat} {ini : Bool} (hX : sm_ok cl X cc n own Ts ret rm N S ini) {pc : Nat} {L : List (Option Value)} {r : List Value} {ad : Nat → Nat} {sh : sm_S} {μ : sm_M} {x y : Int64} (d : decode cc pc = .ok (.land, 1)) (k : sm_E cl X (pc + 1) L (.long (x &&& y) :: r) ad sh μ) : sm_E cl X pc L (.long y :: .long x :: r) ad sh μ := by
  obtain ⟨⟨l, D, cA, NW⟩, pr, e, R, s, m, args, below, meth, c, nL, A, H0, Q, n0, s0⟩ := X
  obtain ⟨hx, hb, hml, hn, hown, hts, hK, hlk, hrt, hR, hA, hc0, hs0, hin, hnw⟩ := hX
  exact fun ls H locs cells slots g1 g2 h1 h2 h3 h4 => lv_land hx hb d (k ls H locs cells slots g1 g2 h1 h2 h3 h4)
theorem sm_lor {cl : List vw_C} {X : sm_X} {cc : ByteArray} {n : Nat} {own : String} {Ts : List Cond} {ret : Option FieldType} {rm : Room} {N S : Nat} {ini : Bool} (hX : sm_ok cl X cc n own Ts ret rm N S ini) {pc : Nat} {L : List (Option Value)} {r : List Value} {ad : Nat → Nat} {sh : sm_S} {μ : sm_M} {x y : Int64} (d : decode cc pc = .ok (.lor, 1)) (k : sm_E cl X (pc + 1) L (.long (x ||| y) :: r) ad sh μ) : sm_E cl X pc L (.long y :: .long x :: r) ad sh μ := by
  obtain ⟨⟨l, D, cA, NW⟩, pr, e, R, s, m, args, below, meth, c, nL, A, H0, Q, n0, s0⟩ := X
  obtain ⟨hx, hb, hml, hn, hown, hts, hK, hlk, hrt, hR, hA, hc0, hs0, hin, hnw⟩ := hX
  exact fun ls H locs cells slots g1 g2 h1 h2 h3 h4 => lv_lor hx hb d (k ls H locs cells slots g1 g2 h1 h2 h3 h4)
theorem sm_lxor {cl : List vw_C} {X : sm_X} {cc : ByteArray} {n : Nat} {own : String} {Ts : List Cond} {ret : Option FieldType} {rm : Room} {N S : Nat} {ini : Bool} (hX : sm_ok cl X cc n own Ts ret rm N S ini) {pc : Nat} {L : List (Option Value)} {r : List Value} {ad : Nat → Nat} {sh : sm_S} {μ : sm_M} {x y : Int64} (d : decode cc pc = .ok (.lxor, 1)) (k : sm_E cl X (pc + 1) L (.long (x ^^^ y) :: r) ad sh μ) : sm_E cl X pc L (.long y :: .long x :: r) ad sh μ := by
  obtain ⟨⟨l, D, cA, NW⟩, pr, e, R, s, m, args, below, meth, c, nL, A, H0, Q, n0, s0⟩ := X
  obtain ⟨hx, hb, hml, hn, hown, hts, hK, hlk, hrt, hR, hA, hc0, hs0, hin, hnw⟩ := hX
  exact fun ls H locs cells slots g1 g2 h1 h2 h3 h4 => lv_lxor hx hb d (k ls H locs cells slots g1 g2 h1 h2 h3 h4)
theorem sm_idiv {cl : List vw_C} {X : sm_X} {cc : ByteArray} {n : Nat} {own : String} {Ts : List Cond} {ret : Option FieldType} {rm : Room} {N S : Nat} {ini : Bool} (hX : sm_ok cl X cc n own Ts ret rm N S ini) {pc : Nat} {L : List (Option Value)} {r : List Value} {ad : Nat → Nat} {sh : sm_S} {μ : sm_M} {x y : Int32} (d : decode cc pc = .ok (.idiv, 1)) (hne : ¬ y = 0) (k : sm_E cl X (pc + 1) L (.int (x / y) :: r) ad sh μ) : sm_E cl X pc L (.int y :: .int x :: r) ad sh μ := by
  obtain ⟨⟨l, D, cA, NW⟩, pr, e, R, s, m, args, below, meth, c, nL, A, H0, Q, n0, s0⟩ := X
  obtain ⟨hx, hb, hml, hn, hown, hts, hK, hlk, hrt, hR, hA, hc0, hs0, hin, hnw⟩ := hX
  exact fun ls H locs cells slots g1 g2 h1 h2 h3 h4 => lv_idiv hx hb d hne (k ls H locs cells slots g1 g2 h1 h2 h3 h4)
theorem sm_irem {cl : List vw_C} {X : sm_X} {cc : ByteArray} {n : Nat} {own : String} {Ts : List Cond} {ret : Option FieldType} {rm : Room} {N S : Nat} {ini : Bool} (hX : sm_ok cl X cc n own Ts ret rm N S ini) {pc : Nat} {L : List (Option Value)} {r : List Value} {ad : Nat → Nat} {sh : sm_S} {μ : sm_M} {x y : Int32} (d : decode cc pc = .ok (.irem, 1)) (hne : ¬ y = 0) (k : sm_E cl X (pc + 1) L (.int (x - x / y * y) :: r) ad sh μ) : sm_E cl X pc L (.int y :: .int x :: r) ad sh μ := by
  obtain ⟨⟨l, D, cA, NW⟩, pr, e, R, s, m, args, below, meth, c, nL, A, H0, Q, n0, s0⟩ := X
  obtain ⟨hx, hb, hml, hn, hown, hts, hK, hlk, hrt, hR, hA, hc0, hs0, hin, hnw⟩ := hX
  exact fun ls H locs cells slots g1 g2 h1 h2 h3 h4 => lv_irem hx hb d hne (k ls H locs cells slots g1 g2 h1 h2 h3 h4)
theorem sm_ineg {cl : List vw_C} {X : sm_X} {cc : ByteArray} {n : Nat} {own : String} {Ts : List Cond} {ret : Option FieldType} {rm : Room} {N S : Nat} {ini : Bool} (hX : sm_ok cl X cc n own Ts ret rm N S ini) {pc : Nat} {L : List (Option Value)} {r : List Value} {ad : Nat → Nat} {sh : sm_S} {μ : sm_M} {x : Int32} (d : decode cc pc = .ok (.ineg, 1)) (k : sm_E cl X (pc + 1) L (.int (-x) :: r) ad sh μ) : sm_E cl X pc L (.int x :: r) ad sh μ := by
  obtain ⟨⟨l, D, cA, NW⟩, pr, e, R, s, m, args, below, meth, c, nL, A, H0, Q, n0, s0⟩ := X
  obtain ⟨hx, hb, hml, hn, hown, hts, hK, hlk, hrt, hR, hA, hc0, hs0, hin, hnw⟩ := hX
  exact fun ls H locs cells slots g1 g2 h1 h2 h3 h4 => lv_ineg hx hb d (k ls H locs cells slots g1 g2 h1 h2 h3 h4)
theorem sm_iconst {cl : List vw_C} {X : sm_X} {cc : ByteArray} {n : Nat} {own : String} {Ts : List Cond} {ret : Option FieldType} {rm : Room} {N S : Nat} {ini : Bool} (hX : sm_ok cl X cc n own Ts ret rm N S ini) {pc : Nat} {L : List (Option Value)} {r : List Value} {ad : Nat → Nat} {sh : sm_S} {μ : sm_M} {i : Int} (d : decode cc pc = .ok (.iconst i, 1)) (k : sm_E cl X (pc + 1) L (.int (Int32.ofInt i) :: r) ad sh μ) : sm_E cl X pc L (r) ad sh μ := by
  obtain ⟨⟨l, D, cA, NW⟩, pr, e, R, s, m, args, below, meth, c, nL, A, H0, Q, n0, s0⟩ := X
  obtain ⟨hx, hb, hml, hn, hown, hts, hK, hlk, hrt, hR, hA, hc0, hs0, hin, hnw⟩ := hX
  exact fun ls H locs cells slots g1 g2 h1 h2 h3 h4 => lv_iconst hx hb d rfl (k ls H locs cells slots g1 g2 h1 h2 h3 h4)
theorem sm_bipush {cl : List vw_C} {X : sm_X} {cc : ByteArray} {n : Nat} {own : String} {Ts : List Cond} {ret : Option FieldType} {rm : Room} {N S : Nat} {ini : Bool} (hX : sm_ok cl X cc n own Ts ret rm N S ini) {pc : Nat} {L : List (Option Value)} {r : List Value} {ad : Nat → Nat} {sh : sm_S} {μ : sm_M} {i : Int} (d : decode cc pc = .ok (.bipush i, 2)) (k : sm_E cl X (pc + 2) L (.int (Int8.ofInt i).toInt32 :: r) ad sh μ) : sm_E cl X pc L (r) ad sh μ := by
  obtain ⟨⟨l, D, cA, NW⟩, pr, e, R, s, m, args, below, meth, c, nL, A, H0, Q, n0, s0⟩ := X
  obtain ⟨hx, hb, hml, hn, hown, hts, hK, hlk, hrt, hR, hA, hc0, hs0, hin, hnw⟩ := hX
  exact fun ls H locs cells slots g1 g2 h1 h2 h3 h4 => lv_bipush hx hb d rfl (k ls H locs cells slots g1 g2 h1 h2 h3 h4)
theorem sm_sipush {cl : List vw_C} {X : sm_X} {cc : ByteArray} {n : Nat} {own : String} {Ts : List Cond} {ret : Option FieldType} {rm : Room} {N S : Nat} {ini : Bool} (hX : sm_ok cl X cc n own Ts ret rm N S ini) {pc : Nat} {L : List (Option Value)} {r : List Value} {ad : Nat → Nat} {sh : sm_S} {μ : sm_M} {i : Int} (d : decode cc pc = .ok (.sipush i, 3)) (k : sm_E cl X (pc + 3) L (.int (Int16.ofInt i).toInt32 :: r) ad sh μ) : sm_E cl X pc L (r) ad sh μ := by
  obtain ⟨⟨l, D, cA, NW⟩, pr, e, R, s, m, args, below, meth, c, nL, A, H0, Q, n0, s0⟩ := X
  obtain ⟨hx, hb, hml, hn, hown, hts, hK, hlk, hrt, hR, hA, hc0, hs0, hin, hnw⟩ := hX
  exact fun ls H locs cells slots g1 g2 h1 h2 h3 h4 => lv_sipush hx hb d rfl (k ls H locs cells slots g1 g2 h1 h2 h3 h4)
theorem sm_lconst {cl : List vw_C} {X : sm_X} {cc : ByteArray} {n : Nat} {own : String} {Ts : List Cond} {ret : Option FieldType} {rm : Room} {N S : Nat} {ini : Bool} (hX : sm_ok cl X cc n own Ts ret rm N S ini) {pc : Nat} {L : List (Option Value)} {r : List Value} {ad : Nat → Nat} {sh : sm_S} {μ : sm_M} {i : Fin 2} (d : decode cc pc = .ok (.lconst i, 1)) (k : sm_E cl X (pc + 1) L (.long (Int64.ofNat (i : Nat)) :: r) ad sh μ) : sm_E cl X pc L (r) ad sh μ := by
  obtain ⟨⟨l, D, cA, NW⟩, pr, e, R, s, m, args, below, meth, c, nL, A, H0, Q, n0, s0⟩ := X
  obtain ⟨hx, hb, hml, hn, hown, hts, hK, hlk, hrt, hR, hA, hc0, hs0, hin, hnw⟩ := hX
  exact fun ls H locs cells slots g1 g2 h1 h2 h3 h4 => lv_lconst hx hb d rfl (k ls H locs cells slots g1 g2 h1 h2 h3 h4)
theorem sm_ldc {cl : List vw_C} {X : sm_X} {cc : ByteArray} {n : Nat} {own : String} {Ts : List Cond} {ret : Option FieldType} {rm : Room} {N S : Nat} {ini : Bool} (hX : sm_ok cl X cc n own Ts ret rm N S ini) {pc : Nat} {L : List (Option Value)} {r : List Value} {ad : Nat → Nat} {sh : sm_S} {μ : sm_M} {idx : Nat} {v : Int32} (d : decode cc pc = .ok (.ldc idx, 2)) (hc : Jvm.Cond.constant own idx v ∈ Ts) (k : sm_E cl X (pc + 2) L (.int v :: r) ad sh μ) : sm_E cl X pc L (r) ad sh μ := by
  obtain ⟨⟨l, D, cA, NW⟩, pr, e, R, s, m, args, below, meth, c, nL, A, H0, Q, n0, s0⟩ := X
  obtain ⟨hx, hb, hml, hn, hown, hts, hK, hlk, hrt, hR, hA, hc0, hs0, hin, hnw⟩ := hX
  exact fun ls H locs cells slots g1 g2 h1 h2 h3 h4 => lv_ldc hx hb hown (hts _ hc) d (k ls H locs cells slots g1 g2 h1 h2 h3 h4)
theorem sm_ldc2 {cl : List vw_C} {X : sm_X} {cc : ByteArray} {n : Nat} {own : String} {Ts : List Cond} {ret : Option FieldType} {rm : Room} {N S : Nat} {ini : Bool} (hX : sm_ok cl X cc n own Ts ret rm N S ini) {pc : Nat} {L : List (Option Value)} {r : List Value} {ad : Nat → Nat} {sh : sm_S} {μ : sm_M} {idx : Nat} {v : Int64} (d : decode cc pc = .ok (.ldc2_w idx, 3)) (hc : Jvm.Cond.constantLong own idx v ∈ Ts) (k : sm_E cl X (pc + 3) L (.long v :: r) ad sh μ) : sm_E cl X pc L (r) ad sh μ := by
  obtain ⟨⟨l, D, cA, NW⟩, pr, e, R, s, m, args, below, meth, c, nL, A, H0, Q, n0, s0⟩ := X
  obtain ⟨hx, hb, hml, hn, hown, hts, hK, hlk, hrt, hR, hA, hc0, hs0, hin, hnw⟩ := hX
  exact fun ls H locs cells slots g1 g2 h1 h2 h3 h4 => lv_ldc2 hx hb hown (hts _ hc) d (k ls H locs cells slots g1 g2 h1 h2 h3 h4)
theorem sm_i2l {cl : List vw_C} {X : sm_X} {cc : ByteArray} {n : Nat} {own : String} {Ts : List Cond} {ret : Option FieldType} {rm : Room} {N S : Nat} {ini : Bool} (hX : sm_ok cl X cc n own Ts ret rm N S ini) {pc : Nat} {L : List (Option Value)} {r : List Value} {ad : Nat → Nat} {sh : sm_S} {μ : sm_M} {x : Int32} (d : decode cc pc = .ok (.i2l, 1)) (k : sm_E cl X (pc + 1) L (.long x.toInt64 :: r) ad sh μ) : sm_E cl X pc L (.int x :: r) ad sh μ := by
  obtain ⟨⟨l, D, cA, NW⟩, pr, e, R, s, m, args, below, meth, c, nL, A, H0, Q, n0, s0⟩ := X
  obtain ⟨hx, hb, hml, hn, hown, hts, hK, hlk, hrt, hR, hA, hc0, hs0, hin, hnw⟩ := hX
  exact fun ls H locs cells slots g1 g2 h1 h2 h3 h4 => lv_i2l hx hb d rfl (k ls H locs cells slots g1 g2 h1 h2 h3 h4)
theorem sm_l2i {cl : List vw_C} {X : sm_X} {cc : ByteArray} {n : Nat} {own : String} {Ts : List Cond} {ret : Option FieldType} {rm : Room} {N S : Nat} {ini : Bool} (hX : sm_ok cl X cc n own Ts ret rm N S ini) {pc : Nat} {L : List (Option Value)} {r : List Value} {ad : Nat → Nat} {sh : sm_S} {μ : sm_M} {x : Int64} (d : decode cc pc = .ok (.l2i, 1)) (k : sm_E cl X (pc + 1) L (.int x.toInt32 :: r) ad sh μ) : sm_E cl X pc L (.long x :: r) ad sh μ := by
  obtain ⟨⟨l, D, cA, NW⟩, pr, e, R, s, m, args, below, meth, c, nL, A, H0, Q, n0, s0⟩ := X
  obtain ⟨hx, hb, hml, hn, hown, hts, hK, hlk, hrt, hR, hA, hc0, hs0, hin, hnw⟩ := hX
  exact fun ls H locs cells slots g1 g2 h1 h2 h3 h4 => lv_l2i hx hb d rfl (k ls H locs cells slots g1 g2 h1 h2 h3 h4)
theorem sm_iushr {cl : List vw_C} {X : sm_X} {cc : ByteArray} {n : Nat} {own : String} {Ts : List Cond} {ret : Option FieldType} {rm : Room} {N S : Nat} {ini : Bool} (hX : sm_ok cl X cc n own Ts ret rm N S ini) {pc : Nat} {L : List (Option Value)} {r : List Value} {ad : Nat → Nat} {sh : sm_S} {μ : sm_M} {x y : Int32} (d : decode cc pc = .ok (.iushr, 1)) (k : sm_E cl X (pc + 1) L (.int (x.toUInt32 >>> (y.toUInt32 &&& Int32.toUInt32 31)).toInt32 :: r) ad sh μ) : sm_E cl X pc L (.int y :: .int x :: r) ad sh μ := by
  obtain ⟨⟨l, D, cA, NW⟩, pr, e, R, s, m, args, below, meth, c, nL, A, H0, Q, n0, s0⟩ := X
  obtain ⟨hx, hb, hml, hn, hown, hts, hK, hlk, hrt, hR, hA, hc0, hs0, hin, hnw⟩ := hX
  exact fun ls H locs cells slots g1 g2 h1 h2 h3 h4 => lv_iushr hx hb d rfl (k ls H locs cells slots g1 g2 h1 h2 h3 h4)
theorem sm_lushr {cl : List vw_C} {X : sm_X} {cc : ByteArray} {n : Nat} {own : String} {Ts : List Cond} {ret : Option FieldType} {rm : Room} {N S : Nat} {ini : Bool} (hX : sm_ok cl X cc n own Ts ret rm N S ini) {pc : Nat} {L : List (Option Value)} {r : List Value} {ad : Nat → Nat} {sh : sm_S} {μ : sm_M} {x : Int64} {y : Int32} (d : decode cc pc = .ok (.lushr, 1)) (k : sm_E cl X (pc + 1) L (.long (x.toUInt64 >>> (y.toInt64.toUInt64 &&& Int64.toUInt64 63)).toInt64 :: r) ad sh μ) : sm_E cl X pc L (.int y :: .long x :: r) ad sh μ := by
  obtain ⟨⟨l, D, cA, NW⟩, pr, e, R, s, m, args, below, meth, c, nL, A, H0, Q, n0, s0⟩ := X
  obtain ⟨hx, hb, hml, hn, hown, hts, hK, hlk, hrt, hR, hA, hc0, hs0, hin, hnw⟩ := hX
  exact fun ls H locs cells slots g1 g2 h1 h2 h3 h4 => lv_lushr hx hb d rfl (k ls H locs cells slots g1 g2 h1 h2 h3 h4)
theorem sm_lshl {cl : List vw_C} {X : sm_X} {cc : ByteArray} {n : Nat} {own : String} {Ts : List Cond} {ret : Option FieldType} {rm : Room} {N S : Nat} {ini : Bool} (hX : sm_ok cl X cc n own Ts ret rm N S ini) {pc : Nat} {L : List (Option Value)} {r : List Value} {ad : Nat → Nat} {sh : sm_S} {μ : sm_M} {x : Int64} {y : Int32} (d : decode cc pc = .ok (.lshl, 1)) (k : sm_E cl X (pc + 1) L (.long (x <<< (y.toInt64 &&& 63)) :: r) ad sh μ) : sm_E cl X pc L (.int y :: .long x :: r) ad sh μ := by
  obtain ⟨⟨l, D, cA, NW⟩, pr, e, R, s, m, args, below, meth, c, nL, A, H0, Q, n0, s0⟩ := X
  obtain ⟨hx, hb, hml, hn, hown, hts, hK, hlk, hrt, hR, hA, hc0, hs0, hin, hnw⟩ := hX
  exact fun ls H locs cells slots g1 g2 h1 h2 h3 h4 => lv_lshl hx hb d rfl (k ls H locs cells slots g1 g2 h1 h2 h3 h4)
theorem sm_lshr {cl : List vw_C} {X : sm_X} {cc : ByteArray} {n : Nat} {own : String} {Ts : List Cond} {ret : Option FieldType} {rm : Room} {N S : Nat} {ini : Bool} (hX : sm_ok cl X cc n own Ts ret rm N S ini) {pc : Nat} {L : List (Option Value)} {r : List Value} {ad : Nat → Nat} {sh : sm_S} {μ : sm_M} {x : Int64} {y : Int32} (d : decode cc pc = .ok (.lshr, 1)) (k : sm_E cl X (pc + 1) L (.long (x >>> (y.toInt64 &&& 63)) :: r) ad sh μ) : sm_E cl X pc L (.int y :: .long x :: r) ad sh μ := by
  obtain ⟨⟨l, D, cA, NW⟩, pr, e, R, s, m, args, below, meth, c, nL, A, H0, Q, n0, s0⟩ := X
  obtain ⟨hx, hb, hml, hn, hown, hts, hK, hlk, hrt, hR, hA, hc0, hs0, hin, hnw⟩ := hX
  exact fun ls H locs cells slots g1 g2 h1 h2 h3 h4 => lv_lshr hx hb d rfl (k ls H locs cells slots g1 g2 h1 h2 h3 h4)
theorem sm_ishl {cl : List vw_C} {X : sm_X} {cc : ByteArray} {n : Nat} {own : String} {Ts : List Cond} {ret : Option FieldType} {rm : Room} {N S : Nat} {ini : Bool} (hX : sm_ok cl X cc n own Ts ret rm N S ini) {pc : Nat} {L : List (Option Value)} {r : List Value} {ad : Nat → Nat} {sh : sm_S} {μ : sm_M} {x y : Int32} (d : decode cc pc = .ok (.ishl, 1)) (k : sm_E cl X (pc + 1) L (.int (x <<< (y &&& 31)) :: r) ad sh μ) : sm_E cl X pc L (.int y :: .int x :: r) ad sh μ := by
  obtain ⟨⟨l, D, cA, NW⟩, pr, e, R, s, m, args, below, meth, c, nL, A, H0, Q, n0, s0⟩ := X
  obtain ⟨hx, hb, hml, hn, hown, hts, hK, hlk, hrt, hR, hA, hc0, hs0, hin, hnw⟩ := hX
  exact fun ls H locs cells slots g1 g2 h1 h2 h3 h4 => lv_ishl hx hb d (k ls H locs cells slots g1 g2 h1 h2 h3 h4)
theorem sm_ishr {cl : List vw_C} {X : sm_X} {cc : ByteArray} {n : Nat} {own : String} {Ts : List Cond} {ret : Option FieldType} {rm : Room} {N S : Nat} {ini : Bool} (hX : sm_ok cl X cc n own Ts ret rm N S ini) {pc : Nat} {L : List (Option Value)} {r : List Value} {ad : Nat → Nat} {sh : sm_S} {μ : sm_M} {x y : Int32} (d : decode cc pc = .ok (.ishr, 1)) (k : sm_E cl X (pc + 1) L (.int (x >>> (y &&& 31)) :: r) ad sh μ) : sm_E cl X pc L (.int y :: .int x :: r) ad sh μ := by
  obtain ⟨⟨l, D, cA, NW⟩, pr, e, R, s, m, args, below, meth, c, nL, A, H0, Q, n0, s0⟩ := X
  obtain ⟨hx, hb, hml, hn, hown, hts, hK, hlk, hrt, hR, hA, hc0, hs0, hin, hnw⟩ := hX
  exact fun ls H locs cells slots g1 g2 h1 h2 h3 h4 => lv_ishr hx hb d (k ls H locs cells slots g1 g2 h1 h2 h3 h4)
theorem sm_lcmp {cl : List vw_C} {X : sm_X} {cc : ByteArray} {n : Nat} {own : String} {Ts : List Cond} {ret : Option FieldType} {rm : Room} {N S : Nat} {ini : Bool} (hX : sm_ok cl X cc n own Ts ret rm N S ini) {pc : Nat} {L : List (Option Value)} {r : List Value} {ad : Nat → Nat} {sh : sm_S} {μ : sm_M} {x y : Int64} (d : decode cc pc = .ok (.lcmp, 1)) (k : sm_E cl X (pc + 1) L (.int (lg_cmp x y) :: r) ad sh μ) : sm_E cl X pc L (.long y :: .long x :: r) ad sh μ := by
  obtain ⟨⟨l, D, cA, NW⟩, pr, e, R, s, m, args, below, meth, c, nL, A, H0, Q, n0, s0⟩ := X
  obtain ⟨hx, hb, hml, hn, hown, hts, hK, hlk, hrt, hR, hA, hc0, hs0, hin, hnw⟩ := hX
  exact fun ls H locs cells slots g1 g2 h1 h2 h3 h4 => W.lcmp hx hb d (k ls H locs cells slots g1 g2 h1 h2 h3 h4)
theorem sm_dup {cl : List vw_C} {X : sm_X} {cc : ByteArray} {n : Nat} {own : String} {Ts : List Cond} {ret : Option FieldType} {rm : Room} {N S : Nat} {ini : Bool} (hX : sm_ok cl X cc n own Ts ret rm N S ini) {pc : Nat} {L : List (Option Value)} {r : List Value} {ad : Nat → Nat} {sh : sm_S} {μ : sm_M} {a : Value} (d : decode cc pc = .ok (.dup, 1)) (h : a.category = 1) (k : sm_E cl X (pc + 1) L (a :: a :: r) ad sh μ) : sm_E cl X pc L (a :: r) ad sh μ := by
  obtain ⟨⟨l, D, cA, NW⟩, pr, e, R, s, m, args, below, meth, c, nL, A, H0, Q, n0, s0⟩ := X
  obtain ⟨hx, hb, hml, hn, hown, hts, hK, hlk, hrt, hR, hA, hc0, hs0, hin, hnw⟩ := hX
  exact fun ls H locs cells slots g1 g2 h1 h2 h3 h4 => lv_dup hx hb d (by rw [sm_v_cat]; exact h) (k ls H locs cells slots g1 g2 h1 h2 h3 h4)
theorem sm_pop {cl : List vw_C} {X : sm_X} {cc : ByteArray} {n : Nat} {own : String} {Ts : List Cond} {ret : Option FieldType} {rm : Room} {N S : Nat} {ini : Bool} (hX : sm_ok cl X cc n own Ts ret rm N S ini) {pc : Nat} {L : List (Option Value)} {r : List Value} {ad : Nat → Nat} {sh : sm_S} {μ : sm_M} {a : Value} (d : decode cc pc = .ok (.pop, 1)) (h : a.category = 1) (k : sm_E cl X (pc + 1) L (r) ad sh μ) : sm_E cl X pc L (a :: r) ad sh μ := by
  obtain ⟨⟨l, D, cA, NW⟩, pr, e, R, s, m, args, below, meth, c, nL, A, H0, Q, n0, s0⟩ := X
  obtain ⟨hx, hb, hml, hn, hown, hts, hK, hlk, hrt, hR, hA, hc0, hs0, hin, hnw⟩ := hX
  exact fun ls H locs cells slots g1 g2 h1 h2 h3 h4 => lv_pop hx hb d (by rw [sm_v_cat]; exact h) (k ls H locs cells slots g1 g2 h1 h2 h3 h4)
theorem sm_dup_x1 {cl : List vw_C} {X : sm_X} {cc : ByteArray} {n : Nat} {own : String} {Ts : List Cond} {ret : Option FieldType} {rm : Room} {N S : Nat} {ini : Bool} (hX : sm_ok cl X cc n own Ts ret rm N S ini) {pc : Nat} {L : List (Option Value)} {r : List Value} {ad : Nat → Nat} {sh : sm_S} {μ : sm_M} {a b : Value} (d : decode cc pc = .ok (.dup_x1, 1)) (h : a.category = 1) (h' : b.category = 1) (k : sm_E cl X (pc + 1) L (a :: b :: a :: r) ad sh μ) : sm_E cl X pc L (a :: b :: r) ad sh μ := by
  obtain ⟨⟨l, D, cA, NW⟩, pr, e, R, s, m, args, below, meth, c, nL, A, H0, Q, n0, s0⟩ := X
  obtain ⟨hx, hb, hml, hn, hown, hts, hK, hlk, hrt, hR, hA, hc0, hs0, hin, hnw⟩ := hX
  exact fun ls H locs cells slots g1 g2 h1 h2 h3 h4 => lv_dup_x1 hx hb d (by rw [sm_v_cat]; exact h) (by rw [sm_v_cat]; exact h') (k ls H locs cells slots g1 g2 h1 h2 h3 h4)
theorem sm_dup2 {cl : List vw_C} {X : sm_X} {cc : ByteArray} {n : Nat} {own : String} {Ts : List Cond} {ret : Option FieldType} {rm : Room} {N S : Nat} {ini : Bool} (hX : sm_ok cl X cc n own Ts ret rm N S ini) {pc : Nat} {L : List (Option Value)} {r : List Value} {ad : Nat → Nat} {sh : sm_S} {μ : sm_M} {a b : Value} (d : decode cc pc = .ok (.dup2, 1)) (h : a.category = 1) (h' : b.category = 1) (k : sm_E cl X (pc + 1) L (a :: b :: a :: b :: r) ad sh μ) : sm_E cl X pc L (a :: b :: r) ad sh μ := by
  obtain ⟨⟨l, D, cA, NW⟩, pr, e, R, s, m, args, below, meth, c, nL, A, H0, Q, n0, s0⟩ := X
  obtain ⟨hx, hb, hml, hn, hown, hts, hK, hlk, hrt, hR, hA, hc0, hs0, hin, hnw⟩ := hX
  exact fun ls H locs cells slots g1 g2 h1 h2 h3 h4 => lv_dup2_11 hx hb d (by rw [sm_v_cat]; exact h) (by rw [sm_v_cat]; exact h') (k ls H locs cells slots g1 g2 h1 h2 h3 h4)
theorem sm_dup2L {cl : List vw_C} {X : sm_X} {cc : ByteArray} {n : Nat} {own : String} {Ts : List Cond} {ret : Option FieldType} {rm : Room} {N S : Nat} {ini : Bool} (hX : sm_ok cl X cc n own Ts ret rm N S ini) {pc : Nat} {L : List (Option Value)} {r : List Value} {ad : Nat → Nat} {sh : sm_S} {μ : sm_M} {a : Value} (d : decode cc pc = .ok (.dup2, 1)) (h : a.category = 2) (k : sm_E cl X (pc + 1) L (a :: a :: r) ad sh μ) : sm_E cl X pc L (a :: r) ad sh μ := by
  obtain ⟨⟨l, D, cA, NW⟩, pr, e, R, s, m, args, below, meth, c, nL, A, H0, Q, n0, s0⟩ := X
  obtain ⟨hx, hb, hml, hn, hown, hts, hK, hlk, hrt, hR, hA, hc0, hs0, hin, hnw⟩ := hX
  exact fun ls H locs cells slots g1 g2 h1 h2 h3 h4 => lv_dup2_2 hx hb d (by rw [sm_v_cat]; exact h) (k ls H locs cells slots g1 g2 h1 h2 h3 h4)
theorem sm_iloadG {cl : List vw_C} {X : sm_X} {cc : ByteArray} {n : Nat} {own : String} {Ts : List Cond} {ret : Option FieldType} {rm : Room} {N S : Nat} {ini : Bool} (hX : sm_ok cl X cc n own Ts ret rm N S ini) {pc : Nat} {L : List (Option Value)} {r : List Value} {ad : Nat → Nat} {sh : sm_S} {μ : sm_M} {i : Nat} {x : Int32} (d : decode cc pc = .ok (.iload i, 2)) (hl : L[i]? = some (some (.int x))) (k : sm_E cl X (pc + 2) L (.int x :: r) ad sh μ) : sm_E cl X pc L r ad sh μ := by
  obtain ⟨⟨l, D, cA, NW⟩, pr, e, R, s, m, args, below, meth, c, nL, A, H0, Q, n0, s0⟩ := X
  obtain ⟨hx, hb, hml, hn, hown, hts, hK, hlk, hrt, hR, hA, hc0, hs0, hin, hnw⟩ := hX
  exact fun ls H locs cells slots g1 g2 h1 h2 h3 h4 => lv_iload hx hb d (h1.2.2 _ _ hl) (k ls H locs cells slots g1 g2 h1 h2 h3 h4)
theorem sm_iloadN {cl : List vw_C} {X : sm_X} {cc : ByteArray} {n : Nat} {own : String} {Ts : List Cond} {ret : Option FieldType} {rm : Room} {N S : Nat} {ini : Bool} (hX : sm_ok cl X cc n own Ts ret rm N S ini) {pc : Nat} {L : List (Option Value)} {r : List Value} {ad : Nat → Nat} {sh : sm_S} {μ : sm_M} {i : Fin 4} {x : Int32} (d : decode cc pc = .ok (.iload_n i, 1)) (hl : L[(i : Nat)]? = some (some (.int x))) (k : sm_E cl X (pc + 1) L (.int x :: r) ad sh μ) : sm_E cl X pc L r ad sh μ := by
  obtain ⟨⟨l, D, cA, NW⟩, pr, e, R, s, m, args, below, meth, c, nL, A, H0, Q, n0, s0⟩ := X
  obtain ⟨hx, hb, hml, hn, hown, hts, hK, hlk, hrt, hR, hA, hc0, hs0, hin, hnw⟩ := hX
  exact fun ls H locs cells slots g1 g2 h1 h2 h3 h4 => lv_iload_n hx hb d rfl (h1.2.2 _ _ hl) (k ls H locs cells slots g1 g2 h1 h2 h3 h4)
theorem sm_istoreG {cl : List vw_C} {X : sm_X} {cc : ByteArray} {n : Nat} {own : String} {Ts : List Cond} {ret : Option FieldType} {rm : Room} {N S : Nat} {ini : Bool} (hX : sm_ok cl X cc n own Ts ret rm N S ini) {pc : Nat} {L : List (Option Value)} {r : List Value} {ad : Nat → Nat} {sh : sm_S} {μ : sm_M} {i : Nat} {x : Int32} (d : decode cc pc = .ok (.istore i, 2)) (ha : sm_ah L i = true) (hi : i < n) (k : sm_E cl X (pc + 2) (L.set i (some (.int x))) r ad sh μ) : sm_E cl X pc L (.int x :: r) ad sh μ := by
  obtain ⟨⟨l, D, cA, NW⟩, pr, e, R, s, m, args, below, meth, c, nL, A, H0, Q, n0, s0⟩ := X
  obtain ⟨hx, hb, hml, hn, hown, hts, hK, hlk, hrt, hR, hA, hc0, hs0, hin, hnw⟩ := hX
  subst hn
  exact fun ls H locs cells slots g1 g2 h1 h2 h3 h4 => lv_istore hx hb d h1.lv hi rfl (fun ls' h' => k ls' H locs cells slots g1 g2 (sm_has.st1 (v := .int x) ha h') h2 h3 h4)
theorem sm_istoreN {cl : List vw_C} {X : sm_X} {cc : ByteArray} {n : Nat} {own : String} {Ts : List Cond} {ret : Option FieldType} {rm : Room} {N S : Nat} {ini : Bool} (hX : sm_ok cl X cc n own Ts ret rm N S ini) {pc : Nat} {L : List (Option Value)} {r : List Value} {ad : Nat → Nat} {sh : sm_S} {μ : sm_M} {i : Fin 4} {x : Int32} (d : decode cc pc = .ok (.istore_n i, 1)) (ha : sm_ah L (i : Nat) = true) (hi : (i : Nat) < n) (k : sm_E cl X (pc + 1) (L.set (i : Nat) (some (.int x))) r ad sh μ) : sm_E cl X pc L (.int x :: r) ad sh μ := by
  obtain ⟨⟨l, D, cA, NW⟩, pr, e, R, s, m, args, below, meth, c, nL, A, H0, Q, n0, s0⟩ := X
  obtain ⟨hx, hb, hml, hn, hown, hts, hK, hlk, hrt, hR, hA, hc0, hs0, hin, hnw⟩ := hX
  subst hn
  exact fun ls H locs cells slots g1 g2 h1 h2 h3 h4 => lv_istore_n hx hb d rfl h1.lv hi rfl (fun ls' h' => k ls' H locs cells slots g1 g2 (sm_has.st1 (v := .int x) ha h') h2 h3 h4)
theorem sm_lloadG {cl : List vw_C} {X : sm_X} {cc : ByteArray} {n : Nat} {own : String} {Ts : List Cond} {ret : Option FieldType} {rm : Room} {N S : Nat} {ini : Bool} (hX : sm_ok cl X cc n own Ts ret rm N S ini) {pc : Nat} {L : List (Option Value)} {r : List Value} {ad : Nat → Nat} {sh : sm_S} {μ : sm_M} {i : Nat} {x : Int64} (d : decode cc pc = .ok (.lload i, 2)) (hl : L[i]? = some (some (.long x))) (k : sm_E cl X (pc + 2) L (.long x :: r) ad sh μ) : sm_E cl X pc L r ad sh μ := by
  obtain ⟨⟨l, D, cA, NW⟩, pr, e, R, s, m, args, below, meth, c, nL, A, H0, Q, n0, s0⟩ := X
  obtain ⟨hx, hb, hml, hn, hown, hts, hK, hlk, hrt, hR, hA, hc0, hs0, hin, hnw⟩ := hX
  exact fun ls H locs cells slots g1 g2 h1 h2 h3 h4 => lv_lload hx hb d (h1.2.2 _ _ hl) (k ls H locs cells slots g1 g2 h1 h2 h3 h4)
theorem sm_lloadN {cl : List vw_C} {X : sm_X} {cc : ByteArray} {n : Nat} {own : String} {Ts : List Cond} {ret : Option FieldType} {rm : Room} {N S : Nat} {ini : Bool} (hX : sm_ok cl X cc n own Ts ret rm N S ini) {pc : Nat} {L : List (Option Value)} {r : List Value} {ad : Nat → Nat} {sh : sm_S} {μ : sm_M} {i : Fin 4} {x : Int64} (d : decode cc pc = .ok (.lload_n i, 1)) (hl : L[(i : Nat)]? = some (some (.long x))) (k : sm_E cl X (pc + 1) L (.long x :: r) ad sh μ) : sm_E cl X pc L r ad sh μ := by
  obtain ⟨⟨l, D, cA, NW⟩, pr, e, R, s, m, args, below, meth, c, nL, A, H0, Q, n0, s0⟩ := X
  obtain ⟨hx, hb, hml, hn, hown, hts, hK, hlk, hrt, hR, hA, hc0, hs0, hin, hnw⟩ := hX
  exact fun ls H locs cells slots g1 g2 h1 h2 h3 h4 => lv_lload_n hx hb d rfl (h1.2.2 _ _ hl) (k ls H locs cells slots g1 g2 h1 h2 h3 h4)
theorem sm_lstoreG {cl : List vw_C} {X : sm_X} {cc : ByteArray} {n : Nat} {own : String} {Ts : List Cond} {ret : Option FieldType} {rm : Room} {N S : Nat} {ini : Bool} (hX : sm_ok cl X cc n own Ts ret rm N S ini) {pc : Nat} {L : List (Option Value)} {r : List Value} {ad : Nat → Nat} {sh : sm_S} {μ : sm_M} {i : Nat} {x : Int64} (d : decode cc pc = .ok (.lstore i, 2)) (ha : sm_ah L i = true) (hi : i + 1 < n) (k : sm_E cl X (pc + 2) ((L.set i (some (.long x))).set (i + 1) none) r ad sh μ) : sm_E cl X pc L (.long x :: r) ad sh μ := by
  obtain ⟨⟨l, D, cA, NW⟩, pr, e, R, s, m, args, below, meth, c, nL, A, H0, Q, n0, s0⟩ := X
  obtain ⟨hx, hb, hml, hn, hown, hts, hK, hlk, hrt, hR, hA, hc0, hs0, hin, hnw⟩ := hX
  subst hn
  exact fun ls H locs cells slots g1 g2 h1 h2 h3 h4 => lv_lstore hx hb d h1.lv hi rfl (fun ls' h' => k ls' H locs cells slots g1 g2 (sm_has.st2 (v := .long x) ha h') h2 h3 h4)
theorem sm_lstoreN {cl : List vw_C} {X : sm_X} {cc : ByteArray} {n : Nat} {own : String} {Ts : List Cond} {ret : Option FieldType} {rm : Room} {N S : Nat} {ini : Bool} (hX : sm_ok cl X cc n own Ts ret rm N S ini) {pc : Nat} {L : List (Option Value)} {r : List Value} {ad : Nat → Nat} {sh : sm_S} {μ : sm_M} {i : Fin 4} {x : Int64} (d : decode cc pc = .ok (.lstore_n i, 1)) (ha : sm_ah L (i : Nat) = true) (hi : (i : Nat) + 1 < n) (k : sm_E cl X (pc + 1) ((L.set (i : Nat) (some (.long x))).set ((i : Nat) + 1) none) r ad sh μ) : sm_E cl X pc L (.long x :: r) ad sh μ := by
  obtain ⟨⟨l, D, cA, NW⟩, pr, e, R, s, m, args, below, meth, c, nL, A, H0, Q, n0, s0⟩ := X
  obtain ⟨hx, hb, hml, hn, hown, hts, hK, hlk, hrt, hR, hA, hc0, hs0, hin, hnw⟩ := hX
  subst hn
  exact fun ls H locs cells slots g1 g2 h1 h2 h3 h4 => lv_lstore_n hx hb d rfl h1.lv hi rfl (fun ls' h' => k ls' H locs cells slots g1 g2 (sm_has.st2 (v := .long x) ha h') h2 h3 h4)
theorem sm_aloadG {cl : List vw_C} {X : sm_X} {cc : ByteArray} {n : Nat} {own : String} {Ts : List Cond} {ret : Option FieldType} {rm : Room} {N S : Nat} {ini : Bool} (hX : sm_ok cl X cc n own Ts ret rm N S ini) {pc : Nat} {L : List (Option Value)} {r : List Value} {ad : Nat → Nat} {sh : sm_S} {μ : sm_M} {i : Nat} {x : Nat} (d : decode cc pc = .ok (.aload i, 2)) (hl : L[i]? = some (some (.ref x))) (k : sm_E cl X (pc + 2) L (.ref x :: r) ad sh μ) : sm_E cl X pc L r ad sh μ := by
  obtain ⟨⟨l, D, cA, NW⟩, pr, e, R, s, m, args, below, meth, c, nL, A, H0, Q, n0, s0⟩ := X
  obtain ⟨hx, hb, hml, hn, hown, hts, hK, hlk, hrt, hR, hA, hc0, hs0, hin, hnw⟩ := hX
  exact fun ls H locs cells slots g1 g2 h1 h2 h3 h4 => lv_aload hx hb d (h1.2.2 _ _ hl) (k ls H locs cells slots g1 g2 h1 h2 h3 h4)
theorem sm_aloadN {cl : List vw_C} {X : sm_X} {cc : ByteArray} {n : Nat} {own : String} {Ts : List Cond} {ret : Option FieldType} {rm : Room} {N S : Nat} {ini : Bool} (hX : sm_ok cl X cc n own Ts ret rm N S ini) {pc : Nat} {L : List (Option Value)} {r : List Value} {ad : Nat → Nat} {sh : sm_S} {μ : sm_M} {i : Fin 4} {x : Nat} (d : decode cc pc = .ok (.aload_n i, 1)) (hl : L[(i : Nat)]? = some (some (.ref x))) (k : sm_E cl X (pc + 1) L (.ref x :: r) ad sh μ) : sm_E cl X pc L r ad sh μ := by
  obtain ⟨⟨l, D, cA, NW⟩, pr, e, R, s, m, args, below, meth, c, nL, A, H0, Q, n0, s0⟩ := X
  obtain ⟨hx, hb, hml, hn, hown, hts, hK, hlk, hrt, hR, hA, hc0, hs0, hin, hnw⟩ := hX
  exact fun ls H locs cells slots g1 g2 h1 h2 h3 h4 => lv_aload_n hx hb d rfl (h1.2.2 _ _ hl) (k ls H locs cells slots g1 g2 h1 h2 h3 h4)
theorem sm_astoreG {cl : List vw_C} {X : sm_X} {cc : ByteArray} {n : Nat} {own : String} {Ts : List Cond} {ret : Option FieldType} {rm : Room} {N S : Nat} {ini : Bool} (hX : sm_ok cl X cc n own Ts ret rm N S ini) {pc : Nat} {L : List (Option Value)} {r : List Value} {ad : Nat → Nat} {sh : sm_S} {μ : sm_M} {i : Nat} {x : Nat} (d : decode cc pc = .ok (.astore i, 2)) (ha : sm_ah L i = true) (hi : i < n) (k : sm_E cl X (pc + 2) (L.set i (some (.ref x))) r ad sh μ) : sm_E cl X pc L (.ref x :: r) ad sh μ := by
  obtain ⟨⟨l, D, cA, NW⟩, pr, e, R, s, m, args, below, meth, c, nL, A, H0, Q, n0, s0⟩ := X
  obtain ⟨hx, hb, hml, hn, hown, hts, hK, hlk, hrt, hR, hA, hc0, hs0, hin, hnw⟩ := hX
  subst hn
  exact fun ls H locs cells slots g1 g2 h1 h2 h3 h4 => lv_astore hx hb d h1.lv hi rfl (fun ls' h' => k ls' H locs cells slots g1 g2 (sm_has.st1 (v := .ref x) ha h') h2 h3 h4)
theorem sm_astoreN {cl : List vw_C} {X : sm_X} {cc : ByteArray} {n : Nat} {own : String} {Ts : List Cond} {ret : Option FieldType} {rm : Room} {N S : Nat} {ini : Bool} (hX : sm_ok cl X cc n own Ts ret rm N S ini) {pc : Nat} {L : List (Option Value)} {r : List Value} {ad : Nat → Nat} {sh : sm_S} {μ : sm_M} {i : Fin 4} {x : Nat} (d : decode cc pc = .ok (.astore_n i, 1)) (ha : sm_ah L (i : Nat) = true) (hi : (i : Nat) < n) (k : sm_E cl X (pc + 1) (L.set (i : Nat) (some (.ref x))) r ad sh μ) : sm_E cl X pc L (.ref x :: r) ad sh μ := by
  obtain ⟨⟨l, D, cA, NW⟩, pr, e, R, s, m, args, below, meth, c, nL, A, H0, Q, n0, s0⟩ := X
  obtain ⟨hx, hb, hml, hn, hown, hts, hK, hlk, hrt, hR, hA, hc0, hs0, hin, hnw⟩ := hX
  subst hn
  exact fun ls H locs cells slots g1 g2 h1 h2 h3 h4 => lv_astore_n hx hb d rfl h1.lv hi rfl (fun ls' h' => k ls' H locs cells slots g1 g2 (sm_has.st1 (v := .ref x) ha h') h2 h3 h4)
theorem sm_iincG {cl : List vw_C} {X : sm_X} {cc : ByteArray} {n : Nat} {own : String} {Ts : List Cond} {ret : Option FieldType} {rm : Room} {N S : Nat} {ini : Bool} (hX : sm_ok cl X cc n own Ts ret rm N S ini) {pc : Nat} {L : List (Option Value)} {r : List Value} {ad : Nat → Nat} {sh : sm_S} {μ : sm_M} {i : Nat} {z : Int} {x : Int32} (d : decode cc pc = .ok (.iinc i z, 3)) (hl : L[i]? = some (some (.int x))) (ha : sm_ah L i = true) (hi : i < n) (k : sm_E cl X (pc + 3) (L.set i (some (.int (x + Int32.ofInt z)))) r ad sh μ) : sm_E cl X pc L r ad sh μ := by
  obtain ⟨⟨l, D, cA, NW⟩, pr, e, R, s, m, args, below, meth, c, nL, A, H0, Q, n0, s0⟩ := X
  obtain ⟨hx, hb, hml, hn, hown, hts, hK, hlk, hrt, hR, hA, hc0, hs0, hin, hnw⟩ := hX
  subst hn
  intro ls H locs cells slots g1 g2 h1 h2 h3 h4
  obtain ⟨q, hq⟩ := List.getElem?_of_mem (sm_l_mem.mpr ⟨_, hl, rfl⟩ : (i, sm_v ad (.int x)) ∈ sm_l ad L)
  exact lv_iinc hx hb d h1.lv hq rfl hi rfl (fun ls' h' => k ls' H locs cells slots g1 g2 (sm_has.st1 (v := .int (x + Int32.ofInt z)) ha h') h2 h3 h4)
theorem sm_if_eq {cl : List vw_C} {X : sm_X} {cc : ByteArray} {n : Nat} {own : String} {Ts : List Cond} {ret : Option FieldType} {rm : Room} {N S : Nat} {ini : Bool} (hX : sm_ok cl X cc n own Ts ret rm N S ini) {pc : Nat} {L : List (Option Value)} {r : List Value} {ad : Nat → Nat} {sh : sm_S} {μ : sm_M} {x : Int32} {off : Int} (tgt : Nat) (d : decode cc pc = .ok (.ifCond .eq off, 3)) (ht : (pc : Int) + off = (tgt : Int)) (kt : x = 0 → sm_E cl X tgt L r ad sh μ) (kf : ¬ (x = 0) → sm_E cl X (pc + 3) L r ad sh μ) : sm_E cl X pc L (.int x :: r) ad sh μ := by
  obtain ⟨⟨l, D, cA, NW⟩, pr, e, R, s, m, args, below, meth, c, nL, A, H0, Q, n0, s0⟩ := X
  obtain ⟨hx, hb, hml, hn, hown, hts, hK, hlk, hrt, hR, hA, hc0, hs0, hin, hnw⟩ := hX
  exact fun ls H locs cells slots g1 g2 h1 h2 h3 h4 => lv_if_eq hx hb d ht (fun q => kt q ls H locs cells slots g1 g2 h1 h2 h3 h4) (fun q => kf q ls H locs cells slots g1 g2 h1 h2 h3 h4)
theorem sm_icmp_eq {cl : List vw_C} {X : sm_X} {cc : ByteArray} {n : Nat} {own : String} {Ts : List Cond} {ret : Option FieldType} {rm : Room} {N S : Nat} {ini : Bool} (hX : sm_ok cl X cc n own Ts ret rm N S ini) {pc : Nat} {L : List (Option Value)} {r : List Value} {ad : Nat → Nat} {sh : sm_S} {μ : sm_M} {x y : Int32} {off : Int} (tgt : Nat) (d : decode cc pc = .ok (.if_icmp .eq off, 3)) (ht : (pc : Int) + off = (tgt : Int)) (kt : x = y → sm_E cl X tgt L r ad sh μ) (kf : ¬ (x = y) → sm_E cl X (pc + 3) L r ad sh μ) : sm_E cl X pc L (.int y :: .int x :: r) ad sh μ := by
  obtain ⟨⟨l, D, cA, NW⟩, pr, e, R, s, m, args, below, meth, c, nL, A, H0, Q, n0, s0⟩ := X
  obtain ⟨hx, hb, hml, hn, hown, hts, hK, hlk, hrt, hR, hA, hc0, hs0, hin, hnw⟩ := hX
  exact fun ls H locs cells slots g1 g2 h1 h2 h3 h4 => lv_icmp_eq hx hb d ht (fun q => kt q ls H locs cells slots g1 g2 h1 h2 h3 h4) (fun q => kf q ls H locs cells slots g1 g2 h1 h2 h3 h4)
theorem sm_if_ne {cl : List vw_C} {X : sm_X} {cc : ByteArray} {n : Nat} {own : String} {Ts : List Cond} {ret : Option FieldType} {rm : Room} {N S : Nat} {ini : Bool} (hX : sm_ok cl X cc n own Ts ret rm N S ini) {pc : Nat} {L : List (Option Value)} {r : List Value} {ad : Nat → Nat} {sh : sm_S} {μ : sm_M} {x : Int32} {off : Int} (tgt : Nat) (d : decode cc pc = .ok (.ifCond .ne off, 3)) (ht : (pc : Int) + off = (tgt : Int)) (kt : ¬ x = 0 → sm_E cl X tgt L r ad sh μ) (kf : x = 0 → sm_E cl X (pc + 3) L r ad sh μ) : sm_E cl X pc L (.int x :: r) ad sh μ := by
  obtain ⟨⟨l, D, cA, NW⟩, pr, e, R, s, m, args, below, meth, c, nL, A, H0, Q, n0, s0⟩ := X
  obtain ⟨hx, hb, hml, hn, hown, hts, hK, hlk, hrt, hR, hA, hc0, hs0, hin, hnw⟩ := hX
  exact fun ls H locs cells slots g1 g2 h1 h2 h3 h4 => lv_if_ne hx hb d ht (fun q => kt q ls H locs cells slots g1 g2 h1 h2 h3 h4) (fun q => kf q ls H locs cells slots g1 g2 h1 h2 h3 h4)
theorem sm_icmp_ne {cl : List vw_C} {X : sm_X} {cc : ByteArray} {n : Nat} {own : String} {Ts : List Cond} {ret : Option FieldType} {rm : Room} {N S : Nat} {ini : Bool} (hX : sm_ok cl X cc n own Ts ret rm N S ini) {pc : Nat} {L : List (Option Value)} {r : List Value} {ad : Nat → Nat} {sh : sm_S} {μ : sm_M} {x y : Int32} {off : Int} (tgt : Nat) (d : decode cc pc = .ok (.if_icmp .ne off, 3)) (ht : (pc : Int) + off = (tgt : Int)) (kt : ¬ x = y → sm_E cl X tgt L r ad sh μ) (kf : x = y → sm_E cl X (pc + 3) L r ad sh μ) : sm_E cl X pc L (.int y :: .int x :: r) ad sh μ := by
  obtain ⟨⟨l, D, cA, NW⟩, pr, e, R, s, m, args, below, meth, c, nL, A, H0, Q, n0, s0⟩ := X
  obtain ⟨hx, hb, hml, hn, hown, hts, hK, hlk, hrt, hR, hA, hc0, hs0, hin, hnw⟩ := hX
  exact fun ls H locs cells slots g1 g2 h1 h2 h3 h4 => lv_icmp_ne hx hb d ht (fun q => kt q ls H locs cells slots g1 g2 h1 h2 h3 h4) (fun q => kf q ls H locs cells slots g1 g2 h1 h2 h3 h4)
theorem sm_if_lt {cl : List vw_C} {X : sm_X} {cc : ByteArray} {n : Nat} {own : String} {Ts : List Cond} {ret : Option FieldType} {rm : Room} {N S : Nat} {ini : Bool} (hX : sm_ok cl X cc n own Ts ret rm N S ini) {pc : Nat} {L : List (Option Value)} {r : List Value} {ad : Nat → Nat} {sh : sm_S} {μ : sm_M} {x : Int32} {off : Int} (tgt : Nat) (d : decode cc pc = .ok (.ifCond .lt off, 3)) (ht : (pc : Int) + off = (tgt : Int)) (kt : x < 0 → sm_E cl X tgt L r ad sh μ) (kf : ¬ (x < 0) → sm_E cl X (pc + 3) L r ad sh μ) : sm_E cl X pc L (.int x :: r) ad sh μ := by
  obtain ⟨⟨l, D, cA, NW⟩, pr, e, R, s, m, args, below, meth, c, nL, A, H0, Q, n0, s0⟩ := X
  obtain ⟨hx, hb, hml, hn, hown, hts, hK, hlk, hrt, hR, hA, hc0, hs0, hin, hnw⟩ := hX
  exact fun ls H locs cells slots g1 g2 h1 h2 h3 h4 => lv_if_lt hx hb d ht (fun q => kt q ls H locs cells slots g1 g2 h1 h2 h3 h4) (fun q => kf q ls H locs cells slots g1 g2 h1 h2 h3 h4)
theorem sm_icmp_lt {cl : List vw_C} {X : sm_X} {cc : ByteArray} {n : Nat} {own : String} {Ts : List Cond} {ret : Option FieldType} {rm : Room} {N S : Nat} {ini : Bool} (hX : sm_ok cl X cc n own Ts ret rm N S ini) {pc : Nat} {L : List (Option Value)} {r : List Value} {ad : Nat → Nat} {sh : sm_S} {μ : sm_M} {x y : Int32} {off : Int} (tgt : Nat) (d : decode cc pc = .ok (.if_icmp .lt off, 3)) (ht : (pc : Int) + off = (tgt : Int)) (kt : x < y → sm_E cl X tgt L r ad sh μ) (kf : ¬ (x < y) → sm_E cl X (pc + 3) L r ad sh μ) : sm_E cl X pc L (.int y :: .int x :: r) ad sh μ := by
  obtain ⟨⟨l, D, cA, NW⟩, pr, e, R, s, m, args, below, meth, c, nL, A, H0, Q, n0, s0⟩ := X
  obtain ⟨hx, hb, hml, hn, hown, hts, hK, hlk, hrt, hR, hA, hc0, hs0, hin, hnw⟩ := hX
  exact fun ls H locs cells slots g1 g2 h1 h2 h3 h4 => lv_icmp_lt hx hb d ht (fun q => kt q ls H locs cells slots g1 g2 h1 h2 h3 h4) (fun q => kf q ls H locs cells slots g1 g2 h1 h2 h3 h4)
theorem sm_if_ge {cl : List vw_C} {X : sm_X} {cc : ByteArray} {n : Nat} {own : String} {Ts : List Cond} {ret : Option FieldType} {rm : Room} {N S : Nat} {ini : Bool} (hX : sm_ok cl X cc n own Ts ret rm N S ini) {pc : Nat} {L : List (Option Value)} {r : List Value} {ad : Nat → Nat} {sh : sm_S} {μ : sm_M} {x : Int32} {off : Int} (tgt : Nat) (d : decode cc pc = .ok (.ifCond .ge off, 3)) (ht : (pc : Int) + off = (tgt : Int)) (kt : 0 ≤ x → sm_E cl X tgt L r ad sh μ) (kf : ¬ (0 ≤ x) → sm_E cl X (pc + 3) L r ad sh μ) : sm_E cl X pc L (.int x :: r) ad sh μ := by
  obtain ⟨⟨l, D, cA, NW⟩, pr, e, R, s, m, args, below, meth, c, nL, A, H0, Q, n0, s0⟩ := X
  obtain ⟨hx, hb, hml, hn, hown, hts, hK, hlk, hrt, hR, hA, hc0, hs0, hin, hnw⟩ := hX
  exact fun ls H locs cells slots g1 g2 h1 h2 h3 h4 => lv_if_ge hx hb d ht (fun q => kt q ls H locs cells slots g1 g2 h1 h2 h3 h4) (fun q => kf q ls H locs cells slots g1 g2 h1 h2 h3 h4)
theorem sm_icmp_ge {cl : List vw_C} {X : sm_X} {cc : ByteArray} {n : Nat} {own : String} {Ts : List Cond} {ret : Option FieldType} {rm : Room} {N S : Nat} {ini : Bool} (hX : sm_ok cl X cc n own Ts ret rm N S ini) {pc : Nat} {L : List (Option Value)} {r : List Value} {ad : Nat → Nat} {sh : sm_S} {μ : sm_M} {x y : Int32} {off : Int} (tgt : Nat) (d : decode cc pc = .ok (.if_icmp .ge off, 3)) (ht : (pc : Int) + off = (tgt : Int)) (kt : y ≤ x → sm_E cl X tgt L r ad sh μ) (kf : ¬ (y ≤ x) → sm_E cl X (pc + 3) L r ad sh μ) : sm_E cl X pc L (.int y :: .int x :: r) ad sh μ := by
  obtain ⟨⟨l, D, cA, NW⟩, pr, e, R, s, m, args, below, meth, c, nL, A, H0, Q, n0, s0⟩ := X
  obtain ⟨hx, hb, hml, hn, hown, hts, hK, hlk, hrt, hR, hA, hc0, hs0, hin, hnw⟩ := hX
  exact fun ls H locs cells slots g1 g2 h1 h2 h3 h4 => lv_icmp_ge hx hb d ht (fun q => kt q ls H locs cells slots g1 g2 h1 h2 h3 h4) (fun q => kf q ls H locs cells slots g1 g2 h1 h2 h3 h4)
theorem sm_if_gt {cl : List vw_C} {X : sm_X} {cc : ByteArray} {n : Nat} {own : String} {Ts : List Cond} {ret : Option FieldType} {rm : Room} {N S : Nat} {ini : Bool} (hX : sm_ok cl X cc n own Ts ret rm N S ini) {pc : Nat} {L : List (Option Value)} {r : List Value} {ad : Nat → Nat} {sh : sm_S} {μ : sm_M} {x : Int32} {off : Int} (tgt : Nat) (d : decode cc pc = .ok (.ifCond .gt off, 3)) (ht : (pc : Int) + off = (tgt : Int)) (kt : 0 < x → sm_E cl X tgt L r ad sh μ) (kf : ¬ (0 < x) → sm_E cl X (pc + 3) L r ad sh μ) : sm_E cl X pc L (.int x :: r) ad sh μ := by
  obtain ⟨⟨l, D, cA, NW⟩, pr, e, R, s, m, args, below, meth, c, nL, A, H0, Q, n0, s0⟩ := X
  obtain ⟨hx, hb, hml, hn, hown, hts, hK, hlk, hrt, hR, hA, hc0, hs0, hin, hnw⟩ := hX
  exact fun ls H locs cells slots g1 g2 h1 h2 h3 h4 => lv_if_gt hx hb d ht (fun q => kt q ls H locs cells slots g1 g2 h1 h2 h3 h4) (fun q => kf q ls H locs cells slots g1 g2 h1 h2 h3 h4)
theorem sm_icmp_gt {cl : List vw_C} {X : sm_X} {cc : ByteArray} {n : Nat} {own : String} {Ts : List Cond} {ret : Option FieldType} {rm : Room} {N S : Nat} {ini : Bool} (hX : sm_ok cl X cc n own Ts ret rm N S ini) {pc : Nat} {L : List (Option Value)} {r : List Value} {ad : Nat → Nat} {sh : sm_S} {μ : sm_M} {x y : Int32} {off : Int} (tgt : Nat) (d : decode cc pc = .ok (.if_icmp .gt off, 3)) (ht : (pc : Int) + off = (tgt : Int)) (kt : y < x → sm_E cl X tgt L r ad sh μ) (kf : ¬ (y < x) → sm_E cl X (pc + 3) L r ad sh μ) : sm_E cl X pc L (.int y :: .int x :: r) ad sh μ := by
  obtain ⟨⟨l, D, cA, NW⟩, pr, e, R, s, m, args, below, meth, c, nL, A, H0, Q, n0, s0⟩ := X
  obtain ⟨hx, hb, hml, hn, hown, hts, hK, hlk, hrt, hR, hA, hc0, hs0, hin, hnw⟩ := hX
  exact fun ls H locs cells slots g1 g2 h1 h2 h3 h4 => lv_icmp_gt hx hb d ht (fun q => kt q ls H locs cells slots g1 g2 h1 h2 h3 h4) (fun q => kf q ls H locs cells slots g1 g2 h1 h2 h3 h4)
theorem sm_if_le {cl : List vw_C} {X : sm_X} {cc : ByteArray} {n : Nat} {own : String} {Ts : List Cond} {ret : Option FieldType} {rm : Room} {N S : Nat} {ini : Bool} (hX : sm_ok cl X cc n own Ts ret rm N S ini) {pc : Nat} {L : List (Option Value)} {r : List Value} {ad : Nat → Nat} {sh : sm_S} {μ : sm_M} {x : Int32} {off : Int} (tgt : Nat) (d : decode cc pc = .ok (.ifCond .le off, 3)) (ht : (pc : Int) + off = (tgt : Int)) (kt : x ≤ 0 → sm_E cl X tgt L r ad sh μ) (kf : ¬ (x ≤ 0) → sm_E cl X (pc + 3) L r ad sh μ) : sm_E cl X pc L (.int x :: r) ad sh μ := by
  obtain ⟨⟨l, D, cA, NW⟩, pr, e, R, s, m, args, below, meth, c, nL, A, H0, Q, n0, s0⟩ := X
  obtain ⟨hx, hb, hml, hn, hown, hts, hK, hlk, hrt, hR, hA, hc0, hs0, hin, hnw⟩ := hX
  exact fun ls H locs cells slots g1 g2 h1 h2 h3 h4 => lv_if_le hx hb d ht (fun q => kt q ls H locs cells slots g1 g2 h1 h2 h3 h4) (fun q => kf q ls H locs cells slots g1 g2 h1 h2 h3 h4)
theorem sm_icmp_le {cl : List vw_C} {X : sm_X} {cc : ByteArray} {n : Nat} {own : String} {Ts : List Cond} {ret : Option FieldType} {rm : Room} {N S : Nat} {ini : Bool} (hX : sm_ok cl X cc n own Ts ret rm N S ini) {pc : Nat} {L : List (Option Value)} {r : List Value} {ad : Nat → Nat} {sh : sm_S} {μ : sm_M} {x y : Int32} {off : Int} (tgt : Nat) (d : decode cc pc = .ok (.if_icmp .le off, 3)) (ht : (pc : Int) + off = (tgt : Int)) (kt : x ≤ y → sm_E cl X tgt L r ad sh μ) (kf : ¬ (x ≤ y) → sm_E cl X (pc + 3) L r ad sh μ) : sm_E cl X pc L (.int y :: .int x :: r) ad sh μ := by
  obtain ⟨⟨l, D, cA, NW⟩, pr, e, R, s, m, args, below, meth, c, nL, A, H0, Q, n0, s0⟩ := X
  obtain ⟨hx, hb, hml, hn, hown, hts, hK, hlk, hrt, hR, hA, hc0, hs0, hin, hnw⟩ := hX
  exact fun ls H locs cells slots g1 g2 h1 h2 h3 h4 => lv_icmp_le hx hb d ht (fun q => kt q ls H locs cells slots g1 g2 h1 h2 h3 h4) (fun q => kf q ls H locs cells slots g1 g2 h1 h2 h3 h4)
theorem sm_goto {cl : List vw_C} {X : sm_X} {cc : ByteArray} {n : Nat} {own : String} {Ts : List Cond} {ret : Option FieldType} {rm : Room} {N S : Nat} {ini : Bool} (hX : sm_ok cl X cc n own Ts ret rm N S ini) {pc : Nat} {L : List (Option Value)} {r : List Value} {ad : Nat → Nat} {sh : sm_S} {μ : sm_M} {off : Int} (tgt : Nat) (d : decode cc pc = .ok (.goto off, 3)) (ht : (pc : Int) + off = (tgt : Int)) (k : sm_E cl X tgt L r ad sh μ) : sm_E cl X pc L r ad sh μ := by
  obtain ⟨⟨l, D, cA, NW⟩, pr, e, R, s, m, args, below, meth, c, nL, A, H0, Q, n0, s0⟩ := X
  obtain ⟨hx, hb, hml, hn, hown, hts, hK, hlk, hrt, hR, hA, hc0, hs0, hin, hnw⟩ := hX
  exact fun ls H locs cells slots g1 g2 h1 h2 h3 h4 => lv_goto hx hb d ht (k ls H locs cells slots g1 g2 h1 h2 h3 h4)
theorem sm_lookup {cl : List vw_C} {X : sm_X} {cc : ByteArray} {n : Nat} {own : String} {Ts : List Cond} {ret : Option FieldType} {rm : Room} {N S : Nat} {ini : Bool} (hX : sm_ok cl X cc n own Ts ret rm N S ini) {pc : Nat} {L : List (Option Value)} {r : List Value} {ad : Nat → Nat} {sh : sm_S} {μ : sm_M} {dflt : Int} {ps : Array (Int × Int)} {len : Nat} {x : Int32} (tgt : Nat) (d : decode cc pc = .ok (.lookupswitch dflt ps, len)) (hp : (ps.toList.zip (ps.toList.drop 1)).all (fun (a, next) => a.1 < next.1) = true) (ht : (pc : Int) + Op.lookupswitch.offset ps.toList dflt x.toInt = (tgt : Int)) (k : sm_E cl X tgt L r ad sh μ) : sm_E cl X pc L (.int x :: r) ad sh μ := by
  obtain ⟨⟨l, D, cA, NW⟩, pr, e, R, s, m, args, below, meth, c, nL, A, H0, Q, n0, s0⟩ := X
  obtain ⟨hx, hb, hml, hn, hown, hts, hK, hlk, hrt, hR, hA, hc0, hs0, hin, hnw⟩ := hX
  exact fun ls H locs cells slots g1 g2 h1 h2 h3 h4 => lv_lookup hx hb d hp rfl ht (k ls H locs cells slots g1 g2 h1 h2 h3 h4)
theorem sm_tableOut {cl : List vw_C} {X : sm_X} {cc : ByteArray} {n : Nat} {own : String} {Ts : List Cond} {ret : Option FieldType} {rm : Room} {N S : Nat} {ini : Bool} (hX : sm_ok cl X cc n own Ts ret rm N S ini) {pc : Nat} {L : List (Option Value)} {r : List Value} {ad : Nat → Nat} {sh : sm_S} {μ : sm_M} {dflt lo hi : Int} {offs : Array Int} {len : Nat} {x : Int32} (tgt : Nat) (d : decode cc pc = .ok (.tableswitch dflt lo hi offs, len)) (h : x.toInt < lo ∨ hi < x.toInt) (ht : (pc : Int) + dflt = (tgt : Int)) (k : sm_E cl X tgt L r ad sh μ) : sm_E cl X pc L (.int x :: r) ad sh μ := by
  obtain ⟨⟨l, D, cA, NW⟩, pr, e, R, s, m, args, below, meth, c, nL, A, H0, Q, n0, s0⟩ := X
  obtain ⟨hx, hb, hml, hn, hown, hts, hK, hlk, hrt, hR, hA, hc0, hs0, hin, hnw⟩ := hX
  exact fun ls H locs cells slots g1 g2 h1 h2 h3 h4 => lv_tableOut hx hb d h ht (k ls H locs cells slots g1 g2 h1 h2 h3 h4)
theorem sm_tableIn {cl : List vw_C} {X : sm_X} {cc : ByteArray} {n : Nat} {own : String} {Ts : List Cond} {ret : Option FieldType} {rm : Room} {N S : Nat} {ini : Bool} (hX : sm_ok cl X cc n own Ts ret rm N S ini) {pc : Nat} {L : List (Option Value)} {r : List Value} {ad : Nat → Nat} {sh : sm_S} {μ : sm_M} {dflt lo hi : Int} {offs : Array Int} {len : Nat} {x : Int32} {off : Int} (tgt : Nat) (d : decode cc pc = .ok (.tableswitch dflt lo hi offs, len)) (hl : ¬ x.toInt < lo) (hh : ¬ hi < x.toInt) (ho : offs[(x.toInt - lo).toNat]? = some off) (ht : (pc : Int) + off = (tgt : Int)) (k : sm_E cl X tgt L r ad sh μ) : sm_E cl X pc L (.int x :: r) ad sh μ := by
  obtain ⟨⟨l, D, cA, NW⟩, pr, e, R, s, m, args, below, meth, c, nL, A, H0, Q, n0, s0⟩ := X
  obtain ⟨hx, hb, hml, hn, hown, hts, hK, hlk, hrt, hR, hA, hc0, hs0, hin, hnw⟩ := hX
  exact fun ls H locs cells slots g1 g2 h1 h2 h3 h4 => lv_tableIn hx hb d hl hh ho ht (k ls H locs cells slots g1 g2 h1 h2 h3 h4)
def sm_fl (cl : List vw_C) (sh : sm_S) (Ts : List Cond) (C nm ds : String) (p k : Nat) (f : Option (Option Nat)) : Prop := ∃ (T : u_T) (N ci : Nat) (fs : List (Option (Option Nat))), sh[p]? = some (.inl (ci, fs)) ∧ cl[ci]? = some (C, T, N) ∧ k < N ∧ fs[k]? = some f ∧ (∀ w ∈ u_ws C T N, w ∈ Ts) ∧ (T k).1 = C ∧ (T k).2.1 = nm ∧ (T k).2.2.1 = ds
def sm_fp (cl : List vw_C) (Ts : List Cond) (C : String) (ci N k : Nat) (fin : Bool) (ty : FieldType) (T : u_T) : Prop := ∃ t : Nat → FieldType, cl[ci]? = some (C, T, N) ∧ k < N ∧ (∀ w ∈ u_ws C T N, w ∈ Ts) ∧ (∀ k, k < N → parseFieldDescriptor (T k).2.2.1 = some (t k)) ∧ (∀ a, a < N → ∀ b, b < N → a ≠ b → (T a).2.1 ≠ (T b).2.1) ∧ (T k).2.2.2 = fin ∧ t k = ty
def sm_fk (own : String) (Ts : List Cond) (idx : Nat) (ref nm ds : String) : Prop := Cond.fieldLink own idx ref nm ds ∈ Ts
def sm_fn (own : String) (Ts : List Cond) (idx : Nat) (ref nm ds : String) : Prop := ∃ host, Cond.fieldLinkNest own idx ref nm ds host ∈ Ts
theorem sm_get {cl : List vw_C} {X : sm_X} {cc : ByteArray} {n : Nat} {own : String} {Ts : List Cond} {ret : Option FieldType} {rm : Room} {N S : Nat} {ini : Bool} (hX : sm_ok cl X cc n own Ts ret rm N S ini) {pc : Nat} {L : List (Option Value)} {r : List Value} {ad : Nat → Nat} {sh : sm_S} {μ : sm_M} {idx p k ci N' : Nat} {C : String} {T : u_T} {fs : List (Option (Option Nat))} {f : Option (Option Nat)} (e1 : sh[p]? = some (.inl (ci, fs))) (e2 : cl[ci]? = some (C, T, N')) (e3 : k < N') (e4 : fs[k]? = some f) (e5 : ∀ w ∈ u_ws C T N', w ∈ Ts) (e6 : Cond.fieldLink own idx (T k).1 (T k).2.1 (T k).2.2.1 ∈ Ts) (d : decode cc pc = .ok (.getfield idx, 3)) (kk : ∀ v : Value, sm_v ad v = sm_f ad (μ.1 p) k f → (∀ q, f = some (some q) → v = .ref q) → (f = none → v = .int (μ.1 p k)) → sm_E cl X (pc + 3) L (v :: r) ad sh μ) : sm_E cl X pc L (.ref p :: r) ad sh μ := by
  obtain ⟨⟨l, D, cA, NW⟩, pr, e, R, s, m, args, below, meth, c, nL, A, H0, Q, n0, s0⟩ := X
  obtain ⟨hx, hb, hml, hn, hown, hts, hK, hlk, hrt, hR, hA, hc0, hs0, hin, hnw⟩ := hX
  have hv : ∃ v : Value, sm_v ad v = sm_f ad (μ.1 p) k f ∧ (∀ q, f = some (some q) → v = .ref q) ∧ (f = none → v = .int (μ.1 p k)) := by
    cases f with
    | none => exact ⟨.int (μ.1 p k), rfl, fun q h => (by cases h), fun _ => rfl⟩
    | some f =>
      cases f with
      | none => exact ⟨.null, rfl, fun q h => (by cases h), fun h => (by cases h)⟩
      | some q => exact ⟨.ref q, rfl, fun q' h => (by cases h; rfl), fun h => (by cases h)⟩
  obtain ⟨v, hv1, hv2, hv3⟩ := hv
  intro ls H locs cells slots g1 g2 h1 h2 h3 h4
  have k := kk v hv1 hv2 hv3 ls H locs cells slots g1 g2 h1 h2 h3 h4
  rw [List.map_cons, hv1] at k
  exact va_get (D := D) (v := sm_f ad (μ.1 p) _ f) hx hb hts e5 hown hK h2 p (by rw [sm_w_at, e1]; rfl) e2 _ e3 (hts _ e6) (fun _ h => h) (by rw [List.getElem?_mapIdx, e4]; rfl) d k
theorem sm_getI {cl : List vw_C} {X : sm_X} {cc : ByteArray} {n : Nat} {own : String} {Ts : List Cond} {ret : Option FieldType} {rm : Room} {N S : Nat} {ini : Bool} (hX : sm_ok cl X cc n own Ts ret rm N S ini) {pc : Nat} {L : List (Option Value)} {r : List Value} {ad : Nat → Nat} {sh : sm_S} {μ : sm_M} {idx p k ci N' : Nat} {C : String} {T : u_T} {fs : List (Option (Option Nat))} (e1 : sh[p]? = some (.inl (ci, fs))) (e2 : cl[ci]? = some (C, T, N')) (e3 : k < N') (e4 : fs[k]? = some none) (e5 : ∀ w ∈ u_ws C T N', w ∈ Ts) (e6 : Cond.fieldLink own idx (T k).1 (T k).2.1 (T k).2.2.1 ∈ Ts) (d : decode cc pc = .ok (.getfield idx, 3)) (kk : sm_E cl X (pc + 3) L (.int (μ.1 p k) :: r) ad sh μ) : sm_E cl X pc L (.ref p :: r) ad sh μ :=
  sm_get hX e1 e2 e3 e4 e5 e6 d (fun v _ _ h => by rw [h rfl]; exact kk)
theorem sm_getR {cl : List vw_C} {X : sm_X} {cc : ByteArray} {n : Nat} {own : String} {Ts : List Cond} {ret : Option FieldType} {rm : Room} {N S : Nat} {ini : Bool} (hX : sm_ok cl X cc n own Ts ret rm N S ini) {pc : Nat} {L : List (Option Value)} {r : List Value} {ad : Nat → Nat} {sh : sm_S} {μ : sm_M} {idx p k ci N' q : Nat} {C : String} {T : u_T} {fs : List (Option (Option Nat))} (e1 : sh[p]? = some (.inl (ci, fs))) (e2 : cl[ci]? = some (C, T, N')) (e3 : k < N') (e4 : fs[k]? = some (some (some q))) (e5 : ∀ w ∈ u_ws C T N', w ∈ Ts) (e6 : Cond.fieldLink own idx (T k).1 (T k).2.1 (T k).2.2.1 ∈ Ts) (d : decode cc pc = .ok (.getfield idx, 3)) (kk : sm_E cl X (pc + 3) L (.ref q :: r) ad sh μ) : sm_E cl X pc L (.ref p :: r) ad sh μ :=
  sm_get hX e1 e2 e3 e4 e5 e6 d (fun v _ h _ => by rw [h q rfl]; exact kk)
theorem sm_getN {cl : List vw_C} {X : sm_X} {cc : ByteArray} {n : Nat} {own : String} {Ts : List Cond} {ret : Option FieldType} {rm : Room} {N S : Nat} {ini : Bool} (hX : sm_ok cl X cc n own Ts ret rm N S ini) {pc : Nat} {L : List (Option Value)} {r : List Value} {ad : Nat → Nat} {sh : sm_S} {μ : sm_M} {idx p k ci N' : Nat} {C : String} {T : u_T} {fs : List (Option (Option Nat))} {f : Option (Option Nat)} {host : String} (e1 : sh[p]? = some (.inl (ci, fs))) (e2 : cl[ci]? = some (C, T, N')) (e3 : k < N') (e4 : fs[k]? = some f) (e5 : ∀ w ∈ u_ws C T N', w ∈ Ts) (e6 : Cond.fieldLinkNest own idx (T k).1 (T k).2.1 (T k).2.2.1 host ∈ X.1.2.2.2) (d : decode cc pc = .ok (.getfield idx, 3)) (kk : ∀ v : Value, sm_v ad v = sm_f ad (μ.1 p) k f → (∀ q, f = some (some q) → v = .ref q) → (f = none → v = .int (μ.1 p k)) → sm_E cl X (pc + 3) L (v :: r) ad sh μ) : sm_E cl X pc L (.ref p :: r) ad sh μ := by
  obtain ⟨⟨l, D, cA, NW⟩, pr, e, R, s, m, args, below, meth, c, nL, A, H0, Q, n0, s0⟩ := X
  obtain ⟨hx, hb, hml, hn, hown, hts, hK, hlk, hrt, hR, hA, hc0, hs0, hin, hnw⟩ := hX
  have hv : ∃ v : Value, sm_v ad v = sm_f ad (μ.1 p) k f ∧ (∀ q, f = some (some q) → v = .ref q) ∧ (f = none → v = .int (μ.1 p k)) := by
    cases f with
    | none => exact ⟨.int (μ.1 p k), rfl, fun q h => (by cases h), fun _ => rfl⟩
    | some f =>
      cases f with
      | none => exact ⟨.null, rfl, fun q h => (by cases h), fun h => (by cases h)⟩
      | some q => exact ⟨.ref q, rfl, fun q' h => (by cases h; rfl), fun h => (by cases h)⟩
  obtain ⟨v, hv1, hv2, hv3⟩ := hv
  intro ls H locs cells slots g1 g2 h1 h2 h3 h4
  have k := kk v hv1 hv2 hv3 ls H locs cells slots g1 g2 h1 h2 h3 h4
  rw [List.map_cons, hv1] at k
  exact va_getN (D := D) (v := sm_f ad (μ.1 p) _ f) hx hb hts e5 hown hK h2 p (by rw [sm_w_at, e1]; rfl) e2 _ e3 (va_Nw.use rfl (hnw _ e6).2) (fun _ h => h) (by rw [List.getElem?_mapIdx, e4]; rfl) d k
theorem sm_getIN {cl : List vw_C} {X : sm_X} {cc : ByteArray} {n : Nat} {own : String} {Ts : List Cond} {ret : Option FieldType} {rm : Room} {N S : Nat} {ini : Bool} (hX : sm_ok cl X cc n own Ts ret rm N S ini) {pc : Nat} {L : List (Option Value)} {r : List Value} {ad : Nat → Nat} {sh : sm_S} {μ : sm_M} {idx p k ci N' : Nat} {C : String} {T : u_T} {fs : List (Option (Option Nat))} {host : String} (e1 : sh[p]? = some (.inl (ci, fs))) (e2 : cl[ci]? = some (C, T, N')) (e3 : k < N') (e4 : fs[k]? = some none) (e5 : ∀ w ∈ u_ws C T N', w ∈ Ts) (e6 : Cond.fieldLinkNest own idx (T k).1 (T k).2.1 (T k).2.2.1 host ∈ X.1.2.2.2) (d : decode cc pc = .ok (.getfield idx, 3)) (kk : sm_E cl X (pc + 3) L (.int (μ.1 p k) :: r) ad sh μ) : sm_E cl X pc L (.ref p :: r) ad sh μ :=
  sm_getN hX e1 e2 e3 e4 e5 e6 d (fun v _ _ h => by rw [h rfl]; exact kk)
theorem sm_getRN {cl : List vw_C} {X : sm_X} {cc : ByteArray} {n : Nat} {own : String} {Ts : List Cond} {ret : Option FieldType} {rm : Room} {N S : Nat} {ini : Bool} (hX : sm_ok cl X cc n own Ts ret rm N S ini) {pc : Nat} {L : List (Option Value)} {r : List Value} {ad : Nat → Nat} {sh : sm_S} {μ : sm_M} {idx p k ci N' q : Nat} {C : String} {T : u_T} {fs : List (Option (Option Nat))} {host : String} (e1 : sh[p]? = some (.inl (ci, fs))) (e2 : cl[ci]? = some (C, T, N')) (e3 : k < N') (e4 : fs[k]? = some (some (some q))) (e5 : ∀ w ∈ u_ws C T N', w ∈ Ts) (e6 : Cond.fieldLinkNest own idx (T k).1 (T k).2.1 (T k).2.2.1 host ∈ X.1.2.2.2) (d : decode cc pc = .ok (.getfield idx, 3)) (kk : sm_E cl X (pc + 3) L (.ref q :: r) ad sh μ) : sm_E cl X pc L (.ref p :: r) ad sh μ :=
  sm_getN hX e1 e2 e3 e4 e5 e6 d (fun v _ h _ => by rw [h q rfl]; exact kk)
theorem sm_put {cl : List vw_C} {X : sm_X} {cc : ByteArray} {n : Nat} {own : String} {Ts : List Cond} {ret : Option FieldType} {rm : Room} {N S : Nat} {ini : Bool} (hX : sm_ok cl X cc n own Ts ret rm N S ini) {pc : Nat} {L : List (Option Value)} {r : List Value} {ad : Nat → Nat} {sh : sm_S} {μ : sm_M} {idx p k ci N' : Nat} {C : String} {T : u_T} {fs : List (Option (Option Nat))} {ty : FieldType} {v : Int32} (e1 : sh[p]? = some (.inl (ci, fs))) (e4 : fs[k]? = some none) (hf : sm_fp cl Ts C ci N' k false ty T) (e6 : Cond.fieldLink own idx (T k).1 (T k).2.1 (T k).2.2.1 ∈ Ts) (hn0 : narrow ty (.int v) = .int v) (hfit : fits ty (.int v) = true) (d : decode cc pc = .ok (.putfield idx, 3)) (kk : sm_E cl X (pc + 3) L r ad sh (sm_ui μ p k v)) : sm_E cl X pc L (.int v :: .ref p :: r) ad sh μ := by
  obtain ⟨⟨l, D, cA, NW⟩, pr, e, R, s, m, args, below, meth, c, nL, A, H0, Q, n0, s0⟩ := X
  obtain ⟨hx, hb, hml, hn, hown, hts, hK, hlk, hrt, hR, hA, hc0, hs0, hin, hnw⟩ := hX
  obtain ⟨t, e2, e3, e5, e7, e8, e9, e10⟩ := hf
  intro ls H locs cells slots g1 g2 h1 h2 h3 h4
  refine va_put (D := D) (v := .int v) (ty := ty) hx hb hts e5 t e7 e8 hown hK h2 h3 h4 p (by rw [sm_w_at, e1]; rfl) e2 k e3 (hts _ e6) (fun _ h => h) e9 (by rw [e7 k e3, e10]) hn0 hfit (by rw [List.length_mapIdx]; exact (List.getElem?_eq_some_iff.mp e4).1) d (fun H1 locs1 q1 q2 q3 => ?_)
  rw [sm_w_ui e1 e4] at q1 q2
  exact kk ls H1 locs1 cells slots g1 g2 h1 q1 q2 q3
theorem sm_putN {cl : List vw_C} {X : sm_X} {cc : ByteArray} {n : Nat} {own : String} {Ts : List Cond} {ret : Option FieldType} {rm : Room} {N S : Nat} {ini : Bool} (hX : sm_ok cl X cc n own Ts ret rm N S ini) {pc : Nat} {L : List (Option Value)} {r : List Value} {ad : Nat → Nat} {sh : sm_S} {μ : sm_M} {idx p k ci N' : Nat} {C : String} {T : u_T} {fs : List (Option (Option Nat))} {ty : FieldType} {v : Int32} {host : String} (e1 : sh[p]? = some (.inl (ci, fs))) (e4 : fs[k]? = some none) (hf : sm_fp cl Ts C ci N' k false ty T) (e6 : Cond.fieldLinkNest own idx (T k).1 (T k).2.1 (T k).2.2.1 host ∈ X.1.2.2.2) (hn0 : narrow ty (.int v) = .int v) (hfit : fits ty (.int v) = true) (d : decode cc pc = .ok (.putfield idx, 3)) (kk : sm_E cl X (pc + 3) L r ad sh (sm_ui μ p k v)) : sm_E cl X pc L (.int v :: .ref p :: r) ad sh μ := by
  obtain ⟨⟨l, D, cA, NW⟩, pr, e, R, s, m, args, below, meth, c, nL, A, H0, Q, n0, s0⟩ := X
  obtain ⟨hx, hb, hml, hn, hown, hts, hK, hlk, hrt, hR, hA, hc0, hs0, hin, hnw⟩ := hX
  obtain ⟨t, e2, e3, e5, e7, e8, e9, e10⟩ := hf
  intro ls H locs cells slots g1 g2 h1 h2 h3 h4
  refine va_putN (D := D) (v := .int v) (ty := ty) hx hb hts e5 t e7 e8 hown hK h2 h3 h4 p (by rw [sm_w_at, e1]; rfl) e2 k e3 (va_Nw.use rfl (hnw _ e6).2) (fun _ h => h) e9 (by rw [e7 k e3, e10]) hn0 hfit (by rw [List.length_mapIdx]; exact (List.getElem?_eq_some_iff.mp e4).1) d (fun H1 locs1 q1 q2 q3 => ?_)
  rw [sm_w_ui e1 e4] at q1 q2
  exact kk ls H1 locs1 cells slots g1 g2 h1 q1 q2 q3
theorem sm_sl_set {sh : sm_S} {p ci : Nat} {fs fs' : List (Option (Option Nat))} (h : sh[p]? = some (.inl (ci, fs))) (hl : fs'.length = fs.length) : sm_sl (sh.set p (.inl (ci, fs'))) = sm_sl sh := by
  unfold sm_sl
  congr 1
  apply List.ext_getElem?
  intro i
  rw [List.getElem?_map, List.getElem?_map]
  by_cases hi : i = p
  · subst hi
    rw [List.getElem?_set_self (List.getElem?_eq_some_iff.mp h).1, h]
    simp [sm_sz, hl]
  · rw [List.getElem?_set_ne (Ne.symm hi)]
theorem sm_putF {cl : List vw_C} {X : sm_X} {cc : ByteArray} {n : Nat} {own : String} {Ts : List Cond} {ret : Option FieldType} {rm : Room} {N S : Nat} {ini : Bool} (hX : sm_ok cl X cc n own Ts ret rm N S ini) {pc : Nat} {L : List (Option Value)} {r : List Value} {ad : Nat → Nat} {sh : sm_S} {μ : sm_M} {idx p k ci N' q : Nat} {C : String} {T : u_T} {fs : List (Option (Option Nat))} {ty : FieldType} (e1 : sh[p]? = some (.inl (ci, fs))) (e4 : k < fs.length) (hf : sm_fp cl Ts C ci N' k true ty T) (e6 : Cond.fieldLink own idx (T k).1 (T k).2.1 (T k).2.2.1 ∈ Ts) (hii : ini = true) (hdec : (T k).1 = own) (hn0 : narrow ty (.ref (ad q)) = .ref (ad q)) (hfit : fits ty (.ref (ad q)) = true) (d : decode cc pc = .ok (.putfield idx, 3)) (kk : sm_E cl X (pc + 3) L r ad (sh.set p (.inl (ci, fs.set k (some (some q))))) μ) : sm_E cl X pc L (.ref q :: .ref p :: r) ad sh μ := by
  obtain ⟨⟨l, D, cA, NW⟩, pr, e, R, s, m, args, below, meth, c, nL, A, H0, Q, n0, s0⟩ := X
  obtain ⟨hx, hb, hml, hn, hown, hts, hK, hlk, hrt, hR, hA, hc0, hs0, hin, hnw⟩ := hX
  obtain ⟨t, e2, e3, e5, e7, e8, e9, e10⟩ := hf
  intro ls H locs cells slots g1 g2 h1 h2 h3 h4
  refine va_putF (D := D) (v := .ref (ad q)) (ty := ty) hx hb hts e5 t e7 e8 hown hK h2 h3 h4 p (by rw [sm_w_at, e1]; rfl) e2 k e3 (hts _ e6) (fun _ h => h) e9 (hin hii) hdec (by rw [e7 k e3, e10]) hn0 hfit (by rw [List.length_mapIdx]; exact e4) d (fun H1 locs1 q1 q2 q3 => ?_)
  rw [sm_w_ur e1 e4] at q1 q2
  exact kk ls H1 locs1 cells slots (by rw [List.length_set]; exact g1) (by rw [sm_sl_set e1 (by rw [List.length_set])]; exact g2) h1 q1 q2 q3
theorem sm_iald {cl : List vw_C} {X : sm_X} {cc : ByteArray} {n : Nat} {own : String} {Ts : List Cond} {ret : Option FieldType} {rm : Room} {N S : Nat} {ini : Bool} (hX : sm_ok cl X cc n own Ts ret rm N S ini) {pc : Nat} {L : List (Option Value)} {r : List Value} {ad : Nat → Nat} {sh : sm_S} {μ : sm_M} {p len : Nat} {i : Int32} (hs : sh[p]? = some (.inr (0, len))) (hi : vp_in i len) (d : decode cc pc = .ok (.iaload, 1)) (kk : sm_E cl X (pc + 1) L (.int (μ.1 p i.toNatClampNeg) :: r) ad sh μ) : sm_E cl X pc L (.int i :: .ref p :: r) ad sh μ := by
  obtain ⟨⟨l, D, cA, NW⟩, pr, e, R, s, m, args, below, meth, c, nL, A, H0, Q, n0, s0⟩ := X
  obtain ⟨hx, hb, hml, hn, hown, hts, hK, hlk, hrt, hR, hA, hc0, hs0, hin, hnw⟩ := hX
  exact fun ls H locs cells slots g1 g2 h1 h2 h3 h4 => va_iald (D := D) (f := μ.1 p) hx hb hK h2 p 0 (by rw [sm_w_at, hs]; rfl) rfl hi d (kk ls H locs cells slots g1 g2 h1 h2 h3 h4)
theorem sm_zald {cl : List vw_C} {X : sm_X} {cc : ByteArray} {n : Nat} {own : String} {Ts : List Cond} {ret : Option FieldType} {rm : Room} {N S : Nat} {ini : Bool} (hX : sm_ok cl X cc n own Ts ret rm N S ini) {pc : Nat} {L : List (Option Value)} {r : List Value} {ad : Nat → Nat} {sh : sm_S} {μ : sm_M} {p len : Nat} {i : Int32} (hs : sh[p]? = some (.inr (1, len))) (hi : vp_in i len) (d : decode cc pc = .ok (.baload, 1)) (kk : sm_E cl X (pc + 1) L (.int (μ.1 p i.toNatClampNeg) :: r) ad sh μ) : sm_E cl X pc L (.int i :: .ref p :: r) ad sh μ := by
  obtain ⟨⟨l, D, cA, NW⟩, pr, e, R, s, m, args, below, meth, c, nL, A, H0, Q, n0, s0⟩ := X
  obtain ⟨hx, hb, hml, hn, hown, hts, hK, hlk, hrt, hR, hA, hc0, hs0, hin, hnw⟩ := hX
  exact fun ls H locs cells slots g1 g2 h1 h2 h3 h4 => va_zald (D := D) (f := μ.1 p) hx hb hK h2 p 1 (by rw [sm_w_at, hs]; rfl) rfl hi d (kk ls H locs cells slots g1 g2 h1 h2 h3 h4)
theorem sm_lald {cl : List vw_C} {X : sm_X} {cc : ByteArray} {n : Nat} {own : String} {Ts : List Cond} {ret : Option FieldType} {rm : Room} {N S : Nat} {ini : Bool} (hX : sm_ok cl X cc n own Ts ret rm N S ini) {pc : Nat} {L : List (Option Value)} {r : List Value} {ad : Nat → Nat} {sh : sm_S} {μ : sm_M} {p len : Nat} {i : Int32} (hs : sh[p]? = some (.inr (2, len))) (hi : vp_in i len) (d : decode cc pc = .ok (.laload, 1)) (kk : sm_E cl X (pc + 1) L (.long (μ.2 p i.toNatClampNeg) :: r) ad sh μ) : sm_E cl X pc L (.int i :: .ref p :: r) ad sh μ := by
  obtain ⟨⟨l, D, cA, NW⟩, pr, e, R, s, m, args, below, meth, c, nL, A, H0, Q, n0, s0⟩ := X
  obtain ⟨hx, hb, hml, hn, hown, hts, hK, hlk, hrt, hR, hA, hc0, hs0, hin, hnw⟩ := hX
  exact fun ls H locs cells slots g1 g2 h1 h2 h3 h4 => va_lald (D := D) (f := μ.2 p) hx hb hK h2 p 2 (by rw [sm_w_at, hs]; rfl) rfl hi d (kk ls H locs cells slots g1 g2 h1 h2 h3 h4)
theorem sm_iast {cl : List vw_C} {X : sm_X} {cc : ByteArray} {n : Nat} {own : String} {Ts : List Cond} {ret : Option FieldType} {rm : Room} {N S : Nat} {ini : Bool} (hX : sm_ok cl X cc n own Ts ret rm N S ini) {pc : Nat} {L : List (Option Value)} {r : List Value} {ad : Nat → Nat} {sh : sm_S} {μ : sm_M} {p len : Nat} {i x : Int32} (hs : sh[p]? = some (.inr (0, len))) (hi : vp_in i len) (d : decode cc pc = .ok (.iastore, 1)) (kk : sm_E cl X (pc + 1) L r ad sh (sm_ui μ p i.toNatClampNeg x)) : sm_E cl X pc L (.int x :: .int i :: .ref p :: r) ad sh μ := by
  obtain ⟨⟨l, D, cA, NW⟩, pr, e, R, s, m, args, below, meth, c, nL, A, H0, Q, n0, s0⟩ := X
  obtain ⟨hx, hb, hml, hn, hown, hts, hK, hlk, hrt, hR, hA, hc0, hs0, hin, hnw⟩ := hX
  intro ls H locs cells slots g1 g2 h1 h2 h3 h4
  refine va_iast (D := D) (f := μ.1 p) hx hb hK h2 h3 h4 p 0 (by rw [sm_w_at, hs]; rfl) rfl hi d (fun H1 locs1 q1 q2 q3 => ?_)
  rw [sm_w_ai hs (by decide)] at q1 q2
  exact kk ls H1 locs1 cells slots g1 g2 h1 q1 q2 q3
theorem sm_zast {cl : List vw_C} {X : sm_X} {cc : ByteArray} {n : Nat} {own : String} {Ts : List Cond} {ret : Option FieldType} {rm : Room} {N S : Nat} {ini : Bool} (hX : sm_ok cl X cc n own Ts ret rm N S ini) {pc : Nat} {L : List (Option Value)} {r : List Value} {ad : Nat → Nat} {sh : sm_S} {μ : sm_M} {p len : Nat} {i x : Int32} (hs : sh[p]? = some (.inr (1, len))) (hi : vp_in i len) (d : decode cc pc = .ok (.bastore, 1)) (kk : sm_E cl X (pc + 1) L r ad sh (sm_ui μ p i.toNatClampNeg (vp_nar .boolean x))) : sm_E cl X pc L (.int x :: .int i :: .ref p :: r) ad sh μ := by
  obtain ⟨⟨l, D, cA, NW⟩, pr, e, R, s, m, args, below, meth, c, nL, A, H0, Q, n0, s0⟩ := X
  obtain ⟨hx, hb, hml, hn, hown, hts, hK, hlk, hrt, hR, hA, hc0, hs0, hin, hnw⟩ := hX
  intro ls H locs cells slots g1 g2 h1 h2 h3 h4
  refine va_zast (D := D) (f := μ.1 p) hx hb hK h2 h3 h4 p 1 (by rw [sm_w_at, hs]; rfl) rfl hi d (fun H1 locs1 q1 q2 q3 => ?_)
  rw [sm_w_ai hs (by decide)] at q1 q2
  exact kk ls H1 locs1 cells slots g1 g2 h1 q1 q2 q3
theorem sm_last {cl : List vw_C} {X : sm_X} {cc : ByteArray} {n : Nat} {own : String} {Ts : List Cond} {ret : Option FieldType} {rm : Room} {N S : Nat} {ini : Bool} (hX : sm_ok cl X cc n own Ts ret rm N S ini) {pc : Nat} {L : List (Option Value)} {r : List Value} {ad : Nat → Nat} {sh : sm_S} {μ : sm_M} {p len : Nat} {i : Int32} {x : Int64} (hs : sh[p]? = some (.inr (2, len))) (hi : vp_in i len) (d : decode cc pc = .ok (.lastore, 1)) (kk : sm_E cl X (pc + 1) L r ad sh (sm_ul μ p i.toNatClampNeg x)) : sm_E cl X pc L (.long x :: .int i :: .ref p :: r) ad sh μ := by
  obtain ⟨⟨l, D, cA, NW⟩, pr, e, R, s, m, args, below, meth, c, nL, A, H0, Q, n0, s0⟩ := X
  obtain ⟨hx, hb, hml, hn, hown, hts, hK, hlk, hrt, hR, hA, hc0, hs0, hin, hnw⟩ := hX
  intro ls H locs cells slots g1 g2 h1 h2 h3 h4
  refine va_last (D := D) (f := μ.2 p) hx hb hK h2 h3 h4 p 2 (by rw [sm_w_at, hs]; rfl) rfl hi d (fun H1 locs1 q1 q2 q3 => ?_)
  rw [sm_w_al hs] at q1 q2
  exact kk ls H1 locs1 cells slots g1 g2 h1 q1 q2 q3
theorem sm_alen {cl : List vw_C} {X : sm_X} {cc : ByteArray} {n : Nat} {own : String} {Ts : List Cond} {ret : Option FieldType} {rm : Room} {N S : Nat} {ini : Bool} (hX : sm_ok cl X cc n own Ts ret rm N S ini) {pc : Nat} {L : List (Option Value)} {r : List Value} {ad : Nat → Nat} {sh : sm_S} {μ : sm_M} {p kd len : Nat} (hs : sh[p]? = some (.inr (kd, len))) (hkd : kd < 3) (d : decode cc pc = .ok (.arraylength, 1)) (kk : sm_E cl X (pc + 1) L (.int (Int32.ofNat len) :: r) ad sh μ) : sm_E cl X pc L (.ref p :: r) ad sh μ := by
  obtain ⟨⟨l, D, cA, NW⟩, pr, e, R, s, m, args, below, meth, c, nL, A, H0, Q, n0, s0⟩ := X
  obtain ⟨hx, hb, hml, hn, hown, hts, hK, hlk, hrt, hR, hA, hc0, hs0, hin, hnw⟩ := hX
  have ht : ∃ ty, (sm_ty cA)[kd]? = some (cA kd, ty) := by
    rcases (show kd = 0 ∨ kd = 1 ∨ kd = 2 by omega) with rfl | rfl | rfl <;> exact ⟨_, rfl⟩
  obtain ⟨ty, ht⟩ := ht
  exact fun ls H locs cells slots g1 g2 h1 h2 h3 h4 => va_alen (D := D) (x := (len, if kd = 2 then .inr (.inl (μ.2 p)) else .inl (μ.1 p))) hx hb hK h2 p kd (by rw [sm_w_at, hs]; rfl) ht rfl d (kk ls H locs cells slots g1 g2 h1 h2 h3 h4)
theorem sm_iret {cl : List vw_C} {X : sm_X} {cc : ByteArray} {n : Nat} {own : String} {Ts : List Cond} {ret : Option FieldType} {rm : Room} {N S : Nat} {ini : Bool} (hX : sm_ok cl X cc n own Ts ret rm N S ini) {pc : Nat} {L : List (Option Value)} {ad : Nat → Nat} {sh : sm_S} {μ : sm_M} {ad0 : Nat → Nat} {sh0 : sm_S} {mc ms : Nat} {Q0 : Option Value → sm_S → sm_M → Prop} {v : Int32} (hf : sm_fin cl X ad0 sh0 mc ms Q0) (hN : sh.length = sh0.length + mc) (hS : sm_sl sh = sm_sl sh0 + ms) (hag : sm_ag sh0.length sh.length ad ad0) (hi : ret = some .int) (d : decode cc pc = .ok (.ireturn, 1)) (hq : Q0 (some (.int v)) sh μ) : sm_E cl X pc L [.int v] ad sh μ := by
  obtain ⟨⟨l, D, cA, NW⟩, pr, e, R, s, m, args, below, meth, c, nL, A, H0, Q, n0, s0⟩ := X
  obtain ⟨hx, hb, hml, hn, hown, hts, hK, hlk, hrt, hR, hA, hc0, hs0, hin, hnw⟩ := hX
  obtain ⟨rfl, rfl, rfl, rfl⟩ := hf
  subst hi
  intro ls H locs cells slots g1 g2 h1 h2 h3 h4
  have e1 : cells = mc := by omega
  have e2 : slots = ms := by omega
  subst e1 e2
  exact W.iret hx hb hrt (fun t ht hW => ⟨⟨(some (.int v)), ad, sh, μ, rfl, hN, hS, hag, hq, by rw [ht]; exact h2, va_K.moved hW.alike hK, h3⟩, h4.F ht⟩) h4.2.2 d hlk
theorem sm_zret {cl : List vw_C} {X : sm_X} {cc : ByteArray} {n : Nat} {own : String} {Ts : List Cond} {ret : Option FieldType} {rm : Room} {N S : Nat} {ini : Bool} (hX : sm_ok cl X cc n own Ts ret rm N S ini) {pc : Nat} {L : List (Option Value)} {ad : Nat → Nat} {sh : sm_S} {μ : sm_M} {ad0 : Nat → Nat} {sh0 : sm_S} {mc ms : Nat} {Q0 : Option Value → sm_S → sm_M → Prop} {v : Int32} (hf : sm_fin cl X ad0 sh0 mc ms Q0) (hN : sh.length = sh0.length + mc) (hS : sm_sl sh = sm_sl sh0 + ms) (hag : sm_ag sh0.length sh.length ad ad0) (hi : ret = some .boolean) (hv : v &&& 1 = v) (d : decode cc pc = .ok (.ireturn, 1)) (hq : Q0 (some (.int v)) sh μ) : sm_E cl X pc L [.int v] ad sh μ := by
  obtain ⟨⟨l, D, cA, NW⟩, pr, e, R, s, m, args, below, meth, c, nL, A, H0, Q, n0, s0⟩ := X
  obtain ⟨hx, hb, hml, hn, hown, hts, hK, hlk, hrt, hR, hA, hc0, hs0, hin, hnw⟩ := hX
  obtain ⟨rfl, rfl, rfl, rfl⟩ := hf
  subst hi
  intro ls H locs cells slots g1 g2 h1 h2 h3 h4
  have e1 : cells = mc := by omega
  have e2 : slots = ms := by omega
  subst e1 e2
  exact W.zret hx hb hrt (by simp [narrow, hv]) (fun t ht hW => ⟨⟨(some (.int v)), ad, sh, μ, rfl, hN, hS, hag, hq, by rw [ht]; exact h2, va_K.moved hW.alike hK, h3⟩, h4.F ht⟩) h4.2.2 d hlk
theorem sm_lret {cl : List vw_C} {X : sm_X} {cc : ByteArray} {n : Nat} {own : String} {Ts : List Cond} {ret : Option FieldType} {rm : Room} {N S : Nat} {ini : Bool} (hX : sm_ok cl X cc n own Ts ret rm N S ini) {pc : Nat} {L : List (Option Value)} {ad : Nat → Nat} {sh : sm_S} {μ : sm_M} {ad0 : Nat → Nat} {sh0 : sm_S} {mc ms : Nat} {Q0 : Option Value → sm_S → sm_M → Prop} {v : Int64} (hf : sm_fin cl X ad0 sh0 mc ms Q0) (hN : sh.length = sh0.length + mc) (hS : sm_sl sh = sm_sl sh0 + ms) (hag : sm_ag sh0.length sh.length ad ad0) (hi : ret = some .long) (d : decode cc pc = .ok (.lreturn, 1)) (hq : Q0 (some (.long v)) sh μ) : sm_E cl X pc L [.long v] ad sh μ := by
  obtain ⟨⟨l, D, cA, NW⟩, pr, e, R, s, m, args, below, meth, c, nL, A, H0, Q, n0, s0⟩ := X
  obtain ⟨hx, hb, hml, hn, hown, hts, hK, hlk, hrt, hR, hA, hc0, hs0, hin, hnw⟩ := hX
  obtain ⟨rfl, rfl, rfl, rfl⟩ := hf
  subst hi
  intro ls H locs cells slots g1 g2 h1 h2 h3 h4
  have e1 : cells = mc := by omega
  have e2 : slots = ms := by omega
  subst e1 e2
  exact W.lret hx hb hrt (fun t ht hW => ⟨⟨(some (.long v)), ad, sh, μ, rfl, hN, hS, hag, hq, by rw [ht]; exact h2, va_K.moved hW.alike hK, h3⟩, h4.F ht⟩) h4.2.2 d hlk
theorem sm_vret {cl : List vw_C} {X : sm_X} {cc : ByteArray} {n : Nat} {own : String} {Ts : List Cond} {ret : Option FieldType} {rm : Room} {N S : Nat} {ini : Bool} (hX : sm_ok cl X cc n own Ts ret rm N S ini) {pc : Nat} {L : List (Option Value)} {ad : Nat → Nat} {sh : sm_S} {μ : sm_M} {ad0 : Nat → Nat} {sh0 : sm_S} {mc ms : Nat} {Q0 : Option Value → sm_S → sm_M → Prop} (hf : sm_fin cl X ad0 sh0 mc ms Q0) (hN : sh.length = sh0.length + mc) (hS : sm_sl sh = sm_sl sh0 + ms) (hag : sm_ag sh0.length sh.length ad ad0) (hi : ret = none) (d : decode cc pc = .ok (.return_, 1)) (hq : Q0 none sh μ) : sm_E cl X pc L [] ad sh μ := by
  obtain ⟨⟨l, D, cA, NW⟩, pr, e, R, s, m, args, below, meth, c, nL, A, H0, Q, n0, s0⟩ := X
  obtain ⟨hx, hb, hml, hn, hown, hts, hK, hlk, hrt, hR, hA, hc0, hs0, hin, hnw⟩ := hX
  obtain ⟨rfl, rfl, rfl, rfl⟩ := hf
  subst hi
  intro ls H locs cells slots g1 g2 h1 h2 h3 h4
  have e1 : cells = mc := by omega
  have e2 : slots = ms := by omega
  subst e1 e2
  exact W.vret hx hb hrt (fun t ht hW => ⟨⟨none, ad, sh, μ, rfl, hN, hS, hag, hq, by rw [ht]; exact h2, va_K.moved hW.alike hK, h3⟩, h4.F ht⟩) h4.2.2 d hlk
/-! calls: what a call instruction needs of the tables, so that a contract of the called method takes the walk over it -/
theorem sm_ag_eq {a : Nat} {ad' ad : Nat → Nat} (h : sm_ag a a ad' ad) : ad' = ad := funext fun p => h p (Nat.lt_or_ge p a)
theorem sm_stab {L : List (Option Value)} {r : List Value} {a b c : Nat} {ad' ad : Nat → Nat} (hl : b = a + c) (hag : sm_ag a b ad' ad) (h : c = 0 ∨ (L.all (sm_no a b) = true ∧ r.all (sm_nv a b) = true)) : (∀ (ls : Array Slot) (nL : Nat), sm_has ls nL ad L → sm_has ls nL ad' L) ∧ r.map (sm_v ad') = r.map (sm_v ad) := by
  rcases h with h | ⟨h1, h2⟩
  · have hb : b = a := by omega
    subst hb
    rw [sm_ag_eq hag]
    exact ⟨fun _ _ h => h, rfl⟩
  · exact ⟨fun _ _ h => h.ag hag h1, sm_st_ag hag h2⟩
def sm_rcv (sh : sm_S) (rc : Option Nat) (As : List Value) : Prop := match rc with
  | none => True
  | some ci => ∃ (p : Nat) (t : List Value) (fs : List (Option (Option Nat))), As = .ref p :: t ∧ sh[p]? = some (.inl (ci, fs))
def sm_Cal (cl : List vw_C) (NW : List Cond) (cc : ByteArray) (own : String) (Ts : List Cond) (ins : Instr) (y : MethodName) (ws : List Cond) (na : Nat) (rc : Option Nat) : Prop := ∀ (X : sm_X) (n : Nat) (ret : Option FieldType) (rm : Room) (N S : Nat) (ini : Bool), X.1.2.2.2 = NW → sm_ok cl X cc n own Ts ret rm N S ini → ∀ (pc : Nat) (L : List (Option Value)) (r : List Value) (ad : Nat → Nat) (sh : sm_S) (μ : sm_M) (As : List Value) (Q' : Option Value → sm_S → sm_M → Prop) (rm' : Room), As.length = na → sm_rcv sh rc As → sm_C cl X.1 y ws rm' As ad sh μ Q' → rm'.frames + 1 ≤ rm.frames → 32 + rm'.locals ≤ rm.locals → sh.length + rm'.cells ≤ N → sm_sl sh + rm'.slots ≤ S → (r.map fun v => v.category).sum ≤ 8 → decode cc pc = .ok (ins, 3) →
  (∀ (v : Option Value) (ad' : Nat → Nat) (sh' : sm_S) (μ' : sm_M), sh'.length = sh.length + rm'.cells → sm_sl sh' = sm_sl sh + rm'.slots → sm_ag sh.length sh'.length ad' ad → Q' v sh' μ' → (rm'.cells = 0 ∨ (L.all (sm_no sh.length sh'.length) = true ∧ r.all (sm_nv sh.length sh'.length) = true)) ∧ sm_E cl X (pc + 3) L (v.toList ++ r) ad' sh' μ') → sm_E cl X pc L (As.reverse ++ r) ad sh μ
theorem sm_recv {cl : List vw_C} {D : va_G} {cA : Nat → ClassId} {ad : Nat → Nat} {sh : sm_S} {μ : sm_M} {H : Heap} {s : State} {tys : List (ClassId × FieldType)} {p ci N : Nat} {C : String} {T : u_T} {fs : List (Option (Option Nat))} (hK : va_K D cl tys s) (hP : va_P D cl (sm_w ad cA sh μ) H) (hs : sh[p]? = some (.inl (ci, fs))) (hc : cl[ci]? = some (C, T, N)) : ∃ cellB : Cell, H[ad p]? = some cellB ∧ cellB.vm.isStatics = false ∧ s.vm.findClass C = some cellB.cls := by
  obtain ⟨r, h1, cell, q1, q2, q3, -⟩ := hP p (ad p, .inr (ci, fs.mapIdx (sm_f ad (μ.1 p)))) (by rw [sm_w_at, hs]; rfl)
  refine ⟨cell, q1, by rw [q3]; rfl, ?_⟩
  rw [q2]
  exact (hK.1 ci _ hc).2.1
theorem sm_cal_S {cl : List vw_C} {NW : List Cond} {cc : ByteArray} {own : String} {Ts : List Cond} {y : MethodName} {bytes : ByteArray} {maxL idx n' : Nat} {ret' : Option FieldType} {W' : List Cond} (hG : GoodIn Ts (va_wsS own idx y (Cond.code y bytes maxL ret' :: W'))) (hd : y.cls ≠ "java/lang/invoke/MethodHandle" ∧ y.cls ≠ "java/lang/invoke/VarHandle" ∧ (parseMethodDescriptor y.desc).map (fun d => d.parameters.length) = some n') (hm : maxL ≤ 13) : sm_Cal cl NW cc own Ts (.invokestatic idx) y (Cond.code y bytes maxL ret' :: W') n' none := by
  intro X n ret rm N S ini hNW hX pc L r ad sh μ As Q' rm' hna hrc hC hfr hlo hN hS hw d kk
  obtain ⟨⟨l, D, cA, NW'⟩, pr, e, R, s, m, args, below, meth, c, nL, A, H0, Q, n0, s0⟩ := X
  obtain ⟨hx, hb, hml, hn, hown, hts, hK, hlk, hrt, hR, hA, hc0, hs0, hin, hnw⟩ := hX
  subst hNW hR
  intro ls H locs cells slots g1 g2 h1 h2 h3 h4
  refine sm_call_core (Q' := Q') (sz := H.size) (va_runS (As := As.map (sm_v ad)) (rest := r.map (sm_v ad)) ⟨hx, hb, hml, hown, hts⟩ (hC H.size) (va_cwS _ hts hG rfl rfl rfl hd ⟨hfr, by omega⟩) (⟨fun a U g mk q => by obtain ⟨q0, q1, qP, qK, qD, qN⟩ := q; exact ⟨q0, q1, qP, va_K.moved (u := U) (U := U.calling g mk a) (Vm.Alike.refl U.vm) qK, qD, qN.same rfl⟩, fun U hU hW => ⟨rfl, by rw [hU], by rw [hU]; exact h2, va_K.moved hW.alike hK, h3.weaken (fun _ _ _ _ => trivial), hnw.warm hW⟩⟩) rfl (by simpa using hna) h1.1 (by simp [F0, List.map_append, List.map_reverse]) (lv_room (by simpa [sm_v_cat, Function.comp_def] using hw)) d ⟨by omega, by omega⟩) h4 (sm_A_in h3 h4 hA) (fun v ad' sh' μ' H1 locs1 e1 e2 hag q p1 p2 p3 => ?_)
  obtain ⟨hst, kE⟩ := kk v ad' sh' μ' e1 e2 hag q
  obtain ⟨hh, hr⟩ := sm_stab e1 hag hst
  have k2 := kE ls H1 locs1 (cells + rm'.cells) (slots + rm'.slots) (by omega) (by omega) (hh _ _ h1) p1 p2 p3
  rw [List.map_append, hr] at k2
  have e9 : (v.map (sm_v ad')).toList = v.toList.map (sm_v ad') := by cases v <;> rfl
  rw [e9]
  exact k2
theorem sm_cal_SN {cl : List vw_C} {NW : List Cond} {cc : ByteArray} {own : String} {Ts : List Cond} {y : MethodName} {bytes : ByteArray} {maxL idx n' : Nat} {ret' : Option FieldType} {W' : List Cond} {host : String} (hG : GoodIn Ts (Cond.code y bytes maxL ret' :: W')) (hst : Cond.static y ∈ Ts) (hi : Cond.initialized y.cls ∈ Ts) (hl : Cond.methodLinkNest own idx y host ∈ NW) (hd : y.cls ≠ "java/lang/invoke/MethodHandle" ∧ y.cls ≠ "java/lang/invoke/VarHandle" ∧ (parseMethodDescriptor y.desc).map (fun d => d.parameters.length) = some n') (hm : maxL ≤ 13) : sm_Cal cl NW cc own Ts (.invokestatic idx) y (Cond.code y bytes maxL ret' :: W') n' none := by
  intro X n ret rm N S ini hNW hX pc L r ad sh μ As Q' rm' hna hrc hC hfr hlo hN hS hw d kk
  obtain ⟨⟨l, D, cA, NW'⟩, pr, e, R, s, m, args, below, meth, c, nL, A, H0, Q, n0, s0⟩ := X
  obtain ⟨hx, hb, hml, hn, hown, hts, hK, hlk, hrt, hR, hA, hc0, hs0, hin, hnw⟩ := hX
  subst hNW hR
  intro ls H locs cells slots g1 g2 h1 h2 h3 h4
  refine sm_call_core (Q' := Q') (sz := H.size) (va_runSN (As := As.map (sm_v ad)) (rest := r.map (sm_v ad)) ⟨hx, hb, hml, hown, hts⟩ (hC H.size) (⟨va_cnB _ hts hG rfl rfl rfl (hnw _ hl).2 (hts _ hi) hd ⟨hfr, by omega⟩, hts _ hst, trivial⟩) (⟨fun a U g mk q => by obtain ⟨q0, q1, qP, qK, qD, qN⟩ := q; exact ⟨q0, q1, qP, va_K.moved (u := U) (U := U.calling g mk a) (Vm.Alike.refl U.vm) qK, qD, qN.same rfl⟩, fun U hU hW => ⟨rfl, by rw [hU], by rw [hU]; exact h2, va_K.moved hW.alike hK, h3.weaken (fun _ _ _ _ => trivial), hnw.warm hW⟩⟩) rfl (by simpa using hna) h1.1 (by simp [F0, List.map_append, List.map_reverse]) (lv_room (by simpa [sm_v_cat, Function.comp_def] using hw)) d ⟨by omega, by omega⟩) h4 (sm_A_in h3 h4 hA) (fun v ad' sh' μ' H1 locs1 e1 e2 hag q p1 p2 p3 => ?_)
  obtain ⟨hst, kE⟩ := kk v ad' sh' μ' e1 e2 hag q
  obtain ⟨hh, hr⟩ := sm_stab e1 hag hst
  have k2 := kE ls H1 locs1 (cells + rm'.cells) (slots + rm'.slots) (by omega) (by omega) (hh _ _ h1) p1 p2 p3
  rw [List.map_append, hr] at k2
  have e9 : (v.map (sm_v ad')).toList = v.toList.map (sm_v ad') := by cases v <;> rfl
  rw [e9]
  exact k2
theorem sm_cal_V {cl : List vw_C} {NW : List Cond} {cc : ByteArray} {own : String} {Ts : List Cond} {y : MethodName} {bytes : ByteArray} {maxL idx n' : Nat} {ret' : Option FieldType} {W' : List Cond} {ci N0 : Nat} {T0 : u_T} (hcl : cl[ci]? = some (y.cls, T0, N0)) (hG : GoodIn Ts (wsV own idx y.cls y (Cond.code y bytes maxL ret' :: W'))) (hd : y.cls ≠ "java/lang/invoke/MethodHandle" ∧ y.cls ≠ "java/lang/invoke/VarHandle" ∧ (parseMethodDescriptor y.desc).map (fun d => d.parameters.length) = some n') (hm : maxL ≤ 13) : sm_Cal cl NW cc own Ts (.invokevirtual idx) y (Cond.code y bytes maxL ret' :: W') (n' + 1) (some ci) := by
  intro X n ret rm N S ini hNW hX pc L r ad sh μ As Q' rm' hna hrc hC hfr hlo hN hS hw d kk
  obtain ⟨⟨l, D, cA, NW'⟩, pr, e, R, s, m, args, below, meth, c, nL, A, H0, Q, n0, s0⟩ := X
  obtain ⟨hx, hb, hml, hn, hown, hts, hK, hlk, hrt, hR, hA, hc0, hs0, hin, hnw⟩ := hX
  subst hNW hR
  obtain ⟨p0, As, fs0, rfl, hs0'⟩ := hrc
  have hna : As.length = n' := by simpa using hna
  intro ls H locs cells slots g1 g2 h1 h2 h3 h4
  refine sm_call_core (Q' := Q') (sz := H.size) (va_runV (As := As.map (sm_v ad)) (rest := r.map (sm_v ad)) ⟨hx, hb, hml, hown, hts⟩ (hC H.size) (cwV _ hts hG rfl rfl rfl ⟨rfl, hd⟩ ⟨hfr, by omega⟩) ((show PreV s H _ (ad p0) _ (As.map (sm_v ad)) from ⟨fun a U g mk q => by obtain ⟨q0, q1, qP, qK, qD, qN⟩ := q; exact ⟨q0, q1, qP, va_K.moved (u := U) (U := U.calling g mk a) (Vm.Alike.refl U.vm) qK, qD, qN.same rfl⟩, sm_recv hK h2 hs0' hcl, fun U hU hW => ⟨rfl, by rw [hU], by rw [hU]; exact h2, va_K.moved hW.alike hK, h3.weaken (fun _ _ _ _ => trivial), hnw.warm hW⟩⟩)) rfl (by simpa using hna) h1.1 (by simp [F0, sm_v, List.map_append, List.map_reverse]) (lv_room (by simpa [sm_v_cat, Function.comp_def] using hw)) d ⟨by omega, by omega⟩) h4 (sm_A_in h3 h4 hA) (fun v ad' sh' μ' H1 locs1 e1 e2 hag q p1 p2 p3 => ?_)
  obtain ⟨hst, kE⟩ := kk v ad' sh' μ' e1 e2 hag q
  obtain ⟨hh, hr⟩ := sm_stab e1 hag hst
  have k2 := kE ls H1 locs1 (cells + rm'.cells) (slots + rm'.slots) (by omega) (by omega) (hh _ _ h1) p1 p2 p3
  rw [List.map_append, hr] at k2
  have e9 : (v.map (sm_v ad')).toList = v.toList.map (sm_v ad') := by cases v <;> rfl
  rw [e9]
  exact k2
theorem sm_cal_VN {cl : List vw_C} {NW : List Cond} {cc : ByteArray} {own : String} {Ts : List Cond} {y : MethodName} {bytes : ByteArray} {maxL idx n' : Nat} {ret' : Option FieldType} {W' : List Cond} {host : String} {ci N0 : Nat} {T0 : u_T} (hcl : cl[ci]? = some (y.cls, T0, N0)) (hG : GoodIn Ts (Cond.code y bytes maxL ret' :: W')) (him : Cond.instanceMethod y ∈ Ts) (hse : Cond.selects y.cls y y ∈ Ts) (hi : Cond.initialized y.cls ∈ Ts) (hl : Cond.methodLinkNest own idx y host ∈ NW) (hd : y.cls ≠ "java/lang/invoke/MethodHandle" ∧ y.cls ≠ "java/lang/invoke/VarHandle" ∧ (parseMethodDescriptor y.desc).map (fun d => d.parameters.length) = some n') (hm : maxL ≤ 13) : sm_Cal cl NW cc own Ts (.invokevirtual idx) y (Cond.code y bytes maxL ret' :: W') (n' + 1) (some ci) := by
  intro X n ret rm N S ini hNW hX pc L r ad sh μ As Q' rm' hna hrc hC hfr hlo hN hS hw d kk
  obtain ⟨⟨l, D, cA, NW'⟩, pr, e, R, s, m, args, below, meth, c, nL, A, H0, Q, n0, s0⟩ := X
  obtain ⟨hx, hb, hml, hn, hown, hts, hK, hlk, hrt, hR, hA, hc0, hs0, hin, hnw⟩ := hX
  subst hNW hR
  obtain ⟨p0, As, fs0, rfl, hs0'⟩ := hrc
  have hna : As.length = n' := by simpa using hna
  intro ls H locs cells slots g1 g2 h1 h2 h3 h4
  refine sm_call_core (Q' := Q') (sz := H.size) (va_runVN (As := As.map (sm_v ad)) (rest := r.map (sm_v ad)) ⟨hx, hb, hml, hown, hts⟩ (hC H.size) (⟨va_cnB _ hts hG rfl rfl rfl (hnw _ hl).2 (hts _ hi) hd ⟨hfr, by omega⟩, hts _ him, hts _ hse⟩) ((show PreV s H _ (ad p0) _ (As.map (sm_v ad)) from ⟨fun a U g mk q => by obtain ⟨q0, q1, qP, qK, qD, qN⟩ := q; exact ⟨q0, q1, qP, va_K.moved (u := U) (U := U.calling g mk a) (Vm.Alike.refl U.vm) qK, qD, qN.same rfl⟩, sm_recv hK h2 hs0' hcl, fun U hU hW => ⟨rfl, by rw [hU], by rw [hU]; exact h2, va_K.moved hW.alike hK, h3.weaken (fun _ _ _ _ => trivial), hnw.warm hW⟩⟩)) rfl (by simpa using hna) h1.1 (by simp [F0, sm_v, List.map_append, List.map_reverse]) (lv_room (by simpa [sm_v_cat, Function.comp_def] using hw)) d ⟨by omega, by omega⟩) h4 (sm_A_in h3 h4 hA) (fun v ad' sh' μ' H1 locs1 e1 e2 hag q p1 p2 p3 => ?_)
  obtain ⟨hst, kE⟩ := kk v ad' sh' μ' e1 e2 hag q
  obtain ⟨hh, hr⟩ := sm_stab e1 hag hst
  have k2 := kE ls H1 locs1 (cells + rm'.cells) (slots + rm'.slots) (by omega) (by omega) (hh _ _ h1) p1 p2 p3
  rw [List.map_append, hr] at k2
  have e9 : (v.map (sm_v ad')).toList = v.toList.map (sm_v ad') := by cases v <;> rfl
  rw [e9]
  exact k2
theorem sm_cal_I {cl : List vw_C} {NW : List Cond} {cc : ByteArray} {own : String} {Ts : List Cond} {y : MethodName} {bytes : ByteArray} {maxL idx n' : Nat} {ret' : Option FieldType} {W' : List Cond} {ci : Nat} (hG : GoodIn Ts (Cond.code y bytes maxL none :: W')) (hi : Cond.initialized y.cls ∈ Ts) (hl : Cond.methodLink own idx y ∈ Ts) (him : Cond.instanceMethod y ∈ Ts) (hy1 : y.name = "<init>") (hd : y.cls ≠ "java/lang/invoke/MethodHandle" ∧ y.cls ≠ "java/lang/invoke/VarHandle" ∧ (parseMethodDescriptor y.desc).map (fun d => d.parameters.length) = some n') (hm : maxL ≤ 13) : sm_Cal cl NW cc own Ts (.invokespecial idx) y (Cond.code y bytes maxL none :: W') (n' + 1) (some ci) := by
  intro X n ret rm N S ini hNW hX pc L r ad sh μ As Q' rm' hna hrc hC hfr hlo hN hS hw d kk
  obtain ⟨⟨l, D, cA, NW'⟩, pr, e, R, s, m, args, below, meth, c, nL, A, H0, Q, n0, s0⟩ := X
  obtain ⟨hx, hb, hml, hn, hown, hts, hK, hlk, hrt, hR, hA, hc0, hs0, hin, hnw⟩ := hX
  subst hNW hR
  obtain ⟨p0, As, fs0, rfl, hs0'⟩ := hrc
  have hna : As.length = n' := by simpa using hna
  intro ls H locs cells slots g1 g2 h1 h2 h3 h4
  refine sm_call_core (Q' := Q') (sz := H.size) (va_runI (As := As.map (sm_v ad)) (rest := r.map (sm_v ad)) ⟨hx, hb, hml, hown, hts⟩ (hC H.size) (cwI _ hts hG rfl rfl rfl (hts _ hi) (hts _ hl) (hts _ him) hy1 hd ⟨hfr, by omega⟩) (⟨fun a U g mk q => by obtain ⟨q0, q1, qP, qK, qD, qN⟩ := q; exact ⟨q0, q1, qP, va_K.moved (u := U) (U := U.calling g mk a) (Vm.Alike.refl U.vm) qK, qD, qN.same rfl⟩, fun U hU hW => ⟨rfl, by rw [hU], by rw [hU]; exact h2, va_K.moved hW.alike hK, h3.weaken (fun _ _ _ _ => trivial), hnw.warm hW⟩⟩) rfl (by simpa using hna) h1.1 (by simp [F0, sm_v, List.map_append, List.map_reverse]) (lv_room (by simpa [sm_v_cat, Function.comp_def] using hw)) d ⟨by omega, by omega⟩) h4 (sm_A_in h3 h4 hA) (fun v ad' sh' μ' H1 locs1 e1 e2 hag q p1 p2 p3 => ?_)
  obtain ⟨hst, kE⟩ := kk v ad' sh' μ' e1 e2 hag q
  obtain ⟨hh, hr⟩ := sm_stab e1 hag hst
  have k2 := kE ls H1 locs1 (cells + rm'.cells) (slots + rm'.slots) (by omega) (by omega) (hh _ _ h1) p1 p2 p3
  rw [List.map_append, hr] at k2
  have e9 : (v.map (sm_v ad')).toList = v.toList.map (sm_v ad') := by cases v <;> rfl
  rw [e9]
  exact k2
theorem sm_cal_IN {cl : List vw_C} {NW : List Cond} {cc : ByteArray} {own : String} {Ts : List Cond} {y : MethodName} {bytes : ByteArray} {maxL idx n' : Nat} {ret' : Option FieldType} {W' : List Cond} {host : String} {ci : Nat} (hG : GoodIn Ts (Cond.code y bytes maxL none :: W')) (hi : Cond.initialized y.cls ∈ Ts) (hl : Cond.methodLinkNest own idx y host ∈ NW) (him : Cond.instanceMethod y ∈ Ts) (hy1 : y.name = "<init>") (hd : y.cls ≠ "java/lang/invoke/MethodHandle" ∧ y.cls ≠ "java/lang/invoke/VarHandle" ∧ (parseMethodDescriptor y.desc).map (fun d => d.parameters.length) = some n') (hm : maxL ≤ 13) : sm_Cal cl NW cc own Ts (.invokespecial idx) y (Cond.code y bytes maxL none :: W') (n' + 1) (some ci) := by
  intro X n ret rm N S ini hNW hX pc L r ad sh μ As Q' rm' hna hrc hC hfr hlo hN hS hw d kk
  obtain ⟨⟨l, D, cA, NW'⟩, pr, e, R, s, m, args, below, meth, c, nL, A, H0, Q, n0, s0⟩ := X
  obtain ⟨hx, hb, hml, hn, hown, hts, hK, hlk, hrt, hR, hA, hc0, hs0, hin, hnw⟩ := hX
  subst hNW hR
  obtain ⟨p0, As, fs0, rfl, hs0'⟩ := hrc
  have hna : As.length = n' := by simpa using hna
  intro ls H locs cells slots g1 g2 h1 h2 h3 h4
  refine sm_call_core (Q' := Q') (sz := H.size) (va_runIN (As := As.map (sm_v ad)) (rest := r.map (sm_v ad)) ⟨hx, hb, hml, hown, hts⟩ (hC H.size) (⟨va_cnB _ hts hG rfl rfl rfl (hnw _ hl).2 (hts _ hi) hd ⟨hfr, by omega⟩, hy1, hts _ him⟩) (⟨fun a U g mk q => by obtain ⟨q0, q1, qP, qK, qD, qN⟩ := q; exact ⟨q0, q1, qP, va_K.moved (u := U) (U := U.calling g mk a) (Vm.Alike.refl U.vm) qK, qD, qN.same rfl⟩, fun U hU hW => ⟨rfl, by rw [hU], by rw [hU]; exact h2, va_K.moved hW.alike hK, h3.weaken (fun _ _ _ _ => trivial), hnw.warm hW⟩⟩) rfl (by simpa using hna) h1.1 (by simp [F0, sm_v, List.map_append, List.map_reverse]) (lv_room (by simpa [sm_v_cat, Function.comp_def] using hw)) d ⟨by omega, by omega⟩) h4 (sm_A_in h3 h4 hA) (fun v ad' sh' μ' H1 locs1 e1 e2 hag q p1 p2 p3 => ?_)
  obtain ⟨hst, kE⟩ := kk v ad' sh' μ' e1 e2 hag q
  obtain ⟨hh, hr⟩ := sm_stab e1 hag hst
  have k2 := kE ls H1 locs1 (cells + rm'.cells) (slots + rm'.slots) (by omega) (by omega) (hh _ _ h1) p1 p2 p3
  rw [List.map_append, hr] at k2
  have e9 : (v.map (sm_v ad')).toList = v.toList.map (sm_v ad') := by cases v <;> rfl
  rw [e9]
  exact k2
theorem sm_objInit {cl : List vw_C} {X : sm_X} {cc : ByteArray} {n : Nat} {own : String} {Ts : List Cond} {ret : Option FieldType} {rm : Room} {N S : Nat} {ini : Bool} (hX : sm_ok cl X cc n own Ts ret rm N S ini) {pc : Nat} {L : List (Option Value)} {r : List Value} {ad : Nat → Nat} {sh : sm_S} {μ : sm_M} {idx p : Nat} (hl : Cond.methodLink own idx Lib.objectInit ∈ Ts) (hi : Cond.instanceMethod Lib.objectInit ∈ Ts) (hc : Cond.code Lib.objectInit ⟨#[0xb1]⟩ 1 none ∈ Ts) (hf : 1 ≤ rm.frames) (hlo : 20 ≤ rm.locals) (hw : (r.map fun v => v.category).sum ≤ 8) (d : decode cc pc = .ok (.invokespecial idx, 3)) (k : sm_E cl X (pc + 3) L r ad sh μ) : sm_E cl X pc L (.ref p :: r) ad sh μ := by
  obtain ⟨⟨l, D, cA, NW⟩, pr, e, R, s, m, args, below, meth, c, nL, A, H0, Q, n0, s0⟩ := X
  obtain ⟨hx, hb, hml, hn, hown, hts, hK, hlk, hrt, hR, hA, hc0, hs0, hin, hnw⟩ := hX
  subst hR
  intro ls H locs cells slots g1 g2 h1 h2 h3 h4
  have hw2 := lv_room (m := m) (pc := pc) (ls := ls) (rest := (.ref (ad p) :: r.map (sm_v ad))) (st := r.map (sm_v ad)) (by simpa [sm_v_cat, Function.comp_def] using hw)
  exact W.objInit hx hb hown (hts _ hl) (hts _ hi) (hts _ hc) (g := F0 m pc ls (.ref (ad p) :: r.map (sm_v ad))) rfl (h1.1.trans hml.symm) rfl d hf (by omega) (k ls H locs cells slots g1 g2 h1 h2 h3 h4)
theorem sm_new_ag {sh : sm_S} {ad : Nat → Nat} (a : Nat) : sm_ag sh.length (sh.length + 1) (fun q => if q = sh.length then a else ad q) ad := by
  intro p hp
  have h : p ≠ sh.length := by omega
  simp [h]
theorem sm_new {cl : List vw_C} {X : sm_X} {cc : ByteArray} {n : Nat} {own : String} {Ts : List Cond} {ret : Option FieldType} {rm : Room} {N S : Nat} {ini : Bool} (hX : sm_ok cl X cc n own Ts ret rm N S ini) {pc : Nat} {L : List (Option Value)} {r : List Value} {ad : Nat → Nat} {sh : sm_S} {μ : sm_M} {idx ci N' : Nat} {C : String} {T : u_T} {fs : List (Option (Option Nat))} (t : Nat → FieldType) (e2 : cl[ci]? = some (C, T, N')) (e5 : ∀ w ∈ u_ws C T N', w ∈ Ts) (e7 : ∀ k, k < N' → parseFieldDescriptor (T k).2.2.1 = some (t k)) (hl : Cond.classLink own idx C ∈ Ts) (hi : Cond.instantiable C N' ∈ Ts) (hz : Cond.initialized C ∈ Ts) (hfl : fs.length = N') (hfs : ∀ j, j < N' → ∀ ad : Nat → Nat, defaultValue (t j) = vp_V (fs.mapIdx (sm_f ad (fun _ => 0))) j) (hno : ∀ ad ad' : Nat → Nat, fs.mapIdx (sm_f ad (fun _ => 0)) = fs.mapIdx (sm_f ad' (fun _ => 0))) (hnL : L.all (sm_no sh.length (sh.length + 1)) = true) (hnr : r.all (sm_nv sh.length (sh.length + 1)) = true) (hns : sh.all (sm_ns sh.length (sh.length + 1)) = true) (hN : sh.length + 1 ≤ N) (hS : sm_sl sh + N' ≤ S) (d : decode cc pc = .ok (.new idx, 3)) (k : ∀ ad' : Nat → Nat, sm_ag sh.length (sh.length + 1) ad' ad → sm_E cl X (pc + 3) L (.ref sh.length :: r) ad' (sh ++ [.inl (ci, fs)]) (sm_z μ sh.length)) : sm_E cl X pc L r ad sh μ := by
  obtain ⟨⟨l, D, cA, NW⟩, pr, e, R, s, m, args, below, meth, c, nL, A, H0, Q, n0, s0⟩ := X
  obtain ⟨hx, hb, hml, hn, hown, hts, hK, hlk, hrt, hR, hA, hc0, hs0, hin, hnw⟩ := hX
  subst hR hfl
  intro ls H locs cells slots g1 g2 h1 h2 h3 h4
  refine va_new (ci := ci) (fs := fs.mapIdx (sm_f (fun q' => ad q') (fun _ => 0))) (C := C) (T := T) (N := fs.length) hx hb hts e5 t e7 hown (hts _ hl) (hts _ hi) (hts _ hz) hK h2 h3 h4 hA e2 (fun j hj => hfs j hj _) (by omega) (by omega) d (fun q H1 p1 p2 p3 => ?_)
  have ha : (fun q' => if q' = sh.length then q else ad q') sh.length = q := by simp
  have hag := sm_new_ag (sh := sh) (ad := ad) q
  have hw := sm_w_new (cA := cA) (μ := μ) (x := .inl (ci, fs)) ha hag hns
  have he : (sm_e (fun q' => if q' = sh.length then q else ad q') cA (sm_z μ sh.length) sh.length (.inl (ci, fs))).2 = .inr (ci, fs.mapIdx (sm_f (fun q' => ad q') (fun _ => 0))) := by
    have hz0 : (sm_z μ sh.length).1 sh.length = fun _ => 0 := by simp [sm_z]
    show Sum.inr (ci, fs.mapIdx (sm_f _ ((sm_z μ sh.length).1 sh.length))) = _
    rw [hz0, hno _ (fun q' => ad q')]
  have k2 := k (fun q' => if q' = sh.length then q else ad q') hag ls H1 locs (cells + 1) (slots + fs.length) (by simp; omega) (by rw [sm_sl_app]; simp [sm_sl, sm_sz]; simp [sm_sl] at g2; omega) (h1.ag hag hnL) (by rw [hw, he]; exact p1) (by rw [hw, he]; exact p2) p3
  rw [List.map_cons, sm_st_ag hag hnr] at k2
  have e8 : sm_v (fun q' => if q' = sh.length then q else ad q') (.ref sh.length) = .ref q := by simp [sm_v]
  rw [e8] at k2
  exact k2
theorem sm_newa0 {cl : List vw_C} {X : sm_X} {cc : ByteArray} {n : Nat} {own : String} {Ts : List Cond} {ret : Option FieldType} {rm : Room} {N S : Nat} {ini : Bool} (hX : sm_ok cl X cc n own Ts ret rm N S ini) {pc : Nat} {L : List (Option Value)} {r : List Value} {ad : Nat → Nat} {sh : sm_S} {μ : sm_M} {n0' : Int32} {len : Nat} (harr : Cond.arrayClass .int ∈ Ts) (hn0 : ¬ n0' < 0) (hlen : n0'.toNatClampNeg = len) (hbig : len ≤ 100000) (hnL : L.all (sm_no sh.length (sh.length + 1)) = true) (hnr : r.all (sm_nv sh.length (sh.length + 1)) = true) (hns : sh.all (sm_ns sh.length (sh.length + 1)) = true) (hN : sh.length + 1 ≤ N) (hS : sm_sl sh + len ≤ S) (d : decode cc pc = .ok (.newarray .int, 2)) (k : ∀ ad' : Nat → Nat, sm_ag sh.length (sh.length + 1) ad' ad → sm_E cl X (pc + 2) L (.ref sh.length :: r) ad' (sh ++ [.inr (0, len)]) (sm_z μ sh.length)) : sm_E cl X pc L (.int n0' :: r) ad sh μ := by
  obtain ⟨⟨l, D, cA, NW⟩, pr, e, R, s, m, args, below, meth, c, nL, A, H0, Q, n0, s0⟩ := X
  obtain ⟨hx, hb, hml, hn, hown, hts, hK, hlk, hrt, hR, hA, hc0, hs0, hin, hnw⟩ := hX
  subst hR
  intro ls H locs cells slots g1 g2 h1 h2 h3 h4
  refine va_newa (atype := .int) (a0 := (len, .inl (fun _ => 0))) (N' := len) (ty := .int) hx hb (hts _ harr) rfl hK h2 h3 h4 hA (fun cA => rfl) hn0 hlen (by simp [componentBytes]; omega) (by omega) (by omega) d (fun q cA' H1 hK' p1 p2 p3 => ?_)
  have hcA : cA' = cA 0 := by
    have z1 := (hK'.2 3 _ rfl).2
    have z2 := (hK.2 0 _ rfl).2
    exact Option.some.inj (z1.symm.trans z2)
  subst hcA
  have ha : (fun q' => if q' = sh.length then q else ad q') sh.length = q := by simp
  have hag := sm_new_ag (sh := sh) (ad := ad) q
  have hw := sm_w_new (cA := cA) (μ := μ) (x := .inr (0, len)) ha hag hns
  have he : (sm_e (fun q' => if q' = sh.length then q else ad q') cA (sm_z μ sh.length) sh.length (.inr (0, len))).2 = .inl (cA 0, len, .inl (fun _ => 0)) := by
    simp [sm_e, sm_z]
  have k2 := k (fun q' => if q' = sh.length then q else ad q') hag ls H1 locs (cells + 1) (slots + len) (by simp; omega) (by rw [sm_sl_app]; simp [sm_sl, sm_sz]; simp [sm_sl] at g2; omega) (h1.ag hag hnL) (by rw [hw, he]; exact p1) (by rw [hw, he]; exact p2) p3
  rw [List.map_cons, sm_st_ag hag hnr] at k2
  have e8 : sm_v (fun q' => if q' = sh.length then q else ad q') (.ref sh.length) = .ref q := by simp [sm_v]
  rw [e8] at k2
  exact k2
theorem sm_newa1 {cl : List vw_C} {X : sm_X} {cc : ByteArray} {n : Nat} {own : String} {Ts : List Cond} {ret : Option FieldType} {rm : Room} {N S : Nat} {ini : Bool} (hX : sm_ok cl X cc n own Ts ret rm N S ini) {pc : Nat} {L : List (Option Value)} {r : List Value} {ad : Nat → Nat} {sh : sm_S} {μ : sm_M} {n0' : Int32} {len : Nat} (harr : Cond.arrayClass .boolean ∈ Ts) (hn0 : ¬ n0' < 0) (hlen : n0'.toNatClampNeg = len) (hbig : len ≤ 100000) (hnL : L.all (sm_no sh.length (sh.length + 1)) = true) (hnr : r.all (sm_nv sh.length (sh.length + 1)) = true) (hns : sh.all (sm_ns sh.length (sh.length + 1)) = true) (hN : sh.length + 1 ≤ N) (hS : sm_sl sh + len ≤ S) (d : decode cc pc = .ok (.newarray .boolean, 2)) (k : ∀ ad' : Nat → Nat, sm_ag sh.length (sh.length + 1) ad' ad → sm_E cl X (pc + 2) L (.ref sh.length :: r) ad' (sh ++ [.inr (1, len)]) (sm_z μ sh.length)) : sm_E cl X pc L (.int n0' :: r) ad sh μ := by
  obtain ⟨⟨l, D, cA, NW⟩, pr, e, R, s, m, args, below, meth, c, nL, A, H0, Q, n0, s0⟩ := X
  obtain ⟨hx, hb, hml, hn, hown, hts, hK, hlk, hrt, hR, hA, hc0, hs0, hin, hnw⟩ := hX
  subst hR
  intro ls H locs cells slots g1 g2 h1 h2 h3 h4
  refine va_newa (atype := .boolean) (a0 := (len, .inl (fun _ => 0))) (N' := len) (ty := .boolean) hx hb (hts _ harr) rfl hK h2 h3 h4 hA (fun cA => rfl) hn0 hlen (by simp [componentBytes]; omega) (by omega) (by omega) d (fun q cA' H1 hK' p1 p2 p3 => ?_)
  have hcA : cA' = cA 1 := by
    have z1 := (hK'.2 3 _ rfl).2
    have z2 := (hK.2 1 _ rfl).2
    exact Option.some.inj (z1.symm.trans z2)
  subst hcA
  have ha : (fun q' => if q' = sh.length then q else ad q') sh.length = q := by simp
  have hag := sm_new_ag (sh := sh) (ad := ad) q
  have hw := sm_w_new (cA := cA) (μ := μ) (x := .inr (1, len)) ha hag hns
  have he : (sm_e (fun q' => if q' = sh.length then q else ad q') cA (sm_z μ sh.length) sh.length (.inr (1, len))).2 = .inl (cA 1, len, .inl (fun _ => 0)) := by
    simp [sm_e, sm_z]
  have k2 := k (fun q' => if q' = sh.length then q else ad q') hag ls H1 locs (cells + 1) (slots + len) (by simp; omega) (by rw [sm_sl_app]; simp [sm_sl, sm_sz]; simp [sm_sl] at g2; omega) (h1.ag hag hnL) (by rw [hw, he]; exact p1) (by rw [hw, he]; exact p2) p3
  rw [List.map_cons, sm_st_ag hag hnr] at k2
  have e8 : sm_v (fun q' => if q' = sh.length then q else ad q') (.ref sh.length) = .ref q := by simp [sm_v]
  rw [e8] at k2
  exact k2
theorem sm_newa2 {cl : List vw_C} {X : sm_X} {cc : ByteArray} {n : Nat} {own : String} {Ts : List Cond} {ret : Option FieldType} {rm : Room} {N S : Nat} {ini : Bool} (hX : sm_ok cl X cc n own Ts ret rm N S ini) {pc : Nat} {L : List (Option Value)} {r : List Value} {ad : Nat → Nat} {sh : sm_S} {μ : sm_M} {n0' : Int32} {len : Nat} (harr : Cond.arrayClass .long ∈ Ts) (hn0 : ¬ n0' < 0) (hlen : n0'.toNatClampNeg = len) (hbig : len ≤ 100000) (hnL : L.all (sm_no sh.length (sh.length + 1)) = true) (hnr : r.all (sm_nv sh.length (sh.length + 1)) = true) (hns : sh.all (sm_ns sh.length (sh.length + 1)) = true) (hN : sh.length + 1 ≤ N) (hS : sm_sl sh + len ≤ S) (d : decode cc pc = .ok (.newarray .long, 2)) (k : ∀ ad' : Nat → Nat, sm_ag sh.length (sh.length + 1) ad' ad → sm_E cl X (pc + 2) L (.ref sh.length :: r) ad' (sh ++ [.inr (2, len)]) (sm_z μ sh.length)) : sm_E cl X pc L (.int n0' :: r) ad sh μ := by
  obtain ⟨⟨l, D, cA, NW⟩, pr, e, R, s, m, args, below, meth, c, nL, A, H0, Q, n0, s0⟩ := X
  obtain ⟨hx, hb, hml, hn, hown, hts, hK, hlk, hrt, hR, hA, hc0, hs0, hin, hnw⟩ := hX
  subst hR
  intro ls H locs cells slots g1 g2 h1 h2 h3 h4
  refine va_newa (atype := .long) (a0 := (len, .inr (.inl (fun _ => 0)))) (N' := len) (ty := .long) hx hb (hts _ harr) rfl hK h2 h3 h4 hA (fun cA => rfl) hn0 hlen (by simp [componentBytes]; omega) (by omega) (by omega) d (fun q cA' H1 hK' p1 p2 p3 => ?_)
  have hcA : cA' = cA 2 := by
    have z1 := (hK'.2 3 _ rfl).2
    have z2 := (hK.2 2 _ rfl).2
    exact Option.some.inj (z1.symm.trans z2)
  subst hcA
  have ha : (fun q' => if q' = sh.length then q else ad q') sh.length = q := by simp
  have hag := sm_new_ag (sh := sh) (ad := ad) q
  have hw := sm_w_new (cA := cA) (μ := μ) (x := .inr (2, len)) ha hag hns
  have he : (sm_e (fun q' => if q' = sh.length then q else ad q') cA (sm_z μ sh.length) sh.length (.inr (2, len))).2 = .inl (cA 2, len, .inr (.inl (fun _ => 0))) := by
    simp [sm_e, sm_z]
  have k2 := k (fun q' => if q' = sh.length then q else ad q') hag ls H1 locs (cells + 1) (slots + len) (by simp; omega) (by rw [sm_sl_app]; simp [sm_sl, sm_sz]; simp [sm_sl] at g2; omega) (h1.ag hag hnL) (by rw [hw, he]; exact p1) (by rw [hw, he]; exact p2) p3
  rw [List.map_cons, sm_st_ag hag hnr] at k2
  have e8 : sm_v (fun q' => if q' = sh.length then q else ad q') (.ref sh.length) = .ref q := by simp [sm_v]
  rw [e8] at k2
  exact k2
end
section
/-! a memory of which a part is known -/
abbrev dp_P : Type := (Nat → Nat → Option Int32) × (Nat → Nat → Option Int64)
def dp_le (P : dp_P) (μ : sm_M) : Prop := (∀ p i v, P.1 p i = some v → μ.1 p i = v) ∧ ∀ p i v, P.2 p i = some v → μ.2 p i = v
def dp_ui (P : dp_P) (p i : Nat) (v : Int32) : dp_P := (fun q j => bif Nat.beq q p then (bif Nat.beq j i then some v else P.1 q j) else P.1 q j, P.2)
def dp_ul (P : dp_P) (p i : Nat) (v : Int64) : dp_P := (P.1, fun q j => bif Nat.beq q p then (bif Nat.beq j i then some v else P.2 q j) else P.2 q j)
def dp_z (P : dp_P) (p : Nat) : dp_P := (fun q j => bif Nat.beq q p then some 0 else P.1 q j, fun q j => bif Nat.beq q p then some 0 else P.2 q j)
theorem dp_beq {a b : Nat} (h : Nat.beq a b = true) : a = b := Nat.eq_of_beq_eq_true h
theorem dp_bne {a b : Nat} (h : Nat.beq a b = false) : a ≠ b := Nat.ne_of_beq_eq_false h
theorem dp_le.ui {P : dp_P} {μ : sm_M} (h : dp_le P μ) (p i : Nat) (v : Int32) : dp_le (dp_ui P p i v) (sm_ui μ p i v) := by
  refine ⟨fun q j u hu0 => ?_, h.2⟩
  have hu : (bif Nat.beq q p then (bif Nat.beq j i then some v else P.1 q j) else P.1 q j) = some u := hu0
  clear hu0
  cases h1 : Nat.beq q p with
  | false =>
    rw [h1] at hu
    have := dp_bne h1
    simp only [sm_ui, this, if_false]
    exact h.1 q j u hu
  | true =>
    rw [h1] at hu
    have e1 := dp_beq h1
    subst e1
    cases h2 : Nat.beq j i with
    | false =>
      rw [h2] at hu
      have := dp_bne h2
      simp only [sm_ui, upd, this, if_true, if_false]
      exact h.1 q j u hu
    | true =>
      rw [h2] at hu
      have e2 := dp_beq h2
      subst e2
      simp only [sm_ui, upd, if_true]
      exact Option.some.inj hu
theorem dp_le.ul {P : dp_P} {μ : sm_M} (h : dp_le P μ) (p i : Nat) (v : Int64) : dp_le (dp_ul P p i v) (sm_ul μ p i v) := by
  refine ⟨h.1, fun q j u hu0 => ?_⟩
  have hu : (bif Nat.beq q p then (bif Nat.beq j i then some v else P.2 q j) else P.2 q j) = some u := hu0
  clear hu0
  cases h1 : Nat.beq q p with
  | false =>
    rw [h1] at hu
    have := dp_bne h1
    simp only [sm_ul, this, if_false]
    exact h.2 q j u hu
  | true =>
    rw [h1] at hu
    have e1 := dp_beq h1
    subst e1
    cases h2 : Nat.beq j i with
    | false =>
      rw [h2] at hu
      have := dp_bne h2
      simp only [sm_ul, vp_updL, this, if_true, if_false]
      exact h.2 q j u hu
    | true =>
      rw [h2] at hu
      have e2 := dp_beq h2
      subst e2
      simp only [sm_ul, vp_updL, if_true]
      exact Option.some.inj hu
theorem dp_le.z {P : dp_P} {μ : sm_M} (h : dp_le P μ) (p : Nat) : dp_le (dp_z P p) (sm_z μ p) := by
  refine ⟨fun q j u hu0 => ?_, fun q j u hu0 => ?_⟩
  · have hu : (bif Nat.beq q p then some 0 else P.1 q j) = some u := hu0
    clear hu0
    cases h1 : Nat.beq q p with
    | false =>
      rw [h1] at hu
      have := dp_bne h1
      simp only [sm_z, this, if_false]
      exact h.1 q j u hu
    | true =>
      rw [h1] at hu
      have e1 := dp_beq h1
      subst e1
      simp only [sm_z, if_true]
      exact Option.some.inj hu
  · have hu : (bif Nat.beq q p then some 0 else P.2 q j) = some u := hu0
    clear hu0
    cases h1 : Nat.beq q p with
    | false =>
      rw [h1] at hu
      have := dp_bne h1
      simp only [sm_z, this, if_false]
      exact h.2 q j u hu
    | true =>
      rw [h1] at hu
      have e1 := dp_beq h1
      subst e1
      simp only [sm_z, if_true]
      exact Option.some.inj hu
/-! numbers are worked out at once -/
def dp_nf {α : Type} (n : Nat) (k : Nat → α) : α := match n with
  | 0 => k 0
  | m + 1 => k (m + 1)
theorem dp_nf_eq {α : Type} (n : Nat) (k : Nat → α) : dp_nf n k = k n := by cases n <;> rfl
def dp_fi {α : Type} (x : Int32) (k : Int32 → α) : α := dp_nf x.toUInt32.toBitVec.toNat (fun n => k ⟨⟨BitVec.ofNat 32 n⟩⟩)
theorem dp_fi_eq {α : Type} (x : Int32) (k : Int32 → α) : dp_fi x k = k x := by
  unfold dp_fi
  rw [dp_nf_eq, BitVec.ofNat_toNat, BitVec.setWidth_eq]
def dp_fl {α : Type} (x : Int64) (k : Int64 → α) : α := dp_nf x.toUInt64.toBitVec.toNat (fun n => k ⟨⟨BitVec.ofNat 64 n⟩⟩)
theorem dp_fl_eq {α : Type} (x : Int64) (k : Int64 → α) : dp_fl x k = k x := by
  unfold dp_fl
  rw [dp_nf_eq, BitVec.ofNat_toNat, BitVec.setWidth_eq]
/-! which places were written: between two numbers -/
def dp_wu (w : Nat × Nat) (p : Nat) : Nat × Nat := (bif Nat.ble w.1 p then w.1 else p, bif Nat.ble (p + 1) w.2 then w.2 else p + 1)
def dp_wj (w w' : Nat × Nat) : Nat × Nat := (bif Nat.ble w.1 w'.1 then w.1 else w'.1, bif Nat.ble w'.2 w.2 then w.2 else w'.2)
def dp_ou (w : Nat × Nat) (μ' μ : sm_M) : Prop := ∀ q, (q < w.1 ∨ w.2 ≤ q) → μ'.1 q = μ.1 q ∧ μ'.2 q = μ.2 q
theorem dp_bl {b : Bool} {x y : Nat} : (bif b then x else y) = if b = true then x else y := by cases b <;> rfl
theorem dp_wu_out {w : Nat × Nat} {p q : Nat} (h : q < (dp_wu w p).1 ∨ (dp_wu w p).2 ≤ q) : q ≠ p ∧ (q < w.1 ∨ w.2 ≤ q) := by
  unfold dp_wu at h
  simp only [dp_bl, Nat.ble_eq] at h
  split at h <;> split at h <;> omega
theorem dp_wj_out {w w' : Nat × Nat} {q : Nat} (h : q < (dp_wj w w').1 ∨ (dp_wj w w').2 ≤ q) : (q < w.1 ∨ w.2 ≤ q) ∧ (q < w'.1 ∨ w'.2 ≤ q) := by
  unfold dp_wj at h
  simp only [dp_bl, Nat.ble_eq] at h
  split at h <;> split at h <;> omega
theorem dp_ou.ui {w : Nat × Nat} {μ μ0 : sm_M} (h : dp_ou w μ μ0) (p i : Nat) (v : Int32) : dp_ou (dp_wu w p) (sm_ui μ p i v) μ0 := by
  intro q hq
  obtain ⟨h1, h2⟩ := dp_wu_out hq
  have h3 := h q h2
  simpa [sm_ui, h1] using h3
theorem dp_ou.ul {w : Nat × Nat} {μ μ0 : sm_M} (h : dp_ou w μ μ0) (p i : Nat) (v : Int64) : dp_ou (dp_wu w p) (sm_ul μ p i v) μ0 := by
  intro q hq
  obtain ⟨h1, h2⟩ := dp_wu_out hq
  have h3 := h q h2
  simpa [sm_ul, h1] using h3
theorem dp_ou.z {w : Nat × Nat} {μ μ0 : sm_M} (h : dp_ou w μ μ0) (p : Nat) : dp_ou (dp_wu w p) (sm_z μ p) μ0 := by
  intro q hq
  obtain ⟨h1, h2⟩ := dp_wu_out hq
  have h3 := h q h2
  simpa [sm_z, h1] using h3
theorem dp_ou.tr {w w' : Nat × Nat} {μ'' μ' μ : sm_M} (h : dp_ou w μ' μ) (h' : dp_ou w' μ'' μ') : dp_ou (dp_wj w w') μ'' μ := by
  intro q hq
  obtain ⟨h1, h2⟩ := dp_wj_out hq
  have h3 := h q h1
  have h4 := h' q h2
  exact ⟨h4.1.trans h3.1, h4.2.trans h3.2⟩
def dp_w0 : Nat × Nat := (1000000, 0)
theorem dp_ou.rf {μ : sm_M} : dp_ou dp_w0 μ μ := fun _ _ => ⟨rfl, rfl⟩
theorem dp_ou.all {w : Nat × Nat} {μ' μ : sm_M} (h : dp_ou w μ' μ) (hw : w.2 ≤ w.1) : μ' = μ := by
  obtain ⟨a', b'⟩ := μ'
  obtain ⟨a, b⟩ := μ
  have e1 : a' = a := funext fun q => (h q (by omega)).1
  have e2 : b' = b := funext fun q => (h q (by omega)).2
  rw [e1, e2]
/-! where a run stands: pc, locals, stack, shape, memory, has it written; what it ends with; a class's tables: fields, constants, long constants, calls, classes, Object's constructor; its method: instructions, locals, answer, constructor -/
abbrev dp_w : Type := Nat × Nat
abbrev dp_T : Type := Nat × List (Option Value) × List Value × sm_S × dp_P × dp_w
abbrev dp_R : Type := Option Value × sm_S × dp_P × dp_w
abbrev dp_K : Type := (Nat → Option (Nat × Nat × Nat)) × (Nat → Option Int32) × (Nat → Option Int64) × (Nat → Option (Nat × Nat × Nat)) × (Nat → Option (Nat × List (Option (Option Nat)))) × Nat
abbrev dp_M : Type := List (Nat × Instr × Nat) × Nat × Option FieldType × Bool
abbrev dp_F : Type := Nat → List Value → sm_S → dp_P → Option dp_R
def dp_find (pc : Nat) : List (Nat × Instr × Nat) → Option (Instr × Nat)
  | [] => none
  | (q, i) :: t => bif Nat.beq q pc then some i else dp_find pc t
theorem dp_find_mem {pc : Nat} {tb : List (Nat × Instr × Nat)} {i : Instr × Nat} (h : dp_find pc tb = some i) : (pc, i) ∈ tb := by
  induction tb with
  | nil => cases h
  | cons a t ih =>
    obtain ⟨q, j⟩ := a
    have h : (bif Nat.beq q pc then some j else dp_find pc t) = some i := h
    cases hb : Nat.beq q pc with
    | false => rw [hb] at h; exact List.mem_cons_of_mem _ (ih h)
    | true =>
      rw [hb] at h
      have e1 := dp_beq hb
      have e2 : j = i := Option.some.inj h
      rw [e1, e2]
      exact List.mem_cons_self
def dp_g {α : Type} (b : Bool) (x : Option α) : Option α := bif b then x else none
theorem dp_g_ok {α : Type} {b : Bool} {x : Option α} {y : α} (h : dp_g b x = some y) : b = true ∧ x = some y := by
  cases b with
  | false => cases h
  | true => exact ⟨rfl, h⟩
def dp_o {α β : Type} (o : Option α) (k : α → Option β) : Option β := match o with
  | none => none
  | some a => k a
theorem dp_o_ok {α β : Type} {o : Option α} {k : α → Option β} {y : β} (h : dp_o o k = some y) : ∃ a, o = some a ∧ k a = some y := by
  cases o with
  | none => cases h
  | some a => exact ⟨a, rfl, h⟩
def dp_1i {β : Type} (st : List Value) (k : Int32 → List Value → Option β) : Option β := match st with
  | .int x :: r => k x r
  | _ => none
theorem dp_1i_ok {β : Type} {st : List Value} {k : Int32 → List Value → Option β} {y : β} (h : dp_1i st k = some y) : ∃ x r, st = .int x :: r ∧ k x r = some y := by
  unfold dp_1i at h
  split at h
  · exact ⟨_, _, rfl, h⟩
  · cases h
def dp_1l {β : Type} (st : List Value) (k : Int64 → List Value → Option β) : Option β := match st with
  | .long x :: r => k x r
  | _ => none
theorem dp_1l_ok {β : Type} {st : List Value} {k : Int64 → List Value → Option β} {y : β} (h : dp_1l st k = some y) : ∃ x r, st = .long x :: r ∧ k x r = some y := by
  unfold dp_1l at h
  split at h
  · exact ⟨_, _, rfl, h⟩
  · cases h
def dp_1r {β : Type} (st : List Value) (k : Nat → List Value → Option β) : Option β := match st with
  | .ref x :: r => k x r
  | _ => none
theorem dp_1r_ok {β : Type} {st : List Value} {k : Nat → List Value → Option β} {y : β} (h : dp_1r st k = some y) : ∃ x r, st = .ref x :: r ∧ k x r = some y := by
  unfold dp_1r at h
  split at h
  · exact ⟨_, _, rfl, h⟩
  · cases h
def dp_1v {β : Type} (st : List Value) (k : Value → List Value → Option β) : Option β := match st with
  | x :: r => k x r
  | _ => none
theorem dp_1v_ok {β : Type} {st : List Value} {k : Value → List Value → Option β} {y : β} (h : dp_1v st k = some y) : ∃ x r, st = x :: r ∧ k x r = some y := by
  unfold dp_1v at h
  split at h
  · exact ⟨_, _, rfl, h⟩
  · cases h
def dp_li {β : Type} (L : List (Option Value)) (i : Nat) (k : Int32 → Option β) : Option β := match L[i]? with
  | some (some (.int x)) => k x
  | _ => none
theorem dp_li_ok {β : Type} {L : List (Option Value)} {i : Nat} {k : Int32 → Option β} {y : β} (h : dp_li L i k = some y) : ∃ x, L[i]? = some (some (.int x)) ∧ k x = some y := by
  unfold dp_li at h
  split at h
  · exact ⟨_, by assumption, h⟩
  · cases h
def dp_ll {β : Type} (L : List (Option Value)) (i : Nat) (k : Int64 → Option β) : Option β := match L[i]? with
  | some (some (.long x)) => k x
  | _ => none
theorem dp_ll_ok {β : Type} {L : List (Option Value)} {i : Nat} {k : Int64 → Option β} {y : β} (h : dp_ll L i k = some y) : ∃ x, L[i]? = some (some (.long x)) ∧ k x = some y := by
  unfold dp_ll at h
  split at h
  · exact ⟨_, by assumption, h⟩
  · cases h
def dp_la {β : Type} (L : List (Option Value)) (i : Nat) (k : Nat → Option β) : Option β := match L[i]? with
  | some (some (.ref x)) => k x
  | _ => none
theorem dp_la_ok {β : Type} {L : List (Option Value)} {i : Nat} {k : Nat → Option β} {y : β} (h : dp_la L i k = some y) : ∃ x, L[i]? = some (some (.ref x)) ∧ k x = some y := by
  unfold dp_la at h
  split at h
  · exact ⟨_, by assumption, h⟩
  · cases h
def dp_tg {β : Type} (pc : Nat) (off : Int) (k : Nat → Option β) : Option β := match (pc : Int) + off with
  | .ofNat n => k n
  | .negSucc _ => none
theorem dp_tg_ok {β : Type} {pc : Nat} {off : Int} {k : Nat → Option β} {y : β} (h : dp_tg pc off k = some y) : ∃ n : Nat, (pc : Int) + off = (n : Int) ∧ k n = some y := by
  unfold dp_tg at h
  split at h
  · exact ⟨_, by assumption, h⟩
  · cases h
def dp_ob {β : Type} (sh : sm_S) (p ci : Nat) (k : List (Option (Option Nat)) → Option β) : Option β := match sh[p]? with
  | some (.inl (c, fs)) => bif Nat.beq c ci then k fs else none
  | _ => none
theorem dp_ob_ok {β : Type} {sh : sm_S} {p ci : Nat} {k : List (Option (Option Nat)) → Option β} {y : β} (h : dp_ob sh p ci k = some y) : ∃ fs, sh[p]? = some (.inl (ci, fs)) ∧ k fs = some y := by
  unfold dp_ob at h
  split at h
  · rename_i c fs heq
    cases hb : Nat.beq c ci with
    | false => rw [hb] at h; cases h
    | true =>
      rw [hb] at h
      have e := dp_beq hb
      subst e
      exact ⟨fs, heq, h⟩
  · cases h
def dp_ar {β : Type} (sh : sm_S) (p kd : Nat) (i : Int32) (k : Nat → Option β) : Option β := match sh[p]? with
  | some (.inr (c, n)) => bif Nat.beq c kd && (decide (0 ≤ i) && Nat.ble (i.toNatClampNeg + 1) n) then dp_nf i.toNatClampNeg k else none
  | _ => none
theorem dp_ar_ok {β : Type} {sh : sm_S} {p kd : Nat} {i : Int32} {k : Nat → Option β} {y : β} (h : dp_ar sh p kd i k = some y) : ∃ n, sh[p]? = some (.inr (kd, n)) ∧ vp_in i n ∧ k i.toNatClampNeg = some y := by
  unfold dp_ar at h
  split at h
  · rename_i c n heq
    cases hb : (Nat.beq c kd && (decide (0 ≤ i) && Nat.ble (i.toNatClampNeg + 1) n)) with
    | false => rw [hb] at h; cases h
    | true =>
      rw [hb] at h
      simp only [Bool.and_eq_true, decide_eq_true_eq] at hb
      obtain ⟨h1, h2, h3⟩ := hb
      have e := dp_beq h1
      subst e
      have h3 := Nat.le_of_ble_eq_true h3
      refine ⟨n, heq, fun z => ?_, ?_⟩
      · rcases z with z | z
        · exact absurd h2 (Int32.not_le.mpr z)
        · omega
      · rw [← dp_nf_eq i.toNatClampNeg k]; exact h
  · cases h
def dp_c0 : Jvm.ClassFile.Cond → Int32 → Bool
  | .eq, x => decide (x = 0)
  | .ne, x => !decide (x = 0)
  | .lt, x => decide (x < 0)
  | .ge, x => decide (0 ≤ x)
  | .gt, x => decide (0 < x)
  | .le, x => decide (x ≤ 0)
def dp_c2 : Jvm.ClassFile.Cond → Int32 → Int32 → Bool
  | .eq, x, y => decide (x = y)
  | .ne, x, y => !decide (x = y)
  | .lt, x, y => decide (x < y)
  | .ge, x, y => decide (y ≤ x)
  | .gt, x, y => decide (y < x)
  | .le, x, y => decide (x ≤ y)
def dp_kd : ArrayType → Option Nat
  | .int => some 0
  | .boolean => some 1
  | .long => some 2
  | _ => none
/-- a new cell -/
def dp_nw (L : List (Option Value)) (r : List Value) (sh : sm_S) (x : (Nat × List (Option (Option Nat))) ⊕ (Nat × Nat)) (pc : Nat) (P : dp_P) (w : dp_w) : Option dp_T :=
  dp_g (L.all (sm_no sh.length (sh.length + 1))) (dp_g (r.all (sm_nv sh.length (sh.length + 1))) (dp_g (sh.all (sm_ns sh.length (sh.length + 1))) (some (pc, L, .ref sh.length :: r, sh ++ [x], dp_z P sh.length, dp_wu w sh.length))))
def dp_rc (sh : sm_S) (rc : Nat) (As : List Value) : Bool := match rc with
  | 0 => true
  | ci + 1 => match As with
    | .ref p :: _ => (match sh[p]? with
      | some (.inl (c, _)) => Nat.beq c ci
      | _ => false)
    | _ => false
/-- a call: so many arguments, the callee's number, the receiver's class + 1 or 0 -/
def dp_ca (cf : dp_F) (j na rc pc : Nat) (L : List (Option Value)) (st : List Value) (sh : sm_S) (P : dp_P) (w : dp_w) : Option dp_T :=
  dp_g (Nat.beq (st.take na).length na) (dp_g (dp_rc sh rc (st.take na).reverse) (dp_g (Nat.ble ((st.drop na).map fun v => v.category).sum 8) (dp_o (cf j (st.take na).reverse sh P) (fun R => match R with
    | (v, sh', P', w') => dp_g (Nat.beq sh'.length sh.length || (L.all (sm_no sh.length sh'.length) && (st.drop na).all (sm_nv sh.length sh'.length))) (some (pc + 3, L, v.toList ++ st.drop na, sh', P', dp_wj w w'))))))

def dp_gf {β : Type} (f : Option (Option Nat)) (o : Option Int32) (k : Value → Option β) : Option β := match f with
  | none => dp_o o fun v => k (.int v)
  | some none => none
  | some (some q) => k (.ref q)
def dp_pf {β : Type} (fs : List (Option (Option Nat))) (j fl : Nat) (u : Value) (ini : Bool) (ki : Int32 → Option β) (kr : Nat → Option β) : Option β := match u with
  | .int v => (match fs[j]? with
    | some none => (match fl with
      | 0 => ki v
      | 1 => dp_g (decide (v = 0) || decide (v = 1)) (ki v)
      | _ => none)
    | _ => none)
  | .ref q => dp_g (Nat.beq fl 2) (dp_g ini (dp_g (Nat.ble (j + 1) fs.length) (kr q)))
  | _ => none
def dp_le' {β : Type} (sh : sm_S) (p : Nat) (k : Int32 → Option β) : Option β := match sh[p]? with
  | some (.inr (c, n)) => dp_g (Nat.ble (c + 1) 3) (k (Int32.ofNat n))
  | _ => none
def dp_rt {β : Type} (t : Option FieldType) (v : Int32) (o : Option β) : Option β := match t with
  | some .int => o
  | some .boolean => dp_g (decide (v &&& 1 = v)) o
  | _ => none
/-- one instruction -/
def dp_in (K : dp_K) (M : dp_M) (cf : dp_F) (pc : Nat) (L : List (Option Value)) (st : List Value) (sh : sm_S) (P : dp_P) (w : dp_w) (ins : Instr) (len : Nat) : Option dp_T := match ins with
  | .iadd => dp_g (Nat.beq len 1) (dp_1i st fun y r => dp_1i r fun x r => dp_fi (x + y) fun v => some (pc + 1, L, .int v :: r, sh, P, w))
  | .isub => dp_g (Nat.beq len 1) (dp_1i st fun y r => dp_1i r fun x r => dp_fi (x - y) fun v => some (pc + 1, L, .int v :: r, sh, P, w))
  | .imul => dp_g (Nat.beq len 1) (dp_1i st fun y r => dp_1i r fun x r => dp_fi (x * y) fun v => some (pc + 1, L, .int v :: r, sh, P, w))
  | .iand => dp_g (Nat.beq len 1) (dp_1i st fun y r => dp_1i r fun x r => dp_fi (x &&& y) fun v => some (pc + 1, L, .int v :: r, sh, P, w))
  | .ior => dp_g (Nat.beq len 1) (dp_1i st fun y r => dp_1i r fun x r => dp_fi (x ||| y) fun v => some (pc + 1, L, .int v :: r, sh, P, w))
  | .ixor => dp_g (Nat.beq len 1) (dp_1i st fun y r => dp_1i r fun x r => dp_fi (x ^^^ y) fun v => some (pc + 1, L, .int v :: r, sh, P, w))
  | .ladd => dp_g (Nat.beq len 1) (dp_1l st fun y r => dp_1l r fun x r => dp_fl (x + y) fun v => some (pc + 1, L, .long v :: r, sh, P, w))
  | .lsub => dp_g (Nat.beq len 1) (dp_1l st fun y r => dp_1l r fun x r => dp_fl (x - y) fun v => some (pc + 1, L, .long v :: r, sh, P, w))
  | .land => dp_g (Nat.beq len 1) (dp_1l st fun y r => dp_1l r fun x r => dp_fl (x &&& y) fun v => some (pc + 1, L, .long v :: r, sh, P, w))
  | .lor => dp_g (Nat.beq len 1) (dp_1l st fun y r => dp_1l r fun x r => dp_fl (x ||| y) fun v => some (pc + 1, L, .long v :: r, sh, P, w))
  | .lxor => dp_g (Nat.beq len 1) (dp_1l st fun y r => dp_1l r fun x r => dp_fl (x ^^^ y) fun v => some (pc + 1, L, .long v :: r, sh, P, w))
  | .idiv => dp_g (Nat.beq len 1) (dp_1i st fun y r => dp_1i r fun x r => dp_g (!decide (y = 0)) (dp_fi (x / y) fun v => some (pc + 1, L, .int v :: r, sh, P, w)))
  | .irem => dp_g (Nat.beq len 1) (dp_1i st fun y r => dp_1i r fun x r => dp_g (!decide (y = 0)) (dp_fi (x - x / y * y) fun v => some (pc + 1, L, .int v :: r, sh, P, w)))
  | .ineg => dp_g (Nat.beq len 1) (dp_1i st fun x r => dp_fi (-x) fun v => some (pc + 1, L, .int v :: r, sh, P, w))
  | .iconst i => dp_g (Nat.beq len 1) (dp_fi (Int32.ofInt i) fun v => some (pc + 1, L, .int v :: st, sh, P, w))
  | .bipush i => dp_g (Nat.beq len 2) (dp_fi (Int8.ofInt i).toInt32 fun v => some (pc + 2, L, .int v :: st, sh, P, w))
  | .sipush i => dp_g (Nat.beq len 3) (dp_fi (Int16.ofInt i).toInt32 fun v => some (pc + 3, L, .int v :: st, sh, P, w))
  | .lconst i => dp_g (Nat.beq len 1) (dp_fl (Int64.ofNat (i : Nat)) fun v => some (pc + 1, L, .long v :: st, sh, P, w))
  | .ldc i => dp_g (Nat.beq len 2) (dp_o (K.2.1 i) fun v => some (pc + 2, L, .int v :: st, sh, P, w))
  | .ldc2_w i => dp_g (Nat.beq len 3) (dp_o (K.2.2.1 i) fun v => some (pc + 3, L, .long v :: st, sh, P, w))
  | .i2l => dp_g (Nat.beq len 1) (dp_1i st fun x r => dp_fl x.toInt64 fun v => some (pc + 1, L, .long v :: r, sh, P, w))
  | .l2i => dp_g (Nat.beq len 1) (dp_1l st fun x r => dp_fi x.toInt32 fun v => some (pc + 1, L, .int v :: r, sh, P, w))
  | .iushr => dp_g (Nat.beq len 1) (dp_1i st fun y r => dp_1i r fun x r => dp_fi (x.toUInt32 >>> (y.toUInt32 &&& Int32.toUInt32 31)).toInt32 fun v => some (pc + 1, L, .int v :: r, sh, P, w))
  | .ishl => dp_g (Nat.beq len 1) (dp_1i st fun y r => dp_1i r fun x r => dp_fi (x <<< (y &&& 31)) fun v => some (pc + 1, L, .int v :: r, sh, P, w))
  | .ishr => dp_g (Nat.beq len 1) (dp_1i st fun y r => dp_1i r fun x r => dp_fi (x >>> (y &&& 31)) fun v => some (pc + 1, L, .int v :: r, sh, P, w))
  | .lushr => dp_g (Nat.beq len 1) (dp_1i st fun y r => dp_1l r fun x r => dp_fl (x.toUInt64 >>> (y.toInt64.toUInt64 &&& Int64.toUInt64 63)).toInt64 fun v => some (pc + 1, L, .long v :: r, sh, P, w))
  | .lshl => dp_g (Nat.beq len 1) (dp_1i st fun y r => dp_1l r fun x r => dp_fl (x <<< (y.toInt64 &&& 63)) fun v => some (pc + 1, L, .long v :: r, sh, P, w))
  | .lshr => dp_g (Nat.beq len 1) (dp_1i st fun y r => dp_1l r fun x r => dp_fl (x >>> (y.toInt64 &&& 63)) fun v => some (pc + 1, L, .long v :: r, sh, P, w))
  | .lcmp => dp_g (Nat.beq len 1) (dp_1l st fun y r => dp_1l r fun x r => dp_fi (lg_cmp x y) fun v => some (pc + 1, L, .int v :: r, sh, P, w))
  | .dup => dp_g (Nat.beq len 1) (dp_1v st fun a r => dp_g (Nat.beq a.category 1) (some (pc + 1, L, a :: a :: r, sh, P, w)))
  | .pop => dp_g (Nat.beq len 1) (dp_1v st fun a r => dp_g (Nat.beq a.category 1) (some (pc + 1, L, r, sh, P, w)))
  | .dup_x1 => dp_g (Nat.beq len 1) (dp_1v st fun a r => dp_1v r fun b r => dp_g (Nat.beq a.category 1) (dp_g (Nat.beq b.category 1) (some (pc + 1, L, a :: b :: a :: r, sh, P, w))))
  | .dup2 => dp_g (Nat.beq len 1) (dp_1v st fun a r => dp_1v r fun b r => dp_g (Nat.beq a.category 1) (dp_g (Nat.beq b.category 1) (some (pc + 1, L, a :: b :: a :: b :: r, sh, P, w))))
  | .iload i => dp_g (Nat.beq len 2) (dp_li L i fun x => some (pc + 2, L, .int x :: st, sh, P, w))
  | .iload_n i => dp_g (Nat.beq len 1) (dp_li L (i : Nat) fun x => some (pc + 1, L, .int x :: st, sh, P, w))
  | .istore i => dp_g (Nat.beq len 2) (dp_1i st fun x r => dp_g (sm_ah L i) (dp_g (Nat.ble (i + 1) M.2.1) (some (pc + 2, (L.set i (some (.int x))), r, sh, P, w))))
  | .istore_n i => dp_g (Nat.beq len 1) (dp_1i st fun x r => dp_g (sm_ah L (i : Nat)) (dp_g (Nat.ble ((i : Nat) + 1) M.2.1) (some (pc + 1, (L.set (i : Nat) (some (.int x))), r, sh, P, w))))
  | .lload i => dp_g (Nat.beq len 2) (dp_ll L i fun x => some (pc + 2, L, .long x :: st, sh, P, w))
  | .lload_n i => dp_g (Nat.beq len 1) (dp_ll L (i : Nat) fun x => some (pc + 1, L, .long x :: st, sh, P, w))
  | .lstore i => dp_g (Nat.beq len 2) (dp_1l st fun x r => dp_g (sm_ah L i) (dp_g (Nat.ble (i + 2) M.2.1) (some (pc + 2, ((L.set i (some (.long x))).set (i + 1) none), r, sh, P, w))))
  | .lstore_n i => dp_g (Nat.beq len 1) (dp_1l st fun x r => dp_g (sm_ah L (i : Nat)) (dp_g (Nat.ble ((i : Nat) + 2) M.2.1) (some (pc + 1, ((L.set (i : Nat) (some (.long x))).set ((i : Nat) + 1) none), r, sh, P, w))))
  | .aload i => dp_g (Nat.beq len 2) (dp_la L i fun x => some (pc + 2, L, .ref x :: st, sh, P, w))
  | .aload_n i => dp_g (Nat.beq len 1) (dp_la L (i : Nat) fun x => some (pc + 1, L, .ref x :: st, sh, P, w))
  | .astore i => dp_g (Nat.beq len 2) (dp_1r st fun x r => dp_g (sm_ah L i) (dp_g (Nat.ble (i + 1) M.2.1) (some (pc + 2, (L.set i (some (.ref x))), r, sh, P, w))))
  | .astore_n i => dp_g (Nat.beq len 1) (dp_1r st fun x r => dp_g (sm_ah L (i : Nat)) (dp_g (Nat.ble ((i : Nat) + 1) M.2.1) (some (pc + 1, (L.set (i : Nat) (some (.ref x))), r, sh, P, w))))
  | .iinc i z => dp_g (Nat.beq len 3) (dp_li L i fun x => dp_g (sm_ah L i) (dp_g (Nat.ble (i + 1) M.2.1) (dp_fi (x + Int32.ofInt z) fun v => some (pc + 3, (L.set i (some (.int v))), st, sh, P, w))))
  | .ifCond cn off => dp_g (Nat.beq len 3) (dp_1i st fun x r => dp_tg pc off fun t => bif dp_c0 cn x then some (t, L, r, sh, P, w) else some (pc + 3, L, r, sh, P, w))
  | .if_icmp cn off => dp_g (Nat.beq len 3) (dp_1i st fun y r => dp_1i r fun x r => dp_tg pc off fun t => bif dp_c2 cn x y then some (t, L, r, sh, P, w) else some (pc + 3, L, r, sh, P, w))
  | .goto off => dp_g (Nat.beq len 3) (dp_tg pc off fun t => some (t, L, st, sh, P, w))
  | .lookupswitch dflt ps => dp_1i st fun x r => dp_g ((ps.toList.zip (ps.toList.drop 1)).all (fun (a, next) => a.1 < next.1)) (dp_tg pc (Op.lookupswitch.offset ps.toList dflt x.toInt) fun t => some (t, L, r, sh, P, w))
  | .tableswitch dflt lo hi offs => dp_1i st fun x r => bif decide (x.toInt < lo ∨ hi < x.toInt) then dp_tg pc dflt fun t => some (t, L, r, sh, P, w) else dp_o offs[(x.toInt - lo).toNat]? fun off => dp_tg pc off fun t => some (t, L, r, sh, P, w)
  | .getfield i => dp_g (Nat.beq len 3) (dp_1r st fun p r => dp_o (K.1 i) fun F => dp_ob sh p F.1 fun fs => dp_o fs[F.2.1]? fun f => dp_gf f (P.1 p F.2.1) fun v => some (pc + 3, L, v :: r, sh, P, w))
  | .putfield i => dp_g (Nat.beq len 3) (dp_1v st fun u r => dp_1r r fun p r => dp_o (K.1 i) fun F => dp_ob sh p F.1 fun fs => dp_pf fs F.2.1 F.2.2 u M.2.2.2 (fun v => some (pc + 3, L, r, sh, dp_ui P p F.2.1 v, dp_wu w p)) (fun q => some (pc + 3, L, r, sh.set p (.inl (F.1, fs.set F.2.1 (some (some q)))), P, w)))
  | .iaload => dp_g (Nat.beq len 1) (dp_1i st fun i r => dp_1r r fun p r => dp_ar sh p 0 i fun j => dp_o (P.1 p j) fun v => some (pc + 1, L, .int v :: r, sh, P, w))
  | .baload => dp_g (Nat.beq len 1) (dp_1i st fun i r => dp_1r r fun p r => dp_ar sh p 1 i fun j => dp_o (P.1 p j) fun v => some (pc + 1, L, .int v :: r, sh, P, w))
  | .laload => dp_g (Nat.beq len 1) (dp_1i st fun i r => dp_1r r fun p r => dp_ar sh p 2 i fun j => dp_o (P.2 p j) fun v => some (pc + 1, L, .long v :: r, sh, P, w))
  | .iastore => dp_g (Nat.beq len 1) (dp_1i st fun x r => dp_1i r fun i r => dp_1r r fun p r => dp_ar sh p 0 i fun j => some (pc + 1, L, r, sh, dp_ui P p j x, dp_wu w p))
  | .bastore => dp_g (Nat.beq len 1) (dp_1i st fun x r => dp_1i r fun i r => dp_1r r fun p r => dp_ar sh p 1 i fun j => dp_fi (vp_nar .boolean x) fun v => some (pc + 1, L, r, sh, dp_ui P p j v, dp_wu w p))
  | .lastore => dp_g (Nat.beq len 1) (dp_1l st fun x r => dp_1i r fun i r => dp_1r r fun p r => dp_ar sh p 2 i fun j => some (pc + 1, L, r, sh, dp_ul P p j x, dp_wu w p))
  | .arraylength => dp_g (Nat.beq len 1) (dp_1r st fun p r => dp_le' sh p fun n => some (pc + 1, L, .int n :: r, sh, P, w))
  | .new i => dp_g (Nat.beq len 3) (dp_o (K.2.2.2.2.1 i) fun C => dp_nw L st sh (.inl C) (pc + 3) P w)
  | .newarray at' => dp_g (Nat.beq len 2) (dp_1i st fun n r => dp_o (dp_kd at') fun kd => dp_g (decide (0 ≤ n)) (dp_nf n.toNatClampNeg fun len' => dp_g (Nat.ble len' 100000) (dp_nw L r sh (.inr (kd, len')) (pc + 2) P w)))
  | .invokespecial i => dp_g (Nat.beq len 3) (bif Nat.beq i K.2.2.2.2.2 then dp_1r st fun _ r => dp_g (Nat.ble (r.map fun v => v.category).sum 8) (some (pc + 3, L, r, sh, P, w)) else dp_o (K.2.2.2.1 (3 * i + 2)) fun C => dp_ca cf C.1 C.2.1 C.2.2 pc L st sh P w)
  | .invokestatic i => dp_g (Nat.beq len 3) (dp_o (K.2.2.2.1 (3 * i)) fun C => dp_ca cf C.1 C.2.1 C.2.2 pc L st sh P w)
  | .invokevirtual i => dp_g (Nat.beq len 3) (dp_o (K.2.2.2.1 (3 * i + 1)) fun C => dp_ca cf C.1 C.2.1 C.2.2 pc L st sh P w)
  | _ => none
def dp_rn (M : dp_M) (st : List Value) (sh : sm_S) (P : dp_P) (w : dp_w) (ins : Instr) (len : Nat) : Option dp_R := match ins with
  | .ireturn => dp_g (Nat.beq len 1) (dp_1i st fun v r => dp_g r.isEmpty (dp_rt M.2.2.1 v (some (some (.int v), sh, P, w))))
  | .lreturn => dp_g (Nat.beq len 1) (dp_1l st fun v r => dp_g r.isEmpty (match M.2.2.1 with
    | some .long => some (some (.long v), sh, P, w)
    | _ => none))
  | .return_ => dp_g (Nat.beq len 1) (dp_g st.isEmpty (match M.2.2.1 with
    | none => some (none, sh, P, w)
    | _ => none))
  | _ => none
def dp_ck (sh sh' : sm_S) : Bool := Nat.ble sh.length sh'.length && Nat.ble (sm_sl sh) (sm_sl sh')
def dp_st (K : dp_K) (M : dp_M) (cf : dp_F) (s : dp_T) : Option (dp_T ⊕ dp_R) := match s with
  | (pc, L, st, sh, P, w) => dp_nf pc fun pc => dp_o (dp_find pc M.1) fun i => match dp_rn M st sh P w i.1 i.2 with
    | some R => some (.inr R)
    | none => dp_o (dp_in K M cf pc L st sh P w i.1 i.2) fun s' => dp_g (dp_ck sh s'.2.2.2.1) (some (.inl s'))
/-- 2 ^ k instructions -/
def dp_go (K : dp_K) (M : dp_M) (cf : dp_F) : Nat → dp_T → Option (dp_T ⊕ dp_R)
  | 0, s => dp_st K M cf s
  | k + 1, s => match dp_go K M cf k s with
    | some (.inl s') => dp_go K M cf k s'
    | some (.inr R) => some (.inr R)
    | none => none
end
section
/-! what is computed is so -/
def dp_J (cl : List vw_C) (X : sm_X) (ad0 : Nat → Nat) (sh0 : sm_S) (μ0 : sm_M) (s : dp_T) : Prop := match s with
  | (pc, L, st, sh, P, w) => ∀ (ad : Nat → Nat) (μ : sm_M), dp_le P μ → dp_ou w μ μ0 → sm_ag sh0.length sh.length ad ad0 → sh0.length ≤ sh.length → sm_E cl X pc L st ad sh μ
def dp_Q (μ : sm_M) (R : dp_R) : Option Value → sm_S → sm_M → Prop := fun r sh' μ' => r = R.1 ∧ sh' = R.2.1 ∧ dp_le R.2.2.1 μ' ∧ dp_ou R.2.2.2 μ' μ
def dp_rm (fr lo : Nat) (sh sh' : sm_S) : Room := { frames := fr, cells := sh'.length - sh.length, slots := sm_sl sh' - sm_sl sh, locals := lo }
def dp_cfok (cl : List vw_C) (Z : sm_Z) (ys : Nat → MethodName) (wss : Nat → List Cond) (fr lo : Nat) (cf : dp_F) : Prop := ∀ (j : Nat) (As : List Value) (sh : sm_S) (P : dp_P) (R : dp_R), cf j As sh P = some R → sh.length ≤ R.2.1.length ∧ sm_sl sh ≤ sm_sl R.2.1 ∧ ∀ (ad : Nat → Nat) (μ : sm_M), dp_le P μ → sm_C cl Z (ys j) (wss j) (dp_rm fr lo sh R.2.1) As ad sh μ (dp_Q μ R)
def dp_rcO : Nat → Option Nat
  | 0 => none
  | ci + 1 => some ci
def dp_fok (cl : List vw_C) (NW : List Cond) (own : String) (Ts : List Cond) (i : Nat) (F : Nat × Nat × Nat) : Prop := ∃ (C : String) (T : u_T) (N' : Nat) (t : Nat → FieldType), cl[F.1]? = some (C, T, N') ∧ F.2.1 < N' ∧ (∀ w ∈ u_ws C T N', w ∈ Ts) ∧ (∀ k, k < N' → parseFieldDescriptor (T k).2.2.1 = some (t k)) ∧ (∀ a, a < N' → ∀ b, b < N' → a ≠ b → (T a).2.1 ≠ (T b).2.1) ∧ (Cond.fieldLink own i (T F.2.1).1 (T F.2.1).2.1 (T F.2.1).2.2.1 ∈ Ts ∨ ∃ host, Cond.fieldLinkNest own i (T F.2.1).1 (T F.2.1).2.1 (T F.2.1).2.2.1 host ∈ NW) ∧ (F.2.2 = 0 → (T F.2.1).2.2.2 = false ∧ t F.2.1 = .int) ∧ (F.2.2 = 1 → (T F.2.1).2.2.2 = false ∧ t F.2.1 = .boolean) ∧ (F.2.2 = 2 → (T F.2.1).2.2.2 = true ∧ (T F.2.1).1 = own ∧ Cond.fieldLink own i (T F.2.1).1 (T F.2.1).2.1 (T F.2.1).2.2.1 ∈ Ts ∧ ∀ a : Nat, narrow (t F.2.1) (.ref a) = .ref a ∧ fits (t F.2.1) (.ref a) = true)
def dp_nok (cl : List vw_C) (own : String) (Ts : List Cond) (i : Nat) (C : Nat × List (Option (Option Nat))) : Prop := ∃ (Cn : String) (T : u_T) (t : Nat → FieldType), cl[C.1]? = some (Cn, T, C.2.length) ∧ (∀ w ∈ u_ws Cn T C.2.length, w ∈ Ts) ∧ (∀ k, k < C.2.length → parseFieldDescriptor (T k).2.2.1 = some (t k)) ∧ Cond.classLink own i Cn ∈ Ts ∧ Cond.instantiable Cn C.2.length ∈ Ts ∧ Cond.initialized Cn ∈ Ts ∧ (∀ j, j < C.2.length → ∀ ad : Nat → Nat, defaultValue (t j) = vp_V (C.2.mapIdx (sm_f ad (fun _ => 0))) j) ∧ ∀ ad ad' : Nat → Nat, C.2.mapIdx (sm_f ad (fun _ => 0)) = C.2.mapIdx (sm_f ad' (fun _ => 0))
def dp_Kok (cl : List vw_C) (NW : List Cond) (own : String) (Ts : List Cond) (ys : Nat → MethodName) (wss : Nat → List Cond) (K : dp_K) : Prop :=
  (∀ i F, K.1 i = some F → dp_fok cl NW own Ts i F) ∧ (∀ i v, K.2.1 i = some v → Jvm.Cond.constant own i v ∈ Ts) ∧ (∀ i v, K.2.2.1 i = some v → Jvm.Cond.constantLong own i v ∈ Ts) ∧
  (∀ i C, K.2.2.2.1 (3 * i) = some C → ∀ cc, sm_Cal cl NW cc own Ts (.invokestatic i) (ys C.1) (wss C.1) C.2.1 (dp_rcO C.2.2)) ∧ (∀ i C, K.2.2.2.1 (3 * i + 1) = some C → ∀ cc, sm_Cal cl NW cc own Ts (.invokevirtual i) (ys C.1) (wss C.1) C.2.1 (dp_rcO C.2.2)) ∧ (∀ i C, K.2.2.2.1 (3 * i + 2) = some C → ∀ cc, sm_Cal cl NW cc own Ts (.invokespecial i) (ys C.1) (wss C.1) C.2.1 (dp_rcO C.2.2)) ∧
  (∀ i C, K.2.2.2.2.1 i = some C → dp_nok cl own Ts i C) ∧ (Cond.methodLink own K.2.2.2.2.2 Lib.objectInit ∈ Ts ∧ Cond.instanceMethod Lib.objectInit ∈ Ts ∧ Cond.code Lib.objectInit ⟨#[0xb1]⟩ 1 none ∈ Ts) ∧ Cond.arrayClass .int ∈ Ts ∧ Cond.arrayClass .boolean ∈ Ts ∧ Cond.arrayClass .long ∈ Ts
theorem dp_rc_ok {sh : sm_S} {rc : Nat} {As : List Value} (h : dp_rc sh rc As = true) : sm_rcv sh (dp_rcO rc) As := by
  cases rc with
  | zero => exact trivial
  | succ ci =>
    unfold dp_rc at h
    simp only at h
    split at h
    · rename_i p t
      split at h
      · rename_i c fs hs
        have e := dp_beq h
        subst e
        exact ⟨p, t, fs, rfl, hs⟩
      · cases h
    · cases h
theorem dp_take {st : List Value} (n : Nat) : (st.take n).reverse.reverse ++ st.drop n = st := by rw [List.reverse_reverse, List.take_append_drop]

theorem dp_call_ok {cl : List vw_C} {X : sm_X} {cc : ByteArray} {own : String} {Ts : List Cond} {rm : Room} {N S : Nat} {M : dp_M} (hX : sm_ok cl X cc M.2.1 own Ts M.2.2.1 rm N S M.2.2.2) {ys : Nat → MethodName} {wss : Nat → List Cond} {cf : dp_F} {fr lo : Nat} (hcf : dp_cfok cl X.1 ys wss fr lo cf) (hfr : fr + 1 ≤ rm.frames) (hlo : 32 + lo ≤ rm.locals) {ad0 : Nat → Nat} {sh0 : sm_S} {μ0 : sm_M} {ins : Instr} {j na rc pc : Nat} (hC : sm_Cal cl X.1.2.2.2 cc own Ts ins (ys j) (wss j) na (dp_rcO rc)) (d : decode cc pc = .ok (ins, 3)) {L : List (Option Value)} {st : List Value} {sh : sm_S} {P : dp_P} {w : dp_w} {s' : dp_T} (h : dp_ca cf j na rc pc L st sh P w = some s') (hN : s'.2.2.2.1.length ≤ N) (hS : sm_sl s'.2.2.2.1 ≤ S) (k : dp_J cl X ad0 sh0 μ0 s') : dp_J cl X ad0 sh0 μ0 (pc, L, st, sh, P, w) := by
  unfold dp_ca at h
  obtain ⟨h1, h⟩ := dp_g_ok h
  obtain ⟨h2, h⟩ := dp_g_ok h
  obtain ⟨h3, h⟩ := dp_g_ok h
  obtain ⟨⟨v, sh', P', w'⟩, hR, h⟩ := dp_o_ok h
  obtain ⟨h4, h⟩ := dp_g_ok h
  cases h
  obtain ⟨q1, q2, q3⟩ := hcf _ _ _ _ _ hR
  simp only at q1 q2 q3 hN hS
  intro ad μ a b c e
  have h5 := hC X _ _ _ _ _ _ rfl hX pc L (st.drop na) ad sh μ (st.take na).reverse _ (dp_rm fr lo sh sh') (by rw [List.length_reverse]; exact dp_beq h1) (dp_rc_ok h2) (q3 ad μ a) hfr hlo (by simp only [dp_rm]; omega) (by simp only [dp_rm]; omega) (Nat.le_of_ble_eq_true h3) d (fun v' ad' sh'' μ' e1 e2 hag q => ?_)
  · rwa [dp_take] at h5
  · obtain ⟨rfl, rfl, g1, g2⟩ := q
    simp only at g1 g2
    refine ⟨?_, k ad' μ' g1 (b.tr g2) ?_ (by omega)⟩
    · rw [Bool.or_eq_true, Bool.and_eq_true] at h4
      rcases h4 with h4 | h4
      · left
        have := dp_beq h4
        simp only [dp_rm]
        omega
      · exact Or.inr h4
    · intro p hp
      rw [hag p (by omega), c p (by omega)]
theorem dp_nw_ag {a b : Nat} {ad'' ad ad0 : Nat → Nat} (h1 : sm_ag b (b + 1) ad'' ad) (h0 : sm_ag a b ad ad0) (hl : a ≤ b) : sm_ag a (b + 1) ad'' ad0 := by
  intro p hp
  rw [h1 p (by omega), h0 p (by omega)]
theorem dp_in_iadd {cl : List vw_C} {X : sm_X} {cc : ByteArray} {own : String} {Ts : List Cond} {rm : Room} {N S : Nat} {M : dp_M} (hX : sm_ok cl X cc M.2.1 own Ts M.2.2.1 rm N S M.2.2.2) {K : dp_K} {ys : Nat → MethodName} {wss : Nat → List Cond} {cf : dp_F} {fr lo : Nat} (hK : dp_Kok cl X.1.2.2.2 own Ts ys wss K) (hcf : dp_cfok cl X.1 ys wss fr lo cf) (hfr : fr + 1 ≤ rm.frames) (hlo : 32 + lo ≤ rm.locals) {ad0 : Nat → Nat} {sh0 : sm_S} {μ0 : sm_M} {pc len : Nat}  (d : decode cc pc = .ok (.iadd, len)) {L : List (Option Value)} {st : List Value} {sh : sm_S} {P : dp_P} {w : dp_w} {s' : dp_T} (h : dp_in K M cf pc L st sh P w .iadd len = some s') (hN : s'.2.2.2.1.length ≤ N) (hS : sm_sl s'.2.2.2.1 ≤ S) (k : dp_J cl X ad0 sh0 μ0 s') : dp_J cl X ad0 sh0 μ0 (pc, L, st, sh, P, w) := by
  obtain ⟨hl, hu1⟩ := dp_g_ok h
  clear h
  have hl := dp_beq hl
  subst hl
  obtain ⟨y, r, rfl, hu2⟩ := dp_1i_ok hu1
  clear hu1
  obtain ⟨x, r, rfl, hu3⟩ := dp_1i_ok hu2
  clear hu2
  rw [dp_fi_eq] at hu3
  cases hu3
  exact fun ad μ a b c e => sm_iadd hX d (k ad μ a b c e)
theorem dp_in_isub {cl : List vw_C} {X : sm_X} {cc : ByteArray} {own : String} {Ts : List Cond} {rm : Room} {N S : Nat} {M : dp_M} (hX : sm_ok cl X cc M.2.1 own Ts M.2.2.1 rm N S M.2.2.2) {K : dp_K} {ys : Nat → MethodName} {wss : Nat → List Cond} {cf : dp_F} {fr lo : Nat} (hK : dp_Kok cl X.1.2.2.2 own Ts ys wss K) (hcf : dp_cfok cl X.1 ys wss fr lo cf) (hfr : fr + 1 ≤ rm.frames) (hlo : 32 + lo ≤ rm.locals) {ad0 : Nat → Nat} {sh0 : sm_S} {μ0 : sm_M} {pc len : Nat}  (d : decode cc pc = .ok (.isub, len)) {L : List (Option Value)} {st : List Value} {sh : sm_S} {P : dp_P} {w : dp_w} {s' : dp_T} (h : dp_in K M cf pc L st sh P w .isub len = some s') (hN : s'.2.2.2.1.length ≤ N) (hS : sm_sl s'.2.2.2.1 ≤ S) (k : dp_J cl X ad0 sh0 μ0 s') : dp_J cl X ad0 sh0 μ0 (pc, L, st, sh, P, w) := by
  obtain ⟨hl, hu1⟩ := dp_g_ok h
  clear h
  have hl := dp_beq hl
  subst hl
  obtain ⟨y, r, rfl, hu2⟩ := dp_1i_ok hu1
  clear hu1
  obtain ⟨x, r, rfl, hu3⟩ := dp_1i_ok hu2
  clear hu2
  rw [dp_fi_eq] at hu3
  cases hu3
  exact fun ad μ a b c e => sm_isub hX d (k ad μ a b c e)
theorem dp_in_imul {cl : List vw_C} {X : sm_X} {cc : ByteArray} {own : String} {Ts : List Cond} {rm : Room} {N S : Nat} {M : dp_M} (hX : sm_ok cl X cc M.2.1 own Ts M.2.2.1 rm N S M.2.2.2) {K : dp_K} {ys : Nat → MethodName} {wss : Nat → List Cond} {cf : dp_F} {fr lo : Nat} (hK : dp_Kok cl X.1.2.2.2 own Ts ys wss K) (hcf : dp_cfok cl X.1 ys wss fr lo cf) (hfr : fr + 1 ≤ rm.frames) (hlo : 32 + lo ≤ rm.locals) {ad0 : Nat → Nat} {sh0 : sm_S} {μ0 : sm_M} {pc len : Nat}  (d : decode cc pc = .ok (.imul, len)) {L : List (Option Value)} {st : List Value} {sh : sm_S} {P : dp_P} {w : dp_w} {s' : dp_T} (h : dp_in K M cf pc L st sh P w .imul len = some s') (hN : s'.2.2.2.1.length ≤ N) (hS : sm_sl s'.2.2.2.1 ≤ S) (k : dp_J cl X ad0 sh0 μ0 s') : dp_J cl X ad0 sh0 μ0 (pc, L, st, sh, P, w) := by
  obtain ⟨hl, hu1⟩ := dp_g_ok h
  clear h
  have hl := dp_beq hl
  subst hl
  obtain ⟨y, r, rfl, hu2⟩ := dp_1i_ok hu1
  clear hu1
  obtain ⟨x, r, rfl, hu3⟩ := dp_1i_ok hu2
  clear hu2
  rw [dp_fi_eq] at hu3
  cases hu3
  exact fun ad μ a b c e => sm_imul hX d (k ad μ a b c e)
theorem dp_in_iand {cl : List vw_C} {X : sm_X} {cc : ByteArray} {own : String} {Ts : List Cond} {rm : Room} {N S : Nat} {M : dp_M} (hX : sm_ok cl X cc M.2.1 own Ts M.2.2.1 rm N S M.2.2.2) {K : dp_K} {ys : Nat → MethodName} {wss : Nat → List Cond} {cf : dp_F} {fr lo : Nat} (hK : dp_Kok cl X.1.2.2.2 own Ts ys wss K) (hcf : dp_cfok cl X.1 ys wss fr lo cf) (hfr : fr + 1 ≤ rm.frames) (hlo : 32 + lo ≤ rm.locals) {ad0 : Nat → Nat} {sh0 : sm_S} {μ0 : sm_M} {pc len : Nat}  (d : decode cc pc = .ok (.iand, len)) {L : List (Option Value)} {st : List Value} {sh : sm_S} {P : dp_P} {w : dp_w} {s' : dp_T} (h : dp_in K M cf pc L st sh P w .iand len = some s') (hN : s'.2.2.2.1.length ≤ N) (hS : sm_sl s'.2.2.2.1 ≤ S) (k : dp_J cl X ad0 sh0 μ0 s') : dp_J cl X ad0 sh0 μ0 (pc, L, st, sh, P, w) := by
  obtain ⟨hl, hu1⟩ := dp_g_ok h
  clear h
  have hl := dp_beq hl
  subst hl
  obtain ⟨y, r, rfl, hu2⟩ := dp_1i_ok hu1
  clear hu1
  obtain ⟨x, r, rfl, hu3⟩ := dp_1i_ok hu2
  clear hu2
  rw [dp_fi_eq] at hu3
  cases hu3
  exact fun ad μ a b c e => sm_iand hX d (k ad μ a b c e)
theorem dp_in_ior {cl : List vw_C} {X : sm_X} {cc : ByteArray} {own : String} {Ts : List Cond} {rm : Room} {N S : Nat} {M : dp_M} (hX : sm_ok cl X cc M.2.1 own Ts M.2.2.1 rm N S M.2.2.2) {K : dp_K} {ys : Nat → MethodName} {wss : Nat → List Cond} {cf : dp_F} {fr lo : Nat} (hK : dp_Kok cl X.1.2.2.2 own Ts ys wss K) (hcf : dp_cfok cl X.1 ys wss fr lo cf) (hfr : fr + 1 ≤ rm.frames) (hlo : 32 + lo ≤ rm.locals) {ad0 : Nat → Nat} {sh0 : sm_S} {μ0 : sm_M} {pc len : Nat}  (d : decode cc pc = .ok (.ior, len)) {L : List (Option Value)} {st : List Value} {sh : sm_S} {P : dp_P} {w : dp_w} {s' : dp_T} (h : dp_in K M cf pc L st sh P w .ior len = some s') (hN : s'.2.2.2.1.length ≤ N) (hS : sm_sl s'.2.2.2.1 ≤ S) (k : dp_J cl X ad0 sh0 μ0 s') : dp_J cl X ad0 sh0 μ0 (pc, L, st, sh, P, w) := by
  obtain ⟨hl, hu1⟩ := dp_g_ok h
  clear h
  have hl := dp_beq hl
  subst hl
  obtain ⟨y, r, rfl, hu2⟩ := dp_1i_ok hu1
  clear hu1
  obtain ⟨x, r, rfl, hu3⟩ := dp_1i_ok hu2
  clear hu2
  rw [dp_fi_eq] at hu3
  cases hu3
  exact fun ad μ a b c e => sm_ior hX d (k ad μ a b c e)
theorem dp_in_ixor {cl : List vw_C} {X : sm_X} {cc : ByteArray} {own : String} {Ts : List Cond} {rm : Room} {N S : Nat} {M : dp_M} (hX : sm_ok cl X cc M.2.1 own Ts M.2.2.1 rm N S M.2.2.2) {K : dp_K} {ys : Nat → MethodName} {wss : Nat → List Cond} {cf : dp_F} {fr lo : Nat} (hK : dp_Kok cl X.1.2.2.2 own Ts ys wss K) (hcf : dp_cfok cl X.1 ys wss fr lo cf) (hfr : fr + 1 ≤ rm.frames) (hlo : 32 + lo ≤ rm.locals) {ad0 : Nat → Nat} {sh0 : sm_S} {μ0 : sm_M} {pc len : Nat}  (d : decode cc pc = .ok (.ixor, len)) {L : List (Option Value)} {st : List Value} {sh : sm_S} {P : dp_P} {w : dp_w} {s' : dp_T} (h : dp_in K M cf pc L st sh P w .ixor len = some s') (hN : s'.2.2.2.1.length ≤ N) (hS : sm_sl s'.2.2.2.1 ≤ S) (k : dp_J cl X ad0 sh0 μ0 s') : dp_J cl X ad0 sh0 μ0 (pc, L, st, sh, P, w) := by
  obtain ⟨hl, hu1⟩ := dp_g_ok h
  clear h
  have hl := dp_beq hl
  subst hl
  obtain ⟨y, r, rfl, hu2⟩ := dp_1i_ok hu1
  clear hu1
  obtain ⟨x, r, rfl, hu3⟩ := dp_1i_ok hu2
  clear hu2
  rw [dp_fi_eq] at hu3
  cases hu3
  exact fun ad μ a b c e => sm_ixor hX d (k ad μ a b c e)
theorem dp_in_ishl {cl : List vw_C} {X : sm_X} {cc : ByteArray} {own : String} {Ts : List Cond} {rm : Room} {N S : Nat} {M : dp_M} (hX : sm_ok cl X cc M.2.1 own Ts M.2.2.1 rm N S M.2.2.2) {K : dp_K} {ys : Nat → MethodName} {wss : Nat → List Cond} {cf : dp_F} {fr lo : Nat} (hK : dp_Kok cl X.1.2.2.2 own Ts ys wss K) (hcf : dp_cfok cl X.1 ys wss fr lo cf) (hfr : fr + 1 ≤ rm.frames) (hlo : 32 + lo ≤ rm.locals) {ad0 : Nat → Nat} {sh0 : sm_S} {μ0 : sm_M} {pc len : Nat}  (d : decode cc pc = .ok (.ishl, len)) {L : List (Option Value)} {st : List Value} {sh : sm_S} {P : dp_P} {w : dp_w} {s' : dp_T} (h : dp_in K M cf pc L st sh P w .ishl len = some s') (hN : s'.2.2.2.1.length ≤ N) (hS : sm_sl s'.2.2.2.1 ≤ S) (k : dp_J cl X ad0 sh0 μ0 s') : dp_J cl X ad0 sh0 μ0 (pc, L, st, sh, P, w) := by
  obtain ⟨hl, hu1⟩ := dp_g_ok h
  clear h
  have hl := dp_beq hl
  subst hl
  obtain ⟨y, r, rfl, hu2⟩ := dp_1i_ok hu1
  clear hu1
  obtain ⟨x, r, rfl, hu3⟩ := dp_1i_ok hu2
  clear hu2
  rw [dp_fi_eq] at hu3
  cases hu3
  exact fun ad μ a b c e => sm_ishl hX d (k ad μ a b c e)
theorem dp_in_ishr {cl : List vw_C} {X : sm_X} {cc : ByteArray} {own : String} {Ts : List Cond} {rm : Room} {N S : Nat} {M : dp_M} (hX : sm_ok cl X cc M.2.1 own Ts M.2.2.1 rm N S M.2.2.2) {K : dp_K} {ys : Nat → MethodName} {wss : Nat → List Cond} {cf : dp_F} {fr lo : Nat} (hK : dp_Kok cl X.1.2.2.2 own Ts ys wss K) (hcf : dp_cfok cl X.1 ys wss fr lo cf) (hfr : fr + 1 ≤ rm.frames) (hlo : 32 + lo ≤ rm.locals) {ad0 : Nat → Nat} {sh0 : sm_S} {μ0 : sm_M} {pc len : Nat}  (d : decode cc pc = .ok (.ishr, len)) {L : List (Option Value)} {st : List Value} {sh : sm_S} {P : dp_P} {w : dp_w} {s' : dp_T} (h : dp_in K M cf pc L st sh P w .ishr len = some s') (hN : s'.2.2.2.1.length ≤ N) (hS : sm_sl s'.2.2.2.1 ≤ S) (k : dp_J cl X ad0 sh0 μ0 s') : dp_J cl X ad0 sh0 μ0 (pc, L, st, sh, P, w) := by
  obtain ⟨hl, hu1⟩ := dp_g_ok h
  clear h
  have hl := dp_beq hl
  subst hl
  obtain ⟨y, r, rfl, hu2⟩ := dp_1i_ok hu1
  clear hu1
  obtain ⟨x, r, rfl, hu3⟩ := dp_1i_ok hu2
  clear hu2
  rw [dp_fi_eq] at hu3
  cases hu3
  exact fun ad μ a b c e => sm_ishr hX d (k ad μ a b c e)
theorem dp_in_iushr {cl : List vw_C} {X : sm_X} {cc : ByteArray} {own : String} {Ts : List Cond} {rm : Room} {N S : Nat} {M : dp_M} (hX : sm_ok cl X cc M.2.1 own Ts M.2.2.1 rm N S M.2.2.2) {K : dp_K} {ys : Nat → MethodName} {wss : Nat → List Cond} {cf : dp_F} {fr lo : Nat} (hK : dp_Kok cl X.1.2.2.2 own Ts ys wss K) (hcf : dp_cfok cl X.1 ys wss fr lo cf) (hfr : fr + 1 ≤ rm.frames) (hlo : 32 + lo ≤ rm.locals) {ad0 : Nat → Nat} {sh0 : sm_S} {μ0 : sm_M} {pc len : Nat}  (d : decode cc pc = .ok (.iushr, len)) {L : List (Option Value)} {st : List Value} {sh : sm_S} {P : dp_P} {w : dp_w} {s' : dp_T} (h : dp_in K M cf pc L st sh P w .iushr len = some s') (hN : s'.2.2.2.1.length ≤ N) (hS : sm_sl s'.2.2.2.1 ≤ S) (k : dp_J cl X ad0 sh0 μ0 s') : dp_J cl X ad0 sh0 μ0 (pc, L, st, sh, P, w) := by
  obtain ⟨hl, hu1⟩ := dp_g_ok h
  clear h
  have hl := dp_beq hl
  subst hl
  obtain ⟨y, r, rfl, hu2⟩ := dp_1i_ok hu1
  clear hu1
  obtain ⟨x, r, rfl, hu3⟩ := dp_1i_ok hu2
  clear hu2
  rw [dp_fi_eq] at hu3
  cases hu3
  exact fun ad μ a b c e => sm_iushr hX d (k ad μ a b c e)
theorem dp_in_ladd {cl : List vw_C} {X : sm_X} {cc : ByteArray} {own : String} {Ts : List Cond} {rm : Room} {N S : Nat} {M : dp_M} (hX : sm_ok cl X cc M.2.1 own Ts M.2.2.1 rm N S M.2.2.2) {K : dp_K} {ys : Nat → MethodName} {wss : Nat → List Cond} {cf : dp_F} {fr lo : Nat} (hK : dp_Kok cl X.1.2.2.2 own Ts ys wss K) (hcf : dp_cfok cl X.1 ys wss fr lo cf) (hfr : fr + 1 ≤ rm.frames) (hlo : 32 + lo ≤ rm.locals) {ad0 : Nat → Nat} {sh0 : sm_S} {μ0 : sm_M} {pc len : Nat}  (d : decode cc pc = .ok (.ladd, len)) {L : List (Option Value)} {st : List Value} {sh : sm_S} {P : dp_P} {w : dp_w} {s' : dp_T} (h : dp_in K M cf pc L st sh P w .ladd len = some s') (hN : s'.2.2.2.1.length ≤ N) (hS : sm_sl s'.2.2.2.1 ≤ S) (k : dp_J cl X ad0 sh0 μ0 s') : dp_J cl X ad0 sh0 μ0 (pc, L, st, sh, P, w) := by
  obtain ⟨hl, hu1⟩ := dp_g_ok h
  clear h
  have hl := dp_beq hl
  subst hl
  obtain ⟨y, r, rfl, hu2⟩ := dp_1l_ok hu1
  clear hu1
  obtain ⟨x, r, rfl, hu3⟩ := dp_1l_ok hu2
  clear hu2
  rw [dp_fl_eq] at hu3
  cases hu3
  exact fun ad μ a b c e => sm_ladd hX d (k ad μ a b c e)
theorem dp_in_lsub {cl : List vw_C} {X : sm_X} {cc : ByteArray} {own : String} {Ts : List Cond} {rm : Room} {N S : Nat} {M : dp_M} (hX : sm_ok cl X cc M.2.1 own Ts M.2.2.1 rm N S M.2.2.2) {K : dp_K} {ys : Nat → MethodName} {wss : Nat → List Cond} {cf : dp_F} {fr lo : Nat} (hK : dp_Kok cl X.1.2.2.2 own Ts ys wss K) (hcf : dp_cfok cl X.1 ys wss fr lo cf) (hfr : fr + 1 ≤ rm.frames) (hlo : 32 + lo ≤ rm.locals) {ad0 : Nat → Nat} {sh0 : sm_S} {μ0 : sm_M} {pc len : Nat}  (d : decode cc pc = .ok (.lsub, len)) {L : List (Option Value)} {st : List Value} {sh : sm_S} {P : dp_P} {w : dp_w} {s' : dp_T} (h : dp_in K M cf pc L st sh P w .lsub len = some s') (hN : s'.2.2.2.1.length ≤ N) (hS : sm_sl s'.2.2.2.1 ≤ S) (k : dp_J cl X ad0 sh0 μ0 s') : dp_J cl X ad0 sh0 μ0 (pc, L, st, sh, P, w) := by
  obtain ⟨hl, hu1⟩ := dp_g_ok h
  clear h
  have hl := dp_beq hl
  subst hl
  obtain ⟨y, r, rfl, hu2⟩ := dp_1l_ok hu1
  clear hu1
  obtain ⟨x, r, rfl, hu3⟩ := dp_1l_ok hu2
  clear hu2
  rw [dp_fl_eq] at hu3
  cases hu3
  exact fun ad μ a b c e => sm_lsub hX d (k ad μ a b c e)
theorem dp_in_land {cl : List vw_C} {X : sm_X} {cc : ByteArray} {own : String} {Ts : List Cond} {rm : Room} {N S : Nat} {M : dp_M} (hX : sm_ok cl X cc M.2.1 own Ts M.2.2.1 rm N S M.2.2.2) {K : dp_K} {ys : Nat → MethodName} {wss : Nat → List Cond} {cf : dp_F} {fr lo : Nat} (hK : dp_Kok cl X.1.2.2.2 own Ts ys wss K) (hcf : dp_cfok cl X.1 ys wss fr lo cf) (hfr : fr + 1 ≤ rm.frames) (hlo : 32 + lo ≤ rm.locals) {ad0 : Nat → Nat} {sh0 : sm_S} {μ0 : sm_M} {pc len : Nat}  (d : decode cc pc = .ok (.land, len)) {L : List (Option Value)} {st : List Value} {sh : sm_S} {P : dp_P} {w : dp_w} {s' : dp_T} (h : dp_in K M cf pc L st sh P w .land len = some s') (hN : s'.2.2.2.1.length ≤ N) (hS : sm_sl s'.2.2.2.1 ≤ S) (k : dp_J cl X ad0 sh0 μ0 s') : dp_J cl X ad0 sh0 μ0 (pc, L, st, sh, P, w) := by
  obtain ⟨hl, hu1⟩ := dp_g_ok h
  clear h
  have hl := dp_beq hl
  subst hl
  obtain ⟨y, r, rfl, hu2⟩ := dp_1l_ok hu1
  clear hu1
  obtain ⟨x, r, rfl, hu3⟩ := dp_1l_ok hu2
  clear hu2
  rw [dp_fl_eq] at hu3
  cases hu3
  exact fun ad μ a b c e => sm_land hX d (k ad μ a b c e)
theorem dp_in_lor {cl : List vw_C} {X : sm_X} {cc : ByteArray} {own : String} {Ts : List Cond} {rm : Room} {N S : Nat} {M : dp_M} (hX : sm_ok cl X cc M.2.1 own Ts M.2.2.1 rm N S M.2.2.2) {K : dp_K} {ys : Nat → MethodName} {wss : Nat → List Cond} {cf : dp_F} {fr lo : Nat} (hK : dp_Kok cl X.1.2.2.2 own Ts ys wss K) (hcf : dp_cfok cl X.1 ys wss fr lo cf) (hfr : fr + 1 ≤ rm.frames) (hlo : 32 + lo ≤ rm.locals) {ad0 : Nat → Nat} {sh0 : sm_S} {μ0 : sm_M} {pc len : Nat}  (d : decode cc pc = .ok (.lor, len)) {L : List (Option Value)} {st : List Value} {sh : sm_S} {P : dp_P} {w : dp_w} {s' : dp_T} (h : dp_in K M cf pc L st sh P w .lor len = some s') (hN : s'.2.2.2.1.length ≤ N) (hS : sm_sl s'.2.2.2.1 ≤ S) (k : dp_J cl X ad0 sh0 μ0 s') : dp_J cl X ad0 sh0 μ0 (pc, L, st, sh, P, w) := by
  obtain ⟨hl, hu1⟩ := dp_g_ok h
  clear h
  have hl := dp_beq hl
  subst hl
  obtain ⟨y, r, rfl, hu2⟩ := dp_1l_ok hu1
  clear hu1
  obtain ⟨x, r, rfl, hu3⟩ := dp_1l_ok hu2
  clear hu2
  rw [dp_fl_eq] at hu3
  cases hu3
  exact fun ad μ a b c e => sm_lor hX d (k ad μ a b c e)
theorem dp_in_lxor {cl : List vw_C} {X : sm_X} {cc : ByteArray} {own : String} {Ts : List Cond} {rm : Room} {N S : Nat} {M : dp_M} (hX : sm_ok cl X cc M.2.1 own Ts M.2.2.1 rm N S M.2.2.2) {K : dp_K} {ys : Nat → MethodName} {wss : Nat → List Cond} {cf : dp_F} {fr lo : Nat} (hK : dp_Kok cl X.1.2.2.2 own Ts ys wss K) (hcf : dp_cfok cl X.1 ys wss fr lo cf) (hfr : fr + 1 ≤ rm.frames) (hlo : 32 + lo ≤ rm.locals) {ad0 : Nat → Nat} {sh0 : sm_S} {μ0 : sm_M} {pc len : Nat}  (d : decode cc pc = .ok (.lxor, len)) {L : List (Option Value)} {st : List Value} {sh : sm_S} {P : dp_P} {w : dp_w} {s' : dp_T} (h : dp_in K M cf pc L st sh P w .lxor len = some s') (hN : s'.2.2.2.1.length ≤ N) (hS : sm_sl s'.2.2.2.1 ≤ S) (k : dp_J cl X ad0 sh0 μ0 s') : dp_J cl X ad0 sh0 μ0 (pc, L, st, sh, P, w) := by
  obtain ⟨hl, hu1⟩ := dp_g_ok h
  clear h
  have hl := dp_beq hl
  subst hl
  obtain ⟨y, r, rfl, hu2⟩ := dp_1l_ok hu1
  clear hu1
  obtain ⟨x, r, rfl, hu3⟩ := dp_1l_ok hu2
  clear hu2
  rw [dp_fl_eq] at hu3
  cases hu3
  exact fun ad μ a b c e => sm_lxor hX d (k ad μ a b c e)
theorem dp_in_lushr {cl : List vw_C} {X : sm_X} {cc : ByteArray} {own : String} {Ts : List Cond} {rm : Room} {N S : Nat} {M : dp_M} (hX : sm_ok cl X cc M.2.1 own Ts M.2.2.1 rm N S M.2.2.2) {K : dp_K} {ys : Nat → MethodName} {wss : Nat → List Cond} {cf : dp_F} {fr lo : Nat} (hK : dp_Kok cl X.1.2.2.2 own Ts ys wss K) (hcf : dp_cfok cl X.1 ys wss fr lo cf) (hfr : fr + 1 ≤ rm.frames) (hlo : 32 + lo ≤ rm.locals) {ad0 : Nat → Nat} {sh0 : sm_S} {μ0 : sm_M} {pc len : Nat}  (d : decode cc pc = .ok (.lushr, len)) {L : List (Option Value)} {st : List Value} {sh : sm_S} {P : dp_P} {w : dp_w} {s' : dp_T} (h : dp_in K M cf pc L st sh P w .lushr len = some s') (hN : s'.2.2.2.1.length ≤ N) (hS : sm_sl s'.2.2.2.1 ≤ S) (k : dp_J cl X ad0 sh0 μ0 s') : dp_J cl X ad0 sh0 μ0 (pc, L, st, sh, P, w) := by
  obtain ⟨hl, hu1⟩ := dp_g_ok h
  clear h
  have hl := dp_beq hl
  subst hl
  obtain ⟨y, r, rfl, hu2⟩ := dp_1i_ok hu1
  clear hu1
  obtain ⟨x, r, rfl, hu3⟩ := dp_1l_ok hu2
  clear hu2
  rw [dp_fl_eq] at hu3
  cases hu3
  exact fun ad μ a b c e => sm_lushr hX d (k ad μ a b c e)
theorem dp_in_lshl {cl : List vw_C} {X : sm_X} {cc : ByteArray} {own : String} {Ts : List Cond} {rm : Room} {N S : Nat} {M : dp_M} (hX : sm_ok cl X cc M.2.1 own Ts M.2.2.1 rm N S M.2.2.2) {K : dp_K} {ys : Nat → MethodName} {wss : Nat → List Cond} {cf : dp_F} {fr lo : Nat} (hK : dp_Kok cl X.1.2.2.2 own Ts ys wss K) (hcf : dp_cfok cl X.1 ys wss fr lo cf) (hfr : fr + 1 ≤ rm.frames) (hlo : 32 + lo ≤ rm.locals) {ad0 : Nat → Nat} {sh0 : sm_S} {μ0 : sm_M} {pc len : Nat}  (d : decode cc pc = .ok (.lshl, len)) {L : List (Option Value)} {st : List Value} {sh : sm_S} {P : dp_P} {w : dp_w} {s' : dp_T} (h : dp_in K M cf pc L st sh P w .lshl len = some s') (hN : s'.2.2.2.1.length ≤ N) (hS : sm_sl s'.2.2.2.1 ≤ S) (k : dp_J cl X ad0 sh0 μ0 s') : dp_J cl X ad0 sh0 μ0 (pc, L, st, sh, P, w) := by
  obtain ⟨hl, hu1⟩ := dp_g_ok h
  clear h
  have hl := dp_beq hl
  subst hl
  obtain ⟨y, r, rfl, hu2⟩ := dp_1i_ok hu1
  clear hu1
  obtain ⟨x, r, rfl, hu3⟩ := dp_1l_ok hu2
  clear hu2
  rw [dp_fl_eq] at hu3
  cases hu3
  exact fun ad μ a b c e => sm_lshl hX d (k ad μ a b c e)
theorem dp_in_lshr {cl : List vw_C} {X : sm_X} {cc : ByteArray} {own : String} {Ts : List Cond} {rm : Room} {N S : Nat} {M : dp_M} (hX : sm_ok cl X cc M.2.1 own Ts M.2.2.1 rm N S M.2.2.2) {K : dp_K} {ys : Nat → MethodName} {wss : Nat → List Cond} {cf : dp_F} {fr lo : Nat} (hK : dp_Kok cl X.1.2.2.2 own Ts ys wss K) (hcf : dp_cfok cl X.1 ys wss fr lo cf) (hfr : fr + 1 ≤ rm.frames) (hlo : 32 + lo ≤ rm.locals) {ad0 : Nat → Nat} {sh0 : sm_S} {μ0 : sm_M} {pc len : Nat}  (d : decode cc pc = .ok (.lshr, len)) {L : List (Option Value)} {st : List Value} {sh : sm_S} {P : dp_P} {w : dp_w} {s' : dp_T} (h : dp_in K M cf pc L st sh P w .lshr len = some s') (hN : s'.2.2.2.1.length ≤ N) (hS : sm_sl s'.2.2.2.1 ≤ S) (k : dp_J cl X ad0 sh0 μ0 s') : dp_J cl X ad0 sh0 μ0 (pc, L, st, sh, P, w) := by
  obtain ⟨hl, hu1⟩ := dp_g_ok h
  clear h
  have hl := dp_beq hl
  subst hl
  obtain ⟨y, r, rfl, hu2⟩ := dp_1i_ok hu1
  clear hu1
  obtain ⟨x, r, rfl, hu3⟩ := dp_1l_ok hu2
  clear hu2
  rw [dp_fl_eq] at hu3
  cases hu3
  exact fun ad μ a b c e => sm_lshr hX d (k ad μ a b c e)
theorem dp_in_idiv {cl : List vw_C} {X : sm_X} {cc : ByteArray} {own : String} {Ts : List Cond} {rm : Room} {N S : Nat} {M : dp_M} (hX : sm_ok cl X cc M.2.1 own Ts M.2.2.1 rm N S M.2.2.2) {K : dp_K} {ys : Nat → MethodName} {wss : Nat → List Cond} {cf : dp_F} {fr lo : Nat} (hK : dp_Kok cl X.1.2.2.2 own Ts ys wss K) (hcf : dp_cfok cl X.1 ys wss fr lo cf) (hfr : fr + 1 ≤ rm.frames) (hlo : 32 + lo ≤ rm.locals) {ad0 : Nat → Nat} {sh0 : sm_S} {μ0 : sm_M} {pc len : Nat}  (d : decode cc pc = .ok (.idiv, len)) {L : List (Option Value)} {st : List Value} {sh : sm_S} {P : dp_P} {w : dp_w} {s' : dp_T} (h : dp_in K M cf pc L st sh P w .idiv len = some s') (hN : s'.2.2.2.1.length ≤ N) (hS : sm_sl s'.2.2.2.1 ≤ S) (k : dp_J cl X ad0 sh0 μ0 s') : dp_J cl X ad0 sh0 μ0 (pc, L, st, sh, P, w) := by
  obtain ⟨hl, hu1⟩ := dp_g_ok h
  clear h
  have hl := dp_beq hl
  subst hl
  obtain ⟨y, r, rfl, hu2⟩ := dp_1i_ok hu1
  clear hu1
  obtain ⟨x, r, rfl, hu3⟩ := dp_1i_ok hu2
  clear hu2
  obtain ⟨hne, hu4⟩ := dp_g_ok hu3
  clear hu3
  have hne : ¬ y = 0 := by simpa using hne
  rw [dp_fi_eq] at hu4
  cases hu4
  exact fun ad μ a b c e => sm_idiv hX d hne (k ad μ a b c e)
theorem dp_in_irem {cl : List vw_C} {X : sm_X} {cc : ByteArray} {own : String} {Ts : List Cond} {rm : Room} {N S : Nat} {M : dp_M} (hX : sm_ok cl X cc M.2.1 own Ts M.2.2.1 rm N S M.2.2.2) {K : dp_K} {ys : Nat → MethodName} {wss : Nat → List Cond} {cf : dp_F} {fr lo : Nat} (hK : dp_Kok cl X.1.2.2.2 own Ts ys wss K) (hcf : dp_cfok cl X.1 ys wss fr lo cf) (hfr : fr + 1 ≤ rm.frames) (hlo : 32 + lo ≤ rm.locals) {ad0 : Nat → Nat} {sh0 : sm_S} {μ0 : sm_M} {pc len : Nat}  (d : decode cc pc = .ok (.irem, len)) {L : List (Option Value)} {st : List Value} {sh : sm_S} {P : dp_P} {w : dp_w} {s' : dp_T} (h : dp_in K M cf pc L st sh P w .irem len = some s') (hN : s'.2.2.2.1.length ≤ N) (hS : sm_sl s'.2.2.2.1 ≤ S) (k : dp_J cl X ad0 sh0 μ0 s') : dp_J cl X ad0 sh0 μ0 (pc, L, st, sh, P, w) := by
  obtain ⟨hl, hu1⟩ := dp_g_ok h
  clear h
  have hl := dp_beq hl
  subst hl
  obtain ⟨y, r, rfl, hu2⟩ := dp_1i_ok hu1
  clear hu1
  obtain ⟨x, r, rfl, hu3⟩ := dp_1i_ok hu2
  clear hu2
  obtain ⟨hne, hu4⟩ := dp_g_ok hu3
  clear hu3
  have hne : ¬ y = 0 := by simpa using hne
  rw [dp_fi_eq] at hu4
  cases hu4
  exact fun ad μ a b c e => sm_irem hX d hne (k ad μ a b c e)
theorem dp_in_ineg {cl : List vw_C} {X : sm_X} {cc : ByteArray} {own : String} {Ts : List Cond} {rm : Room} {N S : Nat} {M : dp_M} (hX : sm_ok cl X cc M.2.1 own Ts M.2.2.1 rm N S M.2.2.2) {K : dp_K} {ys : Nat → MethodName} {wss : Nat → List Cond} {cf : dp_F} {fr lo : Nat} (hK : dp_Kok cl X.1.2.2.2 own Ts ys wss K) (hcf : dp_cfok cl X.1 ys wss fr lo cf) (hfr : fr + 1 ≤ rm.frames) (hlo : 32 + lo ≤ rm.locals) {ad0 : Nat → Nat} {sh0 : sm_S} {μ0 : sm_M} {pc len : Nat}  (d : decode cc pc = .ok (.ineg, len)) {L : List (Option Value)} {st : List Value} {sh : sm_S} {P : dp_P} {w : dp_w} {s' : dp_T} (h : dp_in K M cf pc L st sh P w .ineg len = some s') (hN : s'.2.2.2.1.length ≤ N) (hS : sm_sl s'.2.2.2.1 ≤ S) (k : dp_J cl X ad0 sh0 μ0 s') : dp_J cl X ad0 sh0 μ0 (pc, L, st, sh, P, w) := by
  obtain ⟨hl, hu1⟩ := dp_g_ok h
  clear h
  have hl := dp_beq hl
  subst hl
  obtain ⟨x, r, rfl, hu2⟩ := dp_1i_ok hu1
  clear hu1
  rw [dp_fi_eq] at hu2
  cases hu2
  exact fun ad μ a b c e => sm_ineg hX d (k ad μ a b c e)
theorem dp_in_lcmp {cl : List vw_C} {X : sm_X} {cc : ByteArray} {own : String} {Ts : List Cond} {rm : Room} {N S : Nat} {M : dp_M} (hX : sm_ok cl X cc M.2.1 own Ts M.2.2.1 rm N S M.2.2.2) {K : dp_K} {ys : Nat → MethodName} {wss : Nat → List Cond} {cf : dp_F} {fr lo : Nat} (hK : dp_Kok cl X.1.2.2.2 own Ts ys wss K) (hcf : dp_cfok cl X.1 ys wss fr lo cf) (hfr : fr + 1 ≤ rm.frames) (hlo : 32 + lo ≤ rm.locals) {ad0 : Nat → Nat} {sh0 : sm_S} {μ0 : sm_M} {pc len : Nat}  (d : decode cc pc = .ok (.lcmp, len)) {L : List (Option Value)} {st : List Value} {sh : sm_S} {P : dp_P} {w : dp_w} {s' : dp_T} (h : dp_in K M cf pc L st sh P w .lcmp len = some s') (hN : s'.2.2.2.1.length ≤ N) (hS : sm_sl s'.2.2.2.1 ≤ S) (k : dp_J cl X ad0 sh0 μ0 s') : dp_J cl X ad0 sh0 μ0 (pc, L, st, sh, P, w) := by
  obtain ⟨hl, hu1⟩ := dp_g_ok h
  clear h
  have hl := dp_beq hl
  subst hl
  obtain ⟨y, r, rfl, hu2⟩ := dp_1l_ok hu1
  clear hu1
  obtain ⟨x, r, rfl, hu3⟩ := dp_1l_ok hu2
  clear hu2
  rw [dp_fi_eq] at hu3
  cases hu3
  exact fun ad μ a b c e => sm_lcmp hX d (k ad μ a b c e)
theorem dp_in_i2l {cl : List vw_C} {X : sm_X} {cc : ByteArray} {own : String} {Ts : List Cond} {rm : Room} {N S : Nat} {M : dp_M} (hX : sm_ok cl X cc M.2.1 own Ts M.2.2.1 rm N S M.2.2.2) {K : dp_K} {ys : Nat → MethodName} {wss : Nat → List Cond} {cf : dp_F} {fr lo : Nat} (hK : dp_Kok cl X.1.2.2.2 own Ts ys wss K) (hcf : dp_cfok cl X.1 ys wss fr lo cf) (hfr : fr + 1 ≤ rm.frames) (hlo : 32 + lo ≤ rm.locals) {ad0 : Nat → Nat} {sh0 : sm_S} {μ0 : sm_M} {pc len : Nat}  (d : decode cc pc = .ok (.i2l, len)) {L : List (Option Value)} {st : List Value} {sh : sm_S} {P : dp_P} {w : dp_w} {s' : dp_T} (h : dp_in K M cf pc L st sh P w .i2l len = some s') (hN : s'.2.2.2.1.length ≤ N) (hS : sm_sl s'.2.2.2.1 ≤ S) (k : dp_J cl X ad0 sh0 μ0 s') : dp_J cl X ad0 sh0 μ0 (pc, L, st, sh, P, w) := by
  obtain ⟨hl, hu1⟩ := dp_g_ok h
  clear h
  have hl := dp_beq hl
  subst hl
  obtain ⟨x, r, rfl, hu2⟩ := dp_1i_ok hu1
  clear hu1
  rw [dp_fl_eq] at hu2
  cases hu2
  exact fun ad μ a b c e => sm_i2l hX d (k ad μ a b c e)
theorem dp_in_l2i {cl : List vw_C} {X : sm_X} {cc : ByteArray} {own : String} {Ts : List Cond} {rm : Room} {N S : Nat} {M : dp_M} (hX : sm_ok cl X cc M.2.1 own Ts M.2.2.1 rm N S M.2.2.2) {K : dp_K} {ys : Nat → MethodName} {wss : Nat → List Cond} {cf : dp_F} {fr lo : Nat} (hK : dp_Kok cl X.1.2.2.2 own Ts ys wss K) (hcf : dp_cfok cl X.1 ys wss fr lo cf) (hfr : fr + 1 ≤ rm.frames) (hlo : 32 + lo ≤ rm.locals) {ad0 : Nat → Nat} {sh0 : sm_S} {μ0 : sm_M} {pc len : Nat}  (d : decode cc pc = .ok (.l2i, len)) {L : List (Option Value)} {st : List Value} {sh : sm_S} {P : dp_P} {w : dp_w} {s' : dp_T} (h : dp_in K M cf pc L st sh P w .l2i len = some s') (hN : s'.2.2.2.1.length ≤ N) (hS : sm_sl s'.2.2.2.1 ≤ S) (k : dp_J cl X ad0 sh0 μ0 s') : dp_J cl X ad0 sh0 μ0 (pc, L, st, sh, P, w) := by
  obtain ⟨hl, hu1⟩ := dp_g_ok h
  clear h
  have hl := dp_beq hl
  subst hl
  obtain ⟨x, r, rfl, hu2⟩ := dp_1l_ok hu1
  clear hu1
  rw [dp_fi_eq] at hu2
  cases hu2
  exact fun ad μ a b c e => sm_l2i hX d (k ad μ a b c e)
theorem dp_in_iconst {cl : List vw_C} {X : sm_X} {cc : ByteArray} {own : String} {Ts : List Cond} {rm : Room} {N S : Nat} {M : dp_M} (hX : sm_ok cl X cc M.2.1 own Ts M.2.2.1 rm N S M.2.2.2) {K : dp_K} {ys : Nat → MethodName} {wss : Nat → List Cond} {cf : dp_F} {fr lo : Nat} (hK : dp_Kok cl X.1.2.2.2 own Ts ys wss K) (hcf : dp_cfok cl X.1 ys wss fr lo cf) (hfr : fr + 1 ≤ rm.frames) (hlo : 32 + lo ≤ rm.locals) {ad0 : Nat → Nat} {sh0 : sm_S} {μ0 : sm_M} {pc len : Nat} (i : Int) (d : decode cc pc = .ok ((.iconst i), len)) {L : List (Option Value)} {st : List Value} {sh : sm_S} {P : dp_P} {w : dp_w} {s' : dp_T} (h : dp_in K M cf pc L st sh P w (.iconst i) len = some s') (hN : s'.2.2.2.1.length ≤ N) (hS : sm_sl s'.2.2.2.1 ≤ S) (k : dp_J cl X ad0 sh0 μ0 s') : dp_J cl X ad0 sh0 μ0 (pc, L, st, sh, P, w) := by
  obtain ⟨hl, hu1⟩ := dp_g_ok h
  clear h
  have hl := dp_beq hl
  subst hl
  rw [dp_fi_eq] at hu1
  cases hu1
  exact fun ad μ a b c e => sm_iconst hX d (k ad μ a b c e)
theorem dp_in_bipush {cl : List vw_C} {X : sm_X} {cc : ByteArray} {own : String} {Ts : List Cond} {rm : Room} {N S : Nat} {M : dp_M} (hX : sm_ok cl X cc M.2.1 own Ts M.2.2.1 rm N S M.2.2.2) {K : dp_K} {ys : Nat → MethodName} {wss : Nat → List Cond} {cf : dp_F} {fr lo : Nat} (hK : dp_Kok cl X.1.2.2.2 own Ts ys wss K) (hcf : dp_cfok cl X.1 ys wss fr lo cf) (hfr : fr + 1 ≤ rm.frames) (hlo : 32 + lo ≤ rm.locals) {ad0 : Nat → Nat} {sh0 : sm_S} {μ0 : sm_M} {pc len : Nat} (i : Int) (d : decode cc pc = .ok ((.bipush i), len)) {L : List (Option Value)} {st : List Value} {sh : sm_S} {P : dp_P} {w : dp_w} {s' : dp_T} (h : dp_in K M cf pc L st sh P w (.bipush i) len = some s') (hN : s'.2.2.2.1.length ≤ N) (hS : sm_sl s'.2.2.2.1 ≤ S) (k : dp_J cl X ad0 sh0 μ0 s') : dp_J cl X ad0 sh0 μ0 (pc, L, st, sh, P, w) := by
  obtain ⟨hl, hu1⟩ := dp_g_ok h
  clear h
  have hl := dp_beq hl
  subst hl
  rw [dp_fi_eq] at hu1
  cases hu1
  exact fun ad μ a b c e => sm_bipush hX d (k ad μ a b c e)
theorem dp_in_sipush {cl : List vw_C} {X : sm_X} {cc : ByteArray} {own : String} {Ts : List Cond} {rm : Room} {N S : Nat} {M : dp_M} (hX : sm_ok cl X cc M.2.1 own Ts M.2.2.1 rm N S M.2.2.2) {K : dp_K} {ys : Nat → MethodName} {wss : Nat → List Cond} {cf : dp_F} {fr lo : Nat} (hK : dp_Kok cl X.1.2.2.2 own Ts ys wss K) (hcf : dp_cfok cl X.1 ys wss fr lo cf) (hfr : fr + 1 ≤ rm.frames) (hlo : 32 + lo ≤ rm.locals) {ad0 : Nat → Nat} {sh0 : sm_S} {μ0 : sm_M} {pc len : Nat} (i : Int) (d : decode cc pc = .ok ((.sipush i), len)) {L : List (Option Value)} {st : List Value} {sh : sm_S} {P : dp_P} {w : dp_w} {s' : dp_T} (h : dp_in K M cf pc L st sh P w (.sipush i) len = some s') (hN : s'.2.2.2.1.length ≤ N) (hS : sm_sl s'.2.2.2.1 ≤ S) (k : dp_J cl X ad0 sh0 μ0 s') : dp_J cl X ad0 sh0 μ0 (pc, L, st, sh, P, w) := by
  obtain ⟨hl, hu1⟩ := dp_g_ok h
  clear h
  have hl := dp_beq hl
  subst hl
  rw [dp_fi_eq] at hu1
  cases hu1
  exact fun ad μ a b c e => sm_sipush hX d (k ad μ a b c e)
theorem dp_in_lconst {cl : List vw_C} {X : sm_X} {cc : ByteArray} {own : String} {Ts : List Cond} {rm : Room} {N S : Nat} {M : dp_M} (hX : sm_ok cl X cc M.2.1 own Ts M.2.2.1 rm N S M.2.2.2) {K : dp_K} {ys : Nat → MethodName} {wss : Nat → List Cond} {cf : dp_F} {fr lo : Nat} (hK : dp_Kok cl X.1.2.2.2 own Ts ys wss K) (hcf : dp_cfok cl X.1 ys wss fr lo cf) (hfr : fr + 1 ≤ rm.frames) (hlo : 32 + lo ≤ rm.locals) {ad0 : Nat → Nat} {sh0 : sm_S} {μ0 : sm_M} {pc len : Nat} (i : Fin 2) (d : decode cc pc = .ok ((.lconst i), len)) {L : List (Option Value)} {st : List Value} {sh : sm_S} {P : dp_P} {w : dp_w} {s' : dp_T} (h : dp_in K M cf pc L st sh P w (.lconst i) len = some s') (hN : s'.2.2.2.1.length ≤ N) (hS : sm_sl s'.2.2.2.1 ≤ S) (k : dp_J cl X ad0 sh0 μ0 s') : dp_J cl X ad0 sh0 μ0 (pc, L, st, sh, P, w) := by
  obtain ⟨hl, hu1⟩ := dp_g_ok h
  clear h
  have hl := dp_beq hl
  subst hl
  rw [dp_fl_eq] at hu1
  cases hu1
  exact fun ad μ a b c e => sm_lconst hX d (k ad μ a b c e)
theorem dp_in_ldc {cl : List vw_C} {X : sm_X} {cc : ByteArray} {own : String} {Ts : List Cond} {rm : Room} {N S : Nat} {M : dp_M} (hX : sm_ok cl X cc M.2.1 own Ts M.2.2.1 rm N S M.2.2.2) {K : dp_K} {ys : Nat → MethodName} {wss : Nat → List Cond} {cf : dp_F} {fr lo : Nat} (hK : dp_Kok cl X.1.2.2.2 own Ts ys wss K) (hcf : dp_cfok cl X.1 ys wss fr lo cf) (hfr : fr + 1 ≤ rm.frames) (hlo : 32 + lo ≤ rm.locals) {ad0 : Nat → Nat} {sh0 : sm_S} {μ0 : sm_M} {pc len : Nat} (i : Nat) (d : decode cc pc = .ok ((.ldc i), len)) {L : List (Option Value)} {st : List Value} {sh : sm_S} {P : dp_P} {w : dp_w} {s' : dp_T} (h : dp_in K M cf pc L st sh P w (.ldc i) len = some s') (hN : s'.2.2.2.1.length ≤ N) (hS : sm_sl s'.2.2.2.1 ≤ S) (k : dp_J cl X ad0 sh0 μ0 s') : dp_J cl X ad0 sh0 μ0 (pc, L, st, sh, P, w) := by
  obtain ⟨hl, hu1⟩ := dp_g_ok h
  clear h
  have hl := dp_beq hl
  subst hl
  obtain ⟨v, hv, hu2⟩ := dp_o_ok hu1
  clear hu1
  cases hu2
  exact fun ad μ a b c e => sm_ldc hX d (hK.2.1 _ _ hv) (k ad μ a b c e)
theorem dp_in_ldc2_w {cl : List vw_C} {X : sm_X} {cc : ByteArray} {own : String} {Ts : List Cond} {rm : Room} {N S : Nat} {M : dp_M} (hX : sm_ok cl X cc M.2.1 own Ts M.2.2.1 rm N S M.2.2.2) {K : dp_K} {ys : Nat → MethodName} {wss : Nat → List Cond} {cf : dp_F} {fr lo : Nat} (hK : dp_Kok cl X.1.2.2.2 own Ts ys wss K) (hcf : dp_cfok cl X.1 ys wss fr lo cf) (hfr : fr + 1 ≤ rm.frames) (hlo : 32 + lo ≤ rm.locals) {ad0 : Nat → Nat} {sh0 : sm_S} {μ0 : sm_M} {pc len : Nat} (i : Nat) (d : decode cc pc = .ok ((.ldc2_w i), len)) {L : List (Option Value)} {st : List Value} {sh : sm_S} {P : dp_P} {w : dp_w} {s' : dp_T} (h : dp_in K M cf pc L st sh P w (.ldc2_w i) len = some s') (hN : s'.2.2.2.1.length ≤ N) (hS : sm_sl s'.2.2.2.1 ≤ S) (k : dp_J cl X ad0 sh0 μ0 s') : dp_J cl X ad0 sh0 μ0 (pc, L, st, sh, P, w) := by
  obtain ⟨hl, hu1⟩ := dp_g_ok h
  clear h
  have hl := dp_beq hl
  subst hl
  obtain ⟨v, hv, hu2⟩ := dp_o_ok hu1
  clear hu1
  cases hu2
  exact fun ad μ a b c e => sm_ldc2 hX d (hK.2.2.1 _ _ hv) (k ad μ a b c e)
theorem dp_in_dup {cl : List vw_C} {X : sm_X} {cc : ByteArray} {own : String} {Ts : List Cond} {rm : Room} {N S : Nat} {M : dp_M} (hX : sm_ok cl X cc M.2.1 own Ts M.2.2.1 rm N S M.2.2.2) {K : dp_K} {ys : Nat → MethodName} {wss : Nat → List Cond} {cf : dp_F} {fr lo : Nat} (hK : dp_Kok cl X.1.2.2.2 own Ts ys wss K) (hcf : dp_cfok cl X.1 ys wss fr lo cf) (hfr : fr + 1 ≤ rm.frames) (hlo : 32 + lo ≤ rm.locals) {ad0 : Nat → Nat} {sh0 : sm_S} {μ0 : sm_M} {pc len : Nat}  (d : decode cc pc = .ok (.dup, len)) {L : List (Option Value)} {st : List Value} {sh : sm_S} {P : dp_P} {w : dp_w} {s' : dp_T} (h : dp_in K M cf pc L st sh P w .dup len = some s') (hN : s'.2.2.2.1.length ≤ N) (hS : sm_sl s'.2.2.2.1 ≤ S) (k : dp_J cl X ad0 sh0 μ0 s') : dp_J cl X ad0 sh0 μ0 (pc, L, st, sh, P, w) := by
  obtain ⟨hl, hu1⟩ := dp_g_ok h
  clear h
  have hl := dp_beq hl
  subst hl
  obtain ⟨x, r, rfl, hu2⟩ := dp_1v_ok hu1
  clear hu1
  obtain ⟨h1, hu3⟩ := dp_g_ok hu2
  clear hu2
  have h1 := dp_beq h1
  cases hu3
  exact fun ad μ a b c e => sm_dup hX d h1 (k ad μ a b c e)
theorem dp_in_pop {cl : List vw_C} {X : sm_X} {cc : ByteArray} {own : String} {Ts : List Cond} {rm : Room} {N S : Nat} {M : dp_M} (hX : sm_ok cl X cc M.2.1 own Ts M.2.2.1 rm N S M.2.2.2) {K : dp_K} {ys : Nat → MethodName} {wss : Nat → List Cond} {cf : dp_F} {fr lo : Nat} (hK : dp_Kok cl X.1.2.2.2 own Ts ys wss K) (hcf : dp_cfok cl X.1 ys wss fr lo cf) (hfr : fr + 1 ≤ rm.frames) (hlo : 32 + lo ≤ rm.locals) {ad0 : Nat → Nat} {sh0 : sm_S} {μ0 : sm_M} {pc len : Nat}  (d : decode cc pc = .ok (.pop, len)) {L : List (Option Value)} {st : List Value} {sh : sm_S} {P : dp_P} {w : dp_w} {s' : dp_T} (h : dp_in K M cf pc L st sh P w .pop len = some s') (hN : s'.2.2.2.1.length ≤ N) (hS : sm_sl s'.2.2.2.1 ≤ S) (k : dp_J cl X ad0 sh0 μ0 s') : dp_J cl X ad0 sh0 μ0 (pc, L, st, sh, P, w) := by
  obtain ⟨hl, hu1⟩ := dp_g_ok h
  clear h
  have hl := dp_beq hl
  subst hl
  obtain ⟨x, r, rfl, hu2⟩ := dp_1v_ok hu1
  clear hu1
  obtain ⟨h1, hu3⟩ := dp_g_ok hu2
  clear hu2
  have h1 := dp_beq h1
  cases hu3
  exact fun ad μ a b c e => sm_pop hX d h1 (k ad μ a b c e)
theorem dp_in_dup_x1 {cl : List vw_C} {X : sm_X} {cc : ByteArray} {own : String} {Ts : List Cond} {rm : Room} {N S : Nat} {M : dp_M} (hX : sm_ok cl X cc M.2.1 own Ts M.2.2.1 rm N S M.2.2.2) {K : dp_K} {ys : Nat → MethodName} {wss : Nat → List Cond} {cf : dp_F} {fr lo : Nat} (hK : dp_Kok cl X.1.2.2.2 own Ts ys wss K) (hcf : dp_cfok cl X.1 ys wss fr lo cf) (hfr : fr + 1 ≤ rm.frames) (hlo : 32 + lo ≤ rm.locals) {ad0 : Nat → Nat} {sh0 : sm_S} {μ0 : sm_M} {pc len : Nat}  (d : decode cc pc = .ok (.dup_x1, len)) {L : List (Option Value)} {st : List Value} {sh : sm_S} {P : dp_P} {w : dp_w} {s' : dp_T} (h : dp_in K M cf pc L st sh P w .dup_x1 len = some s') (hN : s'.2.2.2.1.length ≤ N) (hS : sm_sl s'.2.2.2.1 ≤ S) (k : dp_J cl X ad0 sh0 μ0 s') : dp_J cl X ad0 sh0 μ0 (pc, L, st, sh, P, w) := by
  obtain ⟨hl, hu1⟩ := dp_g_ok h
  clear h
  have hl := dp_beq hl
  subst hl
  obtain ⟨x, r, rfl, hu2⟩ := dp_1v_ok hu1
  clear hu1
  obtain ⟨y, r, rfl, hu3⟩ := dp_1v_ok hu2
  clear hu2
  obtain ⟨h1, hu4⟩ := dp_g_ok hu3
  clear hu3
  have h1 := dp_beq h1
  obtain ⟨h2, hu5⟩ := dp_g_ok hu4
  clear hu4
  have h2 := dp_beq h2
  cases hu5
  exact fun ad μ a b c e => sm_dup_x1 hX d h1 h2 (k ad μ a b c e)
theorem dp_in_dup2 {cl : List vw_C} {X : sm_X} {cc : ByteArray} {own : String} {Ts : List Cond} {rm : Room} {N S : Nat} {M : dp_M} (hX : sm_ok cl X cc M.2.1 own Ts M.2.2.1 rm N S M.2.2.2) {K : dp_K} {ys : Nat → MethodName} {wss : Nat → List Cond} {cf : dp_F} {fr lo : Nat} (hK : dp_Kok cl X.1.2.2.2 own Ts ys wss K) (hcf : dp_cfok cl X.1 ys wss fr lo cf) (hfr : fr + 1 ≤ rm.frames) (hlo : 32 + lo ≤ rm.locals) {ad0 : Nat → Nat} {sh0 : sm_S} {μ0 : sm_M} {pc len : Nat}  (d : decode cc pc = .ok (.dup2, len)) {L : List (Option Value)} {st : List Value} {sh : sm_S} {P : dp_P} {w : dp_w} {s' : dp_T} (h : dp_in K M cf pc L st sh P w .dup2 len = some s') (hN : s'.2.2.2.1.length ≤ N) (hS : sm_sl s'.2.2.2.1 ≤ S) (k : dp_J cl X ad0 sh0 μ0 s') : dp_J cl X ad0 sh0 μ0 (pc, L, st, sh, P, w) := by
  obtain ⟨hl, hu1⟩ := dp_g_ok h
  clear h
  have hl := dp_beq hl
  subst hl
  obtain ⟨x, r, rfl, hu2⟩ := dp_1v_ok hu1
  clear hu1
  obtain ⟨y, r, rfl, hu3⟩ := dp_1v_ok hu2
  clear hu2
  obtain ⟨h1, hu4⟩ := dp_g_ok hu3
  clear hu3
  have h1 := dp_beq h1
  obtain ⟨h2, hu5⟩ := dp_g_ok hu4
  clear hu4
  have h2 := dp_beq h2
  cases hu5
  exact fun ad μ a b c e => sm_dup2 hX d h1 h2 (k ad μ a b c e)
theorem dp_in_iload {cl : List vw_C} {X : sm_X} {cc : ByteArray} {own : String} {Ts : List Cond} {rm : Room} {N S : Nat} {M : dp_M} (hX : sm_ok cl X cc M.2.1 own Ts M.2.2.1 rm N S M.2.2.2) {K : dp_K} {ys : Nat → MethodName} {wss : Nat → List Cond} {cf : dp_F} {fr lo : Nat} (hK : dp_Kok cl X.1.2.2.2 own Ts ys wss K) (hcf : dp_cfok cl X.1 ys wss fr lo cf) (hfr : fr + 1 ≤ rm.frames) (hlo : 32 + lo ≤ rm.locals) {ad0 : Nat → Nat} {sh0 : sm_S} {μ0 : sm_M} {pc len : Nat} (i : Nat) (d : decode cc pc = .ok ((.iload i), len)) {L : List (Option Value)} {st : List Value} {sh : sm_S} {P : dp_P} {w : dp_w} {s' : dp_T} (h : dp_in K M cf pc L st sh P w (.iload i) len = some s') (hN : s'.2.2.2.1.length ≤ N) (hS : sm_sl s'.2.2.2.1 ≤ S) (k : dp_J cl X ad0 sh0 μ0 s') : dp_J cl X ad0 sh0 μ0 (pc, L, st, sh, P, w) := by
  obtain ⟨hl, hu1⟩ := dp_g_ok h
  clear h
  have hl := dp_beq hl
  subst hl
  obtain ⟨x, hx, hu2⟩ := dp_li_ok hu1
  clear hu1
  cases hu2
  exact fun ad μ a b c e => sm_iloadG hX d hx (k ad μ a b c e)
theorem dp_in_iload_n {cl : List vw_C} {X : sm_X} {cc : ByteArray} {own : String} {Ts : List Cond} {rm : Room} {N S : Nat} {M : dp_M} (hX : sm_ok cl X cc M.2.1 own Ts M.2.2.1 rm N S M.2.2.2) {K : dp_K} {ys : Nat → MethodName} {wss : Nat → List Cond} {cf : dp_F} {fr lo : Nat} (hK : dp_Kok cl X.1.2.2.2 own Ts ys wss K) (hcf : dp_cfok cl X.1 ys wss fr lo cf) (hfr : fr + 1 ≤ rm.frames) (hlo : 32 + lo ≤ rm.locals) {ad0 : Nat → Nat} {sh0 : sm_S} {μ0 : sm_M} {pc len : Nat} (i : Fin 4) (d : decode cc pc = .ok ((.iload_n i), len)) {L : List (Option Value)} {st : List Value} {sh : sm_S} {P : dp_P} {w : dp_w} {s' : dp_T} (h : dp_in K M cf pc L st sh P w (.iload_n i) len = some s') (hN : s'.2.2.2.1.length ≤ N) (hS : sm_sl s'.2.2.2.1 ≤ S) (k : dp_J cl X ad0 sh0 μ0 s') : dp_J cl X ad0 sh0 μ0 (pc, L, st, sh, P, w) := by
  obtain ⟨hl, hu1⟩ := dp_g_ok h
  clear h
  have hl := dp_beq hl
  subst hl
  obtain ⟨x, hx, hu2⟩ := dp_li_ok hu1
  clear hu1
  cases hu2
  exact fun ad μ a b c e => sm_iloadN hX d hx (k ad μ a b c e)
theorem dp_in_istore {cl : List vw_C} {X : sm_X} {cc : ByteArray} {own : String} {Ts : List Cond} {rm : Room} {N S : Nat} {M : dp_M} (hX : sm_ok cl X cc M.2.1 own Ts M.2.2.1 rm N S M.2.2.2) {K : dp_K} {ys : Nat → MethodName} {wss : Nat → List Cond} {cf : dp_F} {fr lo : Nat} (hK : dp_Kok cl X.1.2.2.2 own Ts ys wss K) (hcf : dp_cfok cl X.1 ys wss fr lo cf) (hfr : fr + 1 ≤ rm.frames) (hlo : 32 + lo ≤ rm.locals) {ad0 : Nat → Nat} {sh0 : sm_S} {μ0 : sm_M} {pc len : Nat} (i : Nat) (d : decode cc pc = .ok ((.istore i), len)) {L : List (Option Value)} {st : List Value} {sh : sm_S} {P : dp_P} {w : dp_w} {s' : dp_T} (h : dp_in K M cf pc L st sh P w (.istore i) len = some s') (hN : s'.2.2.2.1.length ≤ N) (hS : sm_sl s'.2.2.2.1 ≤ S) (k : dp_J cl X ad0 sh0 μ0 s') : dp_J cl X ad0 sh0 μ0 (pc, L, st, sh, P, w) := by
  obtain ⟨hl, hu1⟩ := dp_g_ok h
  clear h
  have hl := dp_beq hl
  subst hl
  obtain ⟨x, r, rfl, hu2⟩ := dp_1i_ok hu1
  clear hu1
  obtain ⟨h1, hu3⟩ := dp_g_ok hu2
  clear hu2
  obtain ⟨h2, hu4⟩ := dp_g_ok hu3
  clear hu3
  have h2 := Nat.le_of_ble_eq_true h2
  cases hu4
  exact fun ad μ a b c e => sm_istoreG hX d h1 (by omega) (k ad μ a b c e)
theorem dp_in_istore_n {cl : List vw_C} {X : sm_X} {cc : ByteArray} {own : String} {Ts : List Cond} {rm : Room} {N S : Nat} {M : dp_M} (hX : sm_ok cl X cc M.2.1 own Ts M.2.2.1 rm N S M.2.2.2) {K : dp_K} {ys : Nat → MethodName} {wss : Nat → List Cond} {cf : dp_F} {fr lo : Nat} (hK : dp_Kok cl X.1.2.2.2 own Ts ys wss K) (hcf : dp_cfok cl X.1 ys wss fr lo cf) (hfr : fr + 1 ≤ rm.frames) (hlo : 32 + lo ≤ rm.locals) {ad0 : Nat → Nat} {sh0 : sm_S} {μ0 : sm_M} {pc len : Nat} (i : Fin 4) (d : decode cc pc = .ok ((.istore_n i), len)) {L : List (Option Value)} {st : List Value} {sh : sm_S} {P : dp_P} {w : dp_w} {s' : dp_T} (h : dp_in K M cf pc L st sh P w (.istore_n i) len = some s') (hN : s'.2.2.2.1.length ≤ N) (hS : sm_sl s'.2.2.2.1 ≤ S) (k : dp_J cl X ad0 sh0 μ0 s') : dp_J cl X ad0 sh0 μ0 (pc, L, st, sh, P, w) := by
  obtain ⟨hl, hu1⟩ := dp_g_ok h
  clear h
  have hl := dp_beq hl
  subst hl
  obtain ⟨x, r, rfl, hu2⟩ := dp_1i_ok hu1
  clear hu1
  obtain ⟨h1, hu3⟩ := dp_g_ok hu2
  clear hu2
  obtain ⟨h2, hu4⟩ := dp_g_ok hu3
  clear hu3
  have h2 := Nat.le_of_ble_eq_true h2
  cases hu4
  exact fun ad μ a b c e => sm_istoreN hX d h1 (by omega) (k ad μ a b c e)
theorem dp_in_lload {cl : List vw_C} {X : sm_X} {cc : ByteArray} {own : String} {Ts : List Cond} {rm : Room} {N S : Nat} {M : dp_M} (hX : sm_ok cl X cc M.2.1 own Ts M.2.2.1 rm N S M.2.2.2) {K : dp_K} {ys : Nat → MethodName} {wss : Nat → List Cond} {cf : dp_F} {fr lo : Nat} (hK : dp_Kok cl X.1.2.2.2 own Ts ys wss K) (hcf : dp_cfok cl X.1 ys wss fr lo cf) (hfr : fr + 1 ≤ rm.frames) (hlo : 32 + lo ≤ rm.locals) {ad0 : Nat → Nat} {sh0 : sm_S} {μ0 : sm_M} {pc len : Nat} (i : Nat) (d : decode cc pc = .ok ((.lload i), len)) {L : List (Option Value)} {st : List Value} {sh : sm_S} {P : dp_P} {w : dp_w} {s' : dp_T} (h : dp_in K M cf pc L st sh P w (.lload i) len = some s') (hN : s'.2.2.2.1.length ≤ N) (hS : sm_sl s'.2.2.2.1 ≤ S) (k : dp_J cl X ad0 sh0 μ0 s') : dp_J cl X ad0 sh0 μ0 (pc, L, st, sh, P, w) := by
  obtain ⟨hl, hu1⟩ := dp_g_ok h
  clear h
  have hl := dp_beq hl
  subst hl
  obtain ⟨x, hx, hu2⟩ := dp_ll_ok hu1
  clear hu1
  cases hu2
  exact fun ad μ a b c e => sm_lloadG hX d hx (k ad μ a b c e)
theorem dp_in_lload_n {cl : List vw_C} {X : sm_X} {cc : ByteArray} {own : String} {Ts : List Cond} {rm : Room} {N S : Nat} {M : dp_M} (hX : sm_ok cl X cc M.2.1 own Ts M.2.2.1 rm N S M.2.2.2) {K : dp_K} {ys : Nat → MethodName} {wss : Nat → List Cond} {cf : dp_F} {fr lo : Nat} (hK : dp_Kok cl X.1.2.2.2 own Ts ys wss K) (hcf : dp_cfok cl X.1 ys wss fr lo cf) (hfr : fr + 1 ≤ rm.frames) (hlo : 32 + lo ≤ rm.locals) {ad0 : Nat → Nat} {sh0 : sm_S} {μ0 : sm_M} {pc len : Nat} (i : Fin 4) (d : decode cc pc = .ok ((.lload_n i), len)) {L : List (Option Value)} {st : List Value} {sh : sm_S} {P : dp_P} {w : dp_w} {s' : dp_T} (h : dp_in K M cf pc L st sh P w (.lload_n i) len = some s') (hN : s'.2.2.2.1.length ≤ N) (hS : sm_sl s'.2.2.2.1 ≤ S) (k : dp_J cl X ad0 sh0 μ0 s') : dp_J cl X ad0 sh0 μ0 (pc, L, st, sh, P, w) := by
  obtain ⟨hl, hu1⟩ := dp_g_ok h
  clear h
  have hl := dp_beq hl
  subst hl
  obtain ⟨x, hx, hu2⟩ := dp_ll_ok hu1
  clear hu1
  cases hu2
  exact fun ad μ a b c e => sm_lloadN hX d hx (k ad μ a b c e)
theorem dp_in_lstore {cl : List vw_C} {X : sm_X} {cc : ByteArray} {own : String} {Ts : List Cond} {rm : Room} {N S : Nat} {M : dp_M} (hX : sm_ok cl X cc M.2.1 own Ts M.2.2.1 rm N S M.2.2.2) {K : dp_K} {ys : Nat → MethodName} {wss : Nat → List Cond} {cf : dp_F} {fr lo : Nat} (hK : dp_Kok cl X.1.2.2.2 own Ts ys wss K) (hcf : dp_cfok cl X.1 ys wss fr lo cf) (hfr : fr + 1 ≤ rm.frames) (hlo : 32 + lo ≤ rm.locals) {ad0 : Nat → Nat} {sh0 : sm_S} {μ0 : sm_M} {pc len : Nat} (i : Nat) (d : decode cc pc = .ok ((.lstore i), len)) {L : List (Option Value)} {st : List Value} {sh : sm_S} {P : dp_P} {w : dp_w} {s' : dp_T} (h : dp_in K M cf pc L st sh P w (.lstore i) len = some s') (hN : s'.2.2.2.1.length ≤ N) (hS : sm_sl s'.2.2.2.1 ≤ S) (k : dp_J cl X ad0 sh0 μ0 s') : dp_J cl X ad0 sh0 μ0 (pc, L, st, sh, P, w) := by
  obtain ⟨hl, hu1⟩ := dp_g_ok h
  clear h
  have hl := dp_beq hl
  subst hl
  obtain ⟨x, r, rfl, hu2⟩ := dp_1l_ok hu1
  clear hu1
  obtain ⟨h1, hu3⟩ := dp_g_ok hu2
  clear hu2
  obtain ⟨h2, hu4⟩ := dp_g_ok hu3
  clear hu3
  have h2 := Nat.le_of_ble_eq_true h2
  cases hu4
  exact fun ad μ a b c e => sm_lstoreG hX d h1 (by omega) (k ad μ a b c e)
theorem dp_in_lstore_n {cl : List vw_C} {X : sm_X} {cc : ByteArray} {own : String} {Ts : List Cond} {rm : Room} {N S : Nat} {M : dp_M} (hX : sm_ok cl X cc M.2.1 own Ts M.2.2.1 rm N S M.2.2.2) {K : dp_K} {ys : Nat → MethodName} {wss : Nat → List Cond} {cf : dp_F} {fr lo : Nat} (hK : dp_Kok cl X.1.2.2.2 own Ts ys wss K) (hcf : dp_cfok cl X.1 ys wss fr lo cf) (hfr : fr + 1 ≤ rm.frames) (hlo : 32 + lo ≤ rm.locals) {ad0 : Nat → Nat} {sh0 : sm_S} {μ0 : sm_M} {pc len : Nat} (i : Fin 4) (d : decode cc pc = .ok ((.lstore_n i), len)) {L : List (Option Value)} {st : List Value} {sh : sm_S} {P : dp_P} {w : dp_w} {s' : dp_T} (h : dp_in K M cf pc L st sh P w (.lstore_n i) len = some s') (hN : s'.2.2.2.1.length ≤ N) (hS : sm_sl s'.2.2.2.1 ≤ S) (k : dp_J cl X ad0 sh0 μ0 s') : dp_J cl X ad0 sh0 μ0 (pc, L, st, sh, P, w) := by
  obtain ⟨hl, hu1⟩ := dp_g_ok h
  clear h
  have hl := dp_beq hl
  subst hl
  obtain ⟨x, r, rfl, hu2⟩ := dp_1l_ok hu1
  clear hu1
  obtain ⟨h1, hu3⟩ := dp_g_ok hu2
  clear hu2
  obtain ⟨h2, hu4⟩ := dp_g_ok hu3
  clear hu3
  have h2 := Nat.le_of_ble_eq_true h2
  cases hu4
  exact fun ad μ a b c e => sm_lstoreN hX d h1 (by omega) (k ad μ a b c e)
theorem dp_in_aload {cl : List vw_C} {X : sm_X} {cc : ByteArray} {own : String} {Ts : List Cond} {rm : Room} {N S : Nat} {M : dp_M} (hX : sm_ok cl X cc M.2.1 own Ts M.2.2.1 rm N S M.2.2.2) {K : dp_K} {ys : Nat → MethodName} {wss : Nat → List Cond} {cf : dp_F} {fr lo : Nat} (hK : dp_Kok cl X.1.2.2.2 own Ts ys wss K) (hcf : dp_cfok cl X.1 ys wss fr lo cf) (hfr : fr + 1 ≤ rm.frames) (hlo : 32 + lo ≤ rm.locals) {ad0 : Nat → Nat} {sh0 : sm_S} {μ0 : sm_M} {pc len : Nat} (i : Nat) (d : decode cc pc = .ok ((.aload i), len)) {L : List (Option Value)} {st : List Value} {sh : sm_S} {P : dp_P} {w : dp_w} {s' : dp_T} (h : dp_in K M cf pc L st sh P w (.aload i) len = some s') (hN : s'.2.2.2.1.length ≤ N) (hS : sm_sl s'.2.2.2.1 ≤ S) (k : dp_J cl X ad0 sh0 μ0 s') : dp_J cl X ad0 sh0 μ0 (pc, L, st, sh, P, w) := by
  obtain ⟨hl, hu1⟩ := dp_g_ok h
  clear h
  have hl := dp_beq hl
  subst hl
  obtain ⟨x, hx, hu2⟩ := dp_la_ok hu1
  clear hu1
  cases hu2
  exact fun ad μ a b c e => sm_aloadG hX d hx (k ad μ a b c e)
theorem dp_in_aload_n {cl : List vw_C} {X : sm_X} {cc : ByteArray} {own : String} {Ts : List Cond} {rm : Room} {N S : Nat} {M : dp_M} (hX : sm_ok cl X cc M.2.1 own Ts M.2.2.1 rm N S M.2.2.2) {K : dp_K} {ys : Nat → MethodName} {wss : Nat → List Cond} {cf : dp_F} {fr lo : Nat} (hK : dp_Kok cl X.1.2.2.2 own Ts ys wss K) (hcf : dp_cfok cl X.1 ys wss fr lo cf) (hfr : fr + 1 ≤ rm.frames) (hlo : 32 + lo ≤ rm.locals) {ad0 : Nat → Nat} {sh0 : sm_S} {μ0 : sm_M} {pc len : Nat} (i : Fin 4) (d : decode cc pc = .ok ((.aload_n i), len)) {L : List (Option Value)} {st : List Value} {sh : sm_S} {P : dp_P} {w : dp_w} {s' : dp_T} (h : dp_in K M cf pc L st sh P w (.aload_n i) len = some s') (hN : s'.2.2.2.1.length ≤ N) (hS : sm_sl s'.2.2.2.1 ≤ S) (k : dp_J cl X ad0 sh0 μ0 s') : dp_J cl X ad0 sh0 μ0 (pc, L, st, sh, P, w) := by
  obtain ⟨hl, hu1⟩ := dp_g_ok h
  clear h
  have hl := dp_beq hl
  subst hl
  obtain ⟨x, hx, hu2⟩ := dp_la_ok hu1
  clear hu1
  cases hu2
  exact fun ad μ a b c e => sm_aloadN hX d hx (k ad μ a b c e)
theorem dp_in_astore {cl : List vw_C} {X : sm_X} {cc : ByteArray} {own : String} {Ts : List Cond} {rm : Room} {N S : Nat} {M : dp_M} (hX : sm_ok cl X cc M.2.1 own Ts M.2.2.1 rm N S M.2.2.2) {K : dp_K} {ys : Nat → MethodName} {wss : Nat → List Cond} {cf : dp_F} {fr lo : Nat} (hK : dp_Kok cl X.1.2.2.2 own Ts ys wss K) (hcf : dp_cfok cl X.1 ys wss fr lo cf) (hfr : fr + 1 ≤ rm.frames) (hlo : 32 + lo ≤ rm.locals) {ad0 : Nat → Nat} {sh0 : sm_S} {μ0 : sm_M} {pc len : Nat} (i : Nat) (d : decode cc pc = .ok ((.astore i), len)) {L : List (Option Value)} {st : List Value} {sh : sm_S} {P : dp_P} {w : dp_w} {s' : dp_T} (h : dp_in K M cf pc L st sh P w (.astore i) len = some s') (hN : s'.2.2.2.1.length ≤ N) (hS : sm_sl s'.2.2.2.1 ≤ S) (k : dp_J cl X ad0 sh0 μ0 s') : dp_J cl X ad0 sh0 μ0 (pc, L, st, sh, P, w) := by
  obtain ⟨hl, hu1⟩ := dp_g_ok h
  clear h
  have hl := dp_beq hl
  subst hl
  obtain ⟨x, r, rfl, hu2⟩ := dp_1r_ok hu1
  clear hu1
  obtain ⟨h1, hu3⟩ := dp_g_ok hu2
  clear hu2
  obtain ⟨h2, hu4⟩ := dp_g_ok hu3
  clear hu3
  have h2 := Nat.le_of_ble_eq_true h2
  cases hu4
  exact fun ad μ a b c e => sm_astoreG hX d h1 (by omega) (k ad μ a b c e)
theorem dp_in_astore_n {cl : List vw_C} {X : sm_X} {cc : ByteArray} {own : String} {Ts : List Cond} {rm : Room} {N S : Nat} {M : dp_M} (hX : sm_ok cl X cc M.2.1 own Ts M.2.2.1 rm N S M.2.2.2) {K : dp_K} {ys : Nat → MethodName} {wss : Nat → List Cond} {cf : dp_F} {fr lo : Nat} (hK : dp_Kok cl X.1.2.2.2 own Ts ys wss K) (hcf : dp_cfok cl X.1 ys wss fr lo cf) (hfr : fr + 1 ≤ rm.frames) (hlo : 32 + lo ≤ rm.locals) {ad0 : Nat → Nat} {sh0 : sm_S} {μ0 : sm_M} {pc len : Nat} (i : Fin 4) (d : decode cc pc = .ok ((.astore_n i), len)) {L : List (Option Value)} {st : List Value} {sh : sm_S} {P : dp_P} {w : dp_w} {s' : dp_T} (h : dp_in K M cf pc L st sh P w (.astore_n i) len = some s') (hN : s'.2.2.2.1.length ≤ N) (hS : sm_sl s'.2.2.2.1 ≤ S) (k : dp_J cl X ad0 sh0 μ0 s') : dp_J cl X ad0 sh0 μ0 (pc, L, st, sh, P, w) := by
  obtain ⟨hl, hu1⟩ := dp_g_ok h
  clear h
  have hl := dp_beq hl
  subst hl
  obtain ⟨x, r, rfl, hu2⟩ := dp_1r_ok hu1
  clear hu1
  obtain ⟨h1, hu3⟩ := dp_g_ok hu2
  clear hu2
  obtain ⟨h2, hu4⟩ := dp_g_ok hu3
  clear hu3
  have h2 := Nat.le_of_ble_eq_true h2
  cases hu4
  exact fun ad μ a b c e => sm_astoreN hX d h1 (by omega) (k ad μ a b c e)
theorem dp_in_iinc {cl : List vw_C} {X : sm_X} {cc : ByteArray} {own : String} {Ts : List Cond} {rm : Room} {N S : Nat} {M : dp_M} (hX : sm_ok cl X cc M.2.1 own Ts M.2.2.1 rm N S M.2.2.2) {K : dp_K} {ys : Nat → MethodName} {wss : Nat → List Cond} {cf : dp_F} {fr lo : Nat} (hK : dp_Kok cl X.1.2.2.2 own Ts ys wss K) (hcf : dp_cfok cl X.1 ys wss fr lo cf) (hfr : fr + 1 ≤ rm.frames) (hlo : 32 + lo ≤ rm.locals) {ad0 : Nat → Nat} {sh0 : sm_S} {μ0 : sm_M} {pc len : Nat} (i : Nat) (z : Int) (d : decode cc pc = .ok ((.iinc i z), len)) {L : List (Option Value)} {st : List Value} {sh : sm_S} {P : dp_P} {w : dp_w} {s' : dp_T} (h : dp_in K M cf pc L st sh P w (.iinc i z) len = some s') (hN : s'.2.2.2.1.length ≤ N) (hS : sm_sl s'.2.2.2.1 ≤ S) (k : dp_J cl X ad0 sh0 μ0 s') : dp_J cl X ad0 sh0 μ0 (pc, L, st, sh, P, w) := by
  obtain ⟨hl, hu1⟩ := dp_g_ok h
  clear h
  have hl := dp_beq hl
  subst hl
  obtain ⟨x, hx, hu2⟩ := dp_li_ok hu1
  clear hu1
  obtain ⟨h1, hu3⟩ := dp_g_ok hu2
  clear hu2
  obtain ⟨h2, hu4⟩ := dp_g_ok hu3
  clear hu3
  have h2 := Nat.le_of_ble_eq_true h2
  rw [dp_fi_eq] at hu4
  cases hu4
  exact fun ad μ a b c e => sm_iincG hX d hx h1 (by omega) (k ad μ a b c e)
theorem dp_in_ifCond {cl : List vw_C} {X : sm_X} {cc : ByteArray} {own : String} {Ts : List Cond} {rm : Room} {N S : Nat} {M : dp_M} (hX : sm_ok cl X cc M.2.1 own Ts M.2.2.1 rm N S M.2.2.2) {K : dp_K} {ys : Nat → MethodName} {wss : Nat → List Cond} {cf : dp_F} {fr lo : Nat} (hK : dp_Kok cl X.1.2.2.2 own Ts ys wss K) (hcf : dp_cfok cl X.1 ys wss fr lo cf) (hfr : fr + 1 ≤ rm.frames) (hlo : 32 + lo ≤ rm.locals) {ad0 : Nat → Nat} {sh0 : sm_S} {μ0 : sm_M} {pc len : Nat} (cn : Jvm.ClassFile.Cond) (off : Int) (d : decode cc pc = .ok ((.ifCond cn off), len)) {L : List (Option Value)} {st : List Value} {sh : sm_S} {P : dp_P} {w : dp_w} {s' : dp_T} (h : dp_in K M cf pc L st sh P w (.ifCond cn off) len = some s') (hN : s'.2.2.2.1.length ≤ N) (hS : sm_sl s'.2.2.2.1 ≤ S) (k : dp_J cl X ad0 sh0 μ0 s') : dp_J cl X ad0 sh0 μ0 (pc, L, st, sh, P, w) := by
  obtain ⟨hl, hu1⟩ := dp_g_ok h
  clear h
  have hl := dp_beq hl
  subst hl
  obtain ⟨x, r, rfl, hu2⟩ := dp_1i_ok hu1
  clear hu1
  obtain ⟨t, ht, hu3⟩ := dp_tg_ok hu2
  clear hu2
  cases hc : dp_c0 cn x with
  | true =>
    rw [hc] at hu3
    cases hu3
    intro ad μ a b c e
    cases cn with
    | eq =>
      have hc := of_decide_eq_true hc
      exact sm_if_eq hX t d ht (fun _ => k ad μ a b c e) (fun z => absurd hc z)
    | ne =>
      have hc := of_decide_eq_false ((Bool.not_eq_true' _).mp hc)
      exact sm_if_ne hX t d ht (fun _ => k ad μ a b c e) (fun z => absurd z hc)
    | lt =>
      have hc := of_decide_eq_true hc
      exact sm_if_lt hX t d ht (fun _ => k ad μ a b c e) (fun z => absurd hc z)
    | ge =>
      have hc := of_decide_eq_true hc
      exact sm_if_ge hX t d ht (fun _ => k ad μ a b c e) (fun z => absurd hc z)
    | gt =>
      have hc := of_decide_eq_true hc
      exact sm_if_gt hX t d ht (fun _ => k ad μ a b c e) (fun z => absurd hc z)
    | le =>
      have hc := of_decide_eq_true hc
      exact sm_if_le hX t d ht (fun _ => k ad μ a b c e) (fun z => absurd hc z)
  | false =>
    rw [hc] at hu3
    cases hu3
    intro ad μ a b c e
    cases cn with
    | eq =>
      have hc := of_decide_eq_false hc
      exact sm_if_eq hX t d ht (fun z => absurd z hc) (fun _ => k ad μ a b c e)
    | ne =>
      have hc := of_decide_eq_true ((Bool.not_eq_false' _).mp hc)
      exact sm_if_ne hX t d ht (fun z => absurd hc z) (fun _ => k ad μ a b c e)
    | lt =>
      have hc := of_decide_eq_false hc
      exact sm_if_lt hX t d ht (fun z => absurd z hc) (fun _ => k ad μ a b c e)
    | ge =>
      have hc := of_decide_eq_false hc
      exact sm_if_ge hX t d ht (fun z => absurd z hc) (fun _ => k ad μ a b c e)
    | gt =>
      have hc := of_decide_eq_false hc
      exact sm_if_gt hX t d ht (fun z => absurd z hc) (fun _ => k ad μ a b c e)
    | le =>
      have hc := of_decide_eq_false hc
      exact sm_if_le hX t d ht (fun z => absurd z hc) (fun _ => k ad μ a b c e)
theorem dp_in_if_icmp {cl : List vw_C} {X : sm_X} {cc : ByteArray} {own : String} {Ts : List Cond} {rm : Room} {N S : Nat} {M : dp_M} (hX : sm_ok cl X cc M.2.1 own Ts M.2.2.1 rm N S M.2.2.2) {K : dp_K} {ys : Nat → MethodName} {wss : Nat → List Cond} {cf : dp_F} {fr lo : Nat} (hK : dp_Kok cl X.1.2.2.2 own Ts ys wss K) (hcf : dp_cfok cl X.1 ys wss fr lo cf) (hfr : fr + 1 ≤ rm.frames) (hlo : 32 + lo ≤ rm.locals) {ad0 : Nat → Nat} {sh0 : sm_S} {μ0 : sm_M} {pc len : Nat} (cn : Jvm.ClassFile.Cond) (off : Int) (d : decode cc pc = .ok ((.if_icmp cn off), len)) {L : List (Option Value)} {st : List Value} {sh : sm_S} {P : dp_P} {w : dp_w} {s' : dp_T} (h : dp_in K M cf pc L st sh P w (.if_icmp cn off) len = some s') (hN : s'.2.2.2.1.length ≤ N) (hS : sm_sl s'.2.2.2.1 ≤ S) (k : dp_J cl X ad0 sh0 μ0 s') : dp_J cl X ad0 sh0 μ0 (pc, L, st, sh, P, w) := by
  obtain ⟨hl, hu1⟩ := dp_g_ok h
  clear h
  have hl := dp_beq hl
  subst hl
  obtain ⟨y, r, rfl, hu2⟩ := dp_1i_ok hu1
  clear hu1
  obtain ⟨x, r, rfl, hu3⟩ := dp_1i_ok hu2
  clear hu2
  obtain ⟨t, ht, hu4⟩ := dp_tg_ok hu3
  clear hu3
  cases hc : dp_c2 cn x y with
  | true =>
    rw [hc] at hu4
    cases hu4
    intro ad μ a b c e
    cases cn with
    | eq =>
      have hc := of_decide_eq_true hc
      exact sm_icmp_eq hX t d ht (fun _ => k ad μ a b c e) (fun z => absurd hc z)
    | ne =>
      have hc := of_decide_eq_false ((Bool.not_eq_true' _).mp hc)
      exact sm_icmp_ne hX t d ht (fun _ => k ad μ a b c e) (fun z => absurd z hc)
    | lt =>
      have hc := of_decide_eq_true hc
      exact sm_icmp_lt hX t d ht (fun _ => k ad μ a b c e) (fun z => absurd hc z)
    | ge =>
      have hc := of_decide_eq_true hc
      exact sm_icmp_ge hX t d ht (fun _ => k ad μ a b c e) (fun z => absurd hc z)
    | gt =>
      have hc := of_decide_eq_true hc
      exact sm_icmp_gt hX t d ht (fun _ => k ad μ a b c e) (fun z => absurd hc z)
    | le =>
      have hc := of_decide_eq_true hc
      exact sm_icmp_le hX t d ht (fun _ => k ad μ a b c e) (fun z => absurd hc z)
  | false =>
    rw [hc] at hu4
    cases hu4
    intro ad μ a b c e
    cases cn with
    | eq =>
      have hc := of_decide_eq_false hc
      exact sm_icmp_eq hX t d ht (fun z => absurd z hc) (fun _ => k ad μ a b c e)
    | ne =>
      have hc := of_decide_eq_true ((Bool.not_eq_false' _).mp hc)
      exact sm_icmp_ne hX t d ht (fun z => absurd hc z) (fun _ => k ad μ a b c e)
    | lt =>
      have hc := of_decide_eq_false hc
      exact sm_icmp_lt hX t d ht (fun z => absurd z hc) (fun _ => k ad μ a b c e)
    | ge =>
      have hc := of_decide_eq_false hc
      exact sm_icmp_ge hX t d ht (fun z => absurd z hc) (fun _ => k ad μ a b c e)
    | gt =>
      have hc := of_decide_eq_false hc
      exact sm_icmp_gt hX t d ht (fun z => absurd z hc) (fun _ => k ad μ a b c e)
    | le =>
      have hc := of_decide_eq_false hc
      exact sm_icmp_le hX t d ht (fun z => absurd z hc) (fun _ => k ad μ a b c e)
theorem dp_in_goto {cl : List vw_C} {X : sm_X} {cc : ByteArray} {own : String} {Ts : List Cond} {rm : Room} {N S : Nat} {M : dp_M} (hX : sm_ok cl X cc M.2.1 own Ts M.2.2.1 rm N S M.2.2.2) {K : dp_K} {ys : Nat → MethodName} {wss : Nat → List Cond} {cf : dp_F} {fr lo : Nat} (hK : dp_Kok cl X.1.2.2.2 own Ts ys wss K) (hcf : dp_cfok cl X.1 ys wss fr lo cf) (hfr : fr + 1 ≤ rm.frames) (hlo : 32 + lo ≤ rm.locals) {ad0 : Nat → Nat} {sh0 : sm_S} {μ0 : sm_M} {pc len : Nat} (off : Int) (d : decode cc pc = .ok ((.goto off), len)) {L : List (Option Value)} {st : List Value} {sh : sm_S} {P : dp_P} {w : dp_w} {s' : dp_T} (h : dp_in K M cf pc L st sh P w (.goto off) len = some s') (hN : s'.2.2.2.1.length ≤ N) (hS : sm_sl s'.2.2.2.1 ≤ S) (k : dp_J cl X ad0 sh0 μ0 s') : dp_J cl X ad0 sh0 μ0 (pc, L, st, sh, P, w) := by
  obtain ⟨hl, hu1⟩ := dp_g_ok h
  clear h
  have hl := dp_beq hl
  subst hl
  obtain ⟨t, ht, hu2⟩ := dp_tg_ok hu1
  clear hu1
  cases hu2
  exact fun ad μ a b c e => sm_goto hX t d ht (k ad μ a b c e)
theorem dp_in_lookupswitch {cl : List vw_C} {X : sm_X} {cc : ByteArray} {own : String} {Ts : List Cond} {rm : Room} {N S : Nat} {M : dp_M} (hX : sm_ok cl X cc M.2.1 own Ts M.2.2.1 rm N S M.2.2.2) {K : dp_K} {ys : Nat → MethodName} {wss : Nat → List Cond} {cf : dp_F} {fr lo : Nat} (hK : dp_Kok cl X.1.2.2.2 own Ts ys wss K) (hcf : dp_cfok cl X.1 ys wss fr lo cf) (hfr : fr + 1 ≤ rm.frames) (hlo : 32 + lo ≤ rm.locals) {ad0 : Nat → Nat} {sh0 : sm_S} {μ0 : sm_M} {pc len : Nat} (dflt : Int) (ps : Array (Int × Int)) (d : decode cc pc = .ok ((.lookupswitch dflt ps), len)) {L : List (Option Value)} {st : List Value} {sh : sm_S} {P : dp_P} {w : dp_w} {s' : dp_T} (h : dp_in K M cf pc L st sh P w (.lookupswitch dflt ps) len = some s') (hN : s'.2.2.2.1.length ≤ N) (hS : sm_sl s'.2.2.2.1 ≤ S) (k : dp_J cl X ad0 sh0 μ0 s') : dp_J cl X ad0 sh0 μ0 (pc, L, st, sh, P, w) := by
  obtain ⟨x, r, rfl, hu1⟩ := dp_1i_ok h
  clear h
  obtain ⟨hp, hu2⟩ := dp_g_ok hu1
  clear hu1
  obtain ⟨t, ht, hu3⟩ := dp_tg_ok hu2
  clear hu2
  cases hu3
  exact fun ad μ a b c e => sm_lookup hX t d hp ht (k ad μ a b c e)
theorem dp_in_tableswitch {cl : List vw_C} {X : sm_X} {cc : ByteArray} {own : String} {Ts : List Cond} {rm : Room} {N S : Nat} {M : dp_M} (hX : sm_ok cl X cc M.2.1 own Ts M.2.2.1 rm N S M.2.2.2) {K : dp_K} {ys : Nat → MethodName} {wss : Nat → List Cond} {cf : dp_F} {fr lo : Nat} (hK : dp_Kok cl X.1.2.2.2 own Ts ys wss K) (hcf : dp_cfok cl X.1 ys wss fr lo cf) (hfr : fr + 1 ≤ rm.frames) (hlo : 32 + lo ≤ rm.locals) {ad0 : Nat → Nat} {sh0 : sm_S} {μ0 : sm_M} {pc len : Nat} (dflt : Int) (lo : Int) (hi : Int) (offs : Array Int) (d : decode cc pc = .ok ((.tableswitch dflt lo hi offs), len)) {L : List (Option Value)} {st : List Value} {sh : sm_S} {P : dp_P} {w : dp_w} {s' : dp_T} (h : dp_in K M cf pc L st sh P w (.tableswitch dflt lo hi offs) len = some s') (hN : s'.2.2.2.1.length ≤ N) (hS : sm_sl s'.2.2.2.1 ≤ S) (k : dp_J cl X ad0 sh0 μ0 s') : dp_J cl X ad0 sh0 μ0 (pc, L, st, sh, P, w) := by
  obtain ⟨x, r, rfl, hu1⟩ := dp_1i_ok h
  clear h
  cases hc : decide (x.toInt < lo ∨ hi < x.toInt) with
  | true =>
    rw [hc] at hu1
    obtain ⟨t, ht, hu1⟩ := dp_tg_ok hu1
    cases hu1
    exact fun ad μ a b c e => sm_tableOut hX t d (of_decide_eq_true hc) ht (k ad μ a b c e)
  | false =>
    rw [hc] at hu1
    have hc := of_decide_eq_false hc
    obtain ⟨off, ho, hu1⟩ := dp_o_ok hu1
    obtain ⟨t, ht, hu1⟩ := dp_tg_ok hu1
    cases hu1
    exact fun ad μ a b c e => sm_tableIn hX t d (fun z => hc (Or.inl z)) (fun z => hc (Or.inr z)) ho ht (k ad μ a b c e)
theorem dp_in_getfield {cl : List vw_C} {X : sm_X} {cc : ByteArray} {own : String} {Ts : List Cond} {rm : Room} {N S : Nat} {M : dp_M} (hX : sm_ok cl X cc M.2.1 own Ts M.2.2.1 rm N S M.2.2.2) {K : dp_K} {ys : Nat → MethodName} {wss : Nat → List Cond} {cf : dp_F} {fr lo : Nat} (hK : dp_Kok cl X.1.2.2.2 own Ts ys wss K) (hcf : dp_cfok cl X.1 ys wss fr lo cf) (hfr : fr + 1 ≤ rm.frames) (hlo : 32 + lo ≤ rm.locals) {ad0 : Nat → Nat} {sh0 : sm_S} {μ0 : sm_M} {pc len : Nat} (i : Nat) (d : decode cc pc = .ok ((.getfield i), len)) {L : List (Option Value)} {st : List Value} {sh : sm_S} {P : dp_P} {w : dp_w} {s' : dp_T} (h : dp_in K M cf pc L st sh P w (.getfield i) len = some s') (hN : s'.2.2.2.1.length ≤ N) (hS : sm_sl s'.2.2.2.1 ≤ S) (k : dp_J cl X ad0 sh0 μ0 s') : dp_J cl X ad0 sh0 μ0 (pc, L, st, sh, P, w) := by
  obtain ⟨hl, hu1⟩ := dp_g_ok h
  clear h
  have hl := dp_beq hl
  subst hl
  obtain ⟨p, r, rfl, hu2⟩ := dp_1r_ok hu1
  clear hu1
  obtain ⟨⟨ci, kf, fl⟩, hF, hu3⟩ := dp_o_ok hu2
  clear hu2
  obtain ⟨fs, hs, hu4⟩ := dp_ob_ok hu3
  clear hu3
  obtain ⟨f, hf, hu5⟩ := dp_o_ok hu4
  clear hu4
  obtain ⟨C, T, N', t, e2, e3, e5, e7, e8, e6, -⟩ := hK.1 _ _ hF
  simp only at e2 e3 e5 e6 hs hf
  intro ad μ a b c e
  have key : ∀ v : Value, (∀ q, f = some (some q) → v = .ref q) → (f = none → v = .int (μ.1 p kf)) → sm_E cl X (pc + 3) L (v :: r) ad sh μ := by
    intro v hv1 hv2
    cases f with
    | none =>
      obtain ⟨u, hu, hu5⟩ := dp_o_ok hu5
      cases hu5
      rw [hv2 rfl, a.1 _ _ _ hu]
      exact k ad μ a b c e
    | some f =>
      cases f with
      | none => cases hu5
      | some q =>
        cases hu5
        rw [hv1 q rfl]
        exact k ad μ a b c e
  rcases e6 with e6 | ⟨host, e6⟩
  · exact sm_get hX hs e2 e3 hf e5 e6 d (fun v _ h1 h2 => key v h1 h2)
  · exact sm_getN hX hs e2 e3 hf e5 e6 d (fun v _ h1 h2 => key v h1 h2)
theorem dp_in_putfield {cl : List vw_C} {X : sm_X} {cc : ByteArray} {own : String} {Ts : List Cond} {rm : Room} {N S : Nat} {M : dp_M} (hX : sm_ok cl X cc M.2.1 own Ts M.2.2.1 rm N S M.2.2.2) {K : dp_K} {ys : Nat → MethodName} {wss : Nat → List Cond} {cf : dp_F} {fr lo : Nat} (hK : dp_Kok cl X.1.2.2.2 own Ts ys wss K) (hcf : dp_cfok cl X.1 ys wss fr lo cf) (hfr : fr + 1 ≤ rm.frames) (hlo : 32 + lo ≤ rm.locals) {ad0 : Nat → Nat} {sh0 : sm_S} {μ0 : sm_M} {pc len : Nat} (i : Nat) (d : decode cc pc = .ok ((.putfield i), len)) {L : List (Option Value)} {st : List Value} {sh : sm_S} {P : dp_P} {w : dp_w} {s' : dp_T} (h : dp_in K M cf pc L st sh P w (.putfield i) len = some s') (hN : s'.2.2.2.1.length ≤ N) (hS : sm_sl s'.2.2.2.1 ≤ S) (k : dp_J cl X ad0 sh0 μ0 s') : dp_J cl X ad0 sh0 μ0 (pc, L, st, sh, P, w) := by
  obtain ⟨hl, hu1⟩ := dp_g_ok h
  clear h
  have hl := dp_beq hl
  subst hl
  obtain ⟨u, r, rfl, hu2⟩ := dp_1v_ok hu1
  clear hu1
  obtain ⟨p, r, rfl, hu3⟩ := dp_1r_ok hu2
  clear hu2
  obtain ⟨⟨ci, kf, fl⟩, hF, hu4⟩ := dp_o_ok hu3
  clear hu3
  obtain ⟨fs, hs, hu5⟩ := dp_ob_ok hu4
  clear hu4
  obtain ⟨C, T, N', t, e2, e3, e5, e7, e8, e6, f0, f1, f2⟩ := hK.1 _ _ hF
  simp only at e2 e3 e5 e6 f0 f1 f2 hs hu5
  intro ad μ a b c e
  unfold dp_pf at hu5
  split at hu5
  · rename_i v
    split at hu5
    · rename_i hf
      have key : ∀ ty : FieldType, sm_fp cl Ts C ci N' kf false ty T → narrow ty (.int v) = .int v → fits ty (.int v) = true → sm_E cl X (pc + 3) L r ad sh (sm_ui μ p kf v) → sm_E cl X pc L (.int v :: .ref p :: r) ad sh μ := by
        intro ty g1 g2 g3 g5
        rcases e6 with e6 | ⟨host, e6⟩
        · exact sm_put hX hs hf g1 e6 g2 g3 d g5
        · exact sm_putN hX hs hf g1 e6 g2 g3 d g5
      split at hu5
      · cases hu5
        obtain ⟨z1, z2⟩ := f0 rfl
        exact key .int ⟨t, e2, e3, e5, e7, e8, z1, z2⟩ rfl rfl (k ad _ (a.ui p kf v) (b.ui p kf v) c e)
      · obtain ⟨z0, ha⟩ := dp_g_ok hu5
        cases ha
        obtain ⟨z1, z2⟩ := f1 rfl
        rw [Bool.or_eq_true, decide_eq_true_eq, decide_eq_true_eq] at z0
        refine key .boolean ⟨t, e2, e3, e5, e7, e8, z1, z2⟩ ?_ ?_ (k ad _ (a.ui p kf v) (b.ui p kf v) c e)
        · rcases z0 with rfl | rfl <;> rfl
        · rcases z0 with rfl | rfl <;> rfl
      · cases hu5
    · cases hu5
  · rename_i q
    obtain ⟨z0, ha⟩ := dp_g_ok hu5
    obtain ⟨z1, hb⟩ := dp_g_ok ha
    obtain ⟨z2, hc⟩ := dp_g_ok hb
    have z2 := Nat.le_of_ble_eq_true z2
    cases hc
    have z0 := dp_beq z0
    obtain ⟨z3, z4, z5, z6⟩ := f2 z0
    exact sm_putF hX hs (by omega) ⟨t, e2, e3, e5, e7, e8, z3, rfl⟩ z5 z1 z4 (z6 _).1 (z6 _).2 d (k ad μ a b (by rw [List.length_set]; exact c) (by rw [List.length_set]; exact e))
  · cases hu5
theorem dp_in_iaload {cl : List vw_C} {X : sm_X} {cc : ByteArray} {own : String} {Ts : List Cond} {rm : Room} {N S : Nat} {M : dp_M} (hX : sm_ok cl X cc M.2.1 own Ts M.2.2.1 rm N S M.2.2.2) {K : dp_K} {ys : Nat → MethodName} {wss : Nat → List Cond} {cf : dp_F} {fr lo : Nat} (hK : dp_Kok cl X.1.2.2.2 own Ts ys wss K) (hcf : dp_cfok cl X.1 ys wss fr lo cf) (hfr : fr + 1 ≤ rm.frames) (hlo : 32 + lo ≤ rm.locals) {ad0 : Nat → Nat} {sh0 : sm_S} {μ0 : sm_M} {pc len : Nat}  (d : decode cc pc = .ok (.iaload, len)) {L : List (Option Value)} {st : List Value} {sh : sm_S} {P : dp_P} {w : dp_w} {s' : dp_T} (h : dp_in K M cf pc L st sh P w .iaload len = some s') (hN : s'.2.2.2.1.length ≤ N) (hS : sm_sl s'.2.2.2.1 ≤ S) (k : dp_J cl X ad0 sh0 μ0 s') : dp_J cl X ad0 sh0 μ0 (pc, L, st, sh, P, w) := by
  obtain ⟨hl, hu1⟩ := dp_g_ok h
  clear h
  have hl := dp_beq hl
  subst hl
  obtain ⟨i, r, rfl, hu2⟩ := dp_1i_ok hu1
  clear hu1
  obtain ⟨p, r, rfl, hu3⟩ := dp_1r_ok hu2
  clear hu2
  obtain ⟨n, hs, hi, hu4⟩ := dp_ar_ok hu3
  clear hu3
  obtain ⟨v, hv, hu5⟩ := dp_o_ok hu4
  clear hu4
  cases hu5
  intro ad μ a b c e
  have k2 := k ad μ a b c e
  rw [← a.1 _ _ _ hv] at k2
  exact sm_iald hX hs hi d k2
theorem dp_in_baload {cl : List vw_C} {X : sm_X} {cc : ByteArray} {own : String} {Ts : List Cond} {rm : Room} {N S : Nat} {M : dp_M} (hX : sm_ok cl X cc M.2.1 own Ts M.2.2.1 rm N S M.2.2.2) {K : dp_K} {ys : Nat → MethodName} {wss : Nat → List Cond} {cf : dp_F} {fr lo : Nat} (hK : dp_Kok cl X.1.2.2.2 own Ts ys wss K) (hcf : dp_cfok cl X.1 ys wss fr lo cf) (hfr : fr + 1 ≤ rm.frames) (hlo : 32 + lo ≤ rm.locals) {ad0 : Nat → Nat} {sh0 : sm_S} {μ0 : sm_M} {pc len : Nat}  (d : decode cc pc = .ok (.baload, len)) {L : List (Option Value)} {st : List Value} {sh : sm_S} {P : dp_P} {w : dp_w} {s' : dp_T} (h : dp_in K M cf pc L st sh P w .baload len = some s') (hN : s'.2.2.2.1.length ≤ N) (hS : sm_sl s'.2.2.2.1 ≤ S) (k : dp_J cl X ad0 sh0 μ0 s') : dp_J cl X ad0 sh0 μ0 (pc, L, st, sh, P, w) := by
  obtain ⟨hl, hu1⟩ := dp_g_ok h
  clear h
  have hl := dp_beq hl
  subst hl
  obtain ⟨i, r, rfl, hu2⟩ := dp_1i_ok hu1
  clear hu1
  obtain ⟨p, r, rfl, hu3⟩ := dp_1r_ok hu2
  clear hu2
  obtain ⟨n, hs, hi, hu4⟩ := dp_ar_ok hu3
  clear hu3
  obtain ⟨v, hv, hu5⟩ := dp_o_ok hu4
  clear hu4
  cases hu5
  intro ad μ a b c e
  have k2 := k ad μ a b c e
  rw [← a.1 _ _ _ hv] at k2
  exact sm_zald hX hs hi d k2
theorem dp_in_laload {cl : List vw_C} {X : sm_X} {cc : ByteArray} {own : String} {Ts : List Cond} {rm : Room} {N S : Nat} {M : dp_M} (hX : sm_ok cl X cc M.2.1 own Ts M.2.2.1 rm N S M.2.2.2) {K : dp_K} {ys : Nat → MethodName} {wss : Nat → List Cond} {cf : dp_F} {fr lo : Nat} (hK : dp_Kok cl X.1.2.2.2 own Ts ys wss K) (hcf : dp_cfok cl X.1 ys wss fr lo cf) (hfr : fr + 1 ≤ rm.frames) (hlo : 32 + lo ≤ rm.locals) {ad0 : Nat → Nat} {sh0 : sm_S} {μ0 : sm_M} {pc len : Nat}  (d : decode cc pc = .ok (.laload, len)) {L : List (Option Value)} {st : List Value} {sh : sm_S} {P : dp_P} {w : dp_w} {s' : dp_T} (h : dp_in K M cf pc L st sh P w .laload len = some s') (hN : s'.2.2.2.1.length ≤ N) (hS : sm_sl s'.2.2.2.1 ≤ S) (k : dp_J cl X ad0 sh0 μ0 s') : dp_J cl X ad0 sh0 μ0 (pc, L, st, sh, P, w) := by
  obtain ⟨hl, hu1⟩ := dp_g_ok h
  clear h
  have hl := dp_beq hl
  subst hl
  obtain ⟨i, r, rfl, hu2⟩ := dp_1i_ok hu1
  clear hu1
  obtain ⟨p, r, rfl, hu3⟩ := dp_1r_ok hu2
  clear hu2
  obtain ⟨n, hs, hi, hu4⟩ := dp_ar_ok hu3
  clear hu3
  obtain ⟨v, hv, hu5⟩ := dp_o_ok hu4
  clear hu4
  cases hu5
  intro ad μ a b c e
  have k2 := k ad μ a b c e
  rw [← a.2 _ _ _ hv] at k2
  exact sm_lald hX hs hi d k2
theorem dp_in_iastore {cl : List vw_C} {X : sm_X} {cc : ByteArray} {own : String} {Ts : List Cond} {rm : Room} {N S : Nat} {M : dp_M} (hX : sm_ok cl X cc M.2.1 own Ts M.2.2.1 rm N S M.2.2.2) {K : dp_K} {ys : Nat → MethodName} {wss : Nat → List Cond} {cf : dp_F} {fr lo : Nat} (hK : dp_Kok cl X.1.2.2.2 own Ts ys wss K) (hcf : dp_cfok cl X.1 ys wss fr lo cf) (hfr : fr + 1 ≤ rm.frames) (hlo : 32 + lo ≤ rm.locals) {ad0 : Nat → Nat} {sh0 : sm_S} {μ0 : sm_M} {pc len : Nat}  (d : decode cc pc = .ok (.iastore, len)) {L : List (Option Value)} {st : List Value} {sh : sm_S} {P : dp_P} {w : dp_w} {s' : dp_T} (h : dp_in K M cf pc L st sh P w .iastore len = some s') (hN : s'.2.2.2.1.length ≤ N) (hS : sm_sl s'.2.2.2.1 ≤ S) (k : dp_J cl X ad0 sh0 μ0 s') : dp_J cl X ad0 sh0 μ0 (pc, L, st, sh, P, w) := by
  obtain ⟨hl, hu1⟩ := dp_g_ok h
  clear h
  have hl := dp_beq hl
  subst hl
  obtain ⟨x, r, rfl, hu2⟩ := dp_1i_ok hu1
  clear hu1
  obtain ⟨i, r, rfl, hu3⟩ := dp_1i_ok hu2
  clear hu2
  obtain ⟨p, r, rfl, hu4⟩ := dp_1r_ok hu3
  clear hu3
  obtain ⟨n, hs, hi, hu5⟩ := dp_ar_ok hu4
  clear hu4
  cases hu5
  exact fun ad μ a b c e => sm_iast hX hs hi d (k ad _ (a.ui _ _ _) (b.ui _ _ _) c e)
theorem dp_in_bastore {cl : List vw_C} {X : sm_X} {cc : ByteArray} {own : String} {Ts : List Cond} {rm : Room} {N S : Nat} {M : dp_M} (hX : sm_ok cl X cc M.2.1 own Ts M.2.2.1 rm N S M.2.2.2) {K : dp_K} {ys : Nat → MethodName} {wss : Nat → List Cond} {cf : dp_F} {fr lo : Nat} (hK : dp_Kok cl X.1.2.2.2 own Ts ys wss K) (hcf : dp_cfok cl X.1 ys wss fr lo cf) (hfr : fr + 1 ≤ rm.frames) (hlo : 32 + lo ≤ rm.locals) {ad0 : Nat → Nat} {sh0 : sm_S} {μ0 : sm_M} {pc len : Nat}  (d : decode cc pc = .ok (.bastore, len)) {L : List (Option Value)} {st : List Value} {sh : sm_S} {P : dp_P} {w : dp_w} {s' : dp_T} (h : dp_in K M cf pc L st sh P w .bastore len = some s') (hN : s'.2.2.2.1.length ≤ N) (hS : sm_sl s'.2.2.2.1 ≤ S) (k : dp_J cl X ad0 sh0 μ0 s') : dp_J cl X ad0 sh0 μ0 (pc, L, st, sh, P, w) := by
  obtain ⟨hl, hu1⟩ := dp_g_ok h
  clear h
  have hl := dp_beq hl
  subst hl
  obtain ⟨x, r, rfl, hu2⟩ := dp_1i_ok hu1
  clear hu1
  obtain ⟨i, r, rfl, hu3⟩ := dp_1i_ok hu2
  clear hu2
  obtain ⟨p, r, rfl, hu4⟩ := dp_1r_ok hu3
  clear hu3
  obtain ⟨n, hs, hi, hu5⟩ := dp_ar_ok hu4
  clear hu4
  rw [dp_fi_eq] at hu5
  cases hu5
  exact fun ad μ a b c e => sm_zast hX hs hi d (k ad _ (a.ui _ _ _) (b.ui _ _ _) c e)
theorem dp_in_lastore {cl : List vw_C} {X : sm_X} {cc : ByteArray} {own : String} {Ts : List Cond} {rm : Room} {N S : Nat} {M : dp_M} (hX : sm_ok cl X cc M.2.1 own Ts M.2.2.1 rm N S M.2.2.2) {K : dp_K} {ys : Nat → MethodName} {wss : Nat → List Cond} {cf : dp_F} {fr lo : Nat} (hK : dp_Kok cl X.1.2.2.2 own Ts ys wss K) (hcf : dp_cfok cl X.1 ys wss fr lo cf) (hfr : fr + 1 ≤ rm.frames) (hlo : 32 + lo ≤ rm.locals) {ad0 : Nat → Nat} {sh0 : sm_S} {μ0 : sm_M} {pc len : Nat}  (d : decode cc pc = .ok (.lastore, len)) {L : List (Option Value)} {st : List Value} {sh : sm_S} {P : dp_P} {w : dp_w} {s' : dp_T} (h : dp_in K M cf pc L st sh P w .lastore len = some s') (hN : s'.2.2.2.1.length ≤ N) (hS : sm_sl s'.2.2.2.1 ≤ S) (k : dp_J cl X ad0 sh0 μ0 s') : dp_J cl X ad0 sh0 μ0 (pc, L, st, sh, P, w) := by
  obtain ⟨hl, hu1⟩ := dp_g_ok h
  clear h
  have hl := dp_beq hl
  subst hl
  obtain ⟨x, r, rfl, hu2⟩ := dp_1l_ok hu1
  clear hu1
  obtain ⟨i, r, rfl, hu3⟩ := dp_1i_ok hu2
  clear hu2
  obtain ⟨p, r, rfl, hu4⟩ := dp_1r_ok hu3
  clear hu3
  obtain ⟨n, hs, hi, hu5⟩ := dp_ar_ok hu4
  clear hu4
  cases hu5
  exact fun ad μ a b c e => sm_last hX hs hi d (k ad _ (a.ul _ _ _) (b.ul _ _ _) c e)
theorem dp_in_arraylength {cl : List vw_C} {X : sm_X} {cc : ByteArray} {own : String} {Ts : List Cond} {rm : Room} {N S : Nat} {M : dp_M} (hX : sm_ok cl X cc M.2.1 own Ts M.2.2.1 rm N S M.2.2.2) {K : dp_K} {ys : Nat → MethodName} {wss : Nat → List Cond} {cf : dp_F} {fr lo : Nat} (hK : dp_Kok cl X.1.2.2.2 own Ts ys wss K) (hcf : dp_cfok cl X.1 ys wss fr lo cf) (hfr : fr + 1 ≤ rm.frames) (hlo : 32 + lo ≤ rm.locals) {ad0 : Nat → Nat} {sh0 : sm_S} {μ0 : sm_M} {pc len : Nat}  (d : decode cc pc = .ok (.arraylength, len)) {L : List (Option Value)} {st : List Value} {sh : sm_S} {P : dp_P} {w : dp_w} {s' : dp_T} (h : dp_in K M cf pc L st sh P w .arraylength len = some s') (hN : s'.2.2.2.1.length ≤ N) (hS : sm_sl s'.2.2.2.1 ≤ S) (k : dp_J cl X ad0 sh0 μ0 s') : dp_J cl X ad0 sh0 μ0 (pc, L, st, sh, P, w) := by
  obtain ⟨hl, hu1⟩ := dp_g_ok h
  clear h
  have hl := dp_beq hl
  subst hl
  obtain ⟨p, r, rfl, hu2⟩ := dp_1r_ok hu1
  clear hu1
  unfold dp_le' at hu2
  split at hu2
  · rename_i c0 n hs
    obtain ⟨h1, hu2⟩ := dp_g_ok hu2
    have h1 := Nat.le_of_ble_eq_true h1
    cases hu2
    exact fun ad μ a b c e => sm_alen hX hs (by omega) d (k ad μ a b c e)
  · cases hu2
theorem dp_in_new {cl : List vw_C} {X : sm_X} {cc : ByteArray} {own : String} {Ts : List Cond} {rm : Room} {N S : Nat} {M : dp_M} (hX : sm_ok cl X cc M.2.1 own Ts M.2.2.1 rm N S M.2.2.2) {K : dp_K} {ys : Nat → MethodName} {wss : Nat → List Cond} {cf : dp_F} {fr lo : Nat} (hK : dp_Kok cl X.1.2.2.2 own Ts ys wss K) (hcf : dp_cfok cl X.1 ys wss fr lo cf) (hfr : fr + 1 ≤ rm.frames) (hlo : 32 + lo ≤ rm.locals) {ad0 : Nat → Nat} {sh0 : sm_S} {μ0 : sm_M} {pc len : Nat} (i : Nat) (d : decode cc pc = .ok ((.new i), len)) {L : List (Option Value)} {st : List Value} {sh : sm_S} {P : dp_P} {w : dp_w} {s' : dp_T} (h : dp_in K M cf pc L st sh P w (.new i) len = some s') (hN : s'.2.2.2.1.length ≤ N) (hS : sm_sl s'.2.2.2.1 ≤ S) (k : dp_J cl X ad0 sh0 μ0 s') : dp_J cl X ad0 sh0 μ0 (pc, L, st, sh, P, w) := by
  obtain ⟨hl, hu1⟩ := dp_g_ok h
  clear h
  have hl := dp_beq hl
  subst hl
  obtain ⟨⟨ci, fs⟩, hC, hu2⟩ := dp_o_ok hu1
  clear hu1
  obtain ⟨Cn, T, t, e2, e5, e7, g1, g2, g3, g4, g5⟩ := hK.2.2.2.2.2.2.1 _ _ hC
  unfold dp_nw at hu2
  obtain ⟨h1, hu3⟩ := dp_g_ok hu2
  clear hu2
  obtain ⟨h2, hu4⟩ := dp_g_ok hu3
  clear hu3
  obtain ⟨h3, hu5⟩ := dp_g_ok hu4
  clear hu4
  cases hu5
  simp only [List.length_append, List.length_singleton, sm_sl_app] at hN hS
  exact fun ad μ a b c e => sm_new hX t e2 e5 e7 g1 g2 g3 rfl g4 g5 h1 h2 h3 hN (by simpa [sm_sl, sm_sz] using hS) d (fun ad' hag => k ad' _ (a.z _) (b.z _) (by simpa using dp_nw_ag hag c e) (by simp; omega))
theorem dp_in_newarray {cl : List vw_C} {X : sm_X} {cc : ByteArray} {own : String} {Ts : List Cond} {rm : Room} {N S : Nat} {M : dp_M} (hX : sm_ok cl X cc M.2.1 own Ts M.2.2.1 rm N S M.2.2.2) {K : dp_K} {ys : Nat → MethodName} {wss : Nat → List Cond} {cf : dp_F} {fr lo : Nat} (hK : dp_Kok cl X.1.2.2.2 own Ts ys wss K) (hcf : dp_cfok cl X.1 ys wss fr lo cf) (hfr : fr + 1 ≤ rm.frames) (hlo : 32 + lo ≤ rm.locals) {ad0 : Nat → Nat} {sh0 : sm_S} {μ0 : sm_M} {pc len : Nat} (at' : ArrayType) (d : decode cc pc = .ok ((.newarray at'), len)) {L : List (Option Value)} {st : List Value} {sh : sm_S} {P : dp_P} {w : dp_w} {s' : dp_T} (h : dp_in K M cf pc L st sh P w (.newarray at') len = some s') (hN : s'.2.2.2.1.length ≤ N) (hS : sm_sl s'.2.2.2.1 ≤ S) (k : dp_J cl X ad0 sh0 μ0 s') : dp_J cl X ad0 sh0 μ0 (pc, L, st, sh, P, w) := by
  obtain ⟨hl, hu1⟩ := dp_g_ok h
  clear h
  have hl := dp_beq hl
  subst hl
  obtain ⟨n, r, rfl, hu2⟩ := dp_1i_ok hu1
  clear hu1
  obtain ⟨kd, hkd, hu3⟩ := dp_o_ok hu2
  clear hu2
  obtain ⟨hn, hu4⟩ := dp_g_ok hu3
  clear hu3
  rw [dp_nf_eq] at hu4
  obtain ⟨hb, hu5⟩ := dp_g_ok hu4
  clear hu4
  have hb := Nat.le_of_ble_eq_true hb
  have hn := Int32.not_lt.mpr (of_decide_eq_true hn)
  unfold dp_nw at hu5
  obtain ⟨h1, hu6⟩ := dp_g_ok hu5
  clear hu5
  obtain ⟨h2, hu7⟩ := dp_g_ok hu6
  clear hu6
  obtain ⟨h3, hu8⟩ := dp_g_ok hu7
  clear hu7
  cases hu8
  simp only [List.length_append, List.length_singleton, sm_sl_app] at hN hS
  have hS : sm_sl sh + n.toNatClampNeg ≤ S := by simpa [sm_sl, sm_sz] using hS
  cases at' with
  | int =>
    cases hkd
    exact fun ad μ a b c e => sm_newa0 hX hK.2.2.2.2.2.2.2.2.1 hn rfl hb h1 h2 h3 hN hS d (fun ad' hag => k ad' _ (a.z _) (b.z _) (by simpa using dp_nw_ag hag c e) (by simp; omega))
  | boolean =>
    cases hkd
    exact fun ad μ a b c e => sm_newa1 hX hK.2.2.2.2.2.2.2.2.2.1 hn rfl hb h1 h2 h3 hN hS d (fun ad' hag => k ad' _ (a.z _) (b.z _) (by simpa using dp_nw_ag hag c e) (by simp; omega))
  | long =>
    cases hkd
    exact fun ad μ a b c e => sm_newa2 hX hK.2.2.2.2.2.2.2.2.2.2 hn rfl hb h1 h2 h3 hN hS d (fun ad' hag => k ad' _ (a.z _) (b.z _) (by simpa using dp_nw_ag hag c e) (by simp; omega))
  | _ => cases hkd
theorem dp_in_invokespecial {cl : List vw_C} {X : sm_X} {cc : ByteArray} {own : String} {Ts : List Cond} {rm : Room} {N S : Nat} {M : dp_M} (hX : sm_ok cl X cc M.2.1 own Ts M.2.2.1 rm N S M.2.2.2) {K : dp_K} {ys : Nat → MethodName} {wss : Nat → List Cond} {cf : dp_F} {fr lo : Nat} (hK : dp_Kok cl X.1.2.2.2 own Ts ys wss K) (hcf : dp_cfok cl X.1 ys wss fr lo cf) (hfr : fr + 1 ≤ rm.frames) (hlo : 32 + lo ≤ rm.locals) {ad0 : Nat → Nat} {sh0 : sm_S} {μ0 : sm_M} {pc len : Nat} (i : Nat) (d : decode cc pc = .ok ((.invokespecial i), len)) {L : List (Option Value)} {st : List Value} {sh : sm_S} {P : dp_P} {w : dp_w} {s' : dp_T} (h : dp_in K M cf pc L st sh P w (.invokespecial i) len = some s') (hN : s'.2.2.2.1.length ≤ N) (hS : sm_sl s'.2.2.2.1 ≤ S) (k : dp_J cl X ad0 sh0 μ0 s') : dp_J cl X ad0 sh0 μ0 (pc, L, st, sh, P, w) := by
  obtain ⟨hl, hu1⟩ := dp_g_ok h
  clear h
  have hl := dp_beq hl
  subst hl
  cases ho : Nat.beq i K.2.2.2.2.2 with
  | true =>
    rw [ho] at hu1
    have ho := dp_beq ho
    obtain ⟨p, r, rfl, hu1⟩ := dp_1r_ok hu1
    obtain ⟨h1, hu1⟩ := dp_g_ok hu1
    have h1 := Nat.le_of_ble_eq_true h1
    cases hu1
    obtain ⟨z1, z2, z3⟩ := hK.2.2.2.2.2.2.2.1
    rw [← ho] at z1
    exact fun ad μ a b c e => sm_objInit hX z1 z2 z3 (by omega) (by omega) h1 d (k ad μ a b c e)
  | false =>
    rw [ho] at hu1
    obtain ⟨C, hC, hu1⟩ := dp_o_ok hu1
    exact dp_call_ok hX hcf hfr hlo (hK.2.2.2.2.2.1 _ _ hC cc) d hu1 hN hS k
theorem dp_in_invokestatic {cl : List vw_C} {X : sm_X} {cc : ByteArray} {own : String} {Ts : List Cond} {rm : Room} {N S : Nat} {M : dp_M} (hX : sm_ok cl X cc M.2.1 own Ts M.2.2.1 rm N S M.2.2.2) {K : dp_K} {ys : Nat → MethodName} {wss : Nat → List Cond} {cf : dp_F} {fr lo : Nat} (hK : dp_Kok cl X.1.2.2.2 own Ts ys wss K) (hcf : dp_cfok cl X.1 ys wss fr lo cf) (hfr : fr + 1 ≤ rm.frames) (hlo : 32 + lo ≤ rm.locals) {ad0 : Nat → Nat} {sh0 : sm_S} {μ0 : sm_M} {pc len : Nat} (i : Nat) (d : decode cc pc = .ok ((.invokestatic i), len)) {L : List (Option Value)} {st : List Value} {sh : sm_S} {P : dp_P} {w : dp_w} {s' : dp_T} (h : dp_in K M cf pc L st sh P w (.invokestatic i) len = some s') (hN : s'.2.2.2.1.length ≤ N) (hS : sm_sl s'.2.2.2.1 ≤ S) (k : dp_J cl X ad0 sh0 μ0 s') : dp_J cl X ad0 sh0 μ0 (pc, L, st, sh, P, w) := by
  obtain ⟨hl, hu1⟩ := dp_g_ok h
  clear h
  have hl := dp_beq hl
  subst hl
  obtain ⟨C, hC, hu2⟩ := dp_o_ok hu1
  clear hu1
  exact dp_call_ok hX hcf hfr hlo (hK.2.2.2.1 _ _ hC cc) d hu2 hN hS k
theorem dp_in_invokevirtual {cl : List vw_C} {X : sm_X} {cc : ByteArray} {own : String} {Ts : List Cond} {rm : Room} {N S : Nat} {M : dp_M} (hX : sm_ok cl X cc M.2.1 own Ts M.2.2.1 rm N S M.2.2.2) {K : dp_K} {ys : Nat → MethodName} {wss : Nat → List Cond} {cf : dp_F} {fr lo : Nat} (hK : dp_Kok cl X.1.2.2.2 own Ts ys wss K) (hcf : dp_cfok cl X.1 ys wss fr lo cf) (hfr : fr + 1 ≤ rm.frames) (hlo : 32 + lo ≤ rm.locals) {ad0 : Nat → Nat} {sh0 : sm_S} {μ0 : sm_M} {pc len : Nat} (i : Nat) (d : decode cc pc = .ok ((.invokevirtual i), len)) {L : List (Option Value)} {st : List Value} {sh : sm_S} {P : dp_P} {w : dp_w} {s' : dp_T} (h : dp_in K M cf pc L st sh P w (.invokevirtual i) len = some s') (hN : s'.2.2.2.1.length ≤ N) (hS : sm_sl s'.2.2.2.1 ≤ S) (k : dp_J cl X ad0 sh0 μ0 s') : dp_J cl X ad0 sh0 μ0 (pc, L, st, sh, P, w) := by
  obtain ⟨hl, hu1⟩ := dp_g_ok h
  clear h
  have hl := dp_beq hl
  subst hl
  obtain ⟨C, hC, hu2⟩ := dp_o_ok hu1
  clear hu1
  exact dp_call_ok hX hcf hfr hlo (hK.2.2.2.2.1 _ _ hC cc) d hu2 hN hS k
theorem dp_in_ok {cl : List vw_C} {X : sm_X} {cc : ByteArray} {own : String} {Ts : List Cond} {rm : Room} {N S : Nat} {M : dp_M} (hX : sm_ok cl X cc M.2.1 own Ts M.2.2.1 rm N S M.2.2.2) {K : dp_K} {ys : Nat → MethodName} {wss : Nat → List Cond} {cf : dp_F} {fr lo : Nat} (hK : dp_Kok cl X.1.2.2.2 own Ts ys wss K) (hcf : dp_cfok cl X.1 ys wss fr lo cf) (hfr : fr + 1 ≤ rm.frames) (hlo : 32 + lo ≤ rm.locals) {ad0 : Nat → Nat} {sh0 : sm_S} {μ0 : sm_M} {pc len : Nat} {ins : Instr} (d : decode cc pc = .ok (ins, len)) {L : List (Option Value)} {st : List Value} {sh : sm_S} {P : dp_P} {w : dp_w} {s' : dp_T} (h : dp_in K M cf pc L st sh P w ins len = some s') (hN : s'.2.2.2.1.length ≤ N) (hS : sm_sl s'.2.2.2.1 ≤ S) (k : dp_J cl X ad0 sh0 μ0 s') : dp_J cl X ad0 sh0 μ0 (pc, L, st, sh, P, w) := by
  cases ins with
  | iadd => exact dp_in_iadd hX hK hcf hfr hlo  d h hN hS k
  | isub => exact dp_in_isub hX hK hcf hfr hlo  d h hN hS k
  | imul => exact dp_in_imul hX hK hcf hfr hlo  d h hN hS k
  | iand => exact dp_in_iand hX hK hcf hfr hlo  d h hN hS k
  | ior => exact dp_in_ior hX hK hcf hfr hlo  d h hN hS k
  | ixor => exact dp_in_ixor hX hK hcf hfr hlo  d h hN hS k
  | ishl => exact dp_in_ishl hX hK hcf hfr hlo  d h hN hS k
  | ishr => exact dp_in_ishr hX hK hcf hfr hlo  d h hN hS k
  | iushr => exact dp_in_iushr hX hK hcf hfr hlo  d h hN hS k
  | ladd => exact dp_in_ladd hX hK hcf hfr hlo  d h hN hS k
  | lsub => exact dp_in_lsub hX hK hcf hfr hlo  d h hN hS k
  | land => exact dp_in_land hX hK hcf hfr hlo  d h hN hS k
  | lor => exact dp_in_lor hX hK hcf hfr hlo  d h hN hS k
  | lxor => exact dp_in_lxor hX hK hcf hfr hlo  d h hN hS k
  | lushr => exact dp_in_lushr hX hK hcf hfr hlo  d h hN hS k
  | lshl => exact dp_in_lshl hX hK hcf hfr hlo  d h hN hS k
  | lshr => exact dp_in_lshr hX hK hcf hfr hlo  d h hN hS k
  | idiv => exact dp_in_idiv hX hK hcf hfr hlo  d h hN hS k
  | irem => exact dp_in_irem hX hK hcf hfr hlo  d h hN hS k
  | ineg => exact dp_in_ineg hX hK hcf hfr hlo  d h hN hS k
  | lcmp => exact dp_in_lcmp hX hK hcf hfr hlo  d h hN hS k
  | i2l => exact dp_in_i2l hX hK hcf hfr hlo  d h hN hS k
  | l2i => exact dp_in_l2i hX hK hcf hfr hlo  d h hN hS k
  | iconst i => exact dp_in_iconst hX hK hcf hfr hlo i d h hN hS k
  | bipush i => exact dp_in_bipush hX hK hcf hfr hlo i d h hN hS k
  | sipush i => exact dp_in_sipush hX hK hcf hfr hlo i d h hN hS k
  | lconst i => exact dp_in_lconst hX hK hcf hfr hlo i d h hN hS k
  | ldc i => exact dp_in_ldc hX hK hcf hfr hlo i d h hN hS k
  | ldc2_w i => exact dp_in_ldc2_w hX hK hcf hfr hlo i d h hN hS k
  | dup => exact dp_in_dup hX hK hcf hfr hlo  d h hN hS k
  | pop => exact dp_in_pop hX hK hcf hfr hlo  d h hN hS k
  | dup_x1 => exact dp_in_dup_x1 hX hK hcf hfr hlo  d h hN hS k
  | dup2 => exact dp_in_dup2 hX hK hcf hfr hlo  d h hN hS k
  | iload i => exact dp_in_iload hX hK hcf hfr hlo i d h hN hS k
  | iload_n i => exact dp_in_iload_n hX hK hcf hfr hlo i d h hN hS k
  | istore i => exact dp_in_istore hX hK hcf hfr hlo i d h hN hS k
  | istore_n i => exact dp_in_istore_n hX hK hcf hfr hlo i d h hN hS k
  | lload i => exact dp_in_lload hX hK hcf hfr hlo i d h hN hS k
  | lload_n i => exact dp_in_lload_n hX hK hcf hfr hlo i d h hN hS k
  | lstore i => exact dp_in_lstore hX hK hcf hfr hlo i d h hN hS k
  | lstore_n i => exact dp_in_lstore_n hX hK hcf hfr hlo i d h hN hS k
  | aload i => exact dp_in_aload hX hK hcf hfr hlo i d h hN hS k
  | aload_n i => exact dp_in_aload_n hX hK hcf hfr hlo i d h hN hS k
  | astore i => exact dp_in_astore hX hK hcf hfr hlo i d h hN hS k
  | astore_n i => exact dp_in_astore_n hX hK hcf hfr hlo i d h hN hS k
  | iinc i z => exact dp_in_iinc hX hK hcf hfr hlo i z d h hN hS k
  | ifCond cn off => exact dp_in_ifCond hX hK hcf hfr hlo cn off d h hN hS k
  | if_icmp cn off => exact dp_in_if_icmp hX hK hcf hfr hlo cn off d h hN hS k
  | goto off => exact dp_in_goto hX hK hcf hfr hlo off d h hN hS k
  | lookupswitch dflt ps => exact dp_in_lookupswitch hX hK hcf hfr hlo dflt ps d h hN hS k
  | tableswitch dflt lo hi offs => exact dp_in_tableswitch hX hK hcf hfr hlo dflt lo hi offs d h hN hS k
  | getfield i => exact dp_in_getfield hX hK hcf hfr hlo i d h hN hS k
  | putfield i => exact dp_in_putfield hX hK hcf hfr hlo i d h hN hS k
  | iaload => exact dp_in_iaload hX hK hcf hfr hlo  d h hN hS k
  | baload => exact dp_in_baload hX hK hcf hfr hlo  d h hN hS k
  | laload => exact dp_in_laload hX hK hcf hfr hlo  d h hN hS k
  | iastore => exact dp_in_iastore hX hK hcf hfr hlo  d h hN hS k
  | bastore => exact dp_in_bastore hX hK hcf hfr hlo  d h hN hS k
  | lastore => exact dp_in_lastore hX hK hcf hfr hlo  d h hN hS k
  | arraylength => exact dp_in_arraylength hX hK hcf hfr hlo  d h hN hS k
  | new i => exact dp_in_new hX hK hcf hfr hlo i d h hN hS k
  | newarray at' => exact dp_in_newarray hX hK hcf hfr hlo at' d h hN hS k
  | invokespecial i => exact dp_in_invokespecial hX hK hcf hfr hlo i d h hN hS k
  | invokestatic i => exact dp_in_invokestatic hX hK hcf hfr hlo i d h hN hS k
  | invokevirtual i => exact dp_in_invokevirtual hX hK hcf hfr hlo i d h hN hS k
  | _ => exact absurd h (by intro h; cases h)
theorem dp_rn_ok {cl : List vw_C} {X : sm_X} {cc : ByteArray} {own : String} {Ts : List Cond} {rm : Room} {N S : Nat} {M : dp_M} (hX : sm_ok cl X cc M.2.1 own Ts M.2.2.1 rm N S M.2.2.2) {ad0 : Nat → Nat} {sh0 : sm_S} {μ0 : sm_M} {pc len : Nat} {ins : Instr} (d : decode cc pc = .ok (ins, len)) {L : List (Option Value)} {st : List Value} {sh : sm_S} {P : dp_P} {w : dp_w} {R : dp_R} (h : dp_rn M st sh P w ins len = some R) : R.2 = (sh, P, w) ∧ (sh0.length ≤ sh.length → sm_sl sh0 ≤ sm_sl sh → sm_fin cl X ad0 sh0 (sh.length - sh0.length) (sm_sl sh - sm_sl sh0) (dp_Q μ0 R) → dp_J cl X ad0 sh0 μ0 (pc, L, st, sh, P, w)) := by
  cases ins with
  | ireturn =>
    obtain ⟨hl, ha⟩ := dp_g_ok h
    clear h
    have hl := dp_beq hl
    subst hl
    obtain ⟨v, r, rfl, hb⟩ := dp_1i_ok ha
    clear ha
    obtain ⟨hr, h⟩ := dp_g_ok hb
    clear hb
    have hr : r = [] := List.isEmpty_iff.mp hr
    subst hr
    unfold dp_rt at h
    split at h
    · rename_i hrt
      cases h
      exact ⟨rfl, fun g1 g2 hf ad μ a b c e => sm_iret hX hf (by omega) (by omega) c hrt d ⟨rfl, rfl, a, b⟩⟩
    · rename_i hrt
      obtain ⟨hv, hc⟩ := dp_g_ok h
      cases hc
      exact ⟨rfl, fun g1 g2 hf ad μ a b c e => sm_zret hX hf (by omega) (by omega) c hrt (of_decide_eq_true hv) d ⟨rfl, rfl, a, b⟩⟩
    · cases h
  | lreturn =>
    obtain ⟨hl, ha⟩ := dp_g_ok h
    clear h
    have hl := dp_beq hl
    subst hl
    obtain ⟨v, r, rfl, hb⟩ := dp_1l_ok ha
    clear ha
    obtain ⟨hr, h⟩ := dp_g_ok hb
    clear hb
    have hr : r = [] := List.isEmpty_iff.mp hr
    subst hr
    split at h
    · rename_i hrt
      cases h
      exact ⟨rfl, fun g1 g2 hf ad μ a b c e => sm_lret hX hf (by omega) (by omega) c hrt d ⟨rfl, rfl, a, b⟩⟩
    · cases h
  | return_ =>
    obtain ⟨hl, ha⟩ := dp_g_ok h
    clear h
    have hl := dp_beq hl
    subst hl
    obtain ⟨hr, h⟩ := dp_g_ok ha
    clear ha
    have hr : st = [] := List.isEmpty_iff.mp hr
    subst hr
    split at h
    · rename_i hrt
      cases h
      exact ⟨rfl, fun g1 g2 hf ad μ a b c e => sm_vret hX hf (by omega) (by omega) c hrt d ⟨rfl, rfl, a, b⟩⟩
    · cases h
  | _ => exact absurd h (by intro h; cases h)
theorem dp_ck_ok {sh sh' : sm_S} (h : dp_ck sh sh' = true) : sh.length ≤ sh'.length ∧ sm_sl sh ≤ sm_sl sh' := by
  unfold dp_ck at h
  rw [Bool.and_eq_true] at h
  exact ⟨Nat.le_of_ble_eq_true h.1, Nat.le_of_ble_eq_true h.2⟩
def dp_shp : dp_T ⊕ dp_R → sm_S
  | .inl s => s.2.2.2.1
  | .inr R => R.2.1
def dp_End (cl : List vw_C) (X : sm_X) (ad0 : Nat → Nat) (sh0 : sm_S) (μ0 : sm_M) : dp_T ⊕ dp_R → Prop
  | .inl s => dp_J cl X ad0 sh0 μ0 s
  | .inr R => sh0.length ≤ R.2.1.length ∧ sm_sl sh0 ≤ sm_sl R.2.1 ∧ sm_fin cl X ad0 sh0 (R.2.1.length - sh0.length) (sm_sl R.2.1 - sm_sl sh0) (dp_Q μ0 R)
theorem dp_st_ok {cl : List vw_C} {X : sm_X} {cc : ByteArray} {own : String} {Ts : List Cond} {rm : Room} {N S : Nat} {M : dp_M} (hX : sm_ok cl X cc M.2.1 own Ts M.2.2.1 rm N S M.2.2.2) (hM : ∀ e ∈ M.1, decode cc e.1 = .ok e.2) {K : dp_K} {ys : Nat → MethodName} {wss : Nat → List Cond} {cf : dp_F} {fr lo : Nat} (hK : dp_Kok cl X.1.2.2.2 own Ts ys wss K) (hcf : dp_cfok cl X.1 ys wss fr lo cf) (hfr : fr + 1 ≤ rm.frames) (hlo : 32 + lo ≤ rm.locals) {ad0 : Nat → Nat} {sh0 : sm_S} {μ0 : sm_M} {s : dp_T} {o : dp_T ⊕ dp_R} (h : dp_st K M cf s = some o) : (s.2.2.2.1.length ≤ (dp_shp o).length ∧ sm_sl s.2.2.2.1 ≤ sm_sl (dp_shp o)) ∧ ((dp_shp o).length ≤ N → sm_sl (dp_shp o) ≤ S → dp_End cl X ad0 sh0 μ0 o → dp_J cl X ad0 sh0 μ0 s) := by
  obtain ⟨pc, L, st, sh, P, w⟩ := s
  unfold dp_st at h
  simp only at h
  rw [dp_nf_eq] at h
  obtain ⟨⟨ins, len⟩, hi, h⟩ := dp_o_ok h
  have d := hM _ (dp_find_mem hi)
  simp only at h d
  split at h
  · rename_i R hR
    cases h
    obtain ⟨z1, z2⟩ := dp_rn_ok (ad0 := ad0) (sh0 := sh0) (μ0 := μ0) (L := L) hX d hR
    obtain ⟨r, sh', P', w'⟩ := R
    cases z1
    exact ⟨⟨Nat.le_refl _, Nat.le_refl _⟩, fun _ _ z => z2 z.1 z.2.1 z.2.2⟩
  · obtain ⟨s', hs, h⟩ := dp_o_ok h
    obtain ⟨hc, h⟩ := dp_g_ok h
    cases h
    exact ⟨dp_ck_ok hc, fun z1 z2 z3 => dp_in_ok hX hK hcf hfr hlo d hs z1 z2 z3⟩
theorem dp_go_ok {cl : List vw_C} {X : sm_X} {cc : ByteArray} {own : String} {Ts : List Cond} {rm : Room} {N S : Nat} {M : dp_M} (hX : sm_ok cl X cc M.2.1 own Ts M.2.2.1 rm N S M.2.2.2) (hM : ∀ e ∈ M.1, decode cc e.1 = .ok e.2) {K : dp_K} {ys : Nat → MethodName} {wss : Nat → List Cond} {cf : dp_F} {fr lo : Nat} (hK : dp_Kok cl X.1.2.2.2 own Ts ys wss K) (hcf : dp_cfok cl X.1 ys wss fr lo cf) (hfr : fr + 1 ≤ rm.frames) (hlo : 32 + lo ≤ rm.locals) {ad0 : Nat → Nat} {sh0 : sm_S} {μ0 : sm_M} : ∀ (k : Nat) (s : dp_T) (o : dp_T ⊕ dp_R), dp_go K M cf k s = some o → (s.2.2.2.1.length ≤ (dp_shp o).length ∧ sm_sl s.2.2.2.1 ≤ sm_sl (dp_shp o)) ∧ ((dp_shp o).length ≤ N → sm_sl (dp_shp o) ≤ S → dp_End cl X ad0 sh0 μ0 o → dp_J cl X ad0 sh0 μ0 s)
  | 0, s, o, h => dp_st_ok hX hM hK hcf hfr hlo h
  | k + 1, s, o, h => by
    unfold dp_go at h
    split at h
    · rename_i s' hs
      obtain ⟨⟨a1, a2⟩, a3⟩ := dp_go_ok hX hM hK hcf hfr hlo k s _ hs
      obtain ⟨⟨b1, b2⟩, b3⟩ := dp_go_ok hX hM hK hcf hfr hlo k s' o h
      simp only [dp_shp] at a1 a2 a3
      exact ⟨⟨Nat.le_trans a1 b1, Nat.le_trans a2 b2⟩, fun z1 z2 z3 => a3 (Nat.le_trans b1 z1) (Nat.le_trans b2 z2) (b3 z1 z2 z3)⟩
    · rename_i R hs
      cases h
      exact dp_go_ok hX hM hK hcf hfr hlo k s _ hs
    · cases h
theorem dp_rn_sh {M : dp_M} {st : List Value} {sh : sm_S} {P : dp_P} {w : dp_w} {ins : Instr} {len : Nat} {R : dp_R} (h : dp_rn M st sh P w ins len = some R) : R.2.1 = sh := by
  cases ins with
  | ireturn =>
    obtain ⟨hl, h⟩ := dp_g_ok h
    obtain ⟨v, r, rfl, h⟩ := dp_1i_ok h
    obtain ⟨hr, h⟩ := dp_g_ok h
    unfold dp_rt at h
    split at h
    · cases h; rfl
    · obtain ⟨hv, h⟩ := dp_g_ok h
      cases h; rfl
    · cases h
  | lreturn =>
    obtain ⟨hl, h⟩ := dp_g_ok h
    obtain ⟨v, r, rfl, h⟩ := dp_1l_ok h
    obtain ⟨hr, h⟩ := dp_g_ok h
    split at h
    · cases h; rfl
    · cases h
  | return_ =>
    obtain ⟨hl, h⟩ := dp_g_ok h
    obtain ⟨hr, h⟩ := dp_g_ok h
    split at h
    · cases h; rfl
    · cases h
  | _ => exact absurd h (by intro h; cases h)
theorem dp_st_gr {K : dp_K} {M : dp_M} {cf : dp_F} {s : dp_T} {o : dp_T ⊕ dp_R} (h : dp_st K M cf s = some o) : s.2.2.2.1.length ≤ (dp_shp o).length ∧ sm_sl s.2.2.2.1 ≤ sm_sl (dp_shp o) := by
  obtain ⟨pc, L, st, sh, P, w⟩ := s
  unfold dp_st at h
  simp only at h
  rw [dp_nf_eq] at h
  obtain ⟨⟨ins, len⟩, hi, h⟩ := dp_o_ok h
  simp only at h
  split at h
  · rename_i R hR
    cases h
    have z := dp_rn_sh hR
    simp only [dp_shp, z]
    exact ⟨Nat.le_refl _, Nat.le_refl _⟩
  · obtain ⟨s', hs, h⟩ := dp_o_ok h
    obtain ⟨hc, h⟩ := dp_g_ok h
    cases h
    exact dp_ck_ok hc
theorem dp_go_gr {K : dp_K} {M : dp_M} {cf : dp_F} : ∀ (k : Nat) (s : dp_T) (o : dp_T ⊕ dp_R), dp_go K M cf k s = some o → s.2.2.2.1.length ≤ (dp_shp o).length ∧ sm_sl s.2.2.2.1 ≤ sm_sl (dp_shp o)
  | 0, s, o, h => dp_st_gr h
  | k + 1, s, o, h => by
    unfold dp_go at h
    split at h
    · rename_i s' hs
      obtain ⟨a1, a2⟩ := dp_go_gr k s _ hs
      obtain ⟨b1, b2⟩ := dp_go_gr k s' o h
      exact ⟨Nat.le_trans a1 b1, Nat.le_trans a2 b2⟩
    · rename_i R hs
      cases h
      exact dp_go_gr k s _ hs
    · cases h
/-- a method: what a run from its beginning computes is its contract -/
theorem dp_meth {cl : List vw_C} {Z : sm_Z} {y : MethodName} {cc : ByteArray} {W' : List Cond} {M : dp_M} (hM : ∀ e ∈ M.1, decode cc e.1 = .ok e.2) {K : dp_K} {ys : Nat → MethodName} {wss : Nat → List Cond} {cf : dp_F} {fr lo : Nat} (hK : dp_Kok cl Z.2.2.2 y.cls W' ys wss K) (hcf : dp_cfok cl Z ys wss fr lo cf) (hy : plainName y.cls = true) (hini : (y.name == "<init>") = M.2.2.2) {As : List Value} (hlen : (lg_sl As).length ≤ M.2.1) {sh : sm_S} {P : dp_P} {R : dp_R} {k : Nat} (h : dp_go K M cf k (0, sm_L0 M.2.1 As, [], sh, P, dp_w0) = some (.inr R)) : sh.length ≤ R.2.1.length ∧ sm_sl sh ≤ sm_sl R.2.1 ∧ ∀ (ad : Nat → Nat) (μ : sm_M), dp_le P μ → sm_C cl Z y (Cond.code y cc M.2.1 M.2.2.1 :: W') (dp_rm (fr + 1) (lo + 32) sh R.2.1) As ad sh μ (dp_Q μ R) := by
  have g := dp_go_gr _ _ _ h
  simp only [dp_shp] at g
  refine ⟨g.1, g.2, fun ad μ hle => sm_enter hy hlen (fun X hZ hX hf => ?_)⟩
  subst hZ
  rw [hini] at hX
  exact (dp_go_ok hX hM hK hcf (Nat.le_refl _) (by simp only [dp_rm]; omega) k _ _ h).2 (by simp only [dp_shp, dp_rm]; omega) (by simp only [dp_shp, dp_rm]; omega) ⟨g.1, g.2, hf⟩ ad μ hle dp_ou.rf (fun _ _ => rfl) (Nat.le_refl _)
end
section
/-! the classes whose cells the world holds, their fields -/
def tb_T0 : u_T := fun k => match k with
  | 0 => ("ProgramSlices", "code", "LProgramSlices$Code;", true)
  | 1 => ("ProgramSlices", "dependences", "LProgramSlices$Dependences;", true)
  | 2 => ("ProgramSlices", "walk", "LProgramSlices$Walk;", true)
  | 3 => ("ProgramSlices", "machine", "LProgramSlices$Machine;", true)
  | 4 => ("ProgramSlices", "order", "LProgramSlices$Order;", true)
  | 5 => ("ProgramSlices", "flows", "LProgramSlices$Flows;", true)
  | 6 => ("ProgramSlices", "current", "LProgramSlices$Slice;", true)
  | _ => ("ProgramSlices", "built", "Z", false)
def tb_t0 : Nat → FieldType := fun k => match k with
  | 0 => .object "ProgramSlices$Code"
  | 1 => .object "ProgramSlices$Dependences"
  | 2 => .object "ProgramSlices$Walk"
  | 3 => .object "ProgramSlices$Machine"
  | 4 => .object "ProgramSlices$Order"
  | 5 => .object "ProgramSlices$Flows"
  | 6 => .object "ProgramSlices$Slice"
  | _ => .boolean
theorem tb_n0 : ∀ a, a < 8 → ∀ b, b < 8 → a ≠ b → (tb_T0 a).2.1 ≠ (tb_T0 b).2.1 := by decide +kernel
theorem tb_y0 : ∀ k, k < 8 → parseFieldDescriptor (tb_T0 k).2.2.1 = some (tb_t0 k) := by decide +kernel
def tb_T1 : u_T := fun k => match k with
  | 0 => ("ProgramSlices$Code", "op", "[I", true)
  | 1 => ("ProgramSlices$Code", "d", "[I", true)
  | 2 => ("ProgramSlices$Code", "a", "[I", true)
  | 3 => ("ProgramSlices$Code", "b", "[I", true)
  | 4 => ("ProgramSlices$Code", "count", "I", false)
  | 5 => ("ProgramSlices$Code", "around", "[I", true)
  | 6 => ("ProgramSlices$Code", "elseOf", "[I", true)
  | 7 => ("ProgramSlices$Code", "endOf", "[I", true)
  | 8 => ("ProgramSlices$Code", "home", "[I", true)
  | 9 => ("ProgramSlices$Code", "first", "[I", true)
  | 10 => ("ProgramSlices$Code", "exit", "[I", true)
  | 11 => ("ProgramSlices$Code", "procedures", "I", false)
  | 12 => ("ProgramSlices$Code", "open", "[I", true)
  | _ => ("ProgramSlices$Code", "depth", "I", false)
def tb_t1 : Nat → FieldType := fun k => match k with
  | 0 => .array .int
  | 1 => .array .int
  | 2 => .array .int
  | 3 => .array .int
  | 4 => .int
  | 5 => .array .int
  | 6 => .array .int
  | 7 => .array .int
  | 8 => .array .int
  | 9 => .array .int
  | 10 => .array .int
  | 11 => .int
  | 12 => .array .int
  | _ => .int
theorem tb_n1 : ∀ a, a < 14 → ∀ b, b < 14 → a ≠ b → (tb_T1 a).2.1 ≠ (tb_T1 b).2.1 := by decide +kernel
theorem tb_y1 : ∀ k, k < 14 → parseFieldDescriptor (tb_T1 k).2.2.1 = some (tb_t1 k) := by decide +kernel
def tb_T2 : u_T := fun k => match k with
  | 0 => ("ProgramSlices$Dependences", "code", "LProgramSlices$Code;", true)
  | 1 => ("ProgramSlices$Dependences", "ways", "LProgramSlices$Ways;", true)
  | 2 => ("ProgramSlices$Dependences", "onto", "[I", true)
  | 3 => ("ProgramSlices$Dependences", "from", "[I", true)
  | 4 => ("ProgramSlices$Dependences", "byKind", "[I", true)
  | 5 => ("ProgramSlices$Dependences", "calls", "[I", true)
  | _ => ("ProgramSlices$Dependences", "summaries", "[I", true)
def tb_t2 : Nat → FieldType := fun k => match k with
  | 0 => .object "ProgramSlices$Code"
  | 1 => .object "ProgramSlices$Ways"
  | 2 => .array .int
  | 3 => .array .int
  | 4 => .array .int
  | 5 => .array .int
  | _ => .array .int
theorem tb_n2 : ∀ a, a < 7 → ∀ b, b < 7 → a ≠ b → (tb_T2 a).2.1 ≠ (tb_T2 b).2.1 := by decide +kernel
theorem tb_y2 : ∀ k, k < 7 → parseFieldDescriptor (tb_T2 k).2.2.1 = some (tb_t2 k) := by decide +kernel
def tb_T3 : u_T := fun k => match k with
  | 0 => ("ProgramSlices$Ways", "code", "LProgramSlices$Code;", true)
  | 1 => ("ProgramSlices$Ways", "onward", "[J", true)
  | 2 => ("ProgramSlices$Ways", "definitions", "[J", true)
  | 3 => ("ProgramSlices$Ways", "reached", "[J", true)
  | 4 => ("ProgramSlices$Ways", "carried", "[J", true)
  | _ => ("ProgramSlices$Ways", "begun", "[J", true)
def tb_t3 : Nat → FieldType := fun k => match k with
  | 0 => .object "ProgramSlices$Code"
  | 1 => .array .long
  | 2 => .array .long
  | 3 => .array .long
  | 4 => .array .long
  | _ => .array .long
theorem tb_n3 : ∀ a, a < 6 → ∀ b, b < 6 → a ≠ b → (tb_T3 a).2.1 ≠ (tb_T3 b).2.1 := by decide +kernel
theorem tb_y3 : ∀ k, k < 6 → parseFieldDescriptor (tb_T3 k).2.2.1 = some (tb_t3 k) := by decide +kernel
def tb_T4 : u_T := fun k => match k with
  | 0 => ("ProgramSlices$Walk", "code", "LProgramSlices$Code;", true)
  | 1 => ("ProgramSlices$Walk", "dependences", "LProgramSlices$Dependences;", true)
  | 2 => ("ProgramSlices$Walk", "found", "[I", true)
  | 3 => ("ProgramSlices$Walk", "queue", "[I", true)
  | _ => ("ProgramSlices$Walk", "filled", "I", false)
def tb_t4 : Nat → FieldType := fun k => match k with
  | 0 => .object "ProgramSlices$Code"
  | 1 => .object "ProgramSlices$Dependences"
  | 2 => .array .int
  | 3 => .array .int
  | _ => .int
theorem tb_n4 : ∀ a, a < 5 → ∀ b, b < 5 → a ≠ b → (tb_T4 a).2.1 ≠ (tb_T4 b).2.1 := by decide +kernel
theorem tb_y4 : ∀ k, k < 5 → parseFieldDescriptor (tb_T4 k).2.2.1 = some (tb_t4 k) := by decide +kernel
def tb_T5 : u_T := fun k => match k with
  | 0 => ("ProgramSlices$Machine", "log", "LProgramSlices$Log;", true)
  | 1 => ("ProgramSlices$Machine", "code", "LProgramSlices$Code;", true)
  | 2 => ("ProgramSlices$Machine", "inputs", "[I", true)
  | 3 => ("ProgramSlices$Machine", "heap", "[I", true)
  | 4 => ("ProgramSlices$Machine", "variables", "[I", true)
  | 5 => ("ProgramSlices$Machine", "procedure", "[I", true)
  | 6 => ("ProgramSlices$Machine", "caller", "[I", true)
  | 7 => ("ProgramSlices$Machine", "depth", "I", false)
  | 8 => ("ProgramSlices$Machine", "at", "I", false)
  | 9 => ("ProgramSlices$Machine", "done", "I", false)
  | 10 => ("ProgramSlices$Machine", "fuel", "I", false)
  | 11 => ("ProgramSlices$Machine", "allowed", "I", false)
  | 12 => ("ProgramSlices$Machine", "watched", "I", false)
  | 13 => ("ProgramSlices$Machine", "outcome", "I", false)
  | _ => ("ProgramSlices$Machine", "ran", "Z", false)
def tb_t5 : Nat → FieldType := fun k => match k with
  | 0 => .object "ProgramSlices$Log"
  | 1 => .object "ProgramSlices$Code"
  | 2 => .array .int
  | 3 => .array .int
  | 4 => .array .int
  | 5 => .array .int
  | 6 => .array .int
  | 7 => .int
  | 8 => .int
  | 9 => .int
  | 10 => .int
  | 11 => .int
  | 12 => .int
  | 13 => .int
  | _ => .boolean
theorem tb_n5 : ∀ a, a < 15 → ∀ b, b < 15 → a ≠ b → (tb_T5 a).2.1 ≠ (tb_T5 b).2.1 := by decide +kernel
theorem tb_y5 : ∀ k, k < 15 → parseFieldDescriptor (tb_T5 k).2.2.1 = some (tb_t5 k) := by decide +kernel
def tb_T6 : u_T := fun k => match k with
  | 0 => ("ProgramSlices$Log", "values", "[I", true)
  | 1 => ("ProgramSlices$Log", "valueCount", "I", false)
  | 2 => ("ProgramSlices$Log", "texts", "[I", true)
  | _ => ("ProgramSlices$Log", "textCounts", "[I", true)
def tb_t6 : Nat → FieldType := fun k => match k with
  | 0 => .array .int
  | 1 => .int
  | 2 => .array .int
  | _ => .array .int
theorem tb_n6 : ∀ a, a < 4 → ∀ b, b < 4 → a ≠ b → (tb_T6 a).2.1 ≠ (tb_T6 b).2.1 := by decide +kernel
theorem tb_y6 : ∀ k, k < 4 → parseFieldDescriptor (tb_T6 k).2.2.1 = some (tb_t6 k) := by decide +kernel
def tb_T7 : u_T := fun k => match k with
  | 0 => ("ProgramSlices$Order", "count", "I", false)
  | 1 => ("ProgramSlices$Order", "above", "[I", true)
  | 2 => ("ProgramSlices$Order", "ofInput", "[I", true)
  | _ => ("ProgramSlices$Order", "ofChannel", "[I", true)
def tb_t7 : Nat → FieldType := fun k => match k with
  | 0 => .int
  | 1 => .array .int
  | 2 => .array .int
  | _ => .array .int
theorem tb_n7 : ∀ a, a < 4 → ∀ b, b < 4 → a ≠ b → (tb_T7 a).2.1 ≠ (tb_T7 b).2.1 := by decide +kernel
theorem tb_y7 : ∀ k, k < 4 → parseFieldDescriptor (tb_T7 k).2.2.1 = some (tb_t7 k) := by decide +kernel
def tb_T8 : u_T := fun k => match k with
  | 0 => ("ProgramSlices$Flows", "code", "LProgramSlices$Code;", true)
  | 1 => ("ProgramSlices$Flows", "order", "LProgramSlices$Order;", true)
  | _ => ("ProgramSlices$Flows", "sources", "[I", true)
def tb_t8 : Nat → FieldType := fun k => match k with
  | 0 => .object "ProgramSlices$Code"
  | 1 => .object "ProgramSlices$Order"
  | _ => .array .int
theorem tb_n8 : ∀ a, a < 3 → ∀ b, b < 3 → a ≠ b → (tb_T8 a).2.1 ≠ (tb_T8 b).2.1 := by decide +kernel
theorem tb_y8 : ∀ k, k < 3 → parseFieldDescriptor (tb_T8 k).2.2.1 = some (tb_t8 k) := by decide +kernel
def tb_T9 : u_T := fun k => match k with
  | 0 => ("ProgramSlices$Slice", "words", "[I", true)
  | 1 => ("ProgramSlices$Slice", "taken", "Z", false)
  | 2 => ("ProgramSlices$Slice", "forward", "Z", false)
  | _ => ("ProgramSlices$Slice", "instruction", "I", false)
def tb_t9 : Nat → FieldType := fun k => match k with
  | 0 => .array .int
  | 1 => .boolean
  | 2 => .boolean
  | _ => .int
theorem tb_n9 : ∀ a, a < 4 → ∀ b, b < 4 → a ≠ b → (tb_T9 a).2.1 ≠ (tb_T9 b).2.1 := by decide +kernel
theorem tb_y9 : ∀ k, k < 4 → parseFieldDescriptor (tb_T9 k).2.2.1 = some (tb_t9 k) := by decide +kernel
def tb_T10 : u_T := fun k => match k with
  | 0 => ("ProgramSlicesModel", "count", "I", false)
  | 1 => ("ProgramSlicesModel", "op", "[I", true)
  | 2 => ("ProgramSlicesModel", "d", "[I", true)
  | 3 => ("ProgramSlicesModel", "a", "[I", true)
  | 4 => ("ProgramSlicesModel", "b", "[I", true)
  | 5 => ("ProgramSlicesModel", "built", "Z", false)
  | 6 => ("ProgramSlicesModel", "procs", "I", false)
  | 7 => ("ProgramSlicesModel", "begin", "[I", true)
  | 8 => ("ProgramSlicesModel", "end", "[I", true)
  | 9 => ("ProgramSlicesModel", "inProc", "[I", true)
  | 10 => ("ProgramSlicesModel", "around", "[I", true)
  | 11 => ("ProgramSlicesModel", "elseOf", "[I", true)
  | 12 => ("ProgramSlicesModel", "endOf", "[I", true)
  | 13 => ("ProgramSlicesModel", "headOf", "[I", true)
  | 14 => ("ProgramSlicesModel", "stack", "[I", true)
  | 15 => ("ProgramSlicesModel", "reach", "[J", true)
  | 16 => ("ProgramSlicesModel", "inside", "[J", true)
  | 17 => ("ProgramSlicesModel", "up", "[J", true)
  | 18 => ("ProgramSlicesModel", "down", "[J", true)
  | 19 => ("ProgramSlicesModel", "set", "[J", true)
  | 20 => ("ProgramSlicesModel", "sliceKind", "I", false)
  | 21 => ("ProgramSlicesModel", "sliceOf", "I", false)
  | 22 => ("ProgramSlicesModel", "slice", "[J", true)
  | 23 => ("ProgramSlicesModel", "inputs", "[I", true)
  | 24 => ("ProgramSlicesModel", "ran", "Z", false)
  | 25 => ("ProgramSlicesModel", "steps", "I", false)
  | 26 => ("ProgramSlicesModel", "depth", "I", false)
  | 27 => ("ProgramSlicesModel", "xs", "[I", true)
  | 28 => ("ProgramSlicesModel", "callers", "[I", true)
  | 29 => ("ProgramSlicesModel", "heap", "[I", true)
  | 30 => ("ProgramSlicesModel", "seenCount", "I", false)
  | 31 => ("ProgramSlicesModel", "seenValue", "[I", true)
  | 32 => ("ProgramSlicesModel", "outCount", "[I", true)
  | 33 => ("ProgramSlicesModel", "outValue", "[I", true)
  | 34 => ("ProgramSlicesModel", "levels", "I", false)
  | 35 => ("ProgramSlicesModel", "order", "[Z", true)
  | 36 => ("ProgramSlicesModel", "inputLevel", "[I", true)
  | _ => ("ProgramSlicesModel", "channelLevel", "[I", true)
def tb_t10 : Nat → FieldType := fun k => match k with
  | 0 => .int
  | 1 => .array .int
  | 2 => .array .int
  | 3 => .array .int
  | 4 => .array .int
  | 5 => .boolean
  | 6 => .int
  | 7 => .array .int
  | 8 => .array .int
  | 9 => .array .int
  | 10 => .array .int
  | 11 => .array .int
  | 12 => .array .int
  | 13 => .array .int
  | 14 => .array .int
  | 15 => .array .long
  | 16 => .array .long
  | 17 => .array .long
  | 18 => .array .long
  | 19 => .array .long
  | 20 => .int
  | 21 => .int
  | 22 => .array .long
  | 23 => .array .int
  | 24 => .boolean
  | 25 => .int
  | 26 => .int
  | 27 => .array .int
  | 28 => .array .int
  | 29 => .array .int
  | 30 => .int
  | 31 => .array .int
  | 32 => .array .int
  | 33 => .array .int
  | 34 => .int
  | 35 => .array .boolean
  | 36 => .array .int
  | _ => .array .int
theorem tb_n10 : ∀ a, a < 38 → ∀ b, b < 38 → a ≠ b → (tb_T10 a).2.1 ≠ (tb_T10 b).2.1 := by decide +kernel
theorem tb_y10 : ∀ k, k < 38 → parseFieldDescriptor (tb_T10 k).2.2.1 = some (tb_t10 k) := by decide +kernel
def tb_cl : List vw_C := [("ProgramSlices", tb_T0, 8), ("ProgramSlices$Code", tb_T1, 14), ("ProgramSlices$Dependences", tb_T2, 7), ("ProgramSlices$Ways", tb_T3, 6), ("ProgramSlices$Walk", tb_T4, 5), ("ProgramSlices$Machine", tb_T5, 15), ("ProgramSlices$Log", tb_T6, 4), ("ProgramSlices$Order", tb_T7, 4), ("ProgramSlices$Flows", tb_T8, 3), ("ProgramSlices$Slice", tb_T9, 4), ("ProgramSlicesModel", tb_T10, 38)]
/-! the words: those that every method may ask for, those of nest mates -/
def tb_W : List Cond := lw_tbl.filter goodWord
def tb_N : List Cond := tables_1.filter sm_isN
theorem tb_in {w : Cond} {i : Nat} (h : tables_1[i]? = some w) (hg : goodWord w = true) : w ∈ tb_W := List.mem_filter.mpr ⟨List.mem_append_right _ (List.mem_of_getElem? h), hg⟩
theorem tb_inp {w : Cond} {i : Nat} (h : (k2_sels lw_privs)[i]? = some w) (hg : goodWord w = true) : w ∈ tb_W := List.mem_filter.mpr ⟨List.mem_append_left _ (List.mem_of_getElem? h), hg⟩
theorem tb_inn {w : Cond} {i : Nat} (h : tables_1[i]? = some w) (hg : sm_isN w = true) : w ∈ tb_N := List.mem_filter.mpr ⟨List.mem_of_getElem? h, hg⟩
theorem tb_good {w : Cond} (h : w ∈ tb_W) : w ∈ tb_W ∧ ((w.onTables && w.keeps) = true ∨ ∃ ty, w = .arrayClass ty) := ⟨h, good_of_word (List.mem_filter.mp h).2⟩
theorem tb_G {w : Cond} (h : w ∈ tb_W) : GoodIn tb_W (w :: tb_W) := fun v hv => (List.mem_cons.mp hv).elim (fun e => e ▸ tb_good h) (fun h => tb_good h)
theorem tb_app {big a b : List Cond} (ha : GoodIn big a) (hb : GoodIn big b) : GoodIn big (a ++ b) := fun w h => (List.mem_append.mp h).elim (ha w) (hb w)
theorem tb_GS {own : String} {i : Nat} {y : MethodName} {w : Cond} (h1 : Cond.methodLink own i y ∈ tb_W) (h2 : Cond.static y ∈ tb_W) (h3 : Cond.initialized y.cls ∈ tb_W) (h : w ∈ tb_W) : GoodIn tb_W (va_wsS own i y (w :: tb_W)) := tb_app (fun v hv => by
  rcases List.mem_cons.mp hv with e | hv
  · exact e ▸ tb_good h1
  rcases List.mem_cons.mp hv with e | hv
  · exact e ▸ tb_good h2
  rcases List.mem_cons.mp hv with e | hv
  · exact e ▸ tb_good h3
  · cases hv) (tb_G h)
theorem tb_GV {own : String} {i : Nat} {y : MethodName} {w : Cond} (h1 : Cond.methodLink own i y ∈ tb_W) (h2 : Cond.instanceMethod y ∈ tb_W) (h3 : Cond.selects y.cls y y ∈ tb_W) (h4 : Cond.initialized y.cls ∈ tb_W) (h : w ∈ tb_W) : GoodIn tb_W (wsV own i y.cls y (w :: tb_W)) := tb_app (fun v hv => by
  rcases List.mem_cons.mp hv with e | hv
  · exact e ▸ tb_good h1
  rcases List.mem_cons.mp hv with e | hv
  · exact e ▸ tb_good h2
  rcases List.mem_cons.mp hv with e | hv
  · exact e ▸ tb_good h3
  rcases List.mem_cons.mp hv with e | hv
  · exact e ▸ tb_good h4
  · cases hv) (tb_G h)
theorem tb_u0 : ∀ w ∈ u_ws "ProgramSlices" tb_T0 8, w ∈ tb_W := by
  intro w hw
  obtain ⟨k, hk, rfl⟩ := List.mem_map.mp hw
  have hk := List.mem_range.mp hk
  have hp : tables_1[(([311, 313, 315, 317, 319, 321, 323, 325] : List Nat).getD k 0)]? = some (u_lay "ProgramSlices" tb_T0 k) ∧ goodWord (u_lay "ProgramSlices" tb_T0 k) = true := by
    clear hw
    revert hk
    revert k
    decide +kernel
  exact tb_in hp.1 hp.2
theorem tb_u1 : ∀ w ∈ u_ws "ProgramSlices$Code" tb_T1 14, w ∈ tb_W := by
  intro w hw
  obtain ⟨k, hk, rfl⟩ := List.mem_map.mp hw
  have hk := List.mem_range.mp hk
  have hp : tables_1[(([71, 73, 75, 77, 79, 81, 83, 85, 87, 89, 91, 93, 95, 97] : List Nat).getD k 0)]? = some (u_lay "ProgramSlices$Code" tb_T1 k) ∧ goodWord (u_lay "ProgramSlices$Code" tb_T1 k) = true := by
    clear hw
    revert hk
    revert k
    decide +kernel
  exact tb_in hp.1 hp.2
theorem tb_u2 : ∀ w ∈ u_ws "ProgramSlices$Dependences" tb_T2 7, w ∈ tb_W := by
  intro w hw
  obtain ⟨k, hk, rfl⟩ := List.mem_map.mp hw
  have hk := List.mem_range.mp hk
  have hp : tables_1[(([140, 142, 144, 146, 148, 150, 152] : List Nat).getD k 0)]? = some (u_lay "ProgramSlices$Dependences" tb_T2 k) ∧ goodWord (u_lay "ProgramSlices$Dependences" tb_T2 k) = true := by
    clear hw
    revert hk
    revert k
    decide +kernel
  exact tb_in hp.1 hp.2
theorem tb_u3 : ∀ w ∈ u_ws "ProgramSlices$Ways" tb_T3 6, w ∈ tb_W := by
  intro w hw
  obtain ⟨k, hk, rfl⟩ := List.mem_map.mp hw
  have hk := List.mem_range.mp hk
  have hp : tables_1[(([119, 121, 123, 125, 127, 129] : List Nat).getD k 0)]? = some (u_lay "ProgramSlices$Ways" tb_T3 k) ∧ goodWord (u_lay "ProgramSlices$Ways" tb_T3 k) = true := by
    clear hw
    revert hk
    revert k
    decide +kernel
  exact tb_in hp.1 hp.2
theorem tb_u4 : ∀ w ∈ u_ws "ProgramSlices$Walk" tb_T4 5, w ∈ tb_W := by
  intro w hw
  obtain ⟨k, hk, rfl⟩ := List.mem_map.mp hw
  have hk := List.mem_range.mp hk
  have hp : tables_1[(([166, 168, 170, 172, 174] : List Nat).getD k 0)]? = some (u_lay "ProgramSlices$Walk" tb_T4 k) ∧ goodWord (u_lay "ProgramSlices$Walk" tb_T4 k) = true := by
    clear hw
    revert hk
    revert k
    decide +kernel
  exact tb_in hp.1 hp.2
theorem tb_u5 : ∀ w ∈ u_ws "ProgramSlices$Machine" tb_T5 15, w ∈ tb_W := by
  intro w hw
  obtain ⟨k, hk, rfl⟩ := List.mem_map.mp hw
  have hk := List.mem_range.mp hk
  have hp : tables_1[(([218, 220, 222, 224, 226, 228, 230, 232, 234, 236, 238, 240, 242, 244, 246] : List Nat).getD k 0)]? = some (u_lay "ProgramSlices$Machine" tb_T5 k) ∧ goodWord (u_lay "ProgramSlices$Machine" tb_T5 k) = true := by
    clear hw
    revert hk
    revert k
    decide +kernel
  exact tb_in hp.1 hp.2
theorem tb_u6 : ∀ w ∈ u_ws "ProgramSlices$Log" tb_T6 4, w ∈ tb_W := by
  intro w hw
  obtain ⟨k, hk, rfl⟩ := List.mem_map.mp hw
  have hk := List.mem_range.mp hk
  have hp : tables_1[(([193, 195, 197, 199] : List Nat).getD k 0)]? = some (u_lay "ProgramSlices$Log" tb_T6 k) ∧ goodWord (u_lay "ProgramSlices$Log" tb_T6 k) = true := by
    clear hw
    revert hk
    revert k
    decide +kernel
  exact tb_in hp.1 hp.2
theorem tb_u7 : ∀ w ∈ u_ws "ProgramSlices$Order" tb_T7 4, w ∈ tb_W := by
  intro w hw
  obtain ⟨k, hk, rfl⟩ := List.mem_map.mp hw
  have hk := List.mem_range.mp hk
  have hp : tables_1[(([259, 261, 263, 265] : List Nat).getD k 0)]? = some (u_lay "ProgramSlices$Order" tb_T7 k) ∧ goodWord (u_lay "ProgramSlices$Order" tb_T7 k) = true := by
    clear hw
    revert hk
    revert k
    decide +kernel
  exact tb_in hp.1 hp.2
theorem tb_u8 : ∀ w ∈ u_ws "ProgramSlices$Flows" tb_T8 3, w ∈ tb_W := by
  intro w hw
  obtain ⟨k, hk, rfl⟩ := List.mem_map.mp hw
  have hk := List.mem_range.mp hk
  have hp : tables_1[(([277, 279, 281] : List Nat).getD k 0)]? = some (u_lay "ProgramSlices$Flows" tb_T8 k) ∧ goodWord (u_lay "ProgramSlices$Flows" tb_T8 k) = true := by
    clear hw
    revert hk
    revert k
    decide +kernel
  exact tb_in hp.1 hp.2
theorem tb_u9 : ∀ w ∈ u_ws "ProgramSlices$Slice" tb_T9 4, w ∈ tb_W := by
  intro w hw
  obtain ⟨k, hk, rfl⟩ := List.mem_map.mp hw
  have hk := List.mem_range.mp hk
  have hp : tables_1[(([294, 296, 298, 300] : List Nat).getD k 0)]? = some (u_lay "ProgramSlices$Slice" tb_T9 k) ∧ goodWord (u_lay "ProgramSlices$Slice" tb_T9 k) = true := by
    clear hw
    revert hk
    revert k
    decide +kernel
  exact tb_in hp.1 hp.2
theorem tb_u10 : ∀ w ∈ u_ws "ProgramSlicesModel" tb_T10 38, w ∈ tb_W := by
  intro w hw
  obtain ⟨k, hk, rfl⟩ := List.mem_map.mp hw
  have hk := List.mem_range.mp hk
  have hp : tables_1[(([930, 932, 934, 936, 938, 940, 942, 944, 946, 948, 950, 952, 954, 956, 958, 960, 962, 964, 966, 968, 970, 972, 974, 976, 978, 980, 982, 984, 986, 988, 990, 992, 994, 996, 998, 1000, 1002, 1004] : List Nat).getD k 0)]? = some (u_lay "ProgramSlicesModel" tb_T10 k) ∧ goodWord (u_lay "ProgramSlicesModel" tb_T10 k) = true := by
    clear hw
    revert hk
    revert k
    decide +kernel
  exact tb_in hp.1 hp.2
/-! the methods -/
abbrev tb_Q : Type := MethodName × ByteArray × Nat × Option FieldType
def tb_ml : List tb_Q := [(⟨"ProgramSlices", "<init>", "()V"⟩, prog_1_method_1_code, 1, none),
  (⟨"ProgramSlices$Code", "<init>", "()V"⟩, prog_2_method_1_code, 1, none),
  (⟨"ProgramSlices$Dependences", "<init>", "(LProgramSlices$Code;)V"⟩, prog_3_method_1_code, 2, none),
  (⟨"ProgramSlices$Ways", "<init>", "(LProgramSlices$Code;)V"⟩, prog_10_method_1_code, 2, none),
  (⟨"ProgramSlices$Walk", "<init>", "(LProgramSlices$Code;LProgramSlices$Dependences;)V"⟩, prog_9_method_1_code, 3, none),
  (⟨"ProgramSlices$Machine", "<init>", "(LProgramSlices$Code;)V"⟩, prog_6_method_1_code, 2, none),
  (⟨"ProgramSlices$Log", "<init>", "()V"⟩, prog_5_method_1_code, 1, none),
  (⟨"ProgramSlices$Order", "<init>", "()V"⟩, prog_7_method_1_code, 1, none),
  (⟨"ProgramSlices$Flows", "<init>", "(LProgramSlices$Code;LProgramSlices$Order;)V"⟩, prog_4_method_1_code, 3, none),
  (⟨"ProgramSlices$Slice", "<init>", "()V"⟩, prog_8_method_1_code, 1, none),
  (⟨"ProgramSlices", "add", "(IIII)I"⟩, prog_1_method_2_code, 5, some .int),
  (⟨"ProgramSlices$Code", "hasRoom", "()Z"⟩, prog_2_method_2_code, 1, some .boolean),
  (⟨"ProgramSlices$Code", "isAllowed", "(IIII)Z"⟩, prog_2_method_3_code, 5, some .boolean),
  (⟨"ProgramSlices$Code", "namesD", "(I)Z"⟩, prog_2_method_4_code, 1, some .boolean),
  (⟨"ProgramSlices$Code", "isCallOp", "(I)Z"⟩, prog_2_method_7_code, 1, some .boolean),
  (⟨"ProgramSlices", "isOneOfFour", "(I)Z"⟩, prog_1_method_22_code, 1, some .boolean),
  (⟨"ProgramSlices$Code", "namesA", "(I)Z"⟩, prog_2_method_5_code, 1, some .boolean),
  (⟨"ProgramSlices$Code", "namesB", "(I)Z"⟩, prog_2_method_6_code, 1, some .boolean),
  (⟨"ProgramSlices$Code", "append", "(IIII)I"⟩, prog_2_method_8_code, 5, some .int),
  (⟨"ProgramSlices", "clear", "()V"⟩, prog_1_method_3_code, 1, none),
  (⟨"ProgramSlices$Code", "wipe", "()V"⟩, prog_2_method_9_code, 1, none),
  (⟨"ProgramSlices$Slice", "drop", "()V"⟩, prog_8_method_2_code, 1, none),
  (⟨"ProgramSlices$Machine", "forget", "()V"⟩, prog_6_method_3_code, 1, none),
  (⟨"ProgramSlices$Log", "empty", "()V"⟩, prog_5_method_2_code, 1, none),
  (⟨"java/util/Arrays", "fill", "([II)V"⟩, prog_14_method_103_code, 4, none),
  (⟨"ProgramSlices", "build", "()I"⟩, prog_1_method_4_code, 2, some .int),
  (⟨"ProgramSlices$Code", "layOut", "()I"⟩, prog_2_method_15_code, 2, some .int),
  (⟨"ProgramSlices$Code", "place", "(I)Z"⟩, prog_2_method_16_code, 2, some .boolean),
  (⟨"ProgramSlices$Code", "placeOpener", "(I)Z"⟩, prog_2_method_17_code, 2, some .boolean),
  (⟨"ProgramSlices$Code", "placeElse", "(II)Z"⟩, prog_2_method_18_code, 3, some .boolean),
  (⟨"ProgramSlices$Code", "placeEnd", "(II)Z"⟩, prog_2_method_19_code, 3, some .boolean),
  (⟨"ProgramSlices$Code", "placeProc", "(I)Z"⟩, prog_2_method_20_code, 2, some .boolean),
  (⟨"ProgramSlices$Code", "firstCallOfNothing", "()I"⟩, prog_2_method_21_code, 2, some .int),
  (⟨"ProgramSlices$Code", "isCall", "(I)Z"⟩, prog_2_method_12_code, 2, some .boolean),
  (⟨"ProgramSlices$Code", "callee", "(I)I"⟩, prog_2_method_13_code, 2, some .int),
  (⟨"ProgramSlices$Dependences", "workOut", "()V"⟩, prog_3_method_8_code, 2, none),
  (⟨"ProgramSlices$Ways", "workOut", "()V"⟩, prog_10_method_5_code, 2, none),
  (⟨"java/util/Arrays", "fill", "([JJ)V"⟩, prog_14_method_101_code, 5, none),
  (⟨"ProgramSlices$Ways", "stepsFrom", "(I)J"⟩, prog_10_method_6_code, 4, some .long),
  (⟨"ProgramSlices$Code", "otherwise", "(I)I"⟩, prog_2_method_22_code, 2, some .int),
  (⟨"ProgramSlices$Code", "behindMark", "(I)I"⟩, prog_2_method_23_code, 3, some .int),
  (⟨"ProgramSlices$Code", "defines", "(I)Z"⟩, prog_2_method_14_code, 2, some .boolean),
  (⟨"ProgramSlices$Ways", "flood", "(JJ)J"⟩, prog_10_method_7_code, 12, some .long),
  (⟨"ProgramSlices", "hasPosition", "(JI)Z"⟩, prog_1_method_24_code, 3, some .boolean),
  (⟨"ProgramSlices$Code", "isNode", "(I)Z"⟩, prog_2_method_11_code, 2, some .boolean),
  (⟨"ProgramSlices$Code", "isThere", "(I)Z"⟩, prog_2_method_10_code, 2, some .boolean),
  (⟨"ProgramSlices$Dependences", "joinControl", "(I)V"⟩, prog_3_method_11_code, 4, none),
  (⟨"ProgramSlices", "sideOf", "(II)I"⟩, prog_1_method_26_code, 2, some .int),
  (⟨"ProgramSlices$Dependences", "joinAs", "(III)V"⟩, prog_3_method_10_code, 5, none),
  (⟨"ProgramSlices$Dependences", "join", "(II)V"⟩, prog_3_method_9_code, 3, none),
  (⟨"ProgramSlices", "partOf", "(II)I"⟩, prog_1_method_25_code, 2, some .int),
  (⟨"ProgramSlices$Dependences", "joinData", "(I)V"⟩, prog_3_method_12_code, 3, none),
  (⟨"ProgramSlices$Dependences", "joinRead", "(IIII)V"⟩, prog_3_method_13_code, 6, none),
  (⟨"ProgramSlices$Ways", "carries", "(II)Z"⟩, prog_10_method_3_code, 3, some .boolean),
  (⟨"ProgramSlices$Ways", "carriesBeginning", "(III)Z"⟩, prog_10_method_4_code, 4, some .boolean),
  (⟨"ProgramSlices$Dependences", "joinHeap", "(I)V"⟩, prog_3_method_14_code, 5, none),
  (⟨"ProgramSlices$Ways", "isReached", "(II)Z"⟩, prog_10_method_2_code, 3, some .boolean),
  (⟨"ProgramSlices$Dependences", "joinSource", "(IIIII)V"⟩, prog_3_method_17_code, 6, none),
  (⟨"ProgramSlices$Dependences", "joinHalt", "(I)V"⟩, prog_3_method_15_code, 4, none),
  (⟨"ProgramSlices$Dependences", "joinEnds", "(I)V"⟩, prog_3_method_16_code, 3, none),
  (⟨"ProgramSlices$Walk", "summarise", "()V"⟩, prog_9_method_4_code, 5, none),
  (⟨"ProgramSlices$Walk", "summariseEnd", "(II)Z"⟩, prog_9_method_5_code, 6, some .boolean),
  (⟨"ProgramSlices$Walk", "begin", "(I)V"⟩, prog_9_method_6_code, 2, none),
  (⟨"ProgramSlices$Walk", "put", "(I)V"⟩, prog_9_method_7_code, 3, none),
  (⟨"ProgramSlices$Walk", "follow", "(IZ)V"⟩, prog_9_method_9_code, 6, none),
  (⟨"ProgramSlices$Dependences", "neighbours", "(IIZ)I"⟩, prog_3_method_3_code, 4, some .int),
  (⟨"ProgramSlices$Walk", "putAll", "(II)V"⟩, prog_9_method_8_code, 5, none),
  (⟨"ProgramSlices", "hasBit", "(II)Z"⟩, prog_1_method_23_code, 2, some .boolean),
  (⟨"ProgramSlices$Walk", "partAt", "(I)I"⟩, prog_9_method_10_code, 1, some .int),
  (⟨"ProgramSlices$Walk", "callsBeyond", "(IZ)I"⟩, prog_9_method_11_code, 3, some .int),
  (⟨"ProgramSlices$Walk", "isEnd", "(I)Z"⟩, prog_9_method_13_code, 1, some .boolean),
  (⟨"ProgramSlices$Dependences", "callsOf", "(I)I"⟩, prog_3_method_2_code, 2, some .int),
  (⟨"ProgramSlices$Walk", "sideBeyond", "(IZ)I"⟩, prog_9_method_12_code, 4, some .int),
  (⟨"ProgramSlices$Dependences", "isSummary", "(III)Z"⟩, prog_3_method_5_code, 4, some .boolean),
  (⟨"ProgramSlices$Dependences", "summaryBit", "(II)I"⟩, prog_3_method_6_code, 2, some .int),
  (⟨"ProgramSlices$Dependences", "putSummary", "(III)V"⟩, prog_3_method_7_code, 5, none),
  (⟨"ProgramSlices$Flows", "trace", "(LProgramSlices$Walk;)V"⟩, prog_4_method_2_code, 3, none),
  (⟨"ProgramSlices$Flows", "isSink", "(I)Z"⟩, prog_4_method_3_code, 2, some .boolean),
  (⟨"ProgramSlices$Walk", "takeSlice", "(IZ)V"⟩, prog_9_method_3_code, 3, none),
  (⟨"ProgramSlices$Walk", "word", "(I)I"⟩, prog_9_method_2_code, 2, some .int),
  (⟨"ProgramSlices", "levels", "(I)Z"⟩, prog_1_method_5_code, 2, some .boolean),
  (⟨"ProgramSlices$Order", "reset", "(I)V"⟩, prog_7_method_2_code, 3, none),
  (⟨"ProgramSlices", "below", "(II)Z"⟩, prog_1_method_6_code, 3, some .boolean),
  (⟨"ProgramSlices$Order", "isLevel", "(I)Z"⟩, prog_7_method_3_code, 2, some .boolean),
  (⟨"ProgramSlices$Order", "tell", "(II)V"⟩, prog_7_method_4_code, 4, none),
  (⟨"ProgramSlices$Order", "isBelow", "(II)Z"⟩, prog_7_method_5_code, 3, some .boolean),
  (⟨"ProgramSlices", "label", "(ZII)Z"⟩, prog_1_method_7_code, 4, some .boolean),
  (⟨"ProgramSlices$Order", "mark", "(ZII)V"⟩, prog_7_method_6_code, 4, none),
  (⟨"ProgramSlices", "lattice", "()I"⟩, prog_1_method_8_code, 1, some .int),
  (⟨"ProgramSlices$Order", "fault", "()I"⟩, prog_7_method_9_code, 1, some .int),
  (⟨"ProgramSlices$Order", "hasCircle", "()Z"⟩, prog_7_method_10_code, 3, some .boolean),
  (⟨"ProgramSlices$Order", "allJoin", "()Z"⟩, prog_7_method_11_code, 3, some .boolean),
  (⟨"ProgramSlices$Order", "hasLeast", "(I)Z"⟩, prog_7_method_12_code, 3, some .boolean),
  (⟨"ProgramSlices$Order", "bottom", "()I"⟩, prog_7_method_13_code, 3, some .int),
  (⟨"ProgramSlices", "depends", "(II)I"⟩, prog_1_method_9_code, 3, some .int),
  (⟨"ProgramSlices$Dependences", "kindsBetween", "(II)I"⟩, prog_3_method_4_code, 5, some .int),
  (⟨"ProgramSlices", "summary", "(III)Z"⟩, prog_1_method_10_code, 4, some .boolean),
  (⟨"ProgramSlices", "slice", "(IZ)I"⟩, prog_1_method_11_code, 3, some .int),
  (⟨"ProgramSlices$Slice", "take", "(IZLProgramSlices$Walk;)V"⟩, prog_8_method_3_code, 4, none),
  (⟨"ProgramSlices$Slice", "join", "(LProgramSlices$Walk;)V"⟩, prog_8_method_12_code, 3, none),
  (⟨"ProgramSlices$Slice", "size", "()I"⟩, prog_8_method_8_code, 1, some .int),
  (⟨"ProgramSlices", "fit", "()I"⟩, prog_1_method_12_code, 1, some .int),
  (⟨"ProgramSlices$Slice", "isBackward", "()Z"⟩, prog_8_method_5_code, 1, some .boolean),
  (⟨"ProgramSlices$Slice", "makeFit", "(LProgramSlices$Walk;LProgramSlices$Code;)V"⟩, prog_8_method_9_code, 6, none),
  (⟨"ProgramSlices$Slice", "fitCall", "(LProgramSlices$Walk;II)Z"⟩, prog_8_method_10_code, 6, some .boolean),
  (⟨"ProgramSlices$Slice", "lacks", "(III)Z"⟩, prog_8_method_11_code, 4, some .boolean),
  (⟨"ProgramSlices", "sliced", "(I)Z"⟩, prog_1_method_13_code, 2, some .boolean),
  (⟨"ProgramSlices$Slice", "isTaken", "()Z"⟩, prog_8_method_4_code, 1, some .boolean),
  (⟨"ProgramSlices$Slice", "instructions", "()I"⟩, prog_8_method_7_code, 1, some .int),
  (⟨"ProgramSlices", "input", "(II)Z"⟩, prog_1_method_14_code, 3, some .boolean),
  (⟨"ProgramSlices$Machine", "setInput", "(II)V"⟩, prog_6_method_2_code, 3, none),
  (⟨"ProgramSlices", "run", "(ZI)I"⟩, prog_1_method_15_code, 4, some .int),
  (⟨"ProgramSlices$Slice", "criterion", "()I"⟩, prog_8_method_6_code, 1, some .int),
  (⟨"ProgramSlices$Machine", "perform", "(III)I"⟩, prog_6_method_5_code, 5, some .int),
  (⟨"ProgramSlices$Machine", "enter", "(IIII)V"⟩, prog_6_method_13_code, 5, none),
  (⟨"ProgramSlices$Machine", "setVariable", "(II)V"⟩, prog_6_method_16_code, 3, none),
  (⟨"ProgramSlices$Machine", "takeTurn", "()V"⟩, prog_6_method_6_code, 1, none),
  (⟨"ProgramSlices$Machine", "leave", "()V"⟩, prog_6_method_14_code, 3, none),
  (⟨"ProgramSlices$Machine", "variable", "(I)I"⟩, prog_6_method_15_code, 2, some .int),
  (⟨"ProgramSlices$Machine", "isBranch", "(I)Z"⟩, prog_6_method_7_code, 2, some .boolean),
  (⟨"ProgramSlices$Machine", "take", "(I)V"⟩, prog_6_method_8_code, 3, none),
  (⟨"ProgramSlices$Machine", "takeCall", "(I)V"⟩, prog_6_method_9_code, 2, none),
  (⟨"ProgramSlices$Machine", "takeBranch", "(I)V"⟩, prog_6_method_10_code, 3, none),
  (⟨"ProgramSlices$Machine", "note", "(II)V"⟩, prog_6_method_17_code, 3, none),
  (⟨"ProgramSlices$Log", "noteValue", "(I)V"⟩, prog_5_method_3_code, 2, none),
  (⟨"ProgramSlices$Log", "noteText", "(II)V"⟩, prog_5_method_4_code, 3, none),
  (⟨"ProgramSlices$Machine", "newValue", "(I)I"⟩, prog_6_method_11_code, 2, some .int),
  (⟨"ProgramSlices$Machine", "quotient", "(II)I"⟩, prog_6_method_12_code, 2, some .int),
  (⟨"ProgramSlices", "steps", "()I"⟩, prog_1_method_16_code, 1, some .int),
  (⟨"ProgramSlices$Machine", "stepsDone", "()I"⟩, prog_6_method_4_code, 1, some .int),
  (⟨"ProgramSlices", "seen", "(I)I"⟩, prog_1_method_17_code, 2, some .int),
  (⟨"ProgramSlices$Log", "valueSeen", "(I)I"⟩, prog_5_method_5_code, 2, some .int),
  (⟨"ProgramSlices", "written", "(II)I"⟩, prog_1_method_18_code, 3, some .int),
  (⟨"ProgramSlices$Log", "valueWritten", "(II)I"⟩, prog_5_method_6_code, 4, some .int),
  (⟨"ProgramSlices", "check", "()I"⟩, prog_1_method_19_code, 1, some .int),
  (⟨"ProgramSlices", "canCheck", "()Z"⟩, prog_1_method_21_code, 1, some .boolean),
  (⟨"ProgramSlices$Flows", "count", "()I"⟩, prog_4_method_4_code, 3, some .int),
  (⟨"ProgramSlices$Flows", "inputsInto", "(I)I"⟩, prog_4_method_6_code, 5, some .int),
  (⟨"ProgramSlices$Order", "levelOfChannel", "(I)I"⟩, prog_7_method_8_code, 2, some .int),
  (⟨"ProgramSlices$Order", "levelOfInput", "(I)I"⟩, prog_7_method_7_code, 2, some .int),
  (⟨"ProgramSlices", "flow", "(I)I"⟩, prog_1_method_20_code, 2, some .int),
  (⟨"ProgramSlices$Flows", "find", "(I)I"⟩, prog_4_method_5_code, 6, some .int),
  (⟨"ProgramSlicesModel", "<init>", "()V"⟩, prog_12_method_1_code, 1, none),
  (⟨"ProgramSlicesModel", "add", "(IIII)I"⟩, prog_12_method_4_code, 9, some .int),
  (⟨"ProgramSlicesModel", "four", "(I)Z"⟩, prog_12_method_2_code, 1, some .boolean),
  (⟨"ProgramSlicesModel", "clear", "()V"⟩, prog_12_method_5_code, 1, none),
  (⟨"ProgramSlicesModel", "build", "()I"⟩, prog_12_method_7_code, 3, some .int),
  (⟨"ProgramSlicesModel", "structure", "()I"⟩, prog_12_method_6_code, 4, some .int),
  (⟨"ProgramSlicesModel", "isCall", "(I)Z"⟩, prog_12_method_3_code, 2, some .boolean),
  (⟨"ProgramSlicesModel", "ways", "()V"⟩, prog_12_method_10_code, 4, none),
  (⟨"ProgramSlicesModel", "way", "(II)I"⟩, prog_12_method_9_code, 4, some .int),
  (⟨"ProgramSlicesModel", "behind", "(II)I"⟩, prog_12_method_8_code, 3, some .int),
  (⟨"ProgramSlicesModel", "dependences", "()V"⟩, prog_12_method_29_code, 4, none),
  (⟨"ProgramSlicesModel", "how", "(II)I"⟩, prog_12_method_26_code, 3, some .int),
  (⟨"ProgramSlicesModel", "exists", "(I)Z"⟩, prog_12_method_16_code, 3, some .boolean),
  (⟨"ProgramSlicesModel", "procedure", "(I)I"⟩, prog_12_method_20_code, 2, some .int),
  (⟨"ProgramSlicesModel", "at", "(I)I"⟩, prog_12_method_19_code, 1, some .int),
  (⟨"ProgramSlicesModel", "control", "(II)Z"⟩, prog_12_method_22_code, 4, some .boolean),
  (⟨"ProgramSlicesModel", "data", "(II)Z"⟩, prog_12_method_23_code, 6, some .boolean),
  (⟨"ProgramSlicesModel", "role", "(I)I"⟩, prog_12_method_18_code, 1, some .int),
  (⟨"ProgramSlicesModel", "part", "(I)I"⟩, prog_12_method_17_code, 1, some .int),
  (⟨"ProgramSlicesModel", "reads", "(II)Z"⟩, prog_12_method_21_code, 7, some .boolean),
  (⟨"ProgramSlicesModel", "fromBeginning", "(III)Z"⟩, prog_12_method_15_code, 5, some .boolean),
  (⟨"ProgramSlicesModel", "spread", "(JI)J"⟩, prog_12_method_13_code, 10, some .long),
  (⟨"ProgramSlicesModel", "defines", "(II)Z"⟩, prog_12_method_12_code, 3, some .boolean),
  (⟨"ProgramSlicesModel", "arrives", "(III)Z"⟩, prog_12_method_14_code, 5, some .boolean),
  (⟨"ProgramSlicesModel", "heap", "(II)Z"⟩, prog_12_method_24_code, 5, some .boolean),
  (⟨"ProgramSlicesModel", "path", "(II)Z"⟩, prog_12_method_11_code, 3, some .boolean),
  (⟨"ProgramSlicesModel", "halt", "(II)Z"⟩, prog_12_method_25_code, 4, some .boolean),
  (⟨"ProgramSlicesModel", "put", "([JII)V"⟩, prog_12_method_28_code, 3, none),
  (⟨"ProgramSlicesModel", "summaries", "(I)Z"⟩, prog_12_method_30_code, 8, some .boolean),
  (⟨"ProgramSlicesModel", "single", "(I)V"⟩, prog_12_method_31_code, 3, none),
  (⟨"ProgramSlicesModel", "flood", "([J[JZ)V"⟩, prog_12_method_32_code, 10, none),
  (⟨"ProgramSlicesModel", "has", "([JII)Z"⟩, prog_12_method_27_code, 3, some .boolean),
  (⟨"ProgramSlicesModel", "touches", "([J[JI)Z"⟩, prog_12_method_33_code, 7, some .boolean),
  (⟨"ProgramSlicesModel", "depends", "(II)I"⟩, prog_12_method_36_code, 9, some .int),
  (⟨"ProgramSlicesModel", "summary", "(III)Z"⟩, prog_12_method_37_code, 4, some .boolean),
  (⟨"ProgramSlicesModel", "slice", "(IZ)I"⟩, prog_12_method_38_code, 4, some .int),
  (⟨"ProgramSlicesModel", "backward", "(I)V"⟩, prog_12_method_34_code, 2, none),
  (⟨"ProgramSlicesModel", "instructions", "([J)I"⟩, prog_12_method_35_code, 4, some .int),
  (⟨"ProgramSlicesModel", "fit", "()I"⟩, prog_12_method_40_code, 4, some .int),
  (⟨"ProgramSlicesModel", "wanting", "()I"⟩, prog_12_method_39_code, 4, some .int),
  (⟨"ProgramSlicesModel", "sliced", "(I)Z"⟩, prog_12_method_41_code, 2, some .boolean),
  (⟨"ProgramSlicesModel", "input", "(II)Z"⟩, prog_12_method_42_code, 3, some .boolean),
  (⟨"ProgramSlicesModel", "run", "(ZI)I"⟩, prog_12_method_43_code, 6, some .int),
  (⟨"ProgramSlicesModel", "leave", "()I"⟩, prog_12_method_47_code, 3, some .int),
  (⟨"ProgramSlicesModel", "x", "(I)I"⟩, prog_12_method_44_code, 2, some .int),
  (⟨"ProgramSlicesModel", "become", "(II)V"⟩, prog_12_method_45_code, 3, none),
  (⟨"ProgramSlicesModel", "enter", "(I)V"⟩, prog_12_method_46_code, 4, none),
  (⟨"ProgramSlicesModel", "act", "(I)I"⟩, prog_12_method_49_code, 5, some .int),
  (⟨"ProgramSlicesModel", "computed", "(III)I"⟩, prog_12_method_50_code, 4, some .int),
  (⟨"ProgramSlicesModel", "saw", "(II)V"⟩, prog_12_method_48_code, 3, none),
  (⟨"ProgramSlicesModel", "steps", "()I"⟩, prog_12_method_51_code, 1, some .int),
  (⟨"ProgramSlicesModel", "seen", "(I)I"⟩, prog_12_method_52_code, 2, some .int),
  (⟨"ProgramSlicesModel", "written", "(II)I"⟩, prog_12_method_53_code, 3, some .int),
  (⟨"ProgramSlicesModel", "levels", "(I)Z"⟩, prog_12_method_54_code, 3, some .boolean),
  (⟨"ProgramSlicesModel", "below", "(II)Z"⟩, prog_12_method_56_code, 6, some .boolean),
  (⟨"ProgramSlicesModel", "isLevel", "(I)Z"⟩, prog_12_method_55_code, 2, some .boolean),
  (⟨"ProgramSlicesModel", "label", "(ZII)Z"⟩, prog_12_method_57_code, 4, some .boolean),
  (⟨"ProgramSlicesModel", "lattice", "()I"⟩, prog_12_method_61_code, 6, some .int),
  (⟨"ProgramSlicesModel", "under", "(II)Z"⟩, prog_12_method_58_code, 3, some .boolean),
  (⟨"ProgramSlicesModel", "join", "(III)Z"⟩, prog_12_method_59_code, 6, some .boolean),
  (⟨"ProgramSlicesModel", "bottom", "()I"⟩, prog_12_method_60_code, 4, some .int),
  (⟨"ProgramSlicesModel", "check", "()I"⟩, prog_12_method_63_code, 1, some .int),
  (⟨"ProgramSlicesModel", "search", "(I)I"⟩, prog_12_method_62_code, 6, some .int),
  (⟨"ProgramSlicesModel", "flow", "(I)I"⟩, prog_12_method_64_code, 3, some .int)]
def tb_m (j : Nat) : tb_Q := tb_ml.getD j (⟨"", "", ""⟩, ⟨#[]⟩, 0, none)
def tb_ys (j : Nat) : MethodName := (tb_m j).1
def tb_ws (j : Nat) : List Cond := Cond.code (tb_m j).1 (tb_m j).2.1 (tb_m j).2.2.1 (tb_m j).2.2.2 :: tb_W
def dp_lk {α : Type} : List (Nat × α) → Nat → Option α
  | [], _ => none
  | (q, a) :: t, i => bif Nat.beq q i then some a else dp_lk t i
theorem dp_lk_mem {α : Type} {l : List (Nat × α)} {i : Nat} {a : α} (h : dp_lk l i = some a) : (i, a) ∈ l := by
  induction l with
  | nil => cases h
  | cons x t ih =>
    obtain ⟨q, b⟩ := x
    have h : (bif Nat.beq q i then some b else dp_lk t i) = some a := h
    cases hb : Nat.beq q i with
    | false => rw [hb] at h; exact List.mem_cons_of_mem _ (ih h)
    | true =>
      rw [hb] at h
      have e1 := dp_beq hb
      have e2 : b = a := Option.some.inj h
      rw [e1, e2]
      exact List.mem_cons_self
end
section
theorem tb_w0 : Cond.fieldLink "ProgramSlices" 187 "ProgramSlices$Machine" "log" "LProgramSlices$Log;" ∈ tb_W := tb_in (i := 203) (by decide +kernel) (by decide +kernel)
theorem tb_w1 : Cond.fieldLink "ProgramSlices" 12 "ProgramSlices" "code" "LProgramSlices$Code;" ∈ tb_W := tb_in (i := 303) (by decide +kernel) (by decide +kernel)
theorem tb_w2 : Cond.fieldLink "ProgramSlices" 21 "ProgramSlices" "dependences" "LProgramSlices$Dependences;" ∈ tb_W := tb_in (i := 304) (by decide +kernel) (by decide +kernel)
theorem tb_w3 : Cond.fieldLink "ProgramSlices" 30 "ProgramSlices" "walk" "LProgramSlices$Walk;" ∈ tb_W := tb_in (i := 305) (by decide +kernel) (by decide +kernel)
theorem tb_w4 : Cond.fieldLink "ProgramSlices" 37 "ProgramSlices" "machine" "LProgramSlices$Machine;" ∈ tb_W := tb_in (i := 306) (by decide +kernel) (by decide +kernel)
theorem tb_w5 : Cond.fieldLink "ProgramSlices" 44 "ProgramSlices" "order" "LProgramSlices$Order;" ∈ tb_W := tb_in (i := 307) (by decide +kernel) (by decide +kernel)
theorem tb_w6 : Cond.fieldLink "ProgramSlices" 53 "ProgramSlices" "flows" "LProgramSlices$Flows;" ∈ tb_W := tb_in (i := 308) (by decide +kernel) (by decide +kernel)
theorem tb_w7 : Cond.fieldLink "ProgramSlices" 60 "ProgramSlices" "current" "LProgramSlices$Slice;" ∈ tb_W := tb_in (i := 309) (by decide +kernel) (by decide +kernel)
theorem tb_w8 : Cond.fieldLink "ProgramSlices" 64 "ProgramSlices" "built" "Z" ∈ tb_W := tb_in (i := 310) (by decide +kernel) (by decide +kernel)
theorem tb_w9 : Cond.code ⟨"ProgramSlices$Code", "<init>", "()V"⟩ prog_2_method_1_code 1 (none) ∈ tb_W := tb_in (i := 26) (by decide +kernel) (by decide +kernel)
theorem tb_w10 : Cond.initialized "ProgramSlices$Code" ∈ tb_W := tb_in (i := 2) (by decide +kernel) (by decide +kernel)
theorem tb_w11 : Cond.instanceMethod ⟨"ProgramSlices$Code", "<init>", "()V"⟩ ∈ tb_W := tb_in (i := 25) (by decide +kernel) (by decide +kernel)
theorem tb_w12 : Cond.code ⟨"ProgramSlices$Dependences", "<init>", "(LProgramSlices$Code;)V"⟩ prog_3_method_1_code 2 (none) ∈ tb_W := tb_in (i := 105) (by decide +kernel) (by decide +kernel)
theorem tb_w13 : Cond.initialized "ProgramSlices$Dependences" ∈ tb_W := tb_in (i := 3) (by decide +kernel) (by decide +kernel)
theorem tb_w14 : Cond.methodLink "ProgramSlices" 18 ⟨"ProgramSlices$Dependences", "<init>", "(LProgramSlices$Code;)V"⟩ ∈ tb_W := tb_in (i := 103) (by decide +kernel) (by decide +kernel)
theorem tb_w15 : Cond.instanceMethod ⟨"ProgramSlices$Dependences", "<init>", "(LProgramSlices$Code;)V"⟩ ∈ tb_W := tb_in (i := 104) (by decide +kernel) (by decide +kernel)
theorem tb_w16 : Cond.code ⟨"ProgramSlices$Walk", "<init>", "(LProgramSlices$Code;LProgramSlices$Dependences;)V"⟩ prog_9_method_1_code 3 (none) ∈ tb_W := tb_in (i := 159) (by decide +kernel) (by decide +kernel)
theorem tb_w17 : Cond.initialized "ProgramSlices$Walk" ∈ tb_W := tb_in (i := 5) (by decide +kernel) (by decide +kernel)
theorem tb_w18 : Cond.methodLink "ProgramSlices" 27 ⟨"ProgramSlices$Walk", "<init>", "(LProgramSlices$Code;LProgramSlices$Dependences;)V"⟩ ∈ tb_W := tb_in (i := 157) (by decide +kernel) (by decide +kernel)
theorem tb_w19 : Cond.instanceMethod ⟨"ProgramSlices$Walk", "<init>", "(LProgramSlices$Code;LProgramSlices$Dependences;)V"⟩ ∈ tb_W := tb_in (i := 158) (by decide +kernel) (by decide +kernel)
theorem tb_w20 : Cond.code ⟨"ProgramSlices$Machine", "<init>", "(LProgramSlices$Code;)V"⟩ prog_6_method_1_code 2 (none) ∈ tb_W := tb_in (i := 181) (by decide +kernel) (by decide +kernel)
theorem tb_w21 : Cond.initialized "ProgramSlices$Machine" ∈ tb_W := tb_in (i := 6) (by decide +kernel) (by decide +kernel)
theorem tb_w22 : Cond.methodLink "ProgramSlices" 36 ⟨"ProgramSlices$Machine", "<init>", "(LProgramSlices$Code;)V"⟩ ∈ tb_W := tb_in (i := 179) (by decide +kernel) (by decide +kernel)
theorem tb_w23 : Cond.instanceMethod ⟨"ProgramSlices$Machine", "<init>", "(LProgramSlices$Code;)V"⟩ ∈ tb_W := tb_in (i := 180) (by decide +kernel) (by decide +kernel)
theorem tb_w24 : Cond.code ⟨"ProgramSlices$Order", "<init>", "()V"⟩ prog_7_method_1_code 1 (none) ∈ tb_W := tb_in (i := 253) (by decide +kernel) (by decide +kernel)
theorem tb_w25 : Cond.initialized "ProgramSlices$Order" ∈ tb_W := tb_in (i := 8) (by decide +kernel) (by decide +kernel)
theorem tb_w26 : Cond.methodLink "ProgramSlices" 43 ⟨"ProgramSlices$Order", "<init>", "()V"⟩ ∈ tb_W := tb_in (i := 251) (by decide +kernel) (by decide +kernel)
theorem tb_w27 : Cond.instanceMethod ⟨"ProgramSlices$Order", "<init>", "()V"⟩ ∈ tb_W := tb_in (i := 252) (by decide +kernel) (by decide +kernel)
theorem tb_w28 : Cond.code ⟨"ProgramSlices$Flows", "<init>", "(LProgramSlices$Code;LProgramSlices$Order;)V"⟩ prog_4_method_1_code 3 (none) ∈ tb_W := tb_in (i := 272) (by decide +kernel) (by decide +kernel)
theorem tb_w29 : Cond.initialized "ProgramSlices$Flows" ∈ tb_W := tb_in (i := 9) (by decide +kernel) (by decide +kernel)
theorem tb_w30 : Cond.methodLink "ProgramSlices" 50 ⟨"ProgramSlices$Flows", "<init>", "(LProgramSlices$Code;LProgramSlices$Order;)V"⟩ ∈ tb_W := tb_in (i := 270) (by decide +kernel) (by decide +kernel)
theorem tb_w31 : Cond.instanceMethod ⟨"ProgramSlices$Flows", "<init>", "(LProgramSlices$Code;LProgramSlices$Order;)V"⟩ ∈ tb_W := tb_in (i := 271) (by decide +kernel) (by decide +kernel)
theorem tb_w32 : Cond.code ⟨"ProgramSlices$Slice", "<init>", "()V"⟩ prog_8_method_1_code 1 (none) ∈ tb_W := tb_in (i := 288) (by decide +kernel) (by decide +kernel)
theorem tb_w33 : Cond.initialized "ProgramSlices$Slice" ∈ tb_W := tb_in (i := 10) (by decide +kernel) (by decide +kernel)
theorem tb_w34 : Cond.instanceMethod ⟨"ProgramSlices$Slice", "<init>", "()V"⟩ ∈ tb_W := tb_in (i := 287) (by decide +kernel) (by decide +kernel)
theorem tb_w35 : Cond.methodLink "ProgramSlices" 68 ⟨"ProgramSlices$Code", "hasRoom", "()Z"⟩ ∈ tb_W := tb_in (i := 332) (by decide +kernel) (by decide +kernel)
theorem tb_w36 : Cond.instanceMethod ⟨"ProgramSlices$Code", "hasRoom", "()Z"⟩ ∈ tb_W := tb_in (i := 333) (by decide +kernel) (by decide +kernel)
theorem tb_w37 : Cond.selects "ProgramSlices$Code" ⟨"ProgramSlices$Code", "hasRoom", "()Z"⟩ ⟨"ProgramSlices$Code", "hasRoom", "()Z"⟩ ∈ tb_W := tb_in (i := 334) (by decide +kernel) (by decide +kernel)
theorem tb_w38 : Cond.code ⟨"ProgramSlices$Code", "hasRoom", "()Z"⟩ prog_2_method_2_code 1 (some .boolean) ∈ tb_W := tb_in (i := 335) (by decide +kernel) (by decide +kernel)
theorem tb_w39 : Cond.methodLink "ProgramSlices" 72 ⟨"ProgramSlices$Code", "isAllowed", "(IIII)Z"⟩ ∈ tb_W := tb_in (i := 336) (by decide +kernel) (by decide +kernel)
theorem tb_w40 : Cond.instanceMethod ⟨"ProgramSlices$Code", "isAllowed", "(IIII)Z"⟩ ∈ tb_W := tb_in (i := 337) (by decide +kernel) (by decide +kernel)
theorem tb_w41 : Cond.selects "ProgramSlices$Code" ⟨"ProgramSlices$Code", "isAllowed", "(IIII)Z"⟩ ⟨"ProgramSlices$Code", "isAllowed", "(IIII)Z"⟩ ∈ tb_W := tb_in (i := 338) (by decide +kernel) (by decide +kernel)
theorem tb_w42 : Cond.code ⟨"ProgramSlices$Code", "isAllowed", "(IIII)Z"⟩ prog_2_method_3_code 5 (some .boolean) ∈ tb_W := tb_in (i := 339) (by decide +kernel) (by decide +kernel)
theorem tb_w43 : Cond.methodLink "ProgramSlices" 76 ⟨"ProgramSlices$Code", "append", "(IIII)I"⟩ ∈ tb_W := tb_in (i := 355) (by decide +kernel) (by decide +kernel)
theorem tb_w44 : Cond.instanceMethod ⟨"ProgramSlices$Code", "append", "(IIII)I"⟩ ∈ tb_W := tb_in (i := 356) (by decide +kernel) (by decide +kernel)
theorem tb_w45 : Cond.selects "ProgramSlices$Code" ⟨"ProgramSlices$Code", "append", "(IIII)I"⟩ ⟨"ProgramSlices$Code", "append", "(IIII)I"⟩ ∈ tb_W := tb_in (i := 357) (by decide +kernel) (by decide +kernel)
theorem tb_w46 : Cond.code ⟨"ProgramSlices$Code", "append", "(IIII)I"⟩ prog_2_method_8_code 5 (some .int) ∈ tb_W := tb_in (i := 358) (by decide +kernel) (by decide +kernel)
theorem tb_w47 : Cond.methodLink "ProgramSlices" 80 ⟨"ProgramSlices$Code", "wipe", "()V"⟩ ∈ tb_W := tb_in (i := 363) (by decide +kernel) (by decide +kernel)
theorem tb_w48 : Cond.instanceMethod ⟨"ProgramSlices$Code", "wipe", "()V"⟩ ∈ tb_W := tb_in (i := 364) (by decide +kernel) (by decide +kernel)
theorem tb_w49 : Cond.selects "ProgramSlices$Code" ⟨"ProgramSlices$Code", "wipe", "()V"⟩ ⟨"ProgramSlices$Code", "wipe", "()V"⟩ ∈ tb_W := tb_in (i := 365) (by decide +kernel) (by decide +kernel)
theorem tb_w50 : Cond.code ⟨"ProgramSlices$Code", "wipe", "()V"⟩ prog_2_method_9_code 1 (none) ∈ tb_W := tb_in (i := 366) (by decide +kernel) (by decide +kernel)
theorem tb_w51 : Cond.methodLink "ProgramSlices" 83 ⟨"ProgramSlices$Slice", "drop", "()V"⟩ ∈ tb_W := tb_in (i := 367) (by decide +kernel) (by decide +kernel)
theorem tb_w52 : Cond.instanceMethod ⟨"ProgramSlices$Slice", "drop", "()V"⟩ ∈ tb_W := tb_in (i := 368) (by decide +kernel) (by decide +kernel)
theorem tb_w53 : Cond.selects "ProgramSlices$Slice" ⟨"ProgramSlices$Slice", "drop", "()V"⟩ ⟨"ProgramSlices$Slice", "drop", "()V"⟩ ∈ tb_W := tb_in (i := 369) (by decide +kernel) (by decide +kernel)
theorem tb_w54 : Cond.code ⟨"ProgramSlices$Slice", "drop", "()V"⟩ prog_8_method_2_code 1 (none) ∈ tb_W := tb_in (i := 370) (by decide +kernel) (by decide +kernel)
theorem tb_w55 : Cond.methodLink "ProgramSlices" 86 ⟨"ProgramSlices$Machine", "forget", "()V"⟩ ∈ tb_W := tb_in (i := 371) (by decide +kernel) (by decide +kernel)
theorem tb_w56 : Cond.instanceMethod ⟨"ProgramSlices$Machine", "forget", "()V"⟩ ∈ tb_W := tb_in (i := 372) (by decide +kernel) (by decide +kernel)
theorem tb_w57 : Cond.selects "ProgramSlices$Machine" ⟨"ProgramSlices$Machine", "forget", "()V"⟩ ⟨"ProgramSlices$Machine", "forget", "()V"⟩ ∈ tb_W := tb_in (i := 373) (by decide +kernel) (by decide +kernel)
theorem tb_w58 : Cond.code ⟨"ProgramSlices$Machine", "forget", "()V"⟩ prog_6_method_3_code 1 (none) ∈ tb_W := tb_in (i := 374) (by decide +kernel) (by decide +kernel)
theorem tb_w59 : Cond.methodLink "ProgramSlices" 89 ⟨"ProgramSlices$Code", "layOut", "()I"⟩ ∈ tb_W := tb_in (i := 386) (by decide +kernel) (by decide +kernel)
theorem tb_w60 : Cond.instanceMethod ⟨"ProgramSlices$Code", "layOut", "()I"⟩ ∈ tb_W := tb_in (i := 387) (by decide +kernel) (by decide +kernel)
theorem tb_w61 : Cond.selects "ProgramSlices$Code" ⟨"ProgramSlices$Code", "layOut", "()I"⟩ ⟨"ProgramSlices$Code", "layOut", "()I"⟩ ∈ tb_W := tb_in (i := 388) (by decide +kernel) (by decide +kernel)
theorem tb_w62 : Cond.code ⟨"ProgramSlices$Code", "layOut", "()I"⟩ prog_2_method_15_code 2 (some .int) ∈ tb_W := tb_in (i := 389) (by decide +kernel) (by decide +kernel)
theorem tb_w63 : Cond.methodLink "ProgramSlices" 93 ⟨"ProgramSlices$Dependences", "workOut", "()V"⟩ ∈ tb_W := tb_in (i := 422) (by decide +kernel) (by decide +kernel)
theorem tb_w64 : Cond.instanceMethod ⟨"ProgramSlices$Dependences", "workOut", "()V"⟩ ∈ tb_W := tb_in (i := 423) (by decide +kernel) (by decide +kernel)
theorem tb_w65 : Cond.selects "ProgramSlices$Dependences" ⟨"ProgramSlices$Dependences", "workOut", "()V"⟩ ⟨"ProgramSlices$Dependences", "workOut", "()V"⟩ ∈ tb_W := tb_in (i := 424) (by decide +kernel) (by decide +kernel)
theorem tb_w66 : Cond.code ⟨"ProgramSlices$Dependences", "workOut", "()V"⟩ prog_3_method_8_code 2 (none) ∈ tb_W := tb_in (i := 425) (by decide +kernel) (by decide +kernel)
theorem tb_w67 : Cond.methodLink "ProgramSlices" 96 ⟨"ProgramSlices$Walk", "summarise", "()V"⟩ ∈ tb_W := tb_in (i := 523) (by decide +kernel) (by decide +kernel)
theorem tb_w68 : Cond.instanceMethod ⟨"ProgramSlices$Walk", "summarise", "()V"⟩ ∈ tb_W := tb_in (i := 524) (by decide +kernel) (by decide +kernel)
theorem tb_w69 : Cond.selects "ProgramSlices$Walk" ⟨"ProgramSlices$Walk", "summarise", "()V"⟩ ⟨"ProgramSlices$Walk", "summarise", "()V"⟩ ∈ tb_W := tb_in (i := 525) (by decide +kernel) (by decide +kernel)
theorem tb_w70 : Cond.code ⟨"ProgramSlices$Walk", "summarise", "()V"⟩ prog_9_method_4_code 5 (none) ∈ tb_W := tb_in (i := 526) (by decide +kernel) (by decide +kernel)
theorem tb_w71 : Cond.methodLink "ProgramSlices" 99 ⟨"ProgramSlices$Flows", "trace", "(LProgramSlices$Walk;)V"⟩ ∈ tb_W := tb_in (i := 588) (by decide +kernel) (by decide +kernel)
theorem tb_w72 : Cond.instanceMethod ⟨"ProgramSlices$Flows", "trace", "(LProgramSlices$Walk;)V"⟩ ∈ tb_W := tb_in (i := 589) (by decide +kernel) (by decide +kernel)
theorem tb_w73 : Cond.selects "ProgramSlices$Flows" ⟨"ProgramSlices$Flows", "trace", "(LProgramSlices$Walk;)V"⟩ ⟨"ProgramSlices$Flows", "trace", "(LProgramSlices$Walk;)V"⟩ ∈ tb_W := tb_in (i := 590) (by decide +kernel) (by decide +kernel)
theorem tb_w74 : Cond.code ⟨"ProgramSlices$Flows", "trace", "(LProgramSlices$Walk;)V"⟩ prog_4_method_2_code 3 (none) ∈ tb_W := tb_in (i := 591) (by decide +kernel) (by decide +kernel)
theorem tb_w75 : Cond.methodLink "ProgramSlices" 103 ⟨"ProgramSlices$Order", "reset", "(I)V"⟩ ∈ tb_W := tb_in (i := 608) (by decide +kernel) (by decide +kernel)
theorem tb_w76 : Cond.instanceMethod ⟨"ProgramSlices$Order", "reset", "(I)V"⟩ ∈ tb_W := tb_in (i := 609) (by decide +kernel) (by decide +kernel)
theorem tb_w77 : Cond.selects "ProgramSlices$Order" ⟨"ProgramSlices$Order", "reset", "(I)V"⟩ ⟨"ProgramSlices$Order", "reset", "(I)V"⟩ ∈ tb_W := tb_in (i := 610) (by decide +kernel) (by decide +kernel)
theorem tb_w78 : Cond.code ⟨"ProgramSlices$Order", "reset", "(I)V"⟩ prog_7_method_2_code 3 (none) ∈ tb_W := tb_in (i := 611) (by decide +kernel) (by decide +kernel)
theorem tb_w79 : Cond.methodLink "ProgramSlices" 107 ⟨"ProgramSlices$Order", "isLevel", "(I)Z"⟩ ∈ tb_W := tb_in (i := 617) (by decide +kernel) (by decide +kernel)
theorem tb_w80 : Cond.instanceMethod ⟨"ProgramSlices$Order", "isLevel", "(I)Z"⟩ ∈ tb_W := tb_in (i := 618) (by decide +kernel) (by decide +kernel)
theorem tb_w81 : Cond.selects "ProgramSlices$Order" ⟨"ProgramSlices$Order", "isLevel", "(I)Z"⟩ ⟨"ProgramSlices$Order", "isLevel", "(I)Z"⟩ ∈ tb_W := tb_in (i := 619) (by decide +kernel) (by decide +kernel)
theorem tb_w82 : Cond.code ⟨"ProgramSlices$Order", "isLevel", "(I)Z"⟩ prog_7_method_3_code 2 (some .boolean) ∈ tb_W := tb_in (i := 620) (by decide +kernel) (by decide +kernel)
theorem tb_w83 : Cond.methodLink "ProgramSlices" 111 ⟨"ProgramSlices$Order", "tell", "(II)V"⟩ ∈ tb_W := tb_in (i := 621) (by decide +kernel) (by decide +kernel)
theorem tb_w84 : Cond.instanceMethod ⟨"ProgramSlices$Order", "tell", "(II)V"⟩ ∈ tb_W := tb_in (i := 622) (by decide +kernel) (by decide +kernel)
theorem tb_w85 : Cond.selects "ProgramSlices$Order" ⟨"ProgramSlices$Order", "tell", "(II)V"⟩ ⟨"ProgramSlices$Order", "tell", "(II)V"⟩ ∈ tb_W := tb_in (i := 623) (by decide +kernel) (by decide +kernel)
theorem tb_w86 : Cond.code ⟨"ProgramSlices$Order", "tell", "(II)V"⟩ prog_7_method_4_code 4 (none) ∈ tb_W := tb_in (i := 624) (by decide +kernel) (by decide +kernel)
theorem tb_w87 : Cond.methodLink "ProgramSlices" 115 ⟨"ProgramSlices", "isOneOfFour", "(I)Z"⟩ ∈ tb_W := tb_in (i := 634) (by decide +kernel) (by decide +kernel)
theorem tb_w88 : Cond.static ⟨"ProgramSlices", "isOneOfFour", "(I)Z"⟩ ∈ tb_W := tb_in (i := 347) (by decide +kernel) (by decide +kernel)
theorem tb_w89 : Cond.initialized "ProgramSlices" ∈ tb_W := tb_in (i := 1) (by decide +kernel) (by decide +kernel)
theorem tb_w90 : Cond.code ⟨"ProgramSlices", "isOneOfFour", "(I)Z"⟩ prog_1_method_22_code 1 (some .boolean) ∈ tb_W := tb_in (i := 348) (by decide +kernel) (by decide +kernel)
theorem tb_w91 : Cond.methodLink "ProgramSlices" 118 ⟨"ProgramSlices$Order", "mark", "(ZII)V"⟩ ∈ tb_W := tb_in (i := 635) (by decide +kernel) (by decide +kernel)
theorem tb_w92 : Cond.instanceMethod ⟨"ProgramSlices$Order", "mark", "(ZII)V"⟩ ∈ tb_W := tb_in (i := 636) (by decide +kernel) (by decide +kernel)
theorem tb_w93 : Cond.selects "ProgramSlices$Order" ⟨"ProgramSlices$Order", "mark", "(ZII)V"⟩ ⟨"ProgramSlices$Order", "mark", "(ZII)V"⟩ ∈ tb_W := tb_in (i := 637) (by decide +kernel) (by decide +kernel)
theorem tb_w94 : Cond.code ⟨"ProgramSlices$Order", "mark", "(ZII)V"⟩ prog_7_method_6_code 4 (none) ∈ tb_W := tb_in (i := 638) (by decide +kernel) (by decide +kernel)
theorem tb_w95 : Cond.methodLink "ProgramSlices" 122 ⟨"ProgramSlices$Order", "fault", "()I"⟩ ∈ tb_W := tb_in (i := 643) (by decide +kernel) (by decide +kernel)
theorem tb_w96 : Cond.instanceMethod ⟨"ProgramSlices$Order", "fault", "()I"⟩ ∈ tb_W := tb_in (i := 644) (by decide +kernel) (by decide +kernel)
theorem tb_w97 : Cond.selects "ProgramSlices$Order" ⟨"ProgramSlices$Order", "fault", "()I"⟩ ⟨"ProgramSlices$Order", "fault", "()I"⟩ ∈ tb_W := tb_in (i := 645) (by decide +kernel) (by decide +kernel)
theorem tb_w98 : Cond.code ⟨"ProgramSlices$Order", "fault", "()I"⟩ prog_7_method_9_code 1 (some .int) ∈ tb_W := tb_in (i := 646) (by decide +kernel) (by decide +kernel)
theorem tb_w99 : Cond.methodLink "ProgramSlices" 125 ⟨"ProgramSlices$Code", "isNode", "(I)Z"⟩ ∈ tb_W := tb_in (i := 667) (by decide +kernel) (by decide +kernel)
theorem tb_w100 : Cond.instanceMethod ⟨"ProgramSlices$Code", "isNode", "(I)Z"⟩ ∈ tb_W := tb_in (i := 459) (by decide +kernel) (by decide +kernel)
theorem tb_w101 : Cond.selects "ProgramSlices$Code" ⟨"ProgramSlices$Code", "isNode", "(I)Z"⟩ ⟨"ProgramSlices$Code", "isNode", "(I)Z"⟩ ∈ tb_W := tb_in (i := 460) (by decide +kernel) (by decide +kernel)
theorem tb_w102 : Cond.code ⟨"ProgramSlices$Code", "isNode", "(I)Z"⟩ prog_2_method_11_code 2 (some .boolean) ∈ tb_W := tb_in (i := 461) (by decide +kernel) (by decide +kernel)
theorem tb_w103 : Cond.methodLink "ProgramSlices" 128 ⟨"ProgramSlices$Dependences", "kindsBetween", "(II)I"⟩ ∈ tb_W := tb_in (i := 668) (by decide +kernel) (by decide +kernel)
theorem tb_w104 : Cond.instanceMethod ⟨"ProgramSlices$Dependences", "kindsBetween", "(II)I"⟩ ∈ tb_W := tb_in (i := 669) (by decide +kernel) (by decide +kernel)
theorem tb_w105 : Cond.selects "ProgramSlices$Dependences" ⟨"ProgramSlices$Dependences", "kindsBetween", "(II)I"⟩ ⟨"ProgramSlices$Dependences", "kindsBetween", "(II)I"⟩ ∈ tb_W := tb_in (i := 670) (by decide +kernel) (by decide +kernel)
theorem tb_w106 : Cond.code ⟨"ProgramSlices$Dependences", "kindsBetween", "(II)I"⟩ prog_3_method_4_code 5 (some .int) ∈ tb_W := tb_in (i := 671) (by decide +kernel) (by decide +kernel)
theorem tb_w107 : Cond.methodLink "ProgramSlices" 132 ⟨"ProgramSlices$Code", "isCall", "(I)Z"⟩ ∈ tb_W := tb_in (i := 676) (by decide +kernel) (by decide +kernel)
theorem tb_w108 : Cond.instanceMethod ⟨"ProgramSlices$Code", "isCall", "(I)Z"⟩ ∈ tb_W := tb_in (i := 415) (by decide +kernel) (by decide +kernel)
theorem tb_w109 : Cond.selects "ProgramSlices$Code" ⟨"ProgramSlices$Code", "isCall", "(I)Z"⟩ ⟨"ProgramSlices$Code", "isCall", "(I)Z"⟩ ∈ tb_W := tb_in (i := 416) (by decide +kernel) (by decide +kernel)
theorem tb_w110 : Cond.code ⟨"ProgramSlices$Code", "isCall", "(I)Z"⟩ prog_2_method_12_code 2 (some .boolean) ∈ tb_W := tb_in (i := 417) (by decide +kernel) (by decide +kernel)
theorem tb_w111 : Cond.methodLink "ProgramSlices" 135 ⟨"ProgramSlices$Code", "callee", "(I)I"⟩ ∈ tb_W := tb_in (i := 677) (by decide +kernel) (by decide +kernel)
theorem tb_w112 : Cond.instanceMethod ⟨"ProgramSlices$Code", "callee", "(I)I"⟩ ∈ tb_W := tb_in (i := 419) (by decide +kernel) (by decide +kernel)
theorem tb_w113 : Cond.selects "ProgramSlices$Code" ⟨"ProgramSlices$Code", "callee", "(I)I"⟩ ⟨"ProgramSlices$Code", "callee", "(I)I"⟩ ∈ tb_W := tb_in (i := 420) (by decide +kernel) (by decide +kernel)
theorem tb_w114 : Cond.code ⟨"ProgramSlices$Code", "callee", "(I)I"⟩ prog_2_method_13_code 2 (some .int) ∈ tb_W := tb_in (i := 421) (by decide +kernel) (by decide +kernel)
theorem tb_w115 : Cond.methodLink "ProgramSlices" 139 ⟨"ProgramSlices$Dependences", "isSummary", "(III)Z"⟩ ∈ tb_W := tb_in (i := 678) (by decide +kernel) (by decide +kernel)
theorem tb_w116 : Cond.instanceMethod ⟨"ProgramSlices$Dependences", "isSummary", "(III)Z"⟩ ∈ tb_W := tb_in (i := 577) (by decide +kernel) (by decide +kernel)
theorem tb_w117 : Cond.selects "ProgramSlices$Dependences" ⟨"ProgramSlices$Dependences", "isSummary", "(III)Z"⟩ ⟨"ProgramSlices$Dependences", "isSummary", "(III)Z"⟩ ∈ tb_W := tb_in (i := 578) (by decide +kernel) (by decide +kernel)
theorem tb_w118 : Cond.code ⟨"ProgramSlices$Dependences", "isSummary", "(III)Z"⟩ prog_3_method_5_code 4 (some .boolean) ∈ tb_W := tb_in (i := 579) (by decide +kernel) (by decide +kernel)
theorem tb_w119 : Cond.methodLink "ProgramSlices" 143 ⟨"ProgramSlices$Walk", "takeSlice", "(IZ)V"⟩ ∈ tb_W := tb_in (i := 683) (by decide +kernel) (by decide +kernel)
theorem tb_w120 : Cond.instanceMethod ⟨"ProgramSlices$Walk", "takeSlice", "(IZ)V"⟩ ∈ tb_W := tb_in (i := 597) (by decide +kernel) (by decide +kernel)
theorem tb_w121 : Cond.selects "ProgramSlices$Walk" ⟨"ProgramSlices$Walk", "takeSlice", "(IZ)V"⟩ ⟨"ProgramSlices$Walk", "takeSlice", "(IZ)V"⟩ ∈ tb_W := tb_in (i := 598) (by decide +kernel) (by decide +kernel)
theorem tb_w122 : Cond.code ⟨"ProgramSlices$Walk", "takeSlice", "(IZ)V"⟩ prog_9_method_3_code 3 (none) ∈ tb_W := tb_in (i := 599) (by decide +kernel) (by decide +kernel)
theorem tb_w123 : Cond.methodLink "ProgramSlices" 147 ⟨"ProgramSlices$Slice", "take", "(IZLProgramSlices$Walk;)V"⟩ ∈ tb_W := tb_in (i := 684) (by decide +kernel) (by decide +kernel)
theorem tb_w124 : Cond.instanceMethod ⟨"ProgramSlices$Slice", "take", "(IZLProgramSlices$Walk;)V"⟩ ∈ tb_W := tb_in (i := 685) (by decide +kernel) (by decide +kernel)
theorem tb_w125 : Cond.selects "ProgramSlices$Slice" ⟨"ProgramSlices$Slice", "take", "(IZLProgramSlices$Walk;)V"⟩ ⟨"ProgramSlices$Slice", "take", "(IZLProgramSlices$Walk;)V"⟩ ∈ tb_W := tb_in (i := 686) (by decide +kernel) (by decide +kernel)
theorem tb_w126 : Cond.code ⟨"ProgramSlices$Slice", "take", "(IZLProgramSlices$Walk;)V"⟩ prog_8_method_3_code 4 (none) ∈ tb_W := tb_in (i := 687) (by decide +kernel) (by decide +kernel)
theorem tb_w127 : Cond.methodLink "ProgramSlices" 151 ⟨"ProgramSlices$Slice", "size", "()I"⟩ ∈ tb_W := tb_in (i := 694) (by decide +kernel) (by decide +kernel)
theorem tb_w128 : Cond.instanceMethod ⟨"ProgramSlices$Slice", "size", "()I"⟩ ∈ tb_W := tb_in (i := 695) (by decide +kernel) (by decide +kernel)
theorem tb_w129 : Cond.selects "ProgramSlices$Slice" ⟨"ProgramSlices$Slice", "size", "()I"⟩ ⟨"ProgramSlices$Slice", "size", "()I"⟩ ∈ tb_W := tb_in (i := 696) (by decide +kernel) (by decide +kernel)
theorem tb_w130 : Cond.code ⟨"ProgramSlices$Slice", "size", "()I"⟩ prog_8_method_8_code 1 (some .int) ∈ tb_W := tb_in (i := 697) (by decide +kernel) (by decide +kernel)
theorem tb_w131 : Cond.methodLink "ProgramSlices" 154 ⟨"ProgramSlices$Slice", "isBackward", "()Z"⟩ ∈ tb_W := tb_in (i := 708) (by decide +kernel) (by decide +kernel)
theorem tb_w132 : Cond.instanceMethod ⟨"ProgramSlices$Slice", "isBackward", "()Z"⟩ ∈ tb_W := tb_in (i := 709) (by decide +kernel) (by decide +kernel)
theorem tb_w133 : Cond.selects "ProgramSlices$Slice" ⟨"ProgramSlices$Slice", "isBackward", "()Z"⟩ ⟨"ProgramSlices$Slice", "isBackward", "()Z"⟩ ∈ tb_W := tb_in (i := 710) (by decide +kernel) (by decide +kernel)
theorem tb_w134 : Cond.code ⟨"ProgramSlices$Slice", "isBackward", "()Z"⟩ prog_8_method_5_code 1 (some .boolean) ∈ tb_W := tb_in (i := 711) (by decide +kernel) (by decide +kernel)
theorem tb_w135 : Cond.methodLink "ProgramSlices" 157 ⟨"ProgramSlices$Slice", "makeFit", "(LProgramSlices$Walk;LProgramSlices$Code;)V"⟩ ∈ tb_W := tb_in (i := 712) (by decide +kernel) (by decide +kernel)
theorem tb_w136 : Cond.instanceMethod ⟨"ProgramSlices$Slice", "makeFit", "(LProgramSlices$Walk;LProgramSlices$Code;)V"⟩ ∈ tb_W := tb_in (i := 713) (by decide +kernel) (by decide +kernel)
theorem tb_w137 : Cond.selects "ProgramSlices$Slice" ⟨"ProgramSlices$Slice", "makeFit", "(LProgramSlices$Walk;LProgramSlices$Code;)V"⟩ ⟨"ProgramSlices$Slice", "makeFit", "(LProgramSlices$Walk;LProgramSlices$Code;)V"⟩ ∈ tb_W := tb_in (i := 714) (by decide +kernel) (by decide +kernel)
theorem tb_w138 : Cond.code ⟨"ProgramSlices$Slice", "makeFit", "(LProgramSlices$Walk;LProgramSlices$Code;)V"⟩ prog_8_method_9_code 6 (none) ∈ tb_W := tb_in (i := 715) (by decide +kernel) (by decide +kernel)
theorem tb_w139 : Cond.methodLink "ProgramSlices" 161 ⟨"ProgramSlices$Slice", "isTaken", "()Z"⟩ ∈ tb_W := tb_in (i := 733) (by decide +kernel) (by decide +kernel)
theorem tb_w140 : Cond.instanceMethod ⟨"ProgramSlices$Slice", "isTaken", "()Z"⟩ ∈ tb_W := tb_in (i := 734) (by decide +kernel) (by decide +kernel)
theorem tb_w141 : Cond.selects "ProgramSlices$Slice" ⟨"ProgramSlices$Slice", "isTaken", "()Z"⟩ ⟨"ProgramSlices$Slice", "isTaken", "()Z"⟩ ∈ tb_W := tb_in (i := 735) (by decide +kernel) (by decide +kernel)
theorem tb_w142 : Cond.code ⟨"ProgramSlices$Slice", "isTaken", "()Z"⟩ prog_8_method_4_code 1 (some .boolean) ∈ tb_W := tb_in (i := 736) (by decide +kernel) (by decide +kernel)
theorem tb_w143 : Cond.methodLink "ProgramSlices" 164 ⟨"ProgramSlices$Code", "isThere", "(I)Z"⟩ ∈ tb_W := tb_in (i := 737) (by decide +kernel) (by decide +kernel)
theorem tb_w144 : Cond.instanceMethod ⟨"ProgramSlices$Code", "isThere", "(I)Z"⟩ ∈ tb_W := tb_in (i := 463) (by decide +kernel) (by decide +kernel)
theorem tb_w145 : Cond.selects "ProgramSlices$Code" ⟨"ProgramSlices$Code", "isThere", "(I)Z"⟩ ⟨"ProgramSlices$Code", "isThere", "(I)Z"⟩ ∈ tb_W := tb_in (i := 464) (by decide +kernel) (by decide +kernel)
theorem tb_w146 : Cond.code ⟨"ProgramSlices$Code", "isThere", "(I)Z"⟩ prog_2_method_10_code 2 (some .boolean) ∈ tb_W := tb_in (i := 465) (by decide +kernel) (by decide +kernel)
theorem tb_w147 : Cond.methodLink "ProgramSlices" 167 ⟨"ProgramSlices$Slice", "instructions", "()I"⟩ ∈ tb_W := tb_in (i := 738) (by decide +kernel) (by decide +kernel)
theorem tb_w148 : Cond.instanceMethod ⟨"ProgramSlices$Slice", "instructions", "()I"⟩ ∈ tb_W := tb_in (i := 739) (by decide +kernel) (by decide +kernel)
theorem tb_w149 : Cond.selects "ProgramSlices$Slice" ⟨"ProgramSlices$Slice", "instructions", "()I"⟩ ⟨"ProgramSlices$Slice", "instructions", "()I"⟩ ∈ tb_W := tb_in (i := 740) (by decide +kernel) (by decide +kernel)
theorem tb_w150 : Cond.code ⟨"ProgramSlices$Slice", "instructions", "()I"⟩ prog_8_method_7_code 1 (some .int) ∈ tb_W := tb_in (i := 741) (by decide +kernel) (by decide +kernel)
theorem tb_w151 : Cond.methodLink "ProgramSlices" 170 ⟨"ProgramSlices", "hasBit", "(II)Z"⟩ ∈ tb_W := tb_in (i := 742) (by decide +kernel) (by decide +kernel)
theorem tb_w152 : Cond.static ⟨"ProgramSlices", "hasBit", "(II)Z"⟩ ∈ tb_W := tb_in (i := 554) (by decide +kernel) (by decide +kernel)
theorem tb_w153 : Cond.code ⟨"ProgramSlices", "hasBit", "(II)Z"⟩ prog_1_method_23_code 2 (some .boolean) ∈ tb_W := tb_in (i := 555) (by decide +kernel) (by decide +kernel)
theorem tb_w154 : Cond.methodLink "ProgramSlices" 174 ⟨"ProgramSlices$Machine", "setInput", "(II)V"⟩ ∈ tb_W := tb_in (i := 747) (by decide +kernel) (by decide +kernel)
theorem tb_w155 : Cond.instanceMethod ⟨"ProgramSlices$Machine", "setInput", "(II)V"⟩ ∈ tb_W := tb_in (i := 748) (by decide +kernel) (by decide +kernel)
theorem tb_w156 : Cond.selects "ProgramSlices$Machine" ⟨"ProgramSlices$Machine", "setInput", "(II)V"⟩ ⟨"ProgramSlices$Machine", "setInput", "(II)V"⟩ ∈ tb_W := tb_in (i := 749) (by decide +kernel) (by decide +kernel)
theorem tb_w157 : Cond.code ⟨"ProgramSlices$Machine", "setInput", "(II)V"⟩ prog_6_method_2_code 3 (none) ∈ tb_W := tb_in (i := 750) (by decide +kernel) (by decide +kernel)
theorem tb_w158 : Cond.methodLink "ProgramSlices" 177 ⟨"ProgramSlices$Slice", "criterion", "()I"⟩ ∈ tb_W := tb_in (i := 755) (by decide +kernel) (by decide +kernel)
theorem tb_w159 : Cond.instanceMethod ⟨"ProgramSlices$Slice", "criterion", "()I"⟩ ∈ tb_W := tb_in (i := 756) (by decide +kernel) (by decide +kernel)
theorem tb_w160 : Cond.selects "ProgramSlices$Slice" ⟨"ProgramSlices$Slice", "criterion", "()I"⟩ ⟨"ProgramSlices$Slice", "criterion", "()I"⟩ ∈ tb_W := tb_in (i := 757) (by decide +kernel) (by decide +kernel)
theorem tb_w161 : Cond.code ⟨"ProgramSlices$Slice", "criterion", "()I"⟩ prog_8_method_6_code 1 (some .int) ∈ tb_W := tb_in (i := 758) (by decide +kernel) (by decide +kernel)
theorem tb_w162 : Cond.methodLink "ProgramSlices" 180 ⟨"ProgramSlices$Machine", "perform", "(III)I"⟩ ∈ tb_W := tb_in (i := 759) (by decide +kernel) (by decide +kernel)
theorem tb_w163 : Cond.instanceMethod ⟨"ProgramSlices$Machine", "perform", "(III)I"⟩ ∈ tb_W := tb_in (i := 760) (by decide +kernel) (by decide +kernel)
theorem tb_w164 : Cond.selects "ProgramSlices$Machine" ⟨"ProgramSlices$Machine", "perform", "(III)I"⟩ ⟨"ProgramSlices$Machine", "perform", "(III)I"⟩ ∈ tb_W := tb_in (i := 761) (by decide +kernel) (by decide +kernel)
theorem tb_w165 : Cond.code ⟨"ProgramSlices$Machine", "perform", "(III)I"⟩ prog_6_method_5_code 5 (some .int) ∈ tb_W := tb_in (i := 762) (by decide +kernel) (by decide +kernel)
theorem tb_w166 : Cond.methodLink "ProgramSlices" 184 ⟨"ProgramSlices$Machine", "stepsDone", "()I"⟩ ∈ tb_W := tb_in (i := 830) (by decide +kernel) (by decide +kernel)
theorem tb_w167 : Cond.instanceMethod ⟨"ProgramSlices$Machine", "stepsDone", "()I"⟩ ∈ tb_W := tb_in (i := 831) (by decide +kernel) (by decide +kernel)
theorem tb_w168 : Cond.selects "ProgramSlices$Machine" ⟨"ProgramSlices$Machine", "stepsDone", "()I"⟩ ⟨"ProgramSlices$Machine", "stepsDone", "()I"⟩ ∈ tb_W := tb_in (i := 832) (by decide +kernel) (by decide +kernel)
theorem tb_w169 : Cond.code ⟨"ProgramSlices$Machine", "stepsDone", "()I"⟩ prog_6_method_4_code 1 (some .int) ∈ tb_W := tb_in (i := 833) (by decide +kernel) (by decide +kernel)
theorem tb_w170 : Cond.methodLink "ProgramSlices" 191 ⟨"ProgramSlices$Log", "valueSeen", "(I)I"⟩ ∈ tb_W := tb_in (i := 838) (by decide +kernel) (by decide +kernel)
theorem tb_w171 : Cond.instanceMethod ⟨"ProgramSlices$Log", "valueSeen", "(I)I"⟩ ∈ tb_W := tb_in (i := 839) (by decide +kernel) (by decide +kernel)
theorem tb_w172 : Cond.selects "ProgramSlices$Log" ⟨"ProgramSlices$Log", "valueSeen", "(I)I"⟩ ⟨"ProgramSlices$Log", "valueSeen", "(I)I"⟩ ∈ tb_W := tb_in (i := 840) (by decide +kernel) (by decide +kernel)
theorem tb_w173 : Cond.initialized "ProgramSlices$Log" ∈ tb_W := tb_in (i := 7) (by decide +kernel) (by decide +kernel)
theorem tb_w174 : Cond.code ⟨"ProgramSlices$Log", "valueSeen", "(I)I"⟩ prog_5_method_5_code 2 (some .int) ∈ tb_W := tb_in (i := 841) (by decide +kernel) (by decide +kernel)
theorem tb_w175 : Cond.methodLink "ProgramSlices" 196 ⟨"ProgramSlices$Log", "valueWritten", "(II)I"⟩ ∈ tb_W := tb_in (i := 846) (by decide +kernel) (by decide +kernel)
theorem tb_w176 : Cond.instanceMethod ⟨"ProgramSlices$Log", "valueWritten", "(II)I"⟩ ∈ tb_W := tb_in (i := 847) (by decide +kernel) (by decide +kernel)
theorem tb_w177 : Cond.selects "ProgramSlices$Log" ⟨"ProgramSlices$Log", "valueWritten", "(II)I"⟩ ⟨"ProgramSlices$Log", "valueWritten", "(II)I"⟩ ∈ tb_W := tb_in (i := 848) (by decide +kernel) (by decide +kernel)
theorem tb_w178 : Cond.code ⟨"ProgramSlices$Log", "valueWritten", "(II)I"⟩ prog_5_method_6_code 4 (some .int) ∈ tb_W := tb_in (i := 849) (by decide +kernel) (by decide +kernel)
theorem tb_w179 : Cond.methodLink "ProgramSlices" 199 ⟨"ProgramSlices", "canCheck", "()Z"⟩ ∈ tb_W := tb_in (i := 854) (by decide +kernel) (by decide +kernel)
theorem tb_w180 : Cond.instanceMethod ⟨"ProgramSlices", "canCheck", "()Z"⟩ ∈ tb_W := tb_in (i := 856) (by decide +kernel) (by decide +kernel)
theorem tb_w181 : Cond.selects "ProgramSlices" ⟨"ProgramSlices", "canCheck", "()Z"⟩ ⟨"ProgramSlices", "canCheck", "()Z"⟩ ∈ tb_W := tb_inp (i := 42) (by decide +kernel) (by decide +kernel)
theorem tb_w182 : Cond.code ⟨"ProgramSlices", "canCheck", "()Z"⟩ prog_1_method_21_code 1 (some .boolean) ∈ tb_W := tb_in (i := 857) (by decide +kernel) (by decide +kernel)
theorem tb_w183 : Cond.methodLink "ProgramSlices" 202 ⟨"ProgramSlices$Flows", "count", "()I"⟩ ∈ tb_W := tb_in (i := 858) (by decide +kernel) (by decide +kernel)
theorem tb_w184 : Cond.instanceMethod ⟨"ProgramSlices$Flows", "count", "()I"⟩ ∈ tb_W := tb_in (i := 859) (by decide +kernel) (by decide +kernel)
theorem tb_w185 : Cond.selects "ProgramSlices$Flows" ⟨"ProgramSlices$Flows", "count", "()I"⟩ ⟨"ProgramSlices$Flows", "count", "()I"⟩ ∈ tb_W := tb_in (i := 860) (by decide +kernel) (by decide +kernel)
theorem tb_w186 : Cond.code ⟨"ProgramSlices$Flows", "count", "()I"⟩ prog_4_method_4_code 3 (some .int) ∈ tb_W := tb_in (i := 861) (by decide +kernel) (by decide +kernel)
theorem tb_w187 : Cond.methodLink "ProgramSlices" 205 ⟨"ProgramSlices$Flows", "find", "(I)I"⟩ ∈ tb_W := tb_in (i := 882) (by decide +kernel) (by decide +kernel)
theorem tb_w188 : Cond.instanceMethod ⟨"ProgramSlices$Flows", "find", "(I)I"⟩ ∈ tb_W := tb_in (i := 883) (by decide +kernel) (by decide +kernel)
theorem tb_w189 : Cond.selects "ProgramSlices$Flows" ⟨"ProgramSlices$Flows", "find", "(I)I"⟩ ⟨"ProgramSlices$Flows", "find", "(I)I"⟩ ∈ tb_W := tb_in (i := 884) (by decide +kernel) (by decide +kernel)
theorem tb_w190 : Cond.code ⟨"ProgramSlices$Flows", "find", "(I)I"⟩ prog_4_method_5_code 6 (some .int) ∈ tb_W := tb_in (i := 885) (by decide +kernel) (by decide +kernel)
theorem tb_w191 : Cond.classLink "ProgramSlices" 9 "ProgramSlices$Code" ∈ tb_W := tb_in (i := 22) (by decide +kernel) (by decide +kernel)
theorem tb_w192 : Cond.instantiable "ProgramSlices$Code" 14 ∈ tb_W := tb_in (i := 23) (by decide +kernel) (by decide +kernel)
theorem tb_w193 : Cond.classLink "ProgramSlices" 16 "ProgramSlices$Dependences" ∈ tb_W := tb_in (i := 101) (by decide +kernel) (by decide +kernel)
theorem tb_w194 : Cond.instantiable "ProgramSlices$Dependences" 7 ∈ tb_W := tb_in (i := 102) (by decide +kernel) (by decide +kernel)
theorem tb_w195 : Cond.classLink "ProgramSlices" 25 "ProgramSlices$Walk" ∈ tb_W := tb_in (i := 155) (by decide +kernel) (by decide +kernel)
theorem tb_w196 : Cond.instantiable "ProgramSlices$Walk" 5 ∈ tb_W := tb_in (i := 156) (by decide +kernel) (by decide +kernel)
theorem tb_w197 : Cond.classLink "ProgramSlices" 34 "ProgramSlices$Machine" ∈ tb_W := tb_in (i := 177) (by decide +kernel) (by decide +kernel)
theorem tb_w198 : Cond.instantiable "ProgramSlices$Machine" 15 ∈ tb_W := tb_in (i := 178) (by decide +kernel) (by decide +kernel)
theorem tb_w199 : Cond.classLink "ProgramSlices" 41 "ProgramSlices$Order" ∈ tb_W := tb_in (i := 249) (by decide +kernel) (by decide +kernel)
theorem tb_w200 : Cond.instantiable "ProgramSlices$Order" 4 ∈ tb_W := tb_in (i := 250) (by decide +kernel) (by decide +kernel)
theorem tb_w201 : Cond.classLink "ProgramSlices" 48 "ProgramSlices$Flows" ∈ tb_W := tb_in (i := 268) (by decide +kernel) (by decide +kernel)
theorem tb_w202 : Cond.instantiable "ProgramSlices$Flows" 3 ∈ tb_W := tb_in (i := 269) (by decide +kernel) (by decide +kernel)
theorem tb_w203 : Cond.classLink "ProgramSlices" 57 "ProgramSlices$Slice" ∈ tb_W := tb_in (i := 284) (by decide +kernel) (by decide +kernel)
theorem tb_w204 : Cond.instantiable "ProgramSlices$Slice" 4 ∈ tb_W := tb_in (i := 285) (by decide +kernel) (by decide +kernel)
theorem tb_w205 : Cond.methodLink "ProgramSlices" 3 ⟨"java/lang/Object", "<init>", "()V"⟩ ∈ tb_W := tb_in (i := 19) (by decide +kernel) (by decide +kernel)
theorem tb_w206 : Cond.instanceMethod ⟨"java/lang/Object", "<init>", "()V"⟩ ∈ tb_W := tb_in (i := 20) (by decide +kernel) (by decide +kernel)
theorem tb_w207 : Cond.code Lib.objectInit ⟨#[0xb1]⟩ 1 none ∈ tb_W := tb_in (i := 21) (by decide +kernel) (by decide +kernel)
theorem tb_w208 : Cond.arrayClass .int ∈ tb_W := tb_in (i := 100) (by decide +kernel) (by decide +kernel)
theorem tb_w209 : Cond.arrayClass .boolean ∈ tb_W := tb_in (i := 1007) (by decide +kernel) (by decide +kernel)
theorem tb_w210 : Cond.arrayClass .long ∈ tb_W := tb_in (i := 132) (by decide +kernel) (by decide +kernel)
theorem tb_w211 : Cond.fieldLink "ProgramSlices$Code" 9 "ProgramSlices$Code" "op" "[I" ∈ tb_W := tb_in (i := 28) (by decide +kernel) (by decide +kernel)
theorem tb_w212 : Cond.fieldLink "ProgramSlices$Code" 15 "ProgramSlices$Code" "d" "[I" ∈ tb_W := tb_in (i := 33) (by decide +kernel) (by decide +kernel)
theorem tb_w213 : Cond.fieldLink "ProgramSlices$Code" 18 "ProgramSlices$Code" "a" "[I" ∈ tb_W := tb_in (i := 38) (by decide +kernel) (by decide +kernel)
theorem tb_w214 : Cond.fieldLink "ProgramSlices$Code" 21 "ProgramSlices$Code" "b" "[I" ∈ tb_W := tb_in (i := 42) (by decide +kernel) (by decide +kernel)
theorem tb_w215 : Cond.fieldLink "ProgramSlices$Code" 45 "ProgramSlices$Code" "count" "I" ∈ tb_W := tb_in (i := 45) (by decide +kernel) (by decide +kernel)
theorem tb_w216 : Cond.fieldLink "ProgramSlices$Code" 24 "ProgramSlices$Code" "around" "[I" ∈ tb_W := tb_in (i := 50) (by decide +kernel) (by decide +kernel)
theorem tb_w217 : Cond.fieldLink "ProgramSlices$Code" 27 "ProgramSlices$Code" "elseOf" "[I" ∈ tb_W := tb_in (i := 52) (by decide +kernel) (by decide +kernel)
theorem tb_w218 : Cond.fieldLink "ProgramSlices$Code" 30 "ProgramSlices$Code" "endOf" "[I" ∈ tb_W := tb_in (i := 53) (by decide +kernel) (by decide +kernel)
theorem tb_w219 : Cond.fieldLink "ProgramSlices$Code" 33 "ProgramSlices$Code" "home" "[I" ∈ tb_W := tb_in (i := 56) (by decide +kernel) (by decide +kernel)
theorem tb_w220 : Cond.fieldLink "ProgramSlices$Code" 36 "ProgramSlices$Code" "first" "[I" ∈ tb_W := tb_in (i := 58) (by decide +kernel) (by decide +kernel)
theorem tb_w221 : Cond.fieldLink "ProgramSlices$Code" 39 "ProgramSlices$Code" "exit" "[I" ∈ tb_W := tb_in (i := 62) (by decide +kernel) (by decide +kernel)
theorem tb_w222 : Cond.fieldLink "ProgramSlices$Code" 71 "ProgramSlices$Code" "procedures" "I" ∈ tb_W := tb_in (i := 68) (by decide +kernel) (by decide +kernel)
theorem tb_w223 : Cond.fieldLink "ProgramSlices$Code" 42 "ProgramSlices$Code" "open" "[I" ∈ tb_W := tb_in (i := 69) (by decide +kernel) (by decide +kernel)
theorem tb_w224 : Cond.fieldLink "ProgramSlices$Code" 68 "ProgramSlices$Code" "depth" "I" ∈ tb_W := tb_in (i := 70) (by decide +kernel) (by decide +kernel)
theorem tb_w225 : Cond.methodLink "ProgramSlices$Code" 49 ⟨"ProgramSlices$Code", "namesD", "(I)Z"⟩ ∈ tb_W := tb_in (i := 340) (by decide +kernel) (by decide +kernel)
theorem tb_w226 : Cond.static ⟨"ProgramSlices$Code", "namesD", "(I)Z"⟩ ∈ tb_W := tb_in (i := 341) (by decide +kernel) (by decide +kernel)
theorem tb_w227 : Cond.code ⟨"ProgramSlices$Code", "namesD", "(I)Z"⟩ prog_2_method_4_code 1 (some .boolean) ∈ tb_W := tb_in (i := 342) (by decide +kernel) (by decide +kernel)
theorem tb_w228 : Cond.methodLink "ProgramSlices$Code" 62 ⟨"ProgramSlices$Code", "isCallOp", "(I)Z"⟩ ∈ tb_W := tb_in (i := 343) (by decide +kernel) (by decide +kernel)
theorem tb_w229 : Cond.static ⟨"ProgramSlices$Code", "isCallOp", "(I)Z"⟩ ∈ tb_W := tb_in (i := 344) (by decide +kernel) (by decide +kernel)
theorem tb_w230 : Cond.code ⟨"ProgramSlices$Code", "isCallOp", "(I)Z"⟩ prog_2_method_7_code 1 (some .boolean) ∈ tb_W := tb_in (i := 345) (by decide +kernel) (by decide +kernel)
theorem tb_w231 : Cond.methodLink "ProgramSlices$Code" 56 ⟨"ProgramSlices$Code", "namesA", "(I)Z"⟩ ∈ tb_W := tb_in (i := 349) (by decide +kernel) (by decide +kernel)
theorem tb_w232 : Cond.static ⟨"ProgramSlices$Code", "namesA", "(I)Z"⟩ ∈ tb_W := tb_in (i := 350) (by decide +kernel) (by decide +kernel)
theorem tb_w233 : Cond.code ⟨"ProgramSlices$Code", "namesA", "(I)Z"⟩ prog_2_method_5_code 1 (some .boolean) ∈ tb_W := tb_in (i := 351) (by decide +kernel) (by decide +kernel)
theorem tb_w234 : Cond.methodLink "ProgramSlices$Code" 59 ⟨"ProgramSlices$Code", "namesB", "(I)Z"⟩ ∈ tb_W := tb_in (i := 352) (by decide +kernel) (by decide +kernel)
theorem tb_w235 : Cond.static ⟨"ProgramSlices$Code", "namesB", "(I)Z"⟩ ∈ tb_W := tb_in (i := 353) (by decide +kernel) (by decide +kernel)
theorem tb_w236 : Cond.code ⟨"ProgramSlices$Code", "namesB", "(I)Z"⟩ prog_2_method_6_code 1 (some .boolean) ∈ tb_W := tb_in (i := 354) (by decide +kernel) (by decide +kernel)
theorem tb_w237 : Cond.methodLink "ProgramSlices$Code" 74 ⟨"ProgramSlices$Code", "place", "(I)Z"⟩ ∈ tb_W := tb_in (i := 390) (by decide +kernel) (by decide +kernel)
theorem tb_w238 : Cond.instanceMethod ⟨"ProgramSlices$Code", "place", "(I)Z"⟩ ∈ tb_W := tb_in (i := 392) (by decide +kernel) (by decide +kernel)
theorem tb_w239 : Cond.selects "ProgramSlices$Code" ⟨"ProgramSlices$Code", "place", "(I)Z"⟩ ⟨"ProgramSlices$Code", "place", "(I)Z"⟩ ∈ tb_W := tb_inp (i := 0) (by decide +kernel) (by decide +kernel)
theorem tb_w240 : Cond.code ⟨"ProgramSlices$Code", "place", "(I)Z"⟩ prog_2_method_16_code 2 (some .boolean) ∈ tb_W := tb_in (i := 393) (by decide +kernel) (by decide +kernel)
theorem tb_w241 : Cond.methodLink "ProgramSlices$Code" 81 ⟨"ProgramSlices$Code", "placeOpener", "(I)Z"⟩ ∈ tb_W := tb_in (i := 394) (by decide +kernel) (by decide +kernel)
theorem tb_w242 : Cond.instanceMethod ⟨"ProgramSlices$Code", "placeOpener", "(I)Z"⟩ ∈ tb_W := tb_in (i := 396) (by decide +kernel) (by decide +kernel)
theorem tb_w243 : Cond.selects "ProgramSlices$Code" ⟨"ProgramSlices$Code", "placeOpener", "(I)Z"⟩ ⟨"ProgramSlices$Code", "placeOpener", "(I)Z"⟩ ∈ tb_W := tb_inp (i := 1) (by decide +kernel) (by decide +kernel)
theorem tb_w244 : Cond.code ⟨"ProgramSlices$Code", "placeOpener", "(I)Z"⟩ prog_2_method_17_code 2 (some .boolean) ∈ tb_W := tb_in (i := 397) (by decide +kernel) (by decide +kernel)
theorem tb_w245 : Cond.methodLink "ProgramSlices$Code" 84 ⟨"ProgramSlices$Code", "placeElse", "(II)Z"⟩ ∈ tb_W := tb_in (i := 398) (by decide +kernel) (by decide +kernel)
theorem tb_w246 : Cond.instanceMethod ⟨"ProgramSlices$Code", "placeElse", "(II)Z"⟩ ∈ tb_W := tb_in (i := 400) (by decide +kernel) (by decide +kernel)
theorem tb_w247 : Cond.selects "ProgramSlices$Code" ⟨"ProgramSlices$Code", "placeElse", "(II)Z"⟩ ⟨"ProgramSlices$Code", "placeElse", "(II)Z"⟩ ∈ tb_W := tb_inp (i := 2) (by decide +kernel) (by decide +kernel)
theorem tb_w248 : Cond.code ⟨"ProgramSlices$Code", "placeElse", "(II)Z"⟩ prog_2_method_18_code 3 (some .boolean) ∈ tb_W := tb_in (i := 401) (by decide +kernel) (by decide +kernel)
theorem tb_w249 : Cond.methodLink "ProgramSlices$Code" 88 ⟨"ProgramSlices$Code", "placeEnd", "(II)Z"⟩ ∈ tb_W := tb_in (i := 402) (by decide +kernel) (by decide +kernel)
theorem tb_w250 : Cond.instanceMethod ⟨"ProgramSlices$Code", "placeEnd", "(II)Z"⟩ ∈ tb_W := tb_in (i := 404) (by decide +kernel) (by decide +kernel)
theorem tb_w251 : Cond.selects "ProgramSlices$Code" ⟨"ProgramSlices$Code", "placeEnd", "(II)Z"⟩ ⟨"ProgramSlices$Code", "placeEnd", "(II)Z"⟩ ∈ tb_W := tb_inp (i := 3) (by decide +kernel) (by decide +kernel)
theorem tb_w252 : Cond.code ⟨"ProgramSlices$Code", "placeEnd", "(II)Z"⟩ prog_2_method_19_code 3 (some .boolean) ∈ tb_W := tb_in (i := 405) (by decide +kernel) (by decide +kernel)
theorem tb_w253 : Cond.methodLink "ProgramSlices$Code" 91 ⟨"ProgramSlices$Code", "placeProc", "(I)Z"⟩ ∈ tb_W := tb_in (i := 406) (by decide +kernel) (by decide +kernel)
theorem tb_w254 : Cond.instanceMethod ⟨"ProgramSlices$Code", "placeProc", "(I)Z"⟩ ∈ tb_W := tb_in (i := 408) (by decide +kernel) (by decide +kernel)
theorem tb_w255 : Cond.selects "ProgramSlices$Code" ⟨"ProgramSlices$Code", "placeProc", "(I)Z"⟩ ⟨"ProgramSlices$Code", "placeProc", "(I)Z"⟩ ∈ tb_W := tb_inp (i := 4) (by decide +kernel) (by decide +kernel)
theorem tb_w256 : Cond.code ⟨"ProgramSlices$Code", "placeProc", "(I)Z"⟩ prog_2_method_20_code 2 (some .boolean) ∈ tb_W := tb_in (i := 409) (by decide +kernel) (by decide +kernel)
theorem tb_w257 : Cond.methodLink "ProgramSlices$Code" 77 ⟨"ProgramSlices$Code", "firstCallOfNothing", "()I"⟩ ∈ tb_W := tb_in (i := 410) (by decide +kernel) (by decide +kernel)
theorem tb_w258 : Cond.instanceMethod ⟨"ProgramSlices$Code", "firstCallOfNothing", "()I"⟩ ∈ tb_W := tb_in (i := 412) (by decide +kernel) (by decide +kernel)
theorem tb_w259 : Cond.selects "ProgramSlices$Code" ⟨"ProgramSlices$Code", "firstCallOfNothing", "()I"⟩ ⟨"ProgramSlices$Code", "firstCallOfNothing", "()I"⟩ ∈ tb_W := tb_inp (i := 5) (by decide +kernel) (by decide +kernel)
theorem tb_w260 : Cond.code ⟨"ProgramSlices$Code", "firstCallOfNothing", "()I"⟩ prog_2_method_21_code 2 (some .int) ∈ tb_W := tb_in (i := 413) (by decide +kernel) (by decide +kernel)
theorem tb_w261 : Cond.methodLink "ProgramSlices$Code" 94 ⟨"ProgramSlices$Code", "isCall", "(I)Z"⟩ ∈ tb_W := tb_in (i := 414) (by decide +kernel) (by decide +kernel)
theorem tb_w262 : Cond.methodLink "ProgramSlices$Code" 97 ⟨"ProgramSlices$Code", "callee", "(I)I"⟩ ∈ tb_W := tb_in (i := 418) (by decide +kernel) (by decide +kernel)
theorem tb_w263 : Cond.methodLink "ProgramSlices$Code" 65 ⟨"ProgramSlices$Code", "isThere", "(I)Z"⟩ ∈ tb_W := tb_in (i := 462) (by decide +kernel) (by decide +kernel)
theorem tb_w264 : Cond.methodLink "ProgramSlices$Code" 3 ⟨"java/lang/Object", "<init>", "()V"⟩ ∈ tb_W := tb_in (i := 27) (by decide +kernel) (by decide +kernel)
theorem tb_w265 : Cond.fieldLink "ProgramSlices$Dependences" 113 "ProgramSlices$Code" "op" "[I" ∈ tb_W := tb_in (i := 32) (by decide +kernel) (by decide +kernel)
theorem tb_w266 : Cond.fieldLink "ProgramSlices$Dependences" 135 "ProgramSlices$Code" "d" "[I" ∈ tb_W := tb_in (i := 37) (by decide +kernel) (by decide +kernel)
theorem tb_w267 : Cond.fieldLink "ProgramSlices$Dependences" 116 "ProgramSlices$Code" "a" "[I" ∈ tb_W := tb_in (i := 41) (by decide +kernel) (by decide +kernel)
theorem tb_w268 : Cond.fieldLink "ProgramSlices$Dependences" 123 "ProgramSlices$Code" "b" "[I" ∈ tb_W := tb_in (i := 44) (by decide +kernel) (by decide +kernel)
theorem tb_w269 : Cond.fieldLink "ProgramSlices$Dependences" 48 "ProgramSlices$Code" "count" "I" ∈ tb_W := tb_in (i := 48) (by decide +kernel) (by decide +kernel)
theorem tb_w270 : Cond.fieldLink "ProgramSlices$Dependences" 93 "ProgramSlices$Code" "around" "[I" ∈ tb_W := tb_in (i := 51) (by decide +kernel) (by decide +kernel)
theorem tb_w271 : Cond.fieldLink "ProgramSlices$Dependences" 96 "ProgramSlices$Code" "home" "[I" ∈ tb_W := tb_in (i := 57) (by decide +kernel) (by decide +kernel)
theorem tb_w272 : Cond.fieldLink "ProgramSlices$Dependences" 126 "ProgramSlices$Code" "first" "[I" ∈ tb_W := tb_in (i := 60) (by decide +kernel) (by decide +kernel)
theorem tb_w273 : Cond.fieldLink "ProgramSlices$Dependences" 129 "ProgramSlices$Code" "exit" "[I" ∈ tb_W := tb_in (i := 64) (by decide +kernel) (by decide +kernel)
theorem tb_w274 : Cond.fieldLink "ProgramSlices$Dependences" 87 "ProgramSlices$Code" "procedures" "I" ∈ tb_W := tb_in (i := 67) (by decide +kernel) (by decide +kernel)
theorem tb_w275 : Cond.fieldLink "ProgramSlices$Dependences" 27 "ProgramSlices$Dependences" "code" "LProgramSlices$Code;" ∈ tb_W := tb_in (i := 133) (by decide +kernel) (by decide +kernel)
theorem tb_w276 : Cond.fieldLink "ProgramSlices$Dependences" 36 "ProgramSlices$Dependences" "ways" "LProgramSlices$Ways;" ∈ tb_W := tb_in (i := 134) (by decide +kernel) (by decide +kernel)
theorem tb_w277 : Cond.fieldLink "ProgramSlices$Dependences" 9 "ProgramSlices$Dependences" "onto" "[I" ∈ tb_W := tb_in (i := 135) (by decide +kernel) (by decide +kernel)
theorem tb_w278 : Cond.fieldLink "ProgramSlices$Dependences" 15 "ProgramSlices$Dependences" "from" "[I" ∈ tb_W := tb_in (i := 136) (by decide +kernel) (by decide +kernel)
theorem tb_w279 : Cond.fieldLink "ProgramSlices$Dependences" 18 "ProgramSlices$Dependences" "byKind" "[I" ∈ tb_W := tb_in (i := 137) (by decide +kernel) (by decide +kernel)
theorem tb_w280 : Cond.fieldLink "ProgramSlices$Dependences" 21 "ProgramSlices$Dependences" "calls" "[I" ∈ tb_W := tb_in (i := 138) (by decide +kernel) (by decide +kernel)
theorem tb_w281 : Cond.fieldLink "ProgramSlices$Dependences" 24 "ProgramSlices$Dependences" "summaries" "[I" ∈ tb_W := tb_in (i := 139) (by decide +kernel) (by decide +kernel)
theorem tb_w282 : Cond.code ⟨"ProgramSlices$Ways", "<init>", "(LProgramSlices$Code;)V"⟩ prog_10_method_1_code 2 (none) ∈ tb_W := tb_in (i := 111) (by decide +kernel) (by decide +kernel)
theorem tb_w283 : Cond.initialized "ProgramSlices$Ways" ∈ tb_W := tb_in (i := 4) (by decide +kernel) (by decide +kernel)
theorem tb_w284 : Cond.methodLink "ProgramSlices$Dependences" 33 ⟨"ProgramSlices$Ways", "<init>", "(LProgramSlices$Code;)V"⟩ ∈ tb_W := tb_in (i := 109) (by decide +kernel) (by decide +kernel)
theorem tb_w285 : Cond.instanceMethod ⟨"ProgramSlices$Ways", "<init>", "(LProgramSlices$Code;)V"⟩ ∈ tb_W := tb_in (i := 110) (by decide +kernel) (by decide +kernel)
theorem tb_w286 : Cond.methodLink "ProgramSlices$Dependences" 61 ⟨"ProgramSlices$Ways", "workOut", "()V"⟩ ∈ tb_W := tb_in (i := 426) (by decide +kernel) (by decide +kernel)
theorem tb_w287 : Cond.instanceMethod ⟨"ProgramSlices$Ways", "workOut", "()V"⟩ ∈ tb_W := tb_in (i := 427) (by decide +kernel) (by decide +kernel)
theorem tb_w288 : Cond.selects "ProgramSlices$Ways" ⟨"ProgramSlices$Ways", "workOut", "()V"⟩ ⟨"ProgramSlices$Ways", "workOut", "()V"⟩ ∈ tb_W := tb_in (i := 428) (by decide +kernel) (by decide +kernel)
theorem tb_w289 : Cond.code ⟨"ProgramSlices$Ways", "workOut", "()V"⟩ prog_10_method_5_code 2 (none) ∈ tb_W := tb_in (i := 429) (by decide +kernel) (by decide +kernel)
theorem tb_w290 : Cond.methodLink "ProgramSlices$Dependences" 64 ⟨"java/util/Arrays", "fill", "([II)V"⟩ ∈ tb_W := tb_in (i := 457) (by decide +kernel) (by decide +kernel)
theorem tb_w291 : Cond.static ⟨"java/util/Arrays", "fill", "([II)V"⟩ ∈ tb_W := tb_in (i := 380) (by decide +kernel) (by decide +kernel)
theorem tb_w292 : Cond.initialized "java/util/Arrays" ∈ tb_W := tb_in (i := 12) (by decide +kernel) (by decide +kernel)
theorem tb_w293 : Cond.code ⟨"java/util/Arrays", "fill", "([II)V"⟩ prog_14_method_103_code 4 (none) ∈ tb_W := tb_in (i := 381) (by decide +kernel) (by decide +kernel)
theorem tb_w294 : Cond.methodLink "ProgramSlices$Dependences" 70 ⟨"ProgramSlices$Code", "isNode", "(I)Z"⟩ ∈ tb_W := tb_in (i := 458) (by decide +kernel) (by decide +kernel)
theorem tb_w295 : Cond.methodLink "ProgramSlices$Dependences" 74 ⟨"ProgramSlices$Dependences", "joinControl", "(I)V"⟩ ∈ tb_W := tb_in (i := 466) (by decide +kernel) (by decide +kernel)
theorem tb_w296 : Cond.instanceMethod ⟨"ProgramSlices$Dependences", "joinControl", "(I)V"⟩ ∈ tb_W := tb_in (i := 468) (by decide +kernel) (by decide +kernel)
theorem tb_w297 : Cond.selects "ProgramSlices$Dependences" ⟨"ProgramSlices$Dependences", "joinControl", "(I)V"⟩ ⟨"ProgramSlices$Dependences", "joinControl", "(I)V"⟩ ∈ tb_W := tb_inp (i := 8) (by decide +kernel) (by decide +kernel)
theorem tb_w298 : Cond.code ⟨"ProgramSlices$Dependences", "joinControl", "(I)V"⟩ prog_3_method_11_code 4 (none) ∈ tb_W := tb_in (i := 469) (by decide +kernel) (by decide +kernel)
theorem tb_w299 : Cond.code ⟨"ProgramSlices", "sideOf", "(II)I"⟩ prog_1_method_26_code 2 (some .int) ∈ tb_W := tb_in (i := 472) (by decide +kernel) (by decide +kernel)
theorem tb_w300 : Cond.static ⟨"ProgramSlices", "sideOf", "(II)I"⟩ ∈ tb_W := tb_in (i := 471) (by decide +kernel) (by decide +kernel)
theorem tb_w301 : Cond.methodLink "ProgramSlices$Dependences" 102 ⟨"ProgramSlices$Dependences", "joinAs", "(III)V"⟩ ∈ tb_W := tb_in (i := 473) (by decide +kernel) (by decide +kernel)
theorem tb_w302 : Cond.instanceMethod ⟨"ProgramSlices$Dependences", "joinAs", "(III)V"⟩ ∈ tb_W := tb_in (i := 475) (by decide +kernel) (by decide +kernel)
theorem tb_w303 : Cond.selects "ProgramSlices$Dependences" ⟨"ProgramSlices$Dependences", "joinAs", "(III)V"⟩ ⟨"ProgramSlices$Dependences", "joinAs", "(III)V"⟩ ∈ tb_W := tb_inp (i := 9) (by decide +kernel) (by decide +kernel)
theorem tb_w304 : Cond.code ⟨"ProgramSlices$Dependences", "joinAs", "(III)V"⟩ prog_3_method_10_code 5 (none) ∈ tb_W := tb_in (i := 476) (by decide +kernel) (by decide +kernel)
theorem tb_w305 : Cond.methodLink "ProgramSlices$Dependences" 57 ⟨"ProgramSlices$Dependences", "join", "(II)V"⟩ ∈ tb_W := tb_in (i := 477) (by decide +kernel) (by decide +kernel)
theorem tb_w306 : Cond.instanceMethod ⟨"ProgramSlices$Dependences", "join", "(II)V"⟩ ∈ tb_W := tb_in (i := 479) (by decide +kernel) (by decide +kernel)
theorem tb_w307 : Cond.selects "ProgramSlices$Dependences" ⟨"ProgramSlices$Dependences", "join", "(II)V"⟩ ⟨"ProgramSlices$Dependences", "join", "(II)V"⟩ ∈ tb_W := tb_inp (i := 10) (by decide +kernel) (by decide +kernel)
theorem tb_w308 : Cond.code ⟨"ProgramSlices$Dependences", "join", "(II)V"⟩ prog_3_method_9_code 3 (none) ∈ tb_W := tb_in (i := 480) (by decide +kernel) (by decide +kernel)
theorem tb_w309 : Cond.methodLink "ProgramSlices$Dependences" 106 ⟨"ProgramSlices$Code", "isCall", "(I)Z"⟩ ∈ tb_W := tb_in (i := 481) (by decide +kernel) (by decide +kernel)
theorem tb_w310 : Cond.methodLink "ProgramSlices$Dependences" 109 ⟨"ProgramSlices$Code", "callee", "(I)I"⟩ ∈ tb_W := tb_in (i := 482) (by decide +kernel) (by decide +kernel)
theorem tb_w311 : Cond.code ⟨"ProgramSlices", "partOf", "(II)I"⟩ prog_1_method_25_code 2 (some .int) ∈ tb_W := tb_in (i := 485) (by decide +kernel) (by decide +kernel)
theorem tb_w312 : Cond.static ⟨"ProgramSlices", "partOf", "(II)I"⟩ ∈ tb_W := tb_in (i := 484) (by decide +kernel) (by decide +kernel)
theorem tb_w313 : Cond.methodLink "ProgramSlices$Dependences" 78 ⟨"ProgramSlices$Dependences", "joinData", "(I)V"⟩ ∈ tb_W := tb_in (i := 486) (by decide +kernel) (by decide +kernel)
theorem tb_w314 : Cond.instanceMethod ⟨"ProgramSlices$Dependences", "joinData", "(I)V"⟩ ∈ tb_W := tb_in (i := 488) (by decide +kernel) (by decide +kernel)
theorem tb_w315 : Cond.selects "ProgramSlices$Dependences" ⟨"ProgramSlices$Dependences", "joinData", "(I)V"⟩ ⟨"ProgramSlices$Dependences", "joinData", "(I)V"⟩ ∈ tb_W := tb_inp (i := 11) (by decide +kernel) (by decide +kernel)
theorem tb_w316 : Cond.code ⟨"ProgramSlices$Dependences", "joinData", "(I)V"⟩ prog_3_method_12_code 3 (none) ∈ tb_W := tb_in (i := 489) (by decide +kernel) (by decide +kernel)
theorem tb_w317 : Cond.methodLink "ProgramSlices$Dependences" 119 ⟨"ProgramSlices$Dependences", "joinRead", "(IIII)V"⟩ ∈ tb_W := tb_in (i := 490) (by decide +kernel) (by decide +kernel)
theorem tb_w318 : Cond.instanceMethod ⟨"ProgramSlices$Dependences", "joinRead", "(IIII)V"⟩ ∈ tb_W := tb_in (i := 492) (by decide +kernel) (by decide +kernel)
theorem tb_w319 : Cond.selects "ProgramSlices$Dependences" ⟨"ProgramSlices$Dependences", "joinRead", "(IIII)V"⟩ ⟨"ProgramSlices$Dependences", "joinRead", "(IIII)V"⟩ ∈ tb_W := tb_inp (i := 12) (by decide +kernel) (by decide +kernel)
theorem tb_w320 : Cond.code ⟨"ProgramSlices$Dependences", "joinRead", "(IIII)V"⟩ prog_3_method_13_code 6 (none) ∈ tb_W := tb_in (i := 493) (by decide +kernel) (by decide +kernel)
theorem tb_w321 : Cond.methodLink "ProgramSlices$Dependences" 132 ⟨"ProgramSlices$Code", "defines", "(I)Z"⟩ ∈ tb_W := tb_in (i := 494) (by decide +kernel) (by decide +kernel)
theorem tb_w322 : Cond.instanceMethod ⟨"ProgramSlices$Code", "defines", "(I)Z"⟩ ∈ tb_W := tb_in (i := 446) (by decide +kernel) (by decide +kernel)
theorem tb_w323 : Cond.selects "ProgramSlices$Code" ⟨"ProgramSlices$Code", "defines", "(I)Z"⟩ ⟨"ProgramSlices$Code", "defines", "(I)Z"⟩ ∈ tb_W := tb_in (i := 447) (by decide +kernel) (by decide +kernel)
theorem tb_w324 : Cond.code ⟨"ProgramSlices$Code", "defines", "(I)Z"⟩ prog_2_method_14_code 2 (some .boolean) ∈ tb_W := tb_in (i := 448) (by decide +kernel) (by decide +kernel)
theorem tb_w325 : Cond.methodLink "ProgramSlices$Dependences" 138 ⟨"ProgramSlices$Ways", "carries", "(II)Z"⟩ ∈ tb_W := tb_in (i := 495) (by decide +kernel) (by decide +kernel)
theorem tb_w326 : Cond.instanceMethod ⟨"ProgramSlices$Ways", "carries", "(II)Z"⟩ ∈ tb_W := tb_in (i := 496) (by decide +kernel) (by decide +kernel)
theorem tb_w327 : Cond.selects "ProgramSlices$Ways" ⟨"ProgramSlices$Ways", "carries", "(II)Z"⟩ ⟨"ProgramSlices$Ways", "carries", "(II)Z"⟩ ∈ tb_W := tb_in (i := 497) (by decide +kernel) (by decide +kernel)
theorem tb_w328 : Cond.code ⟨"ProgramSlices$Ways", "carries", "(II)Z"⟩ prog_10_method_3_code 3 (some .boolean) ∈ tb_W := tb_in (i := 498) (by decide +kernel) (by decide +kernel)
theorem tb_w329 : Cond.methodLink "ProgramSlices$Dependences" 141 ⟨"ProgramSlices$Ways", "carriesBeginning", "(III)Z"⟩ ∈ tb_W := tb_in (i := 499) (by decide +kernel) (by decide +kernel)
theorem tb_w330 : Cond.instanceMethod ⟨"ProgramSlices$Ways", "carriesBeginning", "(III)Z"⟩ ∈ tb_W := tb_in (i := 500) (by decide +kernel) (by decide +kernel)
theorem tb_w331 : Cond.selects "ProgramSlices$Ways" ⟨"ProgramSlices$Ways", "carriesBeginning", "(III)Z"⟩ ⟨"ProgramSlices$Ways", "carriesBeginning", "(III)Z"⟩ ∈ tb_W := tb_in (i := 501) (by decide +kernel) (by decide +kernel)
theorem tb_w332 : Cond.code ⟨"ProgramSlices$Ways", "carriesBeginning", "(III)Z"⟩ prog_10_method_4_code 4 (some .boolean) ∈ tb_W := tb_in (i := 502) (by decide +kernel) (by decide +kernel)
theorem tb_w333 : Cond.methodLink "ProgramSlices$Dependences" 81 ⟨"ProgramSlices$Dependences", "joinHeap", "(I)V"⟩ ∈ tb_W := tb_in (i := 503) (by decide +kernel) (by decide +kernel)
theorem tb_w334 : Cond.instanceMethod ⟨"ProgramSlices$Dependences", "joinHeap", "(I)V"⟩ ∈ tb_W := tb_in (i := 505) (by decide +kernel) (by decide +kernel)
theorem tb_w335 : Cond.selects "ProgramSlices$Dependences" ⟨"ProgramSlices$Dependences", "joinHeap", "(I)V"⟩ ⟨"ProgramSlices$Dependences", "joinHeap", "(I)V"⟩ ∈ tb_W := tb_inp (i := 13) (by decide +kernel) (by decide +kernel)
theorem tb_w336 : Cond.code ⟨"ProgramSlices$Dependences", "joinHeap", "(I)V"⟩ prog_3_method_14_code 5 (none) ∈ tb_W := tb_in (i := 506) (by decide +kernel) (by decide +kernel)
theorem tb_w337 : Cond.methodLink "ProgramSlices$Dependences" 145 ⟨"ProgramSlices$Ways", "isReached", "(II)Z"⟩ ∈ tb_W := tb_in (i := 507) (by decide +kernel) (by decide +kernel)
theorem tb_w338 : Cond.instanceMethod ⟨"ProgramSlices$Ways", "isReached", "(II)Z"⟩ ∈ tb_W := tb_in (i := 508) (by decide +kernel) (by decide +kernel)
theorem tb_w339 : Cond.selects "ProgramSlices$Ways" ⟨"ProgramSlices$Ways", "isReached", "(II)Z"⟩ ⟨"ProgramSlices$Ways", "isReached", "(II)Z"⟩ ∈ tb_W := tb_in (i := 509) (by decide +kernel) (by decide +kernel)
theorem tb_w340 : Cond.code ⟨"ProgramSlices$Ways", "isReached", "(II)Z"⟩ prog_10_method_2_code 3 (some .boolean) ∈ tb_W := tb_in (i := 510) (by decide +kernel) (by decide +kernel)
theorem tb_w341 : Cond.methodLink "ProgramSlices$Dependences" 148 ⟨"ProgramSlices$Dependences", "joinSource", "(IIIII)V"⟩ ∈ tb_W := tb_in (i := 511) (by decide +kernel) (by decide +kernel)
theorem tb_w342 : Cond.instanceMethod ⟨"ProgramSlices$Dependences", "joinSource", "(IIIII)V"⟩ ∈ tb_W := tb_in (i := 513) (by decide +kernel) (by decide +kernel)
theorem tb_w343 : Cond.selects "ProgramSlices$Dependences" ⟨"ProgramSlices$Dependences", "joinSource", "(IIIII)V"⟩ ⟨"ProgramSlices$Dependences", "joinSource", "(IIIII)V"⟩ ∈ tb_W := tb_inp (i := 14) (by decide +kernel) (by decide +kernel)
theorem tb_w344 : Cond.code ⟨"ProgramSlices$Dependences", "joinSource", "(IIIII)V"⟩ prog_3_method_17_code 6 (none) ∈ tb_W := tb_in (i := 514) (by decide +kernel) (by decide +kernel)
theorem tb_w345 : Cond.methodLink "ProgramSlices$Dependences" 84 ⟨"ProgramSlices$Dependences", "joinHalt", "(I)V"⟩ ∈ tb_W := tb_in (i := 515) (by decide +kernel) (by decide +kernel)
theorem tb_w346 : Cond.instanceMethod ⟨"ProgramSlices$Dependences", "joinHalt", "(I)V"⟩ ∈ tb_W := tb_in (i := 517) (by decide +kernel) (by decide +kernel)
theorem tb_w347 : Cond.selects "ProgramSlices$Dependences" ⟨"ProgramSlices$Dependences", "joinHalt", "(I)V"⟩ ⟨"ProgramSlices$Dependences", "joinHalt", "(I)V"⟩ ∈ tb_W := tb_inp (i := 15) (by decide +kernel) (by decide +kernel)
theorem tb_w348 : Cond.code ⟨"ProgramSlices$Dependences", "joinHalt", "(I)V"⟩ prog_3_method_15_code 4 (none) ∈ tb_W := tb_in (i := 518) (by decide +kernel) (by decide +kernel)
theorem tb_w349 : Cond.methodLink "ProgramSlices$Dependences" 90 ⟨"ProgramSlices$Dependences", "joinEnds", "(I)V"⟩ ∈ tb_W := tb_in (i := 519) (by decide +kernel) (by decide +kernel)
theorem tb_w350 : Cond.instanceMethod ⟨"ProgramSlices$Dependences", "joinEnds", "(I)V"⟩ ∈ tb_W := tb_in (i := 521) (by decide +kernel) (by decide +kernel)
theorem tb_w351 : Cond.selects "ProgramSlices$Dependences" ⟨"ProgramSlices$Dependences", "joinEnds", "(I)V"⟩ ⟨"ProgramSlices$Dependences", "joinEnds", "(I)V"⟩ ∈ tb_W := tb_inp (i := 16) (by decide +kernel) (by decide +kernel)
theorem tb_w352 : Cond.code ⟨"ProgramSlices$Dependences", "joinEnds", "(I)V"⟩ prog_3_method_16_code 3 (none) ∈ tb_W := tb_in (i := 522) (by decide +kernel) (by decide +kernel)
theorem tb_w353 : Cond.methodLink "ProgramSlices$Dependences" 44 ⟨"ProgramSlices$Dependences", "summaryBit", "(II)I"⟩ ∈ tb_W := tb_in (i := 580) (by decide +kernel) (by decide +kernel)
theorem tb_w354 : Cond.static ⟨"ProgramSlices$Dependences", "summaryBit", "(II)I"⟩ ∈ tb_W := tb_in (i := 581) (by decide +kernel) (by decide +kernel)
theorem tb_w355 : Cond.code ⟨"ProgramSlices$Dependences", "summaryBit", "(II)I"⟩ prog_3_method_6_code 2 (some .int) ∈ tb_W := tb_in (i := 582) (by decide +kernel) (by decide +kernel)
theorem tb_w356 : Cond.classLink "ProgramSlices$Dependences" 31 "ProgramSlices$Ways" ∈ tb_W := tb_in (i := 107) (by decide +kernel) (by decide +kernel)
theorem tb_w357 : Cond.instantiable "ProgramSlices$Ways" 6 ∈ tb_W := tb_in (i := 108) (by decide +kernel) (by decide +kernel)
theorem tb_w358 : Cond.methodLink "ProgramSlices$Dependences" 3 ⟨"java/lang/Object", "<init>", "()V"⟩ ∈ tb_W := tb_in (i := 106) (by decide +kernel) (by decide +kernel)
theorem tb_w359 : Cond.fieldLink "ProgramSlices$Ways" 69 "ProgramSlices$Code" "op" "[I" ∈ tb_W := tb_in (i := 30) (by decide +kernel) (by decide +kernel)
theorem tb_w360 : Cond.fieldLink "ProgramSlices$Ways" 55 "ProgramSlices$Code" "d" "[I" ∈ tb_W := tb_in (i := 34) (by decide +kernel) (by decide +kernel)
theorem tb_w361 : Cond.fieldLink "ProgramSlices$Ways" 41 "ProgramSlices$Code" "count" "I" ∈ tb_W := tb_in (i := 47) (by decide +kernel) (by decide +kernel)
theorem tb_w362 : Cond.fieldLink "ProgramSlices$Ways" 76 "ProgramSlices$Code" "endOf" "[I" ∈ tb_W := tb_in (i := 54) (by decide +kernel) (by decide +kernel)
theorem tb_w363 : Cond.fieldLink "ProgramSlices$Ways" 66 "ProgramSlices$Code" "first" "[I" ∈ tb_W := tb_in (i := 59) (by decide +kernel) (by decide +kernel)
theorem tb_w364 : Cond.fieldLink "ProgramSlices$Ways" 63 "ProgramSlices$Code" "procedures" "I" ∈ tb_W := tb_in (i := 66) (by decide +kernel) (by decide +kernel)
theorem tb_w365 : Cond.fieldLink "ProgramSlices$Ways" 27 "ProgramSlices$Ways" "code" "LProgramSlices$Code;" ∈ tb_W := tb_in (i := 113) (by decide +kernel) (by decide +kernel)
theorem tb_w366 : Cond.fieldLink "ProgramSlices$Ways" 9 "ProgramSlices$Ways" "onward" "[J" ∈ tb_W := tb_in (i := 114) (by decide +kernel) (by decide +kernel)
theorem tb_w367 : Cond.fieldLink "ProgramSlices$Ways" 15 "ProgramSlices$Ways" "definitions" "[J" ∈ tb_W := tb_in (i := 115) (by decide +kernel) (by decide +kernel)
theorem tb_w368 : Cond.fieldLink "ProgramSlices$Ways" 18 "ProgramSlices$Ways" "reached" "[J" ∈ tb_W := tb_in (i := 116) (by decide +kernel) (by decide +kernel)
theorem tb_w369 : Cond.fieldLink "ProgramSlices$Ways" 21 "ProgramSlices$Ways" "carried" "[J" ∈ tb_W := tb_in (i := 117) (by decide +kernel) (by decide +kernel)
theorem tb_w370 : Cond.fieldLink "ProgramSlices$Ways" 24 "ProgramSlices$Ways" "begun" "[J" ∈ tb_W := tb_in (i := 118) (by decide +kernel) (by decide +kernel)
theorem tb_w371 : Jvm.Cond.constantLong "ProgramSlices$Ways" 82 (-1) ∈ tb_W := tb_in (i := 453) (by decide +kernel) (by decide +kernel)
theorem tb_w372 : Cond.methodLink "ProgramSlices$Ways" 35 ⟨"java/util/Arrays", "fill", "([JJ)V"⟩ ∈ tb_W := tb_in (i := 430) (by decide +kernel) (by decide +kernel)
theorem tb_w373 : Cond.static ⟨"java/util/Arrays", "fill", "([JJ)V"⟩ ∈ tb_W := tb_in (i := 431) (by decide +kernel) (by decide +kernel)
theorem tb_w374 : Cond.code ⟨"java/util/Arrays", "fill", "([JJ)V"⟩ prog_14_method_101_code 5 (none) ∈ tb_W := tb_in (i := 432) (by decide +kernel) (by decide +kernel)
theorem tb_w375 : Cond.methodLink "ProgramSlices$Ways" 47 ⟨"ProgramSlices$Ways", "stepsFrom", "(I)J"⟩ ∈ tb_W := tb_in (i := 433) (by decide +kernel) (by decide +kernel)
theorem tb_w376 : Cond.instanceMethod ⟨"ProgramSlices$Ways", "stepsFrom", "(I)J"⟩ ∈ tb_W := tb_in (i := 435) (by decide +kernel) (by decide +kernel)
theorem tb_w377 : Cond.selects "ProgramSlices$Ways" ⟨"ProgramSlices$Ways", "stepsFrom", "(I)J"⟩ ⟨"ProgramSlices$Ways", "stepsFrom", "(I)J"⟩ ∈ tb_W := tb_inp (i := 6) (by decide +kernel) (by decide +kernel)
theorem tb_w378 : Cond.code ⟨"ProgramSlices$Ways", "stepsFrom", "(I)J"⟩ prog_10_method_6_code 4 (some .long) ∈ tb_W := tb_in (i := 436) (by decide +kernel) (by decide +kernel)
theorem tb_w379 : Cond.methodLink "ProgramSlices$Ways" 72 ⟨"ProgramSlices$Code", "otherwise", "(I)I"⟩ ∈ tb_W := tb_in (i := 437) (by decide +kernel) (by decide +kernel)
theorem tb_w380 : Cond.instanceMethod ⟨"ProgramSlices$Code", "otherwise", "(I)I"⟩ ∈ tb_W := tb_in (i := 438) (by decide +kernel) (by decide +kernel)
theorem tb_w381 : Cond.selects "ProgramSlices$Code" ⟨"ProgramSlices$Code", "otherwise", "(I)I"⟩ ⟨"ProgramSlices$Code", "otherwise", "(I)I"⟩ ∈ tb_W := tb_in (i := 439) (by decide +kernel) (by decide +kernel)
theorem tb_w382 : Cond.code ⟨"ProgramSlices$Code", "otherwise", "(I)I"⟩ prog_2_method_22_code 2 (some .int) ∈ tb_W := tb_in (i := 440) (by decide +kernel) (by decide +kernel)
theorem tb_w383 : Cond.methodLink "ProgramSlices$Ways" 79 ⟨"ProgramSlices$Code", "behindMark", "(I)I"⟩ ∈ tb_W := tb_in (i := 441) (by decide +kernel) (by decide +kernel)
theorem tb_w384 : Cond.instanceMethod ⟨"ProgramSlices$Code", "behindMark", "(I)I"⟩ ∈ tb_W := tb_in (i := 442) (by decide +kernel) (by decide +kernel)
theorem tb_w385 : Cond.selects "ProgramSlices$Code" ⟨"ProgramSlices$Code", "behindMark", "(I)I"⟩ ⟨"ProgramSlices$Code", "behindMark", "(I)I"⟩ ∈ tb_W := tb_in (i := 443) (by decide +kernel) (by decide +kernel)
theorem tb_w386 : Cond.code ⟨"ProgramSlices$Code", "behindMark", "(I)I"⟩ prog_2_method_23_code 3 (some .int) ∈ tb_W := tb_in (i := 444) (by decide +kernel) (by decide +kernel)
theorem tb_w387 : Cond.methodLink "ProgramSlices$Ways" 51 ⟨"ProgramSlices$Code", "defines", "(I)Z"⟩ ∈ tb_W := tb_in (i := 445) (by decide +kernel) (by decide +kernel)
theorem tb_w388 : Cond.methodLink "ProgramSlices$Ways" 59 ⟨"ProgramSlices$Ways", "flood", "(JJ)J"⟩ ∈ tb_W := tb_in (i := 449) (by decide +kernel) (by decide +kernel)
theorem tb_w389 : Cond.instanceMethod ⟨"ProgramSlices$Ways", "flood", "(JJ)J"⟩ ∈ tb_W := tb_in (i := 451) (by decide +kernel) (by decide +kernel)
theorem tb_w390 : Cond.selects "ProgramSlices$Ways" ⟨"ProgramSlices$Ways", "flood", "(JJ)J"⟩ ⟨"ProgramSlices$Ways", "flood", "(JJ)J"⟩ ∈ tb_W := tb_inp (i := 7) (by decide +kernel) (by decide +kernel)
theorem tb_w391 : Cond.code ⟨"ProgramSlices$Ways", "flood", "(JJ)J"⟩ prog_10_method_7_code 12 (some .long) ∈ tb_W := tb_in (i := 452) (by decide +kernel) (by decide +kernel)
theorem tb_w392 : Cond.code ⟨"ProgramSlices", "hasPosition", "(JI)Z"⟩ prog_1_method_24_code 3 (some .boolean) ∈ tb_W := tb_in (i := 456) (by decide +kernel) (by decide +kernel)
theorem tb_w393 : Cond.static ⟨"ProgramSlices", "hasPosition", "(JI)Z"⟩ ∈ tb_W := tb_in (i := 455) (by decide +kernel) (by decide +kernel)
theorem tb_w394 : Cond.methodLink "ProgramSlices$Ways" 3 ⟨"java/lang/Object", "<init>", "()V"⟩ ∈ tb_W := tb_in (i := 112) (by decide +kernel) (by decide +kernel)
theorem tb_w395 : Cond.fieldLink "ProgramSlices$Walk" 34 "ProgramSlices$Code" "procedures" "I" ∈ tb_W := tb_in (i := 65) (by decide +kernel) (by decide +kernel)
theorem tb_w396 : Cond.fieldLink "ProgramSlices$Walk" 18 "ProgramSlices$Walk" "code" "LProgramSlices$Code;" ∈ tb_W := tb_in (i := 161) (by decide +kernel) (by decide +kernel)
theorem tb_w397 : Cond.fieldLink "ProgramSlices$Walk" 22 "ProgramSlices$Walk" "dependences" "LProgramSlices$Dependences;" ∈ tb_W := tb_in (i := 162) (by decide +kernel) (by decide +kernel)
theorem tb_w398 : Cond.fieldLink "ProgramSlices$Walk" 9 "ProgramSlices$Walk" "found" "[I" ∈ tb_W := tb_in (i := 163) (by decide +kernel) (by decide +kernel)
theorem tb_w399 : Cond.fieldLink "ProgramSlices$Walk" 15 "ProgramSlices$Walk" "queue" "[I" ∈ tb_W := tb_in (i := 164) (by decide +kernel) (by decide +kernel)
theorem tb_w400 : Cond.fieldLink "ProgramSlices$Walk" 67 "ProgramSlices$Walk" "filled" "I" ∈ tb_W := tb_in (i := 165) (by decide +kernel) (by decide +kernel)
theorem tb_w401 : Cond.methodLink "ProgramSlices$Walk" 40 ⟨"ProgramSlices$Walk", "summariseEnd", "(II)Z"⟩ ∈ tb_W := tb_in (i := 527) (by decide +kernel) (by decide +kernel)
theorem tb_w402 : Cond.instanceMethod ⟨"ProgramSlices$Walk", "summariseEnd", "(II)Z"⟩ ∈ tb_W := tb_in (i := 529) (by decide +kernel) (by decide +kernel)
theorem tb_w403 : Cond.selects "ProgramSlices$Walk" ⟨"ProgramSlices$Walk", "summariseEnd", "(II)Z"⟩ ⟨"ProgramSlices$Walk", "summariseEnd", "(II)Z"⟩ ∈ tb_W := tb_inp (i := 17) (by decide +kernel) (by decide +kernel)
theorem tb_w404 : Cond.code ⟨"ProgramSlices$Walk", "summariseEnd", "(II)Z"⟩ prog_9_method_5_code 6 (some .boolean) ∈ tb_W := tb_in (i := 530) (by decide +kernel) (by decide +kernel)
theorem tb_w405 : Cond.methodLink "ProgramSlices$Walk" 26 ⟨"ProgramSlices$Walk", "begin", "(I)V"⟩ ∈ tb_W := tb_in (i := 532) (by decide +kernel) (by decide +kernel)
theorem tb_w406 : Cond.instanceMethod ⟨"ProgramSlices$Walk", "begin", "(I)V"⟩ ∈ tb_W := tb_in (i := 534) (by decide +kernel) (by decide +kernel)
theorem tb_w407 : Cond.selects "ProgramSlices$Walk" ⟨"ProgramSlices$Walk", "begin", "(I)V"⟩ ⟨"ProgramSlices$Walk", "begin", "(I)V"⟩ ∈ tb_W := tb_inp (i := 18) (by decide +kernel) (by decide +kernel)
theorem tb_w408 : Cond.code ⟨"ProgramSlices$Walk", "begin", "(I)V"⟩ prog_9_method_6_code 2 (none) ∈ tb_W := tb_in (i := 535) (by decide +kernel) (by decide +kernel)
theorem tb_w409 : Cond.methodLink "ProgramSlices$Walk" 61 ⟨"java/util/Arrays", "fill", "([II)V"⟩ ∈ tb_W := tb_in (i := 536) (by decide +kernel) (by decide +kernel)
theorem tb_w410 : Cond.methodLink "ProgramSlices$Walk" 70 ⟨"ProgramSlices$Walk", "put", "(I)V"⟩ ∈ tb_W := tb_in (i := 537) (by decide +kernel) (by decide +kernel)
theorem tb_w411 : Cond.instanceMethod ⟨"ProgramSlices$Walk", "put", "(I)V"⟩ ∈ tb_W := tb_in (i := 539) (by decide +kernel) (by decide +kernel)
theorem tb_w412 : Cond.selects "ProgramSlices$Walk" ⟨"ProgramSlices$Walk", "put", "(I)V"⟩ ⟨"ProgramSlices$Walk", "put", "(I)V"⟩ ∈ tb_W := tb_inp (i := 19) (by decide +kernel) (by decide +kernel)
theorem tb_w413 : Cond.code ⟨"ProgramSlices$Walk", "put", "(I)V"⟩ prog_9_method_7_code 3 (none) ∈ tb_W := tb_in (i := 540) (by decide +kernel) (by decide +kernel)
theorem tb_w414 : Cond.methodLink "ProgramSlices$Walk" 30 ⟨"ProgramSlices$Walk", "follow", "(IZ)V"⟩ ∈ tb_W := tb_in (i := 541) (by decide +kernel) (by decide +kernel)
theorem tb_w415 : Cond.instanceMethod ⟨"ProgramSlices$Walk", "follow", "(IZ)V"⟩ ∈ tb_W := tb_in (i := 543) (by decide +kernel) (by decide +kernel)
theorem tb_w416 : Cond.selects "ProgramSlices$Walk" ⟨"ProgramSlices$Walk", "follow", "(IZ)V"⟩ ⟨"ProgramSlices$Walk", "follow", "(IZ)V"⟩ ∈ tb_W := tb_inp (i := 20) (by decide +kernel) (by decide +kernel)
theorem tb_w417 : Cond.code ⟨"ProgramSlices$Walk", "follow", "(IZ)V"⟩ prog_9_method_9_code 6 (none) ∈ tb_W := tb_in (i := 544) (by decide +kernel) (by decide +kernel)
theorem tb_w418 : Cond.methodLink "ProgramSlices$Walk" 73 ⟨"ProgramSlices$Dependences", "neighbours", "(IIZ)I"⟩ ∈ tb_W := tb_in (i := 545) (by decide +kernel) (by decide +kernel)
theorem tb_w419 : Cond.instanceMethod ⟨"ProgramSlices$Dependences", "neighbours", "(IIZ)I"⟩ ∈ tb_W := tb_in (i := 546) (by decide +kernel) (by decide +kernel)
theorem tb_w420 : Cond.selects "ProgramSlices$Dependences" ⟨"ProgramSlices$Dependences", "neighbours", "(IIZ)I"⟩ ⟨"ProgramSlices$Dependences", "neighbours", "(IIZ)I"⟩ ∈ tb_W := tb_in (i := 547) (by decide +kernel) (by decide +kernel)
theorem tb_w421 : Cond.code ⟨"ProgramSlices$Dependences", "neighbours", "(IIZ)I"⟩ prog_3_method_3_code 4 (some .int) ∈ tb_W := tb_in (i := 548) (by decide +kernel) (by decide +kernel)
theorem tb_w422 : Cond.methodLink "ProgramSlices$Walk" 77 ⟨"ProgramSlices$Walk", "putAll", "(II)V"⟩ ∈ tb_W := tb_in (i := 549) (by decide +kernel) (by decide +kernel)
theorem tb_w423 : Cond.instanceMethod ⟨"ProgramSlices$Walk", "putAll", "(II)V"⟩ ∈ tb_W := tb_in (i := 551) (by decide +kernel) (by decide +kernel)
theorem tb_w424 : Cond.selects "ProgramSlices$Walk" ⟨"ProgramSlices$Walk", "putAll", "(II)V"⟩ ⟨"ProgramSlices$Walk", "putAll", "(II)V"⟩ ∈ tb_W := tb_inp (i := 21) (by decide +kernel) (by decide +kernel)
theorem tb_w425 : Cond.code ⟨"ProgramSlices$Walk", "putAll", "(II)V"⟩ prog_9_method_8_code 5 (none) ∈ tb_W := tb_in (i := 552) (by decide +kernel) (by decide +kernel)
theorem tb_w426 : Cond.methodLink "ProgramSlices$Walk" 81 ⟨"ProgramSlices$Walk", "partAt", "(I)I"⟩ ∈ tb_W := tb_in (i := 556) (by decide +kernel) (by decide +kernel)
theorem tb_w427 : Cond.static ⟨"ProgramSlices$Walk", "partAt", "(I)I"⟩ ∈ tb_W := tb_in (i := 557) (by decide +kernel) (by decide +kernel)
theorem tb_w428 : Cond.code ⟨"ProgramSlices$Walk", "partAt", "(I)I"⟩ prog_9_method_10_code 1 (some .int) ∈ tb_W := tb_in (i := 558) (by decide +kernel) (by decide +kernel)
theorem tb_w429 : Cond.methodLink "ProgramSlices$Walk" 85 ⟨"ProgramSlices$Walk", "callsBeyond", "(IZ)I"⟩ ∈ tb_W := tb_in (i := 559) (by decide +kernel) (by decide +kernel)
theorem tb_w430 : Cond.instanceMethod ⟨"ProgramSlices$Walk", "callsBeyond", "(IZ)I"⟩ ∈ tb_W := tb_in (i := 561) (by decide +kernel) (by decide +kernel)
theorem tb_w431 : Cond.selects "ProgramSlices$Walk" ⟨"ProgramSlices$Walk", "callsBeyond", "(IZ)I"⟩ ⟨"ProgramSlices$Walk", "callsBeyond", "(IZ)I"⟩ ∈ tb_W := tb_inp (i := 22) (by decide +kernel) (by decide +kernel)
theorem tb_w432 : Cond.code ⟨"ProgramSlices$Walk", "callsBeyond", "(IZ)I"⟩ prog_9_method_11_code 3 (some .int) ∈ tb_W := tb_in (i := 562) (by decide +kernel) (by decide +kernel)
theorem tb_w433 : Cond.methodLink "ProgramSlices$Walk" 92 ⟨"ProgramSlices$Walk", "isEnd", "(I)Z"⟩ ∈ tb_W := tb_in (i := 563) (by decide +kernel) (by decide +kernel)
theorem tb_w434 : Cond.static ⟨"ProgramSlices$Walk", "isEnd", "(I)Z"⟩ ∈ tb_W := tb_in (i := 564) (by decide +kernel) (by decide +kernel)
theorem tb_w435 : Cond.code ⟨"ProgramSlices$Walk", "isEnd", "(I)Z"⟩ prog_9_method_13_code 1 (some .boolean) ∈ tb_W := tb_in (i := 565) (by decide +kernel) (by decide +kernel)
theorem tb_w436 : Cond.methodLink "ProgramSlices$Walk" 96 ⟨"ProgramSlices$Dependences", "callsOf", "(I)I"⟩ ∈ tb_W := tb_in (i := 566) (by decide +kernel) (by decide +kernel)
theorem tb_w437 : Cond.instanceMethod ⟨"ProgramSlices$Dependences", "callsOf", "(I)I"⟩ ∈ tb_W := tb_in (i := 567) (by decide +kernel) (by decide +kernel)
theorem tb_w438 : Cond.selects "ProgramSlices$Dependences" ⟨"ProgramSlices$Dependences", "callsOf", "(I)I"⟩ ⟨"ProgramSlices$Dependences", "callsOf", "(I)I"⟩ ∈ tb_W := tb_in (i := 568) (by decide +kernel) (by decide +kernel)
theorem tb_w439 : Cond.code ⟨"ProgramSlices$Dependences", "callsOf", "(I)I"⟩ prog_3_method_2_code 2 (some .int) ∈ tb_W := tb_in (i := 569) (by decide +kernel) (by decide +kernel)
theorem tb_w440 : Cond.methodLink "ProgramSlices$Walk" 89 ⟨"ProgramSlices$Walk", "sideBeyond", "(IZ)I"⟩ ∈ tb_W := tb_in (i := 570) (by decide +kernel) (by decide +kernel)
theorem tb_w441 : Cond.instanceMethod ⟨"ProgramSlices$Walk", "sideBeyond", "(IZ)I"⟩ ∈ tb_W := tb_in (i := 572) (by decide +kernel) (by decide +kernel)
theorem tb_w442 : Cond.selects "ProgramSlices$Walk" ⟨"ProgramSlices$Walk", "sideBeyond", "(IZ)I"⟩ ⟨"ProgramSlices$Walk", "sideBeyond", "(IZ)I"⟩ ∈ tb_W := tb_inp (i := 23) (by decide +kernel) (by decide +kernel)
theorem tb_w443 : Cond.code ⟨"ProgramSlices$Walk", "sideBeyond", "(IZ)I"⟩ prog_9_method_12_code 4 (some .int) ∈ tb_W := tb_in (i := 573) (by decide +kernel) (by decide +kernel)
theorem tb_w444 : Cond.methodLink "ProgramSlices$Walk" 99 ⟨"ProgramSlices$Code", "isCall", "(I)Z"⟩ ∈ tb_W := tb_in (i := 574) (by decide +kernel) (by decide +kernel)
theorem tb_w445 : Cond.methodLink "ProgramSlices$Walk" 102 ⟨"ProgramSlices$Code", "callee", "(I)I"⟩ ∈ tb_W := tb_in (i := 575) (by decide +kernel) (by decide +kernel)
theorem tb_w446 : Cond.methodLink "ProgramSlices$Walk" 51 ⟨"ProgramSlices$Dependences", "isSummary", "(III)Z"⟩ ∈ tb_W := tb_in (i := 576) (by decide +kernel) (by decide +kernel)
theorem tb_w447 : Cond.methodLink "ProgramSlices$Walk" 57 ⟨"ProgramSlices$Dependences", "putSummary", "(III)V"⟩ ∈ tb_W := tb_in (i := 584) (by decide +kernel) (by decide +kernel)
theorem tb_w448 : Cond.instanceMethod ⟨"ProgramSlices$Dependences", "putSummary", "(III)V"⟩ ∈ tb_W := tb_in (i := 585) (by decide +kernel) (by decide +kernel)
theorem tb_w449 : Cond.selects "ProgramSlices$Dependences" ⟨"ProgramSlices$Dependences", "putSummary", "(III)V"⟩ ⟨"ProgramSlices$Dependences", "putSummary", "(III)V"⟩ ∈ tb_W := tb_in (i := 586) (by decide +kernel) (by decide +kernel)
theorem tb_w450 : Cond.code ⟨"ProgramSlices$Dependences", "putSummary", "(III)V"⟩ prog_3_method_7_code 5 (none) ∈ tb_W := tb_in (i := 587) (by decide +kernel) (by decide +kernel)
theorem tb_w451 : Cond.methodLink "ProgramSlices$Walk" 3 ⟨"java/lang/Object", "<init>", "()V"⟩ ∈ tb_W := tb_in (i := 160) (by decide +kernel) (by decide +kernel)
theorem tb_w452 : Cond.fieldLink "ProgramSlices$Machine" 111 "ProgramSlices$Code" "op" "[I" ∈ tb_W := tb_in (i := 31) (by decide +kernel) (by decide +kernel)
theorem tb_w453 : Cond.fieldLink "ProgramSlices$Machine" 136 "ProgramSlices$Code" "d" "[I" ∈ tb_W := tb_in (i := 36) (by decide +kernel) (by decide +kernel)
theorem tb_w454 : Cond.fieldLink "ProgramSlices$Machine" 123 "ProgramSlices$Code" "a" "[I" ∈ tb_W := tb_in (i := 40) (by decide +kernel) (by decide +kernel)
theorem tb_w455 : Cond.fieldLink "ProgramSlices$Machine" 129 "ProgramSlices$Code" "b" "[I" ∈ tb_W := tb_in (i := 43) (by decide +kernel) (by decide +kernel)
theorem tb_w456 : Cond.fieldLink "ProgramSlices$Machine" 104 "ProgramSlices$Code" "endOf" "[I" ∈ tb_W := tb_in (i := 55) (by decide +kernel) (by decide +kernel)
theorem tb_w457 : Cond.fieldLink "ProgramSlices$Machine" 158 "ProgramSlices$Code" "first" "[I" ∈ tb_W := tb_in (i := 61) (by decide +kernel) (by decide +kernel)
theorem tb_w458 : Cond.fieldLink "ProgramSlices$Machine" 81 "ProgramSlices$Code" "exit" "[I" ∈ tb_W := tb_in (i := 63) (by decide +kernel) (by decide +kernel)
theorem tb_w459 : Cond.fieldLink "ProgramSlices$Machine" 12 "ProgramSlices$Machine" "log" "LProgramSlices$Log;" ∈ tb_W := tb_in (i := 202) (by decide +kernel) (by decide +kernel)
theorem tb_w460 : Cond.fieldLink "ProgramSlices$Machine" 34 "ProgramSlices$Machine" "code" "LProgramSlices$Code;" ∈ tb_W := tb_in (i := 204) (by decide +kernel) (by decide +kernel)
theorem tb_w461 : Cond.fieldLink "ProgramSlices$Machine" 18 "ProgramSlices$Machine" "inputs" "[I" ∈ tb_W := tb_in (i := 205) (by decide +kernel) (by decide +kernel)
theorem tb_w462 : Cond.fieldLink "ProgramSlices$Machine" 22 "ProgramSlices$Machine" "heap" "[I" ∈ tb_W := tb_in (i := 206) (by decide +kernel) (by decide +kernel)
theorem tb_w463 : Cond.fieldLink "ProgramSlices$Machine" 25 "ProgramSlices$Machine" "variables" "[I" ∈ tb_W := tb_in (i := 207) (by decide +kernel) (by decide +kernel)
theorem tb_w464 : Cond.fieldLink "ProgramSlices$Machine" 28 "ProgramSlices$Machine" "procedure" "[I" ∈ tb_W := tb_in (i := 208) (by decide +kernel) (by decide +kernel)
theorem tb_w465 : Cond.fieldLink "ProgramSlices$Machine" 31 "ProgramSlices$Machine" "caller" "[I" ∈ tb_W := tb_in (i := 209) (by decide +kernel) (by decide +kernel)
theorem tb_w466 : Cond.fieldLink "ProgramSlices$Machine" 67 "ProgramSlices$Machine" "depth" "I" ∈ tb_W := tb_in (i := 210) (by decide +kernel) (by decide +kernel)
theorem tb_w467 : Cond.fieldLink "ProgramSlices$Machine" 78 "ProgramSlices$Machine" "at" "I" ∈ tb_W := tb_in (i := 211) (by decide +kernel) (by decide +kernel)
theorem tb_w468 : Cond.fieldLink "ProgramSlices$Machine" 45 "ProgramSlices$Machine" "done" "I" ∈ tb_W := tb_in (i := 212) (by decide +kernel) (by decide +kernel)
theorem tb_w469 : Cond.fieldLink "ProgramSlices$Machine" 58 "ProgramSlices$Machine" "fuel" "I" ∈ tb_W := tb_in (i := 213) (by decide +kernel) (by decide +kernel)
theorem tb_w470 : Cond.fieldLink "ProgramSlices$Machine" 55 "ProgramSlices$Machine" "allowed" "I" ∈ tb_W := tb_in (i := 214) (by decide +kernel) (by decide +kernel)
theorem tb_w471 : Cond.fieldLink "ProgramSlices$Machine" 61 "ProgramSlices$Machine" "watched" "I" ∈ tb_W := tb_in (i := 215) (by decide +kernel) (by decide +kernel)
theorem tb_w472 : Cond.fieldLink "ProgramSlices$Machine" 64 "ProgramSlices$Machine" "outcome" "I" ∈ tb_W := tb_in (i := 216) (by decide +kernel) (by decide +kernel)
theorem tb_w473 : Cond.fieldLink "ProgramSlices$Machine" 38 "ProgramSlices$Machine" "ran" "Z" ∈ tb_W := tb_in (i := 217) (by decide +kernel) (by decide +kernel)
theorem tb_w474 : Jvm.Cond.constant "ProgramSlices$Machine" 74 (1000000) ∈ tb_W := tb_in (i := 772) (by decide +kernel) (by decide +kernel)
theorem tb_w475 : Cond.code ⟨"ProgramSlices$Log", "<init>", "()V"⟩ prog_5_method_1_code 1 (none) ∈ tb_W := tb_in (i := 187) (by decide +kernel) (by decide +kernel)
theorem tb_w476 : Cond.instanceMethod ⟨"ProgramSlices$Log", "<init>", "()V"⟩ ∈ tb_W := tb_in (i := 186) (by decide +kernel) (by decide +kernel)
theorem tb_w477 : Cond.methodLink "ProgramSlices$Machine" 42 ⟨"ProgramSlices$Log", "empty", "()V"⟩ ∈ tb_W := tb_in (i := 375) (by decide +kernel) (by decide +kernel)
theorem tb_w478 : Cond.instanceMethod ⟨"ProgramSlices$Log", "empty", "()V"⟩ ∈ tb_W := tb_in (i := 376) (by decide +kernel) (by decide +kernel)
theorem tb_w479 : Cond.selects "ProgramSlices$Log" ⟨"ProgramSlices$Log", "empty", "()V"⟩ ⟨"ProgramSlices$Log", "empty", "()V"⟩ ∈ tb_W := tb_in (i := 377) (by decide +kernel) (by decide +kernel)
theorem tb_w480 : Cond.code ⟨"ProgramSlices$Log", "empty", "()V"⟩ prog_5_method_2_code 1 (none) ∈ tb_W := tb_in (i := 378) (by decide +kernel) (by decide +kernel)
theorem tb_w481 : Cond.methodLink "ProgramSlices$Machine" 49 ⟨"java/util/Arrays", "fill", "([II)V"⟩ ∈ tb_W := tb_in (i := 763) (by decide +kernel) (by decide +kernel)
theorem tb_w482 : Cond.methodLink "ProgramSlices$Machine" 70 ⟨"ProgramSlices$Machine", "enter", "(IIII)V"⟩ ∈ tb_W := tb_in (i := 764) (by decide +kernel) (by decide +kernel)
theorem tb_w483 : Cond.instanceMethod ⟨"ProgramSlices$Machine", "enter", "(IIII)V"⟩ ∈ tb_W := tb_in (i := 766) (by decide +kernel) (by decide +kernel)
theorem tb_w484 : Cond.selects "ProgramSlices$Machine" ⟨"ProgramSlices$Machine", "enter", "(IIII)V"⟩ ⟨"ProgramSlices$Machine", "enter", "(IIII)V"⟩ ∈ tb_W := tb_inp (i := 31) (by decide +kernel) (by decide +kernel)
theorem tb_w485 : Cond.code ⟨"ProgramSlices$Machine", "enter", "(IIII)V"⟩ prog_6_method_13_code 5 (none) ∈ tb_W := tb_in (i := 767) (by decide +kernel) (by decide +kernel)
theorem tb_w486 : Cond.methodLink "ProgramSlices$Machine" 145 ⟨"ProgramSlices$Machine", "setVariable", "(II)V"⟩ ∈ tb_W := tb_in (i := 768) (by decide +kernel) (by decide +kernel)
theorem tb_w487 : Cond.instanceMethod ⟨"ProgramSlices$Machine", "setVariable", "(II)V"⟩ ∈ tb_W := tb_in (i := 770) (by decide +kernel) (by decide +kernel)
theorem tb_w488 : Cond.selects "ProgramSlices$Machine" ⟨"ProgramSlices$Machine", "setVariable", "(II)V"⟩ ⟨"ProgramSlices$Machine", "setVariable", "(II)V"⟩ ∈ tb_W := tb_inp (i := 32) (by decide +kernel) (by decide +kernel)
theorem tb_w489 : Cond.code ⟨"ProgramSlices$Machine", "setVariable", "(II)V"⟩ prog_6_method_16_code 3 (none) ∈ tb_W := tb_in (i := 771) (by decide +kernel) (by decide +kernel)
theorem tb_w490 : Cond.methodLink "ProgramSlices$Machine" 75 ⟨"ProgramSlices$Machine", "takeTurn", "()V"⟩ ∈ tb_W := tb_in (i := 773) (by decide +kernel) (by decide +kernel)
theorem tb_w491 : Cond.instanceMethod ⟨"ProgramSlices$Machine", "takeTurn", "()V"⟩ ∈ tb_W := tb_in (i := 775) (by decide +kernel) (by decide +kernel)
theorem tb_w492 : Cond.selects "ProgramSlices$Machine" ⟨"ProgramSlices$Machine", "takeTurn", "()V"⟩ ⟨"ProgramSlices$Machine", "takeTurn", "()V"⟩ ∈ tb_W := tb_inp (i := 33) (by decide +kernel) (by decide +kernel)
theorem tb_w493 : Cond.code ⟨"ProgramSlices$Machine", "takeTurn", "()V"⟩ prog_6_method_6_code 1 (none) ∈ tb_W := tb_in (i := 776) (by decide +kernel) (by decide +kernel)
theorem tb_w494 : Cond.methodLink "ProgramSlices$Machine" 86 ⟨"ProgramSlices$Machine", "leave", "()V"⟩ ∈ tb_W := tb_in (i := 777) (by decide +kernel) (by decide +kernel)
theorem tb_w495 : Cond.instanceMethod ⟨"ProgramSlices$Machine", "leave", "()V"⟩ ∈ tb_W := tb_in (i := 779) (by decide +kernel) (by decide +kernel)
theorem tb_w496 : Cond.selects "ProgramSlices$Machine" ⟨"ProgramSlices$Machine", "leave", "()V"⟩ ⟨"ProgramSlices$Machine", "leave", "()V"⟩ ∈ tb_W := tb_inp (i := 34) (by decide +kernel) (by decide +kernel)
theorem tb_w497 : Cond.code ⟨"ProgramSlices$Machine", "leave", "()V"⟩ prog_6_method_14_code 3 (none) ∈ tb_W := tb_in (i := 780) (by decide +kernel) (by decide +kernel)
theorem tb_w498 : Cond.methodLink "ProgramSlices$Machine" 126 ⟨"ProgramSlices$Machine", "variable", "(I)I"⟩ ∈ tb_W := tb_in (i := 781) (by decide +kernel) (by decide +kernel)
theorem tb_w499 : Cond.instanceMethod ⟨"ProgramSlices$Machine", "variable", "(I)I"⟩ ∈ tb_W := tb_in (i := 783) (by decide +kernel) (by decide +kernel)
theorem tb_w500 : Cond.selects "ProgramSlices$Machine" ⟨"ProgramSlices$Machine", "variable", "(I)I"⟩ ⟨"ProgramSlices$Machine", "variable", "(I)I"⟩ ∈ tb_W := tb_inp (i := 35) (by decide +kernel) (by decide +kernel)
theorem tb_w501 : Cond.code ⟨"ProgramSlices$Machine", "variable", "(I)I"⟩ prog_6_method_15_code 2 (some .int) ∈ tb_W := tb_in (i := 784) (by decide +kernel) (by decide +kernel)
theorem tb_w502 : Cond.methodLink "ProgramSlices$Machine" 89 ⟨"ProgramSlices$Code", "isNode", "(I)Z"⟩ ∈ tb_W := tb_in (i := 785) (by decide +kernel) (by decide +kernel)
theorem tb_w503 : Cond.methodLink "ProgramSlices$Machine" 93 ⟨"ProgramSlices$Code", "behindMark", "(I)I"⟩ ∈ tb_W := tb_in (i := 786) (by decide +kernel) (by decide +kernel)
theorem tb_w504 : Cond.methodLink "ProgramSlices$Machine" 101 ⟨"ProgramSlices$Machine", "isBranch", "(I)Z"⟩ ∈ tb_W := tb_in (i := 788) (by decide +kernel) (by decide +kernel)
theorem tb_w505 : Cond.instanceMethod ⟨"ProgramSlices$Machine", "isBranch", "(I)Z"⟩ ∈ tb_W := tb_in (i := 790) (by decide +kernel) (by decide +kernel)
theorem tb_w506 : Cond.selects "ProgramSlices$Machine" ⟨"ProgramSlices$Machine", "isBranch", "(I)Z"⟩ ⟨"ProgramSlices$Machine", "isBranch", "(I)Z"⟩ ∈ tb_W := tb_inp (i := 36) (by decide +kernel) (by decide +kernel)
theorem tb_w507 : Cond.code ⟨"ProgramSlices$Machine", "isBranch", "(I)Z"⟩ prog_6_method_7_code 2 (some .boolean) ∈ tb_W := tb_in (i := 791) (by decide +kernel) (by decide +kernel)
theorem tb_w508 : Cond.methodLink "ProgramSlices$Machine" 107 ⟨"ProgramSlices$Machine", "take", "(I)V"⟩ ∈ tb_W := tb_in (i := 792) (by decide +kernel) (by decide +kernel)
theorem tb_w509 : Cond.instanceMethod ⟨"ProgramSlices$Machine", "take", "(I)V"⟩ ∈ tb_W := tb_in (i := 794) (by decide +kernel) (by decide +kernel)
theorem tb_w510 : Cond.selects "ProgramSlices$Machine" ⟨"ProgramSlices$Machine", "take", "(I)V"⟩ ⟨"ProgramSlices$Machine", "take", "(I)V"⟩ ∈ tb_W := tb_inp (i := 37) (by decide +kernel) (by decide +kernel)
theorem tb_w511 : Cond.code ⟨"ProgramSlices$Machine", "take", "(I)V"⟩ prog_6_method_8_code 3 (none) ∈ tb_W := tb_in (i := 795) (by decide +kernel) (by decide +kernel)
theorem tb_w512 : Cond.methodLink "ProgramSlices$Machine" 114 ⟨"ProgramSlices$Code", "isCall", "(I)Z"⟩ ∈ tb_W := tb_in (i := 796) (by decide +kernel) (by decide +kernel)
theorem tb_w513 : Cond.methodLink "ProgramSlices$Machine" 117 ⟨"ProgramSlices$Machine", "takeCall", "(I)V"⟩ ∈ tb_W := tb_in (i := 797) (by decide +kernel) (by decide +kernel)
theorem tb_w514 : Cond.instanceMethod ⟨"ProgramSlices$Machine", "takeCall", "(I)V"⟩ ∈ tb_W := tb_in (i := 799) (by decide +kernel) (by decide +kernel)
theorem tb_w515 : Cond.selects "ProgramSlices$Machine" ⟨"ProgramSlices$Machine", "takeCall", "(I)V"⟩ ⟨"ProgramSlices$Machine", "takeCall", "(I)V"⟩ ∈ tb_W := tb_inp (i := 38) (by decide +kernel) (by decide +kernel)
theorem tb_w516 : Cond.code ⟨"ProgramSlices$Machine", "takeCall", "(I)V"⟩ prog_6_method_9_code 2 (none) ∈ tb_W := tb_in (i := 800) (by decide +kernel) (by decide +kernel)
theorem tb_w517 : Cond.methodLink "ProgramSlices$Machine" 148 ⟨"ProgramSlices$Code", "callee", "(I)I"⟩ ∈ tb_W := tb_in (i := 801) (by decide +kernel) (by decide +kernel)
theorem tb_w518 : Cond.methodLink "ProgramSlices$Machine" 120 ⟨"ProgramSlices$Machine", "takeBranch", "(I)V"⟩ ∈ tb_W := tb_in (i := 802) (by decide +kernel) (by decide +kernel)
theorem tb_w519 : Cond.instanceMethod ⟨"ProgramSlices$Machine", "takeBranch", "(I)V"⟩ ∈ tb_W := tb_in (i := 804) (by decide +kernel) (by decide +kernel)
theorem tb_w520 : Cond.selects "ProgramSlices$Machine" ⟨"ProgramSlices$Machine", "takeBranch", "(I)V"⟩ ⟨"ProgramSlices$Machine", "takeBranch", "(I)V"⟩ ∈ tb_W := tb_inp (i := 39) (by decide +kernel) (by decide +kernel)
theorem tb_w521 : Cond.code ⟨"ProgramSlices$Machine", "takeBranch", "(I)V"⟩ prog_6_method_10_code 3 (none) ∈ tb_W := tb_in (i := 805) (by decide +kernel) (by decide +kernel)
theorem tb_w522 : Cond.methodLink "ProgramSlices$Machine" 132 ⟨"ProgramSlices$Machine", "note", "(II)V"⟩ ∈ tb_W := tb_in (i := 806) (by decide +kernel) (by decide +kernel)
theorem tb_w523 : Cond.instanceMethod ⟨"ProgramSlices$Machine", "note", "(II)V"⟩ ∈ tb_W := tb_in (i := 808) (by decide +kernel) (by decide +kernel)
theorem tb_w524 : Cond.selects "ProgramSlices$Machine" ⟨"ProgramSlices$Machine", "note", "(II)V"⟩ ⟨"ProgramSlices$Machine", "note", "(II)V"⟩ ∈ tb_W := tb_inp (i := 40) (by decide +kernel) (by decide +kernel)
theorem tb_w525 : Cond.code ⟨"ProgramSlices$Machine", "note", "(II)V"⟩ prog_6_method_17_code 3 (none) ∈ tb_W := tb_in (i := 809) (by decide +kernel) (by decide +kernel)
theorem tb_w526 : Cond.methodLink "ProgramSlices$Machine" 161 ⟨"ProgramSlices$Log", "noteValue", "(I)V"⟩ ∈ tb_W := tb_in (i := 810) (by decide +kernel) (by decide +kernel)
theorem tb_w527 : Cond.instanceMethod ⟨"ProgramSlices$Log", "noteValue", "(I)V"⟩ ∈ tb_W := tb_in (i := 811) (by decide +kernel) (by decide +kernel)
theorem tb_w528 : Cond.selects "ProgramSlices$Log" ⟨"ProgramSlices$Log", "noteValue", "(I)V"⟩ ⟨"ProgramSlices$Log", "noteValue", "(I)V"⟩ ∈ tb_W := tb_in (i := 812) (by decide +kernel) (by decide +kernel)
theorem tb_w529 : Cond.code ⟨"ProgramSlices$Log", "noteValue", "(I)V"⟩ prog_5_method_3_code 2 (none) ∈ tb_W := tb_in (i := 813) (by decide +kernel) (by decide +kernel)
theorem tb_w530 : Cond.methodLink "ProgramSlices$Machine" 151 ⟨"ProgramSlices$Code", "otherwise", "(I)I"⟩ ∈ tb_W := tb_in (i := 814) (by decide +kernel) (by decide +kernel)
theorem tb_w531 : Cond.methodLink "ProgramSlices$Machine" 139 ⟨"ProgramSlices$Log", "noteText", "(II)V"⟩ ∈ tb_W := tb_in (i := 815) (by decide +kernel) (by decide +kernel)
theorem tb_w532 : Cond.instanceMethod ⟨"ProgramSlices$Log", "noteText", "(II)V"⟩ ∈ tb_W := tb_in (i := 816) (by decide +kernel) (by decide +kernel)
theorem tb_w533 : Cond.selects "ProgramSlices$Log" ⟨"ProgramSlices$Log", "noteText", "(II)V"⟩ ⟨"ProgramSlices$Log", "noteText", "(II)V"⟩ ∈ tb_W := tb_in (i := 817) (by decide +kernel) (by decide +kernel)
theorem tb_w534 : Cond.code ⟨"ProgramSlices$Log", "noteText", "(II)V"⟩ prog_5_method_4_code 3 (none) ∈ tb_W := tb_in (i := 818) (by decide +kernel) (by decide +kernel)
theorem tb_w535 : Cond.methodLink "ProgramSlices$Machine" 142 ⟨"ProgramSlices$Machine", "newValue", "(I)I"⟩ ∈ tb_W := tb_in (i := 819) (by decide +kernel) (by decide +kernel)
theorem tb_w536 : Cond.instanceMethod ⟨"ProgramSlices$Machine", "newValue", "(I)I"⟩ ∈ tb_W := tb_in (i := 821) (by decide +kernel) (by decide +kernel)
theorem tb_w537 : Cond.selects "ProgramSlices$Machine" ⟨"ProgramSlices$Machine", "newValue", "(I)I"⟩ ⟨"ProgramSlices$Machine", "newValue", "(I)I"⟩ ∈ tb_W := tb_inp (i := 41) (by decide +kernel) (by decide +kernel)
theorem tb_w538 : Cond.code ⟨"ProgramSlices$Machine", "newValue", "(I)I"⟩ prog_6_method_11_code 2 (some .int) ∈ tb_W := tb_in (i := 822) (by decide +kernel) (by decide +kernel)
theorem tb_w539 : Cond.methodLink "ProgramSlices$Machine" 154 ⟨"ProgramSlices$Machine", "quotient", "(II)I"⟩ ∈ tb_W := tb_in (i := 823) (by decide +kernel) (by decide +kernel)
theorem tb_w540 : Cond.static ⟨"ProgramSlices$Machine", "quotient", "(II)I"⟩ ∈ tb_W := tb_in (i := 824) (by decide +kernel) (by decide +kernel)
theorem tb_w541 : Cond.code ⟨"ProgramSlices$Machine", "quotient", "(II)I"⟩ prog_6_method_12_code 2 (some .int) ∈ tb_W := tb_in (i := 825) (by decide +kernel) (by decide +kernel)
theorem tb_w542 : Cond.classLink "ProgramSlices$Machine" 9 "ProgramSlices$Log" ∈ tb_W := tb_in (i := 183) (by decide +kernel) (by decide +kernel)
theorem tb_w543 : Cond.instantiable "ProgramSlices$Log" 4 ∈ tb_W := tb_in (i := 184) (by decide +kernel) (by decide +kernel)
theorem tb_w544 : Cond.methodLink "ProgramSlices$Machine" 3 ⟨"java/lang/Object", "<init>", "()V"⟩ ∈ tb_W := tb_in (i := 182) (by decide +kernel) (by decide +kernel)
theorem tb_w545 : Cond.fieldLink "ProgramSlices$Log" 9 "ProgramSlices$Log" "values" "[I" ∈ tb_W := tb_in (i := 189) (by decide +kernel) (by decide +kernel)
theorem tb_w546 : Cond.fieldLink "ProgramSlices$Log" 21 "ProgramSlices$Log" "valueCount" "I" ∈ tb_W := tb_in (i := 190) (by decide +kernel) (by decide +kernel)
theorem tb_w547 : Cond.fieldLink "ProgramSlices$Log" 15 "ProgramSlices$Log" "texts" "[I" ∈ tb_W := tb_in (i := 191) (by decide +kernel) (by decide +kernel)
theorem tb_w548 : Cond.fieldLink "ProgramSlices$Log" 18 "ProgramSlices$Log" "textCounts" "[I" ∈ tb_W := tb_in (i := 192) (by decide +kernel) (by decide +kernel)
theorem tb_w549 : Cond.methodLink "ProgramSlices$Log" 25 ⟨"java/util/Arrays", "fill", "([II)V"⟩ ∈ tb_W := tb_in (i := 379) (by decide +kernel) (by decide +kernel)
theorem tb_w550 : Cond.methodLink "ProgramSlices$Log" 3 ⟨"java/lang/Object", "<init>", "()V"⟩ ∈ tb_W := tb_in (i := 188) (by decide +kernel) (by decide +kernel)
theorem tb_w551 : Cond.fieldLink "ProgramSlices$Order" 21 "ProgramSlices$Order" "count" "I" ∈ tb_W := tb_in (i := 255) (by decide +kernel) (by decide +kernel)
theorem tb_w552 : Cond.fieldLink "ProgramSlices$Order" 9 "ProgramSlices$Order" "above" "[I" ∈ tb_W := tb_in (i := 256) (by decide +kernel) (by decide +kernel)
theorem tb_w553 : Cond.fieldLink "ProgramSlices$Order" 15 "ProgramSlices$Order" "ofInput" "[I" ∈ tb_W := tb_in (i := 257) (by decide +kernel) (by decide +kernel)
theorem tb_w554 : Cond.fieldLink "ProgramSlices$Order" 18 "ProgramSlices$Order" "ofChannel" "[I" ∈ tb_W := tb_in (i := 258) (by decide +kernel) (by decide +kernel)
theorem tb_w555 : Cond.methodLink "ProgramSlices$Order" 25 ⟨"java/util/Arrays", "fill", "([II)V"⟩ ∈ tb_W := tb_in (i := 612) (by decide +kernel) (by decide +kernel)
theorem tb_w556 : Cond.methodLink "ProgramSlices$Order" 31 ⟨"ProgramSlices$Order", "isBelow", "(II)Z"⟩ ∈ tb_W := tb_in (i := 625) (by decide +kernel) (by decide +kernel)
theorem tb_w557 : Cond.instanceMethod ⟨"ProgramSlices$Order", "isBelow", "(II)Z"⟩ ∈ tb_W := tb_in (i := 626) (by decide +kernel) (by decide +kernel)
theorem tb_w558 : Cond.selects "ProgramSlices$Order" ⟨"ProgramSlices$Order", "isBelow", "(II)Z"⟩ ⟨"ProgramSlices$Order", "isBelow", "(II)Z"⟩ ∈ tb_W := tb_in (i := 627) (by decide +kernel) (by decide +kernel)
theorem tb_w559 : Cond.code ⟨"ProgramSlices$Order", "isBelow", "(II)Z"⟩ prog_7_method_5_code 3 (some .boolean) ∈ tb_W := tb_in (i := 628) (by decide +kernel) (by decide +kernel)
theorem tb_w560 : Cond.methodLink "ProgramSlices$Order" 38 ⟨"ProgramSlices$Order", "hasCircle", "()Z"⟩ ∈ tb_W := tb_in (i := 647) (by decide +kernel) (by decide +kernel)
theorem tb_w561 : Cond.instanceMethod ⟨"ProgramSlices$Order", "hasCircle", "()Z"⟩ ∈ tb_W := tb_in (i := 649) (by decide +kernel) (by decide +kernel)
theorem tb_w562 : Cond.selects "ProgramSlices$Order" ⟨"ProgramSlices$Order", "hasCircle", "()Z"⟩ ⟨"ProgramSlices$Order", "hasCircle", "()Z"⟩ ∈ tb_W := tb_inp (i := 25) (by decide +kernel) (by decide +kernel)
theorem tb_w563 : Cond.code ⟨"ProgramSlices$Order", "hasCircle", "()Z"⟩ prog_7_method_10_code 3 (some .boolean) ∈ tb_W := tb_in (i := 650) (by decide +kernel) (by decide +kernel)
theorem tb_w564 : Cond.methodLink "ProgramSlices$Order" 42 ⟨"ProgramSlices$Order", "allJoin", "()Z"⟩ ∈ tb_W := tb_in (i := 651) (by decide +kernel) (by decide +kernel)
theorem tb_w565 : Cond.instanceMethod ⟨"ProgramSlices$Order", "allJoin", "()Z"⟩ ∈ tb_W := tb_in (i := 653) (by decide +kernel) (by decide +kernel)
theorem tb_w566 : Cond.selects "ProgramSlices$Order" ⟨"ProgramSlices$Order", "allJoin", "()Z"⟩ ⟨"ProgramSlices$Order", "allJoin", "()Z"⟩ ∈ tb_W := tb_inp (i := 26) (by decide +kernel) (by decide +kernel)
theorem tb_w567 : Cond.code ⟨"ProgramSlices$Order", "allJoin", "()Z"⟩ prog_7_method_11_code 3 (some .boolean) ∈ tb_W := tb_in (i := 654) (by decide +kernel) (by decide +kernel)
theorem tb_w568 : Cond.methodLink "ProgramSlices$Order" 49 ⟨"ProgramSlices$Order", "hasLeast", "(I)Z"⟩ ∈ tb_W := tb_in (i := 655) (by decide +kernel) (by decide +kernel)
theorem tb_w569 : Cond.instanceMethod ⟨"ProgramSlices$Order", "hasLeast", "(I)Z"⟩ ∈ tb_W := tb_in (i := 657) (by decide +kernel) (by decide +kernel)
theorem tb_w570 : Cond.selects "ProgramSlices$Order" ⟨"ProgramSlices$Order", "hasLeast", "(I)Z"⟩ ⟨"ProgramSlices$Order", "hasLeast", "(I)Z"⟩ ∈ tb_W := tb_inp (i := 27) (by decide +kernel) (by decide +kernel)
theorem tb_w571 : Cond.code ⟨"ProgramSlices$Order", "hasLeast", "(I)Z"⟩ prog_7_method_12_code 3 (some .boolean) ∈ tb_W := tb_in (i := 658) (by decide +kernel) (by decide +kernel)
theorem tb_w572 : Cond.methodLink "ProgramSlices$Order" 45 ⟨"ProgramSlices$Order", "bottom", "()I"⟩ ∈ tb_W := tb_in (i := 659) (by decide +kernel) (by decide +kernel)
theorem tb_w573 : Cond.instanceMethod ⟨"ProgramSlices$Order", "bottom", "()I"⟩ ∈ tb_W := tb_in (i := 660) (by decide +kernel) (by decide +kernel)
theorem tb_w574 : Cond.selects "ProgramSlices$Order" ⟨"ProgramSlices$Order", "bottom", "()I"⟩ ⟨"ProgramSlices$Order", "bottom", "()I"⟩ ∈ tb_W := tb_in (i := 661) (by decide +kernel) (by decide +kernel)
theorem tb_w575 : Cond.code ⟨"ProgramSlices$Order", "bottom", "()I"⟩ prog_7_method_13_code 3 (some .int) ∈ tb_W := tb_in (i := 662) (by decide +kernel) (by decide +kernel)
theorem tb_w576 : Cond.methodLink "ProgramSlices$Order" 3 ⟨"java/lang/Object", "<init>", "()V"⟩ ∈ tb_W := tb_in (i := 254) (by decide +kernel) (by decide +kernel)
theorem tb_w577 : Cond.fieldLink "ProgramSlices$Flows" 43 "ProgramSlices$Code" "op" "[I" ∈ tb_W := tb_in (i := 29) (by decide +kernel) (by decide +kernel)
theorem tb_w578 : Cond.fieldLink "ProgramSlices$Flows" 64 "ProgramSlices$Code" "d" "[I" ∈ tb_W := tb_in (i := 35) (by decide +kernel) (by decide +kernel)
theorem tb_w579 : Cond.fieldLink "ProgramSlices$Flows" 70 "ProgramSlices$Code" "a" "[I" ∈ tb_W := tb_in (i := 39) (by decide +kernel) (by decide +kernel)
theorem tb_w580 : Cond.fieldLink "ProgramSlices$Flows" 23 "ProgramSlices$Code" "count" "I" ∈ tb_W := tb_in (i := 46) (by decide +kernel) (by decide +kernel)
theorem tb_w581 : Cond.fieldLink "ProgramSlices$Flows" 15 "ProgramSlices$Flows" "code" "LProgramSlices$Code;" ∈ tb_W := tb_in (i := 274) (by decide +kernel) (by decide +kernel)
theorem tb_w582 : Cond.fieldLink "ProgramSlices$Flows" 19 "ProgramSlices$Flows" "order" "LProgramSlices$Order;" ∈ tb_W := tb_in (i := 275) (by decide +kernel) (by decide +kernel)
theorem tb_w583 : Cond.fieldLink "ProgramSlices$Flows" 9 "ProgramSlices$Flows" "sources" "[I" ∈ tb_W := tb_in (i := 276) (by decide +kernel) (by decide +kernel)
theorem tb_w584 : Cond.methodLink "ProgramSlices$Flows" 29 ⟨"ProgramSlices$Flows", "isSink", "(I)Z"⟩ ∈ tb_W := tb_in (i := 592) (by decide +kernel) (by decide +kernel)
theorem tb_w585 : Cond.instanceMethod ⟨"ProgramSlices$Flows", "isSink", "(I)Z"⟩ ∈ tb_W := tb_in (i := 594) (by decide +kernel) (by decide +kernel)
theorem tb_w586 : Cond.selects "ProgramSlices$Flows" ⟨"ProgramSlices$Flows", "isSink", "(I)Z"⟩ ⟨"ProgramSlices$Flows", "isSink", "(I)Z"⟩ ∈ tb_W := tb_inp (i := 24) (by decide +kernel) (by decide +kernel)
theorem tb_w587 : Cond.code ⟨"ProgramSlices$Flows", "isSink", "(I)Z"⟩ prog_4_method_3_code 2 (some .boolean) ∈ tb_W := tb_in (i := 595) (by decide +kernel) (by decide +kernel)
theorem tb_w588 : Cond.methodLink "ProgramSlices$Flows" 33 ⟨"ProgramSlices$Walk", "takeSlice", "(IZ)V"⟩ ∈ tb_W := tb_in (i := 596) (by decide +kernel) (by decide +kernel)
theorem tb_w589 : Cond.methodLink "ProgramSlices$Flows" 39 ⟨"ProgramSlices$Walk", "word", "(I)I"⟩ ∈ tb_W := tb_in (i := 600) (by decide +kernel) (by decide +kernel)
theorem tb_w590 : Cond.instanceMethod ⟨"ProgramSlices$Walk", "word", "(I)I"⟩ ∈ tb_W := tb_in (i := 601) (by decide +kernel) (by decide +kernel)
theorem tb_w591 : Cond.selects "ProgramSlices$Walk" ⟨"ProgramSlices$Walk", "word", "(I)I"⟩ ⟨"ProgramSlices$Walk", "word", "(I)I"⟩ ∈ tb_W := tb_in (i := 602) (by decide +kernel) (by decide +kernel)
theorem tb_w592 : Cond.code ⟨"ProgramSlices$Walk", "word", "(I)I"⟩ prog_9_method_2_code 2 (some .int) ∈ tb_W := tb_in (i := 603) (by decide +kernel) (by decide +kernel)
theorem tb_w593 : Cond.methodLink "ProgramSlices$Flows" 46 ⟨"ProgramSlices$Flows", "inputsInto", "(I)I"⟩ ∈ tb_W := tb_in (i := 862) (by decide +kernel) (by decide +kernel)
theorem tb_w594 : Cond.instanceMethod ⟨"ProgramSlices$Flows", "inputsInto", "(I)I"⟩ ∈ tb_W := tb_in (i := 864) (by decide +kernel) (by decide +kernel)
theorem tb_w595 : Cond.selects "ProgramSlices$Flows" ⟨"ProgramSlices$Flows", "inputsInto", "(I)I"⟩ ⟨"ProgramSlices$Flows", "inputsInto", "(I)I"⟩ ∈ tb_W := tb_inp (i := 43) (by decide +kernel) (by decide +kernel)
theorem tb_w596 : Cond.code ⟨"ProgramSlices$Flows", "inputsInto", "(I)I"⟩ prog_4_method_6_code 5 (some .int) ∈ tb_W := tb_in (i := 865) (by decide +kernel) (by decide +kernel)
theorem tb_w597 : Cond.methodLink "ProgramSlices$Flows" 58 ⟨"ProgramSlices$Order", "bottom", "()I"⟩ ∈ tb_W := tb_in (i := 866) (by decide +kernel) (by decide +kernel)
theorem tb_w598 : Cond.methodLink "ProgramSlices$Flows" 67 ⟨"ProgramSlices$Order", "levelOfChannel", "(I)I"⟩ ∈ tb_W := tb_in (i := 867) (by decide +kernel) (by decide +kernel)
theorem tb_w599 : Cond.instanceMethod ⟨"ProgramSlices$Order", "levelOfChannel", "(I)I"⟩ ∈ tb_W := tb_in (i := 868) (by decide +kernel) (by decide +kernel)
theorem tb_w600 : Cond.selects "ProgramSlices$Order" ⟨"ProgramSlices$Order", "levelOfChannel", "(I)I"⟩ ⟨"ProgramSlices$Order", "levelOfChannel", "(I)I"⟩ ∈ tb_W := tb_in (i := 869) (by decide +kernel) (by decide +kernel)
theorem tb_w601 : Cond.code ⟨"ProgramSlices$Order", "levelOfChannel", "(I)I"⟩ prog_7_method_8_code 2 (some .int) ∈ tb_W := tb_in (i := 870) (by decide +kernel) (by decide +kernel)
theorem tb_w602 : Cond.methodLink "ProgramSlices$Flows" 73 ⟨"ProgramSlices$Order", "levelOfInput", "(I)I"⟩ ∈ tb_W := tb_in (i := 872) (by decide +kernel) (by decide +kernel)
theorem tb_w603 : Cond.instanceMethod ⟨"ProgramSlices$Order", "levelOfInput", "(I)I"⟩ ∈ tb_W := tb_in (i := 873) (by decide +kernel) (by decide +kernel)
theorem tb_w604 : Cond.selects "ProgramSlices$Order" ⟨"ProgramSlices$Order", "levelOfInput", "(I)I"⟩ ⟨"ProgramSlices$Order", "levelOfInput", "(I)I"⟩ ∈ tb_W := tb_in (i := 874) (by decide +kernel) (by decide +kernel)
theorem tb_w605 : Cond.code ⟨"ProgramSlices$Order", "levelOfInput", "(I)I"⟩ prog_7_method_7_code 2 (some .int) ∈ tb_W := tb_in (i := 875) (by decide +kernel) (by decide +kernel)
theorem tb_w606 : Cond.methodLink "ProgramSlices$Flows" 76 ⟨"ProgramSlices$Order", "isBelow", "(II)Z"⟩ ∈ tb_W := tb_in (i := 876) (by decide +kernel) (by decide +kernel)
theorem tb_w607 : Cond.methodLink "ProgramSlices$Flows" 3 ⟨"java/lang/Object", "<init>", "()V"⟩ ∈ tb_W := tb_in (i := 273) (by decide +kernel) (by decide +kernel)
theorem tb_w608 : Cond.fieldLink "ProgramSlices$Slice" 42 "ProgramSlices$Code" "count" "I" ∈ tb_W := tb_in (i := 49) (by decide +kernel) (by decide +kernel)
theorem tb_w609 : Cond.fieldLink "ProgramSlices$Slice" 9 "ProgramSlices$Slice" "words" "[I" ∈ tb_W := tb_in (i := 290) (by decide +kernel) (by decide +kernel)
theorem tb_w610 : Cond.fieldLink "ProgramSlices$Slice" 15 "ProgramSlices$Slice" "taken" "Z" ∈ tb_W := tb_in (i := 291) (by decide +kernel) (by decide +kernel)
theorem tb_w611 : Cond.fieldLink "ProgramSlices$Slice" 29 "ProgramSlices$Slice" "forward" "Z" ∈ tb_W := tb_in (i := 292) (by decide +kernel) (by decide +kernel)
theorem tb_w612 : Cond.fieldLink "ProgramSlices$Slice" 32 "ProgramSlices$Slice" "instruction" "I" ∈ tb_W := tb_in (i := 293) (by decide +kernel) (by decide +kernel)
theorem tb_w613 : Cond.methodLink "ProgramSlices$Slice" 19 ⟨"java/util/Arrays", "fill", "([II)V"⟩ ∈ tb_W := tb_in (i := 688) (by decide +kernel) (by decide +kernel)
theorem tb_w614 : Cond.methodLink "ProgramSlices$Slice" 25 ⟨"ProgramSlices$Slice", "join", "(LProgramSlices$Walk;)V"⟩ ∈ tb_W := tb_in (i := 689) (by decide +kernel) (by decide +kernel)
theorem tb_w615 : Cond.instanceMethod ⟨"ProgramSlices$Slice", "join", "(LProgramSlices$Walk;)V"⟩ ∈ tb_W := tb_in (i := 691) (by decide +kernel) (by decide +kernel)
theorem tb_w616 : Cond.selects "ProgramSlices$Slice" ⟨"ProgramSlices$Slice", "join", "(LProgramSlices$Walk;)V"⟩ ⟨"ProgramSlices$Slice", "join", "(LProgramSlices$Walk;)V"⟩ ∈ tb_W := tb_inp (i := 28) (by decide +kernel) (by decide +kernel)
theorem tb_w617 : Cond.code ⟨"ProgramSlices$Slice", "join", "(LProgramSlices$Walk;)V"⟩ prog_8_method_12_code 3 (none) ∈ tb_W := tb_in (i := 692) (by decide +kernel) (by decide +kernel)
theorem tb_w618 : Cond.methodLink "ProgramSlices$Slice" 76 ⟨"ProgramSlices$Walk", "word", "(I)I"⟩ ∈ tb_W := tb_in (i := 693) (by decide +kernel) (by decide +kernel)
theorem tb_w619 : Cond.methodLink "ProgramSlices$Slice" 47 ⟨"ProgramSlices$Code", "isCall", "(I)Z"⟩ ∈ tb_W := tb_in (i := 716) (by decide +kernel) (by decide +kernel)
theorem tb_w620 : Cond.methodLink "ProgramSlices$Slice" 51 ⟨"ProgramSlices$Code", "callee", "(I)I"⟩ ∈ tb_W := tb_in (i := 717) (by decide +kernel) (by decide +kernel)
theorem tb_w621 : Cond.methodLink "ProgramSlices$Slice" 54 ⟨"ProgramSlices$Slice", "fitCall", "(LProgramSlices$Walk;II)Z"⟩ ∈ tb_W := tb_in (i := 718) (by decide +kernel) (by decide +kernel)
theorem tb_w622 : Cond.instanceMethod ⟨"ProgramSlices$Slice", "fitCall", "(LProgramSlices$Walk;II)Z"⟩ ∈ tb_W := tb_in (i := 720) (by decide +kernel) (by decide +kernel)
theorem tb_w623 : Cond.selects "ProgramSlices$Slice" ⟨"ProgramSlices$Slice", "fitCall", "(LProgramSlices$Walk;II)Z"⟩ ⟨"ProgramSlices$Slice", "fitCall", "(LProgramSlices$Walk;II)Z"⟩ ∈ tb_W := tb_inp (i := 29) (by decide +kernel) (by decide +kernel)
theorem tb_w624 : Cond.code ⟨"ProgramSlices$Slice", "fitCall", "(LProgramSlices$Walk;II)Z"⟩ prog_8_method_10_code 6 (some .boolean) ∈ tb_W := tb_in (i := 721) (by decide +kernel) (by decide +kernel)
theorem tb_w625 : Cond.methodLink "ProgramSlices$Slice" 58 ⟨"ProgramSlices$Slice", "lacks", "(III)Z"⟩ ∈ tb_W := tb_in (i := 722) (by decide +kernel) (by decide +kernel)
theorem tb_w626 : Cond.instanceMethod ⟨"ProgramSlices$Slice", "lacks", "(III)Z"⟩ ∈ tb_W := tb_in (i := 724) (by decide +kernel) (by decide +kernel)
theorem tb_w627 : Cond.selects "ProgramSlices$Slice" ⟨"ProgramSlices$Slice", "lacks", "(III)Z"⟩ ⟨"ProgramSlices$Slice", "lacks", "(III)Z"⟩ ∈ tb_W := tb_inp (i := 30) (by decide +kernel) (by decide +kernel)
theorem tb_w628 : Cond.code ⟨"ProgramSlices$Slice", "lacks", "(III)Z"⟩ prog_8_method_11_code 4 (some .boolean) ∈ tb_W := tb_in (i := 725) (by decide +kernel) (by decide +kernel)
theorem tb_w629 : Cond.methodLink "ProgramSlices$Slice" 66 ⟨"ProgramSlices$Walk", "takeSlice", "(IZ)V"⟩ ∈ tb_W := tb_in (i := 728) (by decide +kernel) (by decide +kernel)
theorem tb_w630 : Cond.methodLink "ProgramSlices$Slice" 3 ⟨"java/lang/Object", "<init>", "()V"⟩ ∈ tb_W := tb_in (i := 289) (by decide +kernel) (by decide +kernel)
theorem tb_w631 : Cond.fieldLink "ProgramSlicesModel" 104 "ProgramSlicesModel" "count" "I" ∈ tb_W := tb_in (i := 892) (by decide +kernel) (by decide +kernel)
theorem tb_w632 : Cond.fieldLink "ProgramSlicesModel" 7 "ProgramSlicesModel" "op" "[I" ∈ tb_W := tb_in (i := 893) (by decide +kernel) (by decide +kernel)
theorem tb_w633 : Cond.fieldLink "ProgramSlicesModel" 13 "ProgramSlicesModel" "d" "[I" ∈ tb_W := tb_in (i := 894) (by decide +kernel) (by decide +kernel)
theorem tb_w634 : Cond.fieldLink "ProgramSlicesModel" 16 "ProgramSlicesModel" "a" "[I" ∈ tb_W := tb_in (i := 895) (by decide +kernel) (by decide +kernel)
theorem tb_w635 : Cond.fieldLink "ProgramSlicesModel" 19 "ProgramSlicesModel" "b" "[I" ∈ tb_W := tb_in (i := 896) (by decide +kernel) (by decide +kernel)
theorem tb_w636 : Cond.fieldLink "ProgramSlicesModel" 100 "ProgramSlicesModel" "built" "Z" ∈ tb_W := tb_in (i := 897) (by decide +kernel) (by decide +kernel)
theorem tb_w637 : Cond.fieldLink "ProgramSlicesModel" 117 "ProgramSlicesModel" "procs" "I" ∈ tb_W := tb_in (i := 898) (by decide +kernel) (by decide +kernel)
theorem tb_w638 : Cond.fieldLink "ProgramSlicesModel" 22 "ProgramSlicesModel" "begin" "[I" ∈ tb_W := tb_in (i := 899) (by decide +kernel) (by decide +kernel)
theorem tb_w639 : Cond.fieldLink "ProgramSlicesModel" 25 "ProgramSlicesModel" "end" "[I" ∈ tb_W := tb_in (i := 900) (by decide +kernel) (by decide +kernel)
theorem tb_w640 : Cond.fieldLink "ProgramSlicesModel" 28 "ProgramSlicesModel" "inProc" "[I" ∈ tb_W := tb_in (i := 901) (by decide +kernel) (by decide +kernel)
theorem tb_w641 : Cond.fieldLink "ProgramSlicesModel" 31 "ProgramSlicesModel" "around" "[I" ∈ tb_W := tb_in (i := 902) (by decide +kernel) (by decide +kernel)
theorem tb_w642 : Cond.fieldLink "ProgramSlicesModel" 34 "ProgramSlicesModel" "elseOf" "[I" ∈ tb_W := tb_in (i := 903) (by decide +kernel) (by decide +kernel)
theorem tb_w643 : Cond.fieldLink "ProgramSlicesModel" 37 "ProgramSlicesModel" "endOf" "[I" ∈ tb_W := tb_in (i := 904) (by decide +kernel) (by decide +kernel)
theorem tb_w644 : Cond.fieldLink "ProgramSlicesModel" 40 "ProgramSlicesModel" "headOf" "[I" ∈ tb_W := tb_in (i := 905) (by decide +kernel) (by decide +kernel)
theorem tb_w645 : Cond.fieldLink "ProgramSlicesModel" 43 "ProgramSlicesModel" "stack" "[I" ∈ tb_W := tb_in (i := 906) (by decide +kernel) (by decide +kernel)
theorem tb_w646 : Cond.fieldLink "ProgramSlicesModel" 46 "ProgramSlicesModel" "reach" "[J" ∈ tb_W := tb_in (i := 907) (by decide +kernel) (by decide +kernel)
theorem tb_w647 : Cond.fieldLink "ProgramSlicesModel" 50 "ProgramSlicesModel" "inside" "[J" ∈ tb_W := tb_in (i := 908) (by decide +kernel) (by decide +kernel)
theorem tb_w648 : Cond.fieldLink "ProgramSlicesModel" 53 "ProgramSlicesModel" "up" "[J" ∈ tb_W := tb_in (i := 909) (by decide +kernel) (by decide +kernel)
theorem tb_w649 : Cond.fieldLink "ProgramSlicesModel" 56 "ProgramSlicesModel" "down" "[J" ∈ tb_W := tb_in (i := 910) (by decide +kernel) (by decide +kernel)
theorem tb_w650 : Cond.fieldLink "ProgramSlicesModel" 59 "ProgramSlicesModel" "set" "[J" ∈ tb_W := tb_in (i := 911) (by decide +kernel) (by decide +kernel)
theorem tb_w651 : Cond.fieldLink "ProgramSlicesModel" 111 "ProgramSlicesModel" "sliceKind" "I" ∈ tb_W := tb_in (i := 912) (by decide +kernel) (by decide +kernel)
theorem tb_w652 : Cond.fieldLink "ProgramSlicesModel" 217 "ProgramSlicesModel" "sliceOf" "I" ∈ tb_W := tb_in (i := 913) (by decide +kernel) (by decide +kernel)
theorem tb_w653 : Cond.fieldLink "ProgramSlicesModel" 62 "ProgramSlicesModel" "slice" "[J" ∈ tb_W := tb_in (i := 914) (by decide +kernel) (by decide +kernel)
theorem tb_w654 : Cond.fieldLink "ProgramSlicesModel" 65 "ProgramSlicesModel" "inputs" "[I" ∈ tb_W := tb_in (i := 915) (by decide +kernel) (by decide +kernel)
theorem tb_w655 : Cond.fieldLink "ProgramSlicesModel" 114 "ProgramSlicesModel" "ran" "Z" ∈ tb_W := tb_in (i := 916) (by decide +kernel) (by decide +kernel)
theorem tb_w656 : Cond.fieldLink "ProgramSlicesModel" 227 "ProgramSlicesModel" "steps" "I" ∈ tb_W := tb_in (i := 917) (by decide +kernel) (by decide +kernel)
theorem tb_w657 : Cond.fieldLink "ProgramSlicesModel" 230 "ProgramSlicesModel" "depth" "I" ∈ tb_W := tb_in (i := 918) (by decide +kernel) (by decide +kernel)
theorem tb_w658 : Cond.fieldLink "ProgramSlicesModel" 68 "ProgramSlicesModel" "xs" "[I" ∈ tb_W := tb_in (i := 919) (by decide +kernel) (by decide +kernel)
theorem tb_w659 : Cond.fieldLink "ProgramSlicesModel" 71 "ProgramSlicesModel" "callers" "[I" ∈ tb_W := tb_in (i := 920) (by decide +kernel) (by decide +kernel)
theorem tb_w660 : Cond.fieldLink "ProgramSlicesModel" 74 "ProgramSlicesModel" "heap" "[I" ∈ tb_W := tb_in (i := 921) (by decide +kernel) (by decide +kernel)
theorem tb_w661 : Cond.fieldLink "ProgramSlicesModel" 233 "ProgramSlicesModel" "seenCount" "I" ∈ tb_W := tb_in (i := 922) (by decide +kernel) (by decide +kernel)
theorem tb_w662 : Cond.fieldLink "ProgramSlicesModel" 77 "ProgramSlicesModel" "seenValue" "[I" ∈ tb_W := tb_in (i := 923) (by decide +kernel) (by decide +kernel)
theorem tb_w663 : Cond.fieldLink "ProgramSlicesModel" 80 "ProgramSlicesModel" "outCount" "[I" ∈ tb_W := tb_in (i := 924) (by decide +kernel) (by decide +kernel)
theorem tb_w664 : Cond.fieldLink "ProgramSlicesModel" 83 "ProgramSlicesModel" "outValue" "[I" ∈ tb_W := tb_in (i := 925) (by decide +kernel) (by decide +kernel)
theorem tb_w665 : Cond.fieldLink "ProgramSlicesModel" 86 "ProgramSlicesModel" "levels" "I" ∈ tb_W := tb_in (i := 926) (by decide +kernel) (by decide +kernel)
theorem tb_w666 : Cond.fieldLink "ProgramSlicesModel" 90 "ProgramSlicesModel" "order" "[Z" ∈ tb_W := tb_in (i := 927) (by decide +kernel) (by decide +kernel)
theorem tb_w667 : Cond.fieldLink "ProgramSlicesModel" 94 "ProgramSlicesModel" "inputLevel" "[I" ∈ tb_W := tb_in (i := 928) (by decide +kernel) (by decide +kernel)
theorem tb_w668 : Cond.fieldLink "ProgramSlicesModel" 97 "ProgramSlicesModel" "channelLevel" "[I" ∈ tb_W := tb_in (i := 929) (by decide +kernel) (by decide +kernel)
theorem tb_w669 : Jvm.Cond.constant "ProgramSlicesModel" 236 (1000000) ∈ tb_W := tb_in (i := 1170) (by decide +kernel) (by decide +kernel)
theorem tb_w670 : Cond.methodLink "ProgramSlicesModel" 107 ⟨"ProgramSlicesModel", "four", "(I)Z"⟩ ∈ tb_W := tb_in (i := 1012) (by decide +kernel) (by decide +kernel)
theorem tb_w671 : Cond.static ⟨"ProgramSlicesModel", "four", "(I)Z"⟩ ∈ tb_W := tb_in (i := 1013) (by decide +kernel) (by decide +kernel)
theorem tb_w672 : Cond.initialized "ProgramSlicesModel" ∈ tb_W := tb_in (i := 11) (by decide +kernel) (by decide +kernel)
theorem tb_w673 : Cond.code ⟨"ProgramSlicesModel", "four", "(I)Z"⟩ prog_12_method_2_code 1 (some .boolean) ∈ tb_W := tb_in (i := 1014) (by decide +kernel) (by decide +kernel)
theorem tb_w674 : Cond.methodLink "ProgramSlicesModel" 120 ⟨"ProgramSlicesModel", "structure", "()I"⟩ ∈ tb_W := tb_in (i := 1023) (by decide +kernel) (by decide +kernel)
theorem tb_w675 : Cond.instanceMethod ⟨"ProgramSlicesModel", "structure", "()I"⟩ ∈ tb_W := tb_in (i := 1025) (by decide +kernel) (by decide +kernel)
theorem tb_w676 : Cond.selects "ProgramSlicesModel" ⟨"ProgramSlicesModel", "structure", "()I"⟩ ⟨"ProgramSlicesModel", "structure", "()I"⟩ ∈ tb_W := tb_inp (i := 44) (by decide +kernel) (by decide +kernel)
theorem tb_w677 : Cond.code ⟨"ProgramSlicesModel", "structure", "()I"⟩ prog_12_method_6_code 4 (some .int) ∈ tb_W := tb_in (i := 1026) (by decide +kernel) (by decide +kernel)
theorem tb_w678 : Cond.methodLink "ProgramSlicesModel" 124 ⟨"ProgramSlicesModel", "isCall", "(I)Z"⟩ ∈ tb_W := tb_in (i := 1027) (by decide +kernel) (by decide +kernel)
theorem tb_w679 : Cond.instanceMethod ⟨"ProgramSlicesModel", "isCall", "(I)Z"⟩ ∈ tb_W := tb_in (i := 1029) (by decide +kernel) (by decide +kernel)
theorem tb_w680 : Cond.selects "ProgramSlicesModel" ⟨"ProgramSlicesModel", "isCall", "(I)Z"⟩ ⟨"ProgramSlicesModel", "isCall", "(I)Z"⟩ ∈ tb_W := tb_inp (i := 45) (by decide +kernel) (by decide +kernel)
theorem tb_w681 : Cond.code ⟨"ProgramSlicesModel", "isCall", "(I)Z"⟩ prog_12_method_3_code 2 (some .boolean) ∈ tb_W := tb_in (i := 1030) (by decide +kernel) (by decide +kernel)
theorem tb_w682 : Cond.methodLink "ProgramSlicesModel" 127 ⟨"ProgramSlicesModel", "ways", "()V"⟩ ∈ tb_W := tb_in (i := 1031) (by decide +kernel) (by decide +kernel)
theorem tb_w683 : Cond.instanceMethod ⟨"ProgramSlicesModel", "ways", "()V"⟩ ∈ tb_W := tb_in (i := 1033) (by decide +kernel) (by decide +kernel)
theorem tb_w684 : Cond.selects "ProgramSlicesModel" ⟨"ProgramSlicesModel", "ways", "()V"⟩ ⟨"ProgramSlicesModel", "ways", "()V"⟩ ∈ tb_W := tb_inp (i := 46) (by decide +kernel) (by decide +kernel)
theorem tb_w685 : Cond.code ⟨"ProgramSlicesModel", "ways", "()V"⟩ prog_12_method_10_code 4 (none) ∈ tb_W := tb_in (i := 1034) (by decide +kernel) (by decide +kernel)
theorem tb_w686 : Cond.methodLink "ProgramSlicesModel" 137 ⟨"ProgramSlicesModel", "way", "(II)I"⟩ ∈ tb_W := tb_in (i := 1035) (by decide +kernel) (by decide +kernel)
theorem tb_w687 : Cond.instanceMethod ⟨"ProgramSlicesModel", "way", "(II)I"⟩ ∈ tb_W := tb_in (i := 1037) (by decide +kernel) (by decide +kernel)
theorem tb_w688 : Cond.selects "ProgramSlicesModel" ⟨"ProgramSlicesModel", "way", "(II)I"⟩ ⟨"ProgramSlicesModel", "way", "(II)I"⟩ ∈ tb_W := tb_inp (i := 47) (by decide +kernel) (by decide +kernel)
theorem tb_w689 : Cond.code ⟨"ProgramSlicesModel", "way", "(II)I"⟩ prog_12_method_9_code 4 (some .int) ∈ tb_W := tb_in (i := 1038) (by decide +kernel) (by decide +kernel)
theorem tb_w690 : Cond.methodLink "ProgramSlicesModel" 133 ⟨"ProgramSlicesModel", "behind", "(II)I"⟩ ∈ tb_W := tb_in (i := 1039) (by decide +kernel) (by decide +kernel)
theorem tb_w691 : Cond.instanceMethod ⟨"ProgramSlicesModel", "behind", "(II)I"⟩ ∈ tb_W := tb_in (i := 1041) (by decide +kernel) (by decide +kernel)
theorem tb_w692 : Cond.selects "ProgramSlicesModel" ⟨"ProgramSlicesModel", "behind", "(II)I"⟩ ⟨"ProgramSlicesModel", "behind", "(II)I"⟩ ∈ tb_W := tb_inp (i := 48) (by decide +kernel) (by decide +kernel)
theorem tb_w693 : Cond.code ⟨"ProgramSlicesModel", "behind", "(II)I"⟩ prog_12_method_8_code 3 (some .int) ∈ tb_W := tb_in (i := 1042) (by decide +kernel) (by decide +kernel)
theorem tb_w694 : Cond.methodLink "ProgramSlicesModel" 130 ⟨"ProgramSlicesModel", "dependences", "()V"⟩ ∈ tb_W := tb_in (i := 1043) (by decide +kernel) (by decide +kernel)
theorem tb_w695 : Cond.instanceMethod ⟨"ProgramSlicesModel", "dependences", "()V"⟩ ∈ tb_W := tb_in (i := 1045) (by decide +kernel) (by decide +kernel)
theorem tb_w696 : Cond.selects "ProgramSlicesModel" ⟨"ProgramSlicesModel", "dependences", "()V"⟩ ⟨"ProgramSlicesModel", "dependences", "()V"⟩ ∈ tb_W := tb_inp (i := 49) (by decide +kernel) (by decide +kernel)
theorem tb_w697 : Cond.code ⟨"ProgramSlicesModel", "dependences", "()V"⟩ prog_12_method_29_code 4 (none) ∈ tb_W := tb_in (i := 1046) (by decide +kernel) (by decide +kernel)
theorem tb_w698 : Cond.methodLink "ProgramSlicesModel" 188 ⟨"ProgramSlicesModel", "how", "(II)I"⟩ ∈ tb_W := tb_in (i := 1047) (by decide +kernel) (by decide +kernel)
theorem tb_w699 : Cond.instanceMethod ⟨"ProgramSlicesModel", "how", "(II)I"⟩ ∈ tb_W := tb_in (i := 1049) (by decide +kernel) (by decide +kernel)
theorem tb_w700 : Cond.selects "ProgramSlicesModel" ⟨"ProgramSlicesModel", "how", "(II)I"⟩ ⟨"ProgramSlicesModel", "how", "(II)I"⟩ ∈ tb_W := tb_inp (i := 50) (by decide +kernel) (by decide +kernel)
theorem tb_w701 : Cond.code ⟨"ProgramSlicesModel", "how", "(II)I"⟩ prog_12_method_26_code 3 (some .int) ∈ tb_W := tb_in (i := 1050) (by decide +kernel) (by decide +kernel)
theorem tb_w702 : Cond.methodLink "ProgramSlicesModel" 174 ⟨"ProgramSlicesModel", "exists", "(I)Z"⟩ ∈ tb_W := tb_in (i := 1051) (by decide +kernel) (by decide +kernel)
theorem tb_w703 : Cond.instanceMethod ⟨"ProgramSlicesModel", "exists", "(I)Z"⟩ ∈ tb_W := tb_in (i := 1053) (by decide +kernel) (by decide +kernel)
theorem tb_w704 : Cond.selects "ProgramSlicesModel" ⟨"ProgramSlicesModel", "exists", "(I)Z"⟩ ⟨"ProgramSlicesModel", "exists", "(I)Z"⟩ ∈ tb_W := tb_inp (i := 51) (by decide +kernel) (by decide +kernel)
theorem tb_w705 : Cond.code ⟨"ProgramSlicesModel", "exists", "(I)Z"⟩ prog_12_method_16_code 3 (some .boolean) ∈ tb_W := tb_in (i := 1054) (by decide +kernel) (by decide +kernel)
theorem tb_w706 : Cond.methodLink "ProgramSlicesModel" 161 ⟨"ProgramSlicesModel", "procedure", "(I)I"⟩ ∈ tb_W := tb_in (i := 1055) (by decide +kernel) (by decide +kernel)
theorem tb_w707 : Cond.instanceMethod ⟨"ProgramSlicesModel", "procedure", "(I)I"⟩ ∈ tb_W := tb_in (i := 1057) (by decide +kernel) (by decide +kernel)
theorem tb_w708 : Cond.selects "ProgramSlicesModel" ⟨"ProgramSlicesModel", "procedure", "(I)I"⟩ ⟨"ProgramSlicesModel", "procedure", "(I)I"⟩ ∈ tb_W := tb_inp (i := 52) (by decide +kernel) (by decide +kernel)
theorem tb_w709 : Cond.code ⟨"ProgramSlicesModel", "procedure", "(I)I"⟩ prog_12_method_20_code 2 (some .int) ∈ tb_W := tb_in (i := 1058) (by decide +kernel) (by decide +kernel)
theorem tb_w710 : Cond.methodLink "ProgramSlicesModel" 148 ⟨"ProgramSlicesModel", "at", "(I)I"⟩ ∈ tb_W := tb_in (i := 1059) (by decide +kernel) (by decide +kernel)
theorem tb_w711 : Cond.static ⟨"ProgramSlicesModel", "at", "(I)I"⟩ ∈ tb_W := tb_in (i := 1060) (by decide +kernel) (by decide +kernel)
theorem tb_w712 : Cond.code ⟨"ProgramSlicesModel", "at", "(I)I"⟩ prog_12_method_19_code 1 (some .int) ∈ tb_W := tb_in (i := 1061) (by decide +kernel) (by decide +kernel)
theorem tb_w713 : Cond.methodLink "ProgramSlicesModel" 177 ⟨"ProgramSlicesModel", "control", "(II)Z"⟩ ∈ tb_W := tb_in (i := 1062) (by decide +kernel) (by decide +kernel)
theorem tb_w714 : Cond.instanceMethod ⟨"ProgramSlicesModel", "control", "(II)Z"⟩ ∈ tb_W := tb_in (i := 1064) (by decide +kernel) (by decide +kernel)
theorem tb_w715 : Cond.selects "ProgramSlicesModel" ⟨"ProgramSlicesModel", "control", "(II)Z"⟩ ⟨"ProgramSlicesModel", "control", "(II)Z"⟩ ∈ tb_W := tb_inp (i := 53) (by decide +kernel) (by decide +kernel)
theorem tb_w716 : Cond.code ⟨"ProgramSlicesModel", "control", "(II)Z"⟩ prog_12_method_22_code 4 (some .boolean) ∈ tb_W := tb_in (i := 1065) (by decide +kernel) (by decide +kernel)
theorem tb_w717 : Cond.methodLink "ProgramSlicesModel" 180 ⟨"ProgramSlicesModel", "data", "(II)Z"⟩ ∈ tb_W := tb_in (i := 1066) (by decide +kernel) (by decide +kernel)
theorem tb_w718 : Cond.instanceMethod ⟨"ProgramSlicesModel", "data", "(II)Z"⟩ ∈ tb_W := tb_in (i := 1068) (by decide +kernel) (by decide +kernel)
theorem tb_w719 : Cond.selects "ProgramSlicesModel" ⟨"ProgramSlicesModel", "data", "(II)Z"⟩ ⟨"ProgramSlicesModel", "data", "(II)Z"⟩ ∈ tb_W := tb_inp (i := 54) (by decide +kernel) (by decide +kernel)
theorem tb_w720 : Cond.code ⟨"ProgramSlicesModel", "data", "(II)Z"⟩ prog_12_method_23_code 6 (some .boolean) ∈ tb_W := tb_in (i := 1069) (by decide +kernel) (by decide +kernel)
theorem tb_w721 : Cond.methodLink "ProgramSlicesModel" 152 ⟨"ProgramSlicesModel", "role", "(I)I"⟩ ∈ tb_W := tb_in (i := 1070) (by decide +kernel) (by decide +kernel)
theorem tb_w722 : Cond.static ⟨"ProgramSlicesModel", "role", "(I)I"⟩ ∈ tb_W := tb_in (i := 1071) (by decide +kernel) (by decide +kernel)
theorem tb_w723 : Cond.code ⟨"ProgramSlicesModel", "role", "(I)I"⟩ prog_12_method_18_code 1 (some .int) ∈ tb_W := tb_in (i := 1072) (by decide +kernel) (by decide +kernel)
theorem tb_w724 : Cond.methodLink "ProgramSlicesModel" 155 ⟨"ProgramSlicesModel", "part", "(I)I"⟩ ∈ tb_W := tb_in (i := 1073) (by decide +kernel) (by decide +kernel)
theorem tb_w725 : Cond.static ⟨"ProgramSlicesModel", "part", "(I)I"⟩ ∈ tb_W := tb_in (i := 1074) (by decide +kernel) (by decide +kernel)
theorem tb_w726 : Cond.code ⟨"ProgramSlicesModel", "part", "(I)I"⟩ prog_12_method_17_code 1 (some .int) ∈ tb_W := tb_in (i := 1075) (by decide +kernel) (by decide +kernel)
theorem tb_w727 : Cond.methodLink "ProgramSlicesModel" 158 ⟨"ProgramSlicesModel", "reads", "(II)Z"⟩ ∈ tb_W := tb_in (i := 1076) (by decide +kernel) (by decide +kernel)
theorem tb_w728 : Cond.instanceMethod ⟨"ProgramSlicesModel", "reads", "(II)Z"⟩ ∈ tb_W := tb_in (i := 1078) (by decide +kernel) (by decide +kernel)
theorem tb_w729 : Cond.selects "ProgramSlicesModel" ⟨"ProgramSlicesModel", "reads", "(II)Z"⟩ ⟨"ProgramSlicesModel", "reads", "(II)Z"⟩ ∈ tb_W := tb_inp (i := 55) (by decide +kernel) (by decide +kernel)
theorem tb_w730 : Cond.code ⟨"ProgramSlicesModel", "reads", "(II)Z"⟩ prog_12_method_21_code 7 (some .boolean) ∈ tb_W := tb_in (i := 1079) (by decide +kernel) (by decide +kernel)
theorem tb_w731 : Cond.methodLink "ProgramSlicesModel" 164 ⟨"ProgramSlicesModel", "fromBeginning", "(III)Z"⟩ ∈ tb_W := tb_in (i := 1080) (by decide +kernel) (by decide +kernel)
theorem tb_w732 : Cond.instanceMethod ⟨"ProgramSlicesModel", "fromBeginning", "(III)Z"⟩ ∈ tb_W := tb_in (i := 1082) (by decide +kernel) (by decide +kernel)
theorem tb_w733 : Cond.selects "ProgramSlicesModel" ⟨"ProgramSlicesModel", "fromBeginning", "(III)Z"⟩ ⟨"ProgramSlicesModel", "fromBeginning", "(III)Z"⟩ ∈ tb_W := tb_inp (i := 56) (by decide +kernel) (by decide +kernel)
theorem tb_w734 : Cond.code ⟨"ProgramSlicesModel", "fromBeginning", "(III)Z"⟩ prog_12_method_15_code 5 (some .boolean) ∈ tb_W := tb_in (i := 1083) (by decide +kernel) (by decide +kernel)
theorem tb_w735 : Cond.methodLink "ProgramSlicesModel" 144 ⟨"ProgramSlicesModel", "spread", "(JI)J"⟩ ∈ tb_W := tb_in (i := 1084) (by decide +kernel) (by decide +kernel)
theorem tb_w736 : Cond.instanceMethod ⟨"ProgramSlicesModel", "spread", "(JI)J"⟩ ∈ tb_W := tb_in (i := 1086) (by decide +kernel) (by decide +kernel)
theorem tb_w737 : Cond.selects "ProgramSlicesModel" ⟨"ProgramSlicesModel", "spread", "(JI)J"⟩ ⟨"ProgramSlicesModel", "spread", "(JI)J"⟩ ∈ tb_W := tb_inp (i := 57) (by decide +kernel) (by decide +kernel)
theorem tb_w738 : Cond.code ⟨"ProgramSlicesModel", "spread", "(JI)J"⟩ prog_12_method_13_code 10 (some .long) ∈ tb_W := tb_in (i := 1087) (by decide +kernel) (by decide +kernel)
theorem tb_w739 : Cond.methodLink "ProgramSlicesModel" 140 ⟨"ProgramSlicesModel", "defines", "(II)Z"⟩ ∈ tb_W := tb_in (i := 1088) (by decide +kernel) (by decide +kernel)
theorem tb_w740 : Cond.instanceMethod ⟨"ProgramSlicesModel", "defines", "(II)Z"⟩ ∈ tb_W := tb_in (i := 1090) (by decide +kernel) (by decide +kernel)
theorem tb_w741 : Cond.selects "ProgramSlicesModel" ⟨"ProgramSlicesModel", "defines", "(II)Z"⟩ ⟨"ProgramSlicesModel", "defines", "(II)Z"⟩ ∈ tb_W := tb_inp (i := 58) (by decide +kernel) (by decide +kernel)
theorem tb_w742 : Cond.code ⟨"ProgramSlicesModel", "defines", "(II)Z"⟩ prog_12_method_12_code 3 (some .boolean) ∈ tb_W := tb_in (i := 1091) (by decide +kernel) (by decide +kernel)
theorem tb_w743 : Cond.methodLink "ProgramSlicesModel" 168 ⟨"ProgramSlicesModel", "arrives", "(III)Z"⟩ ∈ tb_W := tb_in (i := 1092) (by decide +kernel) (by decide +kernel)
theorem tb_w744 : Cond.instanceMethod ⟨"ProgramSlicesModel", "arrives", "(III)Z"⟩ ∈ tb_W := tb_in (i := 1094) (by decide +kernel) (by decide +kernel)
theorem tb_w745 : Cond.selects "ProgramSlicesModel" ⟨"ProgramSlicesModel", "arrives", "(III)Z"⟩ ⟨"ProgramSlicesModel", "arrives", "(III)Z"⟩ ∈ tb_W := tb_inp (i := 59) (by decide +kernel) (by decide +kernel)
theorem tb_w746 : Cond.code ⟨"ProgramSlicesModel", "arrives", "(III)Z"⟩ prog_12_method_14_code 5 (some .boolean) ∈ tb_W := tb_in (i := 1095) (by decide +kernel) (by decide +kernel)
theorem tb_w747 : Cond.methodLink "ProgramSlicesModel" 183 ⟨"ProgramSlicesModel", "heap", "(II)Z"⟩ ∈ tb_W := tb_in (i := 1096) (by decide +kernel) (by decide +kernel)
theorem tb_w748 : Cond.instanceMethod ⟨"ProgramSlicesModel", "heap", "(II)Z"⟩ ∈ tb_W := tb_in (i := 1098) (by decide +kernel) (by decide +kernel)
theorem tb_w749 : Cond.selects "ProgramSlicesModel" ⟨"ProgramSlicesModel", "heap", "(II)Z"⟩ ⟨"ProgramSlicesModel", "heap", "(II)Z"⟩ ∈ tb_W := tb_inp (i := 60) (by decide +kernel) (by decide +kernel)
theorem tb_w750 : Cond.code ⟨"ProgramSlicesModel", "heap", "(II)Z"⟩ prog_12_method_24_code 5 (some .boolean) ∈ tb_W := tb_in (i := 1099) (by decide +kernel) (by decide +kernel)
theorem tb_w751 : Cond.methodLink "ProgramSlicesModel" 171 ⟨"ProgramSlicesModel", "path", "(II)Z"⟩ ∈ tb_W := tb_in (i := 1100) (by decide +kernel) (by decide +kernel)
theorem tb_w752 : Cond.instanceMethod ⟨"ProgramSlicesModel", "path", "(II)Z"⟩ ∈ tb_W := tb_in (i := 1102) (by decide +kernel) (by decide +kernel)
theorem tb_w753 : Cond.selects "ProgramSlicesModel" ⟨"ProgramSlicesModel", "path", "(II)Z"⟩ ⟨"ProgramSlicesModel", "path", "(II)Z"⟩ ∈ tb_W := tb_inp (i := 61) (by decide +kernel) (by decide +kernel)
theorem tb_w754 : Cond.code ⟨"ProgramSlicesModel", "path", "(II)Z"⟩ prog_12_method_11_code 3 (some .boolean) ∈ tb_W := tb_in (i := 1103) (by decide +kernel) (by decide +kernel)
theorem tb_w755 : Cond.methodLink "ProgramSlicesModel" 185 ⟨"ProgramSlicesModel", "halt", "(II)Z"⟩ ∈ tb_W := tb_in (i := 1104) (by decide +kernel) (by decide +kernel)
theorem tb_w756 : Cond.instanceMethod ⟨"ProgramSlicesModel", "halt", "(II)Z"⟩ ∈ tb_W := tb_in (i := 1106) (by decide +kernel) (by decide +kernel)
theorem tb_w757 : Cond.selects "ProgramSlicesModel" ⟨"ProgramSlicesModel", "halt", "(II)Z"⟩ ⟨"ProgramSlicesModel", "halt", "(II)Z"⟩ ∈ tb_W := tb_inp (i := 62) (by decide +kernel) (by decide +kernel)
theorem tb_w758 : Cond.code ⟨"ProgramSlicesModel", "halt", "(II)Z"⟩ prog_12_method_25_code 4 (some .boolean) ∈ tb_W := tb_in (i := 1107) (by decide +kernel) (by decide +kernel)
theorem tb_w759 : Cond.methodLink "ProgramSlicesModel" 191 ⟨"ProgramSlicesModel", "put", "([JII)V"⟩ ∈ tb_W := tb_in (i := 1108) (by decide +kernel) (by decide +kernel)
theorem tb_w760 : Cond.static ⟨"ProgramSlicesModel", "put", "([JII)V"⟩ ∈ tb_W := tb_in (i := 1109) (by decide +kernel) (by decide +kernel)
theorem tb_w761 : Cond.code ⟨"ProgramSlicesModel", "put", "([JII)V"⟩ prog_12_method_28_code 3 (none) ∈ tb_W := tb_in (i := 1110) (by decide +kernel) (by decide +kernel)
theorem tb_w762 : Cond.methodLink "ProgramSlicesModel" 195 ⟨"ProgramSlicesModel", "summaries", "(I)Z"⟩ ∈ tb_W := tb_in (i := 1111) (by decide +kernel) (by decide +kernel)
theorem tb_w763 : Cond.instanceMethod ⟨"ProgramSlicesModel", "summaries", "(I)Z"⟩ ∈ tb_W := tb_in (i := 1113) (by decide +kernel) (by decide +kernel)
theorem tb_w764 : Cond.selects "ProgramSlicesModel" ⟨"ProgramSlicesModel", "summaries", "(I)Z"⟩ ⟨"ProgramSlicesModel", "summaries", "(I)Z"⟩ ∈ tb_W := tb_inp (i := 63) (by decide +kernel) (by decide +kernel)
theorem tb_w765 : Cond.code ⟨"ProgramSlicesModel", "summaries", "(I)Z"⟩ prog_12_method_30_code 8 (some .boolean) ∈ tb_W := tb_in (i := 1114) (by decide +kernel) (by decide +kernel)
theorem tb_w766 : Cond.methodLink "ProgramSlicesModel" 198 ⟨"ProgramSlicesModel", "single", "(I)V"⟩ ∈ tb_W := tb_in (i := 1115) (by decide +kernel) (by decide +kernel)
theorem tb_w767 : Cond.instanceMethod ⟨"ProgramSlicesModel", "single", "(I)V"⟩ ∈ tb_W := tb_in (i := 1117) (by decide +kernel) (by decide +kernel)
theorem tb_w768 : Cond.selects "ProgramSlicesModel" ⟨"ProgramSlicesModel", "single", "(I)V"⟩ ⟨"ProgramSlicesModel", "single", "(I)V"⟩ ∈ tb_W := tb_inp (i := 64) (by decide +kernel) (by decide +kernel)
theorem tb_w769 : Cond.code ⟨"ProgramSlicesModel", "single", "(I)V"⟩ prog_12_method_31_code 3 (none) ∈ tb_W := tb_in (i := 1118) (by decide +kernel) (by decide +kernel)
theorem tb_w770 : Cond.methodLink "ProgramSlicesModel" 202 ⟨"ProgramSlicesModel", "flood", "([J[JZ)V"⟩ ∈ tb_W := tb_in (i := 1119) (by decide +kernel) (by decide +kernel)
theorem tb_w771 : Cond.instanceMethod ⟨"ProgramSlicesModel", "flood", "([J[JZ)V"⟩ ∈ tb_W := tb_in (i := 1121) (by decide +kernel) (by decide +kernel)
theorem tb_w772 : Cond.selects "ProgramSlicesModel" ⟨"ProgramSlicesModel", "flood", "([J[JZ)V"⟩ ⟨"ProgramSlicesModel", "flood", "([J[JZ)V"⟩ ∈ tb_W := tb_inp (i := 65) (by decide +kernel) (by decide +kernel)
theorem tb_w773 : Cond.code ⟨"ProgramSlicesModel", "flood", "([J[JZ)V"⟩ prog_12_method_32_code 10 (none) ∈ tb_W := tb_in (i := 1122) (by decide +kernel) (by decide +kernel)
theorem tb_w774 : Cond.methodLink "ProgramSlicesModel" 206 ⟨"ProgramSlicesModel", "has", "([JII)Z"⟩ ∈ tb_W := tb_in (i := 1123) (by decide +kernel) (by decide +kernel)
theorem tb_w775 : Cond.static ⟨"ProgramSlicesModel", "has", "([JII)Z"⟩ ∈ tb_W := tb_in (i := 1124) (by decide +kernel) (by decide +kernel)
theorem tb_w776 : Cond.code ⟨"ProgramSlicesModel", "has", "([JII)Z"⟩ prog_12_method_27_code 3 (some .boolean) ∈ tb_W := tb_in (i := 1125) (by decide +kernel) (by decide +kernel)
theorem tb_w777 : Cond.methodLink "ProgramSlicesModel" 210 ⟨"ProgramSlicesModel", "touches", "([J[JI)Z"⟩ ∈ tb_W := tb_in (i := 1126) (by decide +kernel) (by decide +kernel)
theorem tb_w778 : Cond.instanceMethod ⟨"ProgramSlicesModel", "touches", "([J[JI)Z"⟩ ∈ tb_W := tb_in (i := 1128) (by decide +kernel) (by decide +kernel)
theorem tb_w779 : Cond.selects "ProgramSlicesModel" ⟨"ProgramSlicesModel", "touches", "([J[JI)Z"⟩ ⟨"ProgramSlicesModel", "touches", "([J[JI)Z"⟩ ∈ tb_W := tb_inp (i := 66) (by decide +kernel) (by decide +kernel)
theorem tb_w780 : Cond.code ⟨"ProgramSlicesModel", "touches", "([J[JI)Z"⟩ prog_12_method_33_code 7 (some .boolean) ∈ tb_W := tb_in (i := 1129) (by decide +kernel) (by decide +kernel)
theorem tb_w781 : Cond.methodLink "ProgramSlicesModel" 214 ⟨"ProgramSlicesModel", "backward", "(I)V"⟩ ∈ tb_W := tb_in (i := 1142) (by decide +kernel) (by decide +kernel)
theorem tb_w782 : Cond.instanceMethod ⟨"ProgramSlicesModel", "backward", "(I)V"⟩ ∈ tb_W := tb_in (i := 1144) (by decide +kernel) (by decide +kernel)
theorem tb_w783 : Cond.selects "ProgramSlicesModel" ⟨"ProgramSlicesModel", "backward", "(I)V"⟩ ⟨"ProgramSlicesModel", "backward", "(I)V"⟩ ∈ tb_W := tb_inp (i := 67) (by decide +kernel) (by decide +kernel)
theorem tb_w784 : Cond.code ⟨"ProgramSlicesModel", "backward", "(I)V"⟩ prog_12_method_34_code 2 (none) ∈ tb_W := tb_in (i := 1145) (by decide +kernel) (by decide +kernel)
theorem tb_w785 : Cond.methodLink "ProgramSlicesModel" 220 ⟨"ProgramSlicesModel", "instructions", "([J)I"⟩ ∈ tb_W := tb_in (i := 1146) (by decide +kernel) (by decide +kernel)
theorem tb_w786 : Cond.instanceMethod ⟨"ProgramSlicesModel", "instructions", "([J)I"⟩ ∈ tb_W := tb_in (i := 1148) (by decide +kernel) (by decide +kernel)
theorem tb_w787 : Cond.selects "ProgramSlicesModel" ⟨"ProgramSlicesModel", "instructions", "([J)I"⟩ ⟨"ProgramSlicesModel", "instructions", "([J)I"⟩ ∈ tb_W := tb_inp (i := 68) (by decide +kernel) (by decide +kernel)
theorem tb_w788 : Cond.code ⟨"ProgramSlicesModel", "instructions", "([J)I"⟩ prog_12_method_35_code 4 (some .int) ∈ tb_W := tb_in (i := 1149) (by decide +kernel) (by decide +kernel)
theorem tb_w789 : Cond.methodLink "ProgramSlicesModel" 224 ⟨"ProgramSlicesModel", "wanting", "()I"⟩ ∈ tb_W := tb_in (i := 1154) (by decide +kernel) (by decide +kernel)
theorem tb_w790 : Cond.instanceMethod ⟨"ProgramSlicesModel", "wanting", "()I"⟩ ∈ tb_W := tb_in (i := 1156) (by decide +kernel) (by decide +kernel)
theorem tb_w791 : Cond.selects "ProgramSlicesModel" ⟨"ProgramSlicesModel", "wanting", "()I"⟩ ⟨"ProgramSlicesModel", "wanting", "()I"⟩ ∈ tb_W := tb_inp (i := 69) (by decide +kernel) (by decide +kernel)
theorem tb_w792 : Cond.code ⟨"ProgramSlicesModel", "wanting", "()I"⟩ prog_12_method_39_code 4 (some .int) ∈ tb_W := tb_in (i := 1157) (by decide +kernel) (by decide +kernel)
theorem tb_w793 : Cond.methodLink "ProgramSlicesModel" 237 ⟨"ProgramSlicesModel", "leave", "()I"⟩ ∈ tb_W := tb_in (i := 1171) (by decide +kernel) (by decide +kernel)
theorem tb_w794 : Cond.instanceMethod ⟨"ProgramSlicesModel", "leave", "()I"⟩ ∈ tb_W := tb_in (i := 1173) (by decide +kernel) (by decide +kernel)
theorem tb_w795 : Cond.selects "ProgramSlicesModel" ⟨"ProgramSlicesModel", "leave", "()I"⟩ ⟨"ProgramSlicesModel", "leave", "()I"⟩ ∈ tb_W := tb_inp (i := 70) (by decide +kernel) (by decide +kernel)
theorem tb_w796 : Cond.code ⟨"ProgramSlicesModel", "leave", "()I"⟩ prog_12_method_47_code 3 (some .int) ∈ tb_W := tb_in (i := 1174) (by decide +kernel) (by decide +kernel)
theorem tb_w797 : Cond.methodLink "ProgramSlicesModel" 246 ⟨"ProgramSlicesModel", "x", "(I)I"⟩ ∈ tb_W := tb_in (i := 1175) (by decide +kernel) (by decide +kernel)
theorem tb_w798 : Cond.instanceMethod ⟨"ProgramSlicesModel", "x", "(I)I"⟩ ∈ tb_W := tb_in (i := 1177) (by decide +kernel) (by decide +kernel)
theorem tb_w799 : Cond.selects "ProgramSlicesModel" ⟨"ProgramSlicesModel", "x", "(I)I"⟩ ⟨"ProgramSlicesModel", "x", "(I)I"⟩ ∈ tb_W := tb_inp (i := 71) (by decide +kernel) (by decide +kernel)
theorem tb_w800 : Cond.code ⟨"ProgramSlicesModel", "x", "(I)I"⟩ prog_12_method_44_code 2 (some .int) ∈ tb_W := tb_in (i := 1178) (by decide +kernel) (by decide +kernel)
theorem tb_w801 : Cond.methodLink "ProgramSlicesModel" 249 ⟨"ProgramSlicesModel", "become", "(II)V"⟩ ∈ tb_W := tb_in (i := 1179) (by decide +kernel) (by decide +kernel)
theorem tb_w802 : Cond.instanceMethod ⟨"ProgramSlicesModel", "become", "(II)V"⟩ ∈ tb_W := tb_in (i := 1181) (by decide +kernel) (by decide +kernel)
theorem tb_w803 : Cond.selects "ProgramSlicesModel" ⟨"ProgramSlicesModel", "become", "(II)V"⟩ ⟨"ProgramSlicesModel", "become", "(II)V"⟩ ∈ tb_W := tb_inp (i := 72) (by decide +kernel) (by decide +kernel)
theorem tb_w804 : Cond.code ⟨"ProgramSlicesModel", "become", "(II)V"⟩ prog_12_method_45_code 3 (none) ∈ tb_W := tb_in (i := 1182) (by decide +kernel) (by decide +kernel)
theorem tb_w805 : Cond.methodLink "ProgramSlicesModel" 240 ⟨"ProgramSlicesModel", "enter", "(I)V"⟩ ∈ tb_W := tb_in (i := 1183) (by decide +kernel) (by decide +kernel)
theorem tb_w806 : Cond.instanceMethod ⟨"ProgramSlicesModel", "enter", "(I)V"⟩ ∈ tb_W := tb_in (i := 1185) (by decide +kernel) (by decide +kernel)
theorem tb_w807 : Cond.selects "ProgramSlicesModel" ⟨"ProgramSlicesModel", "enter", "(I)V"⟩ ⟨"ProgramSlicesModel", "enter", "(I)V"⟩ ∈ tb_W := tb_inp (i := 73) (by decide +kernel) (by decide +kernel)
theorem tb_w808 : Cond.code ⟨"ProgramSlicesModel", "enter", "(I)V"⟩ prog_12_method_46_code 4 (none) ∈ tb_W := tb_in (i := 1186) (by decide +kernel) (by decide +kernel)
theorem tb_w809 : Cond.methodLink "ProgramSlicesModel" 243 ⟨"ProgramSlicesModel", "act", "(I)I"⟩ ∈ tb_W := tb_in (i := 1187) (by decide +kernel) (by decide +kernel)
theorem tb_w810 : Cond.instanceMethod ⟨"ProgramSlicesModel", "act", "(I)I"⟩ ∈ tb_W := tb_in (i := 1189) (by decide +kernel) (by decide +kernel)
theorem tb_w811 : Cond.selects "ProgramSlicesModel" ⟨"ProgramSlicesModel", "act", "(I)I"⟩ ⟨"ProgramSlicesModel", "act", "(I)I"⟩ ∈ tb_W := tb_inp (i := 74) (by decide +kernel) (by decide +kernel)
theorem tb_w812 : Cond.code ⟨"ProgramSlicesModel", "act", "(I)I"⟩ prog_12_method_49_code 5 (some .int) ∈ tb_W := tb_in (i := 1190) (by decide +kernel) (by decide +kernel)
theorem tb_w813 : Cond.methodLink "ProgramSlicesModel" 253 ⟨"ProgramSlicesModel", "computed", "(III)I"⟩ ∈ tb_W := tb_in (i := 1191) (by decide +kernel) (by decide +kernel)
theorem tb_w814 : Cond.instanceMethod ⟨"ProgramSlicesModel", "computed", "(III)I"⟩ ∈ tb_W := tb_in (i := 1193) (by decide +kernel) (by decide +kernel)
theorem tb_w815 : Cond.selects "ProgramSlicesModel" ⟨"ProgramSlicesModel", "computed", "(III)I"⟩ ⟨"ProgramSlicesModel", "computed", "(III)I"⟩ ∈ tb_W := tb_inp (i := 75) (by decide +kernel) (by decide +kernel)
theorem tb_w816 : Cond.code ⟨"ProgramSlicesModel", "computed", "(III)I"⟩ prog_12_method_50_code 4 (some .int) ∈ tb_W := tb_in (i := 1194) (by decide +kernel) (by decide +kernel)
theorem tb_w817 : Cond.methodLink "ProgramSlicesModel" 257 ⟨"ProgramSlicesModel", "saw", "(II)V"⟩ ∈ tb_W := tb_in (i := 1195) (by decide +kernel) (by decide +kernel)
theorem tb_w818 : Cond.instanceMethod ⟨"ProgramSlicesModel", "saw", "(II)V"⟩ ∈ tb_W := tb_in (i := 1197) (by decide +kernel) (by decide +kernel)
theorem tb_w819 : Cond.selects "ProgramSlicesModel" ⟨"ProgramSlicesModel", "saw", "(II)V"⟩ ⟨"ProgramSlicesModel", "saw", "(II)V"⟩ ∈ tb_W := tb_inp (i := 76) (by decide +kernel) (by decide +kernel)
theorem tb_w820 : Cond.code ⟨"ProgramSlicesModel", "saw", "(II)V"⟩ prog_12_method_48_code 3 (none) ∈ tb_W := tb_in (i := 1198) (by decide +kernel) (by decide +kernel)
theorem tb_w821 : Cond.methodLink "ProgramSlicesModel" 260 ⟨"ProgramSlicesModel", "isLevel", "(I)Z"⟩ ∈ tb_W := tb_in (i := 1219) (by decide +kernel) (by decide +kernel)
theorem tb_w822 : Cond.instanceMethod ⟨"ProgramSlicesModel", "isLevel", "(I)Z"⟩ ∈ tb_W := tb_in (i := 1221) (by decide +kernel) (by decide +kernel)
theorem tb_w823 : Cond.selects "ProgramSlicesModel" ⟨"ProgramSlicesModel", "isLevel", "(I)Z"⟩ ⟨"ProgramSlicesModel", "isLevel", "(I)Z"⟩ ∈ tb_W := tb_inp (i := 77) (by decide +kernel) (by decide +kernel)
theorem tb_w824 : Cond.code ⟨"ProgramSlicesModel", "isLevel", "(I)Z"⟩ prog_12_method_55_code 2 (some .boolean) ∈ tb_W := tb_in (i := 1222) (by decide +kernel) (by decide +kernel)
theorem tb_w825 : Cond.methodLink "ProgramSlicesModel" 263 ⟨"ProgramSlicesModel", "under", "(II)Z"⟩ ∈ tb_W := tb_in (i := 1231) (by decide +kernel) (by decide +kernel)
theorem tb_w826 : Cond.instanceMethod ⟨"ProgramSlicesModel", "under", "(II)Z"⟩ ∈ tb_W := tb_in (i := 1233) (by decide +kernel) (by decide +kernel)
theorem tb_w827 : Cond.selects "ProgramSlicesModel" ⟨"ProgramSlicesModel", "under", "(II)Z"⟩ ⟨"ProgramSlicesModel", "under", "(II)Z"⟩ ∈ tb_W := tb_inp (i := 78) (by decide +kernel) (by decide +kernel)
theorem tb_w828 : Cond.code ⟨"ProgramSlicesModel", "under", "(II)Z"⟩ prog_12_method_58_code 3 (some .boolean) ∈ tb_W := tb_in (i := 1234) (by decide +kernel) (by decide +kernel)
theorem tb_w829 : Cond.methodLink "ProgramSlicesModel" 266 ⟨"ProgramSlicesModel", "join", "(III)Z"⟩ ∈ tb_W := tb_in (i := 1235) (by decide +kernel) (by decide +kernel)
theorem tb_w830 : Cond.instanceMethod ⟨"ProgramSlicesModel", "join", "(III)Z"⟩ ∈ tb_W := tb_in (i := 1237) (by decide +kernel) (by decide +kernel)
theorem tb_w831 : Cond.selects "ProgramSlicesModel" ⟨"ProgramSlicesModel", "join", "(III)Z"⟩ ⟨"ProgramSlicesModel", "join", "(III)Z"⟩ ∈ tb_W := tb_inp (i := 79) (by decide +kernel) (by decide +kernel)
theorem tb_w832 : Cond.code ⟨"ProgramSlicesModel", "join", "(III)Z"⟩ prog_12_method_59_code 6 (some .boolean) ∈ tb_W := tb_in (i := 1238) (by decide +kernel) (by decide +kernel)
theorem tb_w833 : Cond.methodLink "ProgramSlicesModel" 269 ⟨"ProgramSlicesModel", "bottom", "()I"⟩ ∈ tb_W := tb_in (i := 1239) (by decide +kernel) (by decide +kernel)
theorem tb_w834 : Cond.instanceMethod ⟨"ProgramSlicesModel", "bottom", "()I"⟩ ∈ tb_W := tb_in (i := 1241) (by decide +kernel) (by decide +kernel)
theorem tb_w835 : Cond.selects "ProgramSlicesModel" ⟨"ProgramSlicesModel", "bottom", "()I"⟩ ⟨"ProgramSlicesModel", "bottom", "()I"⟩ ∈ tb_W := tb_inp (i := 80) (by decide +kernel) (by decide +kernel)
theorem tb_w836 : Cond.code ⟨"ProgramSlicesModel", "bottom", "()I"⟩ prog_12_method_60_code 4 (some .int) ∈ tb_W := tb_in (i := 1242) (by decide +kernel) (by decide +kernel)
theorem tb_w837 : Cond.methodLink "ProgramSlicesModel" 272 ⟨"ProgramSlicesModel", "lattice", "()I"⟩ ∈ tb_W := tb_in (i := 1247) (by decide +kernel) (by decide +kernel)
theorem tb_w838 : Cond.instanceMethod ⟨"ProgramSlicesModel", "lattice", "()I"⟩ ∈ tb_W := tb_in (i := 1228) (by decide +kernel) (by decide +kernel)
theorem tb_w839 : Cond.selects "ProgramSlicesModel" ⟨"ProgramSlicesModel", "lattice", "()I"⟩ ⟨"ProgramSlicesModel", "lattice", "()I"⟩ ∈ tb_W := tb_in (i := 1229) (by decide +kernel) (by decide +kernel)
theorem tb_w840 : Cond.code ⟨"ProgramSlicesModel", "lattice", "()I"⟩ prog_12_method_61_code 6 (some .int) ∈ tb_W := tb_in (i := 1230) (by decide +kernel) (by decide +kernel)
theorem tb_w841 : Cond.methodLink "ProgramSlicesModel" 275 ⟨"ProgramSlicesModel", "search", "(I)I"⟩ ∈ tb_W := tb_in (i := 1248) (by decide +kernel) (by decide +kernel)
theorem tb_w842 : Cond.instanceMethod ⟨"ProgramSlicesModel", "search", "(I)I"⟩ ∈ tb_W := tb_in (i := 1250) (by decide +kernel) (by decide +kernel)
theorem tb_w843 : Cond.selects "ProgramSlicesModel" ⟨"ProgramSlicesModel", "search", "(I)I"⟩ ⟨"ProgramSlicesModel", "search", "(I)I"⟩ ∈ tb_W := tb_inp (i := 81) (by decide +kernel) (by decide +kernel)
theorem tb_w844 : Cond.code ⟨"ProgramSlicesModel", "search", "(I)I"⟩ prog_12_method_62_code 6 (some .int) ∈ tb_W := tb_in (i := 1251) (by decide +kernel) (by decide +kernel)
theorem tb_w845 : Cond.methodLink "ProgramSlicesModel" 1 ⟨"java/lang/Object", "<init>", "()V"⟩ ∈ tb_W := tb_in (i := 891) (by decide +kernel) (by decide +kernel)
end
section
def tb_f0 : List (Nat × Nat × Nat × Nat) := [(187, 5, 0, 3), (12, 0, 0, 2), (21, 0, 1, 2), (30, 0, 2, 2), (37, 0, 3, 2), (44, 0, 4, 2), (53, 0, 5, 2), (60, 0, 6, 2), (64, 0, 7, 1)]
theorem tb_f0_0 : dp_fok tb_cl tb_N "ProgramSlices" tb_W 187 (5, 0, 3) := ⟨"ProgramSlices$Machine", tb_T5, 15, tb_t5, rfl, by decide, tb_u5, tb_y5, tb_n5, Or.inl tb_w0, fun h => absurd h (by decide), fun h => absurd h (by decide), fun h => absurd h (by decide)⟩
theorem tb_f0_1 : dp_fok tb_cl tb_N "ProgramSlices" tb_W 12 (0, 0, 2) := ⟨"ProgramSlices", tb_T0, 8, tb_t0, rfl, by decide, tb_u0, tb_y0, tb_n0, Or.inl tb_w1, fun h => absurd h (by decide), fun h => absurd h (by decide), fun _ => ⟨rfl, rfl, tb_w1, fun _ => ⟨rfl, rfl⟩⟩⟩
theorem tb_f0_2 : dp_fok tb_cl tb_N "ProgramSlices" tb_W 21 (0, 1, 2) := ⟨"ProgramSlices", tb_T0, 8, tb_t0, rfl, by decide, tb_u0, tb_y0, tb_n0, Or.inl tb_w2, fun h => absurd h (by decide), fun h => absurd h (by decide), fun _ => ⟨rfl, rfl, tb_w2, fun _ => ⟨rfl, rfl⟩⟩⟩
theorem tb_f0_3 : dp_fok tb_cl tb_N "ProgramSlices" tb_W 30 (0, 2, 2) := ⟨"ProgramSlices", tb_T0, 8, tb_t0, rfl, by decide, tb_u0, tb_y0, tb_n0, Or.inl tb_w3, fun h => absurd h (by decide), fun h => absurd h (by decide), fun _ => ⟨rfl, rfl, tb_w3, fun _ => ⟨rfl, rfl⟩⟩⟩
theorem tb_f0_4 : dp_fok tb_cl tb_N "ProgramSlices" tb_W 37 (0, 3, 2) := ⟨"ProgramSlices", tb_T0, 8, tb_t0, rfl, by decide, tb_u0, tb_y0, tb_n0, Or.inl tb_w4, fun h => absurd h (by decide), fun h => absurd h (by decide), fun _ => ⟨rfl, rfl, tb_w4, fun _ => ⟨rfl, rfl⟩⟩⟩
theorem tb_f0_5 : dp_fok tb_cl tb_N "ProgramSlices" tb_W 44 (0, 4, 2) := ⟨"ProgramSlices", tb_T0, 8, tb_t0, rfl, by decide, tb_u0, tb_y0, tb_n0, Or.inl tb_w5, fun h => absurd h (by decide), fun h => absurd h (by decide), fun _ => ⟨rfl, rfl, tb_w5, fun _ => ⟨rfl, rfl⟩⟩⟩
theorem tb_f0_6 : dp_fok tb_cl tb_N "ProgramSlices" tb_W 53 (0, 5, 2) := ⟨"ProgramSlices", tb_T0, 8, tb_t0, rfl, by decide, tb_u0, tb_y0, tb_n0, Or.inl tb_w6, fun h => absurd h (by decide), fun h => absurd h (by decide), fun _ => ⟨rfl, rfl, tb_w6, fun _ => ⟨rfl, rfl⟩⟩⟩
theorem tb_f0_7 : dp_fok tb_cl tb_N "ProgramSlices" tb_W 60 (0, 6, 2) := ⟨"ProgramSlices", tb_T0, 8, tb_t0, rfl, by decide, tb_u0, tb_y0, tb_n0, Or.inl tb_w7, fun h => absurd h (by decide), fun h => absurd h (by decide), fun _ => ⟨rfl, rfl, tb_w7, fun _ => ⟨rfl, rfl⟩⟩⟩
theorem tb_f0_8 : dp_fok tb_cl tb_N "ProgramSlices" tb_W 64 (0, 7, 1) := ⟨"ProgramSlices", tb_T0, 8, tb_t0, rfl, by decide, tb_u0, tb_y0, tb_n0, Or.inl tb_w8, fun h => absurd h (by decide), fun _ => ⟨rfl, rfl⟩, fun h => absurd h (by decide)⟩
theorem tb_f0_ok : ∀ e ∈ tb_f0, dp_fok tb_cl tb_N "ProgramSlices" tb_W e.1 e.2 := List.forall_mem_cons.mpr ⟨tb_f0_0, List.forall_mem_cons.mpr ⟨tb_f0_1, List.forall_mem_cons.mpr ⟨tb_f0_2, List.forall_mem_cons.mpr ⟨tb_f0_3, List.forall_mem_cons.mpr ⟨tb_f0_4, List.forall_mem_cons.mpr ⟨tb_f0_5, List.forall_mem_cons.mpr ⟨tb_f0_6, List.forall_mem_cons.mpr ⟨tb_f0_7, List.forall_mem_cons.mpr ⟨tb_f0_8, fun _ h => absurd h List.not_mem_nil⟩⟩⟩⟩⟩⟩⟩⟩⟩
def tb_c0 : List (Nat × Int32) := []
theorem tb_c0_ok : ∀ e ∈ tb_c0, Jvm.Cond.constant "ProgramSlices" e.1 e.2 ∈ tb_W := fun _ h => absurd h List.not_mem_nil
def tb_l0 : List (Nat × Int64) := []
theorem tb_l0_ok : ∀ e ∈ tb_l0, Jvm.Cond.constantLong "ProgramSlices" e.1 e.2 ∈ tb_W := fun _ h => absurd h List.not_mem_nil
def tb_s0 : List (Nat × Nat × Nat × Nat) := [(115, 15, 1, 0), (170, 67, 2, 0)]
theorem tb_s0_0 (cc : ByteArray) : sm_Cal tb_cl tb_N cc "ProgramSlices" tb_W (.invokestatic 115) (tb_ys 15) (tb_ws 15) 1 (dp_rcO 0) := sm_cal_S (tb_GS tb_w87 tb_w88 tb_w89 tb_w90) ⟨by decide, by decide, by decide +kernel⟩ (by decide)
theorem tb_s0_1 (cc : ByteArray) : sm_Cal tb_cl tb_N cc "ProgramSlices" tb_W (.invokestatic 170) (tb_ys 67) (tb_ws 67) 2 (dp_rcO 0) := sm_cal_S (tb_GS tb_w151 tb_w152 tb_w89 tb_w153) ⟨by decide, by decide, by decide +kernel⟩ (by decide)
theorem tb_s0_ok : ∀ e ∈ tb_s0, ∀ cc, sm_Cal tb_cl tb_N cc "ProgramSlices" tb_W (.invokestatic e.1) (tb_ys e.2.1) (tb_ws e.2.1) e.2.2.1 (dp_rcO e.2.2.2) := List.forall_mem_cons.mpr ⟨tb_s0_0, List.forall_mem_cons.mpr ⟨tb_s0_1, fun _ h => absurd h List.not_mem_nil⟩⟩
def tb_v0 : List (Nat × Nat × Nat × Nat) := [(68, 11, 1, 2), (72, 12, 5, 2), (76, 18, 5, 2), (80, 20, 1, 2), (83, 21, 1, 10), (86, 22, 1, 6), (89, 26, 1, 2), (93, 35, 1, 3), (96, 60, 1, 5), (99, 76, 2, 9), (103, 81, 2, 8), (107, 83, 2, 8), (111, 84, 3, 8), (118, 87, 4, 8), (122, 89, 1, 8), (125, 44, 2, 2), (128, 95, 3, 3), (132, 33, 2, 2), (135, 34, 2, 2), (139, 73, 4, 3), (143, 78, 3, 5), (147, 98, 4, 10), (151, 100, 1, 10), (154, 102, 1, 10), (157, 103, 3, 10), (161, 107, 1, 10), (164, 45, 2, 2), (167, 108, 1, 10), (174, 110, 3, 6), (177, 112, 1, 10), (180, 113, 4, 6), (184, 129, 1, 6), (191, 131, 2, 7), (196, 133, 3, 7), (199, 135, 1, 1), (202, 136, 1, 9), (205, 141, 2, 9)]
theorem tb_v0_0 (cc : ByteArray) : sm_Cal tb_cl tb_N cc "ProgramSlices" tb_W (.invokevirtual 68) (tb_ys 11) (tb_ws 11) 1 (dp_rcO 2) := sm_cal_V (ci := 1) (N0 := 14) (T0 := tb_T1) rfl (tb_GV tb_w35 tb_w36 tb_w37 tb_w10 tb_w38) ⟨by decide, by decide, by decide +kernel⟩ (by decide)
theorem tb_v0_1 (cc : ByteArray) : sm_Cal tb_cl tb_N cc "ProgramSlices" tb_W (.invokevirtual 72) (tb_ys 12) (tb_ws 12) 5 (dp_rcO 2) := sm_cal_V (ci := 1) (N0 := 14) (T0 := tb_T1) rfl (tb_GV tb_w39 tb_w40 tb_w41 tb_w10 tb_w42) ⟨by decide, by decide, by decide +kernel⟩ (by decide)
theorem tb_v0_2 (cc : ByteArray) : sm_Cal tb_cl tb_N cc "ProgramSlices" tb_W (.invokevirtual 76) (tb_ys 18) (tb_ws 18) 5 (dp_rcO 2) := sm_cal_V (ci := 1) (N0 := 14) (T0 := tb_T1) rfl (tb_GV tb_w43 tb_w44 tb_w45 tb_w10 tb_w46) ⟨by decide, by decide, by decide +kernel⟩ (by decide)
theorem tb_v0_3 (cc : ByteArray) : sm_Cal tb_cl tb_N cc "ProgramSlices" tb_W (.invokevirtual 80) (tb_ys 20) (tb_ws 20) 1 (dp_rcO 2) := sm_cal_V (ci := 1) (N0 := 14) (T0 := tb_T1) rfl (tb_GV tb_w47 tb_w48 tb_w49 tb_w10 tb_w50) ⟨by decide, by decide, by decide +kernel⟩ (by decide)
theorem tb_v0_4 (cc : ByteArray) : sm_Cal tb_cl tb_N cc "ProgramSlices" tb_W (.invokevirtual 83) (tb_ys 21) (tb_ws 21) 1 (dp_rcO 10) := sm_cal_V (ci := 9) (N0 := 4) (T0 := tb_T9) rfl (tb_GV tb_w51 tb_w52 tb_w53 tb_w33 tb_w54) ⟨by decide, by decide, by decide +kernel⟩ (by decide)
theorem tb_v0_5 (cc : ByteArray) : sm_Cal tb_cl tb_N cc "ProgramSlices" tb_W (.invokevirtual 86) (tb_ys 22) (tb_ws 22) 1 (dp_rcO 6) := sm_cal_V (ci := 5) (N0 := 15) (T0 := tb_T5) rfl (tb_GV tb_w55 tb_w56 tb_w57 tb_w21 tb_w58) ⟨by decide, by decide, by decide +kernel⟩ (by decide)
theorem tb_v0_6 (cc : ByteArray) : sm_Cal tb_cl tb_N cc "ProgramSlices" tb_W (.invokevirtual 89) (tb_ys 26) (tb_ws 26) 1 (dp_rcO 2) := sm_cal_V (ci := 1) (N0 := 14) (T0 := tb_T1) rfl (tb_GV tb_w59 tb_w60 tb_w61 tb_w10 tb_w62) ⟨by decide, by decide, by decide +kernel⟩ (by decide)
theorem tb_v0_7 (cc : ByteArray) : sm_Cal tb_cl tb_N cc "ProgramSlices" tb_W (.invokevirtual 93) (tb_ys 35) (tb_ws 35) 1 (dp_rcO 3) := sm_cal_V (ci := 2) (N0 := 7) (T0 := tb_T2) rfl (tb_GV tb_w63 tb_w64 tb_w65 tb_w13 tb_w66) ⟨by decide, by decide, by decide +kernel⟩ (by decide)
theorem tb_v0_8 (cc : ByteArray) : sm_Cal tb_cl tb_N cc "ProgramSlices" tb_W (.invokevirtual 96) (tb_ys 60) (tb_ws 60) 1 (dp_rcO 5) := sm_cal_V (ci := 4) (N0 := 5) (T0 := tb_T4) rfl (tb_GV tb_w67 tb_w68 tb_w69 tb_w17 tb_w70) ⟨by decide, by decide, by decide +kernel⟩ (by decide)
theorem tb_v0_9 (cc : ByteArray) : sm_Cal tb_cl tb_N cc "ProgramSlices" tb_W (.invokevirtual 99) (tb_ys 76) (tb_ws 76) 2 (dp_rcO 9) := sm_cal_V (ci := 8) (N0 := 3) (T0 := tb_T8) rfl (tb_GV tb_w71 tb_w72 tb_w73 tb_w29 tb_w74) ⟨by decide, by decide, by decide +kernel⟩ (by decide)
theorem tb_v0_10 (cc : ByteArray) : sm_Cal tb_cl tb_N cc "ProgramSlices" tb_W (.invokevirtual 103) (tb_ys 81) (tb_ws 81) 2 (dp_rcO 8) := sm_cal_V (ci := 7) (N0 := 4) (T0 := tb_T7) rfl (tb_GV tb_w75 tb_w76 tb_w77 tb_w25 tb_w78) ⟨by decide, by decide, by decide +kernel⟩ (by decide)
theorem tb_v0_11 (cc : ByteArray) : sm_Cal tb_cl tb_N cc "ProgramSlices" tb_W (.invokevirtual 107) (tb_ys 83) (tb_ws 83) 2 (dp_rcO 8) := sm_cal_V (ci := 7) (N0 := 4) (T0 := tb_T7) rfl (tb_GV tb_w79 tb_w80 tb_w81 tb_w25 tb_w82) ⟨by decide, by decide, by decide +kernel⟩ (by decide)
theorem tb_v0_12 (cc : ByteArray) : sm_Cal tb_cl tb_N cc "ProgramSlices" tb_W (.invokevirtual 111) (tb_ys 84) (tb_ws 84) 3 (dp_rcO 8) := sm_cal_V (ci := 7) (N0 := 4) (T0 := tb_T7) rfl (tb_GV tb_w83 tb_w84 tb_w85 tb_w25 tb_w86) ⟨by decide, by decide, by decide +kernel⟩ (by decide)
theorem tb_v0_13 (cc : ByteArray) : sm_Cal tb_cl tb_N cc "ProgramSlices" tb_W (.invokevirtual 118) (tb_ys 87) (tb_ws 87) 4 (dp_rcO 8) := sm_cal_V (ci := 7) (N0 := 4) (T0 := tb_T7) rfl (tb_GV tb_w91 tb_w92 tb_w93 tb_w25 tb_w94) ⟨by decide, by decide, by decide +kernel⟩ (by decide)
theorem tb_v0_14 (cc : ByteArray) : sm_Cal tb_cl tb_N cc "ProgramSlices" tb_W (.invokevirtual 122) (tb_ys 89) (tb_ws 89) 1 (dp_rcO 8) := sm_cal_V (ci := 7) (N0 := 4) (T0 := tb_T7) rfl (tb_GV tb_w95 tb_w96 tb_w97 tb_w25 tb_w98) ⟨by decide, by decide, by decide +kernel⟩ (by decide)
theorem tb_v0_15 (cc : ByteArray) : sm_Cal tb_cl tb_N cc "ProgramSlices" tb_W (.invokevirtual 125) (tb_ys 44) (tb_ws 44) 2 (dp_rcO 2) := sm_cal_V (ci := 1) (N0 := 14) (T0 := tb_T1) rfl (tb_GV tb_w99 tb_w100 tb_w101 tb_w10 tb_w102) ⟨by decide, by decide, by decide +kernel⟩ (by decide)
theorem tb_v0_16 (cc : ByteArray) : sm_Cal tb_cl tb_N cc "ProgramSlices" tb_W (.invokevirtual 128) (tb_ys 95) (tb_ws 95) 3 (dp_rcO 3) := sm_cal_V (ci := 2) (N0 := 7) (T0 := tb_T2) rfl (tb_GV tb_w103 tb_w104 tb_w105 tb_w13 tb_w106) ⟨by decide, by decide, by decide +kernel⟩ (by decide)
theorem tb_v0_17 (cc : ByteArray) : sm_Cal tb_cl tb_N cc "ProgramSlices" tb_W (.invokevirtual 132) (tb_ys 33) (tb_ws 33) 2 (dp_rcO 2) := sm_cal_V (ci := 1) (N0 := 14) (T0 := tb_T1) rfl (tb_GV tb_w107 tb_w108 tb_w109 tb_w10 tb_w110) ⟨by decide, by decide, by decide +kernel⟩ (by decide)
theorem tb_v0_18 (cc : ByteArray) : sm_Cal tb_cl tb_N cc "ProgramSlices" tb_W (.invokevirtual 135) (tb_ys 34) (tb_ws 34) 2 (dp_rcO 2) := sm_cal_V (ci := 1) (N0 := 14) (T0 := tb_T1) rfl (tb_GV tb_w111 tb_w112 tb_w113 tb_w10 tb_w114) ⟨by decide, by decide, by decide +kernel⟩ (by decide)
theorem tb_v0_19 (cc : ByteArray) : sm_Cal tb_cl tb_N cc "ProgramSlices" tb_W (.invokevirtual 139) (tb_ys 73) (tb_ws 73) 4 (dp_rcO 3) := sm_cal_V (ci := 2) (N0 := 7) (T0 := tb_T2) rfl (tb_GV tb_w115 tb_w116 tb_w117 tb_w13 tb_w118) ⟨by decide, by decide, by decide +kernel⟩ (by decide)
theorem tb_v0_20 (cc : ByteArray) : sm_Cal tb_cl tb_N cc "ProgramSlices" tb_W (.invokevirtual 143) (tb_ys 78) (tb_ws 78) 3 (dp_rcO 5) := sm_cal_V (ci := 4) (N0 := 5) (T0 := tb_T4) rfl (tb_GV tb_w119 tb_w120 tb_w121 tb_w17 tb_w122) ⟨by decide, by decide, by decide +kernel⟩ (by decide)
theorem tb_v0_21 (cc : ByteArray) : sm_Cal tb_cl tb_N cc "ProgramSlices" tb_W (.invokevirtual 147) (tb_ys 98) (tb_ws 98) 4 (dp_rcO 10) := sm_cal_V (ci := 9) (N0 := 4) (T0 := tb_T9) rfl (tb_GV tb_w123 tb_w124 tb_w125 tb_w33 tb_w126) ⟨by decide, by decide, by decide +kernel⟩ (by decide)
theorem tb_v0_22 (cc : ByteArray) : sm_Cal tb_cl tb_N cc "ProgramSlices" tb_W (.invokevirtual 151) (tb_ys 100) (tb_ws 100) 1 (dp_rcO 10) := sm_cal_V (ci := 9) (N0 := 4) (T0 := tb_T9) rfl (tb_GV tb_w127 tb_w128 tb_w129 tb_w33 tb_w130) ⟨by decide, by decide, by decide +kernel⟩ (by decide)
theorem tb_v0_23 (cc : ByteArray) : sm_Cal tb_cl tb_N cc "ProgramSlices" tb_W (.invokevirtual 154) (tb_ys 102) (tb_ws 102) 1 (dp_rcO 10) := sm_cal_V (ci := 9) (N0 := 4) (T0 := tb_T9) rfl (tb_GV tb_w131 tb_w132 tb_w133 tb_w33 tb_w134) ⟨by decide, by decide, by decide +kernel⟩ (by decide)
theorem tb_v0_24 (cc : ByteArray) : sm_Cal tb_cl tb_N cc "ProgramSlices" tb_W (.invokevirtual 157) (tb_ys 103) (tb_ws 103) 3 (dp_rcO 10) := sm_cal_V (ci := 9) (N0 := 4) (T0 := tb_T9) rfl (tb_GV tb_w135 tb_w136 tb_w137 tb_w33 tb_w138) ⟨by decide, by decide, by decide +kernel⟩ (by decide)
theorem tb_v0_25 (cc : ByteArray) : sm_Cal tb_cl tb_N cc "ProgramSlices" tb_W (.invokevirtual 161) (tb_ys 107) (tb_ws 107) 1 (dp_rcO 10) := sm_cal_V (ci := 9) (N0 := 4) (T0 := tb_T9) rfl (tb_GV tb_w139 tb_w140 tb_w141 tb_w33 tb_w142) ⟨by decide, by decide, by decide +kernel⟩ (by decide)
theorem tb_v0_26 (cc : ByteArray) : sm_Cal tb_cl tb_N cc "ProgramSlices" tb_W (.invokevirtual 164) (tb_ys 45) (tb_ws 45) 2 (dp_rcO 2) := sm_cal_V (ci := 1) (N0 := 14) (T0 := tb_T1) rfl (tb_GV tb_w143 tb_w144 tb_w145 tb_w10 tb_w146) ⟨by decide, by decide, by decide +kernel⟩ (by decide)
theorem tb_v0_27 (cc : ByteArray) : sm_Cal tb_cl tb_N cc "ProgramSlices" tb_W (.invokevirtual 167) (tb_ys 108) (tb_ws 108) 1 (dp_rcO 10) := sm_cal_V (ci := 9) (N0 := 4) (T0 := tb_T9) rfl (tb_GV tb_w147 tb_w148 tb_w149 tb_w33 tb_w150) ⟨by decide, by decide, by decide +kernel⟩ (by decide)
theorem tb_v0_28 (cc : ByteArray) : sm_Cal tb_cl tb_N cc "ProgramSlices" tb_W (.invokevirtual 174) (tb_ys 110) (tb_ws 110) 3 (dp_rcO 6) := sm_cal_V (ci := 5) (N0 := 15) (T0 := tb_T5) rfl (tb_GV tb_w154 tb_w155 tb_w156 tb_w21 tb_w157) ⟨by decide, by decide, by decide +kernel⟩ (by decide)
theorem tb_v0_29 (cc : ByteArray) : sm_Cal tb_cl tb_N cc "ProgramSlices" tb_W (.invokevirtual 177) (tb_ys 112) (tb_ws 112) 1 (dp_rcO 10) := sm_cal_V (ci := 9) (N0 := 4) (T0 := tb_T9) rfl (tb_GV tb_w158 tb_w159 tb_w160 tb_w33 tb_w161) ⟨by decide, by decide, by decide +kernel⟩ (by decide)
theorem tb_v0_30 (cc : ByteArray) : sm_Cal tb_cl tb_N cc "ProgramSlices" tb_W (.invokevirtual 180) (tb_ys 113) (tb_ws 113) 4 (dp_rcO 6) := sm_cal_V (ci := 5) (N0 := 15) (T0 := tb_T5) rfl (tb_GV tb_w162 tb_w163 tb_w164 tb_w21 tb_w165) ⟨by decide, by decide, by decide +kernel⟩ (by decide)
theorem tb_v0_31 (cc : ByteArray) : sm_Cal tb_cl tb_N cc "ProgramSlices" tb_W (.invokevirtual 184) (tb_ys 129) (tb_ws 129) 1 (dp_rcO 6) := sm_cal_V (ci := 5) (N0 := 15) (T0 := tb_T5) rfl (tb_GV tb_w166 tb_w167 tb_w168 tb_w21 tb_w169) ⟨by decide, by decide, by decide +kernel⟩ (by decide)
theorem tb_v0_32 (cc : ByteArray) : sm_Cal tb_cl tb_N cc "ProgramSlices" tb_W (.invokevirtual 191) (tb_ys 131) (tb_ws 131) 2 (dp_rcO 7) := sm_cal_V (ci := 6) (N0 := 4) (T0 := tb_T6) rfl (tb_GV tb_w170 tb_w171 tb_w172 tb_w173 tb_w174) ⟨by decide, by decide, by decide +kernel⟩ (by decide)
theorem tb_v0_33 (cc : ByteArray) : sm_Cal tb_cl tb_N cc "ProgramSlices" tb_W (.invokevirtual 196) (tb_ys 133) (tb_ws 133) 3 (dp_rcO 7) := sm_cal_V (ci := 6) (N0 := 4) (T0 := tb_T6) rfl (tb_GV tb_w175 tb_w176 tb_w177 tb_w173 tb_w178) ⟨by decide, by decide, by decide +kernel⟩ (by decide)
theorem tb_v0_34 (cc : ByteArray) : sm_Cal tb_cl tb_N cc "ProgramSlices" tb_W (.invokevirtual 199) (tb_ys 135) (tb_ws 135) 1 (dp_rcO 1) := sm_cal_V (ci := 0) (N0 := 8) (T0 := tb_T0) rfl (tb_GV tb_w179 tb_w180 tb_w181 tb_w89 tb_w182) ⟨by decide, by decide, by decide +kernel⟩ (by decide)
theorem tb_v0_35 (cc : ByteArray) : sm_Cal tb_cl tb_N cc "ProgramSlices" tb_W (.invokevirtual 202) (tb_ys 136) (tb_ws 136) 1 (dp_rcO 9) := sm_cal_V (ci := 8) (N0 := 3) (T0 := tb_T8) rfl (tb_GV tb_w183 tb_w184 tb_w185 tb_w29 tb_w186) ⟨by decide, by decide, by decide +kernel⟩ (by decide)
theorem tb_v0_36 (cc : ByteArray) : sm_Cal tb_cl tb_N cc "ProgramSlices" tb_W (.invokevirtual 205) (tb_ys 141) (tb_ws 141) 2 (dp_rcO 9) := sm_cal_V (ci := 8) (N0 := 3) (T0 := tb_T8) rfl (tb_GV tb_w187 tb_w188 tb_w189 tb_w29 tb_w190) ⟨by decide, by decide, by decide +kernel⟩ (by decide)
theorem tb_v0_ok : ∀ e ∈ tb_v0, ∀ cc, sm_Cal tb_cl tb_N cc "ProgramSlices" tb_W (.invokevirtual e.1) (tb_ys e.2.1) (tb_ws e.2.1) e.2.2.1 (dp_rcO e.2.2.2) := List.forall_mem_cons.mpr ⟨tb_v0_0, List.forall_mem_cons.mpr ⟨tb_v0_1, List.forall_mem_cons.mpr ⟨tb_v0_2, List.forall_mem_cons.mpr ⟨tb_v0_3, List.forall_mem_cons.mpr ⟨tb_v0_4, List.forall_mem_cons.mpr ⟨tb_v0_5, List.forall_mem_cons.mpr ⟨tb_v0_6, List.forall_mem_cons.mpr ⟨tb_v0_7, List.forall_mem_cons.mpr ⟨tb_v0_8, List.forall_mem_cons.mpr ⟨tb_v0_9, List.forall_mem_cons.mpr ⟨tb_v0_10, List.forall_mem_cons.mpr ⟨tb_v0_11, List.forall_mem_cons.mpr ⟨tb_v0_12, List.forall_mem_cons.mpr ⟨tb_v0_13, List.forall_mem_cons.mpr ⟨tb_v0_14, List.forall_mem_cons.mpr ⟨tb_v0_15, List.forall_mem_cons.mpr ⟨tb_v0_16, List.forall_mem_cons.mpr ⟨tb_v0_17, List.forall_mem_cons.mpr ⟨tb_v0_18, List.forall_mem_cons.mpr ⟨tb_v0_19, List.forall_mem_cons.mpr ⟨tb_v0_20, List.forall_mem_cons.mpr ⟨tb_v0_21, List.forall_mem_cons.mpr ⟨tb_v0_22, List.forall_mem_cons.mpr ⟨tb_v0_23, List.forall_mem_cons.mpr ⟨tb_v0_24, List.forall_mem_cons.mpr ⟨tb_v0_25, List.forall_mem_cons.mpr ⟨tb_v0_26, List.forall_mem_cons.mpr ⟨tb_v0_27, List.forall_mem_cons.mpr ⟨tb_v0_28, List.forall_mem_cons.mpr ⟨tb_v0_29, List.forall_mem_cons.mpr ⟨tb_v0_30, List.forall_mem_cons.mpr ⟨tb_v0_31, List.forall_mem_cons.mpr ⟨tb_v0_32, List.forall_mem_cons.mpr ⟨tb_v0_33, List.forall_mem_cons.mpr ⟨tb_v0_34, List.forall_mem_cons.mpr ⟨tb_v0_35, List.forall_mem_cons.mpr ⟨tb_v0_36, fun _ h => absurd h List.not_mem_nil⟩⟩⟩⟩⟩⟩⟩⟩⟩⟩⟩⟩⟩⟩⟩⟩⟩⟩⟩⟩⟩⟩⟩⟩⟩⟩⟩⟩⟩⟩⟩⟩⟩⟩⟩⟩⟩
def tb_i0 : List (Nat × Nat × Nat × Nat) := [(11, 1, 1, 2), (18, 2, 2, 3), (27, 4, 3, 5), (36, 5, 2, 6), (43, 7, 1, 8), (50, 8, 3, 9), (59, 9, 1, 10)]
theorem tb_i0_0 (cc : ByteArray) : sm_Cal tb_cl tb_N cc "ProgramSlices" tb_W (.invokespecial 11) (tb_ys 1) (tb_ws 1) 1 (dp_rcO 2) := sm_cal_IN (ret' := none) (host := "ProgramSlices") (ci := 1) (tb_G tb_w9) tb_w10 (tb_inn (i := 24) (by decide +kernel) rfl) tb_w11 rfl ⟨by decide, by decide, by decide +kernel⟩ (by decide)
theorem tb_i0_1 (cc : ByteArray) : sm_Cal tb_cl tb_N cc "ProgramSlices" tb_W (.invokespecial 18) (tb_ys 2) (tb_ws 2) 2 (dp_rcO 3) := sm_cal_I (ret' := none) (ci := 2) (tb_G tb_w12) tb_w13 tb_w14 tb_w15 rfl ⟨by decide, by decide, by decide +kernel⟩ (by decide)
theorem tb_i0_2 (cc : ByteArray) : sm_Cal tb_cl tb_N cc "ProgramSlices" tb_W (.invokespecial 27) (tb_ys 4) (tb_ws 4) 3 (dp_rcO 5) := sm_cal_I (ret' := none) (ci := 4) (tb_G tb_w16) tb_w17 tb_w18 tb_w19 rfl ⟨by decide, by decide, by decide +kernel⟩ (by decide)
theorem tb_i0_3 (cc : ByteArray) : sm_Cal tb_cl tb_N cc "ProgramSlices" tb_W (.invokespecial 36) (tb_ys 5) (tb_ws 5) 2 (dp_rcO 6) := sm_cal_I (ret' := none) (ci := 5) (tb_G tb_w20) tb_w21 tb_w22 tb_w23 rfl ⟨by decide, by decide, by decide +kernel⟩ (by decide)
theorem tb_i0_4 (cc : ByteArray) : sm_Cal tb_cl tb_N cc "ProgramSlices" tb_W (.invokespecial 43) (tb_ys 7) (tb_ws 7) 1 (dp_rcO 8) := sm_cal_I (ret' := none) (ci := 7) (tb_G tb_w24) tb_w25 tb_w26 tb_w27 rfl ⟨by decide, by decide, by decide +kernel⟩ (by decide)
theorem tb_i0_5 (cc : ByteArray) : sm_Cal tb_cl tb_N cc "ProgramSlices" tb_W (.invokespecial 50) (tb_ys 8) (tb_ws 8) 3 (dp_rcO 9) := sm_cal_I (ret' := none) (ci := 8) (tb_G tb_w28) tb_w29 tb_w30 tb_w31 rfl ⟨by decide, by decide, by decide +kernel⟩ (by decide)
theorem tb_i0_6 (cc : ByteArray) : sm_Cal tb_cl tb_N cc "ProgramSlices" tb_W (.invokespecial 59) (tb_ys 9) (tb_ws 9) 1 (dp_rcO 10) := sm_cal_IN (ret' := none) (host := "ProgramSlices") (ci := 9) (tb_G tb_w32) tb_w33 (tb_inn (i := 286) (by decide +kernel) rfl) tb_w34 rfl ⟨by decide, by decide, by decide +kernel⟩ (by decide)
theorem tb_i0_ok : ∀ e ∈ tb_i0, ∀ cc, sm_Cal tb_cl tb_N cc "ProgramSlices" tb_W (.invokespecial e.1) (tb_ys e.2.1) (tb_ws e.2.1) e.2.2.1 (dp_rcO e.2.2.2) := List.forall_mem_cons.mpr ⟨tb_i0_0, List.forall_mem_cons.mpr ⟨tb_i0_1, List.forall_mem_cons.mpr ⟨tb_i0_2, List.forall_mem_cons.mpr ⟨tb_i0_3, List.forall_mem_cons.mpr ⟨tb_i0_4, List.forall_mem_cons.mpr ⟨tb_i0_5, List.forall_mem_cons.mpr ⟨tb_i0_6, fun _ h => absurd h List.not_mem_nil⟩⟩⟩⟩⟩⟩⟩
def tb_e0 : List (Nat × Nat × List (Option (Option Nat))) := [(9, 1, [some none, some none, some none, some none, none, some none, some none, some none, some none, some none, some none, none, some none, none]), (16, 2, [some none, some none, some none, some none, some none, some none, some none]), (25, 4, [some none, some none, some none, some none, none]), (34, 5, [some none, some none, some none, some none, some none, some none, some none, none, none, none, none, none, none, none, none]), (41, 7, [none, some none, some none, some none]), (48, 8, [some none, some none, some none]), (57, 9, [some none, none, none, none])]
theorem tb_e0_0 : dp_nok tb_cl "ProgramSlices" tb_W 9 (1, [some none, some none, some none, some none, none, some none, some none, some none, some none, some none, some none, none, some none, none]) := ⟨"ProgramSlices$Code", tb_T1, tb_t1, rfl, tb_u1, tb_y1, tb_w191, tb_w192, tb_w10, by
  intro j hj ad
  have hj : j < 14 := hj
  rcases (show j = 0 ∨ j = 1 ∨ j = 2 ∨ j = 3 ∨ j = 4 ∨ j = 5 ∨ j = 6 ∨ j = 7 ∨ j = 8 ∨ j = 9 ∨ j = 10 ∨ j = 11 ∨ j = 12 ∨ j = 13 by omega) with rfl | rfl | rfl | rfl | rfl | rfl | rfl | rfl | rfl | rfl | rfl | rfl | rfl | rfl <;> rfl, fun _ _ => rfl⟩
theorem tb_e0_1 : dp_nok tb_cl "ProgramSlices" tb_W 16 (2, [some none, some none, some none, some none, some none, some none, some none]) := ⟨"ProgramSlices$Dependences", tb_T2, tb_t2, rfl, tb_u2, tb_y2, tb_w193, tb_w194, tb_w13, by
  intro j hj ad
  have hj : j < 7 := hj
  rcases (show j = 0 ∨ j = 1 ∨ j = 2 ∨ j = 3 ∨ j = 4 ∨ j = 5 ∨ j = 6 by omega) with rfl | rfl | rfl | rfl | rfl | rfl | rfl <;> rfl, fun _ _ => rfl⟩
theorem tb_e0_2 : dp_nok tb_cl "ProgramSlices" tb_W 25 (4, [some none, some none, some none, some none, none]) := ⟨"ProgramSlices$Walk", tb_T4, tb_t4, rfl, tb_u4, tb_y4, tb_w195, tb_w196, tb_w17, by
  intro j hj ad
  have hj : j < 5 := hj
  rcases (show j = 0 ∨ j = 1 ∨ j = 2 ∨ j = 3 ∨ j = 4 by omega) with rfl | rfl | rfl | rfl | rfl <;> rfl, fun _ _ => rfl⟩
theorem tb_e0_3 : dp_nok tb_cl "ProgramSlices" tb_W 34 (5, [some none, some none, some none, some none, some none, some none, some none, none, none, none, none, none, none, none, none]) := ⟨"ProgramSlices$Machine", tb_T5, tb_t5, rfl, tb_u5, tb_y5, tb_w197, tb_w198, tb_w21, by
  intro j hj ad
  have hj : j < 15 := hj
  rcases (show j = 0 ∨ j = 1 ∨ j = 2 ∨ j = 3 ∨ j = 4 ∨ j = 5 ∨ j = 6 ∨ j = 7 ∨ j = 8 ∨ j = 9 ∨ j = 10 ∨ j = 11 ∨ j = 12 ∨ j = 13 ∨ j = 14 by omega) with rfl | rfl | rfl | rfl | rfl | rfl | rfl | rfl | rfl | rfl | rfl | rfl | rfl | rfl | rfl <;> rfl, fun _ _ => rfl⟩
theorem tb_e0_4 : dp_nok tb_cl "ProgramSlices" tb_W 41 (7, [none, some none, some none, some none]) := ⟨"ProgramSlices$Order", tb_T7, tb_t7, rfl, tb_u7, tb_y7, tb_w199, tb_w200, tb_w25, by
  intro j hj ad
  have hj : j < 4 := hj
  rcases (show j = 0 ∨ j = 1 ∨ j = 2 ∨ j = 3 by omega) with rfl | rfl | rfl | rfl <;> rfl, fun _ _ => rfl⟩
theorem tb_e0_5 : dp_nok tb_cl "ProgramSlices" tb_W 48 (8, [some none, some none, some none]) := ⟨"ProgramSlices$Flows", tb_T8, tb_t8, rfl, tb_u8, tb_y8, tb_w201, tb_w202, tb_w29, by
  intro j hj ad
  have hj : j < 3 := hj
  rcases (show j = 0 ∨ j = 1 ∨ j = 2 by omega) with rfl | rfl | rfl <;> rfl, fun _ _ => rfl⟩
theorem tb_e0_6 : dp_nok tb_cl "ProgramSlices" tb_W 57 (9, [some none, none, none, none]) := ⟨"ProgramSlices$Slice", tb_T9, tb_t9, rfl, tb_u9, tb_y9, tb_w203, tb_w204, tb_w33, by
  intro j hj ad
  have hj : j < 4 := hj
  rcases (show j = 0 ∨ j = 1 ∨ j = 2 ∨ j = 3 by omega) with rfl | rfl | rfl | rfl <;> rfl, fun _ _ => rfl⟩
theorem tb_e0_ok : ∀ e ∈ tb_e0, dp_nok tb_cl "ProgramSlices" tb_W e.1 e.2 := List.forall_mem_cons.mpr ⟨tb_e0_0, List.forall_mem_cons.mpr ⟨tb_e0_1, List.forall_mem_cons.mpr ⟨tb_e0_2, List.forall_mem_cons.mpr ⟨tb_e0_3, List.forall_mem_cons.mpr ⟨tb_e0_4, List.forall_mem_cons.mpr ⟨tb_e0_5, List.forall_mem_cons.mpr ⟨tb_e0_6, fun _ h => absurd h List.not_mem_nil⟩⟩⟩⟩⟩⟩⟩
def tb_K0 : dp_K := (dp_lk tb_f0, dp_lk tb_c0, dp_lk tb_l0, fun i => match i % 3 with
  | 0 => dp_lk tb_s0 (i / 3)
  | 1 => dp_lk tb_v0 (i / 3)
  | _ => dp_lk tb_i0 (i / 3), dp_lk tb_e0, 3)
theorem tb_K0_ok : dp_Kok tb_cl tb_N "ProgramSlices" tb_W tb_ys tb_ws tb_K0 := by
  refine ⟨fun i F h => tb_f0_ok _ (dp_lk_mem h), fun i v h => tb_c0_ok _ (dp_lk_mem h), fun i v h => tb_l0_ok _ (dp_lk_mem h), fun i C h cc => ?_, fun i C h cc => ?_, fun i C h cc => ?_, fun i C h => tb_e0_ok _ (dp_lk_mem h), ⟨tb_w205, tb_w206, tb_w207⟩, tb_w208, tb_w209, tb_w210⟩
  · have h : dp_lk tb_s0 i = some C := by
      have e1 : 3 * i % 3 = 0 := by omega
      have e2 : 3 * i / 3 = i := by omega
      simpa [tb_K0, e1, e2] using h
    exact tb_s0_ok _ (dp_lk_mem h) cc
  · have h : dp_lk tb_v0 i = some C := by
      have e1 : (3 * i + 1) % 3 = 1 := by omega
      have e2 : (3 * i + 1) / 3 = i := by omega
      simpa [tb_K0, e1, e2] using h
    exact tb_v0_ok _ (dp_lk_mem h) cc
  · have h : dp_lk tb_i0 i = some C := by
      have e1 : (3 * i + 2) % 3 = 2 := by omega
      have e2 : (3 * i + 2) / 3 = i := by omega
      simpa [tb_K0, e1, e2] using h
    exact tb_i0_ok _ (dp_lk_mem h) cc
def tb_f1 : List (Nat × Nat × Nat × Nat) := [(9, 1, 0, 2), (15, 1, 1, 2), (18, 1, 2, 2), (21, 1, 3, 2), (45, 1, 4, 0), (24, 1, 5, 2), (27, 1, 6, 2), (30, 1, 7, 2), (33, 1, 8, 2), (36, 1, 9, 2), (39, 1, 10, 2), (71, 1, 11, 0), (42, 1, 12, 2), (68, 1, 13, 0)]
theorem tb_f1_0 : dp_fok tb_cl tb_N "ProgramSlices$Code" tb_W 9 (1, 0, 2) := ⟨"ProgramSlices$Code", tb_T1, 14, tb_t1, rfl, by decide, tb_u1, tb_y1, tb_n1, Or.inl tb_w211, fun h => absurd h (by decide), fun h => absurd h (by decide), fun _ => ⟨rfl, rfl, tb_w211, fun _ => ⟨rfl, rfl⟩⟩⟩
theorem tb_f1_1 : dp_fok tb_cl tb_N "ProgramSlices$Code" tb_W 15 (1, 1, 2) := ⟨"ProgramSlices$Code", tb_T1, 14, tb_t1, rfl, by decide, tb_u1, tb_y1, tb_n1, Or.inl tb_w212, fun h => absurd h (by decide), fun h => absurd h (by decide), fun _ => ⟨rfl, rfl, tb_w212, fun _ => ⟨rfl, rfl⟩⟩⟩
theorem tb_f1_2 : dp_fok tb_cl tb_N "ProgramSlices$Code" tb_W 18 (1, 2, 2) := ⟨"ProgramSlices$Code", tb_T1, 14, tb_t1, rfl, by decide, tb_u1, tb_y1, tb_n1, Or.inl tb_w213, fun h => absurd h (by decide), fun h => absurd h (by decide), fun _ => ⟨rfl, rfl, tb_w213, fun _ => ⟨rfl, rfl⟩⟩⟩
theorem tb_f1_3 : dp_fok tb_cl tb_N "ProgramSlices$Code" tb_W 21 (1, 3, 2) := ⟨"ProgramSlices$Code", tb_T1, 14, tb_t1, rfl, by decide, tb_u1, tb_y1, tb_n1, Or.inl tb_w214, fun h => absurd h (by decide), fun h => absurd h (by decide), fun _ => ⟨rfl, rfl, tb_w214, fun _ => ⟨rfl, rfl⟩⟩⟩
theorem tb_f1_4 : dp_fok tb_cl tb_N "ProgramSlices$Code" tb_W 45 (1, 4, 0) := ⟨"ProgramSlices$Code", tb_T1, 14, tb_t1, rfl, by decide, tb_u1, tb_y1, tb_n1, Or.inl tb_w215, fun _ => ⟨rfl, rfl⟩, fun h => absurd h (by decide), fun h => absurd h (by decide)⟩
theorem tb_f1_5 : dp_fok tb_cl tb_N "ProgramSlices$Code" tb_W 24 (1, 5, 2) := ⟨"ProgramSlices$Code", tb_T1, 14, tb_t1, rfl, by decide, tb_u1, tb_y1, tb_n1, Or.inl tb_w216, fun h => absurd h (by decide), fun h => absurd h (by decide), fun _ => ⟨rfl, rfl, tb_w216, fun _ => ⟨rfl, rfl⟩⟩⟩
theorem tb_f1_6 : dp_fok tb_cl tb_N "ProgramSlices$Code" tb_W 27 (1, 6, 2) := ⟨"ProgramSlices$Code", tb_T1, 14, tb_t1, rfl, by decide, tb_u1, tb_y1, tb_n1, Or.inl tb_w217, fun h => absurd h (by decide), fun h => absurd h (by decide), fun _ => ⟨rfl, rfl, tb_w217, fun _ => ⟨rfl, rfl⟩⟩⟩
theorem tb_f1_7 : dp_fok tb_cl tb_N "ProgramSlices$Code" tb_W 30 (1, 7, 2) := ⟨"ProgramSlices$Code", tb_T1, 14, tb_t1, rfl, by decide, tb_u1, tb_y1, tb_n1, Or.inl tb_w218, fun h => absurd h (by decide), fun h => absurd h (by decide), fun _ => ⟨rfl, rfl, tb_w218, fun _ => ⟨rfl, rfl⟩⟩⟩
theorem tb_f1_8 : dp_fok tb_cl tb_N "ProgramSlices$Code" tb_W 33 (1, 8, 2) := ⟨"ProgramSlices$Code", tb_T1, 14, tb_t1, rfl, by decide, tb_u1, tb_y1, tb_n1, Or.inl tb_w219, fun h => absurd h (by decide), fun h => absurd h (by decide), fun _ => ⟨rfl, rfl, tb_w219, fun _ => ⟨rfl, rfl⟩⟩⟩
theorem tb_f1_9 : dp_fok tb_cl tb_N "ProgramSlices$Code" tb_W 36 (1, 9, 2) := ⟨"ProgramSlices$Code", tb_T1, 14, tb_t1, rfl, by decide, tb_u1, tb_y1, tb_n1, Or.inl tb_w220, fun h => absurd h (by decide), fun h => absurd h (by decide), fun _ => ⟨rfl, rfl, tb_w220, fun _ => ⟨rfl, rfl⟩⟩⟩
theorem tb_f1_10 : dp_fok tb_cl tb_N "ProgramSlices$Code" tb_W 39 (1, 10, 2) := ⟨"ProgramSlices$Code", tb_T1, 14, tb_t1, rfl, by decide, tb_u1, tb_y1, tb_n1, Or.inl tb_w221, fun h => absurd h (by decide), fun h => absurd h (by decide), fun _ => ⟨rfl, rfl, tb_w221, fun _ => ⟨rfl, rfl⟩⟩⟩
theorem tb_f1_11 : dp_fok tb_cl tb_N "ProgramSlices$Code" tb_W 71 (1, 11, 0) := ⟨"ProgramSlices$Code", tb_T1, 14, tb_t1, rfl, by decide, tb_u1, tb_y1, tb_n1, Or.inl tb_w222, fun _ => ⟨rfl, rfl⟩, fun h => absurd h (by decide), fun h => absurd h (by decide)⟩
theorem tb_f1_12 : dp_fok tb_cl tb_N "ProgramSlices$Code" tb_W 42 (1, 12, 2) := ⟨"ProgramSlices$Code", tb_T1, 14, tb_t1, rfl, by decide, tb_u1, tb_y1, tb_n1, Or.inl tb_w223, fun h => absurd h (by decide), fun h => absurd h (by decide), fun _ => ⟨rfl, rfl, tb_w223, fun _ => ⟨rfl, rfl⟩⟩⟩
theorem tb_f1_13 : dp_fok tb_cl tb_N "ProgramSlices$Code" tb_W 68 (1, 13, 0) := ⟨"ProgramSlices$Code", tb_T1, 14, tb_t1, rfl, by decide, tb_u1, tb_y1, tb_n1, Or.inl tb_w224, fun _ => ⟨rfl, rfl⟩, fun h => absurd h (by decide), fun h => absurd h (by decide)⟩
theorem tb_f1_ok : ∀ e ∈ tb_f1, dp_fok tb_cl tb_N "ProgramSlices$Code" tb_W e.1 e.2 := List.forall_mem_cons.mpr ⟨tb_f1_0, List.forall_mem_cons.mpr ⟨tb_f1_1, List.forall_mem_cons.mpr ⟨tb_f1_2, List.forall_mem_cons.mpr ⟨tb_f1_3, List.forall_mem_cons.mpr ⟨tb_f1_4, List.forall_mem_cons.mpr ⟨tb_f1_5, List.forall_mem_cons.mpr ⟨tb_f1_6, List.forall_mem_cons.mpr ⟨tb_f1_7, List.forall_mem_cons.mpr ⟨tb_f1_8, List.forall_mem_cons.mpr ⟨tb_f1_9, List.forall_mem_cons.mpr ⟨tb_f1_10, List.forall_mem_cons.mpr ⟨tb_f1_11, List.forall_mem_cons.mpr ⟨tb_f1_12, List.forall_mem_cons.mpr ⟨tb_f1_13, fun _ h => absurd h List.not_mem_nil⟩⟩⟩⟩⟩⟩⟩⟩⟩⟩⟩⟩⟩⟩
def tb_c1 : List (Nat × Int32) := []
theorem tb_c1_ok : ∀ e ∈ tb_c1, Jvm.Cond.constant "ProgramSlices$Code" e.1 e.2 ∈ tb_W := fun _ h => absurd h List.not_mem_nil
def tb_l1 : List (Nat × Int64) := []
theorem tb_l1_ok : ∀ e ∈ tb_l1, Jvm.Cond.constantLong "ProgramSlices$Code" e.1 e.2 ∈ tb_W := fun _ h => absurd h List.not_mem_nil
def tb_s1 : List (Nat × Nat × Nat × Nat) := [(49, 13, 1, 0), (62, 14, 1, 0), (53, 15, 1, 0), (56, 16, 1, 0), (59, 17, 1, 0)]
theorem tb_s1_0 (cc : ByteArray) : sm_Cal tb_cl tb_N cc "ProgramSlices$Code" tb_W (.invokestatic 49) (tb_ys 13) (tb_ws 13) 1 (dp_rcO 0) := sm_cal_S (tb_GS tb_w225 tb_w226 tb_w10 tb_w227) ⟨by decide, by decide, by decide +kernel⟩ (by decide)
theorem tb_s1_1 (cc : ByteArray) : sm_Cal tb_cl tb_N cc "ProgramSlices$Code" tb_W (.invokestatic 62) (tb_ys 14) (tb_ws 14) 1 (dp_rcO 0) := sm_cal_S (tb_GS tb_w228 tb_w229 tb_w10 tb_w230) ⟨by decide, by decide, by decide +kernel⟩ (by decide)
theorem tb_s1_2 (cc : ByteArray) : sm_Cal tb_cl tb_N cc "ProgramSlices$Code" tb_W (.invokestatic 53) (tb_ys 15) (tb_ws 15) 1 (dp_rcO 0) := sm_cal_SN (host := "ProgramSlices") (tb_G tb_w90) tb_w88 tb_w89 (tb_inn (i := 346) (by decide +kernel) rfl) ⟨by decide, by decide, by decide +kernel⟩ (by decide)
theorem tb_s1_3 (cc : ByteArray) : sm_Cal tb_cl tb_N cc "ProgramSlices$Code" tb_W (.invokestatic 56) (tb_ys 16) (tb_ws 16) 1 (dp_rcO 0) := sm_cal_S (tb_GS tb_w231 tb_w232 tb_w10 tb_w233) ⟨by decide, by decide, by decide +kernel⟩ (by decide)
theorem tb_s1_4 (cc : ByteArray) : sm_Cal tb_cl tb_N cc "ProgramSlices$Code" tb_W (.invokestatic 59) (tb_ys 17) (tb_ws 17) 1 (dp_rcO 0) := sm_cal_S (tb_GS tb_w234 tb_w235 tb_w10 tb_w236) ⟨by decide, by decide, by decide +kernel⟩ (by decide)
theorem tb_s1_ok : ∀ e ∈ tb_s1, ∀ cc, sm_Cal tb_cl tb_N cc "ProgramSlices$Code" tb_W (.invokestatic e.1) (tb_ys e.2.1) (tb_ws e.2.1) e.2.2.1 (dp_rcO e.2.2.2) := List.forall_mem_cons.mpr ⟨tb_s1_0, List.forall_mem_cons.mpr ⟨tb_s1_1, List.forall_mem_cons.mpr ⟨tb_s1_2, List.forall_mem_cons.mpr ⟨tb_s1_3, List.forall_mem_cons.mpr ⟨tb_s1_4, fun _ h => absurd h List.not_mem_nil⟩⟩⟩⟩⟩
def tb_v1 : List (Nat × Nat × Nat × Nat) := [(74, 27, 2, 2), (81, 28, 2, 2), (84, 29, 3, 2), (88, 30, 3, 2), (91, 31, 2, 2), (77, 32, 1, 2), (94, 33, 2, 2), (97, 34, 2, 2), (65, 45, 2, 2)]
theorem tb_v1_0 (cc : ByteArray) : sm_Cal tb_cl tb_N cc "ProgramSlices$Code" tb_W (.invokevirtual 74) (tb_ys 27) (tb_ws 27) 2 (dp_rcO 2) := sm_cal_V (ci := 1) (N0 := 14) (T0 := tb_T1) rfl (tb_GV tb_w237 tb_w238 tb_w239 tb_w10 tb_w240) ⟨by decide, by decide, by decide +kernel⟩ (by decide)
theorem tb_v1_1 (cc : ByteArray) : sm_Cal tb_cl tb_N cc "ProgramSlices$Code" tb_W (.invokevirtual 81) (tb_ys 28) (tb_ws 28) 2 (dp_rcO 2) := sm_cal_V (ci := 1) (N0 := 14) (T0 := tb_T1) rfl (tb_GV tb_w241 tb_w242 tb_w243 tb_w10 tb_w244) ⟨by decide, by decide, by decide +kernel⟩ (by decide)
theorem tb_v1_2 (cc : ByteArray) : sm_Cal tb_cl tb_N cc "ProgramSlices$Code" tb_W (.invokevirtual 84) (tb_ys 29) (tb_ws 29) 3 (dp_rcO 2) := sm_cal_V (ci := 1) (N0 := 14) (T0 := tb_T1) rfl (tb_GV tb_w245 tb_w246 tb_w247 tb_w10 tb_w248) ⟨by decide, by decide, by decide +kernel⟩ (by decide)
theorem tb_v1_3 (cc : ByteArray) : sm_Cal tb_cl tb_N cc "ProgramSlices$Code" tb_W (.invokevirtual 88) (tb_ys 30) (tb_ws 30) 3 (dp_rcO 2) := sm_cal_V (ci := 1) (N0 := 14) (T0 := tb_T1) rfl (tb_GV tb_w249 tb_w250 tb_w251 tb_w10 tb_w252) ⟨by decide, by decide, by decide +kernel⟩ (by decide)
theorem tb_v1_4 (cc : ByteArray) : sm_Cal tb_cl tb_N cc "ProgramSlices$Code" tb_W (.invokevirtual 91) (tb_ys 31) (tb_ws 31) 2 (dp_rcO 2) := sm_cal_V (ci := 1) (N0 := 14) (T0 := tb_T1) rfl (tb_GV tb_w253 tb_w254 tb_w255 tb_w10 tb_w256) ⟨by decide, by decide, by decide +kernel⟩ (by decide)
theorem tb_v1_5 (cc : ByteArray) : sm_Cal tb_cl tb_N cc "ProgramSlices$Code" tb_W (.invokevirtual 77) (tb_ys 32) (tb_ws 32) 1 (dp_rcO 2) := sm_cal_V (ci := 1) (N0 := 14) (T0 := tb_T1) rfl (tb_GV tb_w257 tb_w258 tb_w259 tb_w10 tb_w260) ⟨by decide, by decide, by decide +kernel⟩ (by decide)
theorem tb_v1_6 (cc : ByteArray) : sm_Cal tb_cl tb_N cc "ProgramSlices$Code" tb_W (.invokevirtual 94) (tb_ys 33) (tb_ws 33) 2 (dp_rcO 2) := sm_cal_V (ci := 1) (N0 := 14) (T0 := tb_T1) rfl (tb_GV tb_w261 tb_w108 tb_w109 tb_w10 tb_w110) ⟨by decide, by decide, by decide +kernel⟩ (by decide)
theorem tb_v1_7 (cc : ByteArray) : sm_Cal tb_cl tb_N cc "ProgramSlices$Code" tb_W (.invokevirtual 97) (tb_ys 34) (tb_ws 34) 2 (dp_rcO 2) := sm_cal_V (ci := 1) (N0 := 14) (T0 := tb_T1) rfl (tb_GV tb_w262 tb_w112 tb_w113 tb_w10 tb_w114) ⟨by decide, by decide, by decide +kernel⟩ (by decide)
theorem tb_v1_8 (cc : ByteArray) : sm_Cal tb_cl tb_N cc "ProgramSlices$Code" tb_W (.invokevirtual 65) (tb_ys 45) (tb_ws 45) 2 (dp_rcO 2) := sm_cal_V (ci := 1) (N0 := 14) (T0 := tb_T1) rfl (tb_GV tb_w263 tb_w144 tb_w145 tb_w10 tb_w146) ⟨by decide, by decide, by decide +kernel⟩ (by decide)
theorem tb_v1_ok : ∀ e ∈ tb_v1, ∀ cc, sm_Cal tb_cl tb_N cc "ProgramSlices$Code" tb_W (.invokevirtual e.1) (tb_ys e.2.1) (tb_ws e.2.1) e.2.2.1 (dp_rcO e.2.2.2) := List.forall_mem_cons.mpr ⟨tb_v1_0, List.forall_mem_cons.mpr ⟨tb_v1_1, List.forall_mem_cons.mpr ⟨tb_v1_2, List.forall_mem_cons.mpr ⟨tb_v1_3, List.forall_mem_cons.mpr ⟨tb_v1_4, List.forall_mem_cons.mpr ⟨tb_v1_5, List.forall_mem_cons.mpr ⟨tb_v1_6, List.forall_mem_cons.mpr ⟨tb_v1_7, List.forall_mem_cons.mpr ⟨tb_v1_8, fun _ h => absurd h List.not_mem_nil⟩⟩⟩⟩⟩⟩⟩⟩⟩
def tb_i1 : List (Nat × Nat × Nat × Nat) := []
theorem tb_i1_ok : ∀ e ∈ tb_i1, ∀ cc, sm_Cal tb_cl tb_N cc "ProgramSlices$Code" tb_W (.invokespecial e.1) (tb_ys e.2.1) (tb_ws e.2.1) e.2.2.1 (dp_rcO e.2.2.2) := fun _ h => absurd h List.not_mem_nil
def tb_e1 : List (Nat × Nat × List (Option (Option Nat))) := []
theorem tb_e1_ok : ∀ e ∈ tb_e1, dp_nok tb_cl "ProgramSlices$Code" tb_W e.1 e.2 := fun _ h => absurd h List.not_mem_nil
def tb_K1 : dp_K := (dp_lk tb_f1, dp_lk tb_c1, dp_lk tb_l1, fun i => match i % 3 with
  | 0 => dp_lk tb_s1 (i / 3)
  | 1 => dp_lk tb_v1 (i / 3)
  | _ => dp_lk tb_i1 (i / 3), dp_lk tb_e1, 3)
theorem tb_K1_ok : dp_Kok tb_cl tb_N "ProgramSlices$Code" tb_W tb_ys tb_ws tb_K1 := by
  refine ⟨fun i F h => tb_f1_ok _ (dp_lk_mem h), fun i v h => tb_c1_ok _ (dp_lk_mem h), fun i v h => tb_l1_ok _ (dp_lk_mem h), fun i C h cc => ?_, fun i C h cc => ?_, fun i C h cc => ?_, fun i C h => tb_e1_ok _ (dp_lk_mem h), ⟨tb_w264, tb_w206, tb_w207⟩, tb_w208, tb_w209, tb_w210⟩
  · have h : dp_lk tb_s1 i = some C := by
      have e1 : 3 * i % 3 = 0 := by omega
      have e2 : 3 * i / 3 = i := by omega
      simpa [tb_K1, e1, e2] using h
    exact tb_s1_ok _ (dp_lk_mem h) cc
  · have h : dp_lk tb_v1 i = some C := by
      have e1 : (3 * i + 1) % 3 = 1 := by omega
      have e2 : (3 * i + 1) / 3 = i := by omega
      simpa [tb_K1, e1, e2] using h
    exact tb_v1_ok _ (dp_lk_mem h) cc
  · have h : dp_lk tb_i1 i = some C := by
      have e1 : (3 * i + 2) % 3 = 2 := by omega
      have e2 : (3 * i + 2) / 3 = i := by omega
      simpa [tb_K1, e1, e2] using h
    exact tb_i1_ok _ (dp_lk_mem h) cc
def tb_f2 : List (Nat × Nat × Nat × Nat) := [(113, 1, 0, 3), (135, 1, 1, 3), (116, 1, 2, 3), (123, 1, 3, 3), (48, 1, 4, 0), (93, 1, 5, 3), (96, 1, 8, 3), (126, 1, 9, 3), (129, 1, 10, 3), (87, 1, 11, 0), (27, 2, 0, 2), (36, 2, 1, 2), (9, 2, 2, 2), (15, 2, 3, 2), (18, 2, 4, 2), (21, 2, 5, 2), (24, 2, 6, 2)]
theorem tb_f2_0 : dp_fok tb_cl tb_N "ProgramSlices$Dependences" tb_W 113 (1, 0, 3) := ⟨"ProgramSlices$Code", tb_T1, 14, tb_t1, rfl, by decide, tb_u1, tb_y1, tb_n1, Or.inl tb_w265, fun h => absurd h (by decide), fun h => absurd h (by decide), fun h => absurd h (by decide)⟩
theorem tb_f2_1 : dp_fok tb_cl tb_N "ProgramSlices$Dependences" tb_W 135 (1, 1, 3) := ⟨"ProgramSlices$Code", tb_T1, 14, tb_t1, rfl, by decide, tb_u1, tb_y1, tb_n1, Or.inl tb_w266, fun h => absurd h (by decide), fun h => absurd h (by decide), fun h => absurd h (by decide)⟩
theorem tb_f2_2 : dp_fok tb_cl tb_N "ProgramSlices$Dependences" tb_W 116 (1, 2, 3) := ⟨"ProgramSlices$Code", tb_T1, 14, tb_t1, rfl, by decide, tb_u1, tb_y1, tb_n1, Or.inl tb_w267, fun h => absurd h (by decide), fun h => absurd h (by decide), fun h => absurd h (by decide)⟩
theorem tb_f2_3 : dp_fok tb_cl tb_N "ProgramSlices$Dependences" tb_W 123 (1, 3, 3) := ⟨"ProgramSlices$Code", tb_T1, 14, tb_t1, rfl, by decide, tb_u1, tb_y1, tb_n1, Or.inl tb_w268, fun h => absurd h (by decide), fun h => absurd h (by decide), fun h => absurd h (by decide)⟩
theorem tb_f2_4 : dp_fok tb_cl tb_N "ProgramSlices$Dependences" tb_W 48 (1, 4, 0) := ⟨"ProgramSlices$Code", tb_T1, 14, tb_t1, rfl, by decide, tb_u1, tb_y1, tb_n1, Or.inl tb_w269, fun _ => ⟨rfl, rfl⟩, fun h => absurd h (by decide), fun h => absurd h (by decide)⟩
theorem tb_f2_5 : dp_fok tb_cl tb_N "ProgramSlices$Dependences" tb_W 93 (1, 5, 3) := ⟨"ProgramSlices$Code", tb_T1, 14, tb_t1, rfl, by decide, tb_u1, tb_y1, tb_n1, Or.inl tb_w270, fun h => absurd h (by decide), fun h => absurd h (by decide), fun h => absurd h (by decide)⟩
theorem tb_f2_6 : dp_fok tb_cl tb_N "ProgramSlices$Dependences" tb_W 96 (1, 8, 3) := ⟨"ProgramSlices$Code", tb_T1, 14, tb_t1, rfl, by decide, tb_u1, tb_y1, tb_n1, Or.inl tb_w271, fun h => absurd h (by decide), fun h => absurd h (by decide), fun h => absurd h (by decide)⟩
theorem tb_f2_7 : dp_fok tb_cl tb_N "ProgramSlices$Dependences" tb_W 126 (1, 9, 3) := ⟨"ProgramSlices$Code", tb_T1, 14, tb_t1, rfl, by decide, tb_u1, tb_y1, tb_n1, Or.inl tb_w272, fun h => absurd h (by decide), fun h => absurd h (by decide), fun h => absurd h (by decide)⟩
theorem tb_f2_8 : dp_fok tb_cl tb_N "ProgramSlices$Dependences" tb_W 129 (1, 10, 3) := ⟨"ProgramSlices$Code", tb_T1, 14, tb_t1, rfl, by decide, tb_u1, tb_y1, tb_n1, Or.inl tb_w273, fun h => absurd h (by decide), fun h => absurd h (by decide), fun h => absurd h (by decide)⟩
theorem tb_f2_9 : dp_fok tb_cl tb_N "ProgramSlices$Dependences" tb_W 87 (1, 11, 0) := ⟨"ProgramSlices$Code", tb_T1, 14, tb_t1, rfl, by decide, tb_u1, tb_y1, tb_n1, Or.inl tb_w274, fun _ => ⟨rfl, rfl⟩, fun h => absurd h (by decide), fun h => absurd h (by decide)⟩
theorem tb_f2_10 : dp_fok tb_cl tb_N "ProgramSlices$Dependences" tb_W 27 (2, 0, 2) := ⟨"ProgramSlices$Dependences", tb_T2, 7, tb_t2, rfl, by decide, tb_u2, tb_y2, tb_n2, Or.inl tb_w275, fun h => absurd h (by decide), fun h => absurd h (by decide), fun _ => ⟨rfl, rfl, tb_w275, fun _ => ⟨rfl, rfl⟩⟩⟩
theorem tb_f2_11 : dp_fok tb_cl tb_N "ProgramSlices$Dependences" tb_W 36 (2, 1, 2) := ⟨"ProgramSlices$Dependences", tb_T2, 7, tb_t2, rfl, by decide, tb_u2, tb_y2, tb_n2, Or.inl tb_w276, fun h => absurd h (by decide), fun h => absurd h (by decide), fun _ => ⟨rfl, rfl, tb_w276, fun _ => ⟨rfl, rfl⟩⟩⟩
theorem tb_f2_12 : dp_fok tb_cl tb_N "ProgramSlices$Dependences" tb_W 9 (2, 2, 2) := ⟨"ProgramSlices$Dependences", tb_T2, 7, tb_t2, rfl, by decide, tb_u2, tb_y2, tb_n2, Or.inl tb_w277, fun h => absurd h (by decide), fun h => absurd h (by decide), fun _ => ⟨rfl, rfl, tb_w277, fun _ => ⟨rfl, rfl⟩⟩⟩
theorem tb_f2_13 : dp_fok tb_cl tb_N "ProgramSlices$Dependences" tb_W 15 (2, 3, 2) := ⟨"ProgramSlices$Dependences", tb_T2, 7, tb_t2, rfl, by decide, tb_u2, tb_y2, tb_n2, Or.inl tb_w278, fun h => absurd h (by decide), fun h => absurd h (by decide), fun _ => ⟨rfl, rfl, tb_w278, fun _ => ⟨rfl, rfl⟩⟩⟩
theorem tb_f2_14 : dp_fok tb_cl tb_N "ProgramSlices$Dependences" tb_W 18 (2, 4, 2) := ⟨"ProgramSlices$Dependences", tb_T2, 7, tb_t2, rfl, by decide, tb_u2, tb_y2, tb_n2, Or.inl tb_w279, fun h => absurd h (by decide), fun h => absurd h (by decide), fun _ => ⟨rfl, rfl, tb_w279, fun _ => ⟨rfl, rfl⟩⟩⟩
theorem tb_f2_15 : dp_fok tb_cl tb_N "ProgramSlices$Dependences" tb_W 21 (2, 5, 2) := ⟨"ProgramSlices$Dependences", tb_T2, 7, tb_t2, rfl, by decide, tb_u2, tb_y2, tb_n2, Or.inl tb_w280, fun h => absurd h (by decide), fun h => absurd h (by decide), fun _ => ⟨rfl, rfl, tb_w280, fun _ => ⟨rfl, rfl⟩⟩⟩
theorem tb_f2_16 : dp_fok tb_cl tb_N "ProgramSlices$Dependences" tb_W 24 (2, 6, 2) := ⟨"ProgramSlices$Dependences", tb_T2, 7, tb_t2, rfl, by decide, tb_u2, tb_y2, tb_n2, Or.inl tb_w281, fun h => absurd h (by decide), fun h => absurd h (by decide), fun _ => ⟨rfl, rfl, tb_w281, fun _ => ⟨rfl, rfl⟩⟩⟩
theorem tb_f2_ok : ∀ e ∈ tb_f2, dp_fok tb_cl tb_N "ProgramSlices$Dependences" tb_W e.1 e.2 := List.forall_mem_cons.mpr ⟨tb_f2_0, List.forall_mem_cons.mpr ⟨tb_f2_1, List.forall_mem_cons.mpr ⟨tb_f2_2, List.forall_mem_cons.mpr ⟨tb_f2_3, List.forall_mem_cons.mpr ⟨tb_f2_4, List.forall_mem_cons.mpr ⟨tb_f2_5, List.forall_mem_cons.mpr ⟨tb_f2_6, List.forall_mem_cons.mpr ⟨tb_f2_7, List.forall_mem_cons.mpr ⟨tb_f2_8, List.forall_mem_cons.mpr ⟨tb_f2_9, List.forall_mem_cons.mpr ⟨tb_f2_10, List.forall_mem_cons.mpr ⟨tb_f2_11, List.forall_mem_cons.mpr ⟨tb_f2_12, List.forall_mem_cons.mpr ⟨tb_f2_13, List.forall_mem_cons.mpr ⟨tb_f2_14, List.forall_mem_cons.mpr ⟨tb_f2_15, List.forall_mem_cons.mpr ⟨tb_f2_16, fun _ h => absurd h List.not_mem_nil⟩⟩⟩⟩⟩⟩⟩⟩⟩⟩⟩⟩⟩⟩⟩⟩⟩
def tb_c2 : List (Nat × Int32) := []
theorem tb_c2_ok : ∀ e ∈ tb_c2, Jvm.Cond.constant "ProgramSlices$Dependences" e.1 e.2 ∈ tb_W := fun _ h => absurd h List.not_mem_nil
def tb_l2 : List (Nat × Int64) := []
theorem tb_l2_ok : ∀ e ∈ tb_l2, Jvm.Cond.constantLong "ProgramSlices$Dependences" e.1 e.2 ∈ tb_W := fun _ h => absurd h List.not_mem_nil
def tb_s2 : List (Nat × Nat × Nat × Nat) := [(64, 24, 2, 0), (99, 47, 2, 0), (54, 50, 2, 0), (44, 74, 2, 0), (40, 67, 2, 0)]
theorem tb_s2_0 (cc : ByteArray) : sm_Cal tb_cl tb_N cc "ProgramSlices$Dependences" tb_W (.invokestatic 64) (tb_ys 24) (tb_ws 24) 2 (dp_rcO 0) := sm_cal_S (tb_GS tb_w290 tb_w291 tb_w292 tb_w293) ⟨by decide, by decide, by decide +kernel⟩ (by decide)
theorem tb_s2_1 (cc : ByteArray) : sm_Cal tb_cl tb_N cc "ProgramSlices$Dependences" tb_W (.invokestatic 99) (tb_ys 47) (tb_ws 47) 2 (dp_rcO 0) := sm_cal_SN (host := "ProgramSlices") (tb_G tb_w299) tb_w300 tb_w89 (tb_inn (i := 470) (by decide +kernel) rfl) ⟨by decide, by decide, by decide +kernel⟩ (by decide)
theorem tb_s2_2 (cc : ByteArray) : sm_Cal tb_cl tb_N cc "ProgramSlices$Dependences" tb_W (.invokestatic 54) (tb_ys 50) (tb_ws 50) 2 (dp_rcO 0) := sm_cal_SN (host := "ProgramSlices") (tb_G tb_w311) tb_w312 tb_w89 (tb_inn (i := 483) (by decide +kernel) rfl) ⟨by decide, by decide, by decide +kernel⟩ (by decide)
theorem tb_s2_3 (cc : ByteArray) : sm_Cal tb_cl tb_N cc "ProgramSlices$Dependences" tb_W (.invokestatic 44) (tb_ys 74) (tb_ws 74) 2 (dp_rcO 0) := sm_cal_S (tb_GS tb_w353 tb_w354 tb_w13 tb_w355) ⟨by decide, by decide, by decide +kernel⟩ (by decide)
theorem tb_s2_4 (cc : ByteArray) : sm_Cal tb_cl tb_N cc "ProgramSlices$Dependences" tb_W (.invokestatic 40) (tb_ys 67) (tb_ws 67) 2 (dp_rcO 0) := sm_cal_SN (host := "ProgramSlices") (tb_G tb_w153) tb_w152 tb_w89 (tb_inn (i := 583) (by decide +kernel) rfl) ⟨by decide, by decide, by decide +kernel⟩ (by decide)
theorem tb_s2_ok : ∀ e ∈ tb_s2, ∀ cc, sm_Cal tb_cl tb_N cc "ProgramSlices$Dependences" tb_W (.invokestatic e.1) (tb_ys e.2.1) (tb_ws e.2.1) e.2.2.1 (dp_rcO e.2.2.2) := List.forall_mem_cons.mpr ⟨tb_s2_0, List.forall_mem_cons.mpr ⟨tb_s2_1, List.forall_mem_cons.mpr ⟨tb_s2_2, List.forall_mem_cons.mpr ⟨tb_s2_3, List.forall_mem_cons.mpr ⟨tb_s2_4, fun _ h => absurd h List.not_mem_nil⟩⟩⟩⟩⟩
def tb_v2 : List (Nat × Nat × Nat × Nat) := [(61, 36, 1, 4), (70, 44, 2, 2), (74, 46, 2, 3), (102, 48, 4, 3), (57, 49, 3, 3), (106, 33, 2, 2), (109, 34, 2, 2), (78, 51, 2, 3), (119, 52, 5, 3), (132, 41, 2, 2), (138, 53, 3, 4), (141, 54, 4, 4), (81, 55, 2, 3), (145, 56, 3, 4), (148, 57, 6, 3), (84, 58, 2, 3), (90, 59, 2, 3)]
theorem tb_v2_0 (cc : ByteArray) : sm_Cal tb_cl tb_N cc "ProgramSlices$Dependences" tb_W (.invokevirtual 61) (tb_ys 36) (tb_ws 36) 1 (dp_rcO 4) := sm_cal_V (ci := 3) (N0 := 6) (T0 := tb_T3) rfl (tb_GV tb_w286 tb_w287 tb_w288 tb_w283 tb_w289) ⟨by decide, by decide, by decide +kernel⟩ (by decide)
theorem tb_v2_1 (cc : ByteArray) : sm_Cal tb_cl tb_N cc "ProgramSlices$Dependences" tb_W (.invokevirtual 70) (tb_ys 44) (tb_ws 44) 2 (dp_rcO 2) := sm_cal_V (ci := 1) (N0 := 14) (T0 := tb_T1) rfl (tb_GV tb_w294 tb_w100 tb_w101 tb_w10 tb_w102) ⟨by decide, by decide, by decide +kernel⟩ (by decide)
theorem tb_v2_2 (cc : ByteArray) : sm_Cal tb_cl tb_N cc "ProgramSlices$Dependences" tb_W (.invokevirtual 74) (tb_ys 46) (tb_ws 46) 2 (dp_rcO 3) := sm_cal_V (ci := 2) (N0 := 7) (T0 := tb_T2) rfl (tb_GV tb_w295 tb_w296 tb_w297 tb_w13 tb_w298) ⟨by decide, by decide, by decide +kernel⟩ (by decide)
theorem tb_v2_3 (cc : ByteArray) : sm_Cal tb_cl tb_N cc "ProgramSlices$Dependences" tb_W (.invokevirtual 102) (tb_ys 48) (tb_ws 48) 4 (dp_rcO 3) := sm_cal_V (ci := 2) (N0 := 7) (T0 := tb_T2) rfl (tb_GV tb_w301 tb_w302 tb_w303 tb_w13 tb_w304) ⟨by decide, by decide, by decide +kernel⟩ (by decide)
theorem tb_v2_4 (cc : ByteArray) : sm_Cal tb_cl tb_N cc "ProgramSlices$Dependences" tb_W (.invokevirtual 57) (tb_ys 49) (tb_ws 49) 3 (dp_rcO 3) := sm_cal_V (ci := 2) (N0 := 7) (T0 := tb_T2) rfl (tb_GV tb_w305 tb_w306 tb_w307 tb_w13 tb_w308) ⟨by decide, by decide, by decide +kernel⟩ (by decide)
theorem tb_v2_5 (cc : ByteArray) : sm_Cal tb_cl tb_N cc "ProgramSlices$Dependences" tb_W (.invokevirtual 106) (tb_ys 33) (tb_ws 33) 2 (dp_rcO 2) := sm_cal_V (ci := 1) (N0 := 14) (T0 := tb_T1) rfl (tb_GV tb_w309 tb_w108 tb_w109 tb_w10 tb_w110) ⟨by decide, by decide, by decide +kernel⟩ (by decide)
theorem tb_v2_6 (cc : ByteArray) : sm_Cal tb_cl tb_N cc "ProgramSlices$Dependences" tb_W (.invokevirtual 109) (tb_ys 34) (tb_ws 34) 2 (dp_rcO 2) := sm_cal_V (ci := 1) (N0 := 14) (T0 := tb_T1) rfl (tb_GV tb_w310 tb_w112 tb_w113 tb_w10 tb_w114) ⟨by decide, by decide, by decide +kernel⟩ (by decide)
theorem tb_v2_7 (cc : ByteArray) : sm_Cal tb_cl tb_N cc "ProgramSlices$Dependences" tb_W (.invokevirtual 78) (tb_ys 51) (tb_ws 51) 2 (dp_rcO 3) := sm_cal_V (ci := 2) (N0 := 7) (T0 := tb_T2) rfl (tb_GV tb_w313 tb_w314 tb_w315 tb_w13 tb_w316) ⟨by decide, by decide, by decide +kernel⟩ (by decide)
theorem tb_v2_8 (cc : ByteArray) : sm_Cal tb_cl tb_N cc "ProgramSlices$Dependences" tb_W (.invokevirtual 119) (tb_ys 52) (tb_ws 52) 5 (dp_rcO 3) := sm_cal_V (ci := 2) (N0 := 7) (T0 := tb_T2) rfl (tb_GV tb_w317 tb_w318 tb_w319 tb_w13 tb_w320) ⟨by decide, by decide, by decide +kernel⟩ (by decide)
theorem tb_v2_9 (cc : ByteArray) : sm_Cal tb_cl tb_N cc "ProgramSlices$Dependences" tb_W (.invokevirtual 132) (tb_ys 41) (tb_ws 41) 2 (dp_rcO 2) := sm_cal_V (ci := 1) (N0 := 14) (T0 := tb_T1) rfl (tb_GV tb_w321 tb_w322 tb_w323 tb_w10 tb_w324) ⟨by decide, by decide, by decide +kernel⟩ (by decide)
theorem tb_v2_10 (cc : ByteArray) : sm_Cal tb_cl tb_N cc "ProgramSlices$Dependences" tb_W (.invokevirtual 138) (tb_ys 53) (tb_ws 53) 3 (dp_rcO 4) := sm_cal_V (ci := 3) (N0 := 6) (T0 := tb_T3) rfl (tb_GV tb_w325 tb_w326 tb_w327 tb_w283 tb_w328) ⟨by decide, by decide, by decide +kernel⟩ (by decide)
theorem tb_v2_11 (cc : ByteArray) : sm_Cal tb_cl tb_N cc "ProgramSlices$Dependences" tb_W (.invokevirtual 141) (tb_ys 54) (tb_ws 54) 4 (dp_rcO 4) := sm_cal_V (ci := 3) (N0 := 6) (T0 := tb_T3) rfl (tb_GV tb_w329 tb_w330 tb_w331 tb_w283 tb_w332) ⟨by decide, by decide, by decide +kernel⟩ (by decide)
theorem tb_v2_12 (cc : ByteArray) : sm_Cal tb_cl tb_N cc "ProgramSlices$Dependences" tb_W (.invokevirtual 81) (tb_ys 55) (tb_ws 55) 2 (dp_rcO 3) := sm_cal_V (ci := 2) (N0 := 7) (T0 := tb_T2) rfl (tb_GV tb_w333 tb_w334 tb_w335 tb_w13 tb_w336) ⟨by decide, by decide, by decide +kernel⟩ (by decide)
theorem tb_v2_13 (cc : ByteArray) : sm_Cal tb_cl tb_N cc "ProgramSlices$Dependences" tb_W (.invokevirtual 145) (tb_ys 56) (tb_ws 56) 3 (dp_rcO 4) := sm_cal_V (ci := 3) (N0 := 6) (T0 := tb_T3) rfl (tb_GV tb_w337 tb_w338 tb_w339 tb_w283 tb_w340) ⟨by decide, by decide, by decide +kernel⟩ (by decide)
theorem tb_v2_14 (cc : ByteArray) : sm_Cal tb_cl tb_N cc "ProgramSlices$Dependences" tb_W (.invokevirtual 148) (tb_ys 57) (tb_ws 57) 6 (dp_rcO 3) := sm_cal_V (ci := 2) (N0 := 7) (T0 := tb_T2) rfl (tb_GV tb_w341 tb_w342 tb_w343 tb_w13 tb_w344) ⟨by decide, by decide, by decide +kernel⟩ (by decide)
theorem tb_v2_15 (cc : ByteArray) : sm_Cal tb_cl tb_N cc "ProgramSlices$Dependences" tb_W (.invokevirtual 84) (tb_ys 58) (tb_ws 58) 2 (dp_rcO 3) := sm_cal_V (ci := 2) (N0 := 7) (T0 := tb_T2) rfl (tb_GV tb_w345 tb_w346 tb_w347 tb_w13 tb_w348) ⟨by decide, by decide, by decide +kernel⟩ (by decide)
theorem tb_v2_16 (cc : ByteArray) : sm_Cal tb_cl tb_N cc "ProgramSlices$Dependences" tb_W (.invokevirtual 90) (tb_ys 59) (tb_ws 59) 2 (dp_rcO 3) := sm_cal_V (ci := 2) (N0 := 7) (T0 := tb_T2) rfl (tb_GV tb_w349 tb_w350 tb_w351 tb_w13 tb_w352) ⟨by decide, by decide, by decide +kernel⟩ (by decide)
theorem tb_v2_ok : ∀ e ∈ tb_v2, ∀ cc, sm_Cal tb_cl tb_N cc "ProgramSlices$Dependences" tb_W (.invokevirtual e.1) (tb_ys e.2.1) (tb_ws e.2.1) e.2.2.1 (dp_rcO e.2.2.2) := List.forall_mem_cons.mpr ⟨tb_v2_0, List.forall_mem_cons.mpr ⟨tb_v2_1, List.forall_mem_cons.mpr ⟨tb_v2_2, List.forall_mem_cons.mpr ⟨tb_v2_3, List.forall_mem_cons.mpr ⟨tb_v2_4, List.forall_mem_cons.mpr ⟨tb_v2_5, List.forall_mem_cons.mpr ⟨tb_v2_6, List.forall_mem_cons.mpr ⟨tb_v2_7, List.forall_mem_cons.mpr ⟨tb_v2_8, List.forall_mem_cons.mpr ⟨tb_v2_9, List.forall_mem_cons.mpr ⟨tb_v2_10, List.forall_mem_cons.mpr ⟨tb_v2_11, List.forall_mem_cons.mpr ⟨tb_v2_12, List.forall_mem_cons.mpr ⟨tb_v2_13, List.forall_mem_cons.mpr ⟨tb_v2_14, List.forall_mem_cons.mpr ⟨tb_v2_15, List.forall_mem_cons.mpr ⟨tb_v2_16, fun _ h => absurd h List.not_mem_nil⟩⟩⟩⟩⟩⟩⟩⟩⟩⟩⟩⟩⟩⟩⟩⟩⟩
def tb_i2 : List (Nat × Nat × Nat × Nat) := [(33, 3, 2, 4)]
theorem tb_i2_0 (cc : ByteArray) : sm_Cal tb_cl tb_N cc "ProgramSlices$Dependences" tb_W (.invokespecial 33) (tb_ys 3) (tb_ws 3) 2 (dp_rcO 4) := sm_cal_I (ret' := none) (ci := 3) (tb_G tb_w282) tb_w283 tb_w284 tb_w285 rfl ⟨by decide, by decide, by decide +kernel⟩ (by decide)
theorem tb_i2_ok : ∀ e ∈ tb_i2, ∀ cc, sm_Cal tb_cl tb_N cc "ProgramSlices$Dependences" tb_W (.invokespecial e.1) (tb_ys e.2.1) (tb_ws e.2.1) e.2.2.1 (dp_rcO e.2.2.2) := List.forall_mem_cons.mpr ⟨tb_i2_0, fun _ h => absurd h List.not_mem_nil⟩
def tb_e2 : List (Nat × Nat × List (Option (Option Nat))) := [(31, 3, [some none, some none, some none, some none, some none, some none])]
theorem tb_e2_0 : dp_nok tb_cl "ProgramSlices$Dependences" tb_W 31 (3, [some none, some none, some none, some none, some none, some none]) := ⟨"ProgramSlices$Ways", tb_T3, tb_t3, rfl, tb_u3, tb_y3, tb_w356, tb_w357, tb_w283, by
  intro j hj ad
  have hj : j < 6 := hj
  rcases (show j = 0 ∨ j = 1 ∨ j = 2 ∨ j = 3 ∨ j = 4 ∨ j = 5 by omega) with rfl | rfl | rfl | rfl | rfl | rfl <;> rfl, fun _ _ => rfl⟩
theorem tb_e2_ok : ∀ e ∈ tb_e2, dp_nok tb_cl "ProgramSlices$Dependences" tb_W e.1 e.2 := List.forall_mem_cons.mpr ⟨tb_e2_0, fun _ h => absurd h List.not_mem_nil⟩
def tb_K2 : dp_K := (dp_lk tb_f2, dp_lk tb_c2, dp_lk tb_l2, fun i => match i % 3 with
  | 0 => dp_lk tb_s2 (i / 3)
  | 1 => dp_lk tb_v2 (i / 3)
  | _ => dp_lk tb_i2 (i / 3), dp_lk tb_e2, 3)
theorem tb_K2_ok : dp_Kok tb_cl tb_N "ProgramSlices$Dependences" tb_W tb_ys tb_ws tb_K2 := by
  refine ⟨fun i F h => tb_f2_ok _ (dp_lk_mem h), fun i v h => tb_c2_ok _ (dp_lk_mem h), fun i v h => tb_l2_ok _ (dp_lk_mem h), fun i C h cc => ?_, fun i C h cc => ?_, fun i C h cc => ?_, fun i C h => tb_e2_ok _ (dp_lk_mem h), ⟨tb_w358, tb_w206, tb_w207⟩, tb_w208, tb_w209, tb_w210⟩
  · have h : dp_lk tb_s2 i = some C := by
      have e1 : 3 * i % 3 = 0 := by omega
      have e2 : 3 * i / 3 = i := by omega
      simpa [tb_K2, e1, e2] using h
    exact tb_s2_ok _ (dp_lk_mem h) cc
  · have h : dp_lk tb_v2 i = some C := by
      have e1 : (3 * i + 1) % 3 = 1 := by omega
      have e2 : (3 * i + 1) / 3 = i := by omega
      simpa [tb_K2, e1, e2] using h
    exact tb_v2_ok _ (dp_lk_mem h) cc
  · have h : dp_lk tb_i2 i = some C := by
      have e1 : (3 * i + 2) % 3 = 2 := by omega
      have e2 : (3 * i + 2) / 3 = i := by omega
      simpa [tb_K2, e1, e2] using h
    exact tb_i2_ok _ (dp_lk_mem h) cc
def tb_f3 : List (Nat × Nat × Nat × Nat) := [(69, 1, 0, 3), (55, 1, 1, 3), (41, 1, 4, 0), (76, 1, 7, 3), (66, 1, 9, 3), (63, 1, 11, 0), (27, 3, 0, 2), (9, 3, 1, 2), (15, 3, 2, 2), (18, 3, 3, 2), (21, 3, 4, 2), (24, 3, 5, 2)]
theorem tb_f3_0 : dp_fok tb_cl tb_N "ProgramSlices$Ways" tb_W 69 (1, 0, 3) := ⟨"ProgramSlices$Code", tb_T1, 14, tb_t1, rfl, by decide, tb_u1, tb_y1, tb_n1, Or.inl tb_w359, fun h => absurd h (by decide), fun h => absurd h (by decide), fun h => absurd h (by decide)⟩
theorem tb_f3_1 : dp_fok tb_cl tb_N "ProgramSlices$Ways" tb_W 55 (1, 1, 3) := ⟨"ProgramSlices$Code", tb_T1, 14, tb_t1, rfl, by decide, tb_u1, tb_y1, tb_n1, Or.inl tb_w360, fun h => absurd h (by decide), fun h => absurd h (by decide), fun h => absurd h (by decide)⟩
theorem tb_f3_2 : dp_fok tb_cl tb_N "ProgramSlices$Ways" tb_W 41 (1, 4, 0) := ⟨"ProgramSlices$Code", tb_T1, 14, tb_t1, rfl, by decide, tb_u1, tb_y1, tb_n1, Or.inl tb_w361, fun _ => ⟨rfl, rfl⟩, fun h => absurd h (by decide), fun h => absurd h (by decide)⟩
theorem tb_f3_3 : dp_fok tb_cl tb_N "ProgramSlices$Ways" tb_W 76 (1, 7, 3) := ⟨"ProgramSlices$Code", tb_T1, 14, tb_t1, rfl, by decide, tb_u1, tb_y1, tb_n1, Or.inl tb_w362, fun h => absurd h (by decide), fun h => absurd h (by decide), fun h => absurd h (by decide)⟩
theorem tb_f3_4 : dp_fok tb_cl tb_N "ProgramSlices$Ways" tb_W 66 (1, 9, 3) := ⟨"ProgramSlices$Code", tb_T1, 14, tb_t1, rfl, by decide, tb_u1, tb_y1, tb_n1, Or.inl tb_w363, fun h => absurd h (by decide), fun h => absurd h (by decide), fun h => absurd h (by decide)⟩
theorem tb_f3_5 : dp_fok tb_cl tb_N "ProgramSlices$Ways" tb_W 63 (1, 11, 0) := ⟨"ProgramSlices$Code", tb_T1, 14, tb_t1, rfl, by decide, tb_u1, tb_y1, tb_n1, Or.inl tb_w364, fun _ => ⟨rfl, rfl⟩, fun h => absurd h (by decide), fun h => absurd h (by decide)⟩
theorem tb_f3_6 : dp_fok tb_cl tb_N "ProgramSlices$Ways" tb_W 27 (3, 0, 2) := ⟨"ProgramSlices$Ways", tb_T3, 6, tb_t3, rfl, by decide, tb_u3, tb_y3, tb_n3, Or.inl tb_w365, fun h => absurd h (by decide), fun h => absurd h (by decide), fun _ => ⟨rfl, rfl, tb_w365, fun _ => ⟨rfl, rfl⟩⟩⟩
theorem tb_f3_7 : dp_fok tb_cl tb_N "ProgramSlices$Ways" tb_W 9 (3, 1, 2) := ⟨"ProgramSlices$Ways", tb_T3, 6, tb_t3, rfl, by decide, tb_u3, tb_y3, tb_n3, Or.inl tb_w366, fun h => absurd h (by decide), fun h => absurd h (by decide), fun _ => ⟨rfl, rfl, tb_w366, fun _ => ⟨rfl, rfl⟩⟩⟩
theorem tb_f3_8 : dp_fok tb_cl tb_N "ProgramSlices$Ways" tb_W 15 (3, 2, 2) := ⟨"ProgramSlices$Ways", tb_T3, 6, tb_t3, rfl, by decide, tb_u3, tb_y3, tb_n3, Or.inl tb_w367, fun h => absurd h (by decide), fun h => absurd h (by decide), fun _ => ⟨rfl, rfl, tb_w367, fun _ => ⟨rfl, rfl⟩⟩⟩
theorem tb_f3_9 : dp_fok tb_cl tb_N "ProgramSlices$Ways" tb_W 18 (3, 3, 2) := ⟨"ProgramSlices$Ways", tb_T3, 6, tb_t3, rfl, by decide, tb_u3, tb_y3, tb_n3, Or.inl tb_w368, fun h => absurd h (by decide), fun h => absurd h (by decide), fun _ => ⟨rfl, rfl, tb_w368, fun _ => ⟨rfl, rfl⟩⟩⟩
theorem tb_f3_10 : dp_fok tb_cl tb_N "ProgramSlices$Ways" tb_W 21 (3, 4, 2) := ⟨"ProgramSlices$Ways", tb_T3, 6, tb_t3, rfl, by decide, tb_u3, tb_y3, tb_n3, Or.inl tb_w369, fun h => absurd h (by decide), fun h => absurd h (by decide), fun _ => ⟨rfl, rfl, tb_w369, fun _ => ⟨rfl, rfl⟩⟩⟩
theorem tb_f3_11 : dp_fok tb_cl tb_N "ProgramSlices$Ways" tb_W 24 (3, 5, 2) := ⟨"ProgramSlices$Ways", tb_T3, 6, tb_t3, rfl, by decide, tb_u3, tb_y3, tb_n3, Or.inl tb_w370, fun h => absurd h (by decide), fun h => absurd h (by decide), fun _ => ⟨rfl, rfl, tb_w370, fun _ => ⟨rfl, rfl⟩⟩⟩
theorem tb_f3_ok : ∀ e ∈ tb_f3, dp_fok tb_cl tb_N "ProgramSlices$Ways" tb_W e.1 e.2 := List.forall_mem_cons.mpr ⟨tb_f3_0, List.forall_mem_cons.mpr ⟨tb_f3_1, List.forall_mem_cons.mpr ⟨tb_f3_2, List.forall_mem_cons.mpr ⟨tb_f3_3, List.forall_mem_cons.mpr ⟨tb_f3_4, List.forall_mem_cons.mpr ⟨tb_f3_5, List.forall_mem_cons.mpr ⟨tb_f3_6, List.forall_mem_cons.mpr ⟨tb_f3_7, List.forall_mem_cons.mpr ⟨tb_f3_8, List.forall_mem_cons.mpr ⟨tb_f3_9, List.forall_mem_cons.mpr ⟨tb_f3_10, List.forall_mem_cons.mpr ⟨tb_f3_11, fun _ h => absurd h List.not_mem_nil⟩⟩⟩⟩⟩⟩⟩⟩⟩⟩⟩⟩
def tb_c3 : List (Nat × Int32) := []
theorem tb_c3_ok : ∀ e ∈ tb_c3, Jvm.Cond.constant "ProgramSlices$Ways" e.1 e.2 ∈ tb_W := fun _ h => absurd h List.not_mem_nil
def tb_l3 : List (Nat × Int64) := [(82, -1)]
theorem tb_l3_ok : ∀ e ∈ tb_l3, Jvm.Cond.constantLong "ProgramSlices$Ways" e.1 e.2 ∈ tb_W := List.forall_mem_cons.mpr ⟨tb_w371, fun _ h => absurd h List.not_mem_nil⟩
def tb_s3 : List (Nat × Nat × Nat × Nat) := [(35, 37, 2, 0), (31, 43, 2, 0)]
theorem tb_s3_0 (cc : ByteArray) : sm_Cal tb_cl tb_N cc "ProgramSlices$Ways" tb_W (.invokestatic 35) (tb_ys 37) (tb_ws 37) 2 (dp_rcO 0) := sm_cal_S (tb_GS tb_w372 tb_w373 tb_w292 tb_w374) ⟨by decide, by decide, by decide +kernel⟩ (by decide)
theorem tb_s3_1 (cc : ByteArray) : sm_Cal tb_cl tb_N cc "ProgramSlices$Ways" tb_W (.invokestatic 31) (tb_ys 43) (tb_ws 43) 2 (dp_rcO 0) := sm_cal_SN (host := "ProgramSlices") (tb_G tb_w392) tb_w393 tb_w89 (tb_inn (i := 454) (by decide +kernel) rfl) ⟨by decide, by decide, by decide +kernel⟩ (by decide)
theorem tb_s3_ok : ∀ e ∈ tb_s3, ∀ cc, sm_Cal tb_cl tb_N cc "ProgramSlices$Ways" tb_W (.invokestatic e.1) (tb_ys e.2.1) (tb_ws e.2.1) e.2.2.1 (dp_rcO e.2.2.2) := List.forall_mem_cons.mpr ⟨tb_s3_0, List.forall_mem_cons.mpr ⟨tb_s3_1, fun _ h => absurd h List.not_mem_nil⟩⟩
def tb_v3 : List (Nat × Nat × Nat × Nat) := [(47, 38, 2, 4), (72, 39, 2, 2), (79, 40, 2, 2), (51, 41, 2, 2), (59, 42, 3, 4)]
theorem tb_v3_0 (cc : ByteArray) : sm_Cal tb_cl tb_N cc "ProgramSlices$Ways" tb_W (.invokevirtual 47) (tb_ys 38) (tb_ws 38) 2 (dp_rcO 4) := sm_cal_V (ci := 3) (N0 := 6) (T0 := tb_T3) rfl (tb_GV tb_w375 tb_w376 tb_w377 tb_w283 tb_w378) ⟨by decide, by decide, by decide +kernel⟩ (by decide)
theorem tb_v3_1 (cc : ByteArray) : sm_Cal tb_cl tb_N cc "ProgramSlices$Ways" tb_W (.invokevirtual 72) (tb_ys 39) (tb_ws 39) 2 (dp_rcO 2) := sm_cal_V (ci := 1) (N0 := 14) (T0 := tb_T1) rfl (tb_GV tb_w379 tb_w380 tb_w381 tb_w10 tb_w382) ⟨by decide, by decide, by decide +kernel⟩ (by decide)
theorem tb_v3_2 (cc : ByteArray) : sm_Cal tb_cl tb_N cc "ProgramSlices$Ways" tb_W (.invokevirtual 79) (tb_ys 40) (tb_ws 40) 2 (dp_rcO 2) := sm_cal_V (ci := 1) (N0 := 14) (T0 := tb_T1) rfl (tb_GV tb_w383 tb_w384 tb_w385 tb_w10 tb_w386) ⟨by decide, by decide, by decide +kernel⟩ (by decide)
theorem tb_v3_3 (cc : ByteArray) : sm_Cal tb_cl tb_N cc "ProgramSlices$Ways" tb_W (.invokevirtual 51) (tb_ys 41) (tb_ws 41) 2 (dp_rcO 2) := sm_cal_V (ci := 1) (N0 := 14) (T0 := tb_T1) rfl (tb_GV tb_w387 tb_w322 tb_w323 tb_w10 tb_w324) ⟨by decide, by decide, by decide +kernel⟩ (by decide)
theorem tb_v3_4 (cc : ByteArray) : sm_Cal tb_cl tb_N cc "ProgramSlices$Ways" tb_W (.invokevirtual 59) (tb_ys 42) (tb_ws 42) 3 (dp_rcO 4) := sm_cal_V (ci := 3) (N0 := 6) (T0 := tb_T3) rfl (tb_GV tb_w388 tb_w389 tb_w390 tb_w283 tb_w391) ⟨by decide, by decide, by decide +kernel⟩ (by decide)
theorem tb_v3_ok : ∀ e ∈ tb_v3, ∀ cc, sm_Cal tb_cl tb_N cc "ProgramSlices$Ways" tb_W (.invokevirtual e.1) (tb_ys e.2.1) (tb_ws e.2.1) e.2.2.1 (dp_rcO e.2.2.2) := List.forall_mem_cons.mpr ⟨tb_v3_0, List.forall_mem_cons.mpr ⟨tb_v3_1, List.forall_mem_cons.mpr ⟨tb_v3_2, List.forall_mem_cons.mpr ⟨tb_v3_3, List.forall_mem_cons.mpr ⟨tb_v3_4, fun _ h => absurd h List.not_mem_nil⟩⟩⟩⟩⟩
def tb_i3 : List (Nat × Nat × Nat × Nat) := []
theorem tb_i3_ok : ∀ e ∈ tb_i3, ∀ cc, sm_Cal tb_cl tb_N cc "ProgramSlices$Ways" tb_W (.invokespecial e.1) (tb_ys e.2.1) (tb_ws e.2.1) e.2.2.1 (dp_rcO e.2.2.2) := fun _ h => absurd h List.not_mem_nil
def tb_e3 : List (Nat × Nat × List (Option (Option Nat))) := []
theorem tb_e3_ok : ∀ e ∈ tb_e3, dp_nok tb_cl "ProgramSlices$Ways" tb_W e.1 e.2 := fun _ h => absurd h List.not_mem_nil
def tb_K3 : dp_K := (dp_lk tb_f3, dp_lk tb_c3, dp_lk tb_l3, fun i => match i % 3 with
  | 0 => dp_lk tb_s3 (i / 3)
  | 1 => dp_lk tb_v3 (i / 3)
  | _ => dp_lk tb_i3 (i / 3), dp_lk tb_e3, 3)
theorem tb_K3_ok : dp_Kok tb_cl tb_N "ProgramSlices$Ways" tb_W tb_ys tb_ws tb_K3 := by
  refine ⟨fun i F h => tb_f3_ok _ (dp_lk_mem h), fun i v h => tb_c3_ok _ (dp_lk_mem h), fun i v h => tb_l3_ok _ (dp_lk_mem h), fun i C h cc => ?_, fun i C h cc => ?_, fun i C h cc => ?_, fun i C h => tb_e3_ok _ (dp_lk_mem h), ⟨tb_w394, tb_w206, tb_w207⟩, tb_w208, tb_w209, tb_w210⟩
  · have h : dp_lk tb_s3 i = some C := by
      have e1 : 3 * i % 3 = 0 := by omega
      have e2 : 3 * i / 3 = i := by omega
      simpa [tb_K3, e1, e2] using h
    exact tb_s3_ok _ (dp_lk_mem h) cc
  · have h : dp_lk tb_v3 i = some C := by
      have e1 : (3 * i + 1) % 3 = 1 := by omega
      have e2 : (3 * i + 1) / 3 = i := by omega
      simpa [tb_K3, e1, e2] using h
    exact tb_v3_ok _ (dp_lk_mem h) cc
  · have h : dp_lk tb_i3 i = some C := by
      have e1 : (3 * i + 2) % 3 = 2 := by omega
      have e2 : (3 * i + 2) / 3 = i := by omega
      simpa [tb_K3, e1, e2] using h
    exact tb_i3_ok _ (dp_lk_mem h) cc
def tb_f4 : List (Nat × Nat × Nat × Nat) := [(34, 1, 11, 0), (18, 4, 0, 2), (22, 4, 1, 2), (9, 4, 2, 2), (15, 4, 3, 2), (67, 4, 4, 0)]
theorem tb_f4_0 : dp_fok tb_cl tb_N "ProgramSlices$Walk" tb_W 34 (1, 11, 0) := ⟨"ProgramSlices$Code", tb_T1, 14, tb_t1, rfl, by decide, tb_u1, tb_y1, tb_n1, Or.inl tb_w395, fun _ => ⟨rfl, rfl⟩, fun h => absurd h (by decide), fun h => absurd h (by decide)⟩
theorem tb_f4_1 : dp_fok tb_cl tb_N "ProgramSlices$Walk" tb_W 18 (4, 0, 2) := ⟨"ProgramSlices$Walk", tb_T4, 5, tb_t4, rfl, by decide, tb_u4, tb_y4, tb_n4, Or.inl tb_w396, fun h => absurd h (by decide), fun h => absurd h (by decide), fun _ => ⟨rfl, rfl, tb_w396, fun _ => ⟨rfl, rfl⟩⟩⟩
theorem tb_f4_2 : dp_fok tb_cl tb_N "ProgramSlices$Walk" tb_W 22 (4, 1, 2) := ⟨"ProgramSlices$Walk", tb_T4, 5, tb_t4, rfl, by decide, tb_u4, tb_y4, tb_n4, Or.inl tb_w397, fun h => absurd h (by decide), fun h => absurd h (by decide), fun _ => ⟨rfl, rfl, tb_w397, fun _ => ⟨rfl, rfl⟩⟩⟩
theorem tb_f4_3 : dp_fok tb_cl tb_N "ProgramSlices$Walk" tb_W 9 (4, 2, 2) := ⟨"ProgramSlices$Walk", tb_T4, 5, tb_t4, rfl, by decide, tb_u4, tb_y4, tb_n4, Or.inl tb_w398, fun h => absurd h (by decide), fun h => absurd h (by decide), fun _ => ⟨rfl, rfl, tb_w398, fun _ => ⟨rfl, rfl⟩⟩⟩
theorem tb_f4_4 : dp_fok tb_cl tb_N "ProgramSlices$Walk" tb_W 15 (4, 3, 2) := ⟨"ProgramSlices$Walk", tb_T4, 5, tb_t4, rfl, by decide, tb_u4, tb_y4, tb_n4, Or.inl tb_w399, fun h => absurd h (by decide), fun h => absurd h (by decide), fun _ => ⟨rfl, rfl, tb_w399, fun _ => ⟨rfl, rfl⟩⟩⟩
theorem tb_f4_5 : dp_fok tb_cl tb_N "ProgramSlices$Walk" tb_W 67 (4, 4, 0) := ⟨"ProgramSlices$Walk", tb_T4, 5, tb_t4, rfl, by decide, tb_u4, tb_y4, tb_n4, Or.inl tb_w400, fun _ => ⟨rfl, rfl⟩, fun h => absurd h (by decide), fun h => absurd h (by decide)⟩
theorem tb_f4_ok : ∀ e ∈ tb_f4, dp_fok tb_cl tb_N "ProgramSlices$Walk" tb_W e.1 e.2 := List.forall_mem_cons.mpr ⟨tb_f4_0, List.forall_mem_cons.mpr ⟨tb_f4_1, List.forall_mem_cons.mpr ⟨tb_f4_2, List.forall_mem_cons.mpr ⟨tb_f4_3, List.forall_mem_cons.mpr ⟨tb_f4_4, List.forall_mem_cons.mpr ⟨tb_f4_5, fun _ h => absurd h List.not_mem_nil⟩⟩⟩⟩⟩⟩
def tb_c4 : List (Nat × Int32) := []
theorem tb_c4_ok : ∀ e ∈ tb_c4, Jvm.Cond.constant "ProgramSlices$Walk" e.1 e.2 ∈ tb_W := fun _ h => absurd h List.not_mem_nil
def tb_l4 : List (Nat × Int64) := []
theorem tb_l4_ok : ∀ e ∈ tb_l4, Jvm.Cond.constantLong "ProgramSlices$Walk" e.1 e.2 ∈ tb_W := fun _ h => absurd h List.not_mem_nil
def tb_s4 : List (Nat × Nat × Nat × Nat) := [(44, 47, 2, 0), (61, 24, 2, 0), (48, 67, 2, 0), (81, 68, 1, 0), (92, 70, 1, 0)]
theorem tb_s4_0 (cc : ByteArray) : sm_Cal tb_cl tb_N cc "ProgramSlices$Walk" tb_W (.invokestatic 44) (tb_ys 47) (tb_ws 47) 2 (dp_rcO 0) := sm_cal_SN (host := "ProgramSlices") (tb_G tb_w299) tb_w300 tb_w89 (tb_inn (i := 531) (by decide +kernel) rfl) ⟨by decide, by decide, by decide +kernel⟩ (by decide)
theorem tb_s4_1 (cc : ByteArray) : sm_Cal tb_cl tb_N cc "ProgramSlices$Walk" tb_W (.invokestatic 61) (tb_ys 24) (tb_ws 24) 2 (dp_rcO 0) := sm_cal_S (tb_GS tb_w409 tb_w291 tb_w292 tb_w293) ⟨by decide, by decide, by decide +kernel⟩ (by decide)
theorem tb_s4_2 (cc : ByteArray) : sm_Cal tb_cl tb_N cc "ProgramSlices$Walk" tb_W (.invokestatic 48) (tb_ys 67) (tb_ws 67) 2 (dp_rcO 0) := sm_cal_SN (host := "ProgramSlices") (tb_G tb_w153) tb_w152 tb_w89 (tb_inn (i := 553) (by decide +kernel) rfl) ⟨by decide, by decide, by decide +kernel⟩ (by decide)
theorem tb_s4_3 (cc : ByteArray) : sm_Cal tb_cl tb_N cc "ProgramSlices$Walk" tb_W (.invokestatic 81) (tb_ys 68) (tb_ws 68) 1 (dp_rcO 0) := sm_cal_S (tb_GS tb_w426 tb_w427 tb_w17 tb_w428) ⟨by decide, by decide, by decide +kernel⟩ (by decide)
theorem tb_s4_4 (cc : ByteArray) : sm_Cal tb_cl tb_N cc "ProgramSlices$Walk" tb_W (.invokestatic 92) (tb_ys 70) (tb_ws 70) 1 (dp_rcO 0) := sm_cal_S (tb_GS tb_w433 tb_w434 tb_w17 tb_w435) ⟨by decide, by decide, by decide +kernel⟩ (by decide)
theorem tb_s4_ok : ∀ e ∈ tb_s4, ∀ cc, sm_Cal tb_cl tb_N cc "ProgramSlices$Walk" tb_W (.invokestatic e.1) (tb_ys e.2.1) (tb_ws e.2.1) e.2.2.1 (dp_rcO e.2.2.2) := List.forall_mem_cons.mpr ⟨tb_s4_0, List.forall_mem_cons.mpr ⟨tb_s4_1, List.forall_mem_cons.mpr ⟨tb_s4_2, List.forall_mem_cons.mpr ⟨tb_s4_3, List.forall_mem_cons.mpr ⟨tb_s4_4, fun _ h => absurd h List.not_mem_nil⟩⟩⟩⟩⟩
def tb_v4 : List (Nat × Nat × Nat × Nat) := [(40, 61, 3, 5), (26, 62, 2, 5), (70, 63, 2, 5), (30, 64, 3, 5), (73, 65, 4, 3), (77, 66, 3, 5), (85, 69, 3, 5), (96, 71, 2, 3), (89, 72, 3, 5), (99, 33, 2, 2), (102, 34, 2, 2), (51, 73, 4, 3), (57, 75, 4, 3)]
theorem tb_v4_0 (cc : ByteArray) : sm_Cal tb_cl tb_N cc "ProgramSlices$Walk" tb_W (.invokevirtual 40) (tb_ys 61) (tb_ws 61) 3 (dp_rcO 5) := sm_cal_V (ci := 4) (N0 := 5) (T0 := tb_T4) rfl (tb_GV tb_w401 tb_w402 tb_w403 tb_w17 tb_w404) ⟨by decide, by decide, by decide +kernel⟩ (by decide)
theorem tb_v4_1 (cc : ByteArray) : sm_Cal tb_cl tb_N cc "ProgramSlices$Walk" tb_W (.invokevirtual 26) (tb_ys 62) (tb_ws 62) 2 (dp_rcO 5) := sm_cal_V (ci := 4) (N0 := 5) (T0 := tb_T4) rfl (tb_GV tb_w405 tb_w406 tb_w407 tb_w17 tb_w408) ⟨by decide, by decide, by decide +kernel⟩ (by decide)
theorem tb_v4_2 (cc : ByteArray) : sm_Cal tb_cl tb_N cc "ProgramSlices$Walk" tb_W (.invokevirtual 70) (tb_ys 63) (tb_ws 63) 2 (dp_rcO 5) := sm_cal_V (ci := 4) (N0 := 5) (T0 := tb_T4) rfl (tb_GV tb_w410 tb_w411 tb_w412 tb_w17 tb_w413) ⟨by decide, by decide, by decide +kernel⟩ (by decide)
theorem tb_v4_3 (cc : ByteArray) : sm_Cal tb_cl tb_N cc "ProgramSlices$Walk" tb_W (.invokevirtual 30) (tb_ys 64) (tb_ws 64) 3 (dp_rcO 5) := sm_cal_V (ci := 4) (N0 := 5) (T0 := tb_T4) rfl (tb_GV tb_w414 tb_w415 tb_w416 tb_w17 tb_w417) ⟨by decide, by decide, by decide +kernel⟩ (by decide)
theorem tb_v4_4 (cc : ByteArray) : sm_Cal tb_cl tb_N cc "ProgramSlices$Walk" tb_W (.invokevirtual 73) (tb_ys 65) (tb_ws 65) 4 (dp_rcO 3) := sm_cal_V (ci := 2) (N0 := 7) (T0 := tb_T2) rfl (tb_GV tb_w418 tb_w419 tb_w420 tb_w13 tb_w421) ⟨by decide, by decide, by decide +kernel⟩ (by decide)
theorem tb_v4_5 (cc : ByteArray) : sm_Cal tb_cl tb_N cc "ProgramSlices$Walk" tb_W (.invokevirtual 77) (tb_ys 66) (tb_ws 66) 3 (dp_rcO 5) := sm_cal_V (ci := 4) (N0 := 5) (T0 := tb_T4) rfl (tb_GV tb_w422 tb_w423 tb_w424 tb_w17 tb_w425) ⟨by decide, by decide, by decide +kernel⟩ (by decide)
theorem tb_v4_6 (cc : ByteArray) : sm_Cal tb_cl tb_N cc "ProgramSlices$Walk" tb_W (.invokevirtual 85) (tb_ys 69) (tb_ws 69) 3 (dp_rcO 5) := sm_cal_V (ci := 4) (N0 := 5) (T0 := tb_T4) rfl (tb_GV tb_w429 tb_w430 tb_w431 tb_w17 tb_w432) ⟨by decide, by decide, by decide +kernel⟩ (by decide)
theorem tb_v4_7 (cc : ByteArray) : sm_Cal tb_cl tb_N cc "ProgramSlices$Walk" tb_W (.invokevirtual 96) (tb_ys 71) (tb_ws 71) 2 (dp_rcO 3) := sm_cal_V (ci := 2) (N0 := 7) (T0 := tb_T2) rfl (tb_GV tb_w436 tb_w437 tb_w438 tb_w13 tb_w439) ⟨by decide, by decide, by decide +kernel⟩ (by decide)
theorem tb_v4_8 (cc : ByteArray) : sm_Cal tb_cl tb_N cc "ProgramSlices$Walk" tb_W (.invokevirtual 89) (tb_ys 72) (tb_ws 72) 3 (dp_rcO 5) := sm_cal_V (ci := 4) (N0 := 5) (T0 := tb_T4) rfl (tb_GV tb_w440 tb_w441 tb_w442 tb_w17 tb_w443) ⟨by decide, by decide, by decide +kernel⟩ (by decide)
theorem tb_v4_9 (cc : ByteArray) : sm_Cal tb_cl tb_N cc "ProgramSlices$Walk" tb_W (.invokevirtual 99) (tb_ys 33) (tb_ws 33) 2 (dp_rcO 2) := sm_cal_V (ci := 1) (N0 := 14) (T0 := tb_T1) rfl (tb_GV tb_w444 tb_w108 tb_w109 tb_w10 tb_w110) ⟨by decide, by decide, by decide +kernel⟩ (by decide)
theorem tb_v4_10 (cc : ByteArray) : sm_Cal tb_cl tb_N cc "ProgramSlices$Walk" tb_W (.invokevirtual 102) (tb_ys 34) (tb_ws 34) 2 (dp_rcO 2) := sm_cal_V (ci := 1) (N0 := 14) (T0 := tb_T1) rfl (tb_GV tb_w445 tb_w112 tb_w113 tb_w10 tb_w114) ⟨by decide, by decide, by decide +kernel⟩ (by decide)
theorem tb_v4_11 (cc : ByteArray) : sm_Cal tb_cl tb_N cc "ProgramSlices$Walk" tb_W (.invokevirtual 51) (tb_ys 73) (tb_ws 73) 4 (dp_rcO 3) := sm_cal_V (ci := 2) (N0 := 7) (T0 := tb_T2) rfl (tb_GV tb_w446 tb_w116 tb_w117 tb_w13 tb_w118) ⟨by decide, by decide, by decide +kernel⟩ (by decide)
theorem tb_v4_12 (cc : ByteArray) : sm_Cal tb_cl tb_N cc "ProgramSlices$Walk" tb_W (.invokevirtual 57) (tb_ys 75) (tb_ws 75) 4 (dp_rcO 3) := sm_cal_V (ci := 2) (N0 := 7) (T0 := tb_T2) rfl (tb_GV tb_w447 tb_w448 tb_w449 tb_w13 tb_w450) ⟨by decide, by decide, by decide +kernel⟩ (by decide)
theorem tb_v4_ok : ∀ e ∈ tb_v4, ∀ cc, sm_Cal tb_cl tb_N cc "ProgramSlices$Walk" tb_W (.invokevirtual e.1) (tb_ys e.2.1) (tb_ws e.2.1) e.2.2.1 (dp_rcO e.2.2.2) := List.forall_mem_cons.mpr ⟨tb_v4_0, List.forall_mem_cons.mpr ⟨tb_v4_1, List.forall_mem_cons.mpr ⟨tb_v4_2, List.forall_mem_cons.mpr ⟨tb_v4_3, List.forall_mem_cons.mpr ⟨tb_v4_4, List.forall_mem_cons.mpr ⟨tb_v4_5, List.forall_mem_cons.mpr ⟨tb_v4_6, List.forall_mem_cons.mpr ⟨tb_v4_7, List.forall_mem_cons.mpr ⟨tb_v4_8, List.forall_mem_cons.mpr ⟨tb_v4_9, List.forall_mem_cons.mpr ⟨tb_v4_10, List.forall_mem_cons.mpr ⟨tb_v4_11, List.forall_mem_cons.mpr ⟨tb_v4_12, fun _ h => absurd h List.not_mem_nil⟩⟩⟩⟩⟩⟩⟩⟩⟩⟩⟩⟩⟩
def tb_i4 : List (Nat × Nat × Nat × Nat) := []
theorem tb_i4_ok : ∀ e ∈ tb_i4, ∀ cc, sm_Cal tb_cl tb_N cc "ProgramSlices$Walk" tb_W (.invokespecial e.1) (tb_ys e.2.1) (tb_ws e.2.1) e.2.2.1 (dp_rcO e.2.2.2) := fun _ h => absurd h List.not_mem_nil
def tb_e4 : List (Nat × Nat × List (Option (Option Nat))) := []
theorem tb_e4_ok : ∀ e ∈ tb_e4, dp_nok tb_cl "ProgramSlices$Walk" tb_W e.1 e.2 := fun _ h => absurd h List.not_mem_nil
def tb_K4 : dp_K := (dp_lk tb_f4, dp_lk tb_c4, dp_lk tb_l4, fun i => match i % 3 with
  | 0 => dp_lk tb_s4 (i / 3)
  | 1 => dp_lk tb_v4 (i / 3)
  | _ => dp_lk tb_i4 (i / 3), dp_lk tb_e4, 3)
theorem tb_K4_ok : dp_Kok tb_cl tb_N "ProgramSlices$Walk" tb_W tb_ys tb_ws tb_K4 := by
  refine ⟨fun i F h => tb_f4_ok _ (dp_lk_mem h), fun i v h => tb_c4_ok _ (dp_lk_mem h), fun i v h => tb_l4_ok _ (dp_lk_mem h), fun i C h cc => ?_, fun i C h cc => ?_, fun i C h cc => ?_, fun i C h => tb_e4_ok _ (dp_lk_mem h), ⟨tb_w451, tb_w206, tb_w207⟩, tb_w208, tb_w209, tb_w210⟩
  · have h : dp_lk tb_s4 i = some C := by
      have e1 : 3 * i % 3 = 0 := by omega
      have e2 : 3 * i / 3 = i := by omega
      simpa [tb_K4, e1, e2] using h
    exact tb_s4_ok _ (dp_lk_mem h) cc
  · have h : dp_lk tb_v4 i = some C := by
      have e1 : (3 * i + 1) % 3 = 1 := by omega
      have e2 : (3 * i + 1) / 3 = i := by omega
      simpa [tb_K4, e1, e2] using h
    exact tb_v4_ok _ (dp_lk_mem h) cc
  · have h : dp_lk tb_i4 i = some C := by
      have e1 : (3 * i + 2) % 3 = 2 := by omega
      have e2 : (3 * i + 2) / 3 = i := by omega
      simpa [tb_K4, e1, e2] using h
    exact tb_i4_ok _ (dp_lk_mem h) cc
def tb_f5 : List (Nat × Nat × Nat × Nat) := [(111, 1, 0, 3), (136, 1, 1, 3), (123, 1, 2, 3), (129, 1, 3, 3), (104, 1, 7, 3), (158, 1, 9, 3), (81, 1, 10, 3), (12, 5, 0, 2), (34, 5, 1, 2), (18, 5, 2, 2), (22, 5, 3, 2), (25, 5, 4, 2), (28, 5, 5, 2), (31, 5, 6, 2), (67, 5, 7, 0), (78, 5, 8, 0), (45, 5, 9, 0), (58, 5, 10, 0), (55, 5, 11, 0), (61, 5, 12, 0), (64, 5, 13, 0), (38, 5, 14, 1)]
theorem tb_f5_0 : dp_fok tb_cl tb_N "ProgramSlices$Machine" tb_W 111 (1, 0, 3) := ⟨"ProgramSlices$Code", tb_T1, 14, tb_t1, rfl, by decide, tb_u1, tb_y1, tb_n1, Or.inl tb_w452, fun h => absurd h (by decide), fun h => absurd h (by decide), fun h => absurd h (by decide)⟩
theorem tb_f5_1 : dp_fok tb_cl tb_N "ProgramSlices$Machine" tb_W 136 (1, 1, 3) := ⟨"ProgramSlices$Code", tb_T1, 14, tb_t1, rfl, by decide, tb_u1, tb_y1, tb_n1, Or.inl tb_w453, fun h => absurd h (by decide), fun h => absurd h (by decide), fun h => absurd h (by decide)⟩
theorem tb_f5_2 : dp_fok tb_cl tb_N "ProgramSlices$Machine" tb_W 123 (1, 2, 3) := ⟨"ProgramSlices$Code", tb_T1, 14, tb_t1, rfl, by decide, tb_u1, tb_y1, tb_n1, Or.inl tb_w454, fun h => absurd h (by decide), fun h => absurd h (by decide), fun h => absurd h (by decide)⟩
theorem tb_f5_3 : dp_fok tb_cl tb_N "ProgramSlices$Machine" tb_W 129 (1, 3, 3) := ⟨"ProgramSlices$Code", tb_T1, 14, tb_t1, rfl, by decide, tb_u1, tb_y1, tb_n1, Or.inl tb_w455, fun h => absurd h (by decide), fun h => absurd h (by decide), fun h => absurd h (by decide)⟩
theorem tb_f5_4 : dp_fok tb_cl tb_N "ProgramSlices$Machine" tb_W 104 (1, 7, 3) := ⟨"ProgramSlices$Code", tb_T1, 14, tb_t1, rfl, by decide, tb_u1, tb_y1, tb_n1, Or.inl tb_w456, fun h => absurd h (by decide), fun h => absurd h (by decide), fun h => absurd h (by decide)⟩
theorem tb_f5_5 : dp_fok tb_cl tb_N "ProgramSlices$Machine" tb_W 158 (1, 9, 3) := ⟨"ProgramSlices$Code", tb_T1, 14, tb_t1, rfl, by decide, tb_u1, tb_y1, tb_n1, Or.inl tb_w457, fun h => absurd h (by decide), fun h => absurd h (by decide), fun h => absurd h (by decide)⟩
theorem tb_f5_6 : dp_fok tb_cl tb_N "ProgramSlices$Machine" tb_W 81 (1, 10, 3) := ⟨"ProgramSlices$Code", tb_T1, 14, tb_t1, rfl, by decide, tb_u1, tb_y1, tb_n1, Or.inl tb_w458, fun h => absurd h (by decide), fun h => absurd h (by decide), fun h => absurd h (by decide)⟩
theorem tb_f5_7 : dp_fok tb_cl tb_N "ProgramSlices$Machine" tb_W 12 (5, 0, 2) := ⟨"ProgramSlices$Machine", tb_T5, 15, tb_t5, rfl, by decide, tb_u5, tb_y5, tb_n5, Or.inl tb_w459, fun h => absurd h (by decide), fun h => absurd h (by decide), fun _ => ⟨rfl, rfl, tb_w459, fun _ => ⟨rfl, rfl⟩⟩⟩
theorem tb_f5_8 : dp_fok tb_cl tb_N "ProgramSlices$Machine" tb_W 34 (5, 1, 2) := ⟨"ProgramSlices$Machine", tb_T5, 15, tb_t5, rfl, by decide, tb_u5, tb_y5, tb_n5, Or.inl tb_w460, fun h => absurd h (by decide), fun h => absurd h (by decide), fun _ => ⟨rfl, rfl, tb_w460, fun _ => ⟨rfl, rfl⟩⟩⟩
theorem tb_f5_9 : dp_fok tb_cl tb_N "ProgramSlices$Machine" tb_W 18 (5, 2, 2) := ⟨"ProgramSlices$Machine", tb_T5, 15, tb_t5, rfl, by decide, tb_u5, tb_y5, tb_n5, Or.inl tb_w461, fun h => absurd h (by decide), fun h => absurd h (by decide), fun _ => ⟨rfl, rfl, tb_w461, fun _ => ⟨rfl, rfl⟩⟩⟩
theorem tb_f5_10 : dp_fok tb_cl tb_N "ProgramSlices$Machine" tb_W 22 (5, 3, 2) := ⟨"ProgramSlices$Machine", tb_T5, 15, tb_t5, rfl, by decide, tb_u5, tb_y5, tb_n5, Or.inl tb_w462, fun h => absurd h (by decide), fun h => absurd h (by decide), fun _ => ⟨rfl, rfl, tb_w462, fun _ => ⟨rfl, rfl⟩⟩⟩
theorem tb_f5_11 : dp_fok tb_cl tb_N "ProgramSlices$Machine" tb_W 25 (5, 4, 2) := ⟨"ProgramSlices$Machine", tb_T5, 15, tb_t5, rfl, by decide, tb_u5, tb_y5, tb_n5, Or.inl tb_w463, fun h => absurd h (by decide), fun h => absurd h (by decide), fun _ => ⟨rfl, rfl, tb_w463, fun _ => ⟨rfl, rfl⟩⟩⟩
theorem tb_f5_12 : dp_fok tb_cl tb_N "ProgramSlices$Machine" tb_W 28 (5, 5, 2) := ⟨"ProgramSlices$Machine", tb_T5, 15, tb_t5, rfl, by decide, tb_u5, tb_y5, tb_n5, Or.inl tb_w464, fun h => absurd h (by decide), fun h => absurd h (by decide), fun _ => ⟨rfl, rfl, tb_w464, fun _ => ⟨rfl, rfl⟩⟩⟩
theorem tb_f5_13 : dp_fok tb_cl tb_N "ProgramSlices$Machine" tb_W 31 (5, 6, 2) := ⟨"ProgramSlices$Machine", tb_T5, 15, tb_t5, rfl, by decide, tb_u5, tb_y5, tb_n5, Or.inl tb_w465, fun h => absurd h (by decide), fun h => absurd h (by decide), fun _ => ⟨rfl, rfl, tb_w465, fun _ => ⟨rfl, rfl⟩⟩⟩
theorem tb_f5_14 : dp_fok tb_cl tb_N "ProgramSlices$Machine" tb_W 67 (5, 7, 0) := ⟨"ProgramSlices$Machine", tb_T5, 15, tb_t5, rfl, by decide, tb_u5, tb_y5, tb_n5, Or.inl tb_w466, fun _ => ⟨rfl, rfl⟩, fun h => absurd h (by decide), fun h => absurd h (by decide)⟩
theorem tb_f5_15 : dp_fok tb_cl tb_N "ProgramSlices$Machine" tb_W 78 (5, 8, 0) := ⟨"ProgramSlices$Machine", tb_T5, 15, tb_t5, rfl, by decide, tb_u5, tb_y5, tb_n5, Or.inl tb_w467, fun _ => ⟨rfl, rfl⟩, fun h => absurd h (by decide), fun h => absurd h (by decide)⟩
theorem tb_f5_16 : dp_fok tb_cl tb_N "ProgramSlices$Machine" tb_W 45 (5, 9, 0) := ⟨"ProgramSlices$Machine", tb_T5, 15, tb_t5, rfl, by decide, tb_u5, tb_y5, tb_n5, Or.inl tb_w468, fun _ => ⟨rfl, rfl⟩, fun h => absurd h (by decide), fun h => absurd h (by decide)⟩
theorem tb_f5_17 : dp_fok tb_cl tb_N "ProgramSlices$Machine" tb_W 58 (5, 10, 0) := ⟨"ProgramSlices$Machine", tb_T5, 15, tb_t5, rfl, by decide, tb_u5, tb_y5, tb_n5, Or.inl tb_w469, fun _ => ⟨rfl, rfl⟩, fun h => absurd h (by decide), fun h => absurd h (by decide)⟩
theorem tb_f5_18 : dp_fok tb_cl tb_N "ProgramSlices$Machine" tb_W 55 (5, 11, 0) := ⟨"ProgramSlices$Machine", tb_T5, 15, tb_t5, rfl, by decide, tb_u5, tb_y5, tb_n5, Or.inl tb_w470, fun _ => ⟨rfl, rfl⟩, fun h => absurd h (by decide), fun h => absurd h (by decide)⟩
theorem tb_f5_19 : dp_fok tb_cl tb_N "ProgramSlices$Machine" tb_W 61 (5, 12, 0) := ⟨"ProgramSlices$Machine", tb_T5, 15, tb_t5, rfl, by decide, tb_u5, tb_y5, tb_n5, Or.inl tb_w471, fun _ => ⟨rfl, rfl⟩, fun h => absurd h (by decide), fun h => absurd h (by decide)⟩
theorem tb_f5_20 : dp_fok tb_cl tb_N "ProgramSlices$Machine" tb_W 64 (5, 13, 0) := ⟨"ProgramSlices$Machine", tb_T5, 15, tb_t5, rfl, by decide, tb_u5, tb_y5, tb_n5, Or.inl tb_w472, fun _ => ⟨rfl, rfl⟩, fun h => absurd h (by decide), fun h => absurd h (by decide)⟩
theorem tb_f5_21 : dp_fok tb_cl tb_N "ProgramSlices$Machine" tb_W 38 (5, 14, 1) := ⟨"ProgramSlices$Machine", tb_T5, 15, tb_t5, rfl, by decide, tb_u5, tb_y5, tb_n5, Or.inl tb_w473, fun h => absurd h (by decide), fun _ => ⟨rfl, rfl⟩, fun h => absurd h (by decide)⟩
theorem tb_f5_ok : ∀ e ∈ tb_f5, dp_fok tb_cl tb_N "ProgramSlices$Machine" tb_W e.1 e.2 := List.forall_mem_cons.mpr ⟨tb_f5_0, List.forall_mem_cons.mpr ⟨tb_f5_1, List.forall_mem_cons.mpr ⟨tb_f5_2, List.forall_mem_cons.mpr ⟨tb_f5_3, List.forall_mem_cons.mpr ⟨tb_f5_4, List.forall_mem_cons.mpr ⟨tb_f5_5, List.forall_mem_cons.mpr ⟨tb_f5_6, List.forall_mem_cons.mpr ⟨tb_f5_7, List.forall_mem_cons.mpr ⟨tb_f5_8, List.forall_mem_cons.mpr ⟨tb_f5_9, List.forall_mem_cons.mpr ⟨tb_f5_10, List.forall_mem_cons.mpr ⟨tb_f5_11, List.forall_mem_cons.mpr ⟨tb_f5_12, List.forall_mem_cons.mpr ⟨tb_f5_13, List.forall_mem_cons.mpr ⟨tb_f5_14, List.forall_mem_cons.mpr ⟨tb_f5_15, List.forall_mem_cons.mpr ⟨tb_f5_16, List.forall_mem_cons.mpr ⟨tb_f5_17, List.forall_mem_cons.mpr ⟨tb_f5_18, List.forall_mem_cons.mpr ⟨tb_f5_19, List.forall_mem_cons.mpr ⟨tb_f5_20, List.forall_mem_cons.mpr ⟨tb_f5_21, fun _ h => absurd h List.not_mem_nil⟩⟩⟩⟩⟩⟩⟩⟩⟩⟩⟩⟩⟩⟩⟩⟩⟩⟩⟩⟩⟩⟩
def tb_c5 : List (Nat × Int32) := [(74, 1000000)]
theorem tb_c5_ok : ∀ e ∈ tb_c5, Jvm.Cond.constant "ProgramSlices$Machine" e.1 e.2 ∈ tb_W := List.forall_mem_cons.mpr ⟨tb_w474, fun _ h => absurd h List.not_mem_nil⟩
def tb_l5 : List (Nat × Int64) := []
theorem tb_l5_ok : ∀ e ∈ tb_l5, Jvm.Cond.constantLong "ProgramSlices$Machine" e.1 e.2 ∈ tb_W := fun _ h => absurd h List.not_mem_nil
def tb_s5 : List (Nat × Nat × Nat × Nat) := [(49, 24, 2, 0), (97, 67, 2, 0), (154, 127, 2, 0)]
theorem tb_s5_0 (cc : ByteArray) : sm_Cal tb_cl tb_N cc "ProgramSlices$Machine" tb_W (.invokestatic 49) (tb_ys 24) (tb_ws 24) 2 (dp_rcO 0) := sm_cal_S (tb_GS tb_w481 tb_w291 tb_w292 tb_w293) ⟨by decide, by decide, by decide +kernel⟩ (by decide)
theorem tb_s5_1 (cc : ByteArray) : sm_Cal tb_cl tb_N cc "ProgramSlices$Machine" tb_W (.invokestatic 97) (tb_ys 67) (tb_ws 67) 2 (dp_rcO 0) := sm_cal_SN (host := "ProgramSlices") (tb_G tb_w153) tb_w152 tb_w89 (tb_inn (i := 787) (by decide +kernel) rfl) ⟨by decide, by decide, by decide +kernel⟩ (by decide)
theorem tb_s5_2 (cc : ByteArray) : sm_Cal tb_cl tb_N cc "ProgramSlices$Machine" tb_W (.invokestatic 154) (tb_ys 127) (tb_ws 127) 2 (dp_rcO 0) := sm_cal_S (tb_GS tb_w539 tb_w540 tb_w21 tb_w541) ⟨by decide, by decide, by decide +kernel⟩ (by decide)
theorem tb_s5_ok : ∀ e ∈ tb_s5, ∀ cc, sm_Cal tb_cl tb_N cc "ProgramSlices$Machine" tb_W (.invokestatic e.1) (tb_ys e.2.1) (tb_ws e.2.1) e.2.2.1 (dp_rcO e.2.2.2) := List.forall_mem_cons.mpr ⟨tb_s5_0, List.forall_mem_cons.mpr ⟨tb_s5_1, List.forall_mem_cons.mpr ⟨tb_s5_2, fun _ h => absurd h List.not_mem_nil⟩⟩⟩
def tb_v5 : List (Nat × Nat × Nat × Nat) := [(42, 23, 1, 7), (70, 114, 5, 6), (145, 115, 3, 6), (75, 116, 1, 6), (86, 117, 1, 6), (126, 118, 2, 6), (89, 44, 2, 2), (93, 40, 2, 2), (101, 119, 2, 6), (107, 120, 2, 6), (114, 33, 2, 2), (117, 121, 2, 6), (148, 34, 2, 2), (120, 122, 2, 6), (132, 123, 3, 6), (161, 124, 2, 7), (151, 39, 2, 2), (139, 125, 3, 7), (142, 126, 2, 6)]
theorem tb_v5_0 (cc : ByteArray) : sm_Cal tb_cl tb_N cc "ProgramSlices$Machine" tb_W (.invokevirtual 42) (tb_ys 23) (tb_ws 23) 1 (dp_rcO 7) := sm_cal_V (ci := 6) (N0 := 4) (T0 := tb_T6) rfl (tb_GV tb_w477 tb_w478 tb_w479 tb_w173 tb_w480) ⟨by decide, by decide, by decide +kernel⟩ (by decide)
theorem tb_v5_1 (cc : ByteArray) : sm_Cal tb_cl tb_N cc "ProgramSlices$Machine" tb_W (.invokevirtual 70) (tb_ys 114) (tb_ws 114) 5 (dp_rcO 6) := sm_cal_V (ci := 5) (N0 := 15) (T0 := tb_T5) rfl (tb_GV tb_w482 tb_w483 tb_w484 tb_w21 tb_w485) ⟨by decide, by decide, by decide +kernel⟩ (by decide)
theorem tb_v5_2 (cc : ByteArray) : sm_Cal tb_cl tb_N cc "ProgramSlices$Machine" tb_W (.invokevirtual 145) (tb_ys 115) (tb_ws 115) 3 (dp_rcO 6) := sm_cal_V (ci := 5) (N0 := 15) (T0 := tb_T5) rfl (tb_GV tb_w486 tb_w487 tb_w488 tb_w21 tb_w489) ⟨by decide, by decide, by decide +kernel⟩ (by decide)
theorem tb_v5_3 (cc : ByteArray) : sm_Cal tb_cl tb_N cc "ProgramSlices$Machine" tb_W (.invokevirtual 75) (tb_ys 116) (tb_ws 116) 1 (dp_rcO 6) := sm_cal_V (ci := 5) (N0 := 15) (T0 := tb_T5) rfl (tb_GV tb_w490 tb_w491 tb_w492 tb_w21 tb_w493) ⟨by decide, by decide, by decide +kernel⟩ (by decide)
theorem tb_v5_4 (cc : ByteArray) : sm_Cal tb_cl tb_N cc "ProgramSlices$Machine" tb_W (.invokevirtual 86) (tb_ys 117) (tb_ws 117) 1 (dp_rcO 6) := sm_cal_V (ci := 5) (N0 := 15) (T0 := tb_T5) rfl (tb_GV tb_w494 tb_w495 tb_w496 tb_w21 tb_w497) ⟨by decide, by decide, by decide +kernel⟩ (by decide)
theorem tb_v5_5 (cc : ByteArray) : sm_Cal tb_cl tb_N cc "ProgramSlices$Machine" tb_W (.invokevirtual 126) (tb_ys 118) (tb_ws 118) 2 (dp_rcO 6) := sm_cal_V (ci := 5) (N0 := 15) (T0 := tb_T5) rfl (tb_GV tb_w498 tb_w499 tb_w500 tb_w21 tb_w501) ⟨by decide, by decide, by decide +kernel⟩ (by decide)
theorem tb_v5_6 (cc : ByteArray) : sm_Cal tb_cl tb_N cc "ProgramSlices$Machine" tb_W (.invokevirtual 89) (tb_ys 44) (tb_ws 44) 2 (dp_rcO 2) := sm_cal_V (ci := 1) (N0 := 14) (T0 := tb_T1) rfl (tb_GV tb_w502 tb_w100 tb_w101 tb_w10 tb_w102) ⟨by decide, by decide, by decide +kernel⟩ (by decide)
theorem tb_v5_7 (cc : ByteArray) : sm_Cal tb_cl tb_N cc "ProgramSlices$Machine" tb_W (.invokevirtual 93) (tb_ys 40) (tb_ws 40) 2 (dp_rcO 2) := sm_cal_V (ci := 1) (N0 := 14) (T0 := tb_T1) rfl (tb_GV tb_w503 tb_w384 tb_w385 tb_w10 tb_w386) ⟨by decide, by decide, by decide +kernel⟩ (by decide)
theorem tb_v5_8 (cc : ByteArray) : sm_Cal tb_cl tb_N cc "ProgramSlices$Machine" tb_W (.invokevirtual 101) (tb_ys 119) (tb_ws 119) 2 (dp_rcO 6) := sm_cal_V (ci := 5) (N0 := 15) (T0 := tb_T5) rfl (tb_GV tb_w504 tb_w505 tb_w506 tb_w21 tb_w507) ⟨by decide, by decide, by decide +kernel⟩ (by decide)
theorem tb_v5_9 (cc : ByteArray) : sm_Cal tb_cl tb_N cc "ProgramSlices$Machine" tb_W (.invokevirtual 107) (tb_ys 120) (tb_ws 120) 2 (dp_rcO 6) := sm_cal_V (ci := 5) (N0 := 15) (T0 := tb_T5) rfl (tb_GV tb_w508 tb_w509 tb_w510 tb_w21 tb_w511) ⟨by decide, by decide, by decide +kernel⟩ (by decide)
theorem tb_v5_10 (cc : ByteArray) : sm_Cal tb_cl tb_N cc "ProgramSlices$Machine" tb_W (.invokevirtual 114) (tb_ys 33) (tb_ws 33) 2 (dp_rcO 2) := sm_cal_V (ci := 1) (N0 := 14) (T0 := tb_T1) rfl (tb_GV tb_w512 tb_w108 tb_w109 tb_w10 tb_w110) ⟨by decide, by decide, by decide +kernel⟩ (by decide)
theorem tb_v5_11 (cc : ByteArray) : sm_Cal tb_cl tb_N cc "ProgramSlices$Machine" tb_W (.invokevirtual 117) (tb_ys 121) (tb_ws 121) 2 (dp_rcO 6) := sm_cal_V (ci := 5) (N0 := 15) (T0 := tb_T5) rfl (tb_GV tb_w513 tb_w514 tb_w515 tb_w21 tb_w516) ⟨by decide, by decide, by decide +kernel⟩ (by decide)
theorem tb_v5_12 (cc : ByteArray) : sm_Cal tb_cl tb_N cc "ProgramSlices$Machine" tb_W (.invokevirtual 148) (tb_ys 34) (tb_ws 34) 2 (dp_rcO 2) := sm_cal_V (ci := 1) (N0 := 14) (T0 := tb_T1) rfl (tb_GV tb_w517 tb_w112 tb_w113 tb_w10 tb_w114) ⟨by decide, by decide, by decide +kernel⟩ (by decide)
theorem tb_v5_13 (cc : ByteArray) : sm_Cal tb_cl tb_N cc "ProgramSlices$Machine" tb_W (.invokevirtual 120) (tb_ys 122) (tb_ws 122) 2 (dp_rcO 6) := sm_cal_V (ci := 5) (N0 := 15) (T0 := tb_T5) rfl (tb_GV tb_w518 tb_w519 tb_w520 tb_w21 tb_w521) ⟨by decide, by decide, by decide +kernel⟩ (by decide)
theorem tb_v5_14 (cc : ByteArray) : sm_Cal tb_cl tb_N cc "ProgramSlices$Machine" tb_W (.invokevirtual 132) (tb_ys 123) (tb_ws 123) 3 (dp_rcO 6) := sm_cal_V (ci := 5) (N0 := 15) (T0 := tb_T5) rfl (tb_GV tb_w522 tb_w523 tb_w524 tb_w21 tb_w525) ⟨by decide, by decide, by decide +kernel⟩ (by decide)
theorem tb_v5_15 (cc : ByteArray) : sm_Cal tb_cl tb_N cc "ProgramSlices$Machine" tb_W (.invokevirtual 161) (tb_ys 124) (tb_ws 124) 2 (dp_rcO 7) := sm_cal_V (ci := 6) (N0 := 4) (T0 := tb_T6) rfl (tb_GV tb_w526 tb_w527 tb_w528 tb_w173 tb_w529) ⟨by decide, by decide, by decide +kernel⟩ (by decide)
theorem tb_v5_16 (cc : ByteArray) : sm_Cal tb_cl tb_N cc "ProgramSlices$Machine" tb_W (.invokevirtual 151) (tb_ys 39) (tb_ws 39) 2 (dp_rcO 2) := sm_cal_V (ci := 1) (N0 := 14) (T0 := tb_T1) rfl (tb_GV tb_w530 tb_w380 tb_w381 tb_w10 tb_w382) ⟨by decide, by decide, by decide +kernel⟩ (by decide)
theorem tb_v5_17 (cc : ByteArray) : sm_Cal tb_cl tb_N cc "ProgramSlices$Machine" tb_W (.invokevirtual 139) (tb_ys 125) (tb_ws 125) 3 (dp_rcO 7) := sm_cal_V (ci := 6) (N0 := 4) (T0 := tb_T6) rfl (tb_GV tb_w531 tb_w532 tb_w533 tb_w173 tb_w534) ⟨by decide, by decide, by decide +kernel⟩ (by decide)
theorem tb_v5_18 (cc : ByteArray) : sm_Cal tb_cl tb_N cc "ProgramSlices$Machine" tb_W (.invokevirtual 142) (tb_ys 126) (tb_ws 126) 2 (dp_rcO 6) := sm_cal_V (ci := 5) (N0 := 15) (T0 := tb_T5) rfl (tb_GV tb_w535 tb_w536 tb_w537 tb_w21 tb_w538) ⟨by decide, by decide, by decide +kernel⟩ (by decide)
theorem tb_v5_ok : ∀ e ∈ tb_v5, ∀ cc, sm_Cal tb_cl tb_N cc "ProgramSlices$Machine" tb_W (.invokevirtual e.1) (tb_ys e.2.1) (tb_ws e.2.1) e.2.2.1 (dp_rcO e.2.2.2) := List.forall_mem_cons.mpr ⟨tb_v5_0, List.forall_mem_cons.mpr ⟨tb_v5_1, List.forall_mem_cons.mpr ⟨tb_v5_2, List.forall_mem_cons.mpr ⟨tb_v5_3, List.forall_mem_cons.mpr ⟨tb_v5_4, List.forall_mem_cons.mpr ⟨tb_v5_5, List.forall_mem_cons.mpr ⟨tb_v5_6, List.forall_mem_cons.mpr ⟨tb_v5_7, List.forall_mem_cons.mpr ⟨tb_v5_8, List.forall_mem_cons.mpr ⟨tb_v5_9, List.forall_mem_cons.mpr ⟨tb_v5_10, List.forall_mem_cons.mpr ⟨tb_v5_11, List.forall_mem_cons.mpr ⟨tb_v5_12, List.forall_mem_cons.mpr ⟨tb_v5_13, List.forall_mem_cons.mpr ⟨tb_v5_14, List.forall_mem_cons.mpr ⟨tb_v5_15, List.forall_mem_cons.mpr ⟨tb_v5_16, List.forall_mem_cons.mpr ⟨tb_v5_17, List.forall_mem_cons.mpr ⟨tb_v5_18, fun _ h => absurd h List.not_mem_nil⟩⟩⟩⟩⟩⟩⟩⟩⟩⟩⟩⟩⟩⟩⟩⟩⟩⟩⟩
def tb_i5 : List (Nat × Nat × Nat × Nat) := [(11, 6, 1, 7)]
theorem tb_i5_0 (cc : ByteArray) : sm_Cal tb_cl tb_N cc "ProgramSlices$Machine" tb_W (.invokespecial 11) (tb_ys 6) (tb_ws 6) 1 (dp_rcO 7) := sm_cal_IN (ret' := none) (host := "ProgramSlices") (ci := 6) (tb_G tb_w475) tb_w173 (tb_inn (i := 185) (by decide +kernel) rfl) tb_w476 rfl ⟨by decide, by decide, by decide +kernel⟩ (by decide)
theorem tb_i5_ok : ∀ e ∈ tb_i5, ∀ cc, sm_Cal tb_cl tb_N cc "ProgramSlices$Machine" tb_W (.invokespecial e.1) (tb_ys e.2.1) (tb_ws e.2.1) e.2.2.1 (dp_rcO e.2.2.2) := List.forall_mem_cons.mpr ⟨tb_i5_0, fun _ h => absurd h List.not_mem_nil⟩
def tb_e5 : List (Nat × Nat × List (Option (Option Nat))) := [(9, 6, [some none, none, some none, some none])]
theorem tb_e5_0 : dp_nok tb_cl "ProgramSlices$Machine" tb_W 9 (6, [some none, none, some none, some none]) := ⟨"ProgramSlices$Log", tb_T6, tb_t6, rfl, tb_u6, tb_y6, tb_w542, tb_w543, tb_w173, by
  intro j hj ad
  have hj : j < 4 := hj
  rcases (show j = 0 ∨ j = 1 ∨ j = 2 ∨ j = 3 by omega) with rfl | rfl | rfl | rfl <;> rfl, fun _ _ => rfl⟩
theorem tb_e5_ok : ∀ e ∈ tb_e5, dp_nok tb_cl "ProgramSlices$Machine" tb_W e.1 e.2 := List.forall_mem_cons.mpr ⟨tb_e5_0, fun _ h => absurd h List.not_mem_nil⟩
def tb_K5 : dp_K := (dp_lk tb_f5, dp_lk tb_c5, dp_lk tb_l5, fun i => match i % 3 with
  | 0 => dp_lk tb_s5 (i / 3)
  | 1 => dp_lk tb_v5 (i / 3)
  | _ => dp_lk tb_i5 (i / 3), dp_lk tb_e5, 3)
theorem tb_K5_ok : dp_Kok tb_cl tb_N "ProgramSlices$Machine" tb_W tb_ys tb_ws tb_K5 := by
  refine ⟨fun i F h => tb_f5_ok _ (dp_lk_mem h), fun i v h => tb_c5_ok _ (dp_lk_mem h), fun i v h => tb_l5_ok _ (dp_lk_mem h), fun i C h cc => ?_, fun i C h cc => ?_, fun i C h cc => ?_, fun i C h => tb_e5_ok _ (dp_lk_mem h), ⟨tb_w544, tb_w206, tb_w207⟩, tb_w208, tb_w209, tb_w210⟩
  · have h : dp_lk tb_s5 i = some C := by
      have e1 : 3 * i % 3 = 0 := by omega
      have e2 : 3 * i / 3 = i := by omega
      simpa [tb_K5, e1, e2] using h
    exact tb_s5_ok _ (dp_lk_mem h) cc
  · have h : dp_lk tb_v5 i = some C := by
      have e1 : (3 * i + 1) % 3 = 1 := by omega
      have e2 : (3 * i + 1) / 3 = i := by omega
      simpa [tb_K5, e1, e2] using h
    exact tb_v5_ok _ (dp_lk_mem h) cc
  · have h : dp_lk tb_i5 i = some C := by
      have e1 : (3 * i + 2) % 3 = 2 := by omega
      have e2 : (3 * i + 2) / 3 = i := by omega
      simpa [tb_K5, e1, e2] using h
    exact tb_i5_ok _ (dp_lk_mem h) cc
def tb_f6 : List (Nat × Nat × Nat × Nat) := [(9, 6, 0, 2), (21, 6, 1, 0), (15, 6, 2, 2), (18, 6, 3, 2)]
theorem tb_f6_0 : dp_fok tb_cl tb_N "ProgramSlices$Log" tb_W 9 (6, 0, 2) := ⟨"ProgramSlices$Log", tb_T6, 4, tb_t6, rfl, by decide, tb_u6, tb_y6, tb_n6, Or.inl tb_w545, fun h => absurd h (by decide), fun h => absurd h (by decide), fun _ => ⟨rfl, rfl, tb_w545, fun _ => ⟨rfl, rfl⟩⟩⟩
theorem tb_f6_1 : dp_fok tb_cl tb_N "ProgramSlices$Log" tb_W 21 (6, 1, 0) := ⟨"ProgramSlices$Log", tb_T6, 4, tb_t6, rfl, by decide, tb_u6, tb_y6, tb_n6, Or.inl tb_w546, fun _ => ⟨rfl, rfl⟩, fun h => absurd h (by decide), fun h => absurd h (by decide)⟩
theorem tb_f6_2 : dp_fok tb_cl tb_N "ProgramSlices$Log" tb_W 15 (6, 2, 2) := ⟨"ProgramSlices$Log", tb_T6, 4, tb_t6, rfl, by decide, tb_u6, tb_y6, tb_n6, Or.inl tb_w547, fun h => absurd h (by decide), fun h => absurd h (by decide), fun _ => ⟨rfl, rfl, tb_w547, fun _ => ⟨rfl, rfl⟩⟩⟩
theorem tb_f6_3 : dp_fok tb_cl tb_N "ProgramSlices$Log" tb_W 18 (6, 3, 2) := ⟨"ProgramSlices$Log", tb_T6, 4, tb_t6, rfl, by decide, tb_u6, tb_y6, tb_n6, Or.inl tb_w548, fun h => absurd h (by decide), fun h => absurd h (by decide), fun _ => ⟨rfl, rfl, tb_w548, fun _ => ⟨rfl, rfl⟩⟩⟩
theorem tb_f6_ok : ∀ e ∈ tb_f6, dp_fok tb_cl tb_N "ProgramSlices$Log" tb_W e.1 e.2 := List.forall_mem_cons.mpr ⟨tb_f6_0, List.forall_mem_cons.mpr ⟨tb_f6_1, List.forall_mem_cons.mpr ⟨tb_f6_2, List.forall_mem_cons.mpr ⟨tb_f6_3, fun _ h => absurd h List.not_mem_nil⟩⟩⟩⟩
def tb_c6 : List (Nat × Int32) := []
theorem tb_c6_ok : ∀ e ∈ tb_c6, Jvm.Cond.constant "ProgramSlices$Log" e.1 e.2 ∈ tb_W := fun _ h => absurd h List.not_mem_nil
def tb_l6 : List (Nat × Int64) := []
theorem tb_l6_ok : ∀ e ∈ tb_l6, Jvm.Cond.constantLong "ProgramSlices$Log" e.1 e.2 ∈ tb_W := fun _ h => absurd h List.not_mem_nil
def tb_s6 : List (Nat × Nat × Nat × Nat) := [(25, 24, 2, 0)]
theorem tb_s6_0 (cc : ByteArray) : sm_Cal tb_cl tb_N cc "ProgramSlices$Log" tb_W (.invokestatic 25) (tb_ys 24) (tb_ws 24) 2 (dp_rcO 0) := sm_cal_S (tb_GS tb_w549 tb_w291 tb_w292 tb_w293) ⟨by decide, by decide, by decide +kernel⟩ (by decide)
theorem tb_s6_ok : ∀ e ∈ tb_s6, ∀ cc, sm_Cal tb_cl tb_N cc "ProgramSlices$Log" tb_W (.invokestatic e.1) (tb_ys e.2.1) (tb_ws e.2.1) e.2.2.1 (dp_rcO e.2.2.2) := List.forall_mem_cons.mpr ⟨tb_s6_0, fun _ h => absurd h List.not_mem_nil⟩
def tb_v6 : List (Nat × Nat × Nat × Nat) := []
theorem tb_v6_ok : ∀ e ∈ tb_v6, ∀ cc, sm_Cal tb_cl tb_N cc "ProgramSlices$Log" tb_W (.invokevirtual e.1) (tb_ys e.2.1) (tb_ws e.2.1) e.2.2.1 (dp_rcO e.2.2.2) := fun _ h => absurd h List.not_mem_nil
def tb_i6 : List (Nat × Nat × Nat × Nat) := []
theorem tb_i6_ok : ∀ e ∈ tb_i6, ∀ cc, sm_Cal tb_cl tb_N cc "ProgramSlices$Log" tb_W (.invokespecial e.1) (tb_ys e.2.1) (tb_ws e.2.1) e.2.2.1 (dp_rcO e.2.2.2) := fun _ h => absurd h List.not_mem_nil
def tb_e6 : List (Nat × Nat × List (Option (Option Nat))) := []
theorem tb_e6_ok : ∀ e ∈ tb_e6, dp_nok tb_cl "ProgramSlices$Log" tb_W e.1 e.2 := fun _ h => absurd h List.not_mem_nil
def tb_K6 : dp_K := (dp_lk tb_f6, dp_lk tb_c6, dp_lk tb_l6, fun i => match i % 3 with
  | 0 => dp_lk tb_s6 (i / 3)
  | 1 => dp_lk tb_v6 (i / 3)
  | _ => dp_lk tb_i6 (i / 3), dp_lk tb_e6, 3)
theorem tb_K6_ok : dp_Kok tb_cl tb_N "ProgramSlices$Log" tb_W tb_ys tb_ws tb_K6 := by
  refine ⟨fun i F h => tb_f6_ok _ (dp_lk_mem h), fun i v h => tb_c6_ok _ (dp_lk_mem h), fun i v h => tb_l6_ok _ (dp_lk_mem h), fun i C h cc => ?_, fun i C h cc => ?_, fun i C h cc => ?_, fun i C h => tb_e6_ok _ (dp_lk_mem h), ⟨tb_w550, tb_w206, tb_w207⟩, tb_w208, tb_w209, tb_w210⟩
  · have h : dp_lk tb_s6 i = some C := by
      have e1 : 3 * i % 3 = 0 := by omega
      have e2 : 3 * i / 3 = i := by omega
      simpa [tb_K6, e1, e2] using h
    exact tb_s6_ok _ (dp_lk_mem h) cc
  · have h : dp_lk tb_v6 i = some C := by
      have e1 : (3 * i + 1) % 3 = 1 := by omega
      have e2 : (3 * i + 1) / 3 = i := by omega
      simpa [tb_K6, e1, e2] using h
    exact tb_v6_ok _ (dp_lk_mem h) cc
  · have h : dp_lk tb_i6 i = some C := by
      have e1 : (3 * i + 2) % 3 = 2 := by omega
      have e2 : (3 * i + 2) / 3 = i := by omega
      simpa [tb_K6, e1, e2] using h
    exact tb_i6_ok _ (dp_lk_mem h) cc
def tb_f7 : List (Nat × Nat × Nat × Nat) := [(21, 7, 0, 0), (9, 7, 1, 2), (15, 7, 2, 2), (18, 7, 3, 2)]
theorem tb_f7_0 : dp_fok tb_cl tb_N "ProgramSlices$Order" tb_W 21 (7, 0, 0) := ⟨"ProgramSlices$Order", tb_T7, 4, tb_t7, rfl, by decide, tb_u7, tb_y7, tb_n7, Or.inl tb_w551, fun _ => ⟨rfl, rfl⟩, fun h => absurd h (by decide), fun h => absurd h (by decide)⟩
theorem tb_f7_1 : dp_fok tb_cl tb_N "ProgramSlices$Order" tb_W 9 (7, 1, 2) := ⟨"ProgramSlices$Order", tb_T7, 4, tb_t7, rfl, by decide, tb_u7, tb_y7, tb_n7, Or.inl tb_w552, fun h => absurd h (by decide), fun h => absurd h (by decide), fun _ => ⟨rfl, rfl, tb_w552, fun _ => ⟨rfl, rfl⟩⟩⟩
theorem tb_f7_2 : dp_fok tb_cl tb_N "ProgramSlices$Order" tb_W 15 (7, 2, 2) := ⟨"ProgramSlices$Order", tb_T7, 4, tb_t7, rfl, by decide, tb_u7, tb_y7, tb_n7, Or.inl tb_w553, fun h => absurd h (by decide), fun h => absurd h (by decide), fun _ => ⟨rfl, rfl, tb_w553, fun _ => ⟨rfl, rfl⟩⟩⟩
theorem tb_f7_3 : dp_fok tb_cl tb_N "ProgramSlices$Order" tb_W 18 (7, 3, 2) := ⟨"ProgramSlices$Order", tb_T7, 4, tb_t7, rfl, by decide, tb_u7, tb_y7, tb_n7, Or.inl tb_w554, fun h => absurd h (by decide), fun h => absurd h (by decide), fun _ => ⟨rfl, rfl, tb_w554, fun _ => ⟨rfl, rfl⟩⟩⟩
theorem tb_f7_ok : ∀ e ∈ tb_f7, dp_fok tb_cl tb_N "ProgramSlices$Order" tb_W e.1 e.2 := List.forall_mem_cons.mpr ⟨tb_f7_0, List.forall_mem_cons.mpr ⟨tb_f7_1, List.forall_mem_cons.mpr ⟨tb_f7_2, List.forall_mem_cons.mpr ⟨tb_f7_3, fun _ h => absurd h List.not_mem_nil⟩⟩⟩⟩
def tb_c7 : List (Nat × Int32) := []
theorem tb_c7_ok : ∀ e ∈ tb_c7, Jvm.Cond.constant "ProgramSlices$Order" e.1 e.2 ∈ tb_W := fun _ h => absurd h List.not_mem_nil
def tb_l7 : List (Nat × Int64) := []
theorem tb_l7_ok : ∀ e ∈ tb_l7, Jvm.Cond.constantLong "ProgramSlices$Order" e.1 e.2 ∈ tb_W := fun _ h => absurd h List.not_mem_nil
def tb_s7 : List (Nat × Nat × Nat × Nat) := [(25, 24, 2, 0), (35, 67, 2, 0)]
theorem tb_s7_0 (cc : ByteArray) : sm_Cal tb_cl tb_N cc "ProgramSlices$Order" tb_W (.invokestatic 25) (tb_ys 24) (tb_ws 24) 2 (dp_rcO 0) := sm_cal_S (tb_GS tb_w555 tb_w291 tb_w292 tb_w293) ⟨by decide, by decide, by decide +kernel⟩ (by decide)
theorem tb_s7_1 (cc : ByteArray) : sm_Cal tb_cl tb_N cc "ProgramSlices$Order" tb_W (.invokestatic 35) (tb_ys 67) (tb_ws 67) 2 (dp_rcO 0) := sm_cal_SN (host := "ProgramSlices") (tb_G tb_w153) tb_w152 tb_w89 (tb_inn (i := 629) (by decide +kernel) rfl) ⟨by decide, by decide, by decide +kernel⟩ (by decide)
theorem tb_s7_ok : ∀ e ∈ tb_s7, ∀ cc, sm_Cal tb_cl tb_N cc "ProgramSlices$Order" tb_W (.invokestatic e.1) (tb_ys e.2.1) (tb_ws e.2.1) e.2.2.1 (dp_rcO e.2.2.2) := List.forall_mem_cons.mpr ⟨tb_s7_0, List.forall_mem_cons.mpr ⟨tb_s7_1, fun _ h => absurd h List.not_mem_nil⟩⟩
def tb_v7 : List (Nat × Nat × Nat × Nat) := [(31, 85, 3, 8), (38, 90, 1, 8), (42, 91, 1, 8), (49, 92, 2, 8), (45, 93, 1, 8)]
theorem tb_v7_0 (cc : ByteArray) : sm_Cal tb_cl tb_N cc "ProgramSlices$Order" tb_W (.invokevirtual 31) (tb_ys 85) (tb_ws 85) 3 (dp_rcO 8) := sm_cal_V (ci := 7) (N0 := 4) (T0 := tb_T7) rfl (tb_GV tb_w556 tb_w557 tb_w558 tb_w25 tb_w559) ⟨by decide, by decide, by decide +kernel⟩ (by decide)
theorem tb_v7_1 (cc : ByteArray) : sm_Cal tb_cl tb_N cc "ProgramSlices$Order" tb_W (.invokevirtual 38) (tb_ys 90) (tb_ws 90) 1 (dp_rcO 8) := sm_cal_V (ci := 7) (N0 := 4) (T0 := tb_T7) rfl (tb_GV tb_w560 tb_w561 tb_w562 tb_w25 tb_w563) ⟨by decide, by decide, by decide +kernel⟩ (by decide)
theorem tb_v7_2 (cc : ByteArray) : sm_Cal tb_cl tb_N cc "ProgramSlices$Order" tb_W (.invokevirtual 42) (tb_ys 91) (tb_ws 91) 1 (dp_rcO 8) := sm_cal_V (ci := 7) (N0 := 4) (T0 := tb_T7) rfl (tb_GV tb_w564 tb_w565 tb_w566 tb_w25 tb_w567) ⟨by decide, by decide, by decide +kernel⟩ (by decide)
theorem tb_v7_3 (cc : ByteArray) : sm_Cal tb_cl tb_N cc "ProgramSlices$Order" tb_W (.invokevirtual 49) (tb_ys 92) (tb_ws 92) 2 (dp_rcO 8) := sm_cal_V (ci := 7) (N0 := 4) (T0 := tb_T7) rfl (tb_GV tb_w568 tb_w569 tb_w570 tb_w25 tb_w571) ⟨by decide, by decide, by decide +kernel⟩ (by decide)
theorem tb_v7_4 (cc : ByteArray) : sm_Cal tb_cl tb_N cc "ProgramSlices$Order" tb_W (.invokevirtual 45) (tb_ys 93) (tb_ws 93) 1 (dp_rcO 8) := sm_cal_V (ci := 7) (N0 := 4) (T0 := tb_T7) rfl (tb_GV tb_w572 tb_w573 tb_w574 tb_w25 tb_w575) ⟨by decide, by decide, by decide +kernel⟩ (by decide)
theorem tb_v7_ok : ∀ e ∈ tb_v7, ∀ cc, sm_Cal tb_cl tb_N cc "ProgramSlices$Order" tb_W (.invokevirtual e.1) (tb_ys e.2.1) (tb_ws e.2.1) e.2.2.1 (dp_rcO e.2.2.2) := List.forall_mem_cons.mpr ⟨tb_v7_0, List.forall_mem_cons.mpr ⟨tb_v7_1, List.forall_mem_cons.mpr ⟨tb_v7_2, List.forall_mem_cons.mpr ⟨tb_v7_3, List.forall_mem_cons.mpr ⟨tb_v7_4, fun _ h => absurd h List.not_mem_nil⟩⟩⟩⟩⟩
def tb_i7 : List (Nat × Nat × Nat × Nat) := []
theorem tb_i7_ok : ∀ e ∈ tb_i7, ∀ cc, sm_Cal tb_cl tb_N cc "ProgramSlices$Order" tb_W (.invokespecial e.1) (tb_ys e.2.1) (tb_ws e.2.1) e.2.2.1 (dp_rcO e.2.2.2) := fun _ h => absurd h List.not_mem_nil
def tb_e7 : List (Nat × Nat × List (Option (Option Nat))) := []
theorem tb_e7_ok : ∀ e ∈ tb_e7, dp_nok tb_cl "ProgramSlices$Order" tb_W e.1 e.2 := fun _ h => absurd h List.not_mem_nil
def tb_K7 : dp_K := (dp_lk tb_f7, dp_lk tb_c7, dp_lk tb_l7, fun i => match i % 3 with
  | 0 => dp_lk tb_s7 (i / 3)
  | 1 => dp_lk tb_v7 (i / 3)
  | _ => dp_lk tb_i7 (i / 3), dp_lk tb_e7, 3)
theorem tb_K7_ok : dp_Kok tb_cl tb_N "ProgramSlices$Order" tb_W tb_ys tb_ws tb_K7 := by
  refine ⟨fun i F h => tb_f7_ok _ (dp_lk_mem h), fun i v h => tb_c7_ok _ (dp_lk_mem h), fun i v h => tb_l7_ok _ (dp_lk_mem h), fun i C h cc => ?_, fun i C h cc => ?_, fun i C h cc => ?_, fun i C h => tb_e7_ok _ (dp_lk_mem h), ⟨tb_w576, tb_w206, tb_w207⟩, tb_w208, tb_w209, tb_w210⟩
  · have h : dp_lk tb_s7 i = some C := by
      have e1 : 3 * i % 3 = 0 := by omega
      have e2 : 3 * i / 3 = i := by omega
      simpa [tb_K7, e1, e2] using h
    exact tb_s7_ok _ (dp_lk_mem h) cc
  · have h : dp_lk tb_v7 i = some C := by
      have e1 : (3 * i + 1) % 3 = 1 := by omega
      have e2 : (3 * i + 1) / 3 = i := by omega
      simpa [tb_K7, e1, e2] using h
    exact tb_v7_ok _ (dp_lk_mem h) cc
  · have h : dp_lk tb_i7 i = some C := by
      have e1 : (3 * i + 2) % 3 = 2 := by omega
      have e2 : (3 * i + 2) / 3 = i := by omega
      simpa [tb_K7, e1, e2] using h
    exact tb_i7_ok _ (dp_lk_mem h) cc
def tb_f8 : List (Nat × Nat × Nat × Nat) := [(43, 1, 0, 3), (64, 1, 1, 3), (70, 1, 2, 3), (23, 1, 4, 0), (15, 8, 0, 2), (19, 8, 1, 2), (9, 8, 2, 2)]
theorem tb_f8_0 : dp_fok tb_cl tb_N "ProgramSlices$Flows" tb_W 43 (1, 0, 3) := ⟨"ProgramSlices$Code", tb_T1, 14, tb_t1, rfl, by decide, tb_u1, tb_y1, tb_n1, Or.inl tb_w577, fun h => absurd h (by decide), fun h => absurd h (by decide), fun h => absurd h (by decide)⟩
theorem tb_f8_1 : dp_fok tb_cl tb_N "ProgramSlices$Flows" tb_W 64 (1, 1, 3) := ⟨"ProgramSlices$Code", tb_T1, 14, tb_t1, rfl, by decide, tb_u1, tb_y1, tb_n1, Or.inl tb_w578, fun h => absurd h (by decide), fun h => absurd h (by decide), fun h => absurd h (by decide)⟩
theorem tb_f8_2 : dp_fok tb_cl tb_N "ProgramSlices$Flows" tb_W 70 (1, 2, 3) := ⟨"ProgramSlices$Code", tb_T1, 14, tb_t1, rfl, by decide, tb_u1, tb_y1, tb_n1, Or.inl tb_w579, fun h => absurd h (by decide), fun h => absurd h (by decide), fun h => absurd h (by decide)⟩
theorem tb_f8_3 : dp_fok tb_cl tb_N "ProgramSlices$Flows" tb_W 23 (1, 4, 0) := ⟨"ProgramSlices$Code", tb_T1, 14, tb_t1, rfl, by decide, tb_u1, tb_y1, tb_n1, Or.inl tb_w580, fun _ => ⟨rfl, rfl⟩, fun h => absurd h (by decide), fun h => absurd h (by decide)⟩
theorem tb_f8_4 : dp_fok tb_cl tb_N "ProgramSlices$Flows" tb_W 15 (8, 0, 2) := ⟨"ProgramSlices$Flows", tb_T8, 3, tb_t8, rfl, by decide, tb_u8, tb_y8, tb_n8, Or.inl tb_w581, fun h => absurd h (by decide), fun h => absurd h (by decide), fun _ => ⟨rfl, rfl, tb_w581, fun _ => ⟨rfl, rfl⟩⟩⟩
theorem tb_f8_5 : dp_fok tb_cl tb_N "ProgramSlices$Flows" tb_W 19 (8, 1, 2) := ⟨"ProgramSlices$Flows", tb_T8, 3, tb_t8, rfl, by decide, tb_u8, tb_y8, tb_n8, Or.inl tb_w582, fun h => absurd h (by decide), fun h => absurd h (by decide), fun _ => ⟨rfl, rfl, tb_w582, fun _ => ⟨rfl, rfl⟩⟩⟩
theorem tb_f8_6 : dp_fok tb_cl tb_N "ProgramSlices$Flows" tb_W 9 (8, 2, 2) := ⟨"ProgramSlices$Flows", tb_T8, 3, tb_t8, rfl, by decide, tb_u8, tb_y8, tb_n8, Or.inl tb_w583, fun h => absurd h (by decide), fun h => absurd h (by decide), fun _ => ⟨rfl, rfl, tb_w583, fun _ => ⟨rfl, rfl⟩⟩⟩
theorem tb_f8_ok : ∀ e ∈ tb_f8, dp_fok tb_cl tb_N "ProgramSlices$Flows" tb_W e.1 e.2 := List.forall_mem_cons.mpr ⟨tb_f8_0, List.forall_mem_cons.mpr ⟨tb_f8_1, List.forall_mem_cons.mpr ⟨tb_f8_2, List.forall_mem_cons.mpr ⟨tb_f8_3, List.forall_mem_cons.mpr ⟨tb_f8_4, List.forall_mem_cons.mpr ⟨tb_f8_5, List.forall_mem_cons.mpr ⟨tb_f8_6, fun _ h => absurd h List.not_mem_nil⟩⟩⟩⟩⟩⟩⟩
def tb_c8 : List (Nat × Int32) := []
theorem tb_c8_ok : ∀ e ∈ tb_c8, Jvm.Cond.constant "ProgramSlices$Flows" e.1 e.2 ∈ tb_W := fun _ h => absurd h List.not_mem_nil
def tb_l8 : List (Nat × Int64) := []
theorem tb_l8_ok : ∀ e ∈ tb_l8, Jvm.Cond.constantLong "ProgramSlices$Flows" e.1 e.2 ∈ tb_W := fun _ h => absurd h List.not_mem_nil
def tb_s8 : List (Nat × Nat × Nat × Nat) := [(54, 67, 2, 0)]
theorem tb_s8_0 (cc : ByteArray) : sm_Cal tb_cl tb_N cc "ProgramSlices$Flows" tb_W (.invokestatic 54) (tb_ys 67) (tb_ws 67) 2 (dp_rcO 0) := sm_cal_SN (host := "ProgramSlices") (tb_G tb_w153) tb_w152 tb_w89 (tb_inn (i := 871) (by decide +kernel) rfl) ⟨by decide, by decide, by decide +kernel⟩ (by decide)
theorem tb_s8_ok : ∀ e ∈ tb_s8, ∀ cc, sm_Cal tb_cl tb_N cc "ProgramSlices$Flows" tb_W (.invokestatic e.1) (tb_ys e.2.1) (tb_ws e.2.1) e.2.2.1 (dp_rcO e.2.2.2) := List.forall_mem_cons.mpr ⟨tb_s8_0, fun _ h => absurd h List.not_mem_nil⟩
def tb_v8 : List (Nat × Nat × Nat × Nat) := [(29, 77, 2, 9), (33, 78, 3, 5), (39, 79, 2, 5), (46, 137, 2, 9), (58, 93, 1, 8), (67, 138, 2, 8), (73, 139, 2, 8), (76, 85, 3, 8)]
theorem tb_v8_0 (cc : ByteArray) : sm_Cal tb_cl tb_N cc "ProgramSlices$Flows" tb_W (.invokevirtual 29) (tb_ys 77) (tb_ws 77) 2 (dp_rcO 9) := sm_cal_V (ci := 8) (N0 := 3) (T0 := tb_T8) rfl (tb_GV tb_w584 tb_w585 tb_w586 tb_w29 tb_w587) ⟨by decide, by decide, by decide +kernel⟩ (by decide)
theorem tb_v8_1 (cc : ByteArray) : sm_Cal tb_cl tb_N cc "ProgramSlices$Flows" tb_W (.invokevirtual 33) (tb_ys 78) (tb_ws 78) 3 (dp_rcO 5) := sm_cal_V (ci := 4) (N0 := 5) (T0 := tb_T4) rfl (tb_GV tb_w588 tb_w120 tb_w121 tb_w17 tb_w122) ⟨by decide, by decide, by decide +kernel⟩ (by decide)
theorem tb_v8_2 (cc : ByteArray) : sm_Cal tb_cl tb_N cc "ProgramSlices$Flows" tb_W (.invokevirtual 39) (tb_ys 79) (tb_ws 79) 2 (dp_rcO 5) := sm_cal_V (ci := 4) (N0 := 5) (T0 := tb_T4) rfl (tb_GV tb_w589 tb_w590 tb_w591 tb_w17 tb_w592) ⟨by decide, by decide, by decide +kernel⟩ (by decide)
theorem tb_v8_3 (cc : ByteArray) : sm_Cal tb_cl tb_N cc "ProgramSlices$Flows" tb_W (.invokevirtual 46) (tb_ys 137) (tb_ws 137) 2 (dp_rcO 9) := sm_cal_V (ci := 8) (N0 := 3) (T0 := tb_T8) rfl (tb_GV tb_w593 tb_w594 tb_w595 tb_w29 tb_w596) ⟨by decide, by decide, by decide +kernel⟩ (by decide)
theorem tb_v8_4 (cc : ByteArray) : sm_Cal tb_cl tb_N cc "ProgramSlices$Flows" tb_W (.invokevirtual 58) (tb_ys 93) (tb_ws 93) 1 (dp_rcO 8) := sm_cal_V (ci := 7) (N0 := 4) (T0 := tb_T7) rfl (tb_GV tb_w597 tb_w573 tb_w574 tb_w25 tb_w575) ⟨by decide, by decide, by decide +kernel⟩ (by decide)
theorem tb_v8_5 (cc : ByteArray) : sm_Cal tb_cl tb_N cc "ProgramSlices$Flows" tb_W (.invokevirtual 67) (tb_ys 138) (tb_ws 138) 2 (dp_rcO 8) := sm_cal_V (ci := 7) (N0 := 4) (T0 := tb_T7) rfl (tb_GV tb_w598 tb_w599 tb_w600 tb_w25 tb_w601) ⟨by decide, by decide, by decide +kernel⟩ (by decide)
theorem tb_v8_6 (cc : ByteArray) : sm_Cal tb_cl tb_N cc "ProgramSlices$Flows" tb_W (.invokevirtual 73) (tb_ys 139) (tb_ws 139) 2 (dp_rcO 8) := sm_cal_V (ci := 7) (N0 := 4) (T0 := tb_T7) rfl (tb_GV tb_w602 tb_w603 tb_w604 tb_w25 tb_w605) ⟨by decide, by decide, by decide +kernel⟩ (by decide)
theorem tb_v8_7 (cc : ByteArray) : sm_Cal tb_cl tb_N cc "ProgramSlices$Flows" tb_W (.invokevirtual 76) (tb_ys 85) (tb_ws 85) 3 (dp_rcO 8) := sm_cal_V (ci := 7) (N0 := 4) (T0 := tb_T7) rfl (tb_GV tb_w606 tb_w557 tb_w558 tb_w25 tb_w559) ⟨by decide, by decide, by decide +kernel⟩ (by decide)
theorem tb_v8_ok : ∀ e ∈ tb_v8, ∀ cc, sm_Cal tb_cl tb_N cc "ProgramSlices$Flows" tb_W (.invokevirtual e.1) (tb_ys e.2.1) (tb_ws e.2.1) e.2.2.1 (dp_rcO e.2.2.2) := List.forall_mem_cons.mpr ⟨tb_v8_0, List.forall_mem_cons.mpr ⟨tb_v8_1, List.forall_mem_cons.mpr ⟨tb_v8_2, List.forall_mem_cons.mpr ⟨tb_v8_3, List.forall_mem_cons.mpr ⟨tb_v8_4, List.forall_mem_cons.mpr ⟨tb_v8_5, List.forall_mem_cons.mpr ⟨tb_v8_6, List.forall_mem_cons.mpr ⟨tb_v8_7, fun _ h => absurd h List.not_mem_nil⟩⟩⟩⟩⟩⟩⟩⟩
def tb_i8 : List (Nat × Nat × Nat × Nat) := []
theorem tb_i8_ok : ∀ e ∈ tb_i8, ∀ cc, sm_Cal tb_cl tb_N cc "ProgramSlices$Flows" tb_W (.invokespecial e.1) (tb_ys e.2.1) (tb_ws e.2.1) e.2.2.1 (dp_rcO e.2.2.2) := fun _ h => absurd h List.not_mem_nil
def tb_e8 : List (Nat × Nat × List (Option (Option Nat))) := []
theorem tb_e8_ok : ∀ e ∈ tb_e8, dp_nok tb_cl "ProgramSlices$Flows" tb_W e.1 e.2 := fun _ h => absurd h List.not_mem_nil
def tb_K8 : dp_K := (dp_lk tb_f8, dp_lk tb_c8, dp_lk tb_l8, fun i => match i % 3 with
  | 0 => dp_lk tb_s8 (i / 3)
  | 1 => dp_lk tb_v8 (i / 3)
  | _ => dp_lk tb_i8 (i / 3), dp_lk tb_e8, 3)
theorem tb_K8_ok : dp_Kok tb_cl tb_N "ProgramSlices$Flows" tb_W tb_ys tb_ws tb_K8 := by
  refine ⟨fun i F h => tb_f8_ok _ (dp_lk_mem h), fun i v h => tb_c8_ok _ (dp_lk_mem h), fun i v h => tb_l8_ok _ (dp_lk_mem h), fun i C h cc => ?_, fun i C h cc => ?_, fun i C h cc => ?_, fun i C h => tb_e8_ok _ (dp_lk_mem h), ⟨tb_w607, tb_w206, tb_w207⟩, tb_w208, tb_w209, tb_w210⟩
  · have h : dp_lk tb_s8 i = some C := by
      have e1 : 3 * i % 3 = 0 := by omega
      have e2 : 3 * i / 3 = i := by omega
      simpa [tb_K8, e1, e2] using h
    exact tb_s8_ok _ (dp_lk_mem h) cc
  · have h : dp_lk tb_v8 i = some C := by
      have e1 : (3 * i + 1) % 3 = 1 := by omega
      have e2 : (3 * i + 1) / 3 = i := by omega
      simpa [tb_K8, e1, e2] using h
    exact tb_v8_ok _ (dp_lk_mem h) cc
  · have h : dp_lk tb_i8 i = some C := by
      have e1 : (3 * i + 2) % 3 = 2 := by omega
      have e2 : (3 * i + 2) / 3 = i := by omega
      simpa [tb_K8, e1, e2] using h
    exact tb_i8_ok _ (dp_lk_mem h) cc
def tb_f9 : List (Nat × Nat × Nat × Nat) := [(42, 1, 4, 0), (9, 9, 0, 2), (15, 9, 1, 1), (29, 9, 2, 1), (32, 9, 3, 0)]
theorem tb_f9_0 : dp_fok tb_cl tb_N "ProgramSlices$Slice" tb_W 42 (1, 4, 0) := ⟨"ProgramSlices$Code", tb_T1, 14, tb_t1, rfl, by decide, tb_u1, tb_y1, tb_n1, Or.inl tb_w608, fun _ => ⟨rfl, rfl⟩, fun h => absurd h (by decide), fun h => absurd h (by decide)⟩
theorem tb_f9_1 : dp_fok tb_cl tb_N "ProgramSlices$Slice" tb_W 9 (9, 0, 2) := ⟨"ProgramSlices$Slice", tb_T9, 4, tb_t9, rfl, by decide, tb_u9, tb_y9, tb_n9, Or.inl tb_w609, fun h => absurd h (by decide), fun h => absurd h (by decide), fun _ => ⟨rfl, rfl, tb_w609, fun _ => ⟨rfl, rfl⟩⟩⟩
theorem tb_f9_2 : dp_fok tb_cl tb_N "ProgramSlices$Slice" tb_W 15 (9, 1, 1) := ⟨"ProgramSlices$Slice", tb_T9, 4, tb_t9, rfl, by decide, tb_u9, tb_y9, tb_n9, Or.inl tb_w610, fun h => absurd h (by decide), fun _ => ⟨rfl, rfl⟩, fun h => absurd h (by decide)⟩
theorem tb_f9_3 : dp_fok tb_cl tb_N "ProgramSlices$Slice" tb_W 29 (9, 2, 1) := ⟨"ProgramSlices$Slice", tb_T9, 4, tb_t9, rfl, by decide, tb_u9, tb_y9, tb_n9, Or.inl tb_w611, fun h => absurd h (by decide), fun _ => ⟨rfl, rfl⟩, fun h => absurd h (by decide)⟩
theorem tb_f9_4 : dp_fok tb_cl tb_N "ProgramSlices$Slice" tb_W 32 (9, 3, 0) := ⟨"ProgramSlices$Slice", tb_T9, 4, tb_t9, rfl, by decide, tb_u9, tb_y9, tb_n9, Or.inl tb_w612, fun _ => ⟨rfl, rfl⟩, fun h => absurd h (by decide), fun h => absurd h (by decide)⟩
theorem tb_f9_ok : ∀ e ∈ tb_f9, dp_fok tb_cl tb_N "ProgramSlices$Slice" tb_W e.1 e.2 := List.forall_mem_cons.mpr ⟨tb_f9_0, List.forall_mem_cons.mpr ⟨tb_f9_1, List.forall_mem_cons.mpr ⟨tb_f9_2, List.forall_mem_cons.mpr ⟨tb_f9_3, List.forall_mem_cons.mpr ⟨tb_f9_4, fun _ h => absurd h List.not_mem_nil⟩⟩⟩⟩⟩
def tb_c9 : List (Nat × Int32) := []
theorem tb_c9_ok : ∀ e ∈ tb_c9, Jvm.Cond.constant "ProgramSlices$Slice" e.1 e.2 ∈ tb_W := fun _ h => absurd h List.not_mem_nil
def tb_l9 : List (Nat × Int64) := []
theorem tb_l9_ok : ∀ e ∈ tb_l9, Jvm.Cond.constantLong "ProgramSlices$Slice" e.1 e.2 ∈ tb_W := fun _ h => absurd h List.not_mem_nil
def tb_s9 : List (Nat × Nat × Nat × Nat) := [(19, 24, 2, 0), (72, 67, 2, 0), (62, 50, 2, 0)]
theorem tb_s9_0 (cc : ByteArray) : sm_Cal tb_cl tb_N cc "ProgramSlices$Slice" tb_W (.invokestatic 19) (tb_ys 24) (tb_ws 24) 2 (dp_rcO 0) := sm_cal_S (tb_GS tb_w613 tb_w291 tb_w292 tb_w293) ⟨by decide, by decide, by decide +kernel⟩ (by decide)
theorem tb_s9_1 (cc : ByteArray) : sm_Cal tb_cl tb_N cc "ProgramSlices$Slice" tb_W (.invokestatic 72) (tb_ys 67) (tb_ws 67) 2 (dp_rcO 0) := sm_cal_SN (host := "ProgramSlices") (tb_G tb_w153) tb_w152 tb_w89 (tb_inn (i := 726) (by decide +kernel) rfl) ⟨by decide, by decide, by decide +kernel⟩ (by decide)
theorem tb_s9_2 (cc : ByteArray) : sm_Cal tb_cl tb_N cc "ProgramSlices$Slice" tb_W (.invokestatic 62) (tb_ys 50) (tb_ws 50) 2 (dp_rcO 0) := sm_cal_SN (host := "ProgramSlices") (tb_G tb_w311) tb_w312 tb_w89 (tb_inn (i := 727) (by decide +kernel) rfl) ⟨by decide, by decide, by decide +kernel⟩ (by decide)
theorem tb_s9_ok : ∀ e ∈ tb_s9, ∀ cc, sm_Cal tb_cl tb_N cc "ProgramSlices$Slice" tb_W (.invokestatic e.1) (tb_ys e.2.1) (tb_ws e.2.1) e.2.2.1 (dp_rcO e.2.2.2) := List.forall_mem_cons.mpr ⟨tb_s9_0, List.forall_mem_cons.mpr ⟨tb_s9_1, List.forall_mem_cons.mpr ⟨tb_s9_2, fun _ h => absurd h List.not_mem_nil⟩⟩⟩
def tb_v9 : List (Nat × Nat × Nat × Nat) := [(25, 99, 2, 10), (76, 79, 2, 5), (47, 33, 2, 2), (51, 34, 2, 2), (54, 104, 4, 10), (58, 105, 4, 10), (66, 78, 3, 5)]
theorem tb_v9_0 (cc : ByteArray) : sm_Cal tb_cl tb_N cc "ProgramSlices$Slice" tb_W (.invokevirtual 25) (tb_ys 99) (tb_ws 99) 2 (dp_rcO 10) := sm_cal_V (ci := 9) (N0 := 4) (T0 := tb_T9) rfl (tb_GV tb_w614 tb_w615 tb_w616 tb_w33 tb_w617) ⟨by decide, by decide, by decide +kernel⟩ (by decide)
theorem tb_v9_1 (cc : ByteArray) : sm_Cal tb_cl tb_N cc "ProgramSlices$Slice" tb_W (.invokevirtual 76) (tb_ys 79) (tb_ws 79) 2 (dp_rcO 5) := sm_cal_V (ci := 4) (N0 := 5) (T0 := tb_T4) rfl (tb_GV tb_w618 tb_w590 tb_w591 tb_w17 tb_w592) ⟨by decide, by decide, by decide +kernel⟩ (by decide)
theorem tb_v9_2 (cc : ByteArray) : sm_Cal tb_cl tb_N cc "ProgramSlices$Slice" tb_W (.invokevirtual 47) (tb_ys 33) (tb_ws 33) 2 (dp_rcO 2) := sm_cal_V (ci := 1) (N0 := 14) (T0 := tb_T1) rfl (tb_GV tb_w619 tb_w108 tb_w109 tb_w10 tb_w110) ⟨by decide, by decide, by decide +kernel⟩ (by decide)
theorem tb_v9_3 (cc : ByteArray) : sm_Cal tb_cl tb_N cc "ProgramSlices$Slice" tb_W (.invokevirtual 51) (tb_ys 34) (tb_ws 34) 2 (dp_rcO 2) := sm_cal_V (ci := 1) (N0 := 14) (T0 := tb_T1) rfl (tb_GV tb_w620 tb_w112 tb_w113 tb_w10 tb_w114) ⟨by decide, by decide, by decide +kernel⟩ (by decide)
theorem tb_v9_4 (cc : ByteArray) : sm_Cal tb_cl tb_N cc "ProgramSlices$Slice" tb_W (.invokevirtual 54) (tb_ys 104) (tb_ws 104) 4 (dp_rcO 10) := sm_cal_V (ci := 9) (N0 := 4) (T0 := tb_T9) rfl (tb_GV tb_w621 tb_w622 tb_w623 tb_w33 tb_w624) ⟨by decide, by decide, by decide +kernel⟩ (by decide)
theorem tb_v9_5 (cc : ByteArray) : sm_Cal tb_cl tb_N cc "ProgramSlices$Slice" tb_W (.invokevirtual 58) (tb_ys 105) (tb_ws 105) 4 (dp_rcO 10) := sm_cal_V (ci := 9) (N0 := 4) (T0 := tb_T9) rfl (tb_GV tb_w625 tb_w626 tb_w627 tb_w33 tb_w628) ⟨by decide, by decide, by decide +kernel⟩ (by decide)
theorem tb_v9_6 (cc : ByteArray) : sm_Cal tb_cl tb_N cc "ProgramSlices$Slice" tb_W (.invokevirtual 66) (tb_ys 78) (tb_ws 78) 3 (dp_rcO 5) := sm_cal_V (ci := 4) (N0 := 5) (T0 := tb_T4) rfl (tb_GV tb_w629 tb_w120 tb_w121 tb_w17 tb_w122) ⟨by decide, by decide, by decide +kernel⟩ (by decide)
theorem tb_v9_ok : ∀ e ∈ tb_v9, ∀ cc, sm_Cal tb_cl tb_N cc "ProgramSlices$Slice" tb_W (.invokevirtual e.1) (tb_ys e.2.1) (tb_ws e.2.1) e.2.2.1 (dp_rcO e.2.2.2) := List.forall_mem_cons.mpr ⟨tb_v9_0, List.forall_mem_cons.mpr ⟨tb_v9_1, List.forall_mem_cons.mpr ⟨tb_v9_2, List.forall_mem_cons.mpr ⟨tb_v9_3, List.forall_mem_cons.mpr ⟨tb_v9_4, List.forall_mem_cons.mpr ⟨tb_v9_5, List.forall_mem_cons.mpr ⟨tb_v9_6, fun _ h => absurd h List.not_mem_nil⟩⟩⟩⟩⟩⟩⟩
def tb_i9 : List (Nat × Nat × Nat × Nat) := []
theorem tb_i9_ok : ∀ e ∈ tb_i9, ∀ cc, sm_Cal tb_cl tb_N cc "ProgramSlices$Slice" tb_W (.invokespecial e.1) (tb_ys e.2.1) (tb_ws e.2.1) e.2.2.1 (dp_rcO e.2.2.2) := fun _ h => absurd h List.not_mem_nil
def tb_e9 : List (Nat × Nat × List (Option (Option Nat))) := []
theorem tb_e9_ok : ∀ e ∈ tb_e9, dp_nok tb_cl "ProgramSlices$Slice" tb_W e.1 e.2 := fun _ h => absurd h List.not_mem_nil
def tb_K9 : dp_K := (dp_lk tb_f9, dp_lk tb_c9, dp_lk tb_l9, fun i => match i % 3 with
  | 0 => dp_lk tb_s9 (i / 3)
  | 1 => dp_lk tb_v9 (i / 3)
  | _ => dp_lk tb_i9 (i / 3), dp_lk tb_e9, 3)
theorem tb_K9_ok : dp_Kok tb_cl tb_N "ProgramSlices$Slice" tb_W tb_ys tb_ws tb_K9 := by
  refine ⟨fun i F h => tb_f9_ok _ (dp_lk_mem h), fun i v h => tb_c9_ok _ (dp_lk_mem h), fun i v h => tb_l9_ok _ (dp_lk_mem h), fun i C h cc => ?_, fun i C h cc => ?_, fun i C h cc => ?_, fun i C h => tb_e9_ok _ (dp_lk_mem h), ⟨tb_w630, tb_w206, tb_w207⟩, tb_w208, tb_w209, tb_w210⟩
  · have h : dp_lk tb_s9 i = some C := by
      have e1 : 3 * i % 3 = 0 := by omega
      have e2 : 3 * i / 3 = i := by omega
      simpa [tb_K9, e1, e2] using h
    exact tb_s9_ok _ (dp_lk_mem h) cc
  · have h : dp_lk tb_v9 i = some C := by
      have e1 : (3 * i + 1) % 3 = 1 := by omega
      have e2 : (3 * i + 1) / 3 = i := by omega
      simpa [tb_K9, e1, e2] using h
    exact tb_v9_ok _ (dp_lk_mem h) cc
  · have h : dp_lk tb_i9 i = some C := by
      have e1 : (3 * i + 2) % 3 = 2 := by omega
      have e2 : (3 * i + 2) / 3 = i := by omega
      simpa [tb_K9, e1, e2] using h
    exact tb_i9_ok _ (dp_lk_mem h) cc
def tb_f11 : List (Nat × Nat × Nat × Nat) := [(104, 10, 0, 0), (7, 10, 1, 2), (13, 10, 2, 2), (16, 10, 3, 2), (19, 10, 4, 2), (100, 10, 5, 1), (117, 10, 6, 0), (22, 10, 7, 2), (25, 10, 8, 2), (28, 10, 9, 2), (31, 10, 10, 2), (34, 10, 11, 2), (37, 10, 12, 2), (40, 10, 13, 2), (43, 10, 14, 2), (46, 10, 15, 2), (50, 10, 16, 2), (53, 10, 17, 2), (56, 10, 18, 2), (59, 10, 19, 2), (111, 10, 20, 0), (217, 10, 21, 0), (62, 10, 22, 2), (65, 10, 23, 2), (114, 10, 24, 1), (227, 10, 25, 0), (230, 10, 26, 0), (68, 10, 27, 2), (71, 10, 28, 2), (74, 10, 29, 2), (233, 10, 30, 0), (77, 10, 31, 2), (80, 10, 32, 2), (83, 10, 33, 2), (86, 10, 34, 0), (90, 10, 35, 2), (94, 10, 36, 2), (97, 10, 37, 2)]
theorem tb_f11_0 : dp_fok tb_cl tb_N "ProgramSlicesModel" tb_W 104 (10, 0, 0) := ⟨"ProgramSlicesModel", tb_T10, 38, tb_t10, rfl, by decide, tb_u10, tb_y10, tb_n10, Or.inl tb_w631, fun _ => ⟨rfl, rfl⟩, fun h => absurd h (by decide), fun h => absurd h (by decide)⟩
theorem tb_f11_1 : dp_fok tb_cl tb_N "ProgramSlicesModel" tb_W 7 (10, 1, 2) := ⟨"ProgramSlicesModel", tb_T10, 38, tb_t10, rfl, by decide, tb_u10, tb_y10, tb_n10, Or.inl tb_w632, fun h => absurd h (by decide), fun h => absurd h (by decide), fun _ => ⟨rfl, rfl, tb_w632, fun _ => ⟨rfl, rfl⟩⟩⟩
theorem tb_f11_2 : dp_fok tb_cl tb_N "ProgramSlicesModel" tb_W 13 (10, 2, 2) := ⟨"ProgramSlicesModel", tb_T10, 38, tb_t10, rfl, by decide, tb_u10, tb_y10, tb_n10, Or.inl tb_w633, fun h => absurd h (by decide), fun h => absurd h (by decide), fun _ => ⟨rfl, rfl, tb_w633, fun _ => ⟨rfl, rfl⟩⟩⟩
theorem tb_f11_3 : dp_fok tb_cl tb_N "ProgramSlicesModel" tb_W 16 (10, 3, 2) := ⟨"ProgramSlicesModel", tb_T10, 38, tb_t10, rfl, by decide, tb_u10, tb_y10, tb_n10, Or.inl tb_w634, fun h => absurd h (by decide), fun h => absurd h (by decide), fun _ => ⟨rfl, rfl, tb_w634, fun _ => ⟨rfl, rfl⟩⟩⟩
theorem tb_f11_4 : dp_fok tb_cl tb_N "ProgramSlicesModel" tb_W 19 (10, 4, 2) := ⟨"ProgramSlicesModel", tb_T10, 38, tb_t10, rfl, by decide, tb_u10, tb_y10, tb_n10, Or.inl tb_w635, fun h => absurd h (by decide), fun h => absurd h (by decide), fun _ => ⟨rfl, rfl, tb_w635, fun _ => ⟨rfl, rfl⟩⟩⟩
theorem tb_f11_5 : dp_fok tb_cl tb_N "ProgramSlicesModel" tb_W 100 (10, 5, 1) := ⟨"ProgramSlicesModel", tb_T10, 38, tb_t10, rfl, by decide, tb_u10, tb_y10, tb_n10, Or.inl tb_w636, fun h => absurd h (by decide), fun _ => ⟨rfl, rfl⟩, fun h => absurd h (by decide)⟩
theorem tb_f11_6 : dp_fok tb_cl tb_N "ProgramSlicesModel" tb_W 117 (10, 6, 0) := ⟨"ProgramSlicesModel", tb_T10, 38, tb_t10, rfl, by decide, tb_u10, tb_y10, tb_n10, Or.inl tb_w637, fun _ => ⟨rfl, rfl⟩, fun h => absurd h (by decide), fun h => absurd h (by decide)⟩
theorem tb_f11_7 : dp_fok tb_cl tb_N "ProgramSlicesModel" tb_W 22 (10, 7, 2) := ⟨"ProgramSlicesModel", tb_T10, 38, tb_t10, rfl, by decide, tb_u10, tb_y10, tb_n10, Or.inl tb_w638, fun h => absurd h (by decide), fun h => absurd h (by decide), fun _ => ⟨rfl, rfl, tb_w638, fun _ => ⟨rfl, rfl⟩⟩⟩
theorem tb_f11_8 : dp_fok tb_cl tb_N "ProgramSlicesModel" tb_W 25 (10, 8, 2) := ⟨"ProgramSlicesModel", tb_T10, 38, tb_t10, rfl, by decide, tb_u10, tb_y10, tb_n10, Or.inl tb_w639, fun h => absurd h (by decide), fun h => absurd h (by decide), fun _ => ⟨rfl, rfl, tb_w639, fun _ => ⟨rfl, rfl⟩⟩⟩
theorem tb_f11_9 : dp_fok tb_cl tb_N "ProgramSlicesModel" tb_W 28 (10, 9, 2) := ⟨"ProgramSlicesModel", tb_T10, 38, tb_t10, rfl, by decide, tb_u10, tb_y10, tb_n10, Or.inl tb_w640, fun h => absurd h (by decide), fun h => absurd h (by decide), fun _ => ⟨rfl, rfl, tb_w640, fun _ => ⟨rfl, rfl⟩⟩⟩
theorem tb_f11_10 : dp_fok tb_cl tb_N "ProgramSlicesModel" tb_W 31 (10, 10, 2) := ⟨"ProgramSlicesModel", tb_T10, 38, tb_t10, rfl, by decide, tb_u10, tb_y10, tb_n10, Or.inl tb_w641, fun h => absurd h (by decide), fun h => absurd h (by decide), fun _ => ⟨rfl, rfl, tb_w641, fun _ => ⟨rfl, rfl⟩⟩⟩
theorem tb_f11_11 : dp_fok tb_cl tb_N "ProgramSlicesModel" tb_W 34 (10, 11, 2) := ⟨"ProgramSlicesModel", tb_T10, 38, tb_t10, rfl, by decide, tb_u10, tb_y10, tb_n10, Or.inl tb_w642, fun h => absurd h (by decide), fun h => absurd h (by decide), fun _ => ⟨rfl, rfl, tb_w642, fun _ => ⟨rfl, rfl⟩⟩⟩
theorem tb_f11_12 : dp_fok tb_cl tb_N "ProgramSlicesModel" tb_W 37 (10, 12, 2) := ⟨"ProgramSlicesModel", tb_T10, 38, tb_t10, rfl, by decide, tb_u10, tb_y10, tb_n10, Or.inl tb_w643, fun h => absurd h (by decide), fun h => absurd h (by decide), fun _ => ⟨rfl, rfl, tb_w643, fun _ => ⟨rfl, rfl⟩⟩⟩
theorem tb_f11_13 : dp_fok tb_cl tb_N "ProgramSlicesModel" tb_W 40 (10, 13, 2) := ⟨"ProgramSlicesModel", tb_T10, 38, tb_t10, rfl, by decide, tb_u10, tb_y10, tb_n10, Or.inl tb_w644, fun h => absurd h (by decide), fun h => absurd h (by decide), fun _ => ⟨rfl, rfl, tb_w644, fun _ => ⟨rfl, rfl⟩⟩⟩
theorem tb_f11_14 : dp_fok tb_cl tb_N "ProgramSlicesModel" tb_W 43 (10, 14, 2) := ⟨"ProgramSlicesModel", tb_T10, 38, tb_t10, rfl, by decide, tb_u10, tb_y10, tb_n10, Or.inl tb_w645, fun h => absurd h (by decide), fun h => absurd h (by decide), fun _ => ⟨rfl, rfl, tb_w645, fun _ => ⟨rfl, rfl⟩⟩⟩
theorem tb_f11_15 : dp_fok tb_cl tb_N "ProgramSlicesModel" tb_W 46 (10, 15, 2) := ⟨"ProgramSlicesModel", tb_T10, 38, tb_t10, rfl, by decide, tb_u10, tb_y10, tb_n10, Or.inl tb_w646, fun h => absurd h (by decide), fun h => absurd h (by decide), fun _ => ⟨rfl, rfl, tb_w646, fun _ => ⟨rfl, rfl⟩⟩⟩
theorem tb_f11_16 : dp_fok tb_cl tb_N "ProgramSlicesModel" tb_W 50 (10, 16, 2) := ⟨"ProgramSlicesModel", tb_T10, 38, tb_t10, rfl, by decide, tb_u10, tb_y10, tb_n10, Or.inl tb_w647, fun h => absurd h (by decide), fun h => absurd h (by decide), fun _ => ⟨rfl, rfl, tb_w647, fun _ => ⟨rfl, rfl⟩⟩⟩
theorem tb_f11_17 : dp_fok tb_cl tb_N "ProgramSlicesModel" tb_W 53 (10, 17, 2) := ⟨"ProgramSlicesModel", tb_T10, 38, tb_t10, rfl, by decide, tb_u10, tb_y10, tb_n10, Or.inl tb_w648, fun h => absurd h (by decide), fun h => absurd h (by decide), fun _ => ⟨rfl, rfl, tb_w648, fun _ => ⟨rfl, rfl⟩⟩⟩
theorem tb_f11_18 : dp_fok tb_cl tb_N "ProgramSlicesModel" tb_W 56 (10, 18, 2) := ⟨"ProgramSlicesModel", tb_T10, 38, tb_t10, rfl, by decide, tb_u10, tb_y10, tb_n10, Or.inl tb_w649, fun h => absurd h (by decide), fun h => absurd h (by decide), fun _ => ⟨rfl, rfl, tb_w649, fun _ => ⟨rfl, rfl⟩⟩⟩
theorem tb_f11_19 : dp_fok tb_cl tb_N "ProgramSlicesModel" tb_W 59 (10, 19, 2) := ⟨"ProgramSlicesModel", tb_T10, 38, tb_t10, rfl, by decide, tb_u10, tb_y10, tb_n10, Or.inl tb_w650, fun h => absurd h (by decide), fun h => absurd h (by decide), fun _ => ⟨rfl, rfl, tb_w650, fun _ => ⟨rfl, rfl⟩⟩⟩
theorem tb_f11_20 : dp_fok tb_cl tb_N "ProgramSlicesModel" tb_W 111 (10, 20, 0) := ⟨"ProgramSlicesModel", tb_T10, 38, tb_t10, rfl, by decide, tb_u10, tb_y10, tb_n10, Or.inl tb_w651, fun _ => ⟨rfl, rfl⟩, fun h => absurd h (by decide), fun h => absurd h (by decide)⟩
theorem tb_f11_21 : dp_fok tb_cl tb_N "ProgramSlicesModel" tb_W 217 (10, 21, 0) := ⟨"ProgramSlicesModel", tb_T10, 38, tb_t10, rfl, by decide, tb_u10, tb_y10, tb_n10, Or.inl tb_w652, fun _ => ⟨rfl, rfl⟩, fun h => absurd h (by decide), fun h => absurd h (by decide)⟩
theorem tb_f11_22 : dp_fok tb_cl tb_N "ProgramSlicesModel" tb_W 62 (10, 22, 2) := ⟨"ProgramSlicesModel", tb_T10, 38, tb_t10, rfl, by decide, tb_u10, tb_y10, tb_n10, Or.inl tb_w653, fun h => absurd h (by decide), fun h => absurd h (by decide), fun _ => ⟨rfl, rfl, tb_w653, fun _ => ⟨rfl, rfl⟩⟩⟩
theorem tb_f11_23 : dp_fok tb_cl tb_N "ProgramSlicesModel" tb_W 65 (10, 23, 2) := ⟨"ProgramSlicesModel", tb_T10, 38, tb_t10, rfl, by decide, tb_u10, tb_y10, tb_n10, Or.inl tb_w654, fun h => absurd h (by decide), fun h => absurd h (by decide), fun _ => ⟨rfl, rfl, tb_w654, fun _ => ⟨rfl, rfl⟩⟩⟩
theorem tb_f11_24 : dp_fok tb_cl tb_N "ProgramSlicesModel" tb_W 114 (10, 24, 1) := ⟨"ProgramSlicesModel", tb_T10, 38, tb_t10, rfl, by decide, tb_u10, tb_y10, tb_n10, Or.inl tb_w655, fun h => absurd h (by decide), fun _ => ⟨rfl, rfl⟩, fun h => absurd h (by decide)⟩
theorem tb_f11_25 : dp_fok tb_cl tb_N "ProgramSlicesModel" tb_W 227 (10, 25, 0) := ⟨"ProgramSlicesModel", tb_T10, 38, tb_t10, rfl, by decide, tb_u10, tb_y10, tb_n10, Or.inl tb_w656, fun _ => ⟨rfl, rfl⟩, fun h => absurd h (by decide), fun h => absurd h (by decide)⟩
theorem tb_f11_26 : dp_fok tb_cl tb_N "ProgramSlicesModel" tb_W 230 (10, 26, 0) := ⟨"ProgramSlicesModel", tb_T10, 38, tb_t10, rfl, by decide, tb_u10, tb_y10, tb_n10, Or.inl tb_w657, fun _ => ⟨rfl, rfl⟩, fun h => absurd h (by decide), fun h => absurd h (by decide)⟩
theorem tb_f11_27 : dp_fok tb_cl tb_N "ProgramSlicesModel" tb_W 68 (10, 27, 2) := ⟨"ProgramSlicesModel", tb_T10, 38, tb_t10, rfl, by decide, tb_u10, tb_y10, tb_n10, Or.inl tb_w658, fun h => absurd h (by decide), fun h => absurd h (by decide), fun _ => ⟨rfl, rfl, tb_w658, fun _ => ⟨rfl, rfl⟩⟩⟩
theorem tb_f11_28 : dp_fok tb_cl tb_N "ProgramSlicesModel" tb_W 71 (10, 28, 2) := ⟨"ProgramSlicesModel", tb_T10, 38, tb_t10, rfl, by decide, tb_u10, tb_y10, tb_n10, Or.inl tb_w659, fun h => absurd h (by decide), fun h => absurd h (by decide), fun _ => ⟨rfl, rfl, tb_w659, fun _ => ⟨rfl, rfl⟩⟩⟩
theorem tb_f11_29 : dp_fok tb_cl tb_N "ProgramSlicesModel" tb_W 74 (10, 29, 2) := ⟨"ProgramSlicesModel", tb_T10, 38, tb_t10, rfl, by decide, tb_u10, tb_y10, tb_n10, Or.inl tb_w660, fun h => absurd h (by decide), fun h => absurd h (by decide), fun _ => ⟨rfl, rfl, tb_w660, fun _ => ⟨rfl, rfl⟩⟩⟩
theorem tb_f11_30 : dp_fok tb_cl tb_N "ProgramSlicesModel" tb_W 233 (10, 30, 0) := ⟨"ProgramSlicesModel", tb_T10, 38, tb_t10, rfl, by decide, tb_u10, tb_y10, tb_n10, Or.inl tb_w661, fun _ => ⟨rfl, rfl⟩, fun h => absurd h (by decide), fun h => absurd h (by decide)⟩
theorem tb_f11_31 : dp_fok tb_cl tb_N "ProgramSlicesModel" tb_W 77 (10, 31, 2) := ⟨"ProgramSlicesModel", tb_T10, 38, tb_t10, rfl, by decide, tb_u10, tb_y10, tb_n10, Or.inl tb_w662, fun h => absurd h (by decide), fun h => absurd h (by decide), fun _ => ⟨rfl, rfl, tb_w662, fun _ => ⟨rfl, rfl⟩⟩⟩
theorem tb_f11_32 : dp_fok tb_cl tb_N "ProgramSlicesModel" tb_W 80 (10, 32, 2) := ⟨"ProgramSlicesModel", tb_T10, 38, tb_t10, rfl, by decide, tb_u10, tb_y10, tb_n10, Or.inl tb_w663, fun h => absurd h (by decide), fun h => absurd h (by decide), fun _ => ⟨rfl, rfl, tb_w663, fun _ => ⟨rfl, rfl⟩⟩⟩
theorem tb_f11_33 : dp_fok tb_cl tb_N "ProgramSlicesModel" tb_W 83 (10, 33, 2) := ⟨"ProgramSlicesModel", tb_T10, 38, tb_t10, rfl, by decide, tb_u10, tb_y10, tb_n10, Or.inl tb_w664, fun h => absurd h (by decide), fun h => absurd h (by decide), fun _ => ⟨rfl, rfl, tb_w664, fun _ => ⟨rfl, rfl⟩⟩⟩
theorem tb_f11_34 : dp_fok tb_cl tb_N "ProgramSlicesModel" tb_W 86 (10, 34, 0) := ⟨"ProgramSlicesModel", tb_T10, 38, tb_t10, rfl, by decide, tb_u10, tb_y10, tb_n10, Or.inl tb_w665, fun _ => ⟨rfl, rfl⟩, fun h => absurd h (by decide), fun h => absurd h (by decide)⟩
theorem tb_f11_35 : dp_fok tb_cl tb_N "ProgramSlicesModel" tb_W 90 (10, 35, 2) := ⟨"ProgramSlicesModel", tb_T10, 38, tb_t10, rfl, by decide, tb_u10, tb_y10, tb_n10, Or.inl tb_w666, fun h => absurd h (by decide), fun h => absurd h (by decide), fun _ => ⟨rfl, rfl, tb_w666, fun _ => ⟨rfl, rfl⟩⟩⟩
theorem tb_f11_36 : dp_fok tb_cl tb_N "ProgramSlicesModel" tb_W 94 (10, 36, 2) := ⟨"ProgramSlicesModel", tb_T10, 38, tb_t10, rfl, by decide, tb_u10, tb_y10, tb_n10, Or.inl tb_w667, fun h => absurd h (by decide), fun h => absurd h (by decide), fun _ => ⟨rfl, rfl, tb_w667, fun _ => ⟨rfl, rfl⟩⟩⟩
theorem tb_f11_37 : dp_fok tb_cl tb_N "ProgramSlicesModel" tb_W 97 (10, 37, 2) := ⟨"ProgramSlicesModel", tb_T10, 38, tb_t10, rfl, by decide, tb_u10, tb_y10, tb_n10, Or.inl tb_w668, fun h => absurd h (by decide), fun h => absurd h (by decide), fun _ => ⟨rfl, rfl, tb_w668, fun _ => ⟨rfl, rfl⟩⟩⟩
theorem tb_f11_ok : ∀ e ∈ tb_f11, dp_fok tb_cl tb_N "ProgramSlicesModel" tb_W e.1 e.2 := List.forall_mem_cons.mpr ⟨tb_f11_0, List.forall_mem_cons.mpr ⟨tb_f11_1, List.forall_mem_cons.mpr ⟨tb_f11_2, List.forall_mem_cons.mpr ⟨tb_f11_3, List.forall_mem_cons.mpr ⟨tb_f11_4, List.forall_mem_cons.mpr ⟨tb_f11_5, List.forall_mem_cons.mpr ⟨tb_f11_6, List.forall_mem_cons.mpr ⟨tb_f11_7, List.forall_mem_cons.mpr ⟨tb_f11_8, List.forall_mem_cons.mpr ⟨tb_f11_9, List.forall_mem_cons.mpr ⟨tb_f11_10, List.forall_mem_cons.mpr ⟨tb_f11_11, List.forall_mem_cons.mpr ⟨tb_f11_12, List.forall_mem_cons.mpr ⟨tb_f11_13, List.forall_mem_cons.mpr ⟨tb_f11_14, List.forall_mem_cons.mpr ⟨tb_f11_15, List.forall_mem_cons.mpr ⟨tb_f11_16, List.forall_mem_cons.mpr ⟨tb_f11_17, List.forall_mem_cons.mpr ⟨tb_f11_18, List.forall_mem_cons.mpr ⟨tb_f11_19, List.forall_mem_cons.mpr ⟨tb_f11_20, List.forall_mem_cons.mpr ⟨tb_f11_21, List.forall_mem_cons.mpr ⟨tb_f11_22, List.forall_mem_cons.mpr ⟨tb_f11_23, List.forall_mem_cons.mpr ⟨tb_f11_24, List.forall_mem_cons.mpr ⟨tb_f11_25, List.forall_mem_cons.mpr ⟨tb_f11_26, List.forall_mem_cons.mpr ⟨tb_f11_27, List.forall_mem_cons.mpr ⟨tb_f11_28, List.forall_mem_cons.mpr ⟨tb_f11_29, List.forall_mem_cons.mpr ⟨tb_f11_30, List.forall_mem_cons.mpr ⟨tb_f11_31, List.forall_mem_cons.mpr ⟨tb_f11_32, List.forall_mem_cons.mpr ⟨tb_f11_33, List.forall_mem_cons.mpr ⟨tb_f11_34, List.forall_mem_cons.mpr ⟨tb_f11_35, List.forall_mem_cons.mpr ⟨tb_f11_36, List.forall_mem_cons.mpr ⟨tb_f11_37, fun _ h => absurd h List.not_mem_nil⟩⟩⟩⟩⟩⟩⟩⟩⟩⟩⟩⟩⟩⟩⟩⟩⟩⟩⟩⟩⟩⟩⟩⟩⟩⟩⟩⟩⟩⟩⟩⟩⟩⟩⟩⟩⟩⟩
def tb_c11 : List (Nat × Int32) := [(236, 1000000)]
theorem tb_c11_ok : ∀ e ∈ tb_c11, Jvm.Cond.constant "ProgramSlicesModel" e.1 e.2 ∈ tb_W := List.forall_mem_cons.mpr ⟨tb_w669, fun _ h => absurd h List.not_mem_nil⟩
def tb_l11 : List (Nat × Int64) := []
theorem tb_l11_ok : ∀ e ∈ tb_l11, Jvm.Cond.constantLong "ProgramSlicesModel" e.1 e.2 ∈ tb_W := fun _ h => absurd h List.not_mem_nil
def tb_s11 : List (Nat × Nat × Nat × Nat) := [(107, 144, 1, 0), (148, 156, 1, 0), (152, 159, 1, 0), (155, 160, 1, 0), (191, 169, 3, 0), (206, 173, 3, 0)]
theorem tb_s11_0 (cc : ByteArray) : sm_Cal tb_cl tb_N cc "ProgramSlicesModel" tb_W (.invokestatic 107) (tb_ys 144) (tb_ws 144) 1 (dp_rcO 0) := sm_cal_S (tb_GS tb_w670 tb_w671 tb_w672 tb_w673) ⟨by decide, by decide, by decide +kernel⟩ (by decide)
theorem tb_s11_1 (cc : ByteArray) : sm_Cal tb_cl tb_N cc "ProgramSlicesModel" tb_W (.invokestatic 148) (tb_ys 156) (tb_ws 156) 1 (dp_rcO 0) := sm_cal_S (tb_GS tb_w710 tb_w711 tb_w672 tb_w712) ⟨by decide, by decide, by decide +kernel⟩ (by decide)
theorem tb_s11_2 (cc : ByteArray) : sm_Cal tb_cl tb_N cc "ProgramSlicesModel" tb_W (.invokestatic 152) (tb_ys 159) (tb_ws 159) 1 (dp_rcO 0) := sm_cal_S (tb_GS tb_w721 tb_w722 tb_w672 tb_w723) ⟨by decide, by decide, by decide +kernel⟩ (by decide)
theorem tb_s11_3 (cc : ByteArray) : sm_Cal tb_cl tb_N cc "ProgramSlicesModel" tb_W (.invokestatic 155) (tb_ys 160) (tb_ws 160) 1 (dp_rcO 0) := sm_cal_S (tb_GS tb_w724 tb_w725 tb_w672 tb_w726) ⟨by decide, by decide, by decide +kernel⟩ (by decide)
theorem tb_s11_4 (cc : ByteArray) : sm_Cal tb_cl tb_N cc "ProgramSlicesModel" tb_W (.invokestatic 191) (tb_ys 169) (tb_ws 169) 3 (dp_rcO 0) := sm_cal_S (tb_GS tb_w759 tb_w760 tb_w672 tb_w761) ⟨by decide, by decide, by decide +kernel⟩ (by decide)
theorem tb_s11_5 (cc : ByteArray) : sm_Cal tb_cl tb_N cc "ProgramSlicesModel" tb_W (.invokestatic 206) (tb_ys 173) (tb_ws 173) 3 (dp_rcO 0) := sm_cal_S (tb_GS tb_w774 tb_w775 tb_w672 tb_w776) ⟨by decide, by decide, by decide +kernel⟩ (by decide)
theorem tb_s11_ok : ∀ e ∈ tb_s11, ∀ cc, sm_Cal tb_cl tb_N cc "ProgramSlicesModel" tb_W (.invokestatic e.1) (tb_ys e.2.1) (tb_ws e.2.1) e.2.2.1 (dp_rcO e.2.2.2) := List.forall_mem_cons.mpr ⟨tb_s11_0, List.forall_mem_cons.mpr ⟨tb_s11_1, List.forall_mem_cons.mpr ⟨tb_s11_2, List.forall_mem_cons.mpr ⟨tb_s11_3, List.forall_mem_cons.mpr ⟨tb_s11_4, List.forall_mem_cons.mpr ⟨tb_s11_5, fun _ h => absurd h List.not_mem_nil⟩⟩⟩⟩⟩⟩
def tb_v11 : List (Nat × Nat × Nat × Nat) := [(120, 147, 1, 11), (124, 148, 2, 11), (127, 149, 1, 11), (137, 150, 3, 11), (133, 151, 3, 11), (130, 152, 1, 11), (188, 153, 3, 11), (174, 154, 2, 11), (161, 155, 2, 11), (177, 157, 3, 11), (180, 158, 3, 11), (158, 161, 3, 11), (164, 162, 4, 11), (144, 163, 3, 11), (140, 164, 3, 11), (168, 165, 4, 11), (183, 166, 3, 11), (171, 167, 3, 11), (185, 168, 3, 11), (195, 170, 2, 11), (198, 171, 2, 11), (202, 172, 4, 11), (210, 174, 4, 11), (214, 178, 2, 11), (220, 179, 2, 11), (224, 181, 1, 11), (237, 185, 1, 11), (246, 186, 2, 11), (249, 187, 3, 11), (240, 188, 2, 11), (243, 189, 2, 11), (253, 190, 4, 11), (257, 191, 3, 11), (260, 197, 2, 11), (263, 200, 3, 11), (266, 201, 4, 11), (269, 202, 1, 11), (272, 199, 1, 11), (275, 204, 2, 11)]
theorem tb_v11_0 (cc : ByteArray) : sm_Cal tb_cl tb_N cc "ProgramSlicesModel" tb_W (.invokevirtual 120) (tb_ys 147) (tb_ws 147) 1 (dp_rcO 11) := sm_cal_V (ci := 10) (N0 := 38) (T0 := tb_T10) rfl (tb_GV tb_w674 tb_w675 tb_w676 tb_w672 tb_w677) ⟨by decide, by decide, by decide +kernel⟩ (by decide)
theorem tb_v11_1 (cc : ByteArray) : sm_Cal tb_cl tb_N cc "ProgramSlicesModel" tb_W (.invokevirtual 124) (tb_ys 148) (tb_ws 148) 2 (dp_rcO 11) := sm_cal_V (ci := 10) (N0 := 38) (T0 := tb_T10) rfl (tb_GV tb_w678 tb_w679 tb_w680 tb_w672 tb_w681) ⟨by decide, by decide, by decide +kernel⟩ (by decide)
theorem tb_v11_2 (cc : ByteArray) : sm_Cal tb_cl tb_N cc "ProgramSlicesModel" tb_W (.invokevirtual 127) (tb_ys 149) (tb_ws 149) 1 (dp_rcO 11) := sm_cal_V (ci := 10) (N0 := 38) (T0 := tb_T10) rfl (tb_GV tb_w682 tb_w683 tb_w684 tb_w672 tb_w685) ⟨by decide, by decide, by decide +kernel⟩ (by decide)
theorem tb_v11_3 (cc : ByteArray) : sm_Cal tb_cl tb_N cc "ProgramSlicesModel" tb_W (.invokevirtual 137) (tb_ys 150) (tb_ws 150) 3 (dp_rcO 11) := sm_cal_V (ci := 10) (N0 := 38) (T0 := tb_T10) rfl (tb_GV tb_w686 tb_w687 tb_w688 tb_w672 tb_w689) ⟨by decide, by decide, by decide +kernel⟩ (by decide)
theorem tb_v11_4 (cc : ByteArray) : sm_Cal tb_cl tb_N cc "ProgramSlicesModel" tb_W (.invokevirtual 133) (tb_ys 151) (tb_ws 151) 3 (dp_rcO 11) := sm_cal_V (ci := 10) (N0 := 38) (T0 := tb_T10) rfl (tb_GV tb_w690 tb_w691 tb_w692 tb_w672 tb_w693) ⟨by decide, by decide, by decide +kernel⟩ (by decide)
theorem tb_v11_5 (cc : ByteArray) : sm_Cal tb_cl tb_N cc "ProgramSlicesModel" tb_W (.invokevirtual 130) (tb_ys 152) (tb_ws 152) 1 (dp_rcO 11) := sm_cal_V (ci := 10) (N0 := 38) (T0 := tb_T10) rfl (tb_GV tb_w694 tb_w695 tb_w696 tb_w672 tb_w697) ⟨by decide, by decide, by decide +kernel⟩ (by decide)
theorem tb_v11_6 (cc : ByteArray) : sm_Cal tb_cl tb_N cc "ProgramSlicesModel" tb_W (.invokevirtual 188) (tb_ys 153) (tb_ws 153) 3 (dp_rcO 11) := sm_cal_V (ci := 10) (N0 := 38) (T0 := tb_T10) rfl (tb_GV tb_w698 tb_w699 tb_w700 tb_w672 tb_w701) ⟨by decide, by decide, by decide +kernel⟩ (by decide)
theorem tb_v11_7 (cc : ByteArray) : sm_Cal tb_cl tb_N cc "ProgramSlicesModel" tb_W (.invokevirtual 174) (tb_ys 154) (tb_ws 154) 2 (dp_rcO 11) := sm_cal_V (ci := 10) (N0 := 38) (T0 := tb_T10) rfl (tb_GV tb_w702 tb_w703 tb_w704 tb_w672 tb_w705) ⟨by decide, by decide, by decide +kernel⟩ (by decide)
theorem tb_v11_8 (cc : ByteArray) : sm_Cal tb_cl tb_N cc "ProgramSlicesModel" tb_W (.invokevirtual 161) (tb_ys 155) (tb_ws 155) 2 (dp_rcO 11) := sm_cal_V (ci := 10) (N0 := 38) (T0 := tb_T10) rfl (tb_GV tb_w706 tb_w707 tb_w708 tb_w672 tb_w709) ⟨by decide, by decide, by decide +kernel⟩ (by decide)
theorem tb_v11_9 (cc : ByteArray) : sm_Cal tb_cl tb_N cc "ProgramSlicesModel" tb_W (.invokevirtual 177) (tb_ys 157) (tb_ws 157) 3 (dp_rcO 11) := sm_cal_V (ci := 10) (N0 := 38) (T0 := tb_T10) rfl (tb_GV tb_w713 tb_w714 tb_w715 tb_w672 tb_w716) ⟨by decide, by decide, by decide +kernel⟩ (by decide)
theorem tb_v11_10 (cc : ByteArray) : sm_Cal tb_cl tb_N cc "ProgramSlicesModel" tb_W (.invokevirtual 180) (tb_ys 158) (tb_ws 158) 3 (dp_rcO 11) := sm_cal_V (ci := 10) (N0 := 38) (T0 := tb_T10) rfl (tb_GV tb_w717 tb_w718 tb_w719 tb_w672 tb_w720) ⟨by decide, by decide, by decide +kernel⟩ (by decide)
theorem tb_v11_11 (cc : ByteArray) : sm_Cal tb_cl tb_N cc "ProgramSlicesModel" tb_W (.invokevirtual 158) (tb_ys 161) (tb_ws 161) 3 (dp_rcO 11) := sm_cal_V (ci := 10) (N0 := 38) (T0 := tb_T10) rfl (tb_GV tb_w727 tb_w728 tb_w729 tb_w672 tb_w730) ⟨by decide, by decide, by decide +kernel⟩ (by decide)
theorem tb_v11_12 (cc : ByteArray) : sm_Cal tb_cl tb_N cc "ProgramSlicesModel" tb_W (.invokevirtual 164) (tb_ys 162) (tb_ws 162) 4 (dp_rcO 11) := sm_cal_V (ci := 10) (N0 := 38) (T0 := tb_T10) rfl (tb_GV tb_w731 tb_w732 tb_w733 tb_w672 tb_w734) ⟨by decide, by decide, by decide +kernel⟩ (by decide)
theorem tb_v11_13 (cc : ByteArray) : sm_Cal tb_cl tb_N cc "ProgramSlicesModel" tb_W (.invokevirtual 144) (tb_ys 163) (tb_ws 163) 3 (dp_rcO 11) := sm_cal_V (ci := 10) (N0 := 38) (T0 := tb_T10) rfl (tb_GV tb_w735 tb_w736 tb_w737 tb_w672 tb_w738) ⟨by decide, by decide, by decide +kernel⟩ (by decide)
theorem tb_v11_14 (cc : ByteArray) : sm_Cal tb_cl tb_N cc "ProgramSlicesModel" tb_W (.invokevirtual 140) (tb_ys 164) (tb_ws 164) 3 (dp_rcO 11) := sm_cal_V (ci := 10) (N0 := 38) (T0 := tb_T10) rfl (tb_GV tb_w739 tb_w740 tb_w741 tb_w672 tb_w742) ⟨by decide, by decide, by decide +kernel⟩ (by decide)
theorem tb_v11_15 (cc : ByteArray) : sm_Cal tb_cl tb_N cc "ProgramSlicesModel" tb_W (.invokevirtual 168) (tb_ys 165) (tb_ws 165) 4 (dp_rcO 11) := sm_cal_V (ci := 10) (N0 := 38) (T0 := tb_T10) rfl (tb_GV tb_w743 tb_w744 tb_w745 tb_w672 tb_w746) ⟨by decide, by decide, by decide +kernel⟩ (by decide)
theorem tb_v11_16 (cc : ByteArray) : sm_Cal tb_cl tb_N cc "ProgramSlicesModel" tb_W (.invokevirtual 183) (tb_ys 166) (tb_ws 166) 3 (dp_rcO 11) := sm_cal_V (ci := 10) (N0 := 38) (T0 := tb_T10) rfl (tb_GV tb_w747 tb_w748 tb_w749 tb_w672 tb_w750) ⟨by decide, by decide, by decide +kernel⟩ (by decide)
theorem tb_v11_17 (cc : ByteArray) : sm_Cal tb_cl tb_N cc "ProgramSlicesModel" tb_W (.invokevirtual 171) (tb_ys 167) (tb_ws 167) 3 (dp_rcO 11) := sm_cal_V (ci := 10) (N0 := 38) (T0 := tb_T10) rfl (tb_GV tb_w751 tb_w752 tb_w753 tb_w672 tb_w754) ⟨by decide, by decide, by decide +kernel⟩ (by decide)
theorem tb_v11_18 (cc : ByteArray) : sm_Cal tb_cl tb_N cc "ProgramSlicesModel" tb_W (.invokevirtual 185) (tb_ys 168) (tb_ws 168) 3 (dp_rcO 11) := sm_cal_V (ci := 10) (N0 := 38) (T0 := tb_T10) rfl (tb_GV tb_w755 tb_w756 tb_w757 tb_w672 tb_w758) ⟨by decide, by decide, by decide +kernel⟩ (by decide)
theorem tb_v11_19 (cc : ByteArray) : sm_Cal tb_cl tb_N cc "ProgramSlicesModel" tb_W (.invokevirtual 195) (tb_ys 170) (tb_ws 170) 2 (dp_rcO 11) := sm_cal_V (ci := 10) (N0 := 38) (T0 := tb_T10) rfl (tb_GV tb_w762 tb_w763 tb_w764 tb_w672 tb_w765) ⟨by decide, by decide, by decide +kernel⟩ (by decide)
theorem tb_v11_20 (cc : ByteArray) : sm_Cal tb_cl tb_N cc "ProgramSlicesModel" tb_W (.invokevirtual 198) (tb_ys 171) (tb_ws 171) 2 (dp_rcO 11) := sm_cal_V (ci := 10) (N0 := 38) (T0 := tb_T10) rfl (tb_GV tb_w766 tb_w767 tb_w768 tb_w672 tb_w769) ⟨by decide, by decide, by decide +kernel⟩ (by decide)
theorem tb_v11_21 (cc : ByteArray) : sm_Cal tb_cl tb_N cc "ProgramSlicesModel" tb_W (.invokevirtual 202) (tb_ys 172) (tb_ws 172) 4 (dp_rcO 11) := sm_cal_V (ci := 10) (N0 := 38) (T0 := tb_T10) rfl (tb_GV tb_w770 tb_w771 tb_w772 tb_w672 tb_w773) ⟨by decide, by decide, by decide +kernel⟩ (by decide)
theorem tb_v11_22 (cc : ByteArray) : sm_Cal tb_cl tb_N cc "ProgramSlicesModel" tb_W (.invokevirtual 210) (tb_ys 174) (tb_ws 174) 4 (dp_rcO 11) := sm_cal_V (ci := 10) (N0 := 38) (T0 := tb_T10) rfl (tb_GV tb_w777 tb_w778 tb_w779 tb_w672 tb_w780) ⟨by decide, by decide, by decide +kernel⟩ (by decide)
theorem tb_v11_23 (cc : ByteArray) : sm_Cal tb_cl tb_N cc "ProgramSlicesModel" tb_W (.invokevirtual 214) (tb_ys 178) (tb_ws 178) 2 (dp_rcO 11) := sm_cal_V (ci := 10) (N0 := 38) (T0 := tb_T10) rfl (tb_GV tb_w781 tb_w782 tb_w783 tb_w672 tb_w784) ⟨by decide, by decide, by decide +kernel⟩ (by decide)
theorem tb_v11_24 (cc : ByteArray) : sm_Cal tb_cl tb_N cc "ProgramSlicesModel" tb_W (.invokevirtual 220) (tb_ys 179) (tb_ws 179) 2 (dp_rcO 11) := sm_cal_V (ci := 10) (N0 := 38) (T0 := tb_T10) rfl (tb_GV tb_w785 tb_w786 tb_w787 tb_w672 tb_w788) ⟨by decide, by decide, by decide +kernel⟩ (by decide)
theorem tb_v11_25 (cc : ByteArray) : sm_Cal tb_cl tb_N cc "ProgramSlicesModel" tb_W (.invokevirtual 224) (tb_ys 181) (tb_ws 181) 1 (dp_rcO 11) := sm_cal_V (ci := 10) (N0 := 38) (T0 := tb_T10) rfl (tb_GV tb_w789 tb_w790 tb_w791 tb_w672 tb_w792) ⟨by decide, by decide, by decide +kernel⟩ (by decide)
theorem tb_v11_26 (cc : ByteArray) : sm_Cal tb_cl tb_N cc "ProgramSlicesModel" tb_W (.invokevirtual 237) (tb_ys 185) (tb_ws 185) 1 (dp_rcO 11) := sm_cal_V (ci := 10) (N0 := 38) (T0 := tb_T10) rfl (tb_GV tb_w793 tb_w794 tb_w795 tb_w672 tb_w796) ⟨by decide, by decide, by decide +kernel⟩ (by decide)
theorem tb_v11_27 (cc : ByteArray) : sm_Cal tb_cl tb_N cc "ProgramSlicesModel" tb_W (.invokevirtual 246) (tb_ys 186) (tb_ws 186) 2 (dp_rcO 11) := sm_cal_V (ci := 10) (N0 := 38) (T0 := tb_T10) rfl (tb_GV tb_w797 tb_w798 tb_w799 tb_w672 tb_w800) ⟨by decide, by decide, by decide +kernel⟩ (by decide)
theorem tb_v11_28 (cc : ByteArray) : sm_Cal tb_cl tb_N cc "ProgramSlicesModel" tb_W (.invokevirtual 249) (tb_ys 187) (tb_ws 187) 3 (dp_rcO 11) := sm_cal_V (ci := 10) (N0 := 38) (T0 := tb_T10) rfl (tb_GV tb_w801 tb_w802 tb_w803 tb_w672 tb_w804) ⟨by decide, by decide, by decide +kernel⟩ (by decide)
theorem tb_v11_29 (cc : ByteArray) : sm_Cal tb_cl tb_N cc "ProgramSlicesModel" tb_W (.invokevirtual 240) (tb_ys 188) (tb_ws 188) 2 (dp_rcO 11) := sm_cal_V (ci := 10) (N0 := 38) (T0 := tb_T10) rfl (tb_GV tb_w805 tb_w806 tb_w807 tb_w672 tb_w808) ⟨by decide, by decide, by decide +kernel⟩ (by decide)
theorem tb_v11_30 (cc : ByteArray) : sm_Cal tb_cl tb_N cc "ProgramSlicesModel" tb_W (.invokevirtual 243) (tb_ys 189) (tb_ws 189) 2 (dp_rcO 11) := sm_cal_V (ci := 10) (N0 := 38) (T0 := tb_T10) rfl (tb_GV tb_w809 tb_w810 tb_w811 tb_w672 tb_w812) ⟨by decide, by decide, by decide +kernel⟩ (by decide)
theorem tb_v11_31 (cc : ByteArray) : sm_Cal tb_cl tb_N cc "ProgramSlicesModel" tb_W (.invokevirtual 253) (tb_ys 190) (tb_ws 190) 4 (dp_rcO 11) := sm_cal_V (ci := 10) (N0 := 38) (T0 := tb_T10) rfl (tb_GV tb_w813 tb_w814 tb_w815 tb_w672 tb_w816) ⟨by decide, by decide, by decide +kernel⟩ (by decide)
theorem tb_v11_32 (cc : ByteArray) : sm_Cal tb_cl tb_N cc "ProgramSlicesModel" tb_W (.invokevirtual 257) (tb_ys 191) (tb_ws 191) 3 (dp_rcO 11) := sm_cal_V (ci := 10) (N0 := 38) (T0 := tb_T10) rfl (tb_GV tb_w817 tb_w818 tb_w819 tb_w672 tb_w820) ⟨by decide, by decide, by decide +kernel⟩ (by decide)
theorem tb_v11_33 (cc : ByteArray) : sm_Cal tb_cl tb_N cc "ProgramSlicesModel" tb_W (.invokevirtual 260) (tb_ys 197) (tb_ws 197) 2 (dp_rcO 11) := sm_cal_V (ci := 10) (N0 := 38) (T0 := tb_T10) rfl (tb_GV tb_w821 tb_w822 tb_w823 tb_w672 tb_w824) ⟨by decide, by decide, by decide +kernel⟩ (by decide)
theorem tb_v11_34 (cc : ByteArray) : sm_Cal tb_cl tb_N cc "ProgramSlicesModel" tb_W (.invokevirtual 263) (tb_ys 200) (tb_ws 200) 3 (dp_rcO 11) := sm_cal_V (ci := 10) (N0 := 38) (T0 := tb_T10) rfl (tb_GV tb_w825 tb_w826 tb_w827 tb_w672 tb_w828) ⟨by decide, by decide, by decide +kernel⟩ (by decide)
theorem tb_v11_35 (cc : ByteArray) : sm_Cal tb_cl tb_N cc "ProgramSlicesModel" tb_W (.invokevirtual 266) (tb_ys 201) (tb_ws 201) 4 (dp_rcO 11) := sm_cal_V (ci := 10) (N0 := 38) (T0 := tb_T10) rfl (tb_GV tb_w829 tb_w830 tb_w831 tb_w672 tb_w832) ⟨by decide, by decide, by decide +kernel⟩ (by decide)
theorem tb_v11_36 (cc : ByteArray) : sm_Cal tb_cl tb_N cc "ProgramSlicesModel" tb_W (.invokevirtual 269) (tb_ys 202) (tb_ws 202) 1 (dp_rcO 11) := sm_cal_V (ci := 10) (N0 := 38) (T0 := tb_T10) rfl (tb_GV tb_w833 tb_w834 tb_w835 tb_w672 tb_w836) ⟨by decide, by decide, by decide +kernel⟩ (by decide)
theorem tb_v11_37 (cc : ByteArray) : sm_Cal tb_cl tb_N cc "ProgramSlicesModel" tb_W (.invokevirtual 272) (tb_ys 199) (tb_ws 199) 1 (dp_rcO 11) := sm_cal_V (ci := 10) (N0 := 38) (T0 := tb_T10) rfl (tb_GV tb_w837 tb_w838 tb_w839 tb_w672 tb_w840) ⟨by decide, by decide, by decide +kernel⟩ (by decide)
theorem tb_v11_38 (cc : ByteArray) : sm_Cal tb_cl tb_N cc "ProgramSlicesModel" tb_W (.invokevirtual 275) (tb_ys 204) (tb_ws 204) 2 (dp_rcO 11) := sm_cal_V (ci := 10) (N0 := 38) (T0 := tb_T10) rfl (tb_GV tb_w841 tb_w842 tb_w843 tb_w672 tb_w844) ⟨by decide, by decide, by decide +kernel⟩ (by decide)
theorem tb_v11_ok : ∀ e ∈ tb_v11, ∀ cc, sm_Cal tb_cl tb_N cc "ProgramSlicesModel" tb_W (.invokevirtual e.1) (tb_ys e.2.1) (tb_ws e.2.1) e.2.2.1 (dp_rcO e.2.2.2) := List.forall_mem_cons.mpr ⟨tb_v11_0, List.forall_mem_cons.mpr ⟨tb_v11_1, List.forall_mem_cons.mpr ⟨tb_v11_2, List.forall_mem_cons.mpr ⟨tb_v11_3, List.forall_mem_cons.mpr ⟨tb_v11_4, List.forall_mem_cons.mpr ⟨tb_v11_5, List.forall_mem_cons.mpr ⟨tb_v11_6, List.forall_mem_cons.mpr ⟨tb_v11_7, List.forall_mem_cons.mpr ⟨tb_v11_8, List.forall_mem_cons.mpr ⟨tb_v11_9, List.forall_mem_cons.mpr ⟨tb_v11_10, List.forall_mem_cons.mpr ⟨tb_v11_11, List.forall_mem_cons.mpr ⟨tb_v11_12, List.forall_mem_cons.mpr ⟨tb_v11_13, List.forall_mem_cons.mpr ⟨tb_v11_14, List.forall_mem_cons.mpr ⟨tb_v11_15, List.forall_mem_cons.mpr ⟨tb_v11_16, List.forall_mem_cons.mpr ⟨tb_v11_17, List.forall_mem_cons.mpr ⟨tb_v11_18, List.forall_mem_cons.mpr ⟨tb_v11_19, List.forall_mem_cons.mpr ⟨tb_v11_20, List.forall_mem_cons.mpr ⟨tb_v11_21, List.forall_mem_cons.mpr ⟨tb_v11_22, List.forall_mem_cons.mpr ⟨tb_v11_23, List.forall_mem_cons.mpr ⟨tb_v11_24, List.forall_mem_cons.mpr ⟨tb_v11_25, List.forall_mem_cons.mpr ⟨tb_v11_26, List.forall_mem_cons.mpr ⟨tb_v11_27, List.forall_mem_cons.mpr ⟨tb_v11_28, List.forall_mem_cons.mpr ⟨tb_v11_29, List.forall_mem_cons.mpr ⟨tb_v11_30, List.forall_mem_cons.mpr ⟨tb_v11_31, List.forall_mem_cons.mpr ⟨tb_v11_32, List.forall_mem_cons.mpr ⟨tb_v11_33, List.forall_mem_cons.mpr ⟨tb_v11_34, List.forall_mem_cons.mpr ⟨tb_v11_35, List.forall_mem_cons.mpr ⟨tb_v11_36, List.forall_mem_cons.mpr ⟨tb_v11_37, List.forall_mem_cons.mpr ⟨tb_v11_38, fun _ h => absurd h List.not_mem_nil⟩⟩⟩⟩⟩⟩⟩⟩⟩⟩⟩⟩⟩⟩⟩⟩⟩⟩⟩⟩⟩⟩⟩⟩⟩⟩⟩⟩⟩⟩⟩⟩⟩⟩⟩⟩⟩⟩⟩
def tb_i11 : List (Nat × Nat × Nat × Nat) := []
theorem tb_i11_ok : ∀ e ∈ tb_i11, ∀ cc, sm_Cal tb_cl tb_N cc "ProgramSlicesModel" tb_W (.invokespecial e.1) (tb_ys e.2.1) (tb_ws e.2.1) e.2.2.1 (dp_rcO e.2.2.2) := fun _ h => absurd h List.not_mem_nil
def tb_e11 : List (Nat × Nat × List (Option (Option Nat))) := []
theorem tb_e11_ok : ∀ e ∈ tb_e11, dp_nok tb_cl "ProgramSlicesModel" tb_W e.1 e.2 := fun _ h => absurd h List.not_mem_nil
def tb_K11 : dp_K := (dp_lk tb_f11, dp_lk tb_c11, dp_lk tb_l11, fun i => match i % 3 with
  | 0 => dp_lk tb_s11 (i / 3)
  | 1 => dp_lk tb_v11 (i / 3)
  | _ => dp_lk tb_i11 (i / 3), dp_lk tb_e11, 1)
theorem tb_K11_ok : dp_Kok tb_cl tb_N "ProgramSlicesModel" tb_W tb_ys tb_ws tb_K11 := by
  refine ⟨fun i F h => tb_f11_ok _ (dp_lk_mem h), fun i v h => tb_c11_ok _ (dp_lk_mem h), fun i v h => tb_l11_ok _ (dp_lk_mem h), fun i C h cc => ?_, fun i C h cc => ?_, fun i C h cc => ?_, fun i C h => tb_e11_ok _ (dp_lk_mem h), ⟨tb_w845, tb_w206, tb_w207⟩, tb_w208, tb_w209, tb_w210⟩
  · have h : dp_lk tb_s11 i = some C := by
      have e1 : 3 * i % 3 = 0 := by omega
      have e2 : 3 * i / 3 = i := by omega
      simpa [tb_K11, e1, e2] using h
    exact tb_s11_ok _ (dp_lk_mem h) cc
  · have h : dp_lk tb_v11 i = some C := by
      have e1 : (3 * i + 1) % 3 = 1 := by omega
      have e2 : (3 * i + 1) / 3 = i := by omega
      simpa [tb_K11, e1, e2] using h
    exact tb_v11_ok _ (dp_lk_mem h) cc
  · have h : dp_lk tb_i11 i = some C := by
      have e1 : (3 * i + 2) % 3 = 2 := by omega
      have e2 : (3 * i + 2) / 3 = i := by omega
      simpa [tb_K11, e1, e2] using h
    exact tb_i11_ok _ (dp_lk_mem h) cc
end
section
def dp_dck (cc : ByteArray) (e : Nat × Instr × Nat) : Bool := match decode cc e.1 with
  | .ok x => decide (x = e.2)
  | _ => false
theorem dp_dec {cc : ByteArray} {l : List (Nat × Instr × Nat)} (h : l.all (dp_dck cc) = true) : ∀ e ∈ l, decode cc e.1 = .ok e.2 := by
  intro e he
  have h1 := List.all_eq_true.mp h e he
  unfold dp_dck at h1
  split at h1
  · rename_i x hx
    rw [hx, of_decide_eq_true h1]
  · cases h1
def tb_b0 : List (Nat × Instr × Nat) := [(0, (.aload_n 0), 1), (1, (.invokespecial 3), 3), (4, (.aload_n 0), 1), (5, (.new 9), 3), (8, .dup, 1), (9, (.invokespecial 11), 3), (12, (.putfield 12), 3), (15, (.aload_n 0), 1), (16, (.new 16), 3), (19, .dup, 1), (20, (.aload_n 0), 1), (21, (.getfield 12), 3), (24, (.invokespecial 18), 3), (27, (.putfield 21), 3), (30, (.aload_n 0), 1), (31, (.new 25), 3), (34, .dup, 1), (35, (.aload_n 0), 1), (36, (.getfield 12), 3), (39, (.aload_n 0), 1), (40, (.getfield 21), 3), (43, (.invokespecial 27), 3), (46, (.putfield 30), 3), (49, (.aload_n 0), 1), (50, (.new 34), 3), (53, .dup, 1), (54, (.aload_n 0), 1), (55, (.getfield 12), 3), (58, (.invokespecial 36), 3), (61, (.putfield 37), 3), (64, (.aload_n 0), 1), (65, (.new 41), 3), (68, .dup, 1), (69, (.invokespecial 43), 3), (72, (.putfield 44), 3), (75, (.aload_n 0), 1), (76, (.new 48), 3), (79, .dup, 1), (80, (.aload_n 0), 1), (81, (.getfield 12), 3), (84, (.aload_n 0), 1), (85, (.getfield 44), 3), (88, (.invokespecial 50), 3), (91, (.putfield 53), 3), (94, (.aload_n 0), 1), (95, (.new 57), 3), (98, .dup, 1), (99, (.invokespecial 59), 3), (102, (.putfield 60), 3), (105, (.aload_n 0), 1), (106, (.iconst (0)), 1), (107, (.putfield 64), 3), (110, .return_, 1)]
theorem tb_b0_ok : ∀ e ∈ tb_b0, decode prog_1_method_1_code e.1 = .ok e.2 := dp_dec (by decide +kernel)
def tb_b1 : List (Nat × Instr × Nat) := [(0, (.aload_n 0), 1), (1, (.invokespecial 3), 3), (4, (.aload_n 0), 1), (5, (.bipush (32)), 2), (7, (.newarray .int), 2), (9, (.putfield 9), 3), (12, (.aload_n 0), 1), (13, (.bipush (32)), 2), (15, (.newarray .int), 2), (17, (.putfield 15), 3), (20, (.aload_n 0), 1), (21, (.bipush (32)), 2), (23, (.newarray .int), 2), (25, (.putfield 18), 3), (28, (.aload_n 0), 1), (29, (.bipush (32)), 2), (31, (.newarray .int), 2), (33, (.putfield 21), 3), (36, (.aload_n 0), 1), (37, (.bipush (32)), 2), (39, (.newarray .int), 2), (41, (.putfield 24), 3), (44, (.aload_n 0), 1), (45, (.bipush (32)), 2), (47, (.newarray .int), 2), (49, (.putfield 27), 3), (52, (.aload_n 0), 1), (53, (.bipush (32)), 2), (55, (.newarray .int), 2), (57, (.putfield 30), 3), (60, (.aload_n 0), 1), (61, (.bipush (32)), 2), (63, (.newarray .int), 2), (65, (.putfield 33), 3), (68, (.aload_n 0), 1), (69, (.iconst (4)), 1), (70, (.newarray .int), 2), (72, (.putfield 36), 3), (75, (.aload_n 0), 1), (76, (.iconst (4)), 1), (77, (.newarray .int), 2), (79, (.putfield 39), 3), (82, (.aload_n 0), 1), (83, (.iconst (4)), 1), (84, (.newarray .int), 2), (86, (.putfield 42), 3), (89, .return_, 1)]
theorem tb_b1_ok : ∀ e ∈ tb_b1, decode prog_2_method_1_code e.1 = .ok e.2 := dp_dec (by decide +kernel)
def tb_b2 : List (Nat × Instr × Nat) := [(0, (.aload_n 0), 1), (1, (.invokespecial 3), 3), (4, (.aload_n 0), 1), (5, (.sipush (2016)), 3), (8, (.newarray .int), 2), (10, (.putfield 9), 3), (13, (.aload_n 0), 1), (14, (.sipush (2016)), 3), (17, (.newarray .int), 2), (19, (.putfield 15), 3), (22, (.aload_n 0), 1), (23, (.sipush (128)), 3), (26, (.newarray .int), 2), (28, (.putfield 18), 3), (31, (.aload_n 0), 1), (32, (.iconst (4)), 1), (33, (.newarray .int), 2), (35, (.putfield 21), 3), (38, (.aload_n 0), 1), (39, (.iconst (4)), 1), (40, (.newarray .int), 2), (42, (.putfield 24), 3), (45, (.aload_n 0), 1), (46, (.aload_n 1), 1), (47, (.putfield 27), 3), (50, (.aload_n 0), 1), (51, (.new 31), 3), (54, .dup, 1), (55, (.aload_n 1), 1), (56, (.invokespecial 33), 3), (59, (.putfield 36), 3), (62, .return_, 1)]
theorem tb_b2_ok : ∀ e ∈ tb_b2, decode prog_3_method_1_code e.1 = .ok e.2 := dp_dec (by decide +kernel)
def tb_b3 : List (Nat × Instr × Nat) := [(0, (.aload_n 0), 1), (1, (.invokespecial 3), 3), (4, (.aload_n 0), 1), (5, (.bipush (32)), 2), (7, (.newarray .long), 2), (9, (.putfield 9), 3), (12, (.aload_n 0), 1), (13, (.iconst (4)), 1), (14, (.newarray .long), 2), (16, (.putfield 15), 3), (19, (.aload_n 0), 1), (20, (.bipush (32)), 2), (22, (.newarray .long), 2), (24, (.putfield 18), 3), (27, (.aload_n 0), 1), (28, (.bipush (32)), 2), (30, (.newarray .long), 2), (32, (.putfield 21), 3), (35, (.aload_n 0), 1), (36, (.bipush (8)), 2), (38, (.newarray .long), 2), (40, (.putfield 24), 3), (43, (.aload_n 0), 1), (44, (.aload_n 1), 1), (45, (.putfield 27), 3), (48, .return_, 1)]
theorem tb_b3_ok : ∀ e ∈ tb_b3, decode prog_10_method_1_code e.1 = .ok e.2 := dp_dec (by decide +kernel)
def tb_b4 : List (Nat × Instr × Nat) := [(0, (.aload_n 0), 1), (1, (.invokespecial 3), 3), (4, (.aload_n 0), 1), (5, (.bipush (8)), 2), (7, (.newarray .int), 2), (9, (.putfield 9), 3), (12, (.aload_n 0), 1), (13, (.sipush (252)), 3), (16, (.newarray .int), 2), (18, (.putfield 15), 3), (21, (.aload_n 0), 1), (22, (.aload_n 1), 1), (23, (.putfield 18), 3), (26, (.aload_n 0), 1), (27, (.aload_n 2), 1), (28, (.putfield 22), 3), (31, .return_, 1)]
theorem tb_b4_ok : ∀ e ∈ tb_b4, decode prog_9_method_1_code e.1 = .ok e.2 := dp_dec (by decide +kernel)
def tb_b5 : List (Nat × Instr × Nat) := [(0, (.aload_n 0), 1), (1, (.invokespecial 3), 3), (4, (.aload_n 0), 1), (5, (.new 9), 3), (8, .dup, 1), (9, (.invokespecial 11), 3), (12, (.putfield 12), 3), (15, (.aload_n 0), 1), (16, (.iconst (4)), 1), (17, (.newarray .int), 2), (19, (.putfield 18), 3), (22, (.aload_n 0), 1), (23, (.iconst (4)), 1), (24, (.newarray .int), 2), (26, (.putfield 22), 3), (29, (.aload_n 0), 1), (30, (.bipush (28)), 2), (32, (.newarray .int), 2), (34, (.putfield 25), 3), (37, (.aload_n 0), 1), (38, (.bipush (7)), 2), (40, (.newarray .int), 2), (42, (.putfield 28), 3), (45, (.aload_n 0), 1), (46, (.bipush (7)), 2), (48, (.newarray .int), 2), (50, (.putfield 31), 3), (53, (.aload_n 0), 1), (54, (.aload_n 1), 1), (55, (.putfield 34), 3), (58, .return_, 1)]
theorem tb_b5_ok : ∀ e ∈ tb_b5, decode prog_6_method_1_code e.1 = .ok e.2 := dp_dec (by decide +kernel)
def tb_b6 : List (Nat × Instr × Nat) := [(0, (.aload_n 0), 1), (1, (.invokespecial 3), 3), (4, (.aload_n 0), 1), (5, (.bipush (60)), 2), (7, (.newarray .int), 2), (9, (.putfield 9), 3), (12, (.aload_n 0), 1), (13, (.sipush (160)), 3), (16, (.newarray .int), 2), (18, (.putfield 15), 3), (21, (.aload_n 0), 1), (22, (.iconst (4)), 1), (23, (.newarray .int), 2), (25, (.putfield 18), 3), (28, .return_, 1)]
theorem tb_b6_ok : ∀ e ∈ tb_b6, decode prog_5_method_1_code e.1 = .ok e.2 := dp_dec (by decide +kernel)
def tb_b7 : List (Nat × Instr × Nat) := [(0, (.aload_n 0), 1), (1, (.invokespecial 3), 3), (4, (.aload_n 0), 1), (5, (.iconst (5)), 1), (6, (.newarray .int), 2), (8, (.putfield 9), 3), (11, (.aload_n 0), 1), (12, (.iconst (4)), 1), (13, (.newarray .int), 2), (15, (.putfield 15), 3), (18, (.aload_n 0), 1), (19, (.iconst (4)), 1), (20, (.newarray .int), 2), (22, (.putfield 18), 3), (25, (.aload_n 0), 1), (26, (.iconst (1)), 1), (27, (.putfield 21), 3), (30, (.aload_n 0), 1), (31, (.getfield 9), 3), (34, (.iconst (0)), 1), (35, (.iconst (1)), 1), (36, .iastore, 1), (37, .return_, 1)]
theorem tb_b7_ok : ∀ e ∈ tb_b7, decode prog_7_method_1_code e.1 = .ok e.2 := dp_dec (by decide +kernel)
def tb_b8 : List (Nat × Instr × Nat) := [(0, (.aload_n 0), 1), (1, (.invokespecial 3), 3), (4, (.aload_n 0), 1), (5, (.bipush (32)), 2), (7, (.newarray .int), 2), (9, (.putfield 9), 3), (12, (.aload_n 0), 1), (13, (.aload_n 1), 1), (14, (.putfield 15), 3), (17, (.aload_n 0), 1), (18, (.aload_n 2), 1), (19, (.putfield 19), 3), (22, .return_, 1)]
theorem tb_b8_ok : ∀ e ∈ tb_b8, decode prog_4_method_1_code e.1 = .ok e.2 := dp_dec (by decide +kernel)
def tb_b9 : List (Nat × Instr × Nat) := [(0, (.aload_n 0), 1), (1, (.invokespecial 3), 3), (4, (.aload_n 0), 1), (5, (.bipush (8)), 2), (7, (.newarray .int), 2), (9, (.putfield 9), 3), (12, .return_, 1)]
theorem tb_b9_ok : ∀ e ∈ tb_b9, decode prog_8_method_1_code e.1 = .ok e.2 := dp_dec (by decide +kernel)
def tb_b10 : List (Nat × Instr × Nat) := [(0, (.aload_n 0), 1), (1, (.getfield 64), 3), (4, (.ifCond .ne (28)), 3), (7, (.aload_n 0), 1), (8, (.getfield 12), 3), (11, (.invokevirtual 68), 3), (14, (.ifCond .eq (18)), 3), (17, (.aload_n 0), 1), (18, (.getfield 12), 3), (21, (.iload_n 1), 1), (22, (.iload_n 2), 1), (23, (.iload_n 3), 1), (24, (.iload 4), 2), (26, (.invokevirtual 72), 3), (29, (.ifCond .ne (5)), 3), (32, (.iconst (-1)), 1), (33, .ireturn, 1), (34, (.aload_n 0), 1), (35, (.getfield 12), 3), (38, (.iload_n 1), 1), (39, (.iload_n 2), 1), (40, (.iload_n 3), 1), (41, (.iload 4), 2), (43, (.invokevirtual 76), 3), (46, .ireturn, 1)]
theorem tb_b10_ok : ∀ e ∈ tb_b10, decode prog_1_method_2_code e.1 = .ok e.2 := dp_dec (by decide +kernel)
def tb_b11 : List (Nat × Instr × Nat) := [(0, (.aload_n 0), 1), (1, (.getfield 45), 3), (4, (.bipush (32)), 2), (6, (.if_icmp .ge (7)), 3), (9, (.iconst (1)), 1), (10, (.goto (4)), 3), (13, (.iconst (0)), 1), (14, .ireturn, 1)]
theorem tb_b11_ok : ∀ e ∈ tb_b11, decode prog_2_method_2_code e.1 = .ok e.2 := dp_dec (by decide +kernel)
def tb_b12 : List (Nat × Instr × Nat) := [(0, (.iload_n 1), 1), (1, (.ifCond .lt (9)), 3), (4, (.iload_n 1), 1), (5, (.bipush (18)), 2), (7, (.if_icmp .le (5)), 3), (10, (.iconst (0)), 1), (11, .ireturn, 1), (12, (.iload_n 1), 1), (13, (.invokestatic 49), 3), (16, (.ifCond .eq (10)), 3), (19, (.iload_n 2), 1), (20, (.invokestatic 53), 3), (23, (.ifCond .eq (36)), 3), (26, (.iload_n 1), 1), (27, (.invokestatic 56), 3), (30, (.ifCond .eq (10)), 3), (33, (.iload_n 3), 1), (34, (.invokestatic 53), 3), (37, (.ifCond .eq (22)), 3), (40, (.iload_n 1), 1), (41, (.invokestatic 59), 3), (44, (.ifCond .eq (11)), 3), (47, (.iload 4), 2), (49, (.invokestatic 53), 3), (52, (.ifCond .eq (7)), 3), (55, (.iconst (1)), 1), (56, (.goto (4)), 3), (59, (.iconst (0)), 1), (60, .ireturn, 1)]
theorem tb_b12_ok : ∀ e ∈ tb_b12, decode prog_2_method_3_code e.1 = .ok e.2 := dp_dec (by decide +kernel)
def tb_b13 : List (Nat × Instr × Nat) := [(0, (.iload_n 0), 1), (1, (.bipush (7)), 2), (3, (.if_icmp .le (16)), 3), (6, (.iload_n 0), 1), (7, (.invokestatic 62), 3), (10, (.ifCond .ne (9)), 3), (13, (.iload_n 0), 1), (14, (.bipush (17)), 2), (16, (.if_icmp .ne (7)), 3), (19, (.iconst (1)), 1), (20, (.goto (4)), 3), (23, (.iconst (0)), 1), (24, .ireturn, 1)]
theorem tb_b13_ok : ∀ e ∈ tb_b13, decode prog_2_method_4_code e.1 = .ok e.2 := dp_dec (by decide +kernel)
def tb_b14 : List (Nat × Instr × Nat) := [(0, (.iload_n 0), 1), (1, (.bipush (13)), 2), (3, (.if_icmp .lt (13)), 3), (6, (.iload_n 0), 1), (7, (.bipush (16)), 2), (9, (.if_icmp .gt (7)), 3), (12, (.iconst (1)), 1), (13, (.goto (4)), 3), (16, (.iconst (0)), 1), (17, .ireturn, 1)]
theorem tb_b14_ok : ∀ e ∈ tb_b14, decode prog_2_method_7_code e.1 = .ok e.2 := dp_dec (by decide +kernel)
def tb_b15 : List (Nat × Instr × Nat) := [(0, (.iload_n 0), 1), (1, (.ifCond .lt (12)), 3), (4, (.iload_n 0), 1), (5, (.iconst (4)), 1), (6, (.if_icmp .ge (7)), 3), (9, (.iconst (1)), 1), (10, (.goto (4)), 3), (13, (.iconst (0)), 1), (14, .ireturn, 1)]
theorem tb_b15_ok : ∀ e ∈ tb_b15, decode prog_1_method_22_code e.1 = .ok e.2 := dp_dec (by decide +kernel)
def tb_b16 : List (Nat × Instr × Nat) := [(0, (.iload_n 0), 1), (1, (.iconst (1)), 1), (2, (.if_icmp .lt (9)), 3), (5, (.iload_n 0), 1), (6, (.bipush (9)), 2), (8, (.if_icmp .le (22)), 3), (11, (.iload_n 0), 1), (12, (.bipush (11)), 2), (14, (.if_icmp .eq (16)), 3), (17, (.iload_n 0), 1), (18, (.invokestatic 62), 3), (21, (.ifCond .ne (9)), 3), (24, (.iload_n 0), 1), (25, (.bipush (17)), 2), (27, (.if_icmp .ne (7)), 3), (30, (.iconst (1)), 1), (31, (.goto (4)), 3), (34, (.iconst (0)), 1), (35, .ireturn, 1)]
theorem tb_b16_ok : ∀ e ∈ tb_b16, decode prog_2_method_5_code e.1 = .ok e.2 := dp_dec (by decide +kernel)
def tb_b17 : List (Nat × Instr × Nat) := [(0, (.iload_n 0), 1), (1, (.iconst (1)), 1), (2, (.if_icmp .lt (8)), 3), (5, (.iload_n 0), 1), (6, (.iconst (5)), 1), (7, (.if_icmp .le (16)), 3), (10, (.iload_n 0), 1), (11, (.bipush (8)), 2), (13, (.if_icmp .eq (10)), 3), (16, (.iload_n 0), 1), (17, (.invokestatic 62), 3), (20, (.ifCond .eq (7)), 3), (23, (.iconst (1)), 1), (24, (.goto (4)), 3), (27, (.iconst (0)), 1), (28, .ireturn, 1)]
theorem tb_b17_ok : ∀ e ∈ tb_b17, decode prog_2_method_6_code e.1 = .ok e.2 := dp_dec (by decide +kernel)
def tb_b18 : List (Nat × Instr × Nat) := [(0, (.aload_n 0), 1), (1, (.getfield 9), 3), (4, (.aload_n 0), 1), (5, (.getfield 45), 3), (8, (.iload_n 1), 1), (9, .iastore, 1), (10, (.aload_n 0), 1), (11, (.getfield 15), 3), (14, (.aload_n 0), 1), (15, (.getfield 45), 3), (18, (.iload_n 2), 1), (19, .iastore, 1), (20, (.aload_n 0), 1), (21, (.getfield 18), 3), (24, (.aload_n 0), 1), (25, (.getfield 45), 3), (28, (.iload_n 3), 1), (29, .iastore, 1), (30, (.aload_n 0), 1), (31, (.getfield 21), 3), (34, (.aload_n 0), 1), (35, (.getfield 45), 3), (38, (.iload 4), 2), (40, .iastore, 1), (41, (.aload_n 0), 1), (42, .dup, 1), (43, (.getfield 45), 3), (46, (.iconst (1)), 1), (47, .iadd, 1), (48, (.putfield 45), 3), (51, (.aload_n 0), 1), (52, (.getfield 45), 3), (55, (.iconst (1)), 1), (56, .isub, 1), (57, .ireturn, 1)]
theorem tb_b18_ok : ∀ e ∈ tb_b18, decode prog_2_method_8_code e.1 = .ok e.2 := dp_dec (by decide +kernel)
def tb_b19 : List (Nat × Instr × Nat) := [(0, (.aload_n 0), 1), (1, (.getfield 12), 3), (4, (.invokevirtual 80), 3), (7, (.aload_n 0), 1), (8, (.getfield 60), 3), (11, (.invokevirtual 83), 3), (14, (.aload_n 0), 1), (15, (.getfield 37), 3), (18, (.invokevirtual 86), 3), (21, (.aload_n 0), 1), (22, (.iconst (0)), 1), (23, (.putfield 64), 3), (26, .return_, 1)]
theorem tb_b19_ok : ∀ e ∈ tb_b19, decode prog_1_method_3_code e.1 = .ok e.2 := dp_dec (by decide +kernel)
def tb_b20 : List (Nat × Instr × Nat) := [(0, (.aload_n 0), 1), (1, (.iconst (0)), 1), (2, (.putfield 45), 3), (5, .return_, 1)]
theorem tb_b20_ok : ∀ e ∈ tb_b20, decode prog_2_method_9_code e.1 = .ok e.2 := dp_dec (by decide +kernel)
def tb_b21 : List (Nat × Instr × Nat) := [(0, (.aload_n 0), 1), (1, (.iconst (0)), 1), (2, (.putfield 15), 3), (5, .return_, 1)]
theorem tb_b21_ok : ∀ e ∈ tb_b21, decode prog_8_method_2_code e.1 = .ok e.2 := dp_dec (by decide +kernel)
def tb_b22 : List (Nat × Instr × Nat) := [(0, (.aload_n 0), 1), (1, (.iconst (0)), 1), (2, (.putfield 38), 3), (5, (.aload_n 0), 1), (6, (.getfield 12), 3), (9, (.invokevirtual 42), 3), (12, .return_, 1)]
theorem tb_b22_ok : ∀ e ∈ tb_b22, decode prog_6_method_3_code e.1 = .ok e.2 := dp_dec (by decide +kernel)
def tb_b23 : List (Nat × Instr × Nat) := [(0, (.aload_n 0), 1), (1, (.iconst (0)), 1), (2, (.putfield 21), 3), (5, (.aload_n 0), 1), (6, (.getfield 18), 3), (9, (.iconst (0)), 1), (10, (.invokestatic 25), 3), (13, .return_, 1)]
theorem tb_b23_ok : ∀ e ∈ tb_b23, decode prog_5_method_2_code e.1 = .ok e.2 := dp_dec (by decide +kernel)
def tb_b24 : List (Nat × Instr × Nat) := [(0, (.iconst (0)), 1), (1, (.istore_n 2), 1), (2, (.aload_n 0), 1), (3, .arraylength, 1), (4, (.istore_n 3), 1), (5, (.iload_n 2), 1), (6, (.iload_n 3), 1), (7, (.if_icmp .ge (13)), 3), (10, (.aload_n 0), 1), (11, (.iload_n 2), 1), (12, (.iload_n 1), 1), (13, .iastore, 1), (14, (.iinc 2 (1)), 3), (17, (.goto (-12)), 3), (20, .return_, 1)]
theorem tb_b24_ok : ∀ e ∈ tb_b24, decode prog_14_method_103_code e.1 = .ok e.2 := dp_dec (by decide +kernel)
def tb_b25 : List (Nat × Instr × Nat) := [(0, (.aload_n 0), 1), (1, (.getfield 64), 3), (4, (.ifCond .eq (6)), 3), (7, (.bipush (-2)), 2), (9, .ireturn, 1), (10, (.aload_n 0), 1), (11, (.getfield 12), 3), (14, (.invokevirtual 89), 3), (17, (.istore_n 1), 1), (18, (.iload_n 1), 1), (19, (.iconst (-1)), 1), (20, (.if_icmp .eq (8)), 3), (23, (.bipush (-3)), 2), (25, (.iload_n 1), 1), (26, .isub, 1), (27, .ireturn, 1), (28, (.aload_n 0), 1), (29, (.getfield 21), 3), (32, (.invokevirtual 93), 3), (35, (.aload_n 0), 1), (36, (.getfield 30), 3), (39, (.invokevirtual 96), 3), (42, (.aload_n 0), 1), (43, (.getfield 53), 3), (46, (.aload_n 0), 1), (47, (.getfield 30), 3), (50, (.invokevirtual 99), 3), (53, (.aload_n 0), 1), (54, (.iconst (1)), 1), (55, (.putfield 64), 3), (58, (.iconst (0)), 1), (59, .ireturn, 1)]
theorem tb_b25_ok : ∀ e ∈ tb_b25, decode prog_1_method_4_code e.1 = .ok e.2 := dp_dec (by decide +kernel)
def tb_b26 : List (Nat × Instr × Nat) := [(0, (.aload_n 0), 1), (1, (.iconst (0)), 1), (2, (.putfield 68), 3), (5, (.aload_n 0), 1), (6, (.iconst (1)), 1), (7, (.putfield 71), 3), (10, (.aload_n 0), 1), (11, (.getfield 36), 3), (14, (.iconst (0)), 1), (15, (.iconst (0)), 1), (16, .iastore, 1), (17, (.iconst (0)), 1), (18, (.istore_n 1), 1), (19, (.iload_n 1), 1), (20, (.aload_n 0), 1), (21, (.getfield 45), 3), (24, (.if_icmp .ge (19)), 3), (27, (.aload_n 0), 1), (28, (.iload_n 1), 1), (29, (.invokevirtual 74), 3), (32, (.ifCond .ne (5)), 3), (35, (.iload_n 1), 1), (36, .ireturn, 1), (37, (.iinc 1 (1)), 3), (40, (.goto (-21)), 3), (43, (.aload_n 0), 1), (44, (.getfield 68), 3), (47, (.ifCond .le (8)), 3), (50, (.aload_n 0), 1), (51, (.getfield 45), 3), (54, .ireturn, 1), (55, (.aload_n 0), 1), (56, (.getfield 39), 3), (59, (.aload_n 0), 1), (60, (.getfield 71), 3), (63, (.iconst (1)), 1), (64, .isub, 1), (65, (.aload_n 0), 1), (66, (.getfield 45), 3), (69, .iastore, 1), (70, (.aload_n 0), 1), (71, (.invokevirtual 77), 3), (74, .ireturn, 1)]
theorem tb_b26_ok : ∀ e ∈ tb_b26, decode prog_2_method_15_code e.1 = .ok e.2 := dp_dec (by decide +kernel)
def tb_b27 : List (Nat × Instr × Nat) := [(0, (.aload_n 0), 1), (1, (.getfield 33), 3), (4, (.iload_n 1), 1), (5, (.aload_n 0), 1), (6, (.getfield 71), 3), (9, (.iconst (1)), 1), (10, .isub, 1), (11, .iastore, 1), (12, (.aload_n 0), 1), (13, (.getfield 24), 3), (16, (.iload_n 1), 1), (17, (.aload_n 0), 1), (18, (.getfield 68), 3), (21, (.ifCond .ne (7)), 3), (24, (.iconst (-1)), 1), (25, (.goto (14)), 3), (28, (.aload_n 0), 1), (29, (.getfield 42), 3), (32, (.aload_n 0), 1), (33, (.getfield 68), 3), (36, (.iconst (1)), 1), (37, .isub, 1), (38, .iaload, 1), (39, .iastore, 1), (40, (.aload_n 0), 1), (41, (.getfield 27), 3), (44, (.iload_n 1), 1), (45, (.iconst (-1)), 1), (46, .iastore, 1), (47, (.aload_n 0), 1), (48, (.getfield 30), 3), (51, (.iload_n 1), 1), (52, (.iconst (-1)), 1), (53, .iastore, 1), (54, (.aload_n 0), 1), (55, (.getfield 9), 3), (58, (.iload_n 1), 1), (59, .iaload, 1), (60, (.tableswitch (92) (9) (18) #[56, 62, 56, 74, 92, 92, 92, 92, 92, 86]), 56), (116, (.aload_n 0), 1), (117, (.iload_n 1), 1), (118, (.invokevirtual 81), 3), (121, .ireturn, 1), (122, (.aload_n 0), 1), (123, (.iload_n 1), 1), (124, (.aload_n 0), 1), (125, (.getfield 24), 3), (128, (.iload_n 1), 1), (129, .iaload, 1), (130, (.invokevirtual 84), 3), (133, .ireturn, 1), (134, (.aload_n 0), 1), (135, (.iload_n 1), 1), (136, (.aload_n 0), 1), (137, (.getfield 24), 3), (140, (.iload_n 1), 1), (141, .iaload, 1), (142, (.invokevirtual 88), 3), (145, .ireturn, 1), (146, (.aload_n 0), 1), (147, (.iload_n 1), 1), (148, (.invokevirtual 91), 3), (151, .ireturn, 1), (152, (.iconst (1)), 1), (153, .ireturn, 1)]
theorem tb_b27_ok : ∀ e ∈ tb_b27, decode prog_2_method_16_code e.1 = .ok e.2 := dp_dec (by decide +kernel)
def tb_b28 : List (Nat × Instr × Nat) := [(0, (.aload_n 0), 1), (1, (.getfield 68), 3), (4, (.iconst (4)), 1), (5, (.if_icmp .ne (5)), 3), (8, (.iconst (0)), 1), (9, .ireturn, 1), (10, (.aload_n 0), 1), (11, (.getfield 42), 3), (14, (.aload_n 0), 1), (15, (.getfield 68), 3), (18, (.iload_n 1), 1), (19, .iastore, 1), (20, (.aload_n 0), 1), (21, .dup, 1), (22, (.getfield 68), 3), (25, (.iconst (1)), 1), (26, .iadd, 1), (27, (.putfield 68), 3), (30, (.iconst (1)), 1), (31, .ireturn, 1)]
theorem tb_b28_ok : ∀ e ∈ tb_b28, decode prog_2_method_17_code e.1 = .ok e.2 := dp_dec (by decide +kernel)
def tb_b29 : List (Nat × Instr × Nat) := [(0, (.iload_n 2), 1), (1, (.iconst (-1)), 1), (2, (.if_icmp .eq (24)), 3), (5, (.aload_n 0), 1), (6, (.getfield 9), 3), (9, (.iload_n 2), 1), (10, .iaload, 1), (11, (.bipush (9)), 2), (13, (.if_icmp .ne (13)), 3), (16, (.aload_n 0), 1), (17, (.getfield 27), 3), (20, (.iload_n 2), 1), (21, .iaload, 1), (22, (.iconst (-1)), 1), (23, (.if_icmp .eq (5)), 3), (26, (.iconst (0)), 1), (27, .ireturn, 1), (28, (.aload_n 0), 1), (29, (.getfield 27), 3), (32, (.iload_n 2), 1), (33, (.iload_n 1), 1), (34, .iastore, 1), (35, (.iconst (1)), 1), (36, .ireturn, 1)]
theorem tb_b29_ok : ∀ e ∈ tb_b29, decode prog_2_method_18_code e.1 = .ok e.2 := dp_dec (by decide +kernel)
def tb_b30 : List (Nat × Instr × Nat) := [(0, (.iload_n 2), 1), (1, (.iconst (-1)), 1), (2, (.if_icmp .ne (5)), 3), (5, (.iconst (0)), 1), (6, .ireturn, 1), (7, (.aload_n 0), 1), (8, (.getfield 30), 3), (11, (.iload_n 2), 1), (12, (.iload_n 1), 1), (13, .iastore, 1), (14, (.aload_n 0), 1), (15, .dup, 1), (16, (.getfield 68), 3), (19, (.iconst (1)), 1), (20, .isub, 1), (21, (.putfield 68), 3), (24, (.iconst (1)), 1), (25, .ireturn, 1)]
theorem tb_b30_ok : ∀ e ∈ tb_b30, decode prog_2_method_19_code e.1 = .ok e.2 := dp_dec (by decide +kernel)
def tb_b31 : List (Nat × Instr × Nat) := [(0, (.aload_n 0), 1), (1, (.getfield 68), 3), (4, (.ifCond .gt (11)), 3), (7, (.aload_n 0), 1), (8, (.getfield 71), 3), (11, (.iconst (4)), 1), (12, (.if_icmp .ne (5)), 3), (15, (.iconst (0)), 1), (16, .ireturn, 1), (17, (.aload_n 0), 1), (18, (.getfield 39), 3), (21, (.aload_n 0), 1), (22, (.getfield 71), 3), (25, (.iconst (1)), 1), (26, .isub, 1), (27, (.iload_n 1), 1), (28, .iastore, 1), (29, (.aload_n 0), 1), (30, (.getfield 36), 3), (33, (.aload_n 0), 1), (34, (.getfield 71), 3), (37, (.iload_n 1), 1), (38, (.iconst (1)), 1), (39, .iadd, 1), (40, .iastore, 1), (41, (.aload_n 0), 1), (42, .dup, 1), (43, (.getfield 71), 3), (46, (.iconst (1)), 1), (47, .iadd, 1), (48, (.putfield 71), 3), (51, (.iconst (1)), 1), (52, .ireturn, 1)]
theorem tb_b31_ok : ∀ e ∈ tb_b31, decode prog_2_method_20_code e.1 = .ok e.2 := dp_dec (by decide +kernel)
def tb_b32 : List (Nat × Instr × Nat) := [(0, (.iconst (0)), 1), (1, (.istore_n 1), 1), (2, (.iload_n 1), 1), (3, (.aload_n 0), 1), (4, (.getfield 45), 3), (7, (.if_icmp .ge (31)), 3), (10, (.aload_n 0), 1), (11, (.iload_n 1), 1), (12, (.invokevirtual 94), 3), (15, (.ifCond .eq (17)), 3), (18, (.aload_n 0), 1), (19, (.iload_n 1), 1), (20, (.invokevirtual 97), 3), (23, (.aload_n 0), 1), (24, (.getfield 71), 3), (27, (.if_icmp .lt (5)), 3), (30, (.iload_n 1), 1), (31, .ireturn, 1), (32, (.iinc 1 (1)), 3), (35, (.goto (-33)), 3), (38, (.iconst (-1)), 1), (39, .ireturn, 1)]
theorem tb_b32_ok : ∀ e ∈ tb_b32, decode prog_2_method_21_code e.1 = .ok e.2 := dp_dec (by decide +kernel)
def tb_b33 : List (Nat × Instr × Nat) := [(0, (.iload_n 1), 1), (1, (.ifCond .lt (37)), 3), (4, (.iload_n 1), 1), (5, (.aload_n 0), 1), (6, (.getfield 45), 3), (9, (.if_icmp .ge (29)), 3), (12, (.aload_n 0), 1), (13, (.getfield 9), 3), (16, (.iload_n 1), 1), (17, .iaload, 1), (18, (.bipush (13)), 2), (20, (.if_icmp .lt (18)), 3), (23, (.aload_n 0), 1), (24, (.getfield 9), 3), (27, (.iload_n 1), 1), (28, .iaload, 1), (29, (.bipush (16)), 2), (31, (.if_icmp .gt (7)), 3), (34, (.iconst (1)), 1), (35, (.goto (4)), 3), (38, (.iconst (0)), 1), (39, .ireturn, 1)]
theorem tb_b33_ok : ∀ e ∈ tb_b33, decode prog_2_method_12_code e.1 = .ok e.2 := dp_dec (by decide +kernel)
def tb_b34 : List (Nat × Instr × Nat) := [(0, (.aload_n 0), 1), (1, (.getfield 9), 3), (4, (.iload_n 1), 1), (5, .iaload, 1), (6, (.bipush (13)), 2), (8, .isub, 1), (9, .ireturn, 1)]
theorem tb_b34_ok : ∀ e ∈ tb_b34, decode prog_2_method_13_code e.1 = .ok e.2 := dp_dec (by decide +kernel)
end
section
def tb_b35 : List (Nat × Instr × Nat) := [(0, (.aload_n 0), 1), (1, (.getfield 36), 3), (4, (.invokevirtual 61), 3), (7, (.aload_n 0), 1), (8, (.getfield 9), 3), (11, (.iconst (0)), 1), (12, (.invokestatic 64), 3), (15, (.aload_n 0), 1), (16, (.getfield 15), 3), (19, (.iconst (0)), 1), (20, (.invokestatic 64), 3), (23, (.aload_n 0), 1), (24, (.getfield 18), 3), (27, (.iconst (0)), 1), (28, (.invokestatic 64), 3), (31, (.aload_n 0), 1), (32, (.getfield 21), 3), (35, (.iconst (0)), 1), (36, (.invokestatic 64), 3), (39, (.aload_n 0), 1), (40, (.getfield 24), 3), (43, (.iconst (0)), 1), (44, (.invokestatic 64), 3), (47, (.iconst (0)), 1), (48, (.istore_n 1), 1), (49, (.iload_n 1), 1), (50, (.aload_n 0), 1), (51, (.getfield 27), 3), (54, (.getfield 48), 3), (57, (.if_icmp .ge (40)), 3), (60, (.aload_n 0), 1), (61, (.getfield 27), 3), (64, (.iload_n 1), 1), (65, (.invokevirtual 70), 3), (68, (.ifCond .eq (23)), 3), (71, (.aload_n 0), 1), (72, (.iload_n 1), 1), (73, (.invokevirtual 74), 3), (76, (.aload_n 0), 1), (77, (.iload_n 1), 1), (78, (.invokevirtual 78), 3), (81, (.aload_n 0), 1), (82, (.iload_n 1), 1), (83, (.invokevirtual 81), 3), (86, (.aload_n 0), 1), (87, (.iload_n 1), 1), (88, (.invokevirtual 84), 3), (91, (.iinc 1 (1)), 3), (94, (.goto (-45)), 3), (97, (.iconst (0)), 1), (98, (.istore_n 1), 1), (99, (.iload_n 1), 1), (100, (.aload_n 0), 1), (101, (.getfield 27), 3), (104, (.getfield 87), 3), (107, (.if_icmp .ge (14)), 3), (110, (.aload_n 0), 1), (111, (.iload_n 1), 1), (112, (.invokevirtual 90), 3), (115, (.iinc 1 (1)), 3), (118, (.goto (-19)), 3), (121, .return_, 1)]
theorem tb_b35_ok : ∀ e ∈ tb_b35, decode prog_3_method_8_code e.1 = .ok e.2 := dp_dec (by decide +kernel)
def tb_b36 : List (Nat × Instr × Nat) := [(0, (.aload_n 0), 1), (1, (.getfield 15), 3), (4, (.lconst 0), 1), (5, (.invokestatic 35), 3), (8, (.iconst (0)), 1), (9, (.istore_n 1), 1), (10, (.iload_n 1), 1), (11, (.aload_n 0), 1), (12, (.getfield 27), 3), (15, (.getfield 41), 3), (18, (.if_icmp .ge (51)), 3), (21, (.aload_n 0), 1), (22, (.getfield 9), 3), (25, (.iload_n 1), 1), (26, (.aload_n 0), 1), (27, (.iload_n 1), 1), (28, (.invokevirtual 47), 3), (31, .lastore, 1), (32, (.aload_n 0), 1), (33, (.getfield 27), 3), (36, (.iload_n 1), 1), (37, (.invokevirtual 51), 3), (40, (.ifCond .eq (23)), 3), (43, (.aload_n 0), 1), (44, (.getfield 15), 3), (47, (.aload_n 0), 1), (48, (.getfield 27), 3), (51, (.getfield 55), 3), (54, (.iload_n 1), 1), (55, .iaload, 1), (56, .dup2, 1), (57, .laload, 1), (58, (.lconst 1), 1), (59, (.iload_n 1), 1), (60, .lshl, 1), (61, .lor, 1), (62, .lastore, 1), (63, (.iinc 1 (1)), 3), (66, (.goto (-56)), 3), (69, (.iconst (0)), 1), (70, (.istore_n 1), 1), (71, (.iload_n 1), 1), (72, (.aload_n 0), 1), (73, (.getfield 27), 3), (76, (.getfield 41), 3), (79, (.if_icmp .ge (71)), 3), (82, (.aload_n 0), 1), (83, (.getfield 18), 3), (86, (.iload_n 1), 1), (87, (.aload_n 0), 1), (88, (.aload_n 0), 1), (89, (.getfield 9), 3), (92, (.iload_n 1), 1), (93, .laload, 1), (94, (.lconst 0), 1), (95, (.invokevirtual 59), 3), (98, .lastore, 1), (99, (.aload_n 0), 1), (100, (.getfield 21), 3), (103, (.iload_n 1), 1), (104, (.aload_n 0), 1), (105, (.getfield 27), 3), (108, (.iload_n 1), 1), (109, (.invokevirtual 51), 3), (112, (.ifCond .eq (30)), 3), (115, (.aload_n 0), 1), (116, (.aload_n 0), 1), (117, (.getfield 9), 3), (120, (.iload_n 1), 1), (121, .laload, 1), (122, (.aload_n 0), 1), (123, (.getfield 15), 3), (126, (.aload_n 0), 1), (127, (.getfield 27), 3), (130, (.getfield 55), 3), (133, (.iload_n 1), 1), (134, .iaload, 1), (135, .laload, 1), (136, (.invokevirtual 59), 3), (139, (.goto (4)), 3), (142, (.lconst 0), 1), (143, .lastore, 1), (144, (.iinc 1 (1)), 3), (147, (.goto (-76)), 3), (150, (.iconst (0)), 1), (151, (.istore_n 1), 1), (152, (.iload_n 1), 1), (153, (.aload_n 0), 1), (154, (.getfield 27), 3), (157, (.getfield 63), 3), (160, (.if_icmp .ge (69)), 3), (163, (.aload_n 0), 1), (164, (.getfield 24), 3), (167, (.iload_n 1), 1), (168, (.iconst (2)), 1), (169, .imul, 1), (170, (.aload_n 0), 1), (171, (.lconst 1), 1), (172, (.aload_n 0), 1), (173, (.getfield 27), 3), (176, (.getfield 66), 3), (179, (.iload_n 1), 1), (180, .iaload, 1), (181, .lshl, 1), (182, (.aload_n 0), 1), (183, (.getfield 15), 3), (186, (.iconst (0)), 1), (187, .laload, 1), (188, (.invokevirtual 59), 3), (191, .lastore, 1), (192, (.aload_n 0), 1), (193, (.getfield 24), 3), (196, (.iload_n 1), 1), (197, (.iconst (2)), 1), (198, .imul, 1), (199, (.iconst (1)), 1), (200, .iadd, 1), (201, (.aload_n 0), 1), (202, (.lconst 1), 1), (203, (.aload_n 0), 1), (204, (.getfield 27), 3), (207, (.getfield 66), 3), (210, (.iload_n 1), 1), (211, .iaload, 1), (212, .lshl, 1), (213, (.aload_n 0), 1), (214, (.getfield 15), 3), (217, (.iconst (1)), 1), (218, .laload, 1), (219, (.invokevirtual 59), 3), (222, .lastore, 1), (223, (.iinc 1 (1)), 3), (226, (.goto (-74)), 3), (229, .return_, 1)]
theorem tb_b36_ok : ∀ e ∈ tb_b36, decode prog_10_method_5_code e.1 = .ok e.2 := dp_dec (by decide +kernel)
def tb_b37 : List (Nat × Instr × Nat) := [(0, (.iconst (0)), 1), (1, (.istore_n 3), 1), (2, (.aload_n 0), 1), (3, .arraylength, 1), (4, (.istore 4), 2), (6, (.iload_n 3), 1), (7, (.iload 4), 2), (9, (.if_icmp .ge (13)), 3), (12, (.aload_n 0), 1), (13, (.iload_n 3), 1), (14, (.lload_n 1), 1), (15, .lastore, 1), (16, (.iinc 3 (1)), 3), (19, (.goto (-13)), 3), (22, .return_, 1)]
theorem tb_b37_ok : ∀ e ∈ tb_b37, decode prog_14_method_101_code e.1 = .ok e.2 := dp_dec (by decide +kernel)
def tb_b38 : List (Nat × Instr × Nat) := [(0, (.lconst 1), 1), (1, (.iload_n 1), 1), (2, (.iconst (1)), 1), (3, .iadd, 1), (4, .lshl, 1), (5, (.lstore_n 2), 1), (6, (.aload_n 0), 1), (7, (.getfield 27), 3), (10, (.getfield 69), 3), (13, (.iload_n 1), 1), (14, .iaload, 1), (15, (.tableswitch (95) (9) (18) #[53, 82, 66, 82, 95, 95, 95, 95, 95, 93]), 53), (68, (.lload_n 2), 1), (69, (.lconst 1), 1), (70, (.aload_n 0), 1), (71, (.getfield 27), 3), (74, (.iload_n 1), 1), (75, (.invokevirtual 72), 3), (78, .lshl, 1), (79, .lor, 1), (80, .lreturn, 1), (81, (.lload_n 2), 1), (82, (.lconst 1), 1), (83, (.aload_n 0), 1), (84, (.getfield 27), 3), (87, (.getfield 76), 3), (90, (.iload_n 1), 1), (91, .iaload, 1), (92, (.iconst (1)), 1), (93, .iadd, 1), (94, .lshl, 1), (95, .lor, 1), (96, .lreturn, 1), (97, (.lconst 1), 1), (98, (.aload_n 0), 1), (99, (.getfield 27), 3), (102, (.iload_n 1), 1), (103, (.invokevirtual 79), 3), (106, .lshl, 1), (107, .lreturn, 1), (108, (.lconst 0), 1), (109, .lreturn, 1), (110, (.lload_n 2), 1), (111, .lreturn, 1)]
theorem tb_b38_ok : ∀ e ∈ tb_b38, decode prog_10_method_6_code e.1 = .ok e.2 := dp_dec (by decide +kernel)
def tb_b39 : List (Nat × Instr × Nat) := [(0, (.aload_n 0), 1), (1, (.getfield 27), 3), (4, (.iload_n 1), 1), (5, .iaload, 1), (6, (.iconst (-1)), 1), (7, (.if_icmp .ne (12)), 3), (10, (.aload_n 0), 1), (11, (.getfield 30), 3), (14, (.iload_n 1), 1), (15, .iaload, 1), (16, (.goto (11)), 3), (19, (.aload_n 0), 1), (20, (.getfield 27), 3), (23, (.iload_n 1), 1), (24, .iaload, 1), (25, (.iconst (1)), 1), (26, .iadd, 1), (27, .ireturn, 1)]
theorem tb_b39_ok : ∀ e ∈ tb_b39, decode prog_2_method_22_code e.1 = .ok e.2 := dp_dec (by decide +kernel)
def tb_b40 : List (Nat × Instr × Nat) := [(0, (.aload_n 0), 1), (1, (.getfield 24), 3), (4, (.iload_n 1), 1), (5, .iaload, 1), (6, (.istore_n 2), 1), (7, (.aload_n 0), 1), (8, (.getfield 9), 3), (11, (.iload_n 1), 1), (12, .iaload, 1), (13, (.bipush (10)), 2), (15, (.if_icmp .ne (10)), 3), (18, (.aload_n 0), 1), (19, (.getfield 30), 3), (22, (.iload_n 2), 1), (23, .iaload, 1), (24, .ireturn, 1), (25, (.aload_n 0), 1), (26, (.getfield 9), 3), (29, (.iload_n 2), 1), (30, .iaload, 1), (31, (.bipush (11)), 2), (33, (.if_icmp .ne (7)), 3), (36, (.iload_n 2), 1), (37, (.goto (6)), 3), (40, (.iload_n 1), 1), (41, (.iconst (1)), 1), (42, .iadd, 1), (43, .ireturn, 1)]
theorem tb_b40_ok : ∀ e ∈ tb_b40, decode prog_2_method_23_code e.1 = .ok e.2 := dp_dec (by decide +kernel)
def tb_b41 : List (Nat × Instr × Nat) := [(0, (.aload_n 0), 1), (1, (.getfield 9), 3), (4, (.iload_n 1), 1), (5, .iaload, 1), (6, (.bipush (7)), 2), (8, (.if_icmp .le (15)), 3), (11, (.aload_n 0), 1), (12, (.getfield 9), 3), (15, (.iload_n 1), 1), (16, .iaload, 1), (17, (.invokestatic 62), 3), (20, (.ifCond .eq (7)), 3), (23, (.iconst (1)), 1), (24, (.goto (4)), 3), (27, (.iconst (0)), 1), (28, .ireturn, 1)]
theorem tb_b41_ok : ∀ e ∈ tb_b41, decode prog_2_method_14_code e.1 = .ok e.2 := dp_dec (by decide +kernel)
def tb_b42 : List (Nat × Instr × Nat) := [(0, (.lload_n 1), 1), (1, (.lstore 5), 2), (3, (.iconst (1)), 1), (4, (.istore 7), 2), (6, (.iconst (0)), 1), (7, (.istore 8), 2), (9, (.iload 8), 2), (11, (.bipush (32)), 2), (13, (.if_icmp .gt (82)), 3), (16, (.iload 7), 2), (18, (.ifCond .eq (77)), 3), (21, (.lload 5), 2), (23, (.lstore 9), 2), (25, (.iconst (0)), 1), (26, (.istore 11), 2), (28, (.iload 11), 2), (30, (.aload_n 0), 1), (31, (.getfield 27), 3), (34, (.getfield 41), 3), (37, (.if_icmp .ge (37)), 3), (40, (.lload 5), 2), (42, (.lload_n 3), 1), (43, (.ldc2_w 82), 3), (46, .lxor, 1), (47, .land, 1), (48, (.iload 11), 2), (50, (.invokestatic 31), 3), (53, (.ifCond .eq (15)), 3), (56, (.lload 5), 2), (58, (.aload_n 0), 1), (59, (.getfield 9), 3), (62, (.iload 11), 2), (64, .laload, 1), (65, .lor, 1), (66, (.lstore 5), 2), (68, (.iinc 11 (1)), 3), (71, (.goto (-43)), 3), (74, (.lload 5), 2), (76, (.lload 9), 2), (78, .lcmp, 1), (79, (.ifCond .eq (7)), 3), (82, (.iconst (1)), 1), (83, (.goto (4)), 3), (86, (.iconst (0)), 1), (87, (.istore 7), 2), (89, (.iinc 8 (1)), 3), (92, (.goto (-83)), 3), (95, (.lload 5), 2), (97, .lreturn, 1)]
theorem tb_b42_ok : ∀ e ∈ tb_b42, decode prog_10_method_7_code e.1 = .ok e.2 := dp_dec (by decide +kernel)
def tb_b43 : List (Nat × Instr × Nat) := [(0, (.lload_n 0), 1), (1, (.iload_n 2), 1), (2, .lushr, 1), (3, (.lconst 1), 1), (4, .land, 1), (5, (.lconst 0), 1), (6, .lcmp, 1), (7, (.ifCond .eq (7)), 3), (10, (.iconst (1)), 1), (11, (.goto (4)), 3), (14, (.iconst (0)), 1), (15, .ireturn, 1)]
theorem tb_b43_ok : ∀ e ∈ tb_b43, decode prog_1_method_24_code e.1 = .ok e.2 := dp_dec (by decide +kernel)
def tb_b44 : List (Nat × Instr × Nat) := [(0, (.aload_n 0), 1), (1, (.iload_n 1), 1), (2, (.invokevirtual 65), 3), (5, (.ifCond .eq (40)), 3), (8, (.aload_n 0), 1), (9, (.getfield 9), 3), (12, (.iload_n 1), 1), (13, .iaload, 1), (14, (.bipush (10)), 2), (16, (.if_icmp .eq (29)), 3), (19, (.aload_n 0), 1), (20, (.getfield 9), 3), (23, (.iload_n 1), 1), (24, .iaload, 1), (25, (.bipush (12)), 2), (27, (.if_icmp .eq (18)), 3), (30, (.aload_n 0), 1), (31, (.getfield 9), 3), (34, (.iload_n 1), 1), (35, .iaload, 1), (36, (.bipush (18)), 2), (38, (.if_icmp .eq (7)), 3), (41, (.iconst (1)), 1), (42, (.goto (4)), 3), (45, (.iconst (0)), 1), (46, .ireturn, 1)]
theorem tb_b44_ok : ∀ e ∈ tb_b44, decode prog_2_method_11_code e.1 = .ok e.2 := dp_dec (by decide +kernel)
def tb_b45 : List (Nat × Instr × Nat) := [(0, (.iload_n 1), 1), (1, (.ifCond .lt (15)), 3), (4, (.iload_n 1), 1), (5, (.aload_n 0), 1), (6, (.getfield 45), 3), (9, (.if_icmp .ge (7)), 3), (12, (.iconst (1)), 1), (13, (.goto (4)), 3), (16, (.iconst (0)), 1), (17, .ireturn, 1)]
theorem tb_b45_ok : ∀ e ∈ tb_b45, decode prog_2_method_10_code e.1 = .ok e.2 := dp_dec (by decide +kernel)
def tb_b46 : List (Nat × Instr × Nat) := [(0, (.aload_n 0), 1), (1, (.getfield 27), 3), (4, (.getfield 93), 3), (7, (.iload_n 1), 1), (8, .iaload, 1), (9, (.istore_n 2), 1), (10, (.aload_n 0), 1), (11, (.iconst (0)), 1), (12, (.iload_n 1), 1), (13, (.iload_n 2), 1), (14, (.iconst (-1)), 1), (15, (.if_icmp .ne (19)), 3), (18, (.aload_n 0), 1), (19, (.getfield 27), 3), (22, (.getfield 96), 3), (25, (.iload_n 1), 1), (26, .iaload, 1), (27, (.iconst (0)), 1), (28, (.invokestatic 99), 3), (31, (.goto (4)), 3), (34, (.iload_n 2), 1), (35, (.invokevirtual 102), 3), (38, (.aload_n 0), 1), (39, (.getfield 27), 3), (42, (.iload_n 1), 1), (43, (.invokevirtual 106), 3), (46, (.ifCond .eq (46)), 3), (49, (.aload_n 0), 1), (50, (.getfield 21), 3), (53, (.aload_n 0), 1), (54, (.getfield 27), 3), (57, (.iload_n 1), 1), (58, (.invokevirtual 109), 3), (61, .dup2, 1), (62, .iaload, 1), (63, (.iconst (1)), 1), (64, (.iload_n 1), 1), (65, .ishl, 1), (66, .ior, 1), (67, .iastore, 1), (68, (.iconst (1)), 1), (69, (.istore_n 3), 1), (70, (.iload_n 3), 1), (71, (.bipush (7)), 2), (73, (.if_icmp .ge (19)), 3), (76, (.aload_n 0), 1), (77, (.iload_n 1), 1), (78, (.iload_n 3), 1), (79, (.invokestatic 54), 3), (82, (.iload_n 1), 1), (83, (.invokevirtual 57), 3), (86, (.iinc 3 (1)), 3), (89, (.goto (-19)), 3), (92, .return_, 1)]
theorem tb_b46_ok : ∀ e ∈ tb_b46, decode prog_3_method_11_code e.1 = .ok e.2 := dp_dec (by decide +kernel)
def tb_b47 : List (Nat × Instr × Nat) := [(0, (.sipush (224)), 3), (3, (.iload_n 0), 1), (4, (.bipush (7)), 2), (6, .imul, 1), (7, .iadd, 1), (8, (.iload_n 1), 1), (9, .iadd, 1), (10, .ireturn, 1)]
theorem tb_b47_ok : ∀ e ∈ tb_b47, decode prog_1_method_26_code e.1 = .ok e.2 := dp_dec (by decide +kernel)
def tb_b48 : List (Nat × Instr × Nat) := [(0, (.aload_n 0), 1), (1, (.iload_n 2), 1), (2, (.iload_n 3), 1), (3, (.invokevirtual 57), 3), (6, (.iload_n 2), 1), (7, (.sipush (224)), 3), (10, (.if_icmp .ge (37)), 3), (13, (.iload_n 3), 1), (14, (.sipush (224)), 3), (17, (.if_icmp .ge (30)), 3), (20, (.iload_n 1), 1), (21, (.bipush (32)), 2), (23, .imul, 1), (24, (.iload_n 2), 1), (25, (.bipush (32)), 2), (27, .irem, 1), (28, .iadd, 1), (29, (.istore 4), 2), (31, (.aload_n 0), 1), (32, (.getfield 18), 3), (35, (.iload 4), 2), (37, .dup2, 1), (38, .iaload, 1), (39, (.iconst (1)), 1), (40, (.iload_n 3), 1), (41, (.bipush (32)), 2), (43, .irem, 1), (44, .ishl, 1), (45, .ior, 1), (46, .iastore, 1), (47, .return_, 1)]
theorem tb_b48_ok : ∀ e ∈ tb_b48, decode prog_3_method_10_code e.1 = .ok e.2 := dp_dec (by decide +kernel)
def tb_b49 : List (Nat × Instr × Nat) := [(0, (.aload_n 0), 1), (1, (.getfield 9), 3), (4, (.iload_n 1), 1), (5, (.bipush (8)), 2), (7, .imul, 1), (8, (.iload_n 2), 1), (9, (.bipush (32)), 2), (11, .idiv, 1), (12, .iadd, 1), (13, .dup2, 1), (14, .iaload, 1), (15, (.iconst (1)), 1), (16, (.iload_n 2), 1), (17, (.bipush (32)), 2), (19, .irem, 1), (20, .ishl, 1), (21, .ior, 1), (22, .iastore, 1), (23, (.aload_n 0), 1), (24, (.getfield 15), 3), (27, (.iload_n 2), 1), (28, (.bipush (8)), 2), (30, .imul, 1), (31, (.iload_n 1), 1), (32, (.bipush (32)), 2), (34, .idiv, 1), (35, .iadd, 1), (36, .dup2, 1), (37, .iaload, 1), (38, (.iconst (1)), 1), (39, (.iload_n 1), 1), (40, (.bipush (32)), 2), (42, .irem, 1), (43, .ishl, 1), (44, .ior, 1), (45, .iastore, 1), (46, .return_, 1)]
theorem tb_b49_ok : ∀ e ∈ tb_b49, decode prog_3_method_9_code e.1 = .ok e.2 := dp_dec (by decide +kernel)
def tb_b50 : List (Nat × Instr × Nat) := [(0, (.iload_n 1), 1), (1, (.bipush (32)), 2), (3, .imul, 1), (4, (.iload_n 0), 1), (5, .iadd, 1), (6, .ireturn, 1)]
theorem tb_b50_ok : ∀ e ∈ tb_b50, decode prog_1_method_25_code e.1 = .ok e.2 := dp_dec (by decide +kernel)
def tb_b51 : List (Nat × Instr × Nat) := [(0, (.aload_n 0), 1), (1, (.getfield 27), 3), (4, (.getfield 113), 3), (7, (.iload_n 1), 1), (8, .iaload, 1), (9, (.istore_n 2), 1), (10, (.aload_n 0), 1), (11, (.getfield 27), 3), (14, (.iload_n 1), 1), (15, (.invokevirtual 106), 3), (18, (.ifCond .eq (60)), 3), (21, (.aload_n 0), 1), (22, (.iload_n 1), 1), (23, (.iconst (1)), 1), (24, (.invokestatic 54), 3), (27, (.iload_n 1), 1), (28, (.aload_n 0), 1), (29, (.getfield 27), 3), (32, (.getfield 116), 3), (35, (.iload_n 1), 1), (36, .iaload, 1), (37, (.aload_n 0), 1), (38, (.getfield 27), 3), (41, (.getfield 96), 3), (44, (.iload_n 1), 1), (45, .iaload, 1), (46, (.invokevirtual 119), 3), (49, (.aload_n 0), 1), (50, (.iload_n 1), 1), (51, (.iconst (2)), 1), (52, (.invokestatic 54), 3), (55, (.iload_n 1), 1), (56, (.aload_n 0), 1), (57, (.getfield 27), 3), (60, (.getfield 123), 3), (63, (.iload_n 1), 1), (64, .iaload, 1), (65, (.aload_n 0), 1), (66, (.getfield 27), 3), (69, (.getfield 96), 3), (72, (.iload_n 1), 1), (73, .iaload, 1), (74, (.invokevirtual 119), 3), (77, .return_, 1), (78, (.iload_n 2), 1), (79, (.ifCond .eq (33)), 3), (82, (.iload_n 2), 1), (83, (.bipush (6)), 2), (85, (.if_icmp .eq (27)), 3), (88, (.aload_n 0), 1), (89, (.iload_n 1), 1), (90, (.iload_n 1), 1), (91, (.aload_n 0), 1), (92, (.getfield 27), 3), (95, (.getfield 116), 3), (98, (.iload_n 1), 1), (99, .iaload, 1), (100, (.aload_n 0), 1), (101, (.getfield 27), 3), (104, (.getfield 96), 3), (107, (.iload_n 1), 1), (108, .iaload, 1), (109, (.invokevirtual 119), 3), (112, (.iload_n 2), 1), (113, (.iconst (1)), 1), (114, (.if_icmp .lt (8)), 3), (117, (.iload_n 2), 1), (118, (.iconst (5)), 1), (119, (.if_icmp .le (9)), 3), (122, (.iload_n 2), 1), (123, (.bipush (8)), 2), (125, (.if_icmp .ne (27)), 3), (128, (.aload_n 0), 1), (129, (.iload_n 1), 1), (130, (.iload_n 1), 1), (131, (.aload_n 0), 1), (132, (.getfield 27), 3), (135, (.getfield 123), 3), (138, (.iload_n 1), 1), (139, .iaload, 1), (140, (.aload_n 0), 1), (141, (.getfield 27), 3), (144, (.getfield 96), 3), (147, (.iload_n 1), 1), (148, .iaload, 1), (149, (.invokevirtual 119), 3), (152, .return_, 1)]
theorem tb_b51_ok : ∀ e ∈ tb_b51, decode prog_3_method_12_code e.1 = .ok e.2 := dp_dec (by decide +kernel)
def tb_b52 : List (Nat × Instr × Nat) := [(0, (.aload_n 0), 1), (1, (.getfield 27), 3), (4, (.getfield 126), 3), (7, (.iload 4), 2), (9, .iaload, 1), (10, (.istore 5), 2), (12, (.iload 5), 2), (14, (.aload_n 0), 1), (15, (.getfield 27), 3), (18, (.getfield 129), 3), (21, (.iload 4), 2), (23, .iaload, 1), (24, (.if_icmp .ge (77)), 3), (27, (.aload_n 0), 1), (28, (.getfield 27), 3), (31, (.iload 5), 2), (33, (.invokevirtual 132), 3), (36, (.ifCond .eq (59)), 3), (39, (.aload_n 0), 1), (40, (.getfield 27), 3), (43, (.getfield 135), 3), (46, (.iload 5), 2), (48, .iaload, 1), (49, (.iload_n 3), 1), (50, (.if_icmp .ne (45)), 3), (53, (.aload_n 0), 1), (54, (.getfield 36), 3), (57, (.iload 5), 2), (59, (.iload_n 2), 1), (60, (.invokevirtual 138), 3), (63, (.ifCond .eq (32)), 3), (66, (.aload_n 0), 1), (67, (.iconst (1)), 1), (68, (.iload_n 1), 1), (69, (.aload_n 0), 1), (70, (.getfield 27), 3), (73, (.iload 5), 2), (75, (.invokevirtual 106), 3), (78, (.ifCond .eq (12)), 3), (81, (.iload 5), 2), (83, (.iconst (4)), 1), (84, (.invokestatic 54), 3), (87, (.goto (5)), 3), (90, (.iload 5), 2), (92, (.invokevirtual 102), 3), (95, (.iinc 5 (1)), 3), (98, (.goto (-86)), 3), (101, (.iload_n 3), 1), (102, (.iconst (2)), 1), (103, (.if_icmp .ge (31)), 3), (106, (.aload_n 0), 1), (107, (.getfield 36), 3), (110, (.iload 4), 2), (112, (.iload_n 3), 1), (113, (.iload_n 2), 1), (114, (.invokevirtual 141), 3), (117, (.ifCond .eq (17)), 3), (120, (.aload_n 0), 1), (121, (.iconst (1)), 1), (122, (.iload_n 1), 1), (123, (.iload 4), 2), (125, (.iconst (1)), 1), (126, (.iload_n 3), 1), (127, .iadd, 1), (128, (.invokestatic 99), 3), (131, (.invokevirtual 102), 3), (134, .return_, 1)]
theorem tb_b52_ok : ∀ e ∈ tb_b52, decode prog_3_method_13_code e.1 = .ok e.2 := dp_dec (by decide +kernel)
def tb_b53 : List (Nat × Instr × Nat) := [(0, (.aload_n 0), 1), (1, (.getfield 21), 3), (4, (.iload_n 1), 1), (5, .laload, 1), (6, (.iload_n 2), 1), (7, (.invokestatic 31), 3), (10, .ireturn, 1)]
theorem tb_b53_ok : ∀ e ∈ tb_b53, decode prog_10_method_3_code e.1 = .ok e.2 := dp_dec (by decide +kernel)
def tb_b54 : List (Nat × Instr × Nat) := [(0, (.aload_n 0), 1), (1, (.getfield 24), 3), (4, (.iload_n 1), 1), (5, (.iconst (2)), 1), (6, .imul, 1), (7, (.iload_n 2), 1), (8, .iadd, 1), (9, .laload, 1), (10, (.iload_n 3), 1), (11, (.invokestatic 31), 3), (14, .ireturn, 1)]
theorem tb_b54_ok : ∀ e ∈ tb_b54, decode prog_10_method_4_code e.1 = .ok e.2 := dp_dec (by decide +kernel)
def tb_b55 : List (Nat × Instr × Nat) := [(0, (.aload_n 0), 1), (1, (.getfield 27), 3), (4, (.getfield 113), 3), (7, (.iload_n 1), 1), (8, .iaload, 1), (9, (.bipush (7)), 2), (11, (.if_icmp .eq (15)), 3), (14, (.aload_n 0), 1), (15, (.getfield 27), 3), (18, (.iload_n 1), 1), (19, (.invokevirtual 106), 3), (22, (.ifCond .ne (4)), 3), (25, .return_, 1), (26, (.aload_n 0), 1), (27, (.getfield 27), 3), (30, (.getfield 96), 3), (33, (.iload_n 1), 1), (34, .iaload, 1), (35, (.istore_n 2), 1), (36, (.aload_n 0), 1), (37, (.getfield 27), 3), (40, (.iload_n 1), 1), (41, (.invokevirtual 106), 3), (44, (.ifCond .eq (11)), 3), (47, (.iload_n 1), 1), (48, (.iconst (3)), 1), (49, (.invokestatic 54), 3), (52, (.goto (4)), 3), (55, (.iload_n 1), 1), (56, (.istore_n 3), 1), (57, (.aload_n 0), 1), (58, (.iconst (2)), 1), (59, (.iload_n 3), 1), (60, (.iload_n 2), 1), (61, (.iconst (3)), 1), (62, (.invokestatic 99), 3), (65, (.invokevirtual 102), 3), (68, (.aload_n 0), 1), (69, (.getfield 27), 3), (72, (.getfield 126), 3), (75, (.iload_n 2), 1), (76, .iaload, 1), (77, (.istore 4), 2), (79, (.iload 4), 2), (81, (.aload_n 0), 1), (82, (.getfield 27), 3), (85, (.getfield 129), 3), (88, (.iload_n 2), 1), (89, .iaload, 1), (90, (.if_icmp .ge (33)), 3), (93, (.aload_n 0), 1), (94, (.getfield 36), 3), (97, (.iload 4), 2), (99, (.iload_n 1), 1), (100, (.invokevirtual 145), 3), (103, (.ifCond .eq (14)), 3), (106, (.aload_n 0), 1), (107, (.iconst (2)), 1), (108, (.iload_n 3), 1), (109, (.iload 4), 2), (111, (.bipush (8)), 2), (113, (.iconst (5)), 1), (114, (.invokevirtual 148), 3), (117, (.iinc 4 (1)), 3), (120, (.goto (-41)), 3), (123, .return_, 1)]
theorem tb_b55_ok : ∀ e ∈ tb_b55, decode prog_3_method_14_code e.1 = .ok e.2 := dp_dec (by decide +kernel)
def tb_b56 : List (Nat × Instr × Nat) := [(0, (.aload_n 0), 1), (1, (.getfield 18), 3), (4, (.iload_n 1), 1), (5, .laload, 1), (6, (.iload_n 2), 1), (7, (.invokestatic 31), 3), (10, .ireturn, 1)]
theorem tb_b56_ok : ∀ e ∈ tb_b56, decode prog_10_method_2_code e.1 = .ok e.2 := dp_dec (by decide +kernel)
end
section
def tb_b57 : List (Nat × Instr × Nat) := [(0, (.aload_n 0), 1), (1, (.getfield 27), 3), (4, (.getfield 113), 3), (7, (.iload_n 3), 1), (8, .iaload, 1), (9, (.iload 4), 2), (11, (.if_icmp .ne (13)), 3), (14, (.aload_n 0), 1), (15, (.iload_n 1), 1), (16, (.iload_n 2), 1), (17, (.iload_n 3), 1), (18, (.invokevirtual 102), 3), (21, (.goto (26)), 3), (24, (.aload_n 0), 1), (25, (.getfield 27), 3), (28, (.iload_n 3), 1), (29, (.invokevirtual 106), 3), (32, (.ifCond .eq (15)), 3), (35, (.aload_n 0), 1), (36, (.iload_n 1), 1), (37, (.iload_n 2), 1), (38, (.iload_n 3), 1), (39, (.iload 5), 2), (41, (.invokestatic 54), 3), (44, (.invokevirtual 102), 3), (47, .return_, 1)]
theorem tb_b57_ok : ∀ e ∈ tb_b57, decode prog_3_method_17_code e.1 = .ok e.2 := dp_dec (by decide +kernel)
def tb_b58 : List (Nat × Instr × Nat) := [(0, (.aload_n 0), 1), (1, (.getfield 27), 3), (4, (.getfield 96), 3), (7, (.iload_n 1), 1), (8, .iaload, 1), (9, (.istore_n 2), 1), (10, (.aload_n 0), 1), (11, (.getfield 27), 3), (14, (.getfield 126), 3), (17, (.iload_n 2), 1), (18, .iaload, 1), (19, (.istore_n 3), 1), (20, (.iload_n 3), 1), (21, (.aload_n 0), 1), (22, (.getfield 27), 3), (25, (.getfield 129), 3), (28, (.iload_n 2), 1), (29, .iaload, 1), (30, (.if_icmp .ge (31)), 3), (33, (.aload_n 0), 1), (34, (.getfield 36), 3), (37, (.iload_n 3), 1), (38, (.iload_n 1), 1), (39, (.invokevirtual 145), 3), (42, (.ifCond .eq (13)), 3), (45, (.aload_n 0), 1), (46, (.iconst (3)), 1), (47, (.iload_n 1), 1), (48, (.iload_n 3), 1), (49, (.iconst (5)), 1), (50, (.bipush (6)), 2), (52, (.invokevirtual 148), 3), (55, (.iinc 3 (1)), 3), (58, (.goto (-38)), 3), (61, .return_, 1)]
theorem tb_b58_ok : ∀ e ∈ tb_b58, decode prog_3_method_15_code e.1 = .ok e.2 := dp_dec (by decide +kernel)
def tb_b59 : List (Nat × Instr × Nat) := [(0, (.aload_n 0), 1), (1, (.iload_n 1), 1), (2, (.iconst (4)), 1), (3, (.invokestatic 99), 3), (6, (.aload_n 0), 1), (7, (.getfield 27), 3), (10, (.getfield 129), 3), (13, (.iload_n 1), 1), (14, .iaload, 1), (15, (.iconst (0)), 1), (16, (.iload_n 1), 1), (17, (.invokevirtual 119), 3), (20, (.aload_n 0), 1), (21, (.getfield 27), 3), (24, (.getfield 126), 3), (27, (.iload_n 1), 1), (28, .iaload, 1), (29, (.istore_n 2), 1), (30, (.iload_n 2), 1), (31, (.aload_n 0), 1), (32, (.getfield 27), 3), (35, (.getfield 129), 3), (38, (.iload_n 1), 1), (39, .iaload, 1), (40, (.if_icmp .ge (38)), 3), (43, (.aload_n 0), 1), (44, (.iconst (2)), 1), (45, (.iload_n 1), 1), (46, (.iconst (5)), 1), (47, (.invokestatic 99), 3), (50, (.iload_n 2), 1), (51, (.bipush (8)), 2), (53, (.iconst (5)), 1), (54, (.invokevirtual 148), 3), (57, (.aload_n 0), 1), (58, (.iconst (3)), 1), (59, (.iload_n 1), 1), (60, (.bipush (6)), 2), (62, (.invokestatic 99), 3), (65, (.iload_n 2), 1), (66, (.iconst (5)), 1), (67, (.bipush (6)), 2), (69, (.invokevirtual 148), 3), (72, (.iinc 2 (1)), 3), (75, (.goto (-45)), 3), (78, .return_, 1)]
theorem tb_b59_ok : ∀ e ∈ tb_b59, decode prog_3_method_16_code e.1 = .ok e.2 := dp_dec (by decide +kernel)
def tb_b60 : List (Nat × Instr × Nat) := [(0, (.iconst (1)), 1), (1, (.istore_n 1), 1), (2, (.iconst (0)), 1), (3, (.istore_n 2), 1), (4, (.iload_n 2), 1), (5, (.sipush (252)), 3), (8, (.if_icmp .ge (60)), 3), (11, (.iload_n 1), 1), (12, (.ifCond .eq (56)), 3), (15, (.iconst (0)), 1), (16, (.istore_n 1), 1), (17, (.iconst (0)), 1), (18, (.istore_n 3), 1), (19, (.iload_n 3), 1), (20, (.aload_n 0), 1), (21, (.getfield 18), 3), (24, (.getfield 34), 3), (27, (.if_icmp .ge (35)), 3), (30, (.iconst (4)), 1), (31, (.istore 4), 2), (33, (.iload 4), 2), (35, (.bipush (6)), 2), (37, (.if_icmp .gt (19)), 3), (40, (.iload_n 1), 1), (41, (.aload_n 0), 1), (42, (.iload_n 3), 1), (43, (.iload 4), 2), (45, (.invokevirtual 40), 3), (48, .ior, 1), (49, (.istore_n 1), 1), (50, (.iinc 4 (1)), 3), (53, (.goto (-20)), 3), (56, (.iinc 3 (1)), 3), (59, (.goto (-40)), 3), (62, (.iinc 2 (1)), 3), (65, (.goto (-61)), 3), (68, .return_, 1)]
theorem tb_b60_ok : ∀ e ∈ tb_b60, decode prog_9_method_4_code e.1 = .ok e.2 := dp_dec (by decide +kernel)
def tb_b61 : List (Nat × Instr × Nat) := [(0, (.aload_n 0), 1), (1, (.iload_n 1), 1), (2, (.iload_n 2), 1), (3, (.invokestatic 44), 3), (6, (.invokevirtual 26), 3), (9, (.aload_n 0), 1), (10, (.iconst (0)), 1), (11, (.iconst (0)), 1), (12, (.invokevirtual 30), 3), (15, (.iconst (0)), 1), (16, (.istore_n 3), 1), (17, (.iconst (1)), 1), (18, (.istore 4), 2), (20, (.iload 4), 2), (22, (.iconst (3)), 1), (23, (.if_icmp .gt (60)), 3), (26, (.aload_n 0), 1), (27, (.getfield 9), 3), (30, (.bipush (7)), 2), (32, .iaload, 1), (33, (.iload_n 1), 1), (34, (.bipush (7)), 2), (36, .imul, 1), (37, (.iload 4), 2), (39, .iadd, 1), (40, (.invokestatic 48), 3), (43, (.istore 5), 2), (45, (.iload 5), 2), (47, (.ifCond .eq (30)), 3), (50, (.aload_n 0), 1), (51, (.getfield 22), 3), (54, (.iload_n 1), 1), (55, (.iload_n 2), 1), (56, (.iload 4), 2), (58, (.invokevirtual 51), 3), (61, (.ifCond .ne (16)), 3), (64, (.aload_n 0), 1), (65, (.getfield 22), 3), (68, (.iload_n 1), 1), (69, (.iload_n 2), 1), (70, (.iload 4), 2), (72, (.invokevirtual 57), 3), (75, (.iconst (1)), 1), (76, (.istore_n 3), 1), (77, (.iinc 4 (1)), 3), (80, (.goto (-60)), 3), (83, (.iload_n 3), 1), (84, .ireturn, 1)]
theorem tb_b61_ok : ∀ e ∈ tb_b61, decode prog_9_method_5_code e.1 = .ok e.2 := dp_dec (by decide +kernel)
def tb_b62 : List (Nat × Instr × Nat) := [(0, (.aload_n 0), 1), (1, (.getfield 9), 3), (4, (.iconst (0)), 1), (5, (.invokestatic 61), 3), (8, (.aload_n 0), 1), (9, (.iconst (0)), 1), (10, (.putfield 67), 3), (13, (.aload_n 0), 1), (14, (.iload_n 1), 1), (15, (.invokevirtual 70), 3), (18, .return_, 1)]
theorem tb_b62_ok : ∀ e ∈ tb_b62, decode prog_9_method_6_code e.1 = .ok e.2 := dp_dec (by decide +kernel)
def tb_b63 : List (Nat × Instr × Nat) := [(0, (.iconst (1)), 1), (1, (.iload_n 1), 1), (2, (.bipush (32)), 2), (4, .irem, 1), (5, .ishl, 1), (6, (.istore_n 2), 1), (7, (.aload_n 0), 1), (8, (.getfield 9), 3), (11, (.iload_n 1), 1), (12, (.bipush (32)), 2), (14, .idiv, 1), (15, .iaload, 1), (16, (.iload_n 2), 1), (17, .iand, 1), (18, (.ifCond .ne (36)), 3), (21, (.aload_n 0), 1), (22, (.getfield 9), 3), (25, (.iload_n 1), 1), (26, (.bipush (32)), 2), (28, .idiv, 1), (29, .dup2, 1), (30, .iaload, 1), (31, (.iload_n 2), 1), (32, .ior, 1), (33, .iastore, 1), (34, (.aload_n 0), 1), (35, (.getfield 15), 3), (38, (.aload_n 0), 1), (39, (.getfield 67), 3), (42, (.iload_n 1), 1), (43, .iastore, 1), (44, (.aload_n 0), 1), (45, .dup, 1), (46, (.getfield 67), 3), (49, (.iconst (1)), 1), (50, .iadd, 1), (51, (.putfield 67), 3), (54, .return_, 1)]
theorem tb_b63_ok : ∀ e ∈ tb_b63, decode prog_9_method_7_code e.1 = .ok e.2 := dp_dec (by decide +kernel)
def tb_b64 : List (Nat × Instr × Nat) := [(0, (.iconst (0)), 1), (1, (.istore_n 3), 1), (2, (.iload_n 3), 1), (3, (.sipush (252)), 3), (6, (.if_icmp .ge (101)), 3), (9, (.iload_n 3), 1), (10, (.aload_n 0), 1), (11, (.getfield 67), 3), (14, (.if_icmp .ge (93)), 3), (17, (.aload_n 0), 1), (18, (.getfield 15), 3), (21, (.iload_n 3), 1), (22, .iaload, 1), (23, (.istore 4), 2), (25, (.iconst (0)), 1), (26, (.istore 5), 2), (28, (.iload 5), 2), (30, (.bipush (8)), 2), (32, (.if_icmp .ge (27)), 3), (35, (.aload_n 0), 1), (36, (.iload 5), 2), (38, (.aload_n 0), 1), (39, (.getfield 22), 3), (42, (.iload 4), 2), (44, (.iload 5), 2), (46, (.iload_n 2), 1), (47, (.invokevirtual 73), 3), (50, (.invokevirtual 77), 3), (53, (.iinc 5 (1)), 3), (56, (.goto (-28)), 3), (59, (.iload_n 1), 1), (60, (.iconst (1)), 1), (61, (.if_icmp .ne (22)), 3), (64, (.aload_n 0), 1), (65, (.iload 4), 2), (67, (.invokestatic 81), 3), (70, (.aload_n 0), 1), (71, (.iload 4), 2), (73, (.iload_n 2), 1), (74, (.invokevirtual 85), 3), (77, (.invokevirtual 77), 3), (80, (.goto (21)), 3), (83, (.iload_n 1), 1), (84, (.iconst (2)), 1), (85, (.if_icmp .ne (16)), 3), (88, (.aload_n 0), 1), (89, (.bipush (7)), 2), (91, (.aload_n 0), 1), (92, (.iload 4), 2), (94, (.iload_n 2), 1), (95, (.invokevirtual 89), 3), (98, (.invokevirtual 77), 3), (101, (.iinc 3 (1)), 3), (104, (.goto (-102)), 3), (107, .return_, 1)]
theorem tb_b64_ok : ∀ e ∈ tb_b64, decode prog_9_method_9_code e.1 = .ok e.2 := dp_dec (by decide +kernel)
def tb_b65 : List (Nat × Instr × Nat) := [(0, (.iload_n 3), 1), (1, (.ifCond .eq (17)), 3), (4, (.aload_n 0), 1), (5, (.getfield 15), 3), (8, (.iload_n 1), 1), (9, (.bipush (8)), 2), (11, .imul, 1), (12, (.iload_n 2), 1), (13, .iadd, 1), (14, .iaload, 1), (15, (.goto (14)), 3), (18, (.aload_n 0), 1), (19, (.getfield 9), 3), (22, (.iload_n 1), 1), (23, (.bipush (8)), 2), (25, .imul, 1), (26, (.iload_n 2), 1), (27, .iadd, 1), (28, .iaload, 1), (29, .ireturn, 1)]
theorem tb_b65_ok : ∀ e ∈ tb_b65, decode prog_3_method_3_code e.1 = .ok e.2 := dp_dec (by decide +kernel)
def tb_b66 : List (Nat × Instr × Nat) := [(0, (.iload_n 2), 1), (1, (.aload_n 0), 1), (2, (.getfield 9), 3), (5, (.iload_n 1), 1), (6, .iaload, 1), (7, (.iconst (-1)), 1), (8, .ixor, 1), (9, .iand, 1), (10, (.istore_n 3), 1), (11, (.iconst (0)), 1), (12, (.istore 4), 2), (14, (.iload 4), 2), (16, (.bipush (32)), 2), (18, (.if_icmp .ge (33)), 3), (21, (.iload_n 3), 1), (22, (.ifCond .eq (29)), 3), (25, (.iload_n 3), 1), (26, (.iload 4), 2), (28, (.invokestatic 48), 3), (31, (.ifCond .eq (14)), 3), (34, (.aload_n 0), 1), (35, (.iload_n 1), 1), (36, (.bipush (32)), 2), (38, .imul, 1), (39, (.iload 4), 2), (41, .iadd, 1), (42, (.invokevirtual 70), 3), (45, (.iinc 4 (1)), 3), (48, (.goto (-34)), 3), (51, .return_, 1)]
theorem tb_b66_ok : ∀ e ∈ tb_b66, decode prog_9_method_8_code e.1 = .ok e.2 := dp_dec (by decide +kernel)
def tb_b67 : List (Nat × Instr × Nat) := [(0, (.iload_n 0), 1), (1, (.iload_n 1), 1), (2, .iushr, 1), (3, (.iconst (1)), 1), (4, .iand, 1), (5, (.ifCond .eq (7)), 3), (8, (.iconst (1)), 1), (9, (.goto (4)), 3), (12, (.iconst (0)), 1), (13, .ireturn, 1)]
theorem tb_b67_ok : ∀ e ∈ tb_b67, decode prog_1_method_23_code e.1 = .ok e.2 := dp_dec (by decide +kernel)
def tb_b68 : List (Nat × Instr × Nat) := [(0, (.iload_n 0), 1), (1, (.sipush (224)), 3), (4, (.if_icmp .ge (10)), 3), (7, (.iload_n 0), 1), (8, (.bipush (32)), 2), (10, .idiv, 1), (11, (.goto (11)), 3), (14, (.iload_n 0), 1), (15, (.sipush (224)), 3), (18, .isub, 1), (19, (.bipush (7)), 2), (21, .irem, 1), (22, .ireturn, 1)]
theorem tb_b68_ok : ∀ e ∈ tb_b68, decode prog_9_method_10_code e.1 = .ok e.2 := dp_dec (by decide +kernel)
def tb_b69 : List (Nat × Instr × Nat) := [(0, (.iload_n 1), 1), (1, (.sipush (224)), 3), (4, (.if_icmp .lt (14)), 3), (7, (.iload_n 1), 1), (8, (.invokestatic 81), 3), (11, (.invokestatic 92), 3), (14, (.iload_n 2), 1), (15, (.if_icmp .eq (5)), 3), (18, (.iconst (0)), 1), (19, .ireturn, 1), (20, (.aload_n 0), 1), (21, (.getfield 22), 3), (24, (.iload_n 1), 1), (25, (.sipush (224)), 3), (28, .isub, 1), (29, (.bipush (7)), 2), (31, .idiv, 1), (32, (.invokevirtual 96), 3), (35, .ireturn, 1)]
theorem tb_b69_ok : ∀ e ∈ tb_b69, decode prog_9_method_11_code e.1 = .ok e.2 := dp_dec (by decide +kernel)
def tb_b70 : List (Nat × Instr × Nat) := [(0, (.iload_n 0), 1), (1, (.iconst (4)), 1), (2, (.if_icmp .lt (7)), 3), (5, (.iconst (1)), 1), (6, (.goto (4)), 3), (9, (.iconst (0)), 1), (10, .ireturn, 1)]
theorem tb_b70_ok : ∀ e ∈ tb_b70, decode prog_9_method_13_code e.1 = .ok e.2 := dp_dec (by decide +kernel)
def tb_b71 : List (Nat × Instr × Nat) := [(0, (.aload_n 0), 1), (1, (.getfield 21), 3), (4, (.iload_n 1), 1), (5, .iaload, 1), (6, .ireturn, 1)]
theorem tb_b71_ok : ∀ e ∈ tb_b71, decode prog_3_method_2_code e.1 = .ok e.2 := dp_dec (by decide +kernel)
def tb_b72 : List (Nat × Instr × Nat) := [(0, (.iload_n 1), 1), (1, (.bipush (32)), 2), (3, .irem, 1), (4, (.istore_n 3), 1), (5, (.iload_n 1), 1), (6, (.sipush (224)), 3), (9, (.if_icmp .ge (25)), 3), (12, (.aload_n 0), 1), (13, (.getfield 18), 3), (16, (.iload_n 3), 1), (17, (.invokevirtual 99), 3), (20, (.ifCond .eq (14)), 3), (23, (.iload_n 1), 1), (24, (.invokestatic 81), 3), (27, (.invokestatic 92), 3), (30, (.iload_n 2), 1), (31, (.if_icmp .ne (5)), 3), (34, (.iconst (0)), 1), (35, .ireturn, 1), (36, (.iconst (1)), 1), (37, (.aload_n 0), 1), (38, (.getfield 18), 3), (41, (.iload_n 3), 1), (42, (.invokevirtual 102), 3), (45, (.bipush (7)), 2), (47, .imul, 1), (48, (.iload_n 1), 1), (49, (.invokestatic 81), 3), (52, .iadd, 1), (53, .ishl, 1), (54, .ireturn, 1)]
theorem tb_b72_ok : ∀ e ∈ tb_b72, decode prog_9_method_12_code e.1 = .ok e.2 := dp_dec (by decide +kernel)
def tb_b73 : List (Nat × Instr × Nat) := [(0, (.aload_n 0), 1), (1, (.getfield 24), 3), (4, (.iload_n 1), 1), (5, .iaload, 1), (6, (.iload_n 2), 1), (7, (.iload_n 3), 1), (8, (.invokestatic 44), 3), (11, (.invokestatic 40), 3), (14, .ireturn, 1)]
theorem tb_b73_ok : ∀ e ∈ tb_b73, decode prog_3_method_5_code e.1 = .ok e.2 := dp_dec (by decide +kernel)
def tb_b74 : List (Nat × Instr × Nat) := [(0, (.iload_n 0), 1), (1, (.iconst (4)), 1), (2, .isub, 1), (3, (.iconst (3)), 1), (4, .imul, 1), (5, (.iload_n 1), 1), (6, .iadd, 1), (7, (.iconst (1)), 1), (8, .isub, 1), (9, .ireturn, 1)]
theorem tb_b74_ok : ∀ e ∈ tb_b74, decode prog_3_method_6_code e.1 = .ok e.2 := dp_dec (by decide +kernel)
def tb_b75 : List (Nat × Instr × Nat) := [(0, (.aload_n 0), 1), (1, (.getfield 24), 3), (4, (.iload_n 1), 1), (5, .dup2, 1), (6, .iaload, 1), (7, (.iconst (1)), 1), (8, (.iload_n 2), 1), (9, (.iload_n 3), 1), (10, (.invokestatic 44), 3), (13, .ishl, 1), (14, .ior, 1), (15, .iastore, 1), (16, (.iconst (0)), 1), (17, (.istore 4), 2), (19, (.iload 4), 2), (21, (.aload_n 0), 1), (22, (.getfield 27), 3), (25, (.getfield 48), 3), (28, (.if_icmp .ge (39)), 3), (31, (.aload_n 0), 1), (32, (.getfield 21), 3), (35, (.iload_n 1), 1), (36, .iaload, 1), (37, (.iload 4), 2), (39, (.invokestatic 40), 3), (42, (.ifCond .eq (19)), 3), (45, (.aload_n 0), 1), (46, (.iload 4), 2), (48, (.iload_n 2), 1), (49, (.invokestatic 54), 3), (52, (.iload 4), 2), (54, (.iload_n 3), 1), (55, (.invokestatic 54), 3), (58, (.invokevirtual 57), 3), (61, (.iinc 4 (1)), 3), (64, (.goto (-45)), 3), (67, .return_, 1)]
theorem tb_b75_ok : ∀ e ∈ tb_b75, decode prog_3_method_7_code e.1 = .ok e.2 := dp_dec (by decide +kernel)
def tb_b76 : List (Nat × Instr × Nat) := [(0, (.iconst (0)), 1), (1, (.istore_n 2), 1), (2, (.iload_n 2), 1), (3, (.aload_n 0), 1), (4, (.getfield 15), 3), (7, (.getfield 23), 3), (10, (.if_icmp .ge (34)), 3), (13, (.aload_n 0), 1), (14, (.iload_n 2), 1), (15, (.invokevirtual 29), 3), (18, (.ifCond .eq (20)), 3), (21, (.aload_n 1), 1), (22, (.iload_n 2), 1), (23, (.iconst (0)), 1), (24, (.invokevirtual 33), 3), (27, (.aload_n 0), 1), (28, (.getfield 9), 3), (31, (.iload_n 2), 1), (32, (.aload_n 1), 1), (33, (.iconst (0)), 1), (34, (.invokevirtual 39), 3), (37, .iastore, 1), (38, (.iinc 2 (1)), 3), (41, (.goto (-39)), 3), (44, .return_, 1)]
theorem tb_b76_ok : ∀ e ∈ tb_b76, decode prog_4_method_2_code e.1 = .ok e.2 := dp_dec (by decide +kernel)
def tb_b77 : List (Nat × Instr × Nat) := [(0, (.aload_n 0), 1), (1, (.getfield 15), 3), (4, (.getfield 43), 3), (7, (.iload_n 1), 1), (8, .iaload, 1), (9, (.bipush (17)), 2), (11, (.if_icmp .eq (16)), 3), (14, (.aload_n 0), 1), (15, (.getfield 15), 3), (18, (.getfield 43), 3), (21, (.iload_n 1), 1), (22, .iaload, 1), (23, (.iconst (5)), 1), (24, (.if_icmp .ne (7)), 3), (27, (.iconst (1)), 1), (28, (.goto (4)), 3), (31, (.iconst (0)), 1), (32, .ireturn, 1)]
theorem tb_b77_ok : ∀ e ∈ tb_b77, decode prog_4_method_3_code e.1 = .ok e.2 := dp_dec (by decide +kernel)
def tb_b78 : List (Nat × Instr × Nat) := [(0, (.aload_n 0), 1), (1, (.iload_n 1), 1), (2, (.invokevirtual 26), 3), (5, (.aload_n 0), 1), (6, (.iconst (1)), 1), (7, (.iload_n 2), 1), (8, (.invokevirtual 30), 3), (11, (.aload_n 0), 1), (12, (.iconst (2)), 1), (13, (.iload_n 2), 1), (14, (.invokevirtual 30), 3), (17, .return_, 1)]
theorem tb_b78_ok : ∀ e ∈ tb_b78, decode prog_9_method_3_code e.1 = .ok e.2 := dp_dec (by decide +kernel)
def tb_b79 : List (Nat × Instr × Nat) := [(0, (.aload_n 0), 1), (1, (.getfield 9), 3), (4, (.iload_n 1), 1), (5, .iaload, 1), (6, .ireturn, 1)]
theorem tb_b79_ok : ∀ e ∈ tb_b79, decode prog_9_method_2_code e.1 = .ok e.2 := dp_dec (by decide +kernel)
def tb_b80 : List (Nat × Instr × Nat) := [(0, (.iload_n 1), 1), (1, (.iconst (1)), 1), (2, (.if_icmp .lt (8)), 3), (5, (.iload_n 1), 1), (6, (.iconst (5)), 1), (7, (.if_icmp .le (5)), 3), (10, (.iconst (0)), 1), (11, .ireturn, 1), (12, (.aload_n 0), 1), (13, (.getfield 44), 3), (16, (.iload_n 1), 1), (17, (.invokevirtual 103), 3), (20, (.iconst (1)), 1), (21, .ireturn, 1)]
theorem tb_b80_ok : ∀ e ∈ tb_b80, decode prog_1_method_5_code e.1 = .ok e.2 := dp_dec (by decide +kernel)
def tb_b81 : List (Nat × Instr × Nat) := [(0, (.aload_n 0), 1), (1, (.iload_n 1), 1), (2, (.putfield 21), 3), (5, (.iconst (0)), 1), (6, (.istore_n 2), 1), (7, (.iload_n 2), 1), (8, (.iload_n 1), 1), (9, (.if_icmp .ge (18)), 3), (12, (.aload_n 0), 1), (13, (.getfield 9), 3), (16, (.iload_n 2), 1), (17, (.iconst (1)), 1), (18, (.iload_n 2), 1), (19, .ishl, 1), (20, .iastore, 1), (21, (.iinc 2 (1)), 3), (24, (.goto (-17)), 3), (27, (.aload_n 0), 1), (28, (.getfield 15), 3), (31, (.iconst (0)), 1), (32, (.invokestatic 25), 3), (35, (.aload_n 0), 1), (36, (.getfield 18), 3), (39, (.iconst (0)), 1), (40, (.invokestatic 25), 3), (43, .return_, 1)]
theorem tb_b81_ok : ∀ e ∈ tb_b81, decode prog_7_method_2_code e.1 = .ok e.2 := dp_dec (by decide +kernel)
def tb_b82 : List (Nat × Instr × Nat) := [(0, (.aload_n 0), 1), (1, (.getfield 44), 3), (4, (.iload_n 1), 1), (5, (.invokevirtual 107), 3), (8, (.ifCond .eq (14)), 3), (11, (.aload_n 0), 1), (12, (.getfield 44), 3), (15, (.iload_n 2), 1), (16, (.invokevirtual 107), 3), (19, (.ifCond .ne (5)), 3), (22, (.iconst (0)), 1), (23, .ireturn, 1), (24, (.aload_n 0), 1), (25, (.getfield 44), 3), (28, (.iload_n 1), 1), (29, (.iload_n 2), 1), (30, (.invokevirtual 111), 3), (33, (.iconst (1)), 1), (34, .ireturn, 1)]
theorem tb_b82_ok : ∀ e ∈ tb_b82, decode prog_1_method_6_code e.1 = .ok e.2 := dp_dec (by decide +kernel)
def tb_b83 : List (Nat × Instr × Nat) := [(0, (.iload_n 1), 1), (1, (.ifCond .lt (15)), 3), (4, (.iload_n 1), 1), (5, (.aload_n 0), 1), (6, (.getfield 21), 3), (9, (.if_icmp .ge (7)), 3), (12, (.iconst (1)), 1), (13, (.goto (4)), 3), (16, (.iconst (0)), 1), (17, .ireturn, 1)]
theorem tb_b83_ok : ∀ e ∈ tb_b83, decode prog_7_method_3_code e.1 = .ok e.2 := dp_dec (by decide +kernel)
def tb_b84 : List (Nat × Instr × Nat) := [(0, (.iconst (0)), 1), (1, (.istore_n 3), 1), (2, (.iload_n 3), 1), (3, (.aload_n 0), 1), (4, (.getfield 21), 3), (7, (.if_icmp .ge (33)), 3), (10, (.aload_n 0), 1), (11, (.iload_n 3), 1), (12, (.iload_n 1), 1), (13, (.invokevirtual 31), 3), (16, (.ifCond .eq (18)), 3), (19, (.aload_n 0), 1), (20, (.getfield 9), 3), (23, (.iload_n 3), 1), (24, .dup2, 1), (25, .iaload, 1), (26, (.aload_n 0), 1), (27, (.getfield 9), 3), (30, (.iload_n 2), 1), (31, .iaload, 1), (32, .ior, 1), (33, .iastore, 1), (34, (.iinc 3 (1)), 3), (37, (.goto (-35)), 3), (40, .return_, 1)]
theorem tb_b84_ok : ∀ e ∈ tb_b84, decode prog_7_method_4_code e.1 = .ok e.2 := dp_dec (by decide +kernel)
def tb_b85 : List (Nat × Instr × Nat) := [(0, (.aload_n 0), 1), (1, (.getfield 9), 3), (4, (.iload_n 1), 1), (5, .iaload, 1), (6, (.iload_n 2), 1), (7, (.invokestatic 35), 3), (10, .ireturn, 1)]
theorem tb_b85_ok : ∀ e ∈ tb_b85, decode prog_7_method_5_code e.1 = .ok e.2 := dp_dec (by decide +kernel)
def tb_b86 : List (Nat × Instr × Nat) := [(0, (.iload_n 2), 1), (1, (.invokestatic 115), 3), (4, (.ifCond .eq (14)), 3), (7, (.aload_n 0), 1), (8, (.getfield 44), 3), (11, (.iload_n 3), 1), (12, (.invokevirtual 107), 3), (15, (.ifCond .ne (5)), 3), (18, (.iconst (0)), 1), (19, .ireturn, 1), (20, (.aload_n 0), 1), (21, (.getfield 44), 3), (24, (.iload_n 1), 1), (25, (.iload_n 2), 1), (26, (.iload_n 3), 1), (27, (.invokevirtual 118), 3), (30, (.iconst (1)), 1), (31, .ireturn, 1)]
theorem tb_b86_ok : ∀ e ∈ tb_b86, decode prog_1_method_7_code e.1 = .ok e.2 := dp_dec (by decide +kernel)
def tb_b87 : List (Nat × Instr × Nat) := [(0, (.iload_n 1), 1), (1, (.ifCond .eq (13)), 3), (4, (.aload_n 0), 1), (5, (.getfield 18), 3), (8, (.iload_n 2), 1), (9, (.iload_n 3), 1), (10, .iastore, 1), (11, (.goto (10)), 3), (14, (.aload_n 0), 1), (15, (.getfield 15), 3), (18, (.iload_n 2), 1), (19, (.iload_n 3), 1), (20, .iastore, 1), (21, .return_, 1)]
theorem tb_b87_ok : ∀ e ∈ tb_b87, decode prog_7_method_6_code e.1 = .ok e.2 := dp_dec (by decide +kernel)
def tb_b88 : List (Nat × Instr × Nat) := [(0, (.aload_n 0), 1), (1, (.getfield 44), 3), (4, (.invokevirtual 122), 3), (7, .ireturn, 1)]
theorem tb_b88_ok : ∀ e ∈ tb_b88, decode prog_1_method_8_code e.1 = .ok e.2 := dp_dec (by decide +kernel)
def tb_b89 : List (Nat × Instr × Nat) := [(0, (.aload_n 0), 1), (1, (.invokevirtual 38), 3), (4, (.ifCond .eq (5)), 3), (7, (.iconst (1)), 1), (8, .ireturn, 1), (9, (.aload_n 0), 1), (10, (.invokevirtual 42), 3), (13, (.ifCond .ne (5)), 3), (16, (.iconst (2)), 1), (17, .ireturn, 1), (18, (.aload_n 0), 1), (19, (.invokevirtual 45), 3), (22, (.iconst (-1)), 1), (23, (.if_icmp .ne (7)), 3), (26, (.iconst (3)), 1), (27, (.goto (4)), 3), (30, (.iconst (0)), 1), (31, .ireturn, 1)]
theorem tb_b89_ok : ∀ e ∈ tb_b89, decode prog_7_method_9_code e.1 = .ok e.2 := dp_dec (by decide +kernel)
def tb_b90 : List (Nat × Instr × Nat) := [(0, (.iconst (0)), 1), (1, (.istore_n 1), 1), (2, (.iload_n 1), 1), (3, (.aload_n 0), 1), (4, (.getfield 21), 3), (7, (.if_icmp .ge (42)), 3), (10, (.iconst (0)), 1), (11, (.istore_n 2), 1), (12, (.iload_n 2), 1), (13, (.iload_n 1), 1), (14, (.if_icmp .ge (29)), 3), (17, (.aload_n 0), 1), (18, (.iload_n 1), 1), (19, (.iload_n 2), 1), (20, (.invokevirtual 31), 3), (23, (.ifCond .eq (14)), 3), (26, (.aload_n 0), 1), (27, (.iload_n 2), 1), (28, (.iload_n 1), 1), (29, (.invokevirtual 31), 3), (32, (.ifCond .eq (5)), 3), (35, (.iconst (1)), 1), (36, .ireturn, 1), (37, (.iinc 2 (1)), 3), (40, (.goto (-28)), 3), (43, (.iinc 1 (1)), 3), (46, (.goto (-44)), 3), (49, (.iconst (0)), 1), (50, .ireturn, 1)]
theorem tb_b90_ok : ∀ e ∈ tb_b90, decode prog_7_method_10_code e.1 = .ok e.2 := dp_dec (by decide +kernel)
def tb_b91 : List (Nat × Instr × Nat) := [(0, (.iconst (0)), 1), (1, (.istore_n 1), 1), (2, (.iload_n 1), 1), (3, (.aload_n 0), 1), (4, (.getfield 21), 3), (7, (.if_icmp .ge (44)), 3), (10, (.iconst (0)), 1), (11, (.istore_n 2), 1), (12, (.iload_n 2), 1), (13, (.iload_n 1), 1), (14, (.if_icmp .ge (31)), 3), (17, (.aload_n 0), 1), (18, (.aload_n 0), 1), (19, (.getfield 9), 3), (22, (.iload_n 1), 1), (23, .iaload, 1), (24, (.aload_n 0), 1), (25, (.getfield 9), 3), (28, (.iload_n 2), 1), (29, .iaload, 1), (30, .iand, 1), (31, (.invokevirtual 49), 3), (34, (.ifCond .ne (5)), 3), (37, (.iconst (0)), 1), (38, .ireturn, 1), (39, (.iinc 2 (1)), 3), (42, (.goto (-30)), 3), (45, (.iinc 1 (1)), 3), (48, (.goto (-46)), 3), (51, (.iconst (1)), 1), (52, .ireturn, 1)]
theorem tb_b91_ok : ∀ e ∈ tb_b91, decode prog_7_method_11_code e.1 = .ok e.2 := dp_dec (by decide +kernel)
def tb_b92 : List (Nat × Instr × Nat) := [(0, (.iconst (0)), 1), (1, (.istore_n 2), 1), (2, (.iload_n 2), 1), (3, (.aload_n 0), 1), (4, (.getfield 21), 3), (7, (.if_icmp .ge (32)), 3), (10, (.iload_n 1), 1), (11, (.iload_n 2), 1), (12, (.invokestatic 35), 3), (15, (.ifCond .eq (18)), 3), (18, (.iload_n 1), 1), (19, (.aload_n 0), 1), (20, (.getfield 9), 3), (23, (.iload_n 2), 1), (24, .iaload, 1), (25, (.iconst (-1)), 1), (26, .ixor, 1), (27, .iand, 1), (28, (.ifCond .ne (5)), 3), (31, (.iconst (1)), 1), (32, .ireturn, 1), (33, (.iinc 2 (1)), 3), (36, (.goto (-34)), 3), (39, (.iconst (0)), 1), (40, .ireturn, 1)]
theorem tb_b92_ok : ∀ e ∈ tb_b92, decode prog_7_method_12_code e.1 = .ok e.2 := dp_dec (by decide +kernel)
end
section
def tb_b93 : List (Nat × Instr × Nat) := [(0, (.iconst (1)), 1), (1, (.aload_n 0), 1), (2, (.getfield 21), 3), (5, .ishl, 1), (6, (.iconst (1)), 1), (7, .isub, 1), (8, (.istore_n 1), 1), (9, (.iconst (0)), 1), (10, (.istore_n 2), 1), (11, (.iload_n 2), 1), (12, (.aload_n 0), 1), (13, (.getfield 21), 3), (16, (.if_icmp .ge (21)), 3), (19, (.aload_n 0), 1), (20, (.getfield 9), 3), (23, (.iload_n 2), 1), (24, .iaload, 1), (25, (.iload_n 1), 1), (26, (.if_icmp .ne (5)), 3), (29, (.iload_n 2), 1), (30, .ireturn, 1), (31, (.iinc 2 (1)), 3), (34, (.goto (-23)), 3), (37, (.iconst (-1)), 1), (38, .ireturn, 1)]
theorem tb_b93_ok : ∀ e ∈ tb_b93, decode prog_7_method_13_code e.1 = .ok e.2 := dp_dec (by decide +kernel)
def tb_b94 : List (Nat × Instr × Nat) := [(0, (.aload_n 0), 1), (1, (.getfield 64), 3), (4, (.ifCond .eq (25)), 3), (7, (.aload_n 0), 1), (8, (.getfield 12), 3), (11, (.iload_n 1), 1), (12, (.invokevirtual 125), 3), (15, (.ifCond .eq (14)), 3), (18, (.aload_n 0), 1), (19, (.getfield 12), 3), (22, (.iload_n 2), 1), (23, (.invokevirtual 125), 3), (26, (.ifCond .ne (5)), 3), (29, (.iconst (0)), 1), (30, .ireturn, 1), (31, (.aload_n 0), 1), (32, (.getfield 21), 3), (35, (.iload_n 1), 1), (36, (.iload_n 2), 1), (37, (.invokevirtual 128), 3), (40, .ireturn, 1)]
theorem tb_b94_ok : ∀ e ∈ tb_b94, decode prog_1_method_9_code e.1 = .ok e.2 := dp_dec (by decide +kernel)
def tb_b95 : List (Nat × Instr × Nat) := [(0, (.iconst (0)), 1), (1, (.istore_n 3), 1), (2, (.iconst (0)), 1), (3, (.istore 4), 2), (5, (.iload 4), 2), (7, (.iconst (4)), 1), (8, (.if_icmp .ge (35)), 3), (11, (.aload_n 0), 1), (12, (.getfield 18), 3), (15, (.iload 4), 2), (17, (.bipush (32)), 2), (19, .imul, 1), (20, (.iload_n 1), 1), (21, .iadd, 1), (22, .iaload, 1), (23, (.iload_n 2), 1), (24, (.invokestatic 40), 3), (27, (.ifCond .eq (10)), 3), (30, (.iload_n 3), 1), (31, (.iconst (1)), 1), (32, (.iload 4), 2), (34, .ishl, 1), (35, .iadd, 1), (36, (.istore_n 3), 1), (37, (.iinc 4 (1)), 3), (40, (.goto (-35)), 3), (43, (.iload_n 3), 1), (44, .ireturn, 1)]
theorem tb_b95_ok : ∀ e ∈ tb_b95, decode prog_3_method_4_code e.1 = .ok e.2 := dp_dec (by decide +kernel)
def tb_b96 : List (Nat × Instr × Nat) := [(0, (.aload_n 0), 1), (1, (.getfield 64), 3), (4, (.ifCond .eq (32)), 3), (7, (.aload_n 0), 1), (8, (.getfield 12), 3), (11, (.iload_n 1), 1), (12, (.invokevirtual 132), 3), (15, (.ifCond .eq (21)), 3), (18, (.iload_n 2), 1), (19, (.ifCond .lt (17)), 3), (22, (.iload_n 2), 1), (23, (.iconst (2)), 1), (24, (.if_icmp .gt (12)), 3), (27, (.iload_n 3), 1), (28, (.ifCond .lt (8)), 3), (31, (.iload_n 3), 1), (32, (.iconst (2)), 1), (33, (.if_icmp .le (5)), 3), (36, (.iconst (0)), 1), (37, .ireturn, 1), (38, (.aload_n 0), 1), (39, (.getfield 21), 3), (42, (.aload_n 0), 1), (43, (.getfield 12), 3), (46, (.iload_n 1), 1), (47, (.invokevirtual 135), 3), (50, (.iconst (4)), 1), (51, (.iload_n 2), 1), (52, .iadd, 1), (53, (.iconst (1)), 1), (54, (.iload_n 3), 1), (55, .iadd, 1), (56, (.invokevirtual 139), 3), (59, .ireturn, 1)]
theorem tb_b96_ok : ∀ e ∈ tb_b96, decode prog_1_method_10_code e.1 = .ok e.2 := dp_dec (by decide +kernel)
def tb_b97 : List (Nat × Instr × Nat) := [(0, (.aload_n 0), 1), (1, (.getfield 64), 3), (4, (.ifCond .eq (14)), 3), (7, (.aload_n 0), 1), (8, (.getfield 12), 3), (11, (.iload_n 1), 1), (12, (.invokevirtual 125), 3), (15, (.ifCond .ne (5)), 3), (18, (.iconst (-1)), 1), (19, .ireturn, 1), (20, (.aload_n 0), 1), (21, (.getfield 30), 3), (24, (.iload_n 1), 1), (25, (.iload_n 2), 1), (26, (.invokevirtual 143), 3), (29, (.aload_n 0), 1), (30, (.getfield 60), 3), (33, (.iload_n 1), 1), (34, (.iload_n 2), 1), (35, (.aload_n 0), 1), (36, (.getfield 30), 3), (39, (.invokevirtual 147), 3), (42, (.aload_n 0), 1), (43, (.getfield 37), 3), (46, (.invokevirtual 86), 3), (49, (.aload_n 0), 1), (50, (.getfield 60), 3), (53, (.invokevirtual 151), 3), (56, .ireturn, 1)]
theorem tb_b97_ok : ∀ e ∈ tb_b97, decode prog_1_method_11_code e.1 = .ok e.2 := dp_dec (by decide +kernel)
def tb_b98 : List (Nat × Instr × Nat) := [(0, (.aload_n 0), 1), (1, (.getfield 9), 3), (4, (.iconst (0)), 1), (5, (.invokestatic 19), 3), (8, (.aload_n 0), 1), (9, (.aload_n 3), 1), (10, (.invokevirtual 25), 3), (13, (.aload_n 0), 1), (14, (.iconst (1)), 1), (15, (.putfield 15), 3), (18, (.aload_n 0), 1), (19, (.iload_n 2), 1), (20, (.putfield 29), 3), (23, (.aload_n 0), 1), (24, (.iload_n 1), 1), (25, (.putfield 32), 3), (28, .return_, 1)]
theorem tb_b98_ok : ∀ e ∈ tb_b98, decode prog_8_method_3_code e.1 = .ok e.2 := dp_dec (by decide +kernel)
def tb_b99 : List (Nat × Instr × Nat) := [(0, (.iconst (0)), 1), (1, (.istore_n 2), 1), (2, (.iload_n 2), 1), (3, (.bipush (8)), 2), (5, (.if_icmp .ge (23)), 3), (8, (.aload_n 0), 1), (9, (.getfield 9), 3), (12, (.iload_n 2), 1), (13, .dup2, 1), (14, .iaload, 1), (15, (.aload_n 1), 1), (16, (.iload_n 2), 1), (17, (.invokevirtual 76), 3), (20, .ior, 1), (21, .iastore, 1), (22, (.iinc 2 (1)), 3), (25, (.goto (-23)), 3), (28, .return_, 1)]
theorem tb_b99_ok : ∀ e ∈ tb_b99, decode prog_8_method_12_code e.1 = .ok e.2 := dp_dec (by decide +kernel)
def tb_b100 : List (Nat × Instr × Nat) := [(0, (.aload_n 0), 1), (1, (.getfield 9), 3), (4, (.iconst (0)), 1), (5, .iaload, 1), (6, (.invokestatic 36), 3), (9, .ireturn, 1)]
theorem tb_b100_ok : ∀ e ∈ tb_b100, decode prog_8_method_8_code e.1 = .ok e.2 := dp_dec (by decide +kernel)
def tb_b101 : List (Nat × Instr × Nat) := [(0, (.aload_n 0), 1), (1, (.getfield 60), 3), (4, (.invokevirtual 154), 3), (7, (.ifCond .ne (5)), 3), (10, (.iconst (-1)), 1), (11, .ireturn, 1), (12, (.aload_n 0), 1), (13, (.getfield 60), 3), (16, (.aload_n 0), 1), (17, (.getfield 30), 3), (20, (.aload_n 0), 1), (21, (.getfield 12), 3), (24, (.invokevirtual 157), 3), (27, (.aload_n 0), 1), (28, (.getfield 37), 3), (31, (.invokevirtual 86), 3), (34, (.aload_n 0), 1), (35, (.getfield 60), 3), (38, (.invokevirtual 151), 3), (41, .ireturn, 1)]
theorem tb_b101_ok : ∀ e ∈ tb_b101, decode prog_1_method_12_code e.1 = .ok e.2 := dp_dec (by decide +kernel)
def tb_b102 : List (Nat × Instr × Nat) := [(0, (.aload_n 0), 1), (1, (.getfield 15), 3), (4, (.ifCond .eq (14)), 3), (7, (.aload_n 0), 1), (8, (.getfield 29), 3), (11, (.ifCond .ne (7)), 3), (14, (.iconst (1)), 1), (15, (.goto (4)), 3), (18, (.iconst (0)), 1), (19, .ireturn, 1)]
theorem tb_b102_ok : ∀ e ∈ tb_b102, decode prog_8_method_5_code e.1 = .ok e.2 := dp_dec (by decide +kernel)
def tb_b103 : List (Nat × Instr × Nat) := [(0, (.iconst (1)), 1), (1, (.istore_n 3), 1), (2, (.iconst (0)), 1), (3, (.istore 4), 2), (5, (.iload 4), 2), (7, (.sipush (252)), 3), (10, (.if_icmp .ge (58)), 3), (13, (.iload_n 3), 1), (14, (.ifCond .eq (54)), 3), (17, (.iconst (0)), 1), (18, (.istore_n 3), 1), (19, (.iconst (0)), 1), (20, (.istore 5), 2), (22, (.iload 5), 2), (24, (.aload_n 2), 1), (25, (.getfield 42), 3), (28, (.if_icmp .ge (34)), 3), (31, (.aload_n 2), 1), (32, (.iload 5), 2), (34, (.invokevirtual 47), 3), (37, (.ifCond .eq (19)), 3), (40, (.iload_n 3), 1), (41, (.aload_n 0), 1), (42, (.aload_n 1), 1), (43, (.iload 5), 2), (45, (.aload_n 2), 1), (46, (.iload 5), 2), (48, (.invokevirtual 51), 3), (51, (.invokevirtual 54), 3), (54, .ior, 1), (55, (.istore_n 3), 1), (56, (.iinc 5 (1)), 3), (59, (.goto (-37)), 3), (62, (.iinc 4 (1)), 3), (65, (.goto (-60)), 3), (68, .return_, 1)]
theorem tb_b103_ok : ∀ e ∈ tb_b103, decode prog_8_method_9_code e.1 = .ok e.2 := dp_dec (by decide +kernel)
def tb_b104 : List (Nat × Instr × Nat) := [(0, (.iconst (0)), 1), (1, (.istore 4), 2), (3, (.iconst (1)), 1), (4, (.istore 5), 2), (6, (.iload 5), 2), (8, (.iconst (3)), 1), (9, (.if_icmp .gt (39)), 3), (12, (.aload_n 0), 1), (13, (.iload_n 2), 1), (14, (.iload_n 3), 1), (15, (.iload 5), 2), (17, (.invokevirtual 58), 3), (20, (.ifCond .eq (22)), 3), (23, (.aload_n 1), 1), (24, (.iload_n 2), 1), (25, (.iload 5), 2), (27, (.invokestatic 62), 3), (30, (.iconst (0)), 1), (31, (.invokevirtual 66), 3), (34, (.aload_n 0), 1), (35, (.aload_n 1), 1), (36, (.invokevirtual 25), 3), (39, (.iconst (1)), 1), (40, (.istore 4), 2), (42, (.iinc 5 (1)), 3), (45, (.goto (-39)), 3), (48, (.iload 4), 2), (50, .ireturn, 1)]
theorem tb_b104_ok : ∀ e ∈ tb_b104, decode prog_8_method_10_code e.1 = .ok e.2 := dp_dec (by decide +kernel)
def tb_b105 : List (Nat × Instr × Nat) := [(0, (.aload_n 0), 1), (1, (.getfield 9), 3), (4, (.iconst (0)), 1), (5, .iaload, 1), (6, (.iload_n 1), 1), (7, (.invokestatic 72), 3), (10, (.ifCond .eq (39)), 3), (13, (.aload_n 0), 1), (14, (.getfield 9), 3), (17, (.bipush (7)), 2), (19, .iaload, 1), (20, (.iload_n 2), 1), (21, (.bipush (7)), 2), (23, .imul, 1), (24, (.iload_n 3), 1), (25, .iadd, 1), (26, (.invokestatic 72), 3), (29, (.ifCond .eq (20)), 3), (32, (.aload_n 0), 1), (33, (.getfield 9), 3), (36, (.iload_n 3), 1), (37, .iaload, 1), (38, (.iload_n 1), 1), (39, (.invokestatic 72), 3), (42, (.ifCond .ne (7)), 3), (45, (.iconst (1)), 1), (46, (.goto (4)), 3), (49, (.iconst (0)), 1), (50, .ireturn, 1)]
theorem tb_b105_ok : ∀ e ∈ tb_b105, decode prog_8_method_11_code e.1 = .ok e.2 := dp_dec (by decide +kernel)
def tb_b106 : List (Nat × Instr × Nat) := [(0, (.aload_n 0), 1), (1, (.getfield 60), 3), (4, (.invokevirtual 161), 3), (7, (.ifCond .eq (32)), 3), (10, (.aload_n 0), 1), (11, (.getfield 12), 3), (14, (.iload_n 1), 1), (15, (.invokevirtual 164), 3), (18, (.ifCond .eq (21)), 3), (21, (.aload_n 0), 1), (22, (.getfield 60), 3), (25, (.invokevirtual 167), 3), (28, (.iload_n 1), 1), (29, (.invokestatic 170), 3), (32, (.ifCond .eq (7)), 3), (35, (.iconst (1)), 1), (36, (.goto (4)), 3), (39, (.iconst (0)), 1), (40, .ireturn, 1)]
theorem tb_b106_ok : ∀ e ∈ tb_b106, decode prog_1_method_13_code e.1 = .ok e.2 := dp_dec (by decide +kernel)
def tb_b107 : List (Nat × Instr × Nat) := [(0, (.aload_n 0), 1), (1, (.getfield 15), 3), (4, .ireturn, 1)]
theorem tb_b107_ok : ∀ e ∈ tb_b107, decode prog_8_method_4_code e.1 = .ok e.2 := dp_dec (by decide +kernel)
def tb_b108 : List (Nat × Instr × Nat) := [(0, (.aload_n 0), 1), (1, (.getfield 9), 3), (4, (.iconst (0)), 1), (5, .iaload, 1), (6, .ireturn, 1)]
theorem tb_b108_ok : ∀ e ∈ tb_b108, decode prog_8_method_7_code e.1 = .ok e.2 := dp_dec (by decide +kernel)
def tb_b109 : List (Nat × Instr × Nat) := [(0, (.iload_n 1), 1), (1, (.invokestatic 115), 3), (4, (.ifCond .ne (5)), 3), (7, (.iconst (0)), 1), (8, .ireturn, 1), (9, (.aload_n 0), 1), (10, (.getfield 37), 3), (13, (.iload_n 1), 1), (14, (.iload_n 2), 1), (15, (.invokevirtual 174), 3), (18, (.iconst (1)), 1), (19, .ireturn, 1)]
theorem tb_b109_ok : ∀ e ∈ tb_b109, decode prog_1_method_14_code e.1 = .ok e.2 := dp_dec (by decide +kernel)
def tb_b110 : List (Nat × Instr × Nat) := [(0, (.aload_n 0), 1), (1, (.getfield 18), 3), (4, (.iload_n 1), 1), (5, (.iload_n 2), 1), (6, .iastore, 1), (7, .return_, 1)]
theorem tb_b110_ok : ∀ e ∈ tb_b110, decode prog_6_method_2_code e.1 = .ok e.2 := dp_dec (by decide +kernel)
def tb_b111 : List (Nat × Instr × Nat) := [(0, (.aload_n 0), 1), (1, (.getfield 64), 3), (4, (.ifCond .eq (28)), 3), (7, (.iload_n 2), 1), (8, (.ifCond .lt (24)), 3), (11, (.iload_n 2), 1), (12, (.sipush (600)), 3), (15, (.if_icmp .gt (17)), 3), (18, (.iload_n 1), 1), (19, (.ifCond .ne (15)), 3), (22, (.aload_n 0), 1), (23, (.getfield 60), 3), (26, (.invokevirtual 154), 3), (29, (.ifCond .ne (5)), 3), (32, (.iconst (-1)), 1), (33, .ireturn, 1), (34, (.aload_n 0), 1), (35, (.getfield 60), 3), (38, (.invokevirtual 161), 3), (41, (.ifCond .eq (13)), 3), (44, (.aload_n 0), 1), (45, (.getfield 60), 3), (48, (.invokevirtual 177), 3), (51, (.goto (4)), 3), (54, (.iconst (-1)), 1), (55, (.istore_n 3), 1), (56, (.aload_n 0), 1), (57, (.getfield 37), 3), (60, (.iload_n 1), 1), (61, (.ifCond .eq (7)), 3), (64, (.iconst (-1)), 1), (65, (.goto (10)), 3), (68, (.aload_n 0), 1), (69, (.getfield 60), 3), (72, (.invokevirtual 167), 3), (75, (.iload_n 2), 1), (76, (.iload_n 3), 1), (77, (.invokevirtual 180), 3), (80, .ireturn, 1)]
theorem tb_b111_ok : ∀ e ∈ tb_b111, decode prog_1_method_15_code e.1 = .ok e.2 := dp_dec (by decide +kernel)
def tb_b112 : List (Nat × Instr × Nat) := [(0, (.aload_n 0), 1), (1, (.getfield 32), 3), (4, .ireturn, 1)]
theorem tb_b112_ok : ∀ e ∈ tb_b112, decode prog_8_method_6_code e.1 = .ok e.2 := dp_dec (by decide +kernel)
def tb_b113 : List (Nat × Instr × Nat) := [(0, (.aload_n 0), 1), (1, (.getfield 12), 3), (4, (.invokevirtual 42), 3), (7, (.aload_n 0), 1), (8, (.getfield 22), 3), (11, (.iconst (0)), 1), (12, (.invokestatic 49), 3), (15, (.aload_n 0), 1), (16, (.iload_n 1), 1), (17, (.putfield 55), 3), (20, (.aload_n 0), 1), (21, (.iload_n 2), 1), (22, (.putfield 58), 3), (25, (.aload_n 0), 1), (26, (.iload_n 3), 1), (27, (.putfield 61), 3), (30, (.aload_n 0), 1), (31, (.iconst (1)), 1), (32, (.putfield 38), 3), (35, (.aload_n 0), 1), (36, (.iconst (0)), 1), (37, (.putfield 45), 3), (40, (.aload_n 0), 1), (41, (.iconst (3)), 1), (42, (.putfield 64), 3), (45, (.aload_n 0), 1), (46, (.iconst (-1)), 1), (47, (.putfield 67), 3), (50, (.aload_n 0), 1), (51, (.iconst (0)), 1), (52, (.iconst (-1)), 1), (53, (.iconst (0)), 1), (54, (.iconst (0)), 1), (55, (.invokevirtual 70), 3), (58, (.iconst (0)), 1), (59, (.istore 4), 2), (61, (.iload 4), 2), (63, (.ldc 74), 2), (65, (.if_icmp .ge (21)), 3), (68, (.aload_n 0), 1), (69, (.getfield 64), 3), (72, (.iconst (3)), 1), (73, (.if_icmp .ne (13)), 3), (76, (.aload_n 0), 1), (77, (.invokevirtual 75), 3), (80, (.iinc 4 (1)), 3), (83, (.goto (-22)), 3), (86, (.aload_n 0), 1), (87, (.getfield 64), 3), (90, .ireturn, 1)]
theorem tb_b113_ok : ∀ e ∈ tb_b113, decode prog_6_method_5_code e.1 = .ok e.2 := dp_dec (by decide +kernel)
def tb_b114 : List (Nat × Instr × Nat) := [(0, (.aload_n 0), 1), (1, .dup, 1), (2, (.getfield 67), 3), (5, (.iconst (1)), 1), (6, .iadd, 1), (7, (.putfield 67), 3), (10, (.aload_n 0), 1), (11, (.getfield 28), 3), (14, (.aload_n 0), 1), (15, (.getfield 67), 3), (18, (.iload_n 1), 1), (19, .iastore, 1), (20, (.aload_n 0), 1), (21, (.getfield 31), 3), (24, (.aload_n 0), 1), (25, (.getfield 67), 3), (28, (.iload_n 2), 1), (29, .iastore, 1), (30, (.aload_n 0), 1), (31, (.iconst (0)), 1), (32, (.iload_n 3), 1), (33, (.invokevirtual 145), 3), (36, (.aload_n 0), 1), (37, (.iconst (1)), 1), (38, (.iload 4), 2), (40, (.invokevirtual 145), 3), (43, (.aload_n 0), 1), (44, (.iconst (2)), 1), (45, (.iconst (0)), 1), (46, (.invokevirtual 145), 3), (49, (.aload_n 0), 1), (50, (.iconst (3)), 1), (51, (.iconst (0)), 1), (52, (.invokevirtual 145), 3), (55, (.aload_n 0), 1), (56, (.aload_n 0), 1), (57, (.getfield 34), 3), (60, (.getfield 158), 3), (63, (.iload_n 1), 1), (64, .iaload, 1), (65, (.putfield 78), 3), (68, .return_, 1)]
theorem tb_b114_ok : ∀ e ∈ tb_b114, decode prog_6_method_13_code e.1 = .ok e.2 := dp_dec (by decide +kernel)
def tb_b115 : List (Nat × Instr × Nat) := [(0, (.aload_n 0), 1), (1, (.getfield 25), 3), (4, (.aload_n 0), 1), (5, (.getfield 67), 3), (8, (.iconst (4)), 1), (9, .imul, 1), (10, (.iload_n 1), 1), (11, .iadd, 1), (12, (.iload_n 2), 1), (13, .iastore, 1), (14, .return_, 1)]
theorem tb_b115_ok : ∀ e ∈ tb_b115, decode prog_6_method_16_code e.1 = .ok e.2 := dp_dec (by decide +kernel)
def tb_b116 : List (Nat × Instr × Nat) := [(0, (.aload_n 0), 1), (1, (.getfield 78), 3), (4, (.aload_n 0), 1), (5, (.getfield 34), 3), (8, (.getfield 81), 3), (11, (.aload_n 0), 1), (12, (.getfield 28), 3), (15, (.aload_n 0), 1), (16, (.getfield 67), 3), (19, .iaload, 1), (20, .iaload, 1), (21, (.if_icmp .ne (10)), 3), (24, (.aload_n 0), 1), (25, (.invokevirtual 86), 3), (28, (.goto (127)), 3), (31, (.aload_n 0), 1), (32, (.getfield 34), 3), (35, (.aload_n 0), 1), (36, (.getfield 78), 3), (39, (.invokevirtual 89), 3), (42, (.ifCond .ne (21)), 3), (45, (.aload_n 0), 1), (46, (.aload_n 0), 1), (47, (.getfield 34), 3), (50, (.aload_n 0), 1), (51, (.getfield 78), 3), (54, (.invokevirtual 93), 3), (57, (.putfield 78), 3), (60, (.goto (95)), 3), (63, (.aload_n 0), 1), (64, (.getfield 55), 3), (67, (.aload_n 0), 1), (68, (.getfield 78), 3), (71, (.invokestatic 97), 3), (74, (.ifCond .ne (44)), 3), (77, (.aload_n 0), 1), (78, (.aload_n 0), 1), (79, (.aload_n 0), 1), (80, (.getfield 78), 3), (83, (.invokevirtual 101), 3), (86, (.ifCond .eq (20)), 3), (89, (.aload_n 0), 1), (90, (.getfield 34), 3), (93, (.getfield 104), 3), (96, (.aload_n 0), 1), (97, (.getfield 78), 3), (100, .iaload, 1), (101, (.iconst (1)), 1), (102, .iadd, 1), (103, (.goto (9)), 3), (106, (.aload_n 0), 1), (107, (.getfield 78), 3), (110, (.iconst (1)), 1), (111, .iadd, 1), (112, (.putfield 78), 3), (115, (.goto (40)), 3), (118, (.aload_n 0), 1), (119, (.getfield 45), 3), (122, (.aload_n 0), 1), (123, (.getfield 58), 3), (126, (.if_icmp .ne (11)), 3), (129, (.aload_n 0), 1), (130, (.iconst (2)), 1), (131, (.putfield 64), 3), (134, (.goto (21)), 3), (137, (.aload_n 0), 1), (138, .dup, 1), (139, (.getfield 45), 3), (142, (.iconst (1)), 1), (143, .iadd, 1), (144, (.putfield 45), 3), (147, (.aload_n 0), 1), (148, (.aload_n 0), 1), (149, (.getfield 78), 3), (152, (.invokevirtual 107), 3), (155, .return_, 1)]
theorem tb_b116_ok : ∀ e ∈ tb_b116, decode prog_6_method_6_code e.1 = .ok e.2 := dp_dec (by decide +kernel)
def tb_b117 : List (Nat × Instr × Nat) := [(0, (.aload_n 0), 1), (1, (.getfield 67), 3), (4, (.ifCond .ne (9)), 3), (7, (.aload_n 0), 1), (8, (.iconst (0)), 1), (9, (.putfield 64), 3), (12, .return_, 1), (13, (.aload_n 0), 1), (14, (.iconst (0)), 1), (15, (.invokevirtual 126), 3), (18, (.istore_n 1), 1), (19, (.aload_n 0), 1), (20, (.getfield 31), 3), (23, (.aload_n 0), 1), (24, (.getfield 67), 3), (27, .iaload, 1), (28, (.istore_n 2), 1), (29, (.aload_n 0), 1), (30, .dup, 1), (31, (.getfield 67), 3), (34, (.iconst (1)), 1), (35, .isub, 1), (36, (.putfield 67), 3), (39, (.aload_n 0), 1), (40, (.aload_n 0), 1), (41, (.getfield 34), 3), (44, (.getfield 136), 3), (47, (.iload_n 2), 1), (48, .iaload, 1), (49, (.iload_n 1), 1), (50, (.invokevirtual 145), 3), (53, (.aload_n 0), 1), (54, (.iload_n 2), 1), (55, (.iconst (1)), 1), (56, .iadd, 1), (57, (.putfield 78), 3), (60, .return_, 1)]
theorem tb_b117_ok : ∀ e ∈ tb_b117, decode prog_6_method_14_code e.1 = .ok e.2 := dp_dec (by decide +kernel)
def tb_b118 : List (Nat × Instr × Nat) := [(0, (.aload_n 0), 1), (1, (.getfield 25), 3), (4, (.aload_n 0), 1), (5, (.getfield 67), 3), (8, (.iconst (4)), 1), (9, .imul, 1), (10, (.iload_n 1), 1), (11, .iadd, 1), (12, .iaload, 1), (13, .ireturn, 1)]
theorem tb_b118_ok : ∀ e ∈ tb_b118, decode prog_6_method_15_code e.1 = .ok e.2 := dp_dec (by decide +kernel)
def tb_b119 : List (Nat × Instr × Nat) := [(0, (.aload_n 0), 1), (1, (.getfield 34), 3), (4, (.getfield 111), 3), (7, (.iload_n 1), 1), (8, .iaload, 1), (9, (.bipush (9)), 2), (11, (.if_icmp .eq (17)), 3), (14, (.aload_n 0), 1), (15, (.getfield 34), 3), (18, (.getfield 111), 3), (21, (.iload_n 1), 1), (22, .iaload, 1), (23, (.bipush (11)), 2), (25, (.if_icmp .ne (7)), 3), (28, (.iconst (1)), 1), (29, (.goto (4)), 3), (32, (.iconst (0)), 1), (33, .ireturn, 1)]
theorem tb_b119_ok : ∀ e ∈ tb_b119, decode prog_6_method_7_code e.1 = .ok e.2 := dp_dec (by decide +kernel)
def tb_b120 : List (Nat × Instr × Nat) := [(0, (.aload_n 0), 1), (1, (.getfield 34), 3), (4, (.iload_n 1), 1), (5, (.invokevirtual 114), 3), (8, (.ifCond .eq (11)), 3), (11, (.aload_n 0), 1), (12, (.iload_n 1), 1), (13, (.invokevirtual 117), 3), (16, (.goto (244)), 3), (19, (.aload_n 0), 1), (20, (.iload_n 1), 1), (21, (.invokevirtual 101), 3), (24, (.ifCond .eq (11)), 3), (27, (.aload_n 0), 1), (28, (.iload_n 1), 1), (29, (.invokevirtual 120), 3), (32, (.goto (228)), 3), (35, (.aload_n 0), 1), (36, (.getfield 34), 3), (39, (.getfield 111), 3), (42, (.iload_n 1), 1), (43, .iaload, 1), (44, (.bipush (8)), 2), (46, (.if_icmp .ne (67)), 3), (49, (.aload_n 0), 1), (50, (.getfield 22), 3), (53, (.aload_n 0), 1), (54, (.aload_n 0), 1), (55, (.getfield 34), 3), (58, (.getfield 123), 3), (61, (.iload_n 1), 1), (62, .iaload, 1), (63, (.invokevirtual 126), 3), (66, (.iconst (3)), 1), (67, .iand, 1), (68, (.aload_n 0), 1), (69, (.aload_n 0), 1), (70, (.getfield 34), 3), (73, (.getfield 129), 3), (76, (.iload_n 1), 1), (77, .iaload, 1), (78, (.invokevirtual 126), 3), (81, .iastore, 1), (82, (.aload_n 0), 1), (83, (.iload_n 1), 1), (84, (.aload_n 0), 1), (85, (.aload_n 0), 1), (86, (.getfield 34), 3), (89, (.getfield 129), 3), (92, (.iload_n 1), 1), (93, .iaload, 1), (94, (.invokevirtual 126), 3), (97, (.invokevirtual 132), 3), (100, (.aload_n 0), 1), (101, .dup, 1), (102, (.getfield 78), 3), (105, (.iconst (1)), 1), (106, .iadd, 1), (107, (.putfield 78), 3), (110, (.goto (150)), 3), (113, (.aload_n 0), 1), (114, (.getfield 34), 3), (117, (.getfield 111), 3), (120, (.iload_n 1), 1), (121, .iaload, 1), (122, (.bipush (17)), 2), (124, (.if_icmp .ne (63)), 3), (127, (.aload_n 0), 1), (128, (.getfield 12), 3), (131, (.aload_n 0), 1), (132, (.getfield 34), 3), (135, (.getfield 136), 3), (138, (.iload_n 1), 1), (139, .iaload, 1), (140, (.aload_n 0), 1), (141, (.aload_n 0), 1), (142, (.getfield 34), 3), (145, (.getfield 123), 3), (148, (.iload_n 1), 1), (149, .iaload, 1), (150, (.invokevirtual 126), 3), (153, (.invokevirtual 139), 3), (156, (.aload_n 0), 1), (157, (.iload_n 1), 1), (158, (.aload_n 0), 1), (159, (.aload_n 0), 1), (160, (.getfield 34), 3), (163, (.getfield 123), 3), (166, (.iload_n 1), 1), (167, .iaload, 1), (168, (.invokevirtual 126), 3), (171, (.invokevirtual 132), 3), (174, (.aload_n 0), 1), (175, .dup, 1), (176, (.getfield 78), 3), (179, (.iconst (1)), 1), (180, .iadd, 1), (181, (.putfield 78), 3), (184, (.goto (76)), 3), (187, (.aload_n 0), 1), (188, (.getfield 34), 3), (191, (.getfield 111), 3), (194, (.iload_n 1), 1), (195, .iaload, 1), (196, (.iconst (5)), 1), (197, (.if_icmp .ne (27)), 3), (200, (.aload_n 0), 1), (201, (.aload_n 0), 1), (202, (.getfield 34), 3), (205, (.getfield 129), 3), (208, (.iload_n 1), 1), (209, .iaload, 1), (210, (.invokevirtual 126), 3), (213, (.ifCond .ne (11)), 3), (216, (.aload_n 0), 1), (217, (.iconst (1)), 1), (218, (.putfield 64), 3), (221, (.goto (39)), 3), (224, (.aload_n 0), 1), (225, (.iload_n 1), 1), (226, (.invokevirtual 142), 3), (229, (.istore_n 2), 1), (230, (.aload_n 0), 1), (231, (.aload_n 0), 1), (232, (.getfield 34), 3), (235, (.getfield 136), 3), (238, (.iload_n 1), 1), (239, .iaload, 1), (240, (.iload_n 2), 1), (241, (.invokevirtual 145), 3), (244, (.aload_n 0), 1), (245, (.iload_n 1), 1), (246, (.iload_n 2), 1), (247, (.invokevirtual 132), 3), (250, (.aload_n 0), 1), (251, .dup, 1), (252, (.getfield 78), 3), (255, (.iconst (1)), 1), (256, .iadd, 1), (257, (.putfield 78), 3), (260, .return_, 1)]
theorem tb_b120_ok : ∀ e ∈ tb_b120, decode prog_6_method_8_code e.1 = .ok e.2 := dp_dec (by decide +kernel)
end
section
def tb_b121 : List (Nat × Instr × Nat) := [(0, (.aload_n 0), 1), (1, (.getfield 67), 3), (4, (.iconst (1)), 1), (5, .iadd, 1), (6, (.bipush (7)), 2), (8, (.if_icmp .ne (11)), 3), (11, (.aload_n 0), 1), (12, (.iconst (2)), 1), (13, (.putfield 64), 3), (16, (.goto (42)), 3), (19, (.aload_n 0), 1), (20, (.aload_n 0), 1), (21, (.getfield 34), 3), (24, (.iload_n 1), 1), (25, (.invokevirtual 148), 3), (28, (.iload_n 1), 1), (29, (.aload_n 0), 1), (30, (.aload_n 0), 1), (31, (.getfield 34), 3), (34, (.getfield 123), 3), (37, (.iload_n 1), 1), (38, .iaload, 1), (39, (.invokevirtual 126), 3), (42, (.aload_n 0), 1), (43, (.aload_n 0), 1), (44, (.getfield 34), 3), (47, (.getfield 129), 3), (50, (.iload_n 1), 1), (51, .iaload, 1), (52, (.invokevirtual 126), 3), (55, (.invokevirtual 70), 3), (58, .return_, 1)]
theorem tb_b121_ok : ∀ e ∈ tb_b121, decode prog_6_method_9_code e.1 = .ok e.2 := dp_dec (by decide +kernel)
def tb_b122 : List (Nat × Instr × Nat) := [(0, (.aload_n 0), 1), (1, (.aload_n 0), 1), (2, (.getfield 34), 3), (5, (.getfield 123), 3), (8, (.iload_n 1), 1), (9, .iaload, 1), (10, (.invokevirtual 126), 3), (13, (.istore_n 2), 1), (14, (.aload_n 0), 1), (15, (.iload_n 1), 1), (16, (.iload_n 2), 1), (17, (.invokevirtual 132), 3), (20, (.iload_n 2), 1), (21, (.ifCond .eq (16)), 3), (24, (.aload_n 0), 1), (25, .dup, 1), (26, (.getfield 78), 3), (29, (.iconst (1)), 1), (30, .iadd, 1), (31, (.putfield 78), 3), (34, (.goto (43)), 3), (37, (.aload_n 0), 1), (38, (.aload_n 0), 1), (39, (.getfield 34), 3), (42, (.getfield 111), 3), (45, (.iload_n 1), 1), (46, .iaload, 1), (47, (.bipush (9)), 2), (49, (.if_icmp .ne (14)), 3), (52, (.aload_n 0), 1), (53, (.getfield 34), 3), (56, (.iload_n 1), 1), (57, (.invokevirtual 151), 3), (60, (.goto (14)), 3), (63, (.aload_n 0), 1), (64, (.getfield 34), 3), (67, (.getfield 104), 3), (70, (.iload_n 1), 1), (71, .iaload, 1), (72, (.iconst (1)), 1), (73, .iadd, 1), (74, (.putfield 78), 3), (77, .return_, 1)]
theorem tb_b122_ok : ∀ e ∈ tb_b122, decode prog_6_method_10_code e.1 = .ok e.2 := dp_dec (by decide +kernel)
def tb_b123 : List (Nat × Instr × Nat) := [(0, (.iload_n 1), 1), (1, (.aload_n 0), 1), (2, (.getfield 61), 3), (5, (.if_icmp .ne (11)), 3), (8, (.aload_n 0), 1), (9, (.getfield 12), 3), (12, (.iload_n 2), 1), (13, (.invokevirtual 161), 3), (16, .return_, 1)]
theorem tb_b123_ok : ∀ e ∈ tb_b123, decode prog_6_method_17_code e.1 = .ok e.2 := dp_dec (by decide +kernel)
def tb_b124 : List (Nat × Instr × Nat) := [(0, (.aload_n 0), 1), (1, (.getfield 21), 3), (4, (.bipush (60)), 2), (6, (.if_icmp .ge (13)), 3), (9, (.aload_n 0), 1), (10, (.getfield 9), 3), (13, (.aload_n 0), 1), (14, (.getfield 21), 3), (17, (.iload_n 1), 1), (18, .iastore, 1), (19, (.aload_n 0), 1), (20, .dup, 1), (21, (.getfield 21), 3), (24, (.iconst (1)), 1), (25, .iadd, 1), (26, (.putfield 21), 3), (29, .return_, 1)]
theorem tb_b124_ok : ∀ e ∈ tb_b124, decode prog_5_method_3_code e.1 = .ok e.2 := dp_dec (by decide +kernel)
def tb_b125 : List (Nat × Instr × Nat) := [(0, (.aload_n 0), 1), (1, (.getfield 18), 3), (4, (.iload_n 1), 1), (5, .iaload, 1), (6, (.bipush (40)), 2), (8, (.if_icmp .ge (20)), 3), (11, (.aload_n 0), 1), (12, (.getfield 15), 3), (15, (.iload_n 1), 1), (16, (.bipush (40)), 2), (18, .imul, 1), (19, (.aload_n 0), 1), (20, (.getfield 18), 3), (23, (.iload_n 1), 1), (24, .iaload, 1), (25, .iadd, 1), (26, (.iload_n 2), 1), (27, .iastore, 1), (28, (.aload_n 0), 1), (29, (.getfield 18), 3), (32, (.iload_n 1), 1), (33, .dup2, 1), (34, .iaload, 1), (35, (.iconst (1)), 1), (36, .iadd, 1), (37, .iastore, 1), (38, .return_, 1)]
theorem tb_b125_ok : ∀ e ∈ tb_b125, decode prog_5_method_4_code e.1 = .ok e.2 := dp_dec (by decide +kernel)
def tb_b126 : List (Nat × Instr × Nat) := [(0, (.aload_n 0), 1), (1, (.getfield 34), 3), (4, (.getfield 111), 3), (7, (.iload_n 1), 1), (8, .iaload, 1), (9, (.tableswitch (228) (1) (7) #[43, 71, 99, 127, 162, 192, 207]), 43), (52, (.aload_n 0), 1), (53, (.aload_n 0), 1), (54, (.getfield 34), 3), (57, (.getfield 123), 3), (60, (.iload_n 1), 1), (61, .iaload, 1), (62, (.invokevirtual 126), 3), (65, (.aload_n 0), 1), (66, (.aload_n 0), 1), (67, (.getfield 34), 3), (70, (.getfield 129), 3), (73, (.iload_n 1), 1), (74, .iaload, 1), (75, (.invokevirtual 126), 3), (78, .iadd, 1), (79, .ireturn, 1), (80, (.aload_n 0), 1), (81, (.aload_n 0), 1), (82, (.getfield 34), 3), (85, (.getfield 123), 3), (88, (.iload_n 1), 1), (89, .iaload, 1), (90, (.invokevirtual 126), 3), (93, (.aload_n 0), 1), (94, (.aload_n 0), 1), (95, (.getfield 34), 3), (98, (.getfield 129), 3), (101, (.iload_n 1), 1), (102, .iaload, 1), (103, (.invokevirtual 126), 3), (106, .isub, 1), (107, .ireturn, 1), (108, (.aload_n 0), 1), (109, (.aload_n 0), 1), (110, (.getfield 34), 3), (113, (.getfield 123), 3), (116, (.iload_n 1), 1), (117, .iaload, 1), (118, (.invokevirtual 126), 3), (121, (.aload_n 0), 1), (122, (.aload_n 0), 1), (123, (.getfield 34), 3), (126, (.getfield 129), 3), (129, (.iload_n 1), 1), (130, .iaload, 1), (131, (.invokevirtual 126), 3), (134, .imul, 1), (135, .ireturn, 1), (136, (.aload_n 0), 1), (137, (.aload_n 0), 1), (138, (.getfield 34), 3), (141, (.getfield 123), 3), (144, (.iload_n 1), 1), (145, .iaload, 1), (146, (.invokevirtual 126), 3), (149, (.aload_n 0), 1), (150, (.aload_n 0), 1), (151, (.getfield 34), 3), (154, (.getfield 129), 3), (157, (.iload_n 1), 1), (158, .iaload, 1), (159, (.invokevirtual 126), 3), (162, (.if_icmp .ge (7)), 3), (165, (.iconst (1)), 1), (166, (.goto (4)), 3), (169, (.iconst (0)), 1), (170, .ireturn, 1), (171, (.aload_n 0), 1), (172, (.aload_n 0), 1), (173, (.getfield 34), 3), (176, (.getfield 123), 3), (179, (.iload_n 1), 1), (180, .iaload, 1), (181, (.invokevirtual 126), 3), (184, (.aload_n 0), 1), (185, (.aload_n 0), 1), (186, (.getfield 34), 3), (189, (.getfield 129), 3), (192, (.iload_n 1), 1), (193, .iaload, 1), (194, (.invokevirtual 126), 3), (197, (.invokestatic 154), 3), (200, .ireturn, 1), (201, (.aload_n 0), 1), (202, (.getfield 18), 3), (205, (.aload_n 0), 1), (206, (.getfield 34), 3), (209, (.getfield 123), 3), (212, (.iload_n 1), 1), (213, .iaload, 1), (214, .iaload, 1), (215, .ireturn, 1), (216, (.aload_n 0), 1), (217, (.getfield 22), 3), (220, (.aload_n 0), 1), (221, (.aload_n 0), 1), (222, (.getfield 34), 3), (225, (.getfield 123), 3), (228, (.iload_n 1), 1), (229, .iaload, 1), (230, (.invokevirtual 126), 3), (233, (.iconst (3)), 1), (234, .iand, 1), (235, .iaload, 1), (236, .ireturn, 1), (237, (.aload_n 0), 1), (238, (.getfield 34), 3), (241, (.getfield 123), 3), (244, (.iload_n 1), 1), (245, .iaload, 1), (246, .ireturn, 1)]
theorem tb_b126_ok : ∀ e ∈ tb_b126, decode prog_6_method_11_code e.1 = .ok e.2 := dp_dec (by decide +kernel)
def tb_b127 : List (Nat × Instr × Nat) := [(0, (.iload_n 1), 1), (1, (.ifCond .ne (7)), 3), (4, (.iconst (0)), 1), (5, (.goto (6)), 3), (8, (.iload_n 0), 1), (9, (.iload_n 1), 1), (10, .idiv, 1), (11, .ireturn, 1)]
theorem tb_b127_ok : ∀ e ∈ tb_b127, decode prog_6_method_12_code e.1 = .ok e.2 := dp_dec (by decide +kernel)
def tb_b128 : List (Nat × Instr × Nat) := [(0, (.aload_n 0), 1), (1, (.getfield 37), 3), (4, (.invokevirtual 184), 3), (7, .ireturn, 1)]
theorem tb_b128_ok : ∀ e ∈ tb_b128, decode prog_1_method_16_code e.1 = .ok e.2 := dp_dec (by decide +kernel)
def tb_b129 : List (Nat × Instr × Nat) := [(0, (.aload_n 0), 1), (1, (.getfield 38), 3), (4, (.ifCond .eq (10)), 3), (7, (.aload_n 0), 1), (8, (.getfield 45), 3), (11, (.goto (4)), 3), (14, (.iconst (-1)), 1), (15, .ireturn, 1)]
theorem tb_b129_ok : ∀ e ∈ tb_b129, decode prog_6_method_4_code e.1 = .ok e.2 := dp_dec (by decide +kernel)
def tb_b130 : List (Nat × Instr × Nat) := [(0, (.aload_n 0), 1), (1, (.getfield 60), 3), (4, (.invokevirtual 161), 3), (7, (.ifCond .eq (17)), 3), (10, (.aload_n 0), 1), (11, (.getfield 37), 3), (14, (.getfield 187), 3), (17, (.iload_n 1), 1), (18, (.invokevirtual 191), 3), (21, (.goto (4)), 3), (24, (.iconst (0)), 1), (25, .ireturn, 1)]
theorem tb_b130_ok : ∀ e ∈ tb_b130, decode prog_1_method_17_code e.1 = .ok e.2 := dp_dec (by decide +kernel)
def tb_b131 : List (Nat × Instr × Nat) := [(0, (.iload_n 1), 1), (1, (.iconst (-1)), 1), (2, (.if_icmp .ne (8)), 3), (5, (.aload_n 0), 1), (6, (.getfield 21), 3), (9, .ireturn, 1), (10, (.iload_n 1), 1), (11, (.ifCond .lt (26)), 3), (14, (.iload_n 1), 1), (15, (.aload_n 0), 1), (16, (.getfield 21), 3), (19, (.if_icmp .ge (18)), 3), (22, (.iload_n 1), 1), (23, (.bipush (60)), 2), (25, (.if_icmp .ge (12)), 3), (28, (.aload_n 0), 1), (29, (.getfield 9), 3), (32, (.iload_n 1), 1), (33, .iaload, 1), (34, (.goto (4)), 3), (37, (.iconst (0)), 1), (38, .ireturn, 1)]
theorem tb_b131_ok : ∀ e ∈ tb_b131, decode prog_5_method_5_code e.1 = .ok e.2 := dp_dec (by decide +kernel)
def tb_b132 : List (Nat × Instr × Nat) := [(0, (.iload_n 1), 1), (1, (.invokestatic 115), 3), (4, (.ifCond .eq (18)), 3), (7, (.aload_n 0), 1), (8, (.getfield 37), 3), (11, (.getfield 187), 3), (14, (.iload_n 1), 1), (15, (.iload_n 2), 1), (16, (.invokevirtual 196), 3), (19, (.goto (4)), 3), (22, (.iconst (0)), 1), (23, .ireturn, 1)]
theorem tb_b132_ok : ∀ e ∈ tb_b132, decode prog_1_method_18_code e.1 = .ok e.2 := dp_dec (by decide +kernel)
def tb_b133 : List (Nat × Instr × Nat) := [(0, (.aload_n 0), 1), (1, (.getfield 18), 3), (4, (.iload_n 1), 1), (5, .iaload, 1), (6, (.istore_n 3), 1), (7, (.iload_n 2), 1), (8, (.iconst (-1)), 1), (9, (.if_icmp .ne (5)), 3), (12, (.iload_n 3), 1), (13, .ireturn, 1), (14, (.iload_n 2), 1), (15, (.ifCond .lt (28)), 3), (18, (.iload_n 2), 1), (19, (.iload_n 3), 1), (20, (.if_icmp .ge (23)), 3), (23, (.iload_n 2), 1), (24, (.bipush (40)), 2), (26, (.if_icmp .ge (17)), 3), (29, (.aload_n 0), 1), (30, (.getfield 15), 3), (33, (.iload_n 1), 1), (34, (.bipush (40)), 2), (36, .imul, 1), (37, (.iload_n 2), 1), (38, .iadd, 1), (39, .iaload, 1), (40, (.goto (4)), 3), (43, (.iconst (0)), 1), (44, .ireturn, 1)]
theorem tb_b133_ok : ∀ e ∈ tb_b133, decode prog_5_method_6_code e.1 = .ok e.2 := dp_dec (by decide +kernel)
def tb_b134 : List (Nat × Instr × Nat) := [(0, (.aload_n 0), 1), (1, (.invokevirtual 199), 3), (4, (.ifCond .eq (13)), 3), (7, (.aload_n 0), 1), (8, (.getfield 53), 3), (11, (.invokevirtual 202), 3), (14, (.goto (4)), 3), (17, (.iconst (-1)), 1), (18, .ireturn, 1)]
theorem tb_b134_ok : ∀ e ∈ tb_b134, decode prog_1_method_19_code e.1 = .ok e.2 := dp_dec (by decide +kernel)
def tb_b135 : List (Nat × Instr × Nat) := [(0, (.aload_n 0), 1), (1, (.getfield 64), 3), (4, (.ifCond .eq (17)), 3), (7, (.aload_n 0), 1), (8, (.getfield 44), 3), (11, (.invokevirtual 122), 3), (14, (.ifCond .ne (7)), 3), (17, (.iconst (1)), 1), (18, (.goto (4)), 3), (21, (.iconst (0)), 1), (22, .ireturn, 1)]
theorem tb_b135_ok : ∀ e ∈ tb_b135, decode prog_1_method_21_code e.1 = .ok e.2 := dp_dec (by decide +kernel)
def tb_b136 : List (Nat × Instr × Nat) := [(0, (.iconst (0)), 1), (1, (.istore_n 1), 1), (2, (.iconst (0)), 1), (3, (.istore_n 2), 1), (4, (.iload_n 2), 1), (5, (.aload_n 0), 1), (6, (.getfield 15), 3), (9, (.getfield 23), 3), (12, (.if_icmp .ge (20)), 3), (15, (.iload_n 1), 1), (16, (.aload_n 0), 1), (17, (.iload_n 2), 1), (18, (.invokevirtual 46), 3), (21, (.invokestatic 49), 3), (24, .iadd, 1), (25, (.istore_n 1), 1), (26, (.iinc 2 (1)), 3), (29, (.goto (-25)), 3), (32, (.iload_n 1), 1), (33, .ireturn, 1)]
theorem tb_b136_ok : ∀ e ∈ tb_b136, decode prog_4_method_4_code e.1 = .ok e.2 := dp_dec (by decide +kernel)
def tb_b137 : List (Nat × Instr × Nat) := [(0, (.aload_n 0), 1), (1, (.iload_n 1), 1), (2, (.invokevirtual 29), 3), (5, (.ifCond .ne (5)), 3), (8, (.iconst (0)), 1), (9, .ireturn, 1), (10, (.aload_n 0), 1), (11, (.getfield 15), 3), (14, (.getfield 43), 3), (17, (.iload_n 1), 1), (18, .iaload, 1), (19, (.iconst (5)), 1), (20, (.if_icmp .ne (13)), 3), (23, (.aload_n 0), 1), (24, (.getfield 19), 3), (27, (.invokevirtual 58), 3), (30, (.goto (19)), 3), (33, (.aload_n 0), 1), (34, (.getfield 19), 3), (37, (.aload_n 0), 1), (38, (.getfield 15), 3), (41, (.getfield 64), 3), (44, (.iload_n 1), 1), (45, .iaload, 1), (46, (.invokevirtual 67), 3), (49, (.istore_n 2), 1), (50, (.iconst (0)), 1), (51, (.istore_n 3), 1), (52, (.iconst (0)), 1), (53, (.istore 4), 2), (55, (.iload 4), 2), (57, (.aload_n 0), 1), (58, (.getfield 15), 3), (61, (.getfield 23), 3), (64, (.if_icmp .ge (73)), 3), (67, (.aload_n 0), 1), (68, (.getfield 15), 3), (71, (.getfield 43), 3), (74, (.iload 4), 2), (76, .iaload, 1), (77, (.bipush (6)), 2), (79, (.if_icmp .ne (52)), 3), (82, (.aload_n 0), 1), (83, (.getfield 9), 3), (86, (.iload_n 1), 1), (87, .iaload, 1), (88, (.iload 4), 2), (90, (.invokestatic 54), 3), (93, (.ifCond .eq (38)), 3), (96, (.aload_n 0), 1), (97, (.getfield 19), 3), (100, (.aload_n 0), 1), (101, (.getfield 19), 3), (104, (.aload_n 0), 1), (105, (.getfield 15), 3), (108, (.getfield 70), 3), (111, (.iload 4), 2), (113, .iaload, 1), (114, (.invokevirtual 73), 3), (117, (.iload_n 2), 1), (118, (.invokevirtual 76), 3), (121, (.ifCond .ne (10)), 3), (124, (.iload_n 3), 1), (125, (.iconst (1)), 1), (126, (.iload 4), 2), (128, .ishl, 1), (129, .ior, 1), (130, (.istore_n 3), 1), (131, (.iinc 4 (1)), 3), (134, (.goto (-79)), 3), (137, (.iload_n 3), 1), (138, .ireturn, 1)]
theorem tb_b137_ok : ∀ e ∈ tb_b137, decode prog_4_method_6_code e.1 = .ok e.2 := dp_dec (by decide +kernel)
def tb_b138 : List (Nat × Instr × Nat) := [(0, (.aload_n 0), 1), (1, (.getfield 18), 3), (4, (.iload_n 1), 1), (5, .iaload, 1), (6, .ireturn, 1)]
theorem tb_b138_ok : ∀ e ∈ tb_b138, decode prog_7_method_8_code e.1 = .ok e.2 := dp_dec (by decide +kernel)
def tb_b139 : List (Nat × Instr × Nat) := [(0, (.aload_n 0), 1), (1, (.getfield 15), 3), (4, (.iload_n 1), 1), (5, .iaload, 1), (6, .ireturn, 1)]
theorem tb_b139_ok : ∀ e ∈ tb_b139, decode prog_7_method_7_code e.1 = .ok e.2 := dp_dec (by decide +kernel)
def tb_b140 : List (Nat × Instr × Nat) := [(0, (.aload_n 0), 1), (1, (.invokevirtual 199), 3), (4, (.ifCond .eq (14)), 3), (7, (.aload_n 0), 1), (8, (.getfield 53), 3), (11, (.iload_n 1), 1), (12, (.invokevirtual 205), 3), (15, (.goto (4)), 3), (18, (.iconst (-1)), 1), (19, .ireturn, 1)]
theorem tb_b140_ok : ∀ e ∈ tb_b140, decode prog_1_method_20_code e.1 = .ok e.2 := dp_dec (by decide +kernel)
def tb_b141 : List (Nat × Instr × Nat) := [(0, (.iconst (0)), 1), (1, (.istore_n 2), 1), (2, (.iconst (0)), 1), (3, (.istore_n 3), 1), (4, (.iload_n 3), 1), (5, (.aload_n 0), 1), (6, (.getfield 15), 3), (9, (.getfield 23), 3), (12, (.if_icmp .ge (63)), 3), (15, (.aload_n 0), 1), (16, (.iload_n 3), 1), (17, (.invokevirtual 46), 3), (20, (.istore 4), 2), (22, (.iconst (0)), 1), (23, (.istore 5), 2), (25, (.iload 5), 2), (27, (.aload_n 0), 1), (28, (.getfield 15), 3), (31, (.getfield 23), 3), (34, (.if_icmp .ge (35)), 3), (37, (.iload 4), 2), (39, (.iload 5), 2), (41, (.invokestatic 54), 3), (44, (.ifCond .eq (19)), 3), (47, (.iload_n 2), 1), (48, (.iload_n 1), 1), (49, (.if_icmp .ne (11)), 3), (52, (.iload 5), 2), (54, (.bipush (32)), 2), (56, .imul, 1), (57, (.iload_n 3), 1), (58, .iadd, 1), (59, .ireturn, 1), (60, (.iinc 2 (1)), 3), (63, (.iinc 5 (1)), 3), (66, (.goto (-41)), 3), (69, (.iinc 3 (1)), 3), (72, (.goto (-68)), 3), (75, (.iconst (-1)), 1), (76, .ireturn, 1)]
theorem tb_b141_ok : ∀ e ∈ tb_b141, decode prog_4_method_5_code e.1 = .ok e.2 := dp_dec (by decide +kernel)
def tb_b142 : List (Nat × Instr × Nat) := [(0, (.aload_n 0), 1), (1, (.invokespecial 1), 3), (4, (.aload_n 0), 1), (5, (.bipush (32)), 2), (7, (.newarray .int), 2), (9, (.putfield 7), 3), (12, (.aload_n 0), 1), (13, (.bipush (32)), 2), (15, (.newarray .int), 2), (17, (.putfield 13), 3), (20, (.aload_n 0), 1), (21, (.bipush (32)), 2), (23, (.newarray .int), 2), (25, (.putfield 16), 3), (28, (.aload_n 0), 1), (29, (.bipush (32)), 2), (31, (.newarray .int), 2), (33, (.putfield 19), 3), (36, (.aload_n 0), 1), (37, (.iconst (5)), 1), (38, (.newarray .int), 2), (40, (.putfield 22), 3), (43, (.aload_n 0), 1), (44, (.iconst (5)), 1), (45, (.newarray .int), 2), (47, (.putfield 25), 3), (50, (.aload_n 0), 1), (51, (.bipush (32)), 2), (53, (.newarray .int), 2), (55, (.putfield 28), 3), (58, (.aload_n 0), 1), (59, (.bipush (32)), 2), (61, (.newarray .int), 2), (63, (.putfield 31), 3), (66, (.aload_n 0), 1), (67, (.bipush (32)), 2), (69, (.newarray .int), 2), (71, (.putfield 34), 3), (74, (.aload_n 0), 1), (75, (.bipush (32)), 2), (77, (.newarray .int), 2), (79, (.putfield 37), 3), (82, (.aload_n 0), 1), (83, (.bipush (32)), 2), (85, (.newarray .int), 2), (87, (.putfield 40), 3), (90, (.aload_n 0), 1), (91, (.iconst (4)), 1), (92, (.newarray .int), 2), (94, (.putfield 43), 3), (97, (.aload_n 0), 1), (98, (.bipush (36)), 2), (100, (.newarray .long), 2), (102, (.putfield 46), 3), (105, (.aload_n 0), 1), (106, (.sipush (1008)), 3), (109, (.newarray .long), 2), (111, (.putfield 50), 3), (114, (.aload_n 0), 1), (115, (.sipush (1008)), 3), (118, (.newarray .long), 2), (120, (.putfield 53), 3), (123, (.aload_n 0), 1), (124, (.sipush (1008)), 3), (127, (.newarray .long), 2), (129, (.putfield 56), 3), (132, (.aload_n 0), 1), (133, (.iconst (4)), 1), (134, (.newarray .long), 2), (136, (.putfield 59), 3), (139, (.aload_n 0), 1), (140, (.iconst (4)), 1), (141, (.newarray .long), 2), (143, (.putfield 62), 3), (146, (.aload_n 0), 1), (147, (.iconst (4)), 1), (148, (.newarray .int), 2), (150, (.putfield 65), 3), (153, (.aload_n 0), 1), (154, (.bipush (28)), 2), (156, (.newarray .int), 2), (158, (.putfield 68), 3), (161, (.aload_n 0), 1), (162, (.bipush (7)), 2), (164, (.newarray .int), 2), (166, (.putfield 71), 3), (169, (.aload_n 0), 1), (170, (.iconst (4)), 1), (171, (.newarray .int), 2), (173, (.putfield 74), 3), (176, (.aload_n 0), 1), (177, (.bipush (60)), 2), (179, (.newarray .int), 2), (181, (.putfield 77), 3), (184, (.aload_n 0), 1), (185, (.iconst (4)), 1), (186, (.newarray .int), 2), (188, (.putfield 80), 3), (191, (.aload_n 0), 1), (192, (.sipush (160)), 3), (195, (.newarray .int), 2), (197, (.putfield 83), 3), (200, (.aload_n 0), 1), (201, (.iconst (1)), 1), (202, (.putfield 86), 3), (205, (.aload_n 0), 1), (206, (.bipush (25)), 2), (208, (.newarray .boolean), 2), (210, (.putfield 90), 3), (213, (.aload_n 0), 1), (214, (.iconst (4)), 1), (215, (.newarray .int), 2), (217, (.putfield 94), 3), (220, (.aload_n 0), 1), (221, (.iconst (4)), 1), (222, (.newarray .int), 2), (224, (.putfield 97), 3), (227, (.aload_n 0), 1), (228, (.getfield 90), 3), (231, (.iconst (0)), 1), (232, (.iconst (1)), 1), (233, .bastore, 1), (234, .return_, 1)]
theorem tb_b142_ok : ∀ e ∈ tb_b142, decode prog_12_method_1_code e.1 = .ok e.2 := dp_dec (by decide +kernel)
def tb_b143 : List (Nat × Instr × Nat) := [(0, (.aload_n 0), 1), (1, (.getfield 100), 3), (4, (.ifCond .ne (22)), 3), (7, (.aload_n 0), 1), (8, (.getfield 104), 3), (11, (.bipush (32)), 2), (13, (.if_icmp .eq (13)), 3), (16, (.iload_n 1), 1), (17, (.ifCond .lt (9)), 3), (20, (.iload_n 1), 1), (21, (.bipush (18)), 2), (23, (.if_icmp .le (5)), 3), (26, (.iconst (-1)), 1), (27, .ireturn, 1), (28, (.iload_n 1), 1), (29, (.bipush (13)), 2), (31, (.if_icmp .lt (13)), 3), (34, (.iload_n 1), 1), (35, (.bipush (16)), 2), (37, (.if_icmp .gt (7)), 3), (40, (.iconst (1)), 1), (41, (.goto (4)), 3), (44, (.iconst (0)), 1), (45, (.istore 5), 2), (47, (.iload_n 1), 1), (48, (.bipush (7)), 2), (50, (.if_icmp .le (14)), 3), (53, (.iload 5), 2), (55, (.ifCond .ne (9)), 3), (58, (.iload_n 1), 1), (59, (.bipush (17)), 2), (61, (.if_icmp .ne (7)), 3), (64, (.iconst (1)), 1), (65, (.goto (4)), 3), (68, (.iconst (0)), 1), (69, (.istore 6), 2), (71, (.iload_n 1), 1), (72, (.iconst (1)), 1), (73, (.if_icmp .lt (9)), 3), (76, (.iload_n 1), 1), (77, (.bipush (9)), 2), (79, (.if_icmp .le (20)), 3), (82, (.iload_n 1), 1), (83, (.bipush (11)), 2), (85, (.if_icmp .eq (14)), 3), (88, (.iload 5), 2), (90, (.ifCond .ne (9)), 3), (93, (.iload_n 1), 1), (94, (.bipush (17)), 2), (96, (.if_icmp .ne (7)), 3), (99, (.iconst (1)), 1), (100, (.goto (4)), 3), (103, (.iconst (0)), 1), (104, (.istore 7), 2), (106, (.iload_n 1), 1), (107, (.iconst (1)), 1), (108, (.if_icmp .lt (8)), 3), (111, (.iload_n 1), 1), (112, (.iconst (5)), 1), (113, (.if_icmp .le (14)), 3), (116, (.iload_n 1), 1), (117, (.bipush (8)), 2), (119, (.if_icmp .eq (8)), 3), (122, (.iload 5), 2), (124, (.ifCond .eq (7)), 3), (127, (.iconst (1)), 1), (128, (.goto (4)), 3), (131, (.iconst (0)), 1), (132, (.istore 8), 2), (134, (.iload 6), 2), (136, (.ifCond .eq (10)), 3), (139, (.iload_n 2), 1), (140, (.invokestatic 107), 3), (143, (.ifCond .eq (28)), 3), (146, (.iload 7), 2), (148, (.ifCond .eq (10)), 3), (151, (.iload_n 3), 1), (152, (.invokestatic 107), 3), (155, (.ifCond .eq (16)), 3), (158, (.iload 8), 2), (160, (.ifCond .eq (13)), 3), (163, (.iload 4), 2), (165, (.invokestatic 107), 3), (168, (.ifCond .ne (5)), 3), (171, (.iconst (-1)), 1), (172, .ireturn, 1), (173, (.aload_n 0), 1), (174, (.getfield 7), 3), (177, (.aload_n 0), 1), (178, (.getfield 104), 3), (181, (.iload_n 1), 1), (182, .iastore, 1), (183, (.aload_n 0), 1), (184, (.getfield 13), 3), (187, (.aload_n 0), 1), (188, (.getfield 104), 3), (191, (.iload_n 2), 1), (192, .iastore, 1), (193, (.aload_n 0), 1), (194, (.getfield 16), 3), (197, (.aload_n 0), 1), (198, (.getfield 104), 3), (201, (.iload_n 3), 1), (202, .iastore, 1), (203, (.aload_n 0), 1), (204, (.getfield 19), 3), (207, (.aload_n 0), 1), (208, (.getfield 104), 3), (211, (.iload 4), 2), (213, .iastore, 1), (214, (.aload_n 0), 1), (215, .dup, 1), (216, (.getfield 104), 3), (219, (.iconst (1)), 1), (220, .iadd, 1), (221, (.putfield 104), 3), (224, (.aload_n 0), 1), (225, (.getfield 104), 3), (228, (.iconst (1)), 1), (229, .isub, 1), (230, .ireturn, 1)]
theorem tb_b143_ok : ∀ e ∈ tb_b143, decode prog_12_method_4_code e.1 = .ok e.2 := dp_dec (by decide +kernel)
def tb_b144 : List (Nat × Instr × Nat) := [(0, (.iload_n 0), 1), (1, (.ifCond .lt (12)), 3), (4, (.iload_n 0), 1), (5, (.iconst (3)), 1), (6, (.if_icmp .gt (7)), 3), (9, (.iconst (1)), 1), (10, (.goto (4)), 3), (13, (.iconst (0)), 1), (14, .ireturn, 1)]
theorem tb_b144_ok : ∀ e ∈ tb_b144, decode prog_12_method_2_code e.1 = .ok e.2 := dp_dec (by decide +kernel)
def tb_b145 : List (Nat × Instr × Nat) := [(0, (.aload_n 0), 1), (1, (.iconst (0)), 1), (2, (.putfield 104), 3), (5, (.aload_n 0), 1), (6, (.iconst (0)), 1), (7, (.putfield 100), 3), (10, (.aload_n 0), 1), (11, (.iconst (0)), 1), (12, (.putfield 111), 3), (15, (.aload_n 0), 1), (16, (.iconst (0)), 1), (17, (.putfield 114), 3), (20, .return_, 1)]
theorem tb_b145_ok : ∀ e ∈ tb_b145, decode prog_12_method_5_code e.1 = .ok e.2 := dp_dec (by decide +kernel)
end
section
def tb_b146 : List (Nat × Instr × Nat) := [(0, (.aload_n 0), 1), (1, (.getfield 100), 3), (4, (.ifCond .eq (6)), 3), (7, (.bipush (-2)), 2), (9, .ireturn, 1), (10, (.aload_n 0), 1), (11, (.invokevirtual 120), 3), (14, (.istore_n 1), 1), (15, (.iconst (0)), 1), (16, (.istore_n 2), 1), (17, (.iload_n 2), 1), (18, (.aload_n 0), 1), (19, (.getfield 104), 3), (22, (.if_icmp .ge (43)), 3), (25, (.iload_n 1), 1), (26, (.ifCond .ge (39)), 3), (29, (.aload_n 0), 1), (30, (.iload_n 2), 1), (31, (.invokevirtual 124), 3), (34, (.ifCond .eq (23)), 3), (37, (.aload_n 0), 1), (38, (.getfield 7), 3), (41, (.iload_n 2), 1), (42, .iaload, 1), (43, (.bipush (13)), 2), (45, .isub, 1), (46, (.aload_n 0), 1), (47, (.getfield 117), 3), (50, (.if_icmp .lt (7)), 3), (53, (.iload_n 2), 1), (54, (.goto (4)), 3), (57, (.iload_n 1), 1), (58, (.istore_n 1), 1), (59, (.iinc 2 (1)), 3), (62, (.goto (-45)), 3), (65, (.iload_n 1), 1), (66, (.ifCond .lt (8)), 3), (69, (.bipush (-3)), 2), (71, (.iload_n 1), 1), (72, .isub, 1), (73, .ireturn, 1), (74, (.aload_n 0), 1), (75, (.iconst (1)), 1), (76, (.putfield 100), 3), (79, (.aload_n 0), 1), (80, (.invokevirtual 127), 3), (83, (.aload_n 0), 1), (84, (.invokevirtual 130), 3), (87, (.iconst (0)), 1), (88, .ireturn, 1)]
theorem tb_b146_ok : ∀ e ∈ tb_b146, decode prog_12_method_7_code e.1 = .ok e.2 := dp_dec (by decide +kernel)
def tb_b147 : List (Nat × Instr × Nat) := [(0, (.iconst (0)), 1), (1, (.istore_n 1), 1), (2, (.aload_n 0), 1), (3, (.iconst (1)), 1), (4, (.putfield 117), 3), (7, (.aload_n 0), 1), (8, (.getfield 22), 3), (11, (.iconst (0)), 1), (12, (.iconst (0)), 1), (13, .iastore, 1), (14, (.iconst (0)), 1), (15, (.istore_n 2), 1), (16, (.iload_n 2), 1), (17, (.aload_n 0), 1), (18, (.getfield 104), 3), (21, (.if_icmp .ge (251)), 3), (24, (.iload_n 1), 1), (25, (.ifCond .le (14)), 3), (28, (.aload_n 0), 1), (29, (.getfield 43), 3), (32, (.iload_n 1), 1), (33, (.iconst (1)), 1), (34, .isub, 1), (35, .iaload, 1), (36, (.goto (4)), 3), (39, (.iconst (-1)), 1), (40, (.istore_n 3), 1), (41, (.aload_n 0), 1), (42, (.getfield 31), 3), (45, (.iload_n 2), 1), (46, (.iload_n 3), 1), (47, .iastore, 1), (48, (.aload_n 0), 1), (49, (.getfield 28), 3), (52, (.iload_n 2), 1), (53, (.aload_n 0), 1), (54, (.getfield 117), 3), (57, (.iconst (1)), 1), (58, .isub, 1), (59, .iastore, 1), (60, (.aload_n 0), 1), (61, (.getfield 34), 3), (64, (.iload_n 2), 1), (65, (.iconst (-1)), 1), (66, .iastore, 1), (67, (.aload_n 0), 1), (68, (.getfield 37), 3), (71, (.iload_n 2), 1), (72, (.iconst (-1)), 1), (73, .iastore, 1), (74, (.aload_n 0), 1), (75, (.getfield 7), 3), (78, (.iload_n 2), 1), (79, .iaload, 1), (80, (.bipush (9)), 2), (82, (.if_icmp .eq (14)), 3), (85, (.aload_n 0), 1), (86, (.getfield 7), 3), (89, (.iload_n 2), 1), (90, .iaload, 1), (91, (.bipush (11)), 2), (93, (.if_icmp .ne (23)), 3), (96, (.iload_n 1), 1), (97, (.iconst (4)), 1), (98, (.if_icmp .ne (5)), 3), (101, (.iload_n 2), 1), (102, .ireturn, 1), (103, (.aload_n 0), 1), (104, (.getfield 43), 3), (107, (.iload_n 1), 1), (108, (.iload_n 2), 1), (109, .iastore, 1), (110, (.iinc 1 (1)), 3), (113, (.goto (153)), 3), (116, (.aload_n 0), 1), (117, (.getfield 7), 3), (120, (.iload_n 2), 1), (121, .iaload, 1), (122, (.bipush (10)), 2), (124, (.if_icmp .ne (46)), 3), (127, (.iload_n 3), 1), (128, (.ifCond .lt (23)), 3), (131, (.aload_n 0), 1), (132, (.getfield 7), 3), (135, (.iload_n 3), 1), (136, .iaload, 1), (137, (.bipush (9)), 2), (139, (.if_icmp .ne (12)), 3), (142, (.aload_n 0), 1), (143, (.getfield 34), 3), (146, (.iload_n 3), 1), (147, .iaload, 1), (148, (.ifCond .lt (5)), 3), (151, (.iload_n 2), 1), (152, .ireturn, 1), (153, (.aload_n 0), 1), (154, (.getfield 34), 3), (157, (.iload_n 3), 1), (158, (.iload_n 2), 1), (159, .iastore, 1), (160, (.aload_n 0), 1), (161, (.getfield 40), 3), (164, (.iload_n 2), 1), (165, (.iload_n 3), 1), (166, .iastore, 1), (167, (.goto (99)), 3), (170, (.aload_n 0), 1), (171, (.getfield 7), 3), (174, (.iload_n 2), 1), (175, .iaload, 1), (176, (.bipush (12)), 2), (178, (.if_icmp .ne (29)), 3), (181, (.iload_n 3), 1), (182, (.ifCond .ge (5)), 3), (185, (.iload_n 2), 1), (186, .ireturn, 1), (187, (.aload_n 0), 1), (188, (.getfield 37), 3), (191, (.iload_n 3), 1), (192, (.iload_n 2), 1), (193, .iastore, 1), (194, (.aload_n 0), 1), (195, (.getfield 40), 3), (198, (.iload_n 2), 1), (199, (.iload_n 3), 1), (200, .iastore, 1), (201, (.iinc 1 (-1)), 3), (204, (.goto (62)), 3), (207, (.aload_n 0), 1), (208, (.getfield 7), 3), (211, (.iload_n 2), 1), (212, .iaload, 1), (213, (.bipush (18)), 2), (215, (.if_icmp .ne (51)), 3), (218, (.iload_n 1), 1), (219, (.ifCond .gt (11)), 3), (222, (.aload_n 0), 1), (223, (.getfield 117), 3), (226, (.iconst (4)), 1), (227, (.if_icmp .ne (5)), 3), (230, (.iload_n 2), 1), (231, .ireturn, 1), (232, (.aload_n 0), 1), (233, (.getfield 25), 3), (236, (.aload_n 0), 1), (237, (.getfield 117), 3), (240, (.iconst (1)), 1), (241, .isub, 1), (242, (.iload_n 2), 1), (243, .iastore, 1), (244, (.aload_n 0), 1), (245, (.getfield 22), 3), (248, (.aload_n 0), 1), (249, (.getfield 117), 3), (252, (.iload_n 2), 1), (253, (.iconst (1)), 1), (254, .iadd, 1), (255, .iastore, 1), (256, (.aload_n 0), 1), (257, .dup, 1), (258, (.getfield 117), 3), (261, (.iconst (1)), 1), (262, .iadd, 1), (263, (.putfield 117), 3), (266, (.iinc 2 (1)), 3), (269, (.goto (-253)), 3), (272, (.aload_n 0), 1), (273, (.getfield 25), 3), (276, (.aload_n 0), 1), (277, (.getfield 117), 3), (280, (.iconst (1)), 1), (281, .isub, 1), (282, (.aload_n 0), 1), (283, (.getfield 104), 3), (286, .iastore, 1), (287, (.iload_n 1), 1), (288, (.ifCond .le (10)), 3), (291, (.aload_n 0), 1), (292, (.getfield 104), 3), (295, (.goto (4)), 3), (298, (.iconst (-1)), 1), (299, .ireturn, 1)]
theorem tb_b147_ok : ∀ e ∈ tb_b147, decode prog_12_method_6_code e.1 = .ok e.2 := dp_dec (by decide +kernel)
def tb_b148 : List (Nat × Instr × Nat) := [(0, (.aload_n 0), 1), (1, (.getfield 7), 3), (4, (.iload_n 1), 1), (5, .iaload, 1), (6, (.bipush (13)), 2), (8, (.if_icmp .lt (18)), 3), (11, (.aload_n 0), 1), (12, (.getfield 7), 3), (15, (.iload_n 1), 1), (16, .iaload, 1), (17, (.bipush (16)), 2), (19, (.if_icmp .gt (7)), 3), (22, (.iconst (1)), 1), (23, (.goto (4)), 3), (26, (.iconst (0)), 1), (27, .ireturn, 1)]
theorem tb_b148_ok : ∀ e ∈ tb_b148, decode prog_12_method_3_code e.1 = .ok e.2 := dp_dec (by decide +kernel)
def tb_b149 : List (Nat × Instr × Nat) := [(0, (.iconst (0)), 1), (1, (.istore_n 1), 1), (2, (.iload_n 1), 1), (3, (.bipush (36)), 2), (5, (.if_icmp .ge (16)), 3), (8, (.aload_n 0), 1), (9, (.getfield 46), 3), (12, (.iload_n 1), 1), (13, (.lconst 0), 1), (14, .lastore, 1), (15, (.iinc 1 (1)), 3), (18, (.goto (-16)), 3), (21, (.iconst (0)), 1), (22, (.istore_n 1), 1), (23, (.iload_n 1), 1), (24, (.aload_n 0), 1), (25, (.getfield 104), 3), (28, (.if_icmp .ge (60)), 3), (31, (.iconst (0)), 1), (32, (.istore_n 2), 1), (33, (.iload_n 2), 1), (34, (.iconst (2)), 1), (35, (.if_icmp .ge (47)), 3), (38, (.aload_n 0), 1), (39, (.getfield 7), 3), (42, (.iload_n 1), 1), (43, .iaload, 1), (44, (.bipush (18)), 2), (46, (.if_icmp .eq (36)), 3), (49, (.aload_n 0), 1), (50, (.iload_n 1), 1), (51, (.iload_n 2), 1), (52, (.invokevirtual 137), 3), (55, (.istore_n 3), 1), (56, (.aload_n 0), 1), (57, (.getfield 46), 3), (60, (.iload_n 1), 1), (61, .dup2, 1), (62, .laload, 1), (63, (.iload_n 3), 1), (64, (.ifCond .ge (7)), 3), (67, (.lconst 0), 1), (68, (.goto (6)), 3), (71, (.lconst 1), 1), (72, (.iload_n 3), 1), (73, .lshl, 1), (74, .lor, 1), (75, .lastore, 1), (76, (.iinc 2 (1)), 3), (79, (.goto (-46)), 3), (82, (.iinc 1 (1)), 3), (85, (.goto (-62)), 3), (88, (.iconst (0)), 1), (89, (.istore_n 1), 1), (90, (.iload_n 1), 1), (91, (.bipush (36)), 2), (93, (.if_icmp .ge (57)), 3), (96, (.iconst (0)), 1), (97, (.istore_n 2), 1), (98, (.iload_n 2), 1), (99, (.bipush (36)), 2), (101, (.if_icmp .ge (43)), 3), (104, (.aload_n 0), 1), (105, (.getfield 46), 3), (108, (.iload_n 2), 1), (109, .dup2, 1), (110, .laload, 1), (111, (.aload_n 0), 1), (112, (.getfield 46), 3), (115, (.iload_n 2), 1), (116, .laload, 1), (117, (.iload_n 1), 1), (118, .lshr, 1), (119, (.lconst 1), 1), (120, .land, 1), (121, (.lconst 0), 1), (122, .lcmp, 1), (123, (.ifCond .eq (12)), 3), (126, (.aload_n 0), 1), (127, (.getfield 46), 3), (130, (.iload_n 1), 1), (131, .laload, 1), (132, (.goto (4)), 3), (135, (.lconst 0), 1), (136, .lor, 1), (137, .lastore, 1), (138, (.iinc 2 (1)), 3), (141, (.goto (-43)), 3), (144, (.iinc 1 (1)), 3), (147, (.goto (-57)), 3), (150, .return_, 1)]
theorem tb_b149_ok : ∀ e ∈ tb_b149, decode prog_12_method_10_code e.1 = .ok e.2 := dp_dec (by decide +kernel)
def tb_b150 : List (Nat × Instr × Nat) := [(0, (.iload_n 1), 1), (1, (.bipush (32)), 2), (3, (.if_icmp .lt (5)), 3), (6, (.iconst (-1)), 1), (7, .ireturn, 1), (8, (.aload_n 0), 1), (9, (.getfield 28), 3), (12, (.iload_n 1), 1), (13, .iaload, 1), (14, (.istore_n 3), 1), (15, (.aload_n 0), 1), (16, (.getfield 7), 3), (19, (.iload_n 1), 1), (20, .iaload, 1), (21, (.bipush (10)), 2), (23, (.if_icmp .ne (23)), 3), (26, (.iload_n 2), 1), (27, (.ifCond .ne (17)), 3), (30, (.aload_n 0), 1), (31, (.getfield 37), 3), (34, (.aload_n 0), 1), (35, (.getfield 40), 3), (38, (.iload_n 1), 1), (39, .iaload, 1), (40, .iaload, 1), (41, (.goto (4)), 3), (44, (.iconst (-1)), 1), (45, .ireturn, 1), (46, (.aload_n 0), 1), (47, (.getfield 7), 3), (50, (.iload_n 1), 1), (51, .iaload, 1), (52, (.bipush (12)), 2), (54, (.if_icmp .ne (34)), 3), (57, (.aload_n 0), 1), (58, (.getfield 7), 3), (61, (.aload_n 0), 1), (62, (.getfield 40), 3), (65, (.iload_n 1), 1), (66, .iaload, 1), (67, .iaload, 1), (68, (.bipush (11)), 2), (70, (.if_icmp .ne (18)), 3), (73, (.iload_n 2), 1), (74, (.ifCond .ne (12)), 3), (77, (.aload_n 0), 1), (78, (.getfield 40), 3), (81, (.iload_n 1), 1), (82, .iaload, 1), (83, (.goto (4)), 3), (86, (.iconst (-1)), 1), (87, .ireturn, 1), (88, (.iload_n 2), 1), (89, (.ifCond .ne (10)), 3), (92, (.aload_n 0), 1), (93, (.iload_n 1), 1), (94, (.iload_n 3), 1), (95, (.invokevirtual 133), 3), (98, .ireturn, 1), (99, (.aload_n 0), 1), (100, (.getfield 7), 3), (103, (.iload_n 1), 1), (104, .iaload, 1), (105, (.bipush (11)), 2), (107, (.if_icmp .ne (15)), 3), (110, (.aload_n 0), 1), (111, (.aload_n 0), 1), (112, (.getfield 37), 3), (115, (.iload_n 1), 1), (116, .iaload, 1), (117, (.iload_n 3), 1), (118, (.invokevirtual 133), 3), (121, .ireturn, 1), (122, (.aload_n 0), 1), (123, (.getfield 7), 3), (126, (.iload_n 1), 1), (127, .iaload, 1), (128, (.bipush (9)), 2), (130, (.if_icmp .eq (7)), 3), (133, (.iconst (-1)), 1), (134, (.goto (29)), 3), (137, (.aload_n 0), 1), (138, (.getfield 34), 3), (141, (.iload_n 1), 1), (142, .iaload, 1), (143, (.ifCond .lt (14)), 3), (146, (.aload_n 0), 1), (147, (.getfield 34), 3), (150, (.iload_n 1), 1), (151, .iaload, 1), (152, (.iconst (1)), 1), (153, .iadd, 1), (154, (.goto (9)), 3), (157, (.aload_n 0), 1), (158, (.getfield 37), 3), (161, (.iload_n 1), 1), (162, .iaload, 1), (163, .ireturn, 1)]
theorem tb_b150_ok : ∀ e ∈ tb_b150, decode prog_12_method_9_code e.1 = .ok e.2 := dp_dec (by decide +kernel)
def tb_b151 : List (Nat × Instr × Nat) := [(0, (.iload_n 1), 1), (1, (.iconst (1)), 1), (2, .iadd, 1), (3, (.aload_n 0), 1), (4, (.getfield 25), 3), (7, (.iload_n 2), 1), (8, .iaload, 1), (9, (.if_icmp .ge (9)), 3), (12, (.iload_n 1), 1), (13, (.iconst (1)), 1), (14, .iadd, 1), (15, (.goto (7)), 3), (18, (.bipush (32)), 2), (20, (.iload_n 2), 1), (21, .iadd, 1), (22, .ireturn, 1)]
theorem tb_b151_ok : ∀ e ∈ tb_b151, decode prog_12_method_8_code e.1 = .ok e.2 := dp_dec (by decide +kernel)
def tb_b152 : List (Nat × Instr × Nat) := [(0, (.iconst (0)), 1), (1, (.istore_n 1), 1), (2, (.iload_n 1), 1), (3, (.sipush (1008)), 3), (6, (.if_icmp .ge (30)), 3), (9, (.aload_n 0), 1), (10, (.getfield 50), 3), (13, (.iload_n 1), 1), (14, (.lconst 0), 1), (15, .lastore, 1), (16, (.aload_n 0), 1), (17, (.getfield 53), 3), (20, (.iload_n 1), 1), (21, (.lconst 0), 1), (22, .lastore, 1), (23, (.aload_n 0), 1), (24, (.getfield 56), 3), (27, (.iload_n 1), 1), (28, (.lconst 0), 1), (29, .lastore, 1), (30, (.iinc 1 (1)), 3), (33, (.goto (-31)), 3), (36, (.iconst (0)), 1), (37, (.istore_n 1), 1), (38, (.iload_n 1), 1), (39, (.sipush (252)), 3), (42, (.if_icmp .ge (42)), 3), (45, (.iconst (0)), 1), (46, (.istore_n 2), 1), (47, (.iload_n 2), 1), (48, (.sipush (252)), 3), (51, (.if_icmp .ge (27)), 3), (54, (.aload_n 0), 1), (55, (.iload_n 1), 1), (56, (.iload_n 2), 1), (57, (.invokevirtual 188), 3), (60, (.ifCond .eq (12)), 3), (63, (.aload_n 0), 1), (64, (.getfield 50), 3), (67, (.iload_n 1), 1), (68, (.iload_n 2), 1), (69, (.invokestatic 191), 3), (72, (.iinc 2 (1)), 3), (75, (.goto (-28)), 3), (78, (.iinc 1 (1)), 3), (81, (.goto (-43)), 3), (84, (.iconst (0)), 1), (85, (.istore_n 1), 1), (86, (.iload_n 1), 1), (87, (.aload_n 0), 1), (88, (.getfield 104), 3), (91, (.if_icmp .ge (100)), 3), (94, (.aload_n 0), 1), (95, (.iload_n 1), 1), (96, (.invokevirtual 124), 3), (99, (.ifCond .eq (86)), 3), (102, (.sipush (224)), 3), (105, (.bipush (7)), 2), (107, (.aload_n 0), 1), (108, (.getfield 7), 3), (111, (.iload_n 1), 1), (112, .iaload, 1), (113, (.bipush (13)), 2), (115, .isub, 1), (116, .imul, 1), (117, .iadd, 1), (118, (.istore_n 2), 1), (119, (.aload_n 0), 1), (120, (.getfield 53), 3), (123, (.iload_n 2), 1), (124, (.iload_n 1), 1), (125, (.invokestatic 191), 3), (128, (.iconst (0)), 1), (129, (.istore_n 3), 1), (130, (.iload_n 3), 1), (131, (.iconst (3)), 1), (132, (.if_icmp .ge (53)), 3), (135, (.aload_n 0), 1), (136, (.getfield 53), 3), (139, (.iload_n 2), 1), (140, (.iconst (1)), 1), (141, .iadd, 1), (142, (.iload_n 3), 1), (143, .iadd, 1), (144, (.bipush (32)), 2), (146, (.bipush (6)), 2), (148, (.iload_n 1), 1), (149, .imul, 1), (150, .iadd, 1), (151, (.iload_n 3), 1), (152, .iadd, 1), (153, (.invokestatic 191), 3), (156, (.aload_n 0), 1), (157, (.getfield 56), 3), (160, (.bipush (32)), 2), (162, (.bipush (6)), 2), (164, (.iload_n 1), 1), (165, .imul, 1), (166, .iadd, 1), (167, (.iconst (3)), 1), (168, .iadd, 1), (169, (.iload_n 3), 1), (170, .iadd, 1), (171, (.iload_n 2), 1), (172, (.iconst (4)), 1), (173, .iadd, 1), (174, (.iload_n 3), 1), (175, .iadd, 1), (176, (.invokestatic 191), 3), (179, (.iinc 3 (1)), 3), (182, (.goto (-52)), 3), (185, (.iinc 1 (1)), 3), (188, (.goto (-102)), 3), (191, (.iconst (1)), 1), (192, (.istore_n 1), 1), (193, (.iconst (0)), 1), (194, (.istore_n 2), 1), (195, (.iload_n 2), 1), (196, (.sipush (1000)), 3), (199, (.if_icmp .ge (57)), 3), (202, (.iload_n 1), 1), (203, (.ifCond .eq (53)), 3), (206, (.iconst (0)), 1), (207, (.istore_n 1), 1), (208, (.iconst (0)), 1), (209, (.istore_n 3), 1), (210, (.iload_n 3), 1), (211, (.aload_n 0), 1), (212, (.getfield 104), 3), (215, (.if_icmp .ge (35)), 3), (218, (.aload_n 0), 1), (219, (.iload_n 3), 1), (220, (.invokevirtual 124), 3), (223, (.ifCond .eq (11)), 3), (226, (.aload_n 0), 1), (227, (.iload_n 3), 1), (228, (.invokevirtual 195), 3), (231, (.ifCond .ne (7)), 3), (234, (.iload_n 1), 1), (235, (.ifCond .eq (7)), 3), (238, (.iconst (1)), 1), (239, (.goto (4)), 3), (242, (.iconst (0)), 1), (243, (.istore_n 1), 1), (244, (.iinc 3 (1)), 3), (247, (.goto (-37)), 3), (250, (.iinc 2 (1)), 3), (253, (.goto (-58)), 3), (256, .return_, 1)]
theorem tb_b152_ok : ∀ e ∈ tb_b152, decode prog_12_method_29_code e.1 = .ok e.2 := dp_dec (by decide +kernel)
def tb_b153 : List (Nat × Instr × Nat) := [(0, (.aload_n 0), 1), (1, (.iload_n 1), 1), (2, (.invokevirtual 174), 3), (5, (.ifCond .eq (24)), 3), (8, (.aload_n 0), 1), (9, (.iload_n 2), 1), (10, (.invokevirtual 174), 3), (13, (.ifCond .eq (16)), 3), (16, (.aload_n 0), 1), (17, (.iload_n 1), 1), (18, (.invokevirtual 161), 3), (21, (.aload_n 0), 1), (22, (.iload_n 2), 1), (23, (.invokevirtual 161), 3), (26, (.if_icmp .eq (5)), 3), (29, (.iconst (0)), 1), (30, .ireturn, 1), (31, (.aload_n 0), 1), (32, (.iload_n 1), 1), (33, (.iload_n 2), 1), (34, (.invokevirtual 177), 3), (37, (.ifCond .eq (7)), 3), (40, (.iconst (1)), 1), (41, (.goto (4)), 3), (44, (.iconst (0)), 1), (45, (.aload_n 0), 1), (46, (.iload_n 1), 1), (47, (.iload_n 2), 1), (48, (.invokevirtual 180), 3), (51, (.ifCond .eq (7)), 3), (54, (.iconst (2)), 1), (55, (.goto (4)), 3), (58, (.iconst (0)), 1), (59, .iadd, 1), (60, (.aload_n 0), 1), (61, (.iload_n 1), 1), (62, (.iload_n 2), 1), (63, (.invokevirtual 183), 3), (66, (.ifCond .eq (7)), 3), (69, (.iconst (4)), 1), (70, (.goto (4)), 3), (73, (.iconst (0)), 1), (74, .iadd, 1), (75, (.aload_n 0), 1), (76, (.iload_n 1), 1), (77, (.iload_n 2), 1), (78, (.invokevirtual 185), 3), (81, (.ifCond .eq (8)), 3), (84, (.bipush (8)), 2), (86, (.goto (4)), 3), (89, (.iconst (0)), 1), (90, .iadd, 1), (91, .ireturn, 1)]
theorem tb_b153_ok : ∀ e ∈ tb_b153, decode prog_12_method_26_code e.1 = .ok e.2 := dp_dec (by decide +kernel)
def tb_b154 : List (Nat × Instr × Nat) := [(0, (.iload_n 1), 1), (1, (.ifCond .lt (10)), 3), (4, (.iload_n 1), 1), (5, (.sipush (252)), 3), (8, (.if_icmp .lt (5)), 3), (11, (.iconst (0)), 1), (12, .ireturn, 1), (13, (.iload_n 1), 1), (14, (.sipush (224)), 3), (17, (.if_icmp .lt (24)), 3), (20, (.iload_n 1), 1), (21, (.sipush (224)), 3), (24, .isub, 1), (25, (.bipush (7)), 2), (27, .idiv, 1), (28, (.aload_n 0), 1), (29, (.getfield 117), 3), (32, (.if_icmp .ge (7)), 3), (35, (.iconst (1)), 1), (36, (.goto (4)), 3), (39, (.iconst (0)), 1), (40, .ireturn, 1), (41, (.iload_n 1), 1), (42, (.bipush (32)), 2), (44, (.if_icmp .ge (7)), 3), (47, (.iload_n 1), 1), (48, (.goto (10)), 3), (51, (.iload_n 1), 1), (52, (.bipush (32)), 2), (54, .isub, 1), (55, (.bipush (6)), 2), (57, .idiv, 1), (58, (.istore_n 2), 1), (59, (.iload_n 2), 1), (60, (.aload_n 0), 1), (61, (.getfield 104), 3), (64, (.if_icmp .ge (57)), 3), (67, (.iload_n 1), 1), (68, (.bipush (32)), 2), (70, (.if_icmp .ge (39)), 3), (73, (.aload_n 0), 1), (74, (.getfield 7), 3), (77, (.iload_n 2), 1), (78, .iaload, 1), (79, (.bipush (10)), 2), (81, (.if_icmp .eq (40)), 3), (84, (.aload_n 0), 1), (85, (.getfield 7), 3), (88, (.iload_n 2), 1), (89, .iaload, 1), (90, (.bipush (12)), 2), (92, (.if_icmp .eq (29)), 3), (95, (.aload_n 0), 1), (96, (.getfield 7), 3), (99, (.iload_n 2), 1), (100, .iaload, 1), (101, (.bipush (18)), 2), (103, (.if_icmp .eq (18)), 3), (106, (.goto (11)), 3), (109, (.aload_n 0), 1), (110, (.iload_n 2), 1), (111, (.invokevirtual 124), 3), (114, (.ifCond .eq (7)), 3), (117, (.iconst (1)), 1), (118, (.goto (4)), 3), (121, (.iconst (0)), 1), (122, .ireturn, 1)]
theorem tb_b154_ok : ∀ e ∈ tb_b154, decode prog_12_method_16_code e.1 = .ok e.2 := dp_dec (by decide +kernel)
def tb_b155 : List (Nat × Instr × Nat) := [(0, (.iload_n 1), 1), (1, (.sipush (224)), 3), (4, (.if_icmp .lt (14)), 3), (7, (.iload_n 1), 1), (8, (.sipush (224)), 3), (11, .isub, 1), (12, (.bipush (7)), 2), (14, .idiv, 1), (15, (.goto (12)), 3), (18, (.aload_n 0), 1), (19, (.getfield 28), 3), (22, (.iload_n 1), 1), (23, (.invokestatic 148), 3), (26, .iaload, 1), (27, .ireturn, 1)]
theorem tb_b155_ok : ∀ e ∈ tb_b155, decode prog_12_method_20_code e.1 = .ok e.2 := dp_dec (by decide +kernel)
def tb_b156 : List (Nat × Instr × Nat) := [(0, (.iload_n 0), 1), (1, (.bipush (32)), 2), (3, (.if_icmp .ge (7)), 3), (6, (.iload_n 0), 1), (7, (.goto (31)), 3), (10, (.iload_n 0), 1), (11, (.sipush (224)), 3), (14, (.if_icmp .ge (13)), 3), (17, (.iload_n 0), 1), (18, (.bipush (32)), 2), (20, .isub, 1), (21, (.bipush (6)), 2), (23, .idiv, 1), (24, (.goto (14)), 3), (27, (.bipush (32)), 2), (29, (.iload_n 0), 1), (30, (.sipush (224)), 3), (33, .isub, 1), (34, (.bipush (7)), 2), (36, .idiv, 1), (37, .iadd, 1), (38, .ireturn, 1)]
theorem tb_b156_ok : ∀ e ∈ tb_b156, decode prog_12_method_19_code e.1 = .ok e.2 := dp_dec (by decide +kernel)
end
section
def tb_b157 : List (Nat × Instr × Nat) := [(0, (.iload_n 1), 1), (1, (.sipush (224)), 3), (4, (.if_icmp .lt (5)), 3), (7, (.iconst (0)), 1), (8, .ireturn, 1), (9, (.iload_n 1), 1), (10, (.invokestatic 148), 3), (13, (.istore_n 3), 1), (14, (.iload_n 1), 1), (15, (.bipush (32)), 2), (17, (.if_icmp .lt (16)), 3), (20, (.iload_n 2), 1), (21, (.iload_n 3), 1), (22, (.if_icmp .ne (7)), 3), (25, (.iconst (1)), 1), (26, (.goto (47)), 3), (29, (.iconst (0)), 1), (30, (.goto (43)), 3), (33, (.iload_n 2), 1), (34, (.aload_n 0), 1), (35, (.getfield 31), 3), (38, (.iload_n 3), 1), (39, .iaload, 1), (40, (.ifCond .lt (12)), 3), (43, (.aload_n 0), 1), (44, (.getfield 31), 3), (47, (.iload_n 3), 1), (48, .iaload, 1), (49, (.goto (16)), 3), (52, (.sipush (224)), 3), (55, (.bipush (7)), 2), (57, (.aload_n 0), 1), (58, (.getfield 28), 3), (61, (.iload_n 3), 1), (62, .iaload, 1), (63, .imul, 1), (64, .iadd, 1), (65, (.if_icmp .ne (7)), 3), (68, (.iconst (1)), 1), (69, (.goto (4)), 3), (72, (.iconst (0)), 1), (73, .ireturn, 1)]
theorem tb_b157_ok : ∀ e ∈ tb_b157, decode prog_12_method_22_code e.1 = .ok e.2 := dp_dec (by decide +kernel)
def tb_b158 : List (Nat × Instr × Nat) := [(0, (.iload_n 2), 1), (1, (.invokestatic 152), 3), (4, (.iconst (1)), 1), (5, (.if_icmp .eq (11)), 3), (8, (.iload_n 2), 1), (9, (.invokestatic 152), 3), (12, (.iconst (2)), 1), (13, (.if_icmp .ne (7)), 3), (16, (.iconst (1)), 1), (17, (.goto (4)), 3), (20, (.iconst (0)), 1), (21, (.istore_n 3), 1), (22, (.iload_n 2), 1), (23, (.invokestatic 155), 3), (26, (.iconst (3)), 1), (27, (.if_icmp .eq (23)), 3), (30, (.iload_n 2), 1), (31, (.bipush (32)), 2), (33, (.if_icmp .ge (21)), 3), (36, (.aload_n 0), 1), (37, (.getfield 7), 3), (40, (.iload_n 2), 1), (41, (.invokestatic 148), 3), (44, .iaload, 1), (45, (.bipush (7)), 2), (47, (.if_icmp .gt (7)), 3), (50, (.iconst (1)), 1), (51, (.goto (4)), 3), (54, (.iconst (0)), 1), (55, (.istore 4), 2), (57, (.iload_n 3), 1), (58, (.ifCond .ne (10)), 3), (61, (.iload 4), 2), (63, (.ifCond .ne (5)), 3), (66, (.iconst (0)), 1), (67, .ireturn, 1), (68, (.iload_n 3), 1), (69, (.ifCond .eq (12)), 3), (72, (.iload_n 2), 1), (73, (.invokestatic 152), 3), (76, (.iconst (1)), 1), (77, .isub, 1), (78, (.goto (12)), 3), (81, (.aload_n 0), 1), (82, (.getfield 13), 3), (85, (.iload_n 2), 1), (86, (.invokestatic 148), 3), (89, .iaload, 1), (90, (.istore 5), 2), (92, (.aload_n 0), 1), (93, (.iload_n 1), 1), (94, (.iload 5), 2), (96, (.invokevirtual 158), 3), (99, (.ifCond .ne (5)), 3), (102, (.iconst (0)), 1), (103, .ireturn, 1), (104, (.iload_n 3), 1), (105, (.ifCond .eq (21)), 3), (108, (.aload_n 0), 1), (109, (.iload 5), 2), (111, (.aload_n 0), 1), (112, (.iload_n 1), 1), (113, (.invokevirtual 161), 3), (116, (.iload_n 1), 1), (117, (.invokestatic 148), 3), (120, (.invokevirtual 164), 3), (123, (.goto (17)), 3), (126, (.aload_n 0), 1), (127, (.iload 5), 2), (129, (.iload_n 2), 1), (130, (.invokestatic 148), 3), (133, (.iload_n 1), 1), (134, (.invokestatic 148), 3), (137, (.invokevirtual 168), 3), (140, .ireturn, 1)]
theorem tb_b158_ok : ∀ e ∈ tb_b158, decode prog_12_method_23_code e.1 = .ok e.2 := dp_dec (by decide +kernel)
def tb_b159 : List (Nat × Instr × Nat) := [(0, (.iload_n 0), 1), (1, (.sipush (224)), 3), (4, (.if_icmp .lt (14)), 3), (7, (.iload_n 0), 1), (8, (.sipush (224)), 3), (11, .isub, 1), (12, (.bipush (7)), 2), (14, .irem, 1), (15, (.goto (4)), 3), (18, (.iconst (-1)), 1), (19, .ireturn, 1)]
theorem tb_b159_ok : ∀ e ∈ tb_b159, decode prog_12_method_18_code e.1 = .ok e.2 := dp_dec (by decide +kernel)
def tb_b160 : List (Nat × Instr × Nat) := [(0, (.iload_n 0), 1), (1, (.bipush (32)), 2), (3, (.if_icmp .lt (20)), 3), (6, (.iload_n 0), 1), (7, (.sipush (224)), 3), (10, (.if_icmp .ge (13)), 3), (13, (.iload_n 0), 1), (14, (.bipush (32)), 2), (16, .isub, 1), (17, (.bipush (6)), 2), (19, .irem, 1), (20, (.goto (4)), 3), (23, (.iconst (-1)), 1), (24, .ireturn, 1)]
theorem tb_b160_ok : ∀ e ∈ tb_b160, decode prog_12_method_17_code e.1 = .ok e.2 := dp_dec (by decide +kernel)
def tb_b161 : List (Nat × Instr × Nat) := [(0, (.iload_n 1), 1), (1, (.sipush (224)), 3), (4, (.if_icmp .lt (21)), 3), (7, (.iload_n 1), 1), (8, (.invokestatic 152), 3), (11, (.iconst (4)), 1), (12, (.if_icmp .ne (11)), 3), (15, (.iload_n 2), 1), (16, (.ifCond .ne (7)), 3), (19, (.iconst (1)), 1), (20, (.goto (4)), 3), (23, (.iconst (0)), 1), (24, .ireturn, 1), (25, (.iload_n 1), 1), (26, (.invokestatic 148), 3), (29, (.istore_n 3), 1), (30, (.iload_n 1), 1), (31, (.bipush (32)), 2), (33, (.if_icmp .lt (44)), 3), (36, (.iload_n 1), 1), (37, (.invokestatic 155), 3), (40, (.ifCond .ne (13)), 3), (43, (.aload_n 0), 1), (44, (.getfield 16), 3), (47, (.iload_n 3), 1), (48, .iaload, 1), (49, (.iload_n 2), 1), (50, (.if_icmp .eq (21)), 3), (53, (.iload_n 1), 1), (54, (.invokestatic 155), 3), (57, (.iconst (1)), 1), (58, (.if_icmp .ne (17)), 3), (61, (.aload_n 0), 1), (62, (.getfield 19), 3), (65, (.iload_n 3), 1), (66, .iaload, 1), (67, (.iload_n 2), 1), (68, (.if_icmp .ne (7)), 3), (71, (.iconst (1)), 1), (72, (.goto (4)), 3), (75, (.iconst (0)), 1), (76, .ireturn, 1), (77, (.aload_n 0), 1), (78, (.getfield 7), 3), (81, (.iload_n 3), 1), (82, .iaload, 1), (83, (.istore 4), 2), (85, (.iload 4), 2), (87, (.iconst (1)), 1), (88, (.if_icmp .lt (9)), 3), (91, (.iload 4), 2), (93, (.iconst (5)), 1), (94, (.if_icmp .le (38)), 3), (97, (.iload 4), 2), (99, (.bipush (7)), 2), (101, (.if_icmp .eq (31)), 3), (104, (.iload 4), 2), (106, (.bipush (8)), 2), (108, (.if_icmp .eq (24)), 3), (111, (.iload 4), 2), (113, (.bipush (9)), 2), (115, (.if_icmp .eq (17)), 3), (118, (.iload 4), 2), (120, (.bipush (11)), 2), (122, (.if_icmp .eq (10)), 3), (125, (.iload 4), 2), (127, (.bipush (17)), 2), (129, (.if_icmp .ne (7)), 3), (132, (.iconst (1)), 1), (133, (.goto (4)), 3), (136, (.iconst (0)), 1), (137, (.istore 5), 2), (139, (.iload 4), 2), (141, (.iconst (1)), 1), (142, (.if_icmp .lt (9)), 3), (145, (.iload 4), 2), (147, (.iconst (5)), 1), (148, (.if_icmp .le (10)), 3), (151, (.iload 4), 2), (153, (.bipush (8)), 2), (155, (.if_icmp .ne (7)), 3), (158, (.iconst (1)), 1), (159, (.goto (4)), 3), (162, (.iconst (0)), 1), (163, (.istore 6), 2), (165, (.iload 5), 2), (167, (.ifCond .eq (13)), 3), (170, (.aload_n 0), 1), (171, (.getfield 16), 3), (174, (.iload_n 3), 1), (175, .iaload, 1), (176, (.iload_n 2), 1), (177, (.if_icmp .eq (18)), 3), (180, (.iload 6), 2), (182, (.ifCond .eq (17)), 3), (185, (.aload_n 0), 1), (186, (.getfield 19), 3), (189, (.iload_n 3), 1), (190, .iaload, 1), (191, (.iload_n 2), 1), (192, (.if_icmp .ne (7)), 3), (195, (.iconst (1)), 1), (196, (.goto (4)), 3), (199, (.iconst (0)), 1), (200, .ireturn, 1)]
theorem tb_b161_ok : ∀ e ∈ tb_b161, decode prog_12_method_21_code e.1 = .ok e.2 := dp_dec (by decide +kernel)
def tb_b162 : List (Nat × Instr × Nat) := [(0, (.aload_n 0), 1), (1, (.getfield 22), 3), (4, (.iload_n 2), 1), (5, .iaload, 1), (6, (.aload_n 0), 1), (7, (.getfield 25), 3), (10, (.iload_n 2), 1), (11, .iaload, 1), (12, (.if_icmp .ge (12)), 3), (15, (.aload_n 0), 1), (16, (.getfield 22), 3), (19, (.iload_n 2), 1), (20, .iaload, 1), (21, (.goto (7)), 3), (24, (.bipush (32)), 2), (26, (.iload_n 2), 1), (27, .iadd, 1), (28, (.istore 4), 2), (30, (.aload_n 0), 1), (31, (.lconst 1), 1), (32, (.iload 4), 2), (34, .lshl, 1), (35, (.iload_n 1), 1), (36, (.invokevirtual 144), 3), (39, (.iload_n 3), 1), (40, .lshr, 1), (41, (.lconst 1), 1), (42, .land, 1), (43, (.lconst 0), 1), (44, .lcmp, 1), (45, (.ifCond .eq (7)), 3), (48, (.iconst (1)), 1), (49, (.goto (4)), 3), (52, (.iconst (0)), 1), (53, .ireturn, 1)]
theorem tb_b162_ok : ∀ e ∈ tb_b162, decode prog_12_method_15_code e.1 = .ok e.2 := dp_dec (by decide +kernel)
def tb_b163 : List (Nat × Instr × Nat) := [(0, (.lload_n 1), 1), (1, (.lstore 4), 2), (3, (.iconst (0)), 1), (4, (.istore 6), 2), (6, (.iload 6), 2), (8, (.bipush (36)), 2), (10, (.if_icmp .ge (97)), 3), (13, (.iconst (0)), 1), (14, (.istore 7), 2), (16, (.iload 7), 2), (18, (.bipush (32)), 2), (20, (.if_icmp .ge (81)), 3), (23, (.lload 4), 2), (25, (.iload 7), 2), (27, .lshr, 1), (28, (.lconst 1), 1), (29, .land, 1), (30, (.lconst 0), 1), (31, .lcmp, 1), (32, (.ifCond .eq (63)), 3), (35, (.aload_n 0), 1), (36, (.iload 7), 2), (38, (.iload_n 3), 1), (39, (.invokevirtual 140), 3), (42, (.ifCond .ne (53)), 3), (45, (.aload_n 0), 1), (46, (.iload 7), 2), (48, (.iconst (0)), 1), (49, (.invokevirtual 137), 3), (52, (.istore 8), 2), (54, (.aload_n 0), 1), (55, (.iload 7), 2), (57, (.iconst (1)), 1), (58, (.invokevirtual 137), 3), (61, (.istore 9), 2), (63, (.lload 4), 2), (65, (.iload 8), 2), (67, (.ifCond .ge (7)), 3), (70, (.lconst 0), 1), (71, (.goto (7)), 3), (74, (.lconst 1), 1), (75, (.iload 8), 2), (77, .lshl, 1), (78, (.iload 9), 2), (80, (.ifCond .ge (7)), 3), (83, (.lconst 0), 1), (84, (.goto (7)), 3), (87, (.lconst 1), 1), (88, (.iload 9), 2), (90, .lshl, 1), (91, .lor, 1), (92, .lor, 1), (93, (.lstore 4), 2), (95, (.iinc 7 (1)), 3), (98, (.goto (-82)), 3), (101, (.iinc 6 (1)), 3), (104, (.goto (-98)), 3), (107, (.lload 4), 2), (109, .lreturn, 1)]
theorem tb_b163_ok : ∀ e ∈ tb_b163, decode prog_12_method_13_code e.1 = .ok e.2 := dp_dec (by decide +kernel)
def tb_b164 : List (Nat × Instr × Nat) := [(0, (.iload_n 1), 1), (1, (.bipush (32)), 2), (3, (.if_icmp .ge (36)), 3), (6, (.aload_n 0), 1), (7, (.getfield 7), 3), (10, (.iload_n 1), 1), (11, .iaload, 1), (12, (.bipush (7)), 2), (14, (.if_icmp .le (11)), 3), (17, (.aload_n 0), 1), (18, (.iload_n 1), 1), (19, (.invokevirtual 124), 3), (22, (.ifCond .eq (17)), 3), (25, (.aload_n 0), 1), (26, (.getfield 13), 3), (29, (.iload_n 1), 1), (30, .iaload, 1), (31, (.iload_n 2), 1), (32, (.if_icmp .ne (7)), 3), (35, (.iconst (1)), 1), (36, (.goto (4)), 3), (39, (.iconst (0)), 1), (40, .ireturn, 1)]
theorem tb_b164_ok : ∀ e ∈ tb_b164, decode prog_12_method_12_code e.1 = .ok e.2 := dp_dec (by decide +kernel)
def tb_b165 : List (Nat × Instr × Nat) := [(0, (.aload_n 0), 1), (1, (.iload_n 2), 1), (2, (.iconst (0)), 1), (3, (.invokevirtual 137), 3), (6, (.istore 4), 2), (8, (.aload_n 0), 1), (9, (.lconst 1), 1), (10, (.iload 4), 2), (12, .lshl, 1), (13, (.iload_n 1), 1), (14, (.invokevirtual 144), 3), (17, (.iload_n 3), 1), (18, .lshr, 1), (19, (.lconst 1), 1), (20, .land, 1), (21, (.lconst 0), 1), (22, .lcmp, 1), (23, (.ifCond .eq (7)), 3), (26, (.iconst (1)), 1), (27, (.goto (4)), 3), (30, (.iconst (0)), 1), (31, .ireturn, 1)]
theorem tb_b165_ok : ∀ e ∈ tb_b165, decode prog_12_method_14_code e.1 = .ok e.2 := dp_dec (by decide +kernel)
def tb_b166 : List (Nat × Instr × Nat) := [(0, (.iload_n 2), 1), (1, (.bipush (32)), 2), (3, (.if_icmp .ge (17)), 3), (6, (.aload_n 0), 1), (7, (.getfield 7), 3), (10, (.iload_n 2), 1), (11, (.invokestatic 148), 3), (14, .iaload, 1), (15, (.bipush (8)), 2), (17, (.if_icmp .eq (11)), 3), (20, (.iload_n 2), 1), (21, (.invokestatic 155), 3), (24, (.iconst (4)), 1), (25, (.if_icmp .ne (7)), 3), (28, (.iconst (1)), 1), (29, (.goto (4)), 3), (32, (.iconst (0)), 1), (33, (.istore_n 3), 1), (34, (.iload_n 1), 1), (35, (.invokestatic 152), 3), (38, (.iconst (5)), 1), (39, (.if_icmp .ne (5)), 3), (42, (.iload_n 3), 1), (43, .ireturn, 1), (44, (.iload_n 1), 1), (45, (.bipush (32)), 2), (47, (.if_icmp .ge (17)), 3), (50, (.aload_n 0), 1), (51, (.getfield 7), 3), (54, (.iload_n 1), 1), (55, (.invokestatic 148), 3), (58, .iaload, 1), (59, (.bipush (7)), 2), (61, (.if_icmp .eq (11)), 3), (64, (.iload_n 1), 1), (65, (.invokestatic 155), 3), (68, (.iconst (2)), 1), (69, (.if_icmp .ne (7)), 3), (72, (.iconst (1)), 1), (73, (.goto (4)), 3), (76, (.iconst (0)), 1), (77, (.istore 4), 2), (79, (.iload 4), 2), (81, (.ifCond .eq (34)), 3), (84, (.iload_n 2), 1), (85, (.invokestatic 152), 3), (88, (.iconst (3)), 1), (89, (.if_icmp .eq (22)), 3), (92, (.iload_n 3), 1), (93, (.ifCond .eq (22)), 3), (96, (.aload_n 0), 1), (97, (.iload_n 2), 1), (98, (.invokestatic 148), 3), (101, (.iload_n 1), 1), (102, (.invokestatic 148), 3), (105, (.invokevirtual 171), 3), (108, (.ifCond .eq (7)), 3), (111, (.iconst (1)), 1), (112, (.goto (4)), 3), (115, (.iconst (0)), 1), (116, .ireturn, 1)]
theorem tb_b166_ok : ∀ e ∈ tb_b166, decode prog_12_method_24_code e.1 = .ok e.2 := dp_dec (by decide +kernel)
def tb_b167 : List (Nat × Instr × Nat) := [(0, (.aload_n 0), 1), (1, (.getfield 46), 3), (4, (.iload_n 1), 1), (5, .laload, 1), (6, (.iload_n 2), 1), (7, .lshr, 1), (8, (.lconst 1), 1), (9, .land, 1), (10, (.lconst 0), 1), (11, .lcmp, 1), (12, (.ifCond .eq (7)), 3), (15, (.iconst (1)), 1), (16, (.goto (4)), 3), (19, (.iconst (0)), 1), (20, .ireturn, 1)]
theorem tb_b167_ok : ∀ e ∈ tb_b167, decode prog_12_method_11_code e.1 = .ok e.2 := dp_dec (by decide +kernel)
def tb_b168 : List (Nat × Instr × Nat) := [(0, (.iload_n 2), 1), (1, (.bipush (32)), 2), (3, (.if_icmp .ge (16)), 3), (6, (.aload_n 0), 1), (7, (.getfield 7), 3), (10, (.iload_n 2), 1), (11, (.invokestatic 148), 3), (14, .iaload, 1), (15, (.iconst (5)), 1), (16, (.if_icmp .eq (11)), 3), (19, (.iload_n 2), 1), (20, (.invokestatic 155), 3), (23, (.iconst (5)), 1), (24, (.if_icmp .ne (7)), 3), (27, (.iconst (1)), 1), (28, (.goto (4)), 3), (31, (.iconst (0)), 1), (32, (.istore_n 3), 1), (33, (.iload_n 3), 1), (34, (.ifCond .eq (37)), 3), (37, (.iload_n 1), 1), (38, (.invokestatic 152), 3), (41, (.bipush (6)), 2), (43, (.if_icmp .eq (24)), 3), (46, (.iload_n 1), 1), (47, (.bipush (32)), 2), (49, (.if_icmp .ge (22)), 3), (52, (.aload_n 0), 1), (53, (.iload_n 2), 1), (54, (.invokestatic 148), 3), (57, (.iload_n 1), 1), (58, (.invokestatic 148), 3), (61, (.invokevirtual 171), 3), (64, (.ifCond .eq (7)), 3), (67, (.iconst (1)), 1), (68, (.goto (4)), 3), (71, (.iconst (0)), 1), (72, .ireturn, 1)]
theorem tb_b168_ok : ∀ e ∈ tb_b168, decode prog_12_method_25_code e.1 = .ok e.2 := dp_dec (by decide +kernel)
def tb_b169 : List (Nat × Instr × Nat) := [(0, (.aload_n 0), 1), (1, (.iconst (4)), 1), (2, (.iload_n 1), 1), (3, .imul, 1), (4, (.iload_n 2), 1), (5, (.bipush (6)), 2), (7, .ishr, 1), (8, .iadd, 1), (9, .dup2, 1), (10, .laload, 1), (11, (.lconst 1), 1), (12, (.iload_n 2), 1), (13, (.bipush (63)), 2), (15, .iand, 1), (16, .lshl, 1), (17, .lor, 1), (18, .lastore, 1), (19, .return_, 1)]
theorem tb_b169_ok : ∀ e ∈ tb_b169, decode prog_12_method_28_code e.1 = .ok e.2 := dp_dec (by decide +kernel)
def tb_b170 : List (Nat × Instr × Nat) := [(0, (.sipush (224)), 3), (3, (.bipush (7)), 2), (5, (.aload_n 0), 1), (6, (.getfield 7), 3), (9, (.iload_n 1), 1), (10, .iaload, 1), (11, (.bipush (13)), 2), (13, .isub, 1), (14, .imul, 1), (15, .iadd, 1), (16, (.istore_n 2), 1), (17, (.iconst (0)), 1), (18, (.istore_n 3), 1), (19, (.iconst (0)), 1), (20, (.istore 4), 2), (22, (.iload 4), 2), (24, (.iconst (3)), 1), (25, (.if_icmp .ge (117)), 3), (28, (.aload_n 0), 1), (29, (.iload_n 2), 1), (30, (.iconst (4)), 1), (31, .iadd, 1), (32, (.iload 4), 2), (34, .iadd, 1), (35, (.invokevirtual 198), 3), (38, (.aload_n 0), 1), (39, (.aload_n 0), 1), (40, (.getfield 50), 3), (43, (.aload_n 0), 1), (44, (.getfield 50), 3), (47, (.iconst (0)), 1), (48, (.invokevirtual 202), 3), (51, (.iconst (0)), 1), (52, (.istore 5), 2), (54, (.iload 5), 2), (56, (.iconst (3)), 1), (57, (.if_icmp .ge (79)), 3), (60, (.bipush (32)), 2), (62, (.bipush (6)), 2), (64, (.iload_n 1), 1), (65, .imul, 1), (66, .iadd, 1), (67, (.iconst (3)), 1), (68, .iadd, 1), (69, (.iload 4), 2), (71, .iadd, 1), (72, (.istore 6), 2), (74, (.bipush (32)), 2), (76, (.bipush (6)), 2), (78, (.iload_n 1), 1), (79, .imul, 1), (80, .iadd, 1), (81, (.iload 5), 2), (83, .iadd, 1), (84, (.istore 7), 2), (86, (.aload_n 0), 1), (87, (.getfield 59), 3), (90, (.iconst (0)), 1), (91, (.iload_n 2), 1), (92, (.iconst (1)), 1), (93, .iadd, 1), (94, (.iload 5), 2), (96, .iadd, 1), (97, (.invokestatic 206), 3), (100, (.ifCond .eq (30)), 3), (103, (.aload_n 0), 1), (104, (.getfield 50), 3), (107, (.iload 6), 2), (109, (.iload 7), 2), (111, (.invokestatic 206), 3), (114, (.ifCond .ne (16)), 3), (117, (.aload_n 0), 1), (118, (.getfield 50), 3), (121, (.iload 6), 2), (123, (.iload 7), 2), (125, (.invokestatic 191), 3), (128, (.iconst (1)), 1), (129, (.istore_n 3), 1), (130, (.iinc 5 (1)), 3), (133, (.goto (-79)), 3), (136, (.iinc 4 (1)), 3), (139, (.goto (-117)), 3), (142, (.iload_n 3), 1), (143, .ireturn, 1)]
theorem tb_b170_ok : ∀ e ∈ tb_b170, decode prog_12_method_30_code e.1 = .ok e.2 := dp_dec (by decide +kernel)
def tb_b171 : List (Nat × Instr × Nat) := [(0, (.iconst (0)), 1), (1, (.istore_n 2), 1), (2, (.iload_n 2), 1), (3, (.iconst (4)), 1), (4, (.if_icmp .ge (16)), 3), (7, (.aload_n 0), 1), (8, (.getfield 59), 3), (11, (.iload_n 2), 1), (12, (.lconst 0), 1), (13, .lastore, 1), (14, (.iinc 2 (1)), 3), (17, (.goto (-15)), 3), (20, (.aload_n 0), 1), (21, (.getfield 59), 3), (24, (.iconst (0)), 1), (25, (.iload_n 1), 1), (26, (.invokestatic 191), 3), (29, .return_, 1)]
theorem tb_b171_ok : ∀ e ∈ tb_b171, decode prog_12_method_31_code e.1 = .ok e.2 := dp_dec (by decide +kernel)
def tb_b172 : List (Nat × Instr × Nat) := [(0, (.iconst (1)), 1), (1, (.istore 4), 2), (3, (.iconst (0)), 1), (4, (.istore 5), 2), (6, (.iload 5), 2), (8, (.sipush (300)), 3), (11, (.if_icmp .ge (184)), 3), (14, (.iload 4), 2), (16, (.ifCond .eq (179)), 3), (19, (.iconst (0)), 1), (20, (.istore 4), 2), (22, (.iconst (0)), 1), (23, (.istore 6), 2), (25, (.iload 6), 2), (27, (.sipush (252)), 3), (30, (.if_icmp .ge (159)), 3), (33, (.iload_n 3), 1), (34, (.ifCond .eq (30)), 3), (37, (.aload_n 0), 1), (38, (.getfield 59), 3), (41, (.iconst (0)), 1), (42, (.iload 6), 2), (44, (.invokestatic 206), 3), (47, (.ifCond .ne (136)), 3), (50, (.aload_n 0), 1), (51, (.aload_n 1), 1), (52, (.aload_n 2), 1), (53, (.iload 6), 2), (55, (.invokevirtual 210), 3), (58, (.ifCond .eq (125)), 3), (61, (.goto (16)), 3), (64, (.aload_n 0), 1), (65, (.getfield 59), 3), (68, (.iconst (0)), 1), (69, (.iload 6), 2), (71, (.invokestatic 206), 3), (74, (.ifCond .eq (109)), 3), (77, (.iconst (0)), 1), (78, (.istore 7), 2), (80, (.iload 7), 2), (82, (.iconst (4)), 1), (83, (.if_icmp .ge (100)), 3), (86, (.aload_n 0), 1), (87, (.getfield 59), 3), (90, (.iload 7), 2), (92, .laload, 1), (93, (.lstore 8), 2), (95, (.aload_n 0), 1), (96, (.getfield 59), 3), (99, (.iload 7), 2), (101, .dup2, 1), (102, .laload, 1), (103, (.iload_n 3), 1), (104, (.ifCond .eq (27)), 3), (107, (.iload 6), 2), (109, (.bipush (6)), 2), (111, .ishr, 1), (112, (.iload 7), 2), (114, (.if_icmp .ne (13)), 3), (117, (.lconst 1), 1), (118, (.iload 6), 2), (120, (.bipush (63)), 2), (122, .iand, 1), (123, .lshl, 1), (124, (.goto (26)), 3), (127, (.lconst 0), 1), (128, (.goto (22)), 3), (131, (.aload_n 1), 1), (132, (.iconst (4)), 1), (133, (.iload 6), 2), (135, .imul, 1), (136, (.iload 7), 2), (138, .iadd, 1), (139, .laload, 1), (140, (.aload_n 2), 1), (141, (.iconst (4)), 1), (142, (.iload 6), 2), (144, .imul, 1), (145, (.iload 7), 2), (147, .iadd, 1), (148, .laload, 1), (149, .lor, 1), (150, .lor, 1), (151, .lastore, 1), (152, (.iload 4), 2), (154, (.ifCond .ne (16)), 3), (157, (.aload_n 0), 1), (158, (.getfield 59), 3), (161, (.iload 7), 2), (163, .laload, 1), (164, (.lload 8), 2), (166, .lcmp, 1), (167, (.ifCond .eq (7)), 3), (170, (.iconst (1)), 1), (171, (.goto (4)), 3), (174, (.iconst (0)), 1), (175, (.istore 4), 2), (177, (.iinc 7 (1)), 3), (180, (.goto (-100)), 3), (183, (.iinc 6 (1)), 3), (186, (.goto (-161)), 3), (189, (.iinc 5 (1)), 3), (192, (.goto (-186)), 3), (195, .return_, 1)]
theorem tb_b172_ok : ∀ e ∈ tb_b172, decode prog_12_method_32_code e.1 = .ok e.2 := dp_dec (by decide +kernel)
def tb_b173 : List (Nat × Instr × Nat) := [(0, (.aload_n 0), 1), (1, (.iconst (4)), 1), (2, (.iload_n 1), 1), (3, .imul, 1), (4, (.iload_n 2), 1), (5, (.bipush (6)), 2), (7, .ishr, 1), (8, .iadd, 1), (9, .laload, 1), (10, (.iload_n 2), 1), (11, (.bipush (63)), 2), (13, .iand, 1), (14, .lshr, 1), (15, (.lconst 1), 1), (16, .land, 1), (17, (.lconst 0), 1), (18, .lcmp, 1), (19, (.ifCond .eq (7)), 3), (22, (.iconst (1)), 1), (23, (.goto (4)), 3), (26, (.iconst (0)), 1), (27, .ireturn, 1)]
theorem tb_b173_ok : ∀ e ∈ tb_b173, decode prog_12_method_27_code e.1 = .ok e.2 := dp_dec (by decide +kernel)
def tb_b174 : List (Nat × Instr × Nat) := [(0, (.lconst 0), 1), (1, (.lstore 4), 2), (3, (.iconst (0)), 1), (4, (.istore 6), 2), (6, (.iload 6), 2), (8, (.iconst (4)), 1), (9, (.if_icmp .ge (39)), 3), (12, (.lload 4), 2), (14, (.aload_n 1), 1), (15, (.iconst (4)), 1), (16, (.iload_n 3), 1), (17, .imul, 1), (18, (.iload 6), 2), (20, .iadd, 1), (21, .laload, 1), (22, (.aload_n 2), 1), (23, (.iconst (4)), 1), (24, (.iload_n 3), 1), (25, .imul, 1), (26, (.iload 6), 2), (28, .iadd, 1), (29, .laload, 1), (30, .lor, 1), (31, (.aload_n 0), 1), (32, (.getfield 59), 3), (35, (.iload 6), 2), (37, .laload, 1), (38, .land, 1), (39, .lor, 1), (40, (.lstore 4), 2), (42, (.iinc 6 (1)), 3), (45, (.goto (-39)), 3), (48, (.lload 4), 2), (50, (.lconst 0), 1), (51, .lcmp, 1), (52, (.ifCond .eq (7)), 3), (55, (.iconst (1)), 1), (56, (.goto (4)), 3), (59, (.iconst (0)), 1), (60, .ireturn, 1)]
theorem tb_b174_ok : ∀ e ∈ tb_b174, decode prog_12_method_33_code e.1 = .ok e.2 := dp_dec (by decide +kernel)
end
section
def tb_b175 : List (Nat × Instr × Nat) := [(0, (.aload_n 0), 1), (1, (.getfield 100), 3), (4, (.ifCond .eq (39)), 3), (7, (.iload_n 1), 1), (8, (.ifCond .lt (35)), 3), (11, (.iload_n 1), 1), (12, (.bipush (31)), 2), (14, (.if_icmp .gt (29)), 3), (17, (.iload_n 2), 1), (18, (.ifCond .lt (25)), 3), (21, (.iload_n 2), 1), (22, (.bipush (31)), 2), (24, (.if_icmp .gt (19)), 3), (27, (.aload_n 0), 1), (28, (.iload_n 1), 1), (29, (.invokevirtual 174), 3), (32, (.ifCond .eq (11)), 3), (35, (.aload_n 0), 1), (36, (.iload_n 2), 1), (37, (.invokevirtual 174), 3), (40, (.ifCond .ne (5)), 3), (43, (.iconst (0)), 1), (44, .ireturn, 1), (45, (.iconst (0)), 1), (46, (.istore_n 3), 1), (47, (.iconst (-1)), 1), (48, (.istore 4), 2), (50, (.iload 4), 2), (52, (.bipush (6)), 2), (54, (.if_icmp .ge (95)), 3), (57, (.iconst (-1)), 1), (58, (.istore 5), 2), (60, (.iload 5), 2), (62, (.bipush (6)), 2), (64, (.if_icmp .ge (79)), 3), (67, (.iload 4), 2), (69, (.ifCond .ge (7)), 3), (72, (.iload_n 1), 1), (73, (.goto (13)), 3), (76, (.bipush (32)), 2), (78, (.bipush (6)), 2), (80, (.iload_n 1), 1), (81, .imul, 1), (82, .iadd, 1), (83, (.iload 4), 2), (85, .iadd, 1), (86, (.istore 6), 2), (88, (.iload 5), 2), (90, (.ifCond .ge (7)), 3), (93, (.iload_n 2), 1), (94, (.goto (13)), 3), (97, (.bipush (32)), 2), (99, (.bipush (6)), 2), (101, (.iload_n 2), 1), (102, .imul, 1), (103, .iadd, 1), (104, (.iload 5), 2), (106, .iadd, 1), (107, (.istore 7), 2), (109, (.aload_n 0), 1), (110, (.iload 6), 2), (112, (.iload 7), 2), (114, (.invokevirtual 188), 3), (117, (.istore 8), 2), (119, (.iload_n 3), 1), (120, (.iload 4), 2), (122, (.ifCond .lt (11)), 3), (125, (.iload 8), 2), (127, (.bipush (14)), 2), (129, .iand, 1), (130, (.goto (5)), 3), (133, (.iload 8), 2), (135, .ior, 1), (136, (.istore_n 3), 1), (137, (.iinc 5 (1)), 3), (140, (.goto (-80)), 3), (143, (.iinc 4 (1)), 3), (146, (.goto (-96)), 3), (149, (.iload_n 3), 1), (150, .ireturn, 1)]
theorem tb_b175_ok : ∀ e ∈ tb_b175, decode prog_12_method_36_code e.1 = .ok e.2 := dp_dec (by decide +kernel)
def tb_b176 : List (Nat × Instr × Nat) := [(0, (.aload_n 0), 1), (1, (.getfield 100), 3), (4, (.ifCond .eq (41)), 3), (7, (.iload_n 1), 1), (8, (.ifCond .lt (37)), 3), (11, (.iload_n 1), 1), (12, (.aload_n 0), 1), (13, (.getfield 104), 3), (16, (.if_icmp .ge (29)), 3), (19, (.aload_n 0), 1), (20, (.iload_n 1), 1), (21, (.invokevirtual 124), 3), (24, (.ifCond .eq (21)), 3), (27, (.iload_n 2), 1), (28, (.ifCond .lt (17)), 3), (31, (.iload_n 2), 1), (32, (.iconst (2)), 1), (33, (.if_icmp .gt (12)), 3), (36, (.iload_n 3), 1), (37, (.ifCond .lt (8)), 3), (40, (.iload_n 3), 1), (41, (.iconst (2)), 1), (42, (.if_icmp .le (5)), 3), (45, (.iconst (0)), 1), (46, .ireturn, 1), (47, (.aload_n 0), 1), (48, (.getfield 50), 3), (51, (.bipush (32)), 2), (53, (.bipush (6)), 2), (55, (.iload_n 1), 1), (56, .imul, 1), (57, .iadd, 1), (58, (.iconst (3)), 1), (59, .iadd, 1), (60, (.iload_n 2), 1), (61, .iadd, 1), (62, (.bipush (32)), 2), (64, (.bipush (6)), 2), (66, (.iload_n 1), 1), (67, .imul, 1), (68, .iadd, 1), (69, (.iload_n 3), 1), (70, .iadd, 1), (71, (.invokestatic 206), 3), (74, .ireturn, 1)]
theorem tb_b176_ok : ∀ e ∈ tb_b176, decode prog_12_method_37_code e.1 = .ok e.2 := dp_dec (by decide +kernel)
def tb_b177 : List (Nat × Instr × Nat) := [(0, (.aload_n 0), 1), (1, (.getfield 100), 3), (4, (.ifCond .eq (21)), 3), (7, (.iload_n 1), 1), (8, (.ifCond .lt (17)), 3), (11, (.iload_n 1), 1), (12, (.bipush (31)), 2), (14, (.if_icmp .gt (11)), 3), (17, (.aload_n 0), 1), (18, (.iload_n 1), 1), (19, (.invokevirtual 174), 3), (22, (.ifCond .ne (5)), 3), (25, (.iconst (-1)), 1), (26, .ireturn, 1), (27, (.iload_n 2), 1), (28, (.ifCond .eq (37)), 3), (31, (.aload_n 0), 1), (32, (.iload_n 1), 1), (33, (.invokevirtual 198), 3), (36, (.aload_n 0), 1), (37, (.aload_n 0), 1), (38, (.getfield 50), 3), (41, (.aload_n 0), 1), (42, (.getfield 56), 3), (45, (.iconst (1)), 1), (46, (.invokevirtual 202), 3), (49, (.aload_n 0), 1), (50, (.aload_n 0), 1), (51, (.getfield 50), 3), (54, (.aload_n 0), 1), (55, (.getfield 53), 3), (58, (.iconst (1)), 1), (59, (.invokevirtual 202), 3), (62, (.goto (8)), 3), (65, (.aload_n 0), 1), (66, (.iload_n 1), 1), (67, (.invokevirtual 214), 3), (70, (.iconst (0)), 1), (71, (.istore_n 3), 1), (72, (.iload_n 3), 1), (73, (.iconst (4)), 1), (74, (.if_icmp .ge (21)), 3), (77, (.aload_n 0), 1), (78, (.getfield 62), 3), (81, (.iload_n 3), 1), (82, (.aload_n 0), 1), (83, (.getfield 59), 3), (86, (.iload_n 3), 1), (87, .laload, 1), (88, .lastore, 1), (89, (.iinc 3 (1)), 3), (92, (.goto (-20)), 3), (95, (.aload_n 0), 1), (96, (.iload_n 2), 1), (97, (.ifCond .eq (7)), 3), (100, (.iconst (2)), 1), (101, (.goto (4)), 3), (104, (.iconst (1)), 1), (105, (.putfield 111), 3), (108, (.aload_n 0), 1), (109, (.iload_n 1), 1), (110, (.putfield 217), 3), (113, (.aload_n 0), 1), (114, (.iconst (0)), 1), (115, (.putfield 114), 3), (118, (.aload_n 0), 1), (119, (.aload_n 0), 1), (120, (.getfield 62), 3), (123, (.invokevirtual 220), 3), (126, .ireturn, 1)]
theorem tb_b177_ok : ∀ e ∈ tb_b177, decode prog_12_method_38_code e.1 = .ok e.2 := dp_dec (by decide +kernel)
def tb_b178 : List (Nat × Instr × Nat) := [(0, (.aload_n 0), 1), (1, (.iload_n 1), 1), (2, (.invokevirtual 198), 3), (5, (.aload_n 0), 1), (6, (.aload_n 0), 1), (7, (.getfield 50), 3), (10, (.aload_n 0), 1), (11, (.getfield 53), 3), (14, (.iconst (0)), 1), (15, (.invokevirtual 202), 3), (18, (.aload_n 0), 1), (19, (.aload_n 0), 1), (20, (.getfield 50), 3), (23, (.aload_n 0), 1), (24, (.getfield 56), 3), (27, (.iconst (0)), 1), (28, (.invokevirtual 202), 3), (31, .return_, 1)]
theorem tb_b178_ok : ∀ e ∈ tb_b178, decode prog_12_method_34_code e.1 = .ok e.2 := dp_dec (by decide +kernel)
def tb_b179 : List (Nat × Instr × Nat) := [(0, (.iconst (0)), 1), (1, (.istore_n 2), 1), (2, (.iconst (0)), 1), (3, (.istore_n 3), 1), (4, (.iload_n 3), 1), (5, (.bipush (32)), 2), (7, (.if_icmp .ge (26)), 3), (10, (.iload_n 2), 1), (11, (.aload_n 1), 1), (12, (.iconst (0)), 1), (13, (.iload_n 3), 1), (14, (.invokestatic 206), 3), (17, (.ifCond .eq (7)), 3), (20, (.iconst (1)), 1), (21, (.goto (4)), 3), (24, (.iconst (0)), 1), (25, .iadd, 1), (26, (.istore_n 2), 1), (27, (.iinc 3 (1)), 3), (30, (.goto (-26)), 3), (33, (.iload_n 2), 1), (34, .ireturn, 1)]
theorem tb_b179_ok : ∀ e ∈ tb_b179, decode prog_12_method_35_code e.1 = .ok e.2 := dp_dec (by decide +kernel)
def tb_b180 : List (Nat × Instr × Nat) := [(0, (.aload_n 0), 1), (1, (.getfield 111), 3), (4, (.iconst (1)), 1), (5, (.if_icmp .eq (5)), 3), (8, (.iconst (-1)), 1), (9, .ireturn, 1), (10, (.aload_n 0), 1), (11, (.invokevirtual 224), 3), (14, (.istore_n 1), 1), (15, (.iconst (0)), 1), (16, (.istore_n 2), 1), (17, (.iload_n 2), 1), (18, (.sipush (1000)), 3), (21, (.if_icmp .ge (51)), 3), (24, (.iload_n 1), 1), (25, (.ifCond .lt (47)), 3), (28, (.aload_n 0), 1), (29, (.iload_n 1), 1), (30, (.invokevirtual 214), 3), (33, (.iconst (0)), 1), (34, (.istore_n 3), 1), (35, (.iload_n 3), 1), (36, (.iconst (4)), 1), (37, (.if_icmp .ge (24)), 3), (40, (.aload_n 0), 1), (41, (.getfield 62), 3), (44, (.iload_n 3), 1), (45, .dup2, 1), (46, .laload, 1), (47, (.aload_n 0), 1), (48, (.getfield 59), 3), (51, (.iload_n 3), 1), (52, .laload, 1), (53, .lor, 1), (54, .lastore, 1), (55, (.iinc 3 (1)), 3), (58, (.goto (-23)), 3), (61, (.aload_n 0), 1), (62, (.invokevirtual 224), 3), (65, (.istore_n 1), 1), (66, (.iinc 2 (1)), 3), (69, (.goto (-52)), 3), (72, (.aload_n 0), 1), (73, (.iconst (0)), 1), (74, (.putfield 114), 3), (77, (.aload_n 0), 1), (78, (.aload_n 0), 1), (79, (.getfield 62), 3), (82, (.invokevirtual 220), 3), (85, .ireturn, 1)]
theorem tb_b180_ok : ∀ e ∈ tb_b180, decode prog_12_method_40_code e.1 = .ok e.2 := dp_dec (by decide +kernel)
def tb_b181 : List (Nat × Instr × Nat) := [(0, (.iconst (0)), 1), (1, (.istore_n 1), 1), (2, (.iload_n 1), 1), (3, (.aload_n 0), 1), (4, (.getfield 104), 3), (7, (.if_icmp .ge (105)), 3), (10, (.iconst (0)), 1), (11, (.istore_n 2), 1), (12, (.iload_n 2), 1), (13, (.iconst (3)), 1), (14, (.if_icmp .ge (92)), 3), (17, (.aload_n 0), 1), (18, (.iload_n 1), 1), (19, (.invokevirtual 124), 3), (22, (.ifCond .eq (84)), 3), (25, (.aload_n 0), 1), (26, (.getfield 62), 3), (29, (.iconst (0)), 1), (30, (.iload_n 1), 1), (31, (.invokestatic 206), 3), (34, (.ifCond .eq (72)), 3), (37, (.sipush (224)), 3), (40, (.bipush (7)), 2), (42, (.aload_n 0), 1), (43, (.getfield 7), 3), (46, (.iload_n 1), 1), (47, .iaload, 1), (48, (.bipush (13)), 2), (50, .isub, 1), (51, .imul, 1), (52, .iadd, 1), (53, (.istore_n 3), 1), (54, (.aload_n 0), 1), (55, (.getfield 62), 3), (58, (.iconst (0)), 1), (59, (.iload_n 3), 1), (60, (.iconst (1)), 1), (61, .iadd, 1), (62, (.iload_n 2), 1), (63, .iadd, 1), (64, (.invokestatic 206), 3), (67, (.ifCond .eq (33)), 3), (70, (.aload_n 0), 1), (71, (.getfield 62), 3), (74, (.iconst (0)), 1), (75, (.bipush (32)), 2), (77, (.bipush (6)), 2), (79, (.iload_n 1), 1), (80, .imul, 1), (81, .iadd, 1), (82, (.iload_n 2), 1), (83, .iadd, 1), (84, (.invokestatic 206), 3), (87, (.ifCond .ne (13)), 3), (90, (.bipush (32)), 2), (92, (.bipush (6)), 2), (94, (.iload_n 1), 1), (95, .imul, 1), (96, .iadd, 1), (97, (.iload_n 2), 1), (98, .iadd, 1), (99, .ireturn, 1), (100, (.iinc 2 (1)), 3), (103, (.goto (-91)), 3), (106, (.iinc 1 (1)), 3), (109, (.goto (-107)), 3), (112, (.iconst (-1)), 1), (113, .ireturn, 1)]
theorem tb_b181_ok : ∀ e ∈ tb_b181, decode prog_12_method_39_code e.1 = .ok e.2 := dp_dec (by decide +kernel)
def tb_b182 : List (Nat × Instr × Nat) := [(0, (.aload_n 0), 1), (1, (.getfield 111), 3), (4, (.ifCond .le (29)), 3), (7, (.iload_n 1), 1), (8, (.ifCond .lt (25)), 3), (11, (.iload_n 1), 1), (12, (.bipush (32)), 2), (14, (.if_icmp .ge (19)), 3), (17, (.aload_n 0), 1), (18, (.getfield 62), 3), (21, (.iconst (0)), 1), (22, (.iload_n 1), 1), (23, (.invokestatic 206), 3), (26, (.ifCond .eq (7)), 3), (29, (.iconst (1)), 1), (30, (.goto (4)), 3), (33, (.iconst (0)), 1), (34, .ireturn, 1)]
theorem tb_b182_ok : ∀ e ∈ tb_b182, decode prog_12_method_41_code e.1 = .ok e.2 := dp_dec (by decide +kernel)
def tb_b183 : List (Nat × Instr × Nat) := [(0, (.iload_n 1), 1), (1, (.invokestatic 107), 3), (4, (.ifCond .ne (5)), 3), (7, (.iconst (0)), 1), (8, .ireturn, 1), (9, (.aload_n 0), 1), (10, (.getfield 65), 3), (13, (.iload_n 1), 1), (14, (.iload_n 2), 1), (15, .iastore, 1), (16, (.iconst (1)), 1), (17, .ireturn, 1)]
theorem tb_b183_ok : ∀ e ∈ tb_b183, decode prog_12_method_42_code e.1 = .ok e.2 := dp_dec (by decide +kernel)
def tb_b184 : List (Nat × Instr × Nat) := [(0, (.aload_n 0), 1), (1, (.getfield 100), 3), (4, (.ifCond .eq (26)), 3), (7, (.iload_n 2), 1), (8, (.ifCond .lt (22)), 3), (11, (.iload_n 2), 1), (12, (.sipush (600)), 3), (15, (.if_icmp .gt (15)), 3), (18, (.iload_n 1), 1), (19, (.ifCond .ne (13)), 3), (22, (.aload_n 0), 1), (23, (.getfield 111), 3), (26, (.iconst (1)), 1), (27, (.if_icmp .eq (5)), 3), (30, (.iconst (-1)), 1), (31, .ireturn, 1), (32, (.aload_n 0), 1), (33, (.iconst (1)), 1), (34, (.putfield 114), 3), (37, (.aload_n 0), 1), (38, (.iconst (0)), 1), (39, (.putfield 227), 3), (42, (.aload_n 0), 1), (43, (.iconst (1)), 1), (44, (.putfield 230), 3), (47, (.aload_n 0), 1), (48, (.iconst (0)), 1), (49, (.putfield 233), 3), (52, (.iconst (0)), 1), (53, (.istore_n 3), 1), (54, (.iload_n 3), 1), (55, (.iconst (4)), 1), (56, (.if_icmp .ge (30)), 3), (59, (.aload_n 0), 1), (60, (.getfield 68), 3), (63, (.iload_n 3), 1), (64, (.iconst (0)), 1), (65, .iastore, 1), (66, (.aload_n 0), 1), (67, (.getfield 74), 3), (70, (.iload_n 3), 1), (71, (.iconst (0)), 1), (72, .iastore, 1), (73, (.aload_n 0), 1), (74, (.getfield 80), 3), (77, (.iload_n 3), 1), (78, (.iconst (0)), 1), (79, .iastore, 1), (80, (.iinc 3 (1)), 3), (83, (.goto (-29)), 3), (86, (.aload_n 0), 1), (87, (.getfield 22), 3), (90, (.iconst (0)), 1), (91, .iaload, 1), (92, (.istore_n 3), 1), (93, (.iconst (0)), 1), (94, (.istore 4), 2), (96, (.iconst (0)), 1), (97, (.istore 5), 2), (99, (.iload 5), 2), (101, (.ldc 236), 2), (103, (.if_icmp .ge (252)), 3), (106, (.iload_n 3), 1), (107, (.aload_n 0), 1), (108, (.getfield 25), 3), (111, (.iload 4), 2), (113, .iaload, 1), (114, (.if_icmp .ne (32)), 3), (117, (.aload_n 0), 1), (118, (.getfield 230), 3), (121, (.iconst (1)), 1), (122, (.if_icmp .ne (5)), 3), (125, (.iconst (0)), 1), (126, .ireturn, 1), (127, (.aload_n 0), 1), (128, (.invokevirtual 237), 3), (131, (.istore_n 3), 1), (132, (.aload_n 0), 1), (133, (.getfield 28), 3), (136, (.iload_n 3), 1), (137, .iaload, 1), (138, (.istore 4), 2), (140, (.iinc 3 (1)), 3), (143, (.goto (206)), 3), (146, (.aload_n 0), 1), (147, (.getfield 7), 3), (150, (.iload_n 3), 1), (151, .iaload, 1), (152, (.bipush (10)), 2), (154, (.if_icmp .ne (18)), 3), (157, (.aload_n 0), 1), (158, (.getfield 37), 3), (161, (.aload_n 0), 1), (162, (.getfield 40), 3), (165, (.iload_n 3), 1), (166, .iaload, 1), (167, .iaload, 1), (168, (.istore_n 3), 1), (169, (.goto (180)), 3), (172, (.aload_n 0), 1), (173, (.getfield 7), 3), (176, (.iload_n 3), 1), (177, .iaload, 1), (178, (.bipush (12)), 2), (180, (.if_icmp .ne (35)), 3), (183, (.aload_n 0), 1), (184, (.getfield 7), 3), (187, (.aload_n 0), 1), (188, (.getfield 40), 3), (191, (.iload_n 3), 1), (192, .iaload, 1), (193, .iaload, 1), (194, (.bipush (11)), 2), (196, (.if_icmp .ne (12)), 3), (199, (.aload_n 0), 1), (200, (.getfield 40), 3), (203, (.iload_n 3), 1), (204, .iaload, 1), (205, (.goto (6)), 3), (208, (.iload_n 3), 1), (209, (.iconst (1)), 1), (210, .iadd, 1), (211, (.istore_n 3), 1), (212, (.goto (137)), 3), (215, (.iload_n 1), 1), (216, (.ifCond .ne (55)), 3), (219, (.aload_n 0), 1), (220, (.getfield 62), 3), (223, (.iconst (0)), 1), (224, (.iload_n 3), 1), (225, (.invokestatic 206), 3), (228, (.ifCond .ne (43)), 3), (231, (.aload_n 0), 1), (232, (.getfield 7), 3), (235, (.iload_n 3), 1), (236, .iaload, 1), (237, (.bipush (9)), 2), (239, (.if_icmp .eq (14)), 3), (242, (.aload_n 0), 1), (243, (.getfield 7), 3), (246, (.iload_n 3), 1), (247, .iaload, 1), (248, (.bipush (11)), 2), (250, (.if_icmp .ne (14)), 3), (253, (.aload_n 0), 1), (254, (.getfield 37), 3), (257, (.iload_n 3), 1), (258, .iaload, 1), (259, (.iconst (1)), 1), (260, .iadd, 1), (261, (.goto (6)), 3), (264, (.iload_n 3), 1), (265, (.iconst (1)), 1), (266, .iadd, 1), (267, (.istore_n 3), 1), (268, (.goto (81)), 3), (271, (.aload_n 0), 1), (272, (.getfield 227), 3), (275, (.iload_n 2), 1), (276, (.if_icmp .ne (5)), 3), (279, (.iconst (2)), 1), (280, .ireturn, 1), (281, (.aload_n 0), 1), (282, .dup, 1), (283, (.getfield 227), 3), (286, (.iconst (1)), 1), (287, .iadd, 1), (288, (.putfield 227), 3), (291, (.aload_n 0), 1), (292, (.iload_n 3), 1), (293, (.invokevirtual 124), 3), (296, (.ifCond .eq (41)), 3), (299, (.aload_n 0), 1), (300, (.getfield 230), 3), (303, (.bipush (7)), 2), (305, (.if_icmp .ne (5)), 3), (308, (.iconst (2)), 1), (309, .ireturn, 1), (310, (.aload_n 0), 1), (311, (.iload_n 3), 1), (312, (.invokevirtual 240), 3), (315, (.aload_n 0), 1), (316, (.getfield 7), 3), (319, (.iload_n 3), 1), (320, .iaload, 1), (321, (.bipush (13)), 2), (323, .isub, 1), (324, (.istore 4), 2), (326, (.aload_n 0), 1), (327, (.getfield 22), 3), (330, (.iload 4), 2), (332, .iaload, 1), (333, (.istore_n 3), 1), (334, (.goto (15)), 3), (337, (.aload_n 0), 1), (338, (.iload_n 3), 1), (339, (.invokevirtual 243), 3), (342, (.istore_n 3), 1), (343, (.iload_n 3), 1), (344, (.ifCond .ge (5)), 3), (347, (.iconst (1)), 1), (348, .ireturn, 1), (349, (.iinc 5 (1)), 3), (352, (.goto (-253)), 3), (355, (.iconst (2)), 1), (356, .ireturn, 1)]
theorem tb_b184_ok : ∀ e ∈ tb_b184, decode prog_12_method_43_code e.1 = .ok e.2 := dp_dec (by decide +kernel)
def tb_b185 : List (Nat × Instr × Nat) := [(0, (.aload_n 0), 1), (1, (.iconst (0)), 1), (2, (.invokevirtual 246), 3), (5, (.istore_n 1), 1), (6, (.aload_n 0), 1), (7, .dup, 1), (8, (.getfield 230), 3), (11, (.iconst (1)), 1), (12, .isub, 1), (13, (.putfield 230), 3), (16, (.aload_n 0), 1), (17, (.getfield 71), 3), (20, (.aload_n 0), 1), (21, (.getfield 230), 3), (24, .iaload, 1), (25, (.istore_n 2), 1), (26, (.aload_n 0), 1), (27, (.aload_n 0), 1), (28, (.getfield 13), 3), (31, (.iload_n 2), 1), (32, .iaload, 1), (33, (.iload_n 1), 1), (34, (.invokevirtual 249), 3), (37, (.iload_n 2), 1), (38, .ireturn, 1)]
theorem tb_b185_ok : ∀ e ∈ tb_b185, decode prog_12_method_47_code e.1 = .ok e.2 := dp_dec (by decide +kernel)
def tb_b186 : List (Nat × Instr × Nat) := [(0, (.aload_n 0), 1), (1, (.getfield 68), 3), (4, (.iconst (4)), 1), (5, (.aload_n 0), 1), (6, (.getfield 230), 3), (9, (.iconst (1)), 1), (10, .isub, 1), (11, .imul, 1), (12, (.iload_n 1), 1), (13, .iadd, 1), (14, .iaload, 1), (15, .ireturn, 1)]
theorem tb_b186_ok : ∀ e ∈ tb_b186, decode prog_12_method_44_code e.1 = .ok e.2 := dp_dec (by decide +kernel)
def tb_b187 : List (Nat × Instr × Nat) := [(0, (.aload_n 0), 1), (1, (.getfield 68), 3), (4, (.iconst (4)), 1), (5, (.aload_n 0), 1), (6, (.getfield 230), 3), (9, (.iconst (1)), 1), (10, .isub, 1), (11, .imul, 1), (12, (.iload_n 1), 1), (13, .iadd, 1), (14, (.iload_n 2), 1), (15, .iastore, 1), (16, .return_, 1)]
theorem tb_b187_ok : ∀ e ∈ tb_b187, decode prog_12_method_45_code e.1 = .ok e.2 := dp_dec (by decide +kernel)
def tb_b188 : List (Nat × Instr × Nat) := [(0, (.aload_n 0), 1), (1, (.aload_n 0), 1), (2, (.getfield 16), 3), (5, (.iload_n 1), 1), (6, .iaload, 1), (7, (.invokevirtual 246), 3), (10, (.istore_n 2), 1), (11, (.aload_n 0), 1), (12, (.aload_n 0), 1), (13, (.getfield 19), 3), (16, (.iload_n 1), 1), (17, .iaload, 1), (18, (.invokevirtual 246), 3), (21, (.istore_n 3), 1), (22, (.aload_n 0), 1), (23, (.getfield 71), 3), (26, (.aload_n 0), 1), (27, (.getfield 230), 3), (30, (.iload_n 1), 1), (31, .iastore, 1), (32, (.aload_n 0), 1), (33, .dup, 1), (34, (.getfield 230), 3), (37, (.iconst (1)), 1), (38, .iadd, 1), (39, (.putfield 230), 3), (42, (.aload_n 0), 1), (43, (.iconst (0)), 1), (44, (.iload_n 2), 1), (45, (.invokevirtual 249), 3), (48, (.aload_n 0), 1), (49, (.iconst (1)), 1), (50, (.iload_n 3), 1), (51, (.invokevirtual 249), 3), (54, (.aload_n 0), 1), (55, (.iconst (2)), 1), (56, (.iconst (0)), 1), (57, (.invokevirtual 249), 3), (60, (.aload_n 0), 1), (61, (.iconst (3)), 1), (62, (.iconst (0)), 1), (63, (.invokevirtual 249), 3), (66, .return_, 1)]
theorem tb_b188_ok : ∀ e ∈ tb_b188, decode prog_12_method_46_code e.1 = .ok e.2 := dp_dec (by decide +kernel)
end
section
def tb_b189 : List (Nat × Instr × Nat) := [(0, (.aload_n 0), 1), (1, (.getfield 7), 3), (4, (.iload_n 1), 1), (5, .iaload, 1), (6, (.istore_n 2), 1), (7, (.iload_n 2), 1), (8, (.bipush (7)), 2), (10, (.if_icmp .gt (113)), 3), (13, (.iload_n 2), 1), (14, (.iconst (1)), 1), (15, (.if_icmp .lt (21)), 3), (18, (.iload_n 2), 1), (19, (.iconst (5)), 1), (20, (.if_icmp .gt (16)), 3), (23, (.aload_n 0), 1), (24, (.aload_n 0), 1), (25, (.getfield 19), 3), (28, (.iload_n 1), 1), (29, .iaload, 1), (30, (.invokevirtual 246), 3), (33, (.goto (4)), 3), (36, (.iconst (0)), 1), (37, (.istore_n 3), 1), (38, (.iload_n 2), 1), (39, (.iconst (5)), 1), (40, (.if_icmp .ne (9)), 3), (43, (.iload_n 3), 1), (44, (.ifCond .ne (5)), 3), (47, (.iconst (-1)), 1), (48, .ireturn, 1), (49, (.iload_n 2), 1), (50, (.ifCond .ne (12)), 3), (53, (.aload_n 0), 1), (54, (.getfield 16), 3), (57, (.iload_n 1), 1), (58, .iaload, 1), (59, (.goto (39)), 3), (62, (.iload_n 2), 1), (63, (.bipush (6)), 2), (65, (.if_icmp .ne (17)), 3), (68, (.aload_n 0), 1), (69, (.getfield 65), 3), (72, (.aload_n 0), 1), (73, (.getfield 16), 3), (76, (.iload_n 1), 1), (77, .iaload, 1), (78, .iaload, 1), (79, (.goto (19)), 3), (82, (.aload_n 0), 1), (83, (.iload_n 2), 1), (84, (.aload_n 0), 1), (85, (.aload_n 0), 1), (86, (.getfield 16), 3), (89, (.iload_n 1), 1), (90, .iaload, 1), (91, (.invokevirtual 246), 3), (94, (.iload_n 3), 1), (95, (.invokevirtual 253), 3), (98, (.istore 4), 2), (100, (.aload_n 0), 1), (101, (.aload_n 0), 1), (102, (.getfield 13), 3), (105, (.iload_n 1), 1), (106, .iaload, 1), (107, (.iload 4), 2), (109, (.invokevirtual 249), 3), (112, (.aload_n 0), 1), (113, (.iload_n 1), 1), (114, (.iload 4), 2), (116, (.invokevirtual 257), 3), (119, (.iload_n 1), 1), (120, (.iconst (1)), 1), (121, .iadd, 1), (122, .ireturn, 1), (123, (.aload_n 0), 1), (124, (.aload_n 0), 1), (125, (.getfield 16), 3), (128, (.iload_n 1), 1), (129, .iaload, 1), (130, (.invokevirtual 246), 3), (133, (.istore_n 3), 1), (134, (.iload_n 2), 1), (135, (.bipush (8)), 2), (137, (.if_icmp .ne (36)), 3), (140, (.aload_n 0), 1), (141, (.aload_n 0), 1), (142, (.getfield 19), 3), (145, (.iload_n 1), 1), (146, .iaload, 1), (147, (.invokevirtual 246), 3), (150, (.istore 4), 2), (152, (.aload_n 0), 1), (153, (.getfield 74), 3), (156, (.iload_n 3), 1), (157, (.iconst (3)), 1), (158, .iand, 1), (159, (.iload 4), 2), (161, .iastore, 1), (162, (.aload_n 0), 1), (163, (.iload_n 1), 1), (164, (.iload 4), 2), (166, (.invokevirtual 257), 3), (169, (.iload_n 1), 1), (170, (.iconst (1)), 1), (171, .iadd, 1), (172, .ireturn, 1), (173, (.aload_n 0), 1), (174, (.iload_n 1), 1), (175, (.iload_n 3), 1), (176, (.invokevirtual 257), 3), (179, (.iload_n 2), 1), (180, (.bipush (17)), 2), (182, (.if_icmp .ne (57)), 3), (185, (.aload_n 0), 1), (186, (.getfield 13), 3), (189, (.iload_n 1), 1), (190, .iaload, 1), (191, (.istore 4), 2), (193, (.aload_n 0), 1), (194, (.getfield 80), 3), (197, (.iload 4), 2), (199, .iaload, 1), (200, (.bipush (40)), 2), (202, (.if_icmp .ge (22)), 3), (205, (.aload_n 0), 1), (206, (.getfield 83), 3), (209, (.bipush (40)), 2), (211, (.iload 4), 2), (213, .imul, 1), (214, (.aload_n 0), 1), (215, (.getfield 80), 3), (218, (.iload 4), 2), (220, .iaload, 1), (221, .iadd, 1), (222, (.iload_n 3), 1), (223, .iastore, 1), (224, (.aload_n 0), 1), (225, (.getfield 80), 3), (228, (.iload 4), 2), (230, .dup2, 1), (231, .iaload, 1), (232, (.iconst (1)), 1), (233, .iadd, 1), (234, .iastore, 1), (235, (.iload_n 1), 1), (236, (.iconst (1)), 1), (237, .iadd, 1), (238, .ireturn, 1), (239, (.iload_n 3), 1), (240, (.ifCond .eq (9)), 3), (243, (.iload_n 1), 1), (244, (.iconst (1)), 1), (245, .iadd, 1), (246, (.goto (46)), 3), (249, (.iload_n 2), 1), (250, (.bipush (11)), 2), (252, (.if_icmp .ne (14)), 3), (255, (.aload_n 0), 1), (256, (.getfield 37), 3), (259, (.iload_n 1), 1), (260, .iaload, 1), (261, (.iconst (1)), 1), (262, .iadd, 1), (263, (.goto (29)), 3), (266, (.aload_n 0), 1), (267, (.getfield 34), 3), (270, (.iload_n 1), 1), (271, .iaload, 1), (272, (.ifCond .lt (14)), 3), (275, (.aload_n 0), 1), (276, (.getfield 34), 3), (279, (.iload_n 1), 1), (280, .iaload, 1), (281, (.iconst (1)), 1), (282, .iadd, 1), (283, (.goto (9)), 3), (286, (.aload_n 0), 1), (287, (.getfield 37), 3), (290, (.iload_n 1), 1), (291, .iaload, 1), (292, .ireturn, 1)]
theorem tb_b189_ok : ∀ e ∈ tb_b189, decode prog_12_method_49_code e.1 = .ok e.2 := dp_dec (by decide +kernel)
def tb_b190 : List (Nat × Instr × Nat) := [(0, (.iload_n 1), 1), (1, (.tableswitch (62) (1) (5) #[35, 39, 43, 47, 58]), 35), (36, (.iload_n 2), 1), (37, (.iload_n 3), 1), (38, .iadd, 1), (39, .ireturn, 1), (40, (.iload_n 2), 1), (41, (.iload_n 3), 1), (42, .isub, 1), (43, .ireturn, 1), (44, (.iload_n 2), 1), (45, (.iload_n 3), 1), (46, .imul, 1), (47, .ireturn, 1), (48, (.iload_n 2), 1), (49, (.iload_n 3), 1), (50, (.if_icmp .ge (7)), 3), (53, (.iconst (1)), 1), (54, (.goto (4)), 3), (57, (.iconst (0)), 1), (58, .ireturn, 1), (59, (.iload_n 2), 1), (60, (.iload_n 3), 1), (61, .idiv, 1), (62, .ireturn, 1), (63, (.aload_n 0), 1), (64, (.getfield 74), 3), (67, (.iload_n 2), 1), (68, (.iconst (3)), 1), (69, .iand, 1), (70, .iaload, 1), (71, .ireturn, 1)]
theorem tb_b190_ok : ∀ e ∈ tb_b190, decode prog_12_method_50_code e.1 = .ok e.2 := dp_dec (by decide +kernel)
def tb_b191 : List (Nat × Instr × Nat) := [(0, (.aload_n 0), 1), (1, (.getfield 111), 3), (4, (.ifCond .eq (11)), 3), (7, (.iload_n 1), 1), (8, (.aload_n 0), 1), (9, (.getfield 217), 3), (12, (.if_icmp .eq (4)), 3), (15, .return_, 1), (16, (.aload_n 0), 1), (17, (.getfield 233), 3), (20, (.bipush (60)), 2), (22, (.if_icmp .ge (13)), 3), (25, (.aload_n 0), 1), (26, (.getfield 77), 3), (29, (.aload_n 0), 1), (30, (.getfield 233), 3), (33, (.iload_n 2), 1), (34, .iastore, 1), (35, (.aload_n 0), 1), (36, .dup, 1), (37, (.getfield 233), 3), (40, (.iconst (1)), 1), (41, .iadd, 1), (42, (.putfield 233), 3), (45, .return_, 1)]
theorem tb_b191_ok : ∀ e ∈ tb_b191, decode prog_12_method_48_code e.1 = .ok e.2 := dp_dec (by decide +kernel)
def tb_b192 : List (Nat × Instr × Nat) := [(0, (.aload_n 0), 1), (1, (.getfield 114), 3), (4, (.ifCond .eq (10)), 3), (7, (.aload_n 0), 1), (8, (.getfield 227), 3), (11, (.goto (4)), 3), (14, (.iconst (-1)), 1), (15, .ireturn, 1)]
theorem tb_b192_ok : ∀ e ∈ tb_b192, decode prog_12_method_51_code e.1 = .ok e.2 := dp_dec (by decide +kernel)
def tb_b193 : List (Nat × Instr × Nat) := [(0, (.aload_n 0), 1), (1, (.getfield 114), 3), (4, (.ifCond .eq (15)), 3), (7, (.aload_n 0), 1), (8, (.getfield 111), 3), (11, (.ifCond .eq (8)), 3), (14, (.iload_n 1), 1), (15, (.iconst (-1)), 1), (16, (.if_icmp .ge (5)), 3), (19, (.iconst (0)), 1), (20, .ireturn, 1), (21, (.iload_n 1), 1), (22, (.iconst (-1)), 1), (23, (.if_icmp .ne (10)), 3), (26, (.aload_n 0), 1), (27, (.getfield 233), 3), (30, (.goto (27)), 3), (33, (.iload_n 1), 1), (34, (.aload_n 0), 1), (35, (.getfield 233), 3), (38, (.if_icmp .ge (18)), 3), (41, (.iload_n 1), 1), (42, (.bipush (60)), 2), (44, (.if_icmp .ge (12)), 3), (47, (.aload_n 0), 1), (48, (.getfield 77), 3), (51, (.iload_n 1), 1), (52, .iaload, 1), (53, (.goto (4)), 3), (56, (.iconst (0)), 1), (57, .ireturn, 1)]
theorem tb_b193_ok : ∀ e ∈ tb_b193, decode prog_12_method_52_code e.1 = .ok e.2 := dp_dec (by decide +kernel)
def tb_b194 : List (Nat × Instr × Nat) := [(0, (.aload_n 0), 1), (1, (.getfield 114), 3), (4, (.ifCond .eq (15)), 3), (7, (.iload_n 1), 1), (8, (.invokestatic 107), 3), (11, (.ifCond .eq (8)), 3), (14, (.iload_n 2), 1), (15, (.iconst (-1)), 1), (16, (.if_icmp .ge (5)), 3), (19, (.iconst (0)), 1), (20, .ireturn, 1), (21, (.iload_n 2), 1), (22, (.iconst (-1)), 1), (23, (.if_icmp .ne (12)), 3), (26, (.aload_n 0), 1), (27, (.getfield 80), 3), (30, (.iload_n 1), 1), (31, .iaload, 1), (32, (.goto (34)), 3), (35, (.iload_n 2), 1), (36, (.aload_n 0), 1), (37, (.getfield 80), 3), (40, (.iload_n 1), 1), (41, .iaload, 1), (42, (.if_icmp .ge (23)), 3), (45, (.iload_n 2), 1), (46, (.bipush (40)), 2), (48, (.if_icmp .ge (17)), 3), (51, (.aload_n 0), 1), (52, (.getfield 83), 3), (55, (.bipush (40)), 2), (57, (.iload_n 1), 1), (58, .imul, 1), (59, (.iload_n 2), 1), (60, .iadd, 1), (61, .iaload, 1), (62, (.goto (4)), 3), (65, (.iconst (0)), 1), (66, .ireturn, 1)]
theorem tb_b194_ok : ∀ e ∈ tb_b194, decode prog_12_method_53_code e.1 = .ok e.2 := dp_dec (by decide +kernel)
def tb_b195 : List (Nat × Instr × Nat) := [(0, (.iload_n 1), 1), (1, (.iconst (1)), 1), (2, (.if_icmp .lt (8)), 3), (5, (.iload_n 1), 1), (6, (.iconst (5)), 1), (7, (.if_icmp .le (5)), 3), (10, (.iconst (0)), 1), (11, .ireturn, 1), (12, (.aload_n 0), 1), (13, (.iload_n 1), 1), (14, (.putfield 86), 3), (17, (.iconst (0)), 1), (18, (.istore_n 2), 1), (19, (.iload_n 2), 1), (20, (.bipush (25)), 2), (22, (.if_icmp .ge (29)), 3), (25, (.aload_n 0), 1), (26, (.getfield 90), 3), (29, (.iload_n 2), 1), (30, (.iload_n 2), 1), (31, (.iconst (5)), 1), (32, .idiv, 1), (33, (.iload_n 2), 1), (34, (.iconst (5)), 1), (35, .irem, 1), (36, (.if_icmp .ne (7)), 3), (39, (.iconst (1)), 1), (40, (.goto (4)), 3), (43, (.iconst (0)), 1), (44, .bastore, 1), (45, (.iinc 2 (1)), 3), (48, (.goto (-29)), 3), (51, (.iconst (0)), 1), (52, (.istore_n 2), 1), (53, (.iload_n 2), 1), (54, (.iconst (4)), 1), (55, (.if_icmp .ge (23)), 3), (58, (.aload_n 0), 1), (59, (.getfield 94), 3), (62, (.iload_n 2), 1), (63, (.iconst (0)), 1), (64, .iastore, 1), (65, (.aload_n 0), 1), (66, (.getfield 97), 3), (69, (.iload_n 2), 1), (70, (.iconst (0)), 1), (71, .iastore, 1), (72, (.iinc 2 (1)), 3), (75, (.goto (-22)), 3), (78, (.iconst (1)), 1), (79, .ireturn, 1)]
theorem tb_b195_ok : ∀ e ∈ tb_b195, decode prog_12_method_54_code e.1 = .ok e.2 := dp_dec (by decide +kernel)
def tb_b196 : List (Nat × Instr × Nat) := [(0, (.aload_n 0), 1), (1, (.iload_n 1), 1), (2, (.invokevirtual 260), 3), (5, (.ifCond .eq (11)), 3), (8, (.aload_n 0), 1), (9, (.iload_n 2), 1), (10, (.invokevirtual 260), 3), (13, (.ifCond .ne (5)), 3), (16, (.iconst (0)), 1), (17, .ireturn, 1), (18, (.aload_n 0), 1), (19, (.getfield 90), 3), (22, (.iconst (5)), 1), (23, (.iload_n 1), 1), (24, .imul, 1), (25, (.iload_n 2), 1), (26, .iadd, 1), (27, (.iconst (1)), 1), (28, .bastore, 1), (29, (.iconst (0)), 1), (30, (.istore_n 3), 1), (31, (.iload_n 3), 1), (32, (.aload_n 0), 1), (33, (.getfield 86), 3), (36, (.if_icmp .ge (105)), 3), (39, (.iconst (0)), 1), (40, (.istore 4), 2), (42, (.iload 4), 2), (44, (.aload_n 0), 1), (45, (.getfield 86), 3), (48, (.if_icmp .ge (87)), 3), (51, (.iconst (0)), 1), (52, (.istore 5), 2), (54, (.iload 5), 2), (56, (.aload_n 0), 1), (57, (.getfield 86), 3), (60, (.if_icmp .ge (69)), 3), (63, (.aload_n 0), 1), (64, (.getfield 90), 3), (67, (.iconst (5)), 1), (68, (.iload 4), 2), (70, .imul, 1), (71, (.iload 5), 2), (73, .iadd, 1), (74, (.aload_n 0), 1), (75, (.getfield 90), 3), (78, (.iconst (5)), 1), (79, (.iload 4), 2), (81, .imul, 1), (82, (.iload 5), 2), (84, .iadd, 1), (85, .baload, 1), (86, (.ifCond .ne (31)), 3), (89, (.aload_n 0), 1), (90, (.getfield 90), 3), (93, (.iconst (5)), 1), (94, (.iload 4), 2), (96, .imul, 1), (97, (.iload_n 3), 1), (98, .iadd, 1), (99, .baload, 1), (100, (.ifCond .eq (21)), 3), (103, (.aload_n 0), 1), (104, (.getfield 90), 3), (107, (.iconst (5)), 1), (108, (.iload_n 3), 1), (109, .imul, 1), (110, (.iload 5), 2), (112, .iadd, 1), (113, .baload, 1), (114, (.ifCond .eq (7)), 3), (117, (.iconst (1)), 1), (118, (.goto (4)), 3), (121, (.iconst (0)), 1), (122, .bastore, 1), (123, (.iinc 5 (1)), 3), (126, (.goto (-72)), 3), (129, (.iinc 4 (1)), 3), (132, (.goto (-90)), 3), (135, (.iinc 3 (1)), 3), (138, (.goto (-107)), 3), (141, (.iconst (1)), 1), (142, .ireturn, 1)]
theorem tb_b196_ok : ∀ e ∈ tb_b196, decode prog_12_method_56_code e.1 = .ok e.2 := dp_dec (by decide +kernel)
def tb_b197 : List (Nat × Instr × Nat) := [(0, (.iload_n 1), 1), (1, (.ifCond .lt (15)), 3), (4, (.iload_n 1), 1), (5, (.aload_n 0), 1), (6, (.getfield 86), 3), (9, (.if_icmp .ge (7)), 3), (12, (.iconst (1)), 1), (13, (.goto (4)), 3), (16, (.iconst (0)), 1), (17, .ireturn, 1)]
theorem tb_b197_ok : ∀ e ∈ tb_b197, decode prog_12_method_55_code e.1 = .ok e.2 := dp_dec (by decide +kernel)
def tb_b198 : List (Nat × Instr × Nat) := [(0, (.iload_n 2), 1), (1, (.invokestatic 107), 3), (4, (.ifCond .eq (11)), 3), (7, (.aload_n 0), 1), (8, (.iload_n 3), 1), (9, (.invokevirtual 260), 3), (12, (.ifCond .ne (5)), 3), (15, (.iconst (0)), 1), (16, .ireturn, 1), (17, (.iload_n 1), 1), (18, (.ifCond .eq (13)), 3), (21, (.aload_n 0), 1), (22, (.getfield 97), 3), (25, (.iload_n 2), 1), (26, (.iload_n 3), 1), (27, .iastore, 1), (28, (.goto (10)), 3), (31, (.aload_n 0), 1), (32, (.getfield 94), 3), (35, (.iload_n 2), 1), (36, (.iload_n 3), 1), (37, .iastore, 1), (38, (.iconst (1)), 1), (39, .ireturn, 1)]
theorem tb_b198_ok : ∀ e ∈ tb_b198, decode prog_12_method_57_code e.1 = .ok e.2 := dp_dec (by decide +kernel)
def tb_b199 : List (Nat × Instr × Nat) := [(0, (.iconst (1)), 1), (1, (.istore_n 1), 1), (2, (.iconst (0)), 1), (3, (.istore_n 2), 1), (4, (.iload_n 2), 1), (5, (.aload_n 0), 1), (6, (.getfield 86), 3), (9, (.if_icmp .ge (109)), 3), (12, (.iconst (0)), 1), (13, (.istore_n 3), 1), (14, (.iload_n 3), 1), (15, (.aload_n 0), 1), (16, (.getfield 86), 3), (19, (.if_icmp .ge (93)), 3), (22, (.iload_n 2), 1), (23, (.iload_n 3), 1), (24, (.if_icmp .eq (23)), 3), (27, (.aload_n 0), 1), (28, (.iload_n 2), 1), (29, (.iload_n 3), 1), (30, (.invokevirtual 263), 3), (33, (.ifCond .eq (14)), 3), (36, (.aload_n 0), 1), (37, (.iload_n 3), 1), (38, (.iload_n 2), 1), (39, (.invokevirtual 263), 3), (42, (.ifCond .eq (5)), 3), (45, (.iconst (1)), 1), (46, .ireturn, 1), (47, (.iconst (0)), 1), (48, (.istore 4), 2), (50, (.iconst (0)), 1), (51, (.istore 5), 2), (53, (.iload 5), 2), (55, (.aload_n 0), 1), (56, (.getfield 86), 3), (59, (.if_icmp .ge (32)), 3), (62, (.iload 4), 2), (64, (.ifCond .ne (14)), 3), (67, (.aload_n 0), 1), (68, (.iload_n 2), 1), (69, (.iload_n 3), 1), (70, (.iload 5), 2), (72, (.invokevirtual 266), 3), (75, (.ifCond .eq (7)), 3), (78, (.iconst (1)), 1), (79, (.goto (4)), 3), (82, (.iconst (0)), 1), (83, (.istore 4), 2), (85, (.iinc 5 (1)), 3), (88, (.goto (-35)), 3), (91, (.iload_n 1), 1), (92, (.ifCond .eq (12)), 3), (95, (.iload 4), 2), (97, (.ifCond .eq (7)), 3), (100, (.iconst (1)), 1), (101, (.goto (4)), 3), (104, (.iconst (0)), 1), (105, (.istore_n 1), 1), (106, (.iinc 3 (1)), 3), (109, (.goto (-95)), 3), (112, (.iinc 2 (1)), 3), (115, (.goto (-111)), 3), (118, (.iload_n 1), 1), (119, (.ifCond .ne (7)), 3), (122, (.iconst (2)), 1), (123, (.goto (15)), 3), (126, (.aload_n 0), 1), (127, (.invokevirtual 269), 3), (130, (.ifCond .ge (7)), 3), (133, (.iconst (3)), 1), (134, (.goto (4)), 3), (137, (.iconst (0)), 1), (138, .ireturn, 1)]
theorem tb_b199_ok : ∀ e ∈ tb_b199, decode prog_12_method_61_code e.1 = .ok e.2 := dp_dec (by decide +kernel)
def tb_b200 : List (Nat × Instr × Nat) := [(0, (.aload_n 0), 1), (1, (.getfield 90), 3), (4, (.iconst (5)), 1), (5, (.iload_n 1), 1), (6, .imul, 1), (7, (.iload_n 2), 1), (8, .iadd, 1), (9, .baload, 1), (10, .ireturn, 1)]
theorem tb_b200_ok : ∀ e ∈ tb_b200, decode prog_12_method_58_code e.1 = .ok e.2 := dp_dec (by decide +kernel)
def tb_b201 : List (Nat × Instr × Nat) := [(0, (.aload_n 0), 1), (1, (.iload_n 1), 1), (2, (.iload_n 3), 1), (3, (.invokevirtual 263), 3), (6, (.ifCond .eq (16)), 3), (9, (.aload_n 0), 1), (10, (.iload_n 2), 1), (11, (.iload_n 3), 1), (12, (.invokevirtual 263), 3), (15, (.ifCond .eq (7)), 3), (18, (.iconst (1)), 1), (19, (.goto (4)), 3), (22, (.iconst (0)), 1), (23, (.istore 4), 2), (25, (.iconst (0)), 1), (26, (.istore 5), 2), (28, (.iload 5), 2), (30, (.aload_n 0), 1), (31, (.getfield 86), 3), (34, (.if_icmp .ge (51)), 3), (37, (.iload 4), 2), (39, (.ifCond .eq (37)), 3), (42, (.aload_n 0), 1), (43, (.iload_n 1), 1), (44, (.iload 5), 2), (46, (.invokevirtual 263), 3), (49, (.ifCond .eq (23)), 3), (52, (.aload_n 0), 1), (53, (.iload_n 2), 1), (54, (.iload 5), 2), (56, (.invokevirtual 263), 3), (59, (.ifCond .eq (13)), 3), (62, (.aload_n 0), 1), (63, (.iload_n 3), 1), (64, (.iload 5), 2), (66, (.invokevirtual 263), 3), (69, (.ifCond .eq (7)), 3), (72, (.iconst (1)), 1), (73, (.goto (4)), 3), (76, (.iconst (0)), 1), (77, (.istore 4), 2), (79, (.iinc 5 (1)), 3), (82, (.goto (-54)), 3), (85, (.iload 4), 2), (87, .ireturn, 1)]
theorem tb_b201_ok : ∀ e ∈ tb_b201, decode prog_12_method_59_code e.1 = .ok e.2 := dp_dec (by decide +kernel)
def tb_b202 : List (Nat × Instr × Nat) := [(0, (.iconst (0)), 1), (1, (.istore_n 1), 1), (2, (.iload_n 1), 1), (3, (.aload_n 0), 1), (4, (.getfield 86), 3), (7, (.if_icmp .ge (52)), 3), (10, (.iconst (1)), 1), (11, (.istore_n 2), 1), (12, (.iconst (0)), 1), (13, (.istore_n 3), 1), (14, (.iload_n 3), 1), (15, (.aload_n 0), 1), (16, (.getfield 86), 3), (19, (.if_icmp .ge (28)), 3), (22, (.iload_n 2), 1), (23, (.ifCond .eq (16)), 3), (26, (.aload_n 0), 1), (27, (.iload_n 1), 1), (28, (.iload_n 3), 1), (29, (.invokevirtual 263), 3), (32, (.ifCond .eq (7)), 3), (35, (.iconst (1)), 1), (36, (.goto (4)), 3), (39, (.iconst (0)), 1), (40, (.istore_n 2), 1), (41, (.iinc 3 (1)), 3), (44, (.goto (-30)), 3), (47, (.iload_n 2), 1), (48, (.ifCond .eq (5)), 3), (51, (.iload_n 1), 1), (52, .ireturn, 1), (53, (.iinc 1 (1)), 3), (56, (.goto (-54)), 3), (59, (.iconst (-1)), 1), (60, .ireturn, 1)]
theorem tb_b202_ok : ∀ e ∈ tb_b202, decode prog_12_method_60_code e.1 = .ok e.2 := dp_dec (by decide +kernel)
def tb_b203 : List (Nat × Instr × Nat) := [(0, (.aload_n 0), 1), (1, (.getfield 100), 3), (4, (.ifCond .eq (10)), 3), (7, (.aload_n 0), 1), (8, (.invokevirtual 272), 3), (11, (.ifCond .eq (7)), 3), (14, (.iconst (-1)), 1), (15, (.goto (10)), 3), (18, (.iconst (-1)), 1), (19, (.aload_n 0), 1), (20, (.iconst (-1)), 1), (21, (.invokevirtual 275), 3), (24, .isub, 1), (25, .ireturn, 1)]
theorem tb_b203_ok : ∀ e ∈ tb_b203, decode prog_12_method_63_code e.1 = .ok e.2 := dp_dec (by decide +kernel)
def tb_b204 : List (Nat × Instr × Nat) := [(0, (.iconst (0)), 1), (1, (.istore_n 2), 1), (2, (.iconst (0)), 1), (3, (.istore_n 3), 1), (4, (.iload_n 3), 1), (5, (.aload_n 0), 1), (6, (.getfield 104), 3), (9, (.if_icmp .ge (145)), 3), (12, (.aload_n 0), 1), (13, (.getfield 7), 3), (16, (.iload_n 3), 1), (17, .iaload, 1), (18, (.bipush (17)), 2), (20, (.if_icmp .eq (13)), 3), (23, (.aload_n 0), 1), (24, (.getfield 7), 3), (27, (.iload_n 3), 1), (28, .iaload, 1), (29, (.iconst (5)), 1), (30, (.if_icmp .ne (118)), 3), (33, (.aload_n 0), 1), (34, (.getfield 7), 3), (37, (.iload_n 3), 1), (38, .iaload, 1), (39, (.iconst (5)), 1), (40, (.if_icmp .ne (10)), 3), (43, (.aload_n 0), 1), (44, (.invokevirtual 269), 3), (47, (.goto (14)), 3), (50, (.aload_n 0), 1), (51, (.getfield 97), 3), (54, (.aload_n 0), 1), (55, (.getfield 13), 3), (58, (.iload_n 3), 1), (59, .iaload, 1), (60, .iaload, 1), (61, (.istore 4), 2), (63, (.aload_n 0), 1), (64, (.iload_n 3), 1), (65, (.invokevirtual 214), 3), (68, (.iconst (0)), 1), (69, (.istore 5), 2), (71, (.iload 5), 2), (73, (.aload_n 0), 1), (74, (.getfield 104), 3), (77, (.if_icmp .ge (71)), 3), (80, (.aload_n 0), 1), (81, (.getfield 7), 3), (84, (.iload 5), 2), (86, .iaload, 1), (87, (.bipush (6)), 2), (89, (.if_icmp .ne (53)), 3), (92, (.aload_n 0), 1), (93, (.getfield 59), 3), (96, (.iconst (0)), 1), (97, (.iload 5), 2), (99, (.invokestatic 206), 3), (102, (.ifCond .eq (40)), 3), (105, (.aload_n 0), 1), (106, (.aload_n 0), 1), (107, (.getfield 94), 3), (110, (.aload_n 0), 1), (111, (.getfield 16), 3), (114, (.iload 5), 2), (116, .iaload, 1), (117, .iaload, 1), (118, (.iload 4), 2), (120, (.invokevirtual 263), 3), (123, (.ifCond .ne (19)), 3), (126, (.iload_n 2), 1), (127, (.iload_n 1), 1), (128, (.if_icmp .ne (11)), 3), (131, (.bipush (32)), 2), (133, (.iload 5), 2), (135, .imul, 1), (136, (.iload_n 3), 1), (137, .iadd, 1), (138, .ireturn, 1), (139, (.iinc 2 (1)), 3), (142, (.iinc 5 (1)), 3), (145, (.goto (-74)), 3), (148, (.iinc 3 (1)), 3), (151, (.goto (-147)), 3), (154, (.iconst (-1)), 1), (155, (.iload_n 2), 1), (156, .isub, 1), (157, .ireturn, 1)]
theorem tb_b204_ok : ∀ e ∈ tb_b204, decode prog_12_method_62_code e.1 = .ok e.2 := dp_dec (by decide +kernel)
def tb_b205 : List (Nat × Instr × Nat) := [(0, (.aload_n 0), 1), (1, (.getfield 100), 3), (4, (.ifCond .eq (14)), 3), (7, (.aload_n 0), 1), (8, (.invokevirtual 272), 3), (11, (.ifCond .ne (7)), 3), (14, (.iload_n 1), 1), (15, (.ifCond .ge (5)), 3), (18, (.iconst (-1)), 1), (19, .ireturn, 1), (20, (.aload_n 0), 1), (21, (.iload_n 1), 1), (22, (.invokevirtual 275), 3), (25, (.istore_n 2), 1), (26, (.iload_n 2), 1), (27, (.ifCond .ge (7)), 3), (30, (.iconst (-1)), 1), (31, (.goto (4)), 3), (34, (.iload_n 2), 1), (35, .ireturn, 1)]
theorem tb_b205_ok : ∀ e ∈ tb_b205, decode prog_12_method_64_code e.1 = .ok e.2 := dp_dec (by decide +kernel)
end
section
def tb_rec : List (Nat × dp_K × dp_M) := [(0, tb_K0, tb_b0, 1, none, true),
  (1, tb_K1, tb_b1, 1, none, true),
  (2, tb_K2, tb_b2, 2, none, true),
  (3, tb_K3, tb_b3, 2, none, true),
  (4, tb_K4, tb_b4, 3, none, true),
  (5, tb_K5, tb_b5, 2, none, true),
  (6, tb_K6, tb_b6, 1, none, true),
  (7, tb_K7, tb_b7, 1, none, true),
  (8, tb_K8, tb_b8, 3, none, true),
  (9, tb_K9, tb_b9, 1, none, true),
  (10, tb_K0, tb_b10, 5, some .int, false),
  (11, tb_K1, tb_b11, 1, some .boolean, false),
  (12, tb_K1, tb_b12, 5, some .boolean, false),
  (13, tb_K1, tb_b13, 1, some .boolean, false),
  (14, tb_K1, tb_b14, 1, some .boolean, false),
  (15, tb_K0, tb_b15, 1, some .boolean, false),
  (16, tb_K1, tb_b16, 1, some .boolean, false),
  (17, tb_K1, tb_b17, 1, some .boolean, false),
  (18, tb_K1, tb_b18, 5, some .int, false),
  (19, tb_K0, tb_b19, 1, none, false),
  (20, tb_K1, tb_b20, 1, none, false),
  (21, tb_K9, tb_b21, 1, none, false),
  (22, tb_K5, tb_b22, 1, none, false),
  (23, tb_K6, tb_b23, 1, none, false),
  (25, tb_K0, tb_b25, 2, some .int, false),
  (26, tb_K1, tb_b26, 2, some .int, false),
  (27, tb_K1, tb_b27, 2, some .boolean, false),
  (28, tb_K1, tb_b28, 2, some .boolean, false),
  (29, tb_K1, tb_b29, 3, some .boolean, false),
  (30, tb_K1, tb_b30, 3, some .boolean, false),
  (31, tb_K1, tb_b31, 2, some .boolean, false),
  (32, tb_K1, tb_b32, 2, some .int, false),
  (33, tb_K1, tb_b33, 2, some .boolean, false),
  (34, tb_K1, tb_b34, 2, some .int, false),
  (35, tb_K2, tb_b35, 2, none, false),
  (36, tb_K3, tb_b36, 2, none, false),
  (38, tb_K3, tb_b38, 4, some .long, false),
  (39, tb_K1, tb_b39, 2, some .int, false),
  (40, tb_K1, tb_b40, 3, some .int, false),
  (41, tb_K1, tb_b41, 2, some .boolean, false),
  (42, tb_K3, tb_b42, 12, some .long, false),
  (43, tb_K0, tb_b43, 3, some .boolean, false),
  (44, tb_K1, tb_b44, 2, some .boolean, false),
  (45, tb_K1, tb_b45, 2, some .boolean, false),
  (46, tb_K2, tb_b46, 4, none, false),
  (47, tb_K0, tb_b47, 2, some .int, false),
  (48, tb_K2, tb_b48, 5, none, false),
  (49, tb_K2, tb_b49, 3, none, false),
  (50, tb_K0, tb_b50, 2, some .int, false),
  (51, tb_K2, tb_b51, 3, none, false),
  (52, tb_K2, tb_b52, 6, none, false),
  (53, tb_K3, tb_b53, 3, some .boolean, false),
  (54, tb_K3, tb_b54, 4, some .boolean, false),
  (55, tb_K2, tb_b55, 5, none, false),
  (56, tb_K3, tb_b56, 3, some .boolean, false),
  (57, tb_K2, tb_b57, 6, none, false),
  (58, tb_K2, tb_b58, 4, none, false),
  (59, tb_K2, tb_b59, 3, none, false),
  (60, tb_K4, tb_b60, 5, none, false),
  (61, tb_K4, tb_b61, 6, some .boolean, false),
  (62, tb_K4, tb_b62, 2, none, false),
  (63, tb_K4, tb_b63, 3, none, false),
  (64, tb_K4, tb_b64, 6, none, false),
  (65, tb_K2, tb_b65, 4, some .int, false),
  (66, tb_K4, tb_b66, 5, none, false),
  (67, tb_K0, tb_b67, 2, some .boolean, false),
  (68, tb_K4, tb_b68, 1, some .int, false),
  (69, tb_K4, tb_b69, 3, some .int, false),
  (70, tb_K4, tb_b70, 1, some .boolean, false),
  (71, tb_K2, tb_b71, 2, some .int, false),
  (72, tb_K4, tb_b72, 4, some .int, false),
  (73, tb_K2, tb_b73, 4, some .boolean, false),
  (74, tb_K2, tb_b74, 2, some .int, false),
  (75, tb_K2, tb_b75, 5, none, false),
  (76, tb_K8, tb_b76, 3, none, false),
  (77, tb_K8, tb_b77, 2, some .boolean, false),
  (78, tb_K4, tb_b78, 3, none, false),
  (79, tb_K4, tb_b79, 2, some .int, false),
  (80, tb_K0, tb_b80, 2, some .boolean, false),
  (81, tb_K7, tb_b81, 3, none, false),
  (82, tb_K0, tb_b82, 3, some .boolean, false),
  (83, tb_K7, tb_b83, 2, some .boolean, false),
  (84, tb_K7, tb_b84, 4, none, false),
  (85, tb_K7, tb_b85, 3, some .boolean, false),
  (86, tb_K0, tb_b86, 4, some .boolean, false),
  (87, tb_K7, tb_b87, 4, none, false),
  (88, tb_K0, tb_b88, 1, some .int, false),
  (89, tb_K7, tb_b89, 1, some .int, false),
  (90, tb_K7, tb_b90, 3, some .boolean, false),
  (91, tb_K7, tb_b91, 3, some .boolean, false),
  (92, tb_K7, tb_b92, 3, some .boolean, false),
  (93, tb_K7, tb_b93, 3, some .int, false),
  (94, tb_K0, tb_b94, 3, some .int, false),
  (95, tb_K2, tb_b95, 5, some .int, false),
  (96, tb_K0, tb_b96, 4, some .boolean, false),
  (97, tb_K0, tb_b97, 3, some .int, false),
  (98, tb_K9, tb_b98, 4, none, false),
  (99, tb_K9, tb_b99, 3, none, false),
  (100, tb_K9, tb_b100, 1, some .int, false),
  (101, tb_K0, tb_b101, 1, some .int, false),
  (102, tb_K9, tb_b102, 1, some .boolean, false),
  (103, tb_K9, tb_b103, 6, none, false),
  (104, tb_K9, tb_b104, 6, some .boolean, false),
  (105, tb_K9, tb_b105, 4, some .boolean, false),
  (106, tb_K0, tb_b106, 2, some .boolean, false),
  (107, tb_K9, tb_b107, 1, some .boolean, false),
  (108, tb_K9, tb_b108, 1, some .int, false),
  (109, tb_K0, tb_b109, 3, some .boolean, false),
  (110, tb_K5, tb_b110, 3, none, false),
  (111, tb_K0, tb_b111, 4, some .int, false),
  (112, tb_K9, tb_b112, 1, some .int, false),
  (113, tb_K5, tb_b113, 5, some .int, false),
  (114, tb_K5, tb_b114, 5, none, false),
  (115, tb_K5, tb_b115, 3, none, false),
  (116, tb_K5, tb_b116, 1, none, false),
  (117, tb_K5, tb_b117, 3, none, false),
  (118, tb_K5, tb_b118, 2, some .int, false),
  (119, tb_K5, tb_b119, 2, some .boolean, false),
  (120, tb_K5, tb_b120, 3, none, false),
  (121, tb_K5, tb_b121, 2, none, false),
  (122, tb_K5, tb_b122, 3, none, false),
  (123, tb_K5, tb_b123, 3, none, false),
  (124, tb_K6, tb_b124, 2, none, false),
  (125, tb_K6, tb_b125, 3, none, false),
  (126, tb_K5, tb_b126, 2, some .int, false),
  (127, tb_K5, tb_b127, 2, some .int, false),
  (128, tb_K0, tb_b128, 1, some .int, false),
  (129, tb_K5, tb_b129, 1, some .int, false),
  (130, tb_K0, tb_b130, 2, some .int, false),
  (131, tb_K6, tb_b131, 2, some .int, false),
  (132, tb_K0, tb_b132, 3, some .int, false),
  (133, tb_K6, tb_b133, 4, some .int, false),
  (134, tb_K0, tb_b134, 1, some .int, false),
  (135, tb_K0, tb_b135, 1, some .boolean, false),
  (136, tb_K8, tb_b136, 3, some .int, false),
  (137, tb_K8, tb_b137, 5, some .int, false),
  (138, tb_K7, tb_b138, 2, some .int, false),
  (139, tb_K7, tb_b139, 2, some .int, false),
  (140, tb_K0, tb_b140, 2, some .int, false),
  (141, tb_K8, tb_b141, 6, some .int, false),
  (142, tb_K11, tb_b142, 1, none, true),
  (143, tb_K11, tb_b143, 9, some .int, false),
  (144, tb_K11, tb_b144, 1, some .boolean, false),
  (145, tb_K11, tb_b145, 1, none, false),
  (146, tb_K11, tb_b146, 3, some .int, false),
  (147, tb_K11, tb_b147, 4, some .int, false),
  (148, tb_K11, tb_b148, 2, some .boolean, false),
  (149, tb_K11, tb_b149, 4, none, false),
  (150, tb_K11, tb_b150, 4, some .int, false),
  (151, tb_K11, tb_b151, 3, some .int, false),
  (152, tb_K11, tb_b152, 4, none, false),
  (153, tb_K11, tb_b153, 3, some .int, false),
  (154, tb_K11, tb_b154, 3, some .boolean, false),
  (155, tb_K11, tb_b155, 2, some .int, false),
  (156, tb_K11, tb_b156, 1, some .int, false),
  (157, tb_K11, tb_b157, 4, some .boolean, false),
  (158, tb_K11, tb_b158, 6, some .boolean, false),
  (159, tb_K11, tb_b159, 1, some .int, false),
  (160, tb_K11, tb_b160, 1, some .int, false),
  (161, tb_K11, tb_b161, 7, some .boolean, false),
  (162, tb_K11, tb_b162, 5, some .boolean, false),
  (163, tb_K11, tb_b163, 10, some .long, false),
  (164, tb_K11, tb_b164, 3, some .boolean, false),
  (165, tb_K11, tb_b165, 5, some .boolean, false),
  (166, tb_K11, tb_b166, 5, some .boolean, false),
  (167, tb_K11, tb_b167, 3, some .boolean, false),
  (168, tb_K11, tb_b168, 4, some .boolean, false),
  (169, tb_K11, tb_b169, 3, none, false),
  (170, tb_K11, tb_b170, 8, some .boolean, false),
  (171, tb_K11, tb_b171, 3, none, false),
  (172, tb_K11, tb_b172, 10, none, false),
  (173, tb_K11, tb_b173, 3, some .boolean, false),
  (174, tb_K11, tb_b174, 7, some .boolean, false),
  (175, tb_K11, tb_b175, 9, some .int, false),
  (176, tb_K11, tb_b176, 4, some .boolean, false),
  (177, tb_K11, tb_b177, 4, some .int, false),
  (178, tb_K11, tb_b178, 2, none, false),
  (179, tb_K11, tb_b179, 4, some .int, false),
  (180, tb_K11, tb_b180, 4, some .int, false),
  (181, tb_K11, tb_b181, 4, some .int, false),
  (182, tb_K11, tb_b182, 2, some .boolean, false),
  (183, tb_K11, tb_b183, 3, some .boolean, false),
  (184, tb_K11, tb_b184, 6, some .int, false),
  (185, tb_K11, tb_b185, 3, some .int, false),
  (186, tb_K11, tb_b186, 2, some .int, false),
  (187, tb_K11, tb_b187, 3, none, false),
  (188, tb_K11, tb_b188, 4, none, false),
  (189, tb_K11, tb_b189, 5, some .int, false),
  (190, tb_K11, tb_b190, 4, some .int, false),
  (191, tb_K11, tb_b191, 3, none, false),
  (192, tb_K11, tb_b192, 1, some .int, false),
  (193, tb_K11, tb_b193, 2, some .int, false),
  (194, tb_K11, tb_b194, 3, some .int, false),
  (195, tb_K11, tb_b195, 3, some .boolean, false),
  (196, tb_K11, tb_b196, 6, some .boolean, false),
  (197, tb_K11, tb_b197, 2, some .boolean, false),
  (198, tb_K11, tb_b198, 4, some .boolean, false),
  (199, tb_K11, tb_b199, 6, some .int, false),
  (200, tb_K11, tb_b200, 3, some .boolean, false),
  (201, tb_K11, tb_b201, 6, some .boolean, false),
  (202, tb_K11, tb_b202, 4, some .int, false),
  (203, tb_K11, tb_b203, 1, some .int, false),
  (204, tb_K11, tb_b204, 6, some .int, false),
  (205, tb_K11, tb_b205, 3, some .int, false)]
def tb_rok (e : Nat × dp_K × dp_M) : Prop := dp_Kok tb_cl tb_N (tb_ys e.1).cls tb_W tb_ys tb_ws e.2.1 ∧ (∀ x ∈ e.2.2.1, decode (tb_m e.1).2.1 x.1 = .ok x.2) ∧ tb_ws e.1 = Cond.code (tb_ys e.1) (tb_m e.1).2.1 e.2.2.2.1 e.2.2.2.2.1 :: tb_W ∧ plainName (tb_ys e.1).cls = true ∧ ((tb_ys e.1).name == "<init>") = e.2.2.2.2.2
theorem tb_r0 : tb_rok (0, tb_K0, tb_b0, 1, none, true) := ⟨tb_K0_ok, tb_b0_ok, rfl, by decide +kernel, by decide +kernel⟩
theorem tb_r1 : tb_rok (1, tb_K1, tb_b1, 1, none, true) := ⟨tb_K1_ok, tb_b1_ok, rfl, by decide +kernel, by decide +kernel⟩
theorem tb_r2 : tb_rok (2, tb_K2, tb_b2, 2, none, true) := ⟨tb_K2_ok, tb_b2_ok, rfl, by decide +kernel, by decide +kernel⟩
theorem tb_r3 : tb_rok (3, tb_K3, tb_b3, 2, none, true) := ⟨tb_K3_ok, tb_b3_ok, rfl, by decide +kernel, by decide +kernel⟩
theorem tb_r4 : tb_rok (4, tb_K4, tb_b4, 3, none, true) := ⟨tb_K4_ok, tb_b4_ok, rfl, by decide +kernel, by decide +kernel⟩
theorem tb_r5 : tb_rok (5, tb_K5, tb_b5, 2, none, true) := ⟨tb_K5_ok, tb_b5_ok, rfl, by decide +kernel, by decide +kernel⟩
theorem tb_r6 : tb_rok (6, tb_K6, tb_b6, 1, none, true) := ⟨tb_K6_ok, tb_b6_ok, rfl, by decide +kernel, by decide +kernel⟩
theorem tb_r7 : tb_rok (7, tb_K7, tb_b7, 1, none, true) := ⟨tb_K7_ok, tb_b7_ok, rfl, by decide +kernel, by decide +kernel⟩
theorem tb_r8 : tb_rok (8, tb_K8, tb_b8, 3, none, true) := ⟨tb_K8_ok, tb_b8_ok, rfl, by decide +kernel, by decide +kernel⟩
theorem tb_r9 : tb_rok (9, tb_K9, tb_b9, 1, none, true) := ⟨tb_K9_ok, tb_b9_ok, rfl, by decide +kernel, by decide +kernel⟩
theorem tb_r10 : tb_rok (10, tb_K0, tb_b10, 5, some .int, false) := ⟨tb_K0_ok, tb_b10_ok, rfl, by decide +kernel, by decide +kernel⟩
theorem tb_r11 : tb_rok (11, tb_K1, tb_b11, 1, some .boolean, false) := ⟨tb_K1_ok, tb_b11_ok, rfl, by decide +kernel, by decide +kernel⟩
theorem tb_r12 : tb_rok (12, tb_K1, tb_b12, 5, some .boolean, false) := ⟨tb_K1_ok, tb_b12_ok, rfl, by decide +kernel, by decide +kernel⟩
theorem tb_r13 : tb_rok (13, tb_K1, tb_b13, 1, some .boolean, false) := ⟨tb_K1_ok, tb_b13_ok, rfl, by decide +kernel, by decide +kernel⟩
theorem tb_r14 : tb_rok (14, tb_K1, tb_b14, 1, some .boolean, false) := ⟨tb_K1_ok, tb_b14_ok, rfl, by decide +kernel, by decide +kernel⟩
theorem tb_r15 : tb_rok (15, tb_K0, tb_b15, 1, some .boolean, false) := ⟨tb_K0_ok, tb_b15_ok, rfl, by decide +kernel, by decide +kernel⟩
theorem tb_r16 : tb_rok (16, tb_K1, tb_b16, 1, some .boolean, false) := ⟨tb_K1_ok, tb_b16_ok, rfl, by decide +kernel, by decide +kernel⟩
theorem tb_r17 : tb_rok (17, tb_K1, tb_b17, 1, some .boolean, false) := ⟨tb_K1_ok, tb_b17_ok, rfl, by decide +kernel, by decide +kernel⟩
theorem tb_r18 : tb_rok (18, tb_K1, tb_b18, 5, some .int, false) := ⟨tb_K1_ok, tb_b18_ok, rfl, by decide +kernel, by decide +kernel⟩
theorem tb_r19 : tb_rok (19, tb_K0, tb_b19, 1, none, false) := ⟨tb_K0_ok, tb_b19_ok, rfl, by decide +kernel, by decide +kernel⟩
theorem tb_r20 : tb_rok (20, tb_K1, tb_b20, 1, none, false) := ⟨tb_K1_ok, tb_b20_ok, rfl, by decide +kernel, by decide +kernel⟩
theorem tb_r21 : tb_rok (21, tb_K9, tb_b21, 1, none, false) := ⟨tb_K9_ok, tb_b21_ok, rfl, by decide +kernel, by decide +kernel⟩
theorem tb_r22 : tb_rok (22, tb_K5, tb_b22, 1, none, false) := ⟨tb_K5_ok, tb_b22_ok, rfl, by decide +kernel, by decide +kernel⟩
theorem tb_r23 : tb_rok (23, tb_K6, tb_b23, 1, none, false) := ⟨tb_K6_ok, tb_b23_ok, rfl, by decide +kernel, by decide +kernel⟩
theorem tb_r25 : tb_rok (25, tb_K0, tb_b25, 2, some .int, false) := ⟨tb_K0_ok, tb_b25_ok, rfl, by decide +kernel, by decide +kernel⟩
theorem tb_r26 : tb_rok (26, tb_K1, tb_b26, 2, some .int, false) := ⟨tb_K1_ok, tb_b26_ok, rfl, by decide +kernel, by decide +kernel⟩
theorem tb_r27 : tb_rok (27, tb_K1, tb_b27, 2, some .boolean, false) := ⟨tb_K1_ok, tb_b27_ok, rfl, by decide +kernel, by decide +kernel⟩
theorem tb_r28 : tb_rok (28, tb_K1, tb_b28, 2, some .boolean, false) := ⟨tb_K1_ok, tb_b28_ok, rfl, by decide +kernel, by decide +kernel⟩
theorem tb_r29 : tb_rok (29, tb_K1, tb_b29, 3, some .boolean, false) := ⟨tb_K1_ok, tb_b29_ok, rfl, by decide +kernel, by decide +kernel⟩
theorem tb_r30 : tb_rok (30, tb_K1, tb_b30, 3, some .boolean, false) := ⟨tb_K1_ok, tb_b30_ok, rfl, by decide +kernel, by decide +kernel⟩
theorem tb_r31 : tb_rok (31, tb_K1, tb_b31, 2, some .boolean, false) := ⟨tb_K1_ok, tb_b31_ok, rfl, by decide +kernel, by decide +kernel⟩
theorem tb_r32 : tb_rok (32, tb_K1, tb_b32, 2, some .int, false) := ⟨tb_K1_ok, tb_b32_ok, rfl, by decide +kernel, by decide +kernel⟩
theorem tb_r33 : tb_rok (33, tb_K1, tb_b33, 2, some .boolean, false) := ⟨tb_K1_ok, tb_b33_ok, rfl, by decide +kernel, by decide +kernel⟩
theorem tb_r34 : tb_rok (34, tb_K1, tb_b34, 2, some .int, false) := ⟨tb_K1_ok, tb_b34_ok, rfl, by decide +kernel, by decide +kernel⟩
theorem tb_r35 : tb_rok (35, tb_K2, tb_b35, 2, none, false) := ⟨tb_K2_ok, tb_b35_ok, rfl, by decide +kernel, by decide +kernel⟩
theorem tb_r36 : tb_rok (36, tb_K3, tb_b36, 2, none, false) := ⟨tb_K3_ok, tb_b36_ok, rfl, by decide +kernel, by decide +kernel⟩
theorem tb_r38 : tb_rok (38, tb_K3, tb_b38, 4, some .long, false) := ⟨tb_K3_ok, tb_b38_ok, rfl, by decide +kernel, by decide +kernel⟩
theorem tb_r39 : tb_rok (39, tb_K1, tb_b39, 2, some .int, false) := ⟨tb_K1_ok, tb_b39_ok, rfl, by decide +kernel, by decide +kernel⟩
theorem tb_r40 : tb_rok (40, tb_K1, tb_b40, 3, some .int, false) := ⟨tb_K1_ok, tb_b40_ok, rfl, by decide +kernel, by decide +kernel⟩
theorem tb_r41 : tb_rok (41, tb_K1, tb_b41, 2, some .boolean, false) := ⟨tb_K1_ok, tb_b41_ok, rfl, by decide +kernel, by decide +kernel⟩
theorem tb_r42 : tb_rok (42, tb_K3, tb_b42, 12, some .long, false) := ⟨tb_K3_ok, tb_b42_ok, rfl, by decide +kernel, by decide +kernel⟩
theorem tb_r43 : tb_rok (43, tb_K0, tb_b43, 3, some .boolean, false) := ⟨tb_K0_ok, tb_b43_ok, rfl, by decide +kernel, by decide +kernel⟩
theorem tb_r44 : tb_rok (44, tb_K1, tb_b44, 2, some .boolean, false) := ⟨tb_K1_ok, tb_b44_ok, rfl, by decide +kernel, by decide +kernel⟩
theorem tb_r45 : tb_rok (45, tb_K1, tb_b45, 2, some .boolean, false) := ⟨tb_K1_ok, tb_b45_ok, rfl, by decide +kernel, by decide +kernel⟩
theorem tb_r46 : tb_rok (46, tb_K2, tb_b46, 4, none, false) := ⟨tb_K2_ok, tb_b46_ok, rfl, by decide +kernel, by decide +kernel⟩
theorem tb_r47 : tb_rok (47, tb_K0, tb_b47, 2, some .int, false) := ⟨tb_K0_ok, tb_b47_ok, rfl, by decide +kernel, by decide +kernel⟩
theorem tb_r48 : tb_rok (48, tb_K2, tb_b48, 5, none, false) := ⟨tb_K2_ok, tb_b48_ok, rfl, by decide +kernel, by decide +kernel⟩
theorem tb_r49 : tb_rok (49, tb_K2, tb_b49, 3, none, false) := ⟨tb_K2_ok, tb_b49_ok, rfl, by decide +kernel, by decide +kernel⟩
theorem tb_r50 : tb_rok (50, tb_K0, tb_b50, 2, some .int, false) := ⟨tb_K0_ok, tb_b50_ok, rfl, by decide +kernel, by decide +kernel⟩
theorem tb_r51 : tb_rok (51, tb_K2, tb_b51, 3, none, false) := ⟨tb_K2_ok, tb_b51_ok, rfl, by decide +kernel, by decide +kernel⟩
theorem tb_r52 : tb_rok (52, tb_K2, tb_b52, 6, none, false) := ⟨tb_K2_ok, tb_b52_ok, rfl, by decide +kernel, by decide +kernel⟩
theorem tb_r53 : tb_rok (53, tb_K3, tb_b53, 3, some .boolean, false) := ⟨tb_K3_ok, tb_b53_ok, rfl, by decide +kernel, by decide +kernel⟩
theorem tb_r54 : tb_rok (54, tb_K3, tb_b54, 4, some .boolean, false) := ⟨tb_K3_ok, tb_b54_ok, rfl, by decide +kernel, by decide +kernel⟩
theorem tb_r55 : tb_rok (55, tb_K2, tb_b55, 5, none, false) := ⟨tb_K2_ok, tb_b55_ok, rfl, by decide +kernel, by decide +kernel⟩
theorem tb_r56 : tb_rok (56, tb_K3, tb_b56, 3, some .boolean, false) := ⟨tb_K3_ok, tb_b56_ok, rfl, by decide +kernel, by decide +kernel⟩
theorem tb_r57 : tb_rok (57, tb_K2, tb_b57, 6, none, false) := ⟨tb_K2_ok, tb_b57_ok, rfl, by decide +kernel, by decide +kernel⟩
theorem tb_r58 : tb_rok (58, tb_K2, tb_b58, 4, none, false) := ⟨tb_K2_ok, tb_b58_ok, rfl, by decide +kernel, by decide +kernel⟩
theorem tb_r59 : tb_rok (59, tb_K2, tb_b59, 3, none, false) := ⟨tb_K2_ok, tb_b59_ok, rfl, by decide +kernel, by decide +kernel⟩
theorem tb_r60 : tb_rok (60, tb_K4, tb_b60, 5, none, false) := ⟨tb_K4_ok, tb_b60_ok, rfl, by decide +kernel, by decide +kernel⟩
theorem tb_r61 : tb_rok (61, tb_K4, tb_b61, 6, some .boolean, false) := ⟨tb_K4_ok, tb_b61_ok, rfl, by decide +kernel, by decide +kernel⟩
theorem tb_r62 : tb_rok (62, tb_K4, tb_b62, 2, none, false) := ⟨tb_K4_ok, tb_b62_ok, rfl, by decide +kernel, by decide +kernel⟩
theorem tb_r63 : tb_rok (63, tb_K4, tb_b63, 3, none, false) := ⟨tb_K4_ok, tb_b63_ok, rfl, by decide +kernel, by decide +kernel⟩
theorem tb_r64 : tb_rok (64, tb_K4, tb_b64, 6, none, false) := ⟨tb_K4_ok, tb_b64_ok, rfl, by decide +kernel, by decide +kernel⟩
theorem tb_r65 : tb_rok (65, tb_K2, tb_b65, 4, some .int, false) := ⟨tb_K2_ok, tb_b65_ok, rfl, by decide +kernel, by decide +kernel⟩
theorem tb_r66 : tb_rok (66, tb_K4, tb_b66, 5, none, false) := ⟨tb_K4_ok, tb_b66_ok, rfl, by decide +kernel, by decide +kernel⟩
theorem tb_r67 : tb_rok (67, tb_K0, tb_b67, 2, some .boolean, false) := ⟨tb_K0_ok, tb_b67_ok, rfl, by decide +kernel, by decide +kernel⟩
theorem tb_r68 : tb_rok (68, tb_K4, tb_b68, 1, some .int, false) := ⟨tb_K4_ok, tb_b68_ok, rfl, by decide +kernel, by decide +kernel⟩
theorem tb_r69 : tb_rok (69, tb_K4, tb_b69, 3, some .int, false) := ⟨tb_K4_ok, tb_b69_ok, rfl, by decide +kernel, by decide +kernel⟩
theorem tb_r70 : tb_rok (70, tb_K4, tb_b70, 1, some .boolean, false) := ⟨tb_K4_ok, tb_b70_ok, rfl, by decide +kernel, by decide +kernel⟩
theorem tb_r71 : tb_rok (71, tb_K2, tb_b71, 2, some .int, false) := ⟨tb_K2_ok, tb_b71_ok, rfl, by decide +kernel, by decide +kernel⟩
theorem tb_r72 : tb_rok (72, tb_K4, tb_b72, 4, some .int, false) := ⟨tb_K4_ok, tb_b72_ok, rfl, by decide +kernel, by decide +kernel⟩
theorem tb_r73 : tb_rok (73, tb_K2, tb_b73, 4, some .boolean, false) := ⟨tb_K2_ok, tb_b73_ok, rfl, by decide +kernel, by decide +kernel⟩
theorem tb_r74 : tb_rok (74, tb_K2, tb_b74, 2, some .int, false) := ⟨tb_K2_ok, tb_b74_ok, rfl, by decide +kernel, by decide +kernel⟩
theorem tb_r75 : tb_rok (75, tb_K2, tb_b75, 5, none, false) := ⟨tb_K2_ok, tb_b75_ok, rfl, by decide +kernel, by decide +kernel⟩
theorem tb_r76 : tb_rok (76, tb_K8, tb_b76, 3, none, false) := ⟨tb_K8_ok, tb_b76_ok, rfl, by decide +kernel, by decide +kernel⟩
theorem tb_r77 : tb_rok (77, tb_K8, tb_b77, 2, some .boolean, false) := ⟨tb_K8_ok, tb_b77_ok, rfl, by decide +kernel, by decide +kernel⟩
theorem tb_r78 : tb_rok (78, tb_K4, tb_b78, 3, none, false) := ⟨tb_K4_ok, tb_b78_ok, rfl, by decide +kernel, by decide +kernel⟩
theorem tb_r79 : tb_rok (79, tb_K4, tb_b79, 2, some .int, false) := ⟨tb_K4_ok, tb_b79_ok, rfl, by decide +kernel, by decide +kernel⟩
theorem tb_r80 : tb_rok (80, tb_K0, tb_b80, 2, some .boolean, false) := ⟨tb_K0_ok, tb_b80_ok, rfl, by decide +kernel, by decide +kernel⟩
theorem tb_r81 : tb_rok (81, tb_K7, tb_b81, 3, none, false) := ⟨tb_K7_ok, tb_b81_ok, rfl, by decide +kernel, by decide +kernel⟩
theorem tb_r82 : tb_rok (82, tb_K0, tb_b82, 3, some .boolean, false) := ⟨tb_K0_ok, tb_b82_ok, rfl, by decide +kernel, by decide +kernel⟩
theorem tb_r83 : tb_rok (83, tb_K7, tb_b83, 2, some .boolean, false) := ⟨tb_K7_ok, tb_b83_ok, rfl, by decide +kernel, by decide +kernel⟩
theorem tb_r84 : tb_rok (84, tb_K7, tb_b84, 4, none, false) := ⟨tb_K7_ok, tb_b84_ok, rfl, by decide +kernel, by decide +kernel⟩
theorem tb_r85 : tb_rok (85, tb_K7, tb_b85, 3, some .boolean, false) := ⟨tb_K7_ok, tb_b85_ok, rfl, by decide +kernel, by decide +kernel⟩
theorem tb_r86 : tb_rok (86, tb_K0, tb_b86, 4, some .boolean, false) := ⟨tb_K0_ok, tb_b86_ok, rfl, by decide +kernel, by decide +kernel⟩
theorem tb_r87 : tb_rok (87, tb_K7, tb_b87, 4, none, false) := ⟨tb_K7_ok, tb_b87_ok, rfl, by decide +kernel, by decide +kernel⟩
theorem tb_r88 : tb_rok (88, tb_K0, tb_b88, 1, some .int, false) := ⟨tb_K0_ok, tb_b88_ok, rfl, by decide +kernel, by decide +kernel⟩
theorem tb_r89 : tb_rok (89, tb_K7, tb_b89, 1, some .int, false) := ⟨tb_K7_ok, tb_b89_ok, rfl, by decide +kernel, by decide +kernel⟩
theorem tb_r90 : tb_rok (90, tb_K7, tb_b90, 3, some .boolean, false) := ⟨tb_K7_ok, tb_b90_ok, rfl, by decide +kernel, by decide +kernel⟩
theorem tb_r91 : tb_rok (91, tb_K7, tb_b91, 3, some .boolean, false) := ⟨tb_K7_ok, tb_b91_ok, rfl, by decide +kernel, by decide +kernel⟩
theorem tb_r92 : tb_rok (92, tb_K7, tb_b92, 3, some .boolean, false) := ⟨tb_K7_ok, tb_b92_ok, rfl, by decide +kernel, by decide +kernel⟩
theorem tb_r93 : tb_rok (93, tb_K7, tb_b93, 3, some .int, false) := ⟨tb_K7_ok, tb_b93_ok, rfl, by decide +kernel, by decide +kernel⟩
theorem tb_r94 : tb_rok (94, tb_K0, tb_b94, 3, some .int, false) := ⟨tb_K0_ok, tb_b94_ok, rfl, by decide +kernel, by decide +kernel⟩
theorem tb_r95 : tb_rok (95, tb_K2, tb_b95, 5, some .int, false) := ⟨tb_K2_ok, tb_b95_ok, rfl, by decide +kernel, by decide +kernel⟩
theorem tb_r96 : tb_rok (96, tb_K0, tb_b96, 4, some .boolean, false) := ⟨tb_K0_ok, tb_b96_ok, rfl, by decide +kernel, by decide +kernel⟩
theorem tb_r97 : tb_rok (97, tb_K0, tb_b97, 3, some .int, false) := ⟨tb_K0_ok, tb_b97_ok, rfl, by decide +kernel, by decide +kernel⟩
theorem tb_r98 : tb_rok (98, tb_K9, tb_b98, 4, none, false) := ⟨tb_K9_ok, tb_b98_ok, rfl, by decide +kernel, by decide +kernel⟩
theorem tb_r99 : tb_rok (99, tb_K9, tb_b99, 3, none, false) := ⟨tb_K9_ok, tb_b99_ok, rfl, by decide +kernel, by decide +kernel⟩
theorem tb_r100 : tb_rok (100, tb_K9, tb_b100, 1, some .int, false) := ⟨tb_K9_ok, tb_b100_ok, rfl, by decide +kernel, by decide +kernel⟩
theorem tb_r101 : tb_rok (101, tb_K0, tb_b101, 1, some .int, false) := ⟨tb_K0_ok, tb_b101_ok, rfl, by decide +kernel, by decide +kernel⟩
theorem tb_r102 : tb_rok (102, tb_K9, tb_b102, 1, some .boolean, false) := ⟨tb_K9_ok, tb_b102_ok, rfl, by decide +kernel, by decide +kernel⟩
theorem tb_r103 : tb_rok (103, tb_K9, tb_b103, 6, none, false) := ⟨tb_K9_ok, tb_b103_ok, rfl, by decide +kernel, by decide +kernel⟩
theorem tb_r104 : tb_rok (104, tb_K9, tb_b104, 6, some .boolean, false) := ⟨tb_K9_ok, tb_b104_ok, rfl, by decide +kernel, by decide +kernel⟩
theorem tb_r105 : tb_rok (105, tb_K9, tb_b105, 4, some .boolean, false) := ⟨tb_K9_ok, tb_b105_ok, rfl, by decide +kernel, by decide +kernel⟩
theorem tb_r106 : tb_rok (106, tb_K0, tb_b106, 2, some .boolean, false) := ⟨tb_K0_ok, tb_b106_ok, rfl, by decide +kernel, by decide +kernel⟩
theorem tb_r107 : tb_rok (107, tb_K9, tb_b107, 1, some .boolean, false) := ⟨tb_K9_ok, tb_b107_ok, rfl, by decide +kernel, by decide +kernel⟩
theorem tb_r108 : tb_rok (108, tb_K9, tb_b108, 1, some .int, false) := ⟨tb_K9_ok, tb_b108_ok, rfl, by decide +kernel, by decide +kernel⟩
theorem tb_r109 : tb_rok (109, tb_K0, tb_b109, 3, some .boolean, false) := ⟨tb_K0_ok, tb_b109_ok, rfl, by decide +kernel, by decide +kernel⟩
theorem tb_r110 : tb_rok (110, tb_K5, tb_b110, 3, none, false) := ⟨tb_K5_ok, tb_b110_ok, rfl, by decide +kernel, by decide +kernel⟩
theorem tb_r111 : tb_rok (111, tb_K0, tb_b111, 4, some .int, false) := ⟨tb_K0_ok, tb_b111_ok, rfl, by decide +kernel, by decide +kernel⟩
theorem tb_r112 : tb_rok (112, tb_K9, tb_b112, 1, some .int, false) := ⟨tb_K9_ok, tb_b112_ok, rfl, by decide +kernel, by decide +kernel⟩
theorem tb_r113 : tb_rok (113, tb_K5, tb_b113, 5, some .int, false) := ⟨tb_K5_ok, tb_b113_ok, rfl, by decide +kernel, by decide +kernel⟩
theorem tb_r114 : tb_rok (114, tb_K5, tb_b114, 5, none, false) := ⟨tb_K5_ok, tb_b114_ok, rfl, by decide +kernel, by decide +kernel⟩
theorem tb_r115 : tb_rok (115, tb_K5, tb_b115, 3, none, false) := ⟨tb_K5_ok, tb_b115_ok, rfl, by decide +kernel, by decide +kernel⟩
theorem tb_r116 : tb_rok (116, tb_K5, tb_b116, 1, none, false) := ⟨tb_K5_ok, tb_b116_ok, rfl, by decide +kernel, by decide +kernel⟩
theorem tb_r117 : tb_rok (117, tb_K5, tb_b117, 3, none, false) := ⟨tb_K5_ok, tb_b117_ok, rfl, by decide +kernel, by decide +kernel⟩
theorem tb_r118 : tb_rok (118, tb_K5, tb_b118, 2, some .int, false) := ⟨tb_K5_ok, tb_b118_ok, rfl, by decide +kernel, by decide +kernel⟩
theorem tb_r119 : tb_rok (119, tb_K5, tb_b119, 2, some .boolean, false) := ⟨tb_K5_ok, tb_b119_ok, rfl, by decide +kernel, by decide +kernel⟩
theorem tb_r120 : tb_rok (120, tb_K5, tb_b120, 3, none, false) := ⟨tb_K5_ok, tb_b120_ok, rfl, by decide +kernel, by decide +kernel⟩
theorem tb_r121 : tb_rok (121, tb_K5, tb_b121, 2, none, false) := ⟨tb_K5_ok, tb_b121_ok, rfl, by decide +kernel, by decide +kernel⟩
theorem tb_r122 : tb_rok (122, tb_K5, tb_b122, 3, none, false) := ⟨tb_K5_ok, tb_b122_ok, rfl, by decide +kernel, by decide +kernel⟩
theorem tb_r123 : tb_rok (123, tb_K5, tb_b123, 3, none, false) := ⟨tb_K5_ok, tb_b123_ok, rfl, by decide +kernel, by decide +kernel⟩
theorem tb_r124 : tb_rok (124, tb_K6, tb_b124, 2, none, false) := ⟨tb_K6_ok, tb_b124_ok, rfl, by decide +kernel, by decide +kernel⟩
theorem tb_r125 : tb_rok (125, tb_K6, tb_b125, 3, none, false) := ⟨tb_K6_ok, tb_b125_ok, rfl, by decide +kernel, by decide +kernel⟩
theorem tb_r126 : tb_rok (126, tb_K5, tb_b126, 2, some .int, false) := ⟨tb_K5_ok, tb_b126_ok, rfl, by decide +kernel, by decide +kernel⟩
theorem tb_r127 : tb_rok (127, tb_K5, tb_b127, 2, some .int, false) := ⟨tb_K5_ok, tb_b127_ok, rfl, by decide +kernel, by decide +kernel⟩
theorem tb_r128 : tb_rok (128, tb_K0, tb_b128, 1, some .int, false) := ⟨tb_K0_ok, tb_b128_ok, rfl, by decide +kernel, by decide +kernel⟩
theorem tb_r129 : tb_rok (129, tb_K5, tb_b129, 1, some .int, false) := ⟨tb_K5_ok, tb_b129_ok, rfl, by decide +kernel, by decide +kernel⟩
theorem tb_r130 : tb_rok (130, tb_K0, tb_b130, 2, some .int, false) := ⟨tb_K0_ok, tb_b130_ok, rfl, by decide +kernel, by decide +kernel⟩
theorem tb_r131 : tb_rok (131, tb_K6, tb_b131, 2, some .int, false) := ⟨tb_K6_ok, tb_b131_ok, rfl, by decide +kernel, by decide +kernel⟩
theorem tb_r132 : tb_rok (132, tb_K0, tb_b132, 3, some .int, false) := ⟨tb_K0_ok, tb_b132_ok, rfl, by decide +kernel, by decide +kernel⟩
theorem tb_r133 : tb_rok (133, tb_K6, tb_b133, 4, some .int, false) := ⟨tb_K6_ok, tb_b133_ok, rfl, by decide +kernel, by decide +kernel⟩
theorem tb_r134 : tb_rok (134, tb_K0, tb_b134, 1, some .int, false) := ⟨tb_K0_ok, tb_b134_ok, rfl, by decide +kernel, by decide +kernel⟩
theorem tb_r135 : tb_rok (135, tb_K0, tb_b135, 1, some .boolean, false) := ⟨tb_K0_ok, tb_b135_ok, rfl, by decide +kernel, by decide +kernel⟩
theorem tb_r136 : tb_rok (136, tb_K8, tb_b136, 3, some .int, false) := ⟨tb_K8_ok, tb_b136_ok, rfl, by decide +kernel, by decide +kernel⟩
theorem tb_r137 : tb_rok (137, tb_K8, tb_b137, 5, some .int, false) := ⟨tb_K8_ok, tb_b137_ok, rfl, by decide +kernel, by decide +kernel⟩
theorem tb_r138 : tb_rok (138, tb_K7, tb_b138, 2, some .int, false) := ⟨tb_K7_ok, tb_b138_ok, rfl, by decide +kernel, by decide +kernel⟩
theorem tb_r139 : tb_rok (139, tb_K7, tb_b139, 2, some .int, false) := ⟨tb_K7_ok, tb_b139_ok, rfl, by decide +kernel, by decide +kernel⟩
theorem tb_r140 : tb_rok (140, tb_K0, tb_b140, 2, some .int, false) := ⟨tb_K0_ok, tb_b140_ok, rfl, by decide +kernel, by decide +kernel⟩
theorem tb_r141 : tb_rok (141, tb_K8, tb_b141, 6, some .int, false) := ⟨tb_K8_ok, tb_b141_ok, rfl, by decide +kernel, by decide +kernel⟩
theorem tb_r142 : tb_rok (142, tb_K11, tb_b142, 1, none, true) := ⟨tb_K11_ok, tb_b142_ok, rfl, by decide +kernel, by decide +kernel⟩
theorem tb_r143 : tb_rok (143, tb_K11, tb_b143, 9, some .int, false) := ⟨tb_K11_ok, tb_b143_ok, rfl, by decide +kernel, by decide +kernel⟩
theorem tb_r144 : tb_rok (144, tb_K11, tb_b144, 1, some .boolean, false) := ⟨tb_K11_ok, tb_b144_ok, rfl, by decide +kernel, by decide +kernel⟩
theorem tb_r145 : tb_rok (145, tb_K11, tb_b145, 1, none, false) := ⟨tb_K11_ok, tb_b145_ok, rfl, by decide +kernel, by decide +kernel⟩
theorem tb_r146 : tb_rok (146, tb_K11, tb_b146, 3, some .int, false) := ⟨tb_K11_ok, tb_b146_ok, rfl, by decide +kernel, by decide +kernel⟩
theorem tb_r147 : tb_rok (147, tb_K11, tb_b147, 4, some .int, false) := ⟨tb_K11_ok, tb_b147_ok, rfl, by decide +kernel, by decide +kernel⟩
theorem tb_r148 : tb_rok (148, tb_K11, tb_b148, 2, some .boolean, false) := ⟨tb_K11_ok, tb_b148_ok, rfl, by decide +kernel, by decide +kernel⟩
theorem tb_r149 : tb_rok (149, tb_K11, tb_b149, 4, none, false) := ⟨tb_K11_ok, tb_b149_ok, rfl, by decide +kernel, by decide +kernel⟩
theorem tb_r150 : tb_rok (150, tb_K11, tb_b150, 4, some .int, false) := ⟨tb_K11_ok, tb_b150_ok, rfl, by decide +kernel, by decide +kernel⟩
theorem tb_r151 : tb_rok (151, tb_K11, tb_b151, 3, some .int, false) := ⟨tb_K11_ok, tb_b151_ok, rfl, by decide +kernel, by decide +kernel⟩
theorem tb_r152 : tb_rok (152, tb_K11, tb_b152, 4, none, false) := ⟨tb_K11_ok, tb_b152_ok, rfl, by decide +kernel, by decide +kernel⟩
theorem tb_r153 : tb_rok (153, tb_K11, tb_b153, 3, some .int, false) := ⟨tb_K11_ok, tb_b153_ok, rfl, by decide +kernel, by decide +kernel⟩
theorem tb_r154 : tb_rok (154, tb_K11, tb_b154, 3, some .boolean, false) := ⟨tb_K11_ok, tb_b154_ok, rfl, by decide +kernel, by decide +kernel⟩
theorem tb_r155 : tb_rok (155, tb_K11, tb_b155, 2, some .int, false) := ⟨tb_K11_ok, tb_b155_ok, rfl, by decide +kernel, by decide +kernel⟩
theorem tb_r156 : tb_rok (156, tb_K11, tb_b156, 1, some .int, false) := ⟨tb_K11_ok, tb_b156_ok, rfl, by decide +kernel, by decide +kernel⟩
theorem tb_r157 : tb_rok (157, tb_K11, tb_b157, 4, some .boolean, false) := ⟨tb_K11_ok, tb_b157_ok, rfl, by decide +kernel, by decide +kernel⟩
theorem tb_r158 : tb_rok (158, tb_K11, tb_b158, 6, some .boolean, false) := ⟨tb_K11_ok, tb_b158_ok, rfl, by decide +kernel, by decide +kernel⟩
theorem tb_r159 : tb_rok (159, tb_K11, tb_b159, 1, some .int, false) := ⟨tb_K11_ok, tb_b159_ok, rfl, by decide +kernel, by decide +kernel⟩
theorem tb_r160 : tb_rok (160, tb_K11, tb_b160, 1, some .int, false) := ⟨tb_K11_ok, tb_b160_ok, rfl, by decide +kernel, by decide +kernel⟩
theorem tb_r161 : tb_rok (161, tb_K11, tb_b161, 7, some .boolean, false) := ⟨tb_K11_ok, tb_b161_ok, rfl, by decide +kernel, by decide +kernel⟩
theorem tb_r162 : tb_rok (162, tb_K11, tb_b162, 5, some .boolean, false) := ⟨tb_K11_ok, tb_b162_ok, rfl, by decide +kernel, by decide +kernel⟩
theorem tb_r163 : tb_rok (163, tb_K11, tb_b163, 10, some .long, false) := ⟨tb_K11_ok, tb_b163_ok, rfl, by decide +kernel, by decide +kernel⟩
theorem tb_r164 : tb_rok (164, tb_K11, tb_b164, 3, some .boolean, false) := ⟨tb_K11_ok, tb_b164_ok, rfl, by decide +kernel, by decide +kernel⟩
theorem tb_r165 : tb_rok (165, tb_K11, tb_b165, 5, some .boolean, false) := ⟨tb_K11_ok, tb_b165_ok, rfl, by decide +kernel, by decide +kernel⟩
theorem tb_r166 : tb_rok (166, tb_K11, tb_b166, 5, some .boolean, false) := ⟨tb_K11_ok, tb_b166_ok, rfl, by decide +kernel, by decide +kernel⟩
theorem tb_r167 : tb_rok (167, tb_K11, tb_b167, 3, some .boolean, false) := ⟨tb_K11_ok, tb_b167_ok, rfl, by decide +kernel, by decide +kernel⟩
theorem tb_r168 : tb_rok (168, tb_K11, tb_b168, 4, some .boolean, false) := ⟨tb_K11_ok, tb_b168_ok, rfl, by decide +kernel, by decide +kernel⟩
theorem tb_r169 : tb_rok (169, tb_K11, tb_b169, 3, none, false) := ⟨tb_K11_ok, tb_b169_ok, rfl, by decide +kernel, by decide +kernel⟩
theorem tb_r170 : tb_rok (170, tb_K11, tb_b170, 8, some .boolean, false) := ⟨tb_K11_ok, tb_b170_ok, rfl, by decide +kernel, by decide +kernel⟩
theorem tb_r171 : tb_rok (171, tb_K11, tb_b171, 3, none, false) := ⟨tb_K11_ok, tb_b171_ok, rfl, by decide +kernel, by decide +kernel⟩
theorem tb_r172 : tb_rok (172, tb_K11, tb_b172, 10, none, false) := ⟨tb_K11_ok, tb_b172_ok, rfl, by decide +kernel, by decide +kernel⟩
theorem tb_r173 : tb_rok (173, tb_K11, tb_b173, 3, some .boolean, false) := ⟨tb_K11_ok, tb_b173_ok, rfl, by decide +kernel, by decide +kernel⟩
theorem tb_r174 : tb_rok (174, tb_K11, tb_b174, 7, some .boolean, false) := ⟨tb_K11_ok, tb_b174_ok, rfl, by decide +kernel, by decide +kernel⟩
theorem tb_r175 : tb_rok (175, tb_K11, tb_b175, 9, some .int, false) := ⟨tb_K11_ok, tb_b175_ok, rfl, by decide +kernel, by decide +kernel⟩
theorem tb_r176 : tb_rok (176, tb_K11, tb_b176, 4, some .boolean, false) := ⟨tb_K11_ok, tb_b176_ok, rfl, by decide +kernel, by decide +kernel⟩
theorem tb_r177 : tb_rok (177, tb_K11, tb_b177, 4, some .int, false) := ⟨tb_K11_ok, tb_b177_ok, rfl, by decide +kernel, by decide +kernel⟩
theorem tb_r178 : tb_rok (178, tb_K11, tb_b178, 2, none, false) := ⟨tb_K11_ok, tb_b178_ok, rfl, by decide +kernel, by decide +kernel⟩
theorem tb_r179 : tb_rok (179, tb_K11, tb_b179, 4, some .int, false) := ⟨tb_K11_ok, tb_b179_ok, rfl, by decide +kernel, by decide +kernel⟩
theorem tb_r180 : tb_rok (180, tb_K11, tb_b180, 4, some .int, false) := ⟨tb_K11_ok, tb_b180_ok, rfl, by decide +kernel, by decide +kernel⟩
theorem tb_r181 : tb_rok (181, tb_K11, tb_b181, 4, some .int, false) := ⟨tb_K11_ok, tb_b181_ok, rfl, by decide +kernel, by decide +kernel⟩
theorem tb_r182 : tb_rok (182, tb_K11, tb_b182, 2, some .boolean, false) := ⟨tb_K11_ok, tb_b182_ok, rfl, by decide +kernel, by decide +kernel⟩
theorem tb_r183 : tb_rok (183, tb_K11, tb_b183, 3, some .boolean, false) := ⟨tb_K11_ok, tb_b183_ok, rfl, by decide +kernel, by decide +kernel⟩
theorem tb_r184 : tb_rok (184, tb_K11, tb_b184, 6, some .int, false) := ⟨tb_K11_ok, tb_b184_ok, rfl, by decide +kernel, by decide +kernel⟩
theorem tb_r185 : tb_rok (185, tb_K11, tb_b185, 3, some .int, false) := ⟨tb_K11_ok, tb_b185_ok, rfl, by decide +kernel, by decide +kernel⟩
theorem tb_r186 : tb_rok (186, tb_K11, tb_b186, 2, some .int, false) := ⟨tb_K11_ok, tb_b186_ok, rfl, by decide +kernel, by decide +kernel⟩
theorem tb_r187 : tb_rok (187, tb_K11, tb_b187, 3, none, false) := ⟨tb_K11_ok, tb_b187_ok, rfl, by decide +kernel, by decide +kernel⟩
theorem tb_r188 : tb_rok (188, tb_K11, tb_b188, 4, none, false) := ⟨tb_K11_ok, tb_b188_ok, rfl, by decide +kernel, by decide +kernel⟩
theorem tb_r189 : tb_rok (189, tb_K11, tb_b189, 5, some .int, false) := ⟨tb_K11_ok, tb_b189_ok, rfl, by decide +kernel, by decide +kernel⟩
theorem tb_r190 : tb_rok (190, tb_K11, tb_b190, 4, some .int, false) := ⟨tb_K11_ok, tb_b190_ok, rfl, by decide +kernel, by decide +kernel⟩
theorem tb_r191 : tb_rok (191, tb_K11, tb_b191, 3, none, false) := ⟨tb_K11_ok, tb_b191_ok, rfl, by decide +kernel, by decide +kernel⟩
theorem tb_r192 : tb_rok (192, tb_K11, tb_b192, 1, some .int, false) := ⟨tb_K11_ok, tb_b192_ok, rfl, by decide +kernel, by decide +kernel⟩
theorem tb_r193 : tb_rok (193, tb_K11, tb_b193, 2, some .int, false) := ⟨tb_K11_ok, tb_b193_ok, rfl, by decide +kernel, by decide +kernel⟩
theorem tb_r194 : tb_rok (194, tb_K11, tb_b194, 3, some .int, false) := ⟨tb_K11_ok, tb_b194_ok, rfl, by decide +kernel, by decide +kernel⟩
theorem tb_r195 : tb_rok (195, tb_K11, tb_b195, 3, some .boolean, false) := ⟨tb_K11_ok, tb_b195_ok, rfl, by decide +kernel, by decide +kernel⟩
theorem tb_r196 : tb_rok (196, tb_K11, tb_b196, 6, some .boolean, false) := ⟨tb_K11_ok, tb_b196_ok, rfl, by decide +kernel, by decide +kernel⟩
theorem tb_r197 : tb_rok (197, tb_K11, tb_b197, 2, some .boolean, false) := ⟨tb_K11_ok, tb_b197_ok, rfl, by decide +kernel, by decide +kernel⟩
theorem tb_r198 : tb_rok (198, tb_K11, tb_b198, 4, some .boolean, false) := ⟨tb_K11_ok, tb_b198_ok, rfl, by decide +kernel, by decide +kernel⟩
theorem tb_r199 : tb_rok (199, tb_K11, tb_b199, 6, some .int, false) := ⟨tb_K11_ok, tb_b199_ok, rfl, by decide +kernel, by decide +kernel⟩
theorem tb_r200 : tb_rok (200, tb_K11, tb_b200, 3, some .boolean, false) := ⟨tb_K11_ok, tb_b200_ok, rfl, by decide +kernel, by decide +kernel⟩
theorem tb_r201 : tb_rok (201, tb_K11, tb_b201, 6, some .boolean, false) := ⟨tb_K11_ok, tb_b201_ok, rfl, by decide +kernel, by decide +kernel⟩
theorem tb_r202 : tb_rok (202, tb_K11, tb_b202, 4, some .int, false) := ⟨tb_K11_ok, tb_b202_ok, rfl, by decide +kernel, by decide +kernel⟩
theorem tb_r203 : tb_rok (203, tb_K11, tb_b203, 1, some .int, false) := ⟨tb_K11_ok, tb_b203_ok, rfl, by decide +kernel, by decide +kernel⟩
theorem tb_r204 : tb_rok (204, tb_K11, tb_b204, 6, some .int, false) := ⟨tb_K11_ok, tb_b204_ok, rfl, by decide +kernel, by decide +kernel⟩
theorem tb_r205 : tb_rok (205, tb_K11, tb_b205, 3, some .int, false) := ⟨tb_K11_ok, tb_b205_ok, rfl, by decide +kernel, by decide +kernel⟩
set_option maxRecDepth 100000 in
theorem tb_rec_ok : ∀ e ∈ tb_rec, tb_rok e := List.forall_mem_cons.mpr ⟨tb_r0, List.forall_mem_cons.mpr ⟨tb_r1, List.forall_mem_cons.mpr ⟨tb_r2, List.forall_mem_cons.mpr ⟨tb_r3, List.forall_mem_cons.mpr ⟨tb_r4, List.forall_mem_cons.mpr ⟨tb_r5, List.forall_mem_cons.mpr ⟨tb_r6, List.forall_mem_cons.mpr ⟨tb_r7, List.forall_mem_cons.mpr ⟨tb_r8, List.forall_mem_cons.mpr ⟨tb_r9, List.forall_mem_cons.mpr ⟨tb_r10, List.forall_mem_cons.mpr ⟨tb_r11, List.forall_mem_cons.mpr ⟨tb_r12, List.forall_mem_cons.mpr ⟨tb_r13, List.forall_mem_cons.mpr ⟨tb_r14, List.forall_mem_cons.mpr ⟨tb_r15, List.forall_mem_cons.mpr ⟨tb_r16, List.forall_mem_cons.mpr ⟨tb_r17, List.forall_mem_cons.mpr ⟨tb_r18, List.forall_mem_cons.mpr ⟨tb_r19, List.forall_mem_cons.mpr ⟨tb_r20, List.forall_mem_cons.mpr ⟨tb_r21, List.forall_mem_cons.mpr ⟨tb_r22, List.forall_mem_cons.mpr ⟨tb_r23, List.forall_mem_cons.mpr ⟨tb_r25, List.forall_mem_cons.mpr ⟨tb_r26, List.forall_mem_cons.mpr ⟨tb_r27, List.forall_mem_cons.mpr ⟨tb_r28, List.forall_mem_cons.mpr ⟨tb_r29, List.forall_mem_cons.mpr ⟨tb_r30, List.forall_mem_cons.mpr ⟨tb_r31, List.forall_mem_cons.mpr ⟨tb_r32, List.forall_mem_cons.mpr ⟨tb_r33, List.forall_mem_cons.mpr ⟨tb_r34, List.forall_mem_cons.mpr ⟨tb_r35, List.forall_mem_cons.mpr ⟨tb_r36, List.forall_mem_cons.mpr ⟨tb_r38, List.forall_mem_cons.mpr ⟨tb_r39, List.forall_mem_cons.mpr ⟨tb_r40, List.forall_mem_cons.mpr ⟨tb_r41, List.forall_mem_cons.mpr ⟨tb_r42, List.forall_mem_cons.mpr ⟨tb_r43, List.forall_mem_cons.mpr ⟨tb_r44, List.forall_mem_cons.mpr ⟨tb_r45, List.forall_mem_cons.mpr ⟨tb_r46, List.forall_mem_cons.mpr ⟨tb_r47, List.forall_mem_cons.mpr ⟨tb_r48, List.forall_mem_cons.mpr ⟨tb_r49, List.forall_mem_cons.mpr ⟨tb_r50, List.forall_mem_cons.mpr ⟨tb_r51, List.forall_mem_cons.mpr ⟨tb_r52, List.forall_mem_cons.mpr ⟨tb_r53, List.forall_mem_cons.mpr ⟨tb_r54, List.forall_mem_cons.mpr ⟨tb_r55, List.forall_mem_cons.mpr ⟨tb_r56, List.forall_mem_cons.mpr ⟨tb_r57, List.forall_mem_cons.mpr ⟨tb_r58, List.forall_mem_cons.mpr ⟨tb_r59, List.forall_mem_cons.mpr ⟨tb_r60, List.forall_mem_cons.mpr ⟨tb_r61, List.forall_mem_cons.mpr ⟨tb_r62, List.forall_mem_cons.mpr ⟨tb_r63, List.forall_mem_cons.mpr ⟨tb_r64, List.forall_mem_cons.mpr ⟨tb_r65, List.forall_mem_cons.mpr ⟨tb_r66, List.forall_mem_cons.mpr ⟨tb_r67, List.forall_mem_cons.mpr ⟨tb_r68, List.forall_mem_cons.mpr ⟨tb_r69, List.forall_mem_cons.mpr ⟨tb_r70, List.forall_mem_cons.mpr ⟨tb_r71, List.forall_mem_cons.mpr ⟨tb_r72, List.forall_mem_cons.mpr ⟨tb_r73, List.forall_mem_cons.mpr ⟨tb_r74, List.forall_mem_cons.mpr ⟨tb_r75, List.forall_mem_cons.mpr ⟨tb_r76, List.forall_mem_cons.mpr ⟨tb_r77, List.forall_mem_cons.mpr ⟨tb_r78, List.forall_mem_cons.mpr ⟨tb_r79, List.forall_mem_cons.mpr ⟨tb_r80, List.forall_mem_cons.mpr ⟨tb_r81, List.forall_mem_cons.mpr ⟨tb_r82, List.forall_mem_cons.mpr ⟨tb_r83, List.forall_mem_cons.mpr ⟨tb_r84, List.forall_mem_cons.mpr ⟨tb_r85, List.forall_mem_cons.mpr ⟨tb_r86, List.forall_mem_cons.mpr ⟨tb_r87, List.forall_mem_cons.mpr ⟨tb_r88, List.forall_mem_cons.mpr ⟨tb_r89, List.forall_mem_cons.mpr ⟨tb_r90, List.forall_mem_cons.mpr ⟨tb_r91, List.forall_mem_cons.mpr ⟨tb_r92, List.forall_mem_cons.mpr ⟨tb_r93, List.forall_mem_cons.mpr ⟨tb_r94, List.forall_mem_cons.mpr ⟨tb_r95, List.forall_mem_cons.mpr ⟨tb_r96, List.forall_mem_cons.mpr ⟨tb_r97, List.forall_mem_cons.mpr ⟨tb_r98, List.forall_mem_cons.mpr ⟨tb_r99, List.forall_mem_cons.mpr ⟨tb_r100, List.forall_mem_cons.mpr ⟨tb_r101, List.forall_mem_cons.mpr ⟨tb_r102, List.forall_mem_cons.mpr ⟨tb_r103, List.forall_mem_cons.mpr ⟨tb_r104, List.forall_mem_cons.mpr ⟨tb_r105, List.forall_mem_cons.mpr ⟨tb_r106, List.forall_mem_cons.mpr ⟨tb_r107, List.forall_mem_cons.mpr ⟨tb_r108, List.forall_mem_cons.mpr ⟨tb_r109, List.forall_mem_cons.mpr ⟨tb_r110, List.forall_mem_cons.mpr ⟨tb_r111, List.forall_mem_cons.mpr ⟨tb_r112, List.forall_mem_cons.mpr ⟨tb_r113, List.forall_mem_cons.mpr ⟨tb_r114, List.forall_mem_cons.mpr ⟨tb_r115, List.forall_mem_cons.mpr ⟨tb_r116, List.forall_mem_cons.mpr ⟨tb_r117, List.forall_mem_cons.mpr ⟨tb_r118, List.forall_mem_cons.mpr ⟨tb_r119, List.forall_mem_cons.mpr ⟨tb_r120, List.forall_mem_cons.mpr ⟨tb_r121, List.forall_mem_cons.mpr ⟨tb_r122, List.forall_mem_cons.mpr ⟨tb_r123, List.forall_mem_cons.mpr ⟨tb_r124, List.forall_mem_cons.mpr ⟨tb_r125, List.forall_mem_cons.mpr ⟨tb_r126, List.forall_mem_cons.mpr ⟨tb_r127, List.forall_mem_cons.mpr ⟨tb_r128, List.forall_mem_cons.mpr ⟨tb_r129, List.forall_mem_cons.mpr ⟨tb_r130, List.forall_mem_cons.mpr ⟨tb_r131, List.forall_mem_cons.mpr ⟨tb_r132, List.forall_mem_cons.mpr ⟨tb_r133, List.forall_mem_cons.mpr ⟨tb_r134, List.forall_mem_cons.mpr ⟨tb_r135, List.forall_mem_cons.mpr ⟨tb_r136, List.forall_mem_cons.mpr ⟨tb_r137, List.forall_mem_cons.mpr ⟨tb_r138, List.forall_mem_cons.mpr ⟨tb_r139, List.forall_mem_cons.mpr ⟨tb_r140, List.forall_mem_cons.mpr ⟨tb_r141, List.forall_mem_cons.mpr ⟨tb_r142, List.forall_mem_cons.mpr ⟨tb_r143, List.forall_mem_cons.mpr ⟨tb_r144, List.forall_mem_cons.mpr ⟨tb_r145, List.forall_mem_cons.mpr ⟨tb_r146, List.forall_mem_cons.mpr ⟨tb_r147, List.forall_mem_cons.mpr ⟨tb_r148, List.forall_mem_cons.mpr ⟨tb_r149, List.forall_mem_cons.mpr ⟨tb_r150, List.forall_mem_cons.mpr ⟨tb_r151, List.forall_mem_cons.mpr ⟨tb_r152, List.forall_mem_cons.mpr ⟨tb_r153, List.forall_mem_cons.mpr ⟨tb_r154, List.forall_mem_cons.mpr ⟨tb_r155, List.forall_mem_cons.mpr ⟨tb_r156, List.forall_mem_cons.mpr ⟨tb_r157, List.forall_mem_cons.mpr ⟨tb_r158, List.forall_mem_cons.mpr ⟨tb_r159, List.forall_mem_cons.mpr ⟨tb_r160, List.forall_mem_cons.mpr ⟨tb_r161, List.forall_mem_cons.mpr ⟨tb_r162, List.forall_mem_cons.mpr ⟨tb_r163, List.forall_mem_cons.mpr ⟨tb_r164, List.forall_mem_cons.mpr ⟨tb_r165, List.forall_mem_cons.mpr ⟨tb_r166, List.forall_mem_cons.mpr ⟨tb_r167, List.forall_mem_cons.mpr ⟨tb_r168, List.forall_mem_cons.mpr ⟨tb_r169, List.forall_mem_cons.mpr ⟨tb_r170, List.forall_mem_cons.mpr ⟨tb_r171, List.forall_mem_cons.mpr ⟨tb_r172, List.forall_mem_cons.mpr ⟨tb_r173, List.forall_mem_cons.mpr ⟨tb_r174, List.forall_mem_cons.mpr ⟨tb_r175, List.forall_mem_cons.mpr ⟨tb_r176, List.forall_mem_cons.mpr ⟨tb_r177, List.forall_mem_cons.mpr ⟨tb_r178, List.forall_mem_cons.mpr ⟨tb_r179, List.forall_mem_cons.mpr ⟨tb_r180, List.forall_mem_cons.mpr ⟨tb_r181, List.forall_mem_cons.mpr ⟨tb_r182, List.forall_mem_cons.mpr ⟨tb_r183, List.forall_mem_cons.mpr ⟨tb_r184, List.forall_mem_cons.mpr ⟨tb_r185, List.forall_mem_cons.mpr ⟨tb_r186, List.forall_mem_cons.mpr ⟨tb_r187, List.forall_mem_cons.mpr ⟨tb_r188, List.forall_mem_cons.mpr ⟨tb_r189, List.forall_mem_cons.mpr ⟨tb_r190, List.forall_mem_cons.mpr ⟨tb_r191, List.forall_mem_cons.mpr ⟨tb_r192, List.forall_mem_cons.mpr ⟨tb_r193, List.forall_mem_cons.mpr ⟨tb_r194, List.forall_mem_cons.mpr ⟨tb_r195, List.forall_mem_cons.mpr ⟨tb_r196, List.forall_mem_cons.mpr ⟨tb_r197, List.forall_mem_cons.mpr ⟨tb_r198, List.forall_mem_cons.mpr ⟨tb_r199, List.forall_mem_cons.mpr ⟨tb_r200, List.forall_mem_cons.mpr ⟨tb_r201, List.forall_mem_cons.mpr ⟨tb_r202, List.forall_mem_cons.mpr ⟨tb_r203, List.forall_mem_cons.mpr ⟨tb_r204, List.forall_mem_cons.mpr ⟨tb_r205, fun _ h => absurd h List.not_mem_nil⟩⟩⟩⟩⟩⟩⟩⟩⟩⟩⟩⟩⟩⟩⟩⟩⟩⟩⟩⟩⟩⟩⟩⟩⟩⟩⟩⟩⟩⟩⟩⟩⟩⟩⟩⟩⟩⟩⟩⟩⟩⟩⟩⟩⟩⟩⟩⟩⟩⟩⟩⟩⟩⟩⟩⟩⟩⟩⟩⟩⟩⟩⟩⟩⟩⟩⟩⟩⟩⟩⟩⟩⟩⟩⟩⟩⟩⟩⟩⟩⟩⟩⟩⟩⟩⟩⟩⟩⟩⟩⟩⟩⟩⟩⟩⟩⟩⟩⟩⟩⟩⟩⟩⟩⟩⟩⟩⟩⟩⟩⟩⟩⟩⟩⟩⟩⟩⟩⟩⟩⟩⟩⟩⟩⟩⟩⟩⟩⟩⟩⟩⟩⟩⟩⟩⟩⟩⟩⟩⟩⟩⟩⟩⟩⟩⟩⟩⟩⟩⟩⟩⟩⟩⟩⟩⟩⟩⟩⟩⟩⟩⟩⟩⟩⟩⟩⟩⟩⟩⟩⟩⟩⟩⟩⟩⟩⟩⟩⟩⟩⟩⟩⟩⟩⟩⟩⟩⟩⟩⟩⟩⟩⟩⟩⟩⟩⟩⟩⟩⟩⟩⟩⟩⟩
def tb_fi : Nat := 24
def tb_fl : Nat := 37
def dp_fillI (P : dp_P) (p n : Nat) (v : Int32) : dp_P := (fun q j => bif Nat.beq q p then (bif Nat.ble (j + 1) n then some v else P.1 q j) else P.1 q j, P.2)
def dp_fillL (P : dp_P) (p n : Nat) (v : Int64) : dp_P := (P.1, fun q j => bif Nat.beq q p then (bif Nat.ble (j + 1) n then some v else P.2 q j) else P.2 q j)
/-- Arrays.fill, in one -/
def tb_pr (j : Nat) (As : List Value) (sh : sm_S) (P : dp_P) : Option dp_R := match As with
  | [.ref p, .int v] => dp_g (Nat.beq j tb_fi) (match sh[p]? with
    | some (.inr (c, n)) => dp_g (Nat.beq c 0) (dp_g (Nat.ble n 1000000) (some (none, sh, dp_fillI P p n v, dp_wu dp_w0 p)))
    | _ => none)
  | [.ref p, .long v] => dp_g (Nat.beq j tb_fl) (match sh[p]? with
    | some (.inr (c, n)) => dp_g (Nat.beq c 2) (dp_g (Nat.ble n 1000000) (some (none, sh, dp_fillL P p n v, dp_wu dp_w0 p)))
    | _ => none)
  | _ => none
def tb_cf : Nat → dp_F
  | 0 => fun _ _ _ _ => none
  | n + 1 => fun j As sh P => match tb_pr j As sh P with
    | some R => some R
    | none => dp_o (dp_lk tb_rec j) fun e => dp_g (Nat.ble (lg_sl As).length e.2.2.1) (match dp_go e.1 e.2 (tb_cf n) 16 (0, sm_L0 e.2.2.1 As, [], sh, P, dp_w0) with
      | some (.inr R) => some R
      | _ => none)
def tb_prok (Z : sm_Z) : Prop := ∀ (fr lo : Nat) (j : Nat) (As : List Value) (sh : sm_S) (P : dp_P) (R : dp_R), tb_pr j As sh P = some R → sh.length ≤ R.2.1.length ∧ sm_sl sh ≤ sm_sl R.2.1 ∧ ∀ (ad : Nat → Nat) (μ : sm_M), dp_le P μ → sm_C tb_cl Z (tb_ys j) (tb_ws j) (dp_rm (fr + 1) (lo + 32) sh R.2.1) As ad sh μ (dp_Q μ R)
theorem tb_cfok {Z : sm_Z} (hZ : Z.2.2.2 = tb_N) (hp : tb_prok Z) : ∀ n, dp_cfok tb_cl Z tb_ys tb_ws n (32 * n) (tb_cf n)
  | 0 => fun _ _ _ _ _ h => by cases h
  | n + 1 => by
    intro j As sh P R h
    unfold tb_cf at h
    split at h
    · rename_i R' hR
      cases h
      exact hp n (32 * n) j As sh P _ hR
    · obtain ⟨⟨K, M⟩, he, h⟩ := dp_o_ok h
      obtain ⟨hl, h⟩ := dp_g_ok h
      have hl := Nat.le_of_ble_eq_true hl
      simp only at h hl
      split at h
      · rename_i R' hR
        cases h
        obtain ⟨g1, g2, g3, g4, g5⟩ := tb_rec_ok _ (dp_lk_mem he)
        simp only at g1 g2 g3 g4 g5
        rw [g3]
        exact dp_meth g2 (hZ ▸ g1) (tb_cfok hZ hp n) g4 g5 hl hR
      · cases h
end
section
theorem td_24_0 : decode prog_14_method_103_code 0 = .ok ((.iconst (0)), 1) := tb_b24_ok (0, (.iconst (0)), 1) (List.mem_of_getElem? (i := 0) rfl)
theorem td_24_1 : decode prog_14_method_103_code 1 = .ok ((.istore_n 2), 1) := tb_b24_ok (1, (.istore_n 2), 1) (List.mem_of_getElem? (i := 1) rfl)
theorem td_24_2 : decode prog_14_method_103_code 2 = .ok ((.aload_n 0), 1) := tb_b24_ok (2, (.aload_n 0), 1) (List.mem_of_getElem? (i := 2) rfl)
theorem td_24_3 : decode prog_14_method_103_code 3 = .ok (.arraylength, 1) := tb_b24_ok (3, .arraylength, 1) (List.mem_of_getElem? (i := 3) rfl)
theorem td_24_4 : decode prog_14_method_103_code 4 = .ok ((.istore_n 3), 1) := tb_b24_ok (4, (.istore_n 3), 1) (List.mem_of_getElem? (i := 4) rfl)
theorem td_24_5 : decode prog_14_method_103_code 5 = .ok ((.iload_n 2), 1) := tb_b24_ok (5, (.iload_n 2), 1) (List.mem_of_getElem? (i := 5) rfl)
theorem td_24_6 : decode prog_14_method_103_code 6 = .ok ((.iload_n 3), 1) := tb_b24_ok (6, (.iload_n 3), 1) (List.mem_of_getElem? (i := 6) rfl)
theorem td_24_7 : decode prog_14_method_103_code 7 = .ok ((.if_icmp .ge (13)), 3) := tb_b24_ok (7, (.if_icmp .ge (13)), 3) (List.mem_of_getElem? (i := 7) rfl)
theorem td_24_10 : decode prog_14_method_103_code 10 = .ok ((.aload_n 0), 1) := tb_b24_ok (10, (.aload_n 0), 1) (List.mem_of_getElem? (i := 8) rfl)
theorem td_24_11 : decode prog_14_method_103_code 11 = .ok ((.iload_n 2), 1) := tb_b24_ok (11, (.iload_n 2), 1) (List.mem_of_getElem? (i := 9) rfl)
theorem td_24_12 : decode prog_14_method_103_code 12 = .ok ((.iload_n 1), 1) := tb_b24_ok (12, (.iload_n 1), 1) (List.mem_of_getElem? (i := 10) rfl)
theorem td_24_13 : decode prog_14_method_103_code 13 = .ok (.iastore, 1) := tb_b24_ok (13, .iastore, 1) (List.mem_of_getElem? (i := 11) rfl)
theorem td_24_14 : decode prog_14_method_103_code 14 = .ok ((.iinc 2 (1)), 3) := tb_b24_ok (14, (.iinc 2 (1)), 3) (List.mem_of_getElem? (i := 12) rfl)
theorem td_24_17 : decode prog_14_method_103_code 17 = .ok ((.goto (-12)), 3) := tb_b24_ok (17, (.goto (-12)), 3) (List.mem_of_getElem? (i := 13) rfl)
theorem td_24_20 : decode prog_14_method_103_code 20 = .ok (.return_, 1) := tb_b24_ok (20, .return_, 1) (List.mem_of_getElem? (i := 14) rfl)
theorem td_37_0 : decode prog_14_method_101_code 0 = .ok ((.iconst (0)), 1) := tb_b37_ok (0, (.iconst (0)), 1) (List.mem_of_getElem? (i := 0) rfl)
theorem td_37_1 : decode prog_14_method_101_code 1 = .ok ((.istore_n 3), 1) := tb_b37_ok (1, (.istore_n 3), 1) (List.mem_of_getElem? (i := 1) rfl)
theorem td_37_2 : decode prog_14_method_101_code 2 = .ok ((.aload_n 0), 1) := tb_b37_ok (2, (.aload_n 0), 1) (List.mem_of_getElem? (i := 2) rfl)
theorem td_37_3 : decode prog_14_method_101_code 3 = .ok (.arraylength, 1) := tb_b37_ok (3, .arraylength, 1) (List.mem_of_getElem? (i := 3) rfl)
theorem td_37_4 : decode prog_14_method_101_code 4 = .ok ((.istore 4), 2) := tb_b37_ok (4, (.istore 4), 2) (List.mem_of_getElem? (i := 4) rfl)
theorem td_37_6 : decode prog_14_method_101_code 6 = .ok ((.iload_n 3), 1) := tb_b37_ok (6, (.iload_n 3), 1) (List.mem_of_getElem? (i := 5) rfl)
theorem td_37_7 : decode prog_14_method_101_code 7 = .ok ((.iload 4), 2) := tb_b37_ok (7, (.iload 4), 2) (List.mem_of_getElem? (i := 6) rfl)
theorem td_37_9 : decode prog_14_method_101_code 9 = .ok ((.if_icmp .ge (13)), 3) := tb_b37_ok (9, (.if_icmp .ge (13)), 3) (List.mem_of_getElem? (i := 7) rfl)
theorem td_37_12 : decode prog_14_method_101_code 12 = .ok ((.aload_n 0), 1) := tb_b37_ok (12, (.aload_n 0), 1) (List.mem_of_getElem? (i := 8) rfl)
theorem td_37_13 : decode prog_14_method_101_code 13 = .ok ((.iload_n 3), 1) := tb_b37_ok (13, (.iload_n 3), 1) (List.mem_of_getElem? (i := 9) rfl)
theorem td_37_14 : decode prog_14_method_101_code 14 = .ok ((.lload_n 1), 1) := tb_b37_ok (14, (.lload_n 1), 1) (List.mem_of_getElem? (i := 10) rfl)
theorem td_37_15 : decode prog_14_method_101_code 15 = .ok (.lastore, 1) := tb_b37_ok (15, .lastore, 1) (List.mem_of_getElem? (i := 11) rfl)
theorem td_37_16 : decode prog_14_method_101_code 16 = .ok ((.iinc 3 (1)), 3) := tb_b37_ok (16, (.iinc 3 (1)), 3) (List.mem_of_getElem? (i := 12) rfl)
theorem td_37_19 : decode prog_14_method_101_code 19 = .ok ((.goto (-13)), 3) := tb_b37_ok (19, (.goto (-13)), 3) (List.mem_of_getElem? (i := 13) rfl)
theorem td_37_22 : decode prog_14_method_101_code 22 = .ok (.return_, 1) := tb_b37_ok (22, .return_, 1) (List.mem_of_getElem? (i := 14) rfl)
/-! Arrays.fill -/
def sm_fI (μ : sm_M) (p n : Nat) (v : Int32) : sm_M := (fun q => if q = p then (fun j => if j < n then v else μ.1 p j) else μ.1 q, μ.2)
def sm_fL (μ : sm_M) (p n : Nat) (v : Int64) : sm_M := (μ.1, fun q => if q = p then (fun j => if j < n then v else μ.2 p j) else μ.2 q)
theorem sm_fI_0 (μ : sm_M) (p : Nat) (v : Int32) : sm_fI μ p 0 v = μ := by
  obtain ⟨a, b⟩ := μ
  unfold sm_fI
  congr 1
  funext q
  by_cases h : q = p
  · subst h; simp
  · simp [h]
theorem sm_fL_0 (μ : sm_M) (p : Nat) (v : Int64) : sm_fL μ p 0 v = μ := by
  obtain ⟨a, b⟩ := μ
  unfold sm_fL
  congr 1
  funext q
  by_cases h : q = p
  · subst h; simp
  · simp [h]
theorem sm_fI_s (μ : sm_M) (p k : Nat) (v : Int32) : sm_ui (sm_fI μ p k v) p k v = sm_fI μ p (k + 1) v := by
  unfold sm_ui sm_fI
  congr 1
  funext q
  by_cases h : q = p
  · subst h
    simp only [if_true]
    funext j
    unfold upd
    by_cases hj : j = k
    · subst hj; simp
    · have e : (j < k) = (j < k + 1) := propext ⟨fun _ => by omega, fun _ => by omega⟩
      simp [hj, e]
  · simp [h]
theorem sm_fL_s (μ : sm_M) (p k : Nat) (v : Int64) : sm_ul (sm_fL μ p k v) p k v = sm_fL μ p (k + 1) v := by
  unfold sm_ul sm_fL
  congr 1
  funext q
  by_cases h : q = p
  · subst h
    simp only [if_true]
    funext j
    unfold vp_updL
    by_cases hj : j = k
    · subst hj; simp
    · have e : (j < k) = (j < k + 1) := propext ⟨fun _ => by omega, fun _ => by omega⟩
      simp [hj, e]
  · simp [h]
theorem tb_fillI_C {Z : sm_Z} {rm : Room} (hc : rm.cells = 0) (hs : rm.slots = 0) {p n : Nat} {v : Int32} {sh : sm_S} (hsh : sh[p]? = some (.inr (0, n))) (hn : n ≤ 1000000) (ad : Nat → Nat) (μ : sm_M) : sm_C tb_cl Z (tb_ys 24) (tb_ws 24) rm [.ref p, .int v] ad sh μ (fun r sh' μ' => r = none ∧ sh' = sh ∧ μ' = sm_fI μ p n v) := by
  refine sm_enter (cc := prog_14_method_103_code) (nL := 4) (ret := none) (by decide +kernel) (Nat.le_of_ble_eq_true rfl) (fun X hZ hX hf => ?_)
  have loop : ∀ (m k : Nat), k + m = n → sm_E tb_cl X 5 [some (.ref p), some (.int v), some (.int (nI k)), some (.int (nI n))] [] ad sh (sm_fI μ p k v) := by
    intro m
    induction m with
    | zero =>
      intro k hk
      have hk : k = n := by omega
      subst hk
      refine sm_iloadN hX td_24_5 rfl ?_
      refine sm_iloadN hX td_24_6 rfl ?_
      refine sm_icmp_ge hX 20 td_24_7 (by decide) (fun _ => ?_) (fun h => absurd (Int32.le_refl _) h)
      exact sm_vret hX hf (by omega) (by omega) (fun _ _ => rfl) rfl td_24_20 ⟨rfl, rfl, rfl⟩
    | succ m ih =>
      intro k hk
      refine sm_iloadN hX td_24_5 rfl ?_
      refine sm_iloadN hX td_24_6 rfl ?_
      refine sm_icmp_ge hX 20 td_24_7 (by decide) (fun h => absurd h (nI_ge (by omega) (by omega))) (fun _ => ?_)
      refine sm_aloadN hX td_24_10 rfl ?_
      refine sm_iloadN hX td_24_11 rfl ?_
      refine sm_iloadN hX td_24_12 rfl ?_
      refine sm_iast hX hsh (nI_in (by omega) (by omega)) td_24_13 ?_
      refine sm_iincG hX td_24_14 rfl rfl (by decide) ?_
      refine sm_goto hX 5 td_24_17 (by decide) ?_
      have h := ih (k + 1) (by omega)
      rw [nI_clamp (show k < 2 ^ 31 by omega), sm_fI_s]
      have e : nI k + Int32.ofInt 1 = nI (k + 1) := nI_1 k
      rw [e]
      exact h
  refine sm_iconst hX td_24_0 ?_
  refine sm_istoreN hX td_24_1 rfl (by decide) ?_
  refine sm_aloadN hX td_24_2 rfl ?_
  refine sm_alen hX hsh (by decide) td_24_3 ?_
  refine sm_istoreN hX td_24_4 rfl (by decide) ?_
  have h := loop n 0 (by omega)
  rw [sm_fI_0] at h
  exact h
theorem tb_fillL_C {Z : sm_Z} {rm : Room} (hc : rm.cells = 0) (hs : rm.slots = 0) {p n : Nat} {v : Int64} {sh : sm_S} (hsh : sh[p]? = some (.inr (2, n))) (hn : n ≤ 1000000) (ad : Nat → Nat) (μ : sm_M) : sm_C tb_cl Z (tb_ys 37) (tb_ws 37) rm [.ref p, .long v] ad sh μ (fun r sh' μ' => r = none ∧ sh' = sh ∧ μ' = sm_fL μ p n v) := by
  refine sm_enter (cc := prog_14_method_101_code) (nL := 5) (ret := none) (by decide +kernel) (Nat.le_of_ble_eq_true rfl) (fun X hZ hX hf => ?_)
  have loop : ∀ (m k : Nat), k + m = n → sm_E tb_cl X 6 [some (.ref p), some (.long v), none, some (.int (nI k)), some (.int (nI n))] [] ad sh (sm_fL μ p k v) := by
    intro m
    induction m with
    | zero =>
      intro k hk
      have hk : k = n := by omega
      subst hk
      refine sm_iloadN hX td_37_6 rfl ?_
      refine sm_iloadG hX td_37_7 rfl ?_
      refine sm_icmp_ge hX 22 td_37_9 (by decide) (fun _ => ?_) (fun h => absurd (Int32.le_refl _) h)
      exact sm_vret hX hf (by omega) (by omega) (fun _ _ => rfl) rfl td_37_22 ⟨rfl, rfl, rfl⟩
    | succ m ih =>
      intro k hk
      refine sm_iloadN hX td_37_6 rfl ?_
      refine sm_iloadG hX td_37_7 rfl ?_
      refine sm_icmp_ge hX 22 td_37_9 (by decide) (fun h => absurd h (nI_ge (by omega) (by omega))) (fun _ => ?_)
      refine sm_aloadN hX td_37_12 rfl ?_
      refine sm_iloadN hX td_37_13 rfl ?_
      refine sm_lloadN hX td_37_14 rfl ?_
      refine sm_last hX hsh (nI_in (by omega) (by omega)) td_37_15 ?_
      refine sm_iincG hX td_37_16 rfl rfl (by decide) ?_
      refine sm_goto hX 6 td_37_19 (by decide) ?_
      have h := ih (k + 1) (by omega)
      rw [nI_clamp (show k < 2 ^ 31 by omega), sm_fL_s]
      have e : nI k + Int32.ofInt 1 = nI (k + 1) := nI_1 k
      rw [e]
      exact h
  refine sm_iconst hX td_37_0 ?_
  refine sm_istoreN hX td_37_1 rfl (by decide) ?_
  refine sm_aloadN hX td_37_2 rfl ?_
  refine sm_alen hX hsh (by decide) td_37_3 ?_
  refine sm_istoreG hX td_37_4 rfl (by decide) ?_
  have h := loop n 0 (by omega)
  rw [sm_fL_0] at h
  exact h
theorem sm_C.imp {cl : List vw_C} {Z : sm_Z} {y : MethodName} {ws : List Cond} {rm : Room} {av : List Value} {ad : Nat → Nat} {sh : sm_S} {μ : sm_M} {Q Q' : Option Value → sm_S → sm_M → Prop} (h : sm_C cl Z y ws rm av ad sh μ Q) (hq : ∀ r sh' μ', Q r sh' μ' → Q' r sh' μ') : sm_C cl Z y ws rm av ad sh μ Q' := by
  obtain ⟨l, D, cA, NW⟩ := Z
  intro sz
  intro p e g1 g2 g3 s m args below g4 g5 g6 g7
  obtain ⟨n, o, a1, a2, a3, ⟨⟨r, ad', sh', μ', h1, h2, h3, h4, h5, h6⟩, h7⟩, a5⟩ := h sz p e g1 g2 g3 s m args below g4 g5 g6 g7
  exact ⟨n, o, a1, a2, a3, ⟨⟨r, ad', sh', μ', h1, h2, h3, h4, hq _ _ _ h5, h6⟩, h7⟩, a5⟩
theorem dp_le.fI {P : dp_P} {μ : sm_M} (h : dp_le P μ) (p n : Nat) (v : Int32) : dp_le (dp_fillI P p n v) (sm_fI μ p n v) := by
  refine ⟨fun q j u hu0 => ?_, h.2⟩
  have hu : (bif Nat.beq q p then (bif Nat.ble (j + 1) n then some v else P.1 q j) else P.1 q j) = some u := hu0
  clear hu0
  cases h1 : Nat.beq q p with
  | false =>
    rw [h1] at hu
    have := dp_bne h1
    simp only [sm_fI, this, if_false]
    exact h.1 q j u hu
  | true =>
    rw [h1] at hu
    have e1 := dp_beq h1
    subst e1
    cases h2 : Nat.ble (j + 1) n with
    | false =>
      rw [h2] at hu
      have : ¬ j < n := fun z => by rw [Nat.ble_eq_true_of_le z] at h2; cases h2
      simp only [sm_fI, this, if_true, if_false]
      exact h.1 q j u hu
    | true =>
      rw [h2] at hu
      have : j < n := Nat.le_of_ble_eq_true h2
      simp only [sm_fI, this, if_true]
      exact Option.some.inj hu
theorem dp_le.fL {P : dp_P} {μ : sm_M} (h : dp_le P μ) (p n : Nat) (v : Int64) : dp_le (dp_fillL P p n v) (sm_fL μ p n v) := by
  refine ⟨h.1, fun q j u hu0 => ?_⟩
  have hu : (bif Nat.beq q p then (bif Nat.ble (j + 1) n then some v else P.2 q j) else P.2 q j) = some u := hu0
  clear hu0
  cases h1 : Nat.beq q p with
  | false =>
    rw [h1] at hu
    have := dp_bne h1
    simp only [sm_fL, this, if_false]
    exact h.2 q j u hu
  | true =>
    rw [h1] at hu
    have e1 := dp_beq h1
    subst e1
    cases h2 : Nat.ble (j + 1) n with
    | false =>
      rw [h2] at hu
      have : ¬ j < n := fun z => by rw [Nat.ble_eq_true_of_le z] at h2; cases h2
      simp only [sm_fL, this, if_true, if_false]
      exact h.2 q j u hu
    | true =>
      rw [h2] at hu
      have : j < n := Nat.le_of_ble_eq_true h2
      simp only [sm_fL, this, if_true]
      exact Option.some.inj hu
theorem tb_prs {Z : sm_Z} : tb_prok Z := by
  intro fr lo j As sh P R h
  unfold tb_pr at h
  split at h
  · rename_i p v
    obtain ⟨h1, ha⟩ := dp_g_ok h
    have h1 := dp_beq h1
    split at ha
    · rename_i c n hs
      obtain ⟨h2, hb⟩ := dp_g_ok ha
      obtain ⟨h3, hc⟩ := dp_g_ok hb
      have h2 := dp_beq h2
      have h3 := Nat.le_of_ble_eq_true h3
      cases hc
      subst h1 h2
      refine ⟨Nat.le_refl _, Nat.le_refl _, fun ad μ hle => (tb_fillI_C (Nat.sub_self _) (Nat.sub_self _) hs h3 ad μ).imp ?_⟩
      rintro r sh' μ' ⟨rfl, rfl, rfl⟩
      refine ⟨rfl, rfl, hle.fI p n v, fun q hq => ?_⟩
      obtain ⟨hne, -⟩ := dp_wu_out hq
      simp [sm_fI, hne]
    · cases ha
  · rename_i p v
    obtain ⟨h1, ha⟩ := dp_g_ok h
    have h1 := dp_beq h1
    split at ha
    · rename_i c n hs
      obtain ⟨h2, hb⟩ := dp_g_ok ha
      obtain ⟨h3, hc⟩ := dp_g_ok hb
      have h2 := dp_beq h2
      have h3 := Nat.le_of_ble_eq_true h3
      cases hc
      subst h1 h2
      refine ⟨Nat.le_refl _, Nat.le_refl _, fun ad μ hle => (tb_fillL_C (Nat.sub_self _) (Nat.sub_self _) hs h3 ad μ).imp ?_⟩
      rintro r sh' μ' ⟨rfl, rfl, rfl⟩
      refine ⟨rfl, rfl, hle.fL p n v, fun q hq => ?_⟩
      obtain ⟨hne, -⟩ := dp_wu_out hq
      simp [sm_fL, hne]
    · cases ha
  · cases h
end
section
def ev_get (o : Option dp_R) : dp_R := match o with
  | some R => R
  | none => (none, [], (fun _ _ => none, fun _ _ => none), dp_w0)
def ev_s0 : sm_S := [.inl (0, [some none, some none, some none, some none, some none, some none, some none, none])]
def ev_s1 : sm_S := [.inl (0, [some (some 1), some (some 13), some (some 25), some (some 28), some (some 38), some (some 42), some (some 44), none]),
  .inl (1, [some (some 2), some (some 3), some (some 4), some (some 5), none, some (some 6), some (some 7), some (some 8), some (some 9), some (some 10), some (some 11), none, some (some 12), none]),
  .inr (0, 32),
  .inr (0, 32),
  .inr (0, 32),
  .inr (0, 32),
  .inr (0, 32),
  .inr (0, 32),
  .inr (0, 32),
  .inr (0, 32),
  .inr (0, 4),
  .inr (0, 4),
  .inr (0, 4),
  .inl (2, [some (some 1), some (some 19), some (some 14), some (some 15), some (some 16), some (some 17), some (some 18)]),
  .inr (0, 2016),
  .inr (0, 2016),
  .inr (0, 128),
  .inr (0, 4),
  .inr (0, 4),
  .inl (3, [some (some 1), some (some 20), some (some 21), some (some 22), some (some 23), some (some 24)]),
  .inr (2, 32),
  .inr (2, 4),
  .inr (2, 32),
  .inr (2, 32),
  .inr (2, 8),
  .inl (4, [some (some 1), some (some 13), some (some 26), some (some 27), none]),
  .inr (0, 8),
  .inr (0, 252),
  .inl (5, [some (some 29), some (some 1), some (some 33), some (some 34), some (some 35), some (some 36), some (some 37), none, none, none, none, none, none, none, none]),
  .inl (6, [some (some 30), none, some (some 31), some (some 32)]),
  .inr (0, 60),
  .inr (0, 160),
  .inr (0, 4),
  .inr (0, 4),
  .inr (0, 4),
  .inr (0, 28),
  .inr (0, 7),
  .inr (0, 7),
  .inl (7, [none, some (some 39), some (some 40), some (some 41)]),
  .inr (0, 5),
  .inr (0, 4),
  .inr (0, 4),
  .inl (8, [some (some 1), some (some 38), some (some 43)]),
  .inr (0, 32),
  .inl (9, [some (some 45), none, none, none]),
  .inr (0, 8)]
def ev_s1m : sm_S := (ev_s1 ++ [.inl (10, [none, some none, some none, some none, some none, none, none, some none, some none, some none, some none, some none, some none, some none, some none, some none, some none, some none, some none, some none, none, none, some none, some none, none, none, none, some none, some none, some none, none, some none, some none, some none, none, some none, some none, some none])] : sm_S)
def ev_s2 : sm_S := ev_s1 ++ [.inl (10, [none, some (some 47), some (some 48), some (some 49), some (some 50), none, none, some (some 51), some (some 52), some (some 53), some (some 54), some (some 55), some (some 56), some (some 57), some (some 58), some (some 59), some (some 60), some (some 61), some (some 62), some (some 63), none, none, some (some 64), some (some 65), none, none, none, some (some 66), some (some 67), some (some 68), none, some (some 69), some (some 70), some (some 71), none, some (some 72), some (some 73), some (some 74)]),
  .inr (0, 32),
  .inr (0, 32),
  .inr (0, 32),
  .inr (0, 32),
  .inr (0, 5),
  .inr (0, 5),
  .inr (0, 32),
  .inr (0, 32),
  .inr (0, 32),
  .inr (0, 32),
  .inr (0, 32),
  .inr (0, 4),
  .inr (2, 36),
  .inr (2, 1008),
  .inr (2, 1008),
  .inr (2, 1008),
  .inr (2, 4),
  .inr (2, 4),
  .inr (0, 4),
  .inr (0, 28),
  .inr (0, 7),
  .inr (0, 4),
  .inr (0, 60),
  .inr (0, 4),
  .inr (0, 160),
  .inr (1, 25),
  .inr (0, 4),
  .inr (0, 4)]
def ev_P0 : dp_P := dp_z (fun _ _ => none, fun _ _ => none) 0
def ev_okS (o : Option dp_R) (v : Option Value) (s : sm_S) : Bool := match o with
  | some R => decide (R.1 = v) && decide (R.2.1 = s)
  | none => false
theorem ev_okS_ok {o : Option dp_R} {v : Option Value} {s : sm_S} (h : ev_okS o v s = true) : o = some (ev_get o) ∧ (ev_get o).1 = v ∧ (ev_get o).2.1 = s := by
  cases o with
  | none => cases h
  | some R =>
    have h : (decide (R.1 = v) && decide (R.2.1 = s)) = true := h
    rw [Bool.and_eq_true] at h
    exact ⟨rfl, of_decide_eq_true h.1, of_decide_eq_true h.2⟩
def ev_R1 : Option dp_R := tb_cf 4 0 [.ref 0] ev_s0 ev_P0
theorem ev_R1_ok : ev_okS ev_R1 none ev_s1 = true := by decide +kernel
def ev_P1 : dp_P := dp_z (ev_get ev_R1).2.2.1 46
def ev_R2 : Option dp_R := tb_cf 4 142 [.ref 46] ev_s1m ev_P1
theorem ev_R2_ok : ev_okS ev_R2 none ev_s2 = true := by decide +kernel
def ev_P2 : dp_P := (ev_get ev_R2).2.2.1
def ev_okW (o : Option dp_R) (v : Option Value) (s : sm_S) (b : Nat) : Bool := match o with
  | some R => decide (R.1 = v) && (decide (R.2.1 = s) && Nat.ble R.2.2.2.2 b)
  | none => false
theorem ev_okW_ok {o : Option dp_R} {v : Option Value} {s : sm_S} {b : Nat} (h : ev_okW o v s b = true) : o = some (ev_get o) ∧ (ev_get o).1 = v ∧ (ev_get o).2.1 = s ∧ (ev_get o).2.2.2.2 ≤ b := by
  cases o with
  | none => cases h
  | some R =>
    have h : (decide (R.1 = v) && (decide (R.2.1 = s) && Nat.ble R.2.2.2.2 b)) = true := h
    rw [Bool.and_eq_true, Bool.and_eq_true] at h
    exact ⟨rfl, of_decide_eq_true h.1, of_decide_eq_true h.2.1, Nat.le_of_ble_eq_true h.2.2⟩
/-- what is known of the reference's cells alone -/
def ev_Pm : dp_P := (fun q i => bif Nat.ble 46 q then ev_P2.1 q i else none, fun q i => bif Nat.ble 46 q then ev_P2.2 q i else none)
theorem ev_Pm_le {μ μ' : sm_M} {w : Nat × Nat} (h : dp_le ev_P2 μ) (ho : dp_ou w μ' μ) (hw : w.2 ≤ 46) : dp_le ev_Pm μ' := by
  refine ⟨fun q i v hv => ?_, fun q i v hv => ?_⟩
  · have hv : (bif Nat.ble 46 q then ev_P2.1 q i else none) = some v := hv
    cases hb : Nat.ble 46 q with
    | false => rw [hb] at hv; cases hv
    | true =>
      rw [hb] at hv
      have hq := Nat.le_of_ble_eq_true hb
      rw [(ho q (Or.inr (Nat.le_trans hw hq))).1]
      exact h.1 q i v hv
  · have hv : (bif Nat.ble 46 q then ev_P2.2 q i else none) = some v := hv
    cases hb : Nat.ble 46 q with
    | false => rw [hb] at hv; cases hv
    | true =>
      rw [hb] at hv
      have hq := Nat.le_of_ble_eq_true hb
      rw [(ho q (Or.inr (Nat.le_trans hw hq))).2]
      exact h.2 q i v hv
end
section
def ev_Rb : Option dp_R := tb_cf 6 25 [.ref 0] ev_s2 ev_P2
theorem ev_Rb_ok : ev_okW ev_Rb (some (.int 0)) ev_s2 46 = true := by decide +kernel
theorem ev_cb {Z : sm_Z} (hZ : Z.2.2.2 = tb_N) (ad : Nat → Nat) (μ : sm_M) (h : dp_le ev_P2 μ) : sm_C tb_cl Z (tb_ys 25) (tb_ws 25) (dp_rm 6 192 ev_s2 ev_s2) [.ref 0] ad ev_s2 μ (fun r sh' μ' => r = some (.int 0) ∧ sh' = ev_s2 ∧ dp_le ev_Pm μ') := by
  obtain ⟨h1, h2, h3, h4⟩ := ev_okW_ok ev_Rb_ok
  have h5 := (tb_cfok hZ tb_prs 6 _ _ _ _ _ h1).2.2 ad μ h
  rw [h3] at h5
  exact h5.imp (fun r sh' μ' q => ⟨q.1.trans h2, q.2.1.trans h3, ev_Pm_le h q.2.2.2 h4⟩)
end
section
/-- a run that knows of its arguments only the receiver -/
def ev_U (n j p na : Nat) (sh : sm_S) (P : dp_P) : Option dp_R := dp_o (dp_lk tb_rec j) fun e => dp_g (Nat.ble na e.2.2.1) (match dp_go e.1 e.2 (tb_cf n) 16 (0, some (.ref p) :: List.replicate (e.2.2.1 - 1) none, [], sh, P, dp_w0) with
  | some (.inr R) => some R
  | _ => none)
theorem sm_L0_0 {n p : Nat} {As : List Value} : (sm_L0 n (.ref p :: As))[0]? = some (some (.ref p)) := by
  unfold sm_L0
  simp [Value.category]
theorem ev_U_ok {Z : sm_Z} (hZ : Z.2.2.2 = tb_N) {n j p na : Nat} {sh : sm_S} {P : dp_P} {R : dp_R} (h : ev_U n j p na sh P = some R) (As : List Value) (hl : (lg_sl (.ref p :: As)).length ≤ na) : sh.length ≤ R.2.1.length ∧ sm_sl sh ≤ sm_sl R.2.1 ∧ ∀ (ad : Nat → Nat) (μ : sm_M), dp_le P μ → sm_C tb_cl Z (tb_ys j) (tb_ws j) (dp_rm (n + 1) (32 * n + 32) sh R.2.1) (.ref p :: As) ad sh μ (dp_Q μ R) := by
  unfold ev_U at h
  obtain ⟨⟨K, M⟩, he, h⟩ := dp_o_ok h
  obtain ⟨h0, h⟩ := dp_g_ok h
  have h0 := Nat.le_of_ble_eq_true h0
  have hl := Nat.le_trans hl h0
  simp only at h hl
  split at h
  · rename_i R' hR
    cases h
    obtain ⟨g1, g2, g3, g4, g5⟩ := tb_rec_ok _ (dp_lk_mem he)
    simp only at g1 g2 g3 g4 g5
    rw [g3]
    have g := dp_go_gr _ _ _ hR
    simp only [dp_shp] at g
    refine ⟨g.1, g.2, fun ad μ hle => sm_enter g4 hl (fun X hZX hX hf => ?_)⟩
    subst hZX
    rw [g5] at hX
    have h1 := (dp_go_ok hX g2 (hZ ▸ g1) (tb_cfok hZ tb_prs n) (Nat.le_refl _) (by simp only [dp_rm]; omega) 16 _ _ hR).2 (by simp only [dp_shp, dp_rm]; omega) (by simp only [dp_shp, dp_rm]; omega) ⟨g.1, g.2, hf⟩ ad μ hle dp_ou.rf (fun _ _ => rfl) (Nat.le_refl _)
    refine sm_E.less ?_ h1
    intro i v hi
    cases i with
    | zero =>
      have e : Value.ref p = v := by simpa using hi
      rw [← e]
      exact sm_L0_0
    | succ i =>
      exfalso
      have h2 : (List.replicate (M.2.1 - 1) (none : Option Value))[i]? = some (some v) := by simpa using hi
      have := List.eq_of_mem_replicate (List.mem_of_getElem? h2)
      cases this
  · cases h
def ev_u94 : Option dp_R := ev_U 3 94 0 3 ev_s2 ev_P2
theorem ev_u94_ok : ev_okW ev_u94 (some (.int (0))) ev_s2 46 = true := by decide +kernel
theorem ev_c94 {Z : sm_Z} (hZ : Z.2.2.2 = tb_N) (ad : Nat → Nat) (μ : sm_M) (h : dp_le ev_P2 μ) (a0 a1 : Int32) : sm_C tb_cl Z (tb_ys 94) (tb_ws 94) (dp_rm 4 128 ev_s2 ev_s2) [.ref 0, .int a0, .int a1] ad ev_s2 μ (fun r sh' μ' => r = (some (.int (0))) ∧ sh' = ev_s2 ∧ dp_le ev_Pm μ') := by
  obtain ⟨h1, h2, h3, h4⟩ := ev_okW_ok ev_u94_ok
  have h5 := (ev_U_ok hZ h1 [.int a0, .int a1] (Nat.le_of_ble_eq_true rfl)).2.2 ad μ h
  rw [h3] at h5
  exact h5.imp (fun r sh' μ' q => ⟨q.1.trans h2, q.2.1.trans h3, ev_Pm_le h q.2.2.2 h4⟩)
def ev_u96 : Option dp_R := ev_U 3 96 0 4 ev_s2 ev_P2
theorem ev_u96_ok : ev_okW ev_u96 (some (.int (0))) ev_s2 46 = true := by decide +kernel
theorem ev_c96 {Z : sm_Z} (hZ : Z.2.2.2 = tb_N) (ad : Nat → Nat) (μ : sm_M) (h : dp_le ev_P2 μ) (a0 a1 a2 : Int32) : sm_C tb_cl Z (tb_ys 96) (tb_ws 96) (dp_rm 4 128 ev_s2 ev_s2) [.ref 0, .int a0, .int a1, .int a2] ad ev_s2 μ (fun r sh' μ' => r = (some (.int (0))) ∧ sh' = ev_s2 ∧ dp_le ev_Pm μ') := by
  obtain ⟨h1, h2, h3, h4⟩ := ev_okW_ok ev_u96_ok
  have h5 := (ev_U_ok hZ h1 [.int a0, .int a1, .int a2] (Nat.le_of_ble_eq_true rfl)).2.2 ad μ h
  rw [h3] at h5
  exact h5.imp (fun r sh' μ' q => ⟨q.1.trans h2, q.2.1.trans h3, ev_Pm_le h q.2.2.2 h4⟩)
def ev_u97 : Option dp_R := ev_U 3 97 0 3 ev_s2 ev_P2
theorem ev_u97_ok : ev_okW ev_u97 (some (.int (-1))) ev_s2 46 = true := by decide +kernel
theorem ev_c97 {Z : sm_Z} (hZ : Z.2.2.2 = tb_N) (ad : Nat → Nat) (μ : sm_M) (h : dp_le ev_P2 μ) (a0 a1 : Int32) : sm_C tb_cl Z (tb_ys 97) (tb_ws 97) (dp_rm 4 128 ev_s2 ev_s2) [.ref 0, .int a0, .int a1] ad ev_s2 μ (fun r sh' μ' => r = (some (.int (-1))) ∧ sh' = ev_s2 ∧ dp_le ev_Pm μ') := by
  obtain ⟨h1, h2, h3, h4⟩ := ev_okW_ok ev_u97_ok
  have h5 := (ev_U_ok hZ h1 [.int a0, .int a1] (Nat.le_of_ble_eq_true rfl)).2.2 ad μ h
  rw [h3] at h5
  exact h5.imp (fun r sh' μ' q => ⟨q.1.trans h2, q.2.1.trans h3, ev_Pm_le h q.2.2.2 h4⟩)
def ev_u101 : Option dp_R := ev_U 3 101 0 1 ev_s2 ev_P2
theorem ev_u101_ok : ev_okW ev_u101 (some (.int (-1))) ev_s2 46 = true := by decide +kernel
theorem ev_c101 {Z : sm_Z} (hZ : Z.2.2.2 = tb_N) (ad : Nat → Nat) (μ : sm_M) (h : dp_le ev_P2 μ) : sm_C tb_cl Z (tb_ys 101) (tb_ws 101) (dp_rm 4 128 ev_s2 ev_s2) [.ref 0] ad ev_s2 μ (fun r sh' μ' => r = (some (.int (-1))) ∧ sh' = ev_s2 ∧ dp_le ev_Pm μ') := by
  obtain ⟨h1, h2, h3, h4⟩ := ev_okW_ok ev_u101_ok
  have h5 := (ev_U_ok hZ h1 [] (Nat.le_of_ble_eq_true rfl)).2.2 ad μ h
  rw [h3] at h5
  exact h5.imp (fun r sh' μ' q => ⟨q.1.trans h2, q.2.1.trans h3, ev_Pm_le h q.2.2.2 h4⟩)
def ev_u106 : Option dp_R := ev_U 3 106 0 2 ev_s2 ev_P2
theorem ev_u106_ok : ev_okW ev_u106 (some (.int (0))) ev_s2 46 = true := by decide +kernel
theorem ev_c106 {Z : sm_Z} (hZ : Z.2.2.2 = tb_N) (ad : Nat → Nat) (μ : sm_M) (h : dp_le ev_P2 μ) (a0 : Int32) : sm_C tb_cl Z (tb_ys 106) (tb_ws 106) (dp_rm 4 128 ev_s2 ev_s2) [.ref 0, .int a0] ad ev_s2 μ (fun r sh' μ' => r = (some (.int (0))) ∧ sh' = ev_s2 ∧ dp_le ev_Pm μ') := by
  obtain ⟨h1, h2, h3, h4⟩ := ev_okW_ok ev_u106_ok
  have h5 := (ev_U_ok hZ h1 [.int a0] (Nat.le_of_ble_eq_true rfl)).2.2 ad μ h
  rw [h3] at h5
  exact h5.imp (fun r sh' μ' q => ⟨q.1.trans h2, q.2.1.trans h3, ev_Pm_le h q.2.2.2 h4⟩)
def ev_u111 : Option dp_R := ev_U 3 111 0 3 ev_s2 ev_P2
theorem ev_u111_ok : ev_okW ev_u111 (some (.int (-1))) ev_s2 46 = true := by decide +kernel
theorem ev_c111 {Z : sm_Z} (hZ : Z.2.2.2 = tb_N) (ad : Nat → Nat) (μ : sm_M) (h : dp_le ev_P2 μ) (a0 a1 : Int32) : sm_C tb_cl Z (tb_ys 111) (tb_ws 111) (dp_rm 4 128 ev_s2 ev_s2) [.ref 0, .int a0, .int a1] ad ev_s2 μ (fun r sh' μ' => r = (some (.int (-1))) ∧ sh' = ev_s2 ∧ dp_le ev_Pm μ') := by
  obtain ⟨h1, h2, h3, h4⟩ := ev_okW_ok ev_u111_ok
  have h5 := (ev_U_ok hZ h1 [.int a0, .int a1] (Nat.le_of_ble_eq_true rfl)).2.2 ad μ h
  rw [h3] at h5
  exact h5.imp (fun r sh' μ' q => ⟨q.1.trans h2, q.2.1.trans h3, ev_Pm_le h q.2.2.2 h4⟩)
def ev_u128 : Option dp_R := ev_U 3 128 0 1 ev_s2 ev_P2
theorem ev_u128_ok : ev_okW ev_u128 (some (.int (-1))) ev_s2 46 = true := by decide +kernel
theorem ev_c128 {Z : sm_Z} (hZ : Z.2.2.2 = tb_N) (ad : Nat → Nat) (μ : sm_M) (h : dp_le ev_P2 μ) : sm_C tb_cl Z (tb_ys 128) (tb_ws 128) (dp_rm 4 128 ev_s2 ev_s2) [.ref 0] ad ev_s2 μ (fun r sh' μ' => r = (some (.int (-1))) ∧ sh' = ev_s2 ∧ dp_le ev_Pm μ') := by
  obtain ⟨h1, h2, h3, h4⟩ := ev_okW_ok ev_u128_ok
  have h5 := (ev_U_ok hZ h1 [] (Nat.le_of_ble_eq_true rfl)).2.2 ad μ h
  rw [h3] at h5
  exact h5.imp (fun r sh' μ' q => ⟨q.1.trans h2, q.2.1.trans h3, ev_Pm_le h q.2.2.2 h4⟩)
def ev_u130 : Option dp_R := ev_U 3 130 0 2 ev_s2 ev_P2
theorem ev_u130_ok : ev_okW ev_u130 (some (.int (0))) ev_s2 46 = true := by decide +kernel
theorem ev_c130 {Z : sm_Z} (hZ : Z.2.2.2 = tb_N) (ad : Nat → Nat) (μ : sm_M) (h : dp_le ev_P2 μ) (a0 : Int32) : sm_C tb_cl Z (tb_ys 130) (tb_ws 130) (dp_rm 4 128 ev_s2 ev_s2) [.ref 0, .int a0] ad ev_s2 μ (fun r sh' μ' => r = (some (.int (0))) ∧ sh' = ev_s2 ∧ dp_le ev_Pm μ') := by
  obtain ⟨h1, h2, h3, h4⟩ := ev_okW_ok ev_u130_ok
  have h5 := (ev_U_ok hZ h1 [.int a0] (Nat.le_of_ble_eq_true rfl)).2.2 ad μ h
  rw [h3] at h5
  exact h5.imp (fun r sh' μ' q => ⟨q.1.trans h2, q.2.1.trans h3, ev_Pm_le h q.2.2.2 h4⟩)
def ev_u134 : Option dp_R := ev_U 3 134 0 1 ev_s2 ev_P2
theorem ev_u134_ok : ev_okW ev_u134 (some (.int (-1))) ev_s2 46 = true := by decide +kernel
theorem ev_c134 {Z : sm_Z} (hZ : Z.2.2.2 = tb_N) (ad : Nat → Nat) (μ : sm_M) (h : dp_le ev_P2 μ) : sm_C tb_cl Z (tb_ys 134) (tb_ws 134) (dp_rm 4 128 ev_s2 ev_s2) [.ref 0] ad ev_s2 μ (fun r sh' μ' => r = (some (.int (-1))) ∧ sh' = ev_s2 ∧ dp_le ev_Pm μ') := by
  obtain ⟨h1, h2, h3, h4⟩ := ev_okW_ok ev_u134_ok
  have h5 := (ev_U_ok hZ h1 [] (Nat.le_of_ble_eq_true rfl)).2.2 ad μ h
  rw [h3] at h5
  exact h5.imp (fun r sh' μ' q => ⟨q.1.trans h2, q.2.1.trans h3, ev_Pm_le h q.2.2.2 h4⟩)
def ev_u140 : Option dp_R := ev_U 3 140 0 2 ev_s2 ev_P2
theorem ev_u140_ok : ev_okW ev_u140 (some (.int (-1))) ev_s2 46 = true := by decide +kernel
theorem ev_c140 {Z : sm_Z} (hZ : Z.2.2.2 = tb_N) (ad : Nat → Nat) (μ : sm_M) (h : dp_le ev_P2 μ) (a0 : Int32) : sm_C tb_cl Z (tb_ys 140) (tb_ws 140) (dp_rm 4 128 ev_s2 ev_s2) [.ref 0, .int a0] ad ev_s2 μ (fun r sh' μ' => r = (some (.int (-1))) ∧ sh' = ev_s2 ∧ dp_le ev_Pm μ') := by
  obtain ⟨h1, h2, h3, h4⟩ := ev_okW_ok ev_u140_ok
  have h5 := (ev_U_ok hZ h1 [.int a0] (Nat.le_of_ble_eq_true rfl)).2.2 ad μ h
  rw [h3] at h5
  exact h5.imp (fun r sh' μ' q => ⟨q.1.trans h2, q.2.1.trans h3, ev_Pm_le h q.2.2.2 h4⟩)
def ev_u88 : Option dp_R := ev_U 3 88 0 1 ev_s2 ev_P2
theorem ev_u88_ok : ev_okW ev_u88 (some (.int (0))) ev_s2 46 = true := by decide +kernel
theorem ev_c88 {Z : sm_Z} (hZ : Z.2.2.2 = tb_N) (ad : Nat → Nat) (μ : sm_M) (h : dp_le ev_P2 μ) : sm_C tb_cl Z (tb_ys 88) (tb_ws 88) (dp_rm 4 128 ev_s2 ev_s2) [.ref 0] ad ev_s2 μ (fun r sh' μ' => r = (some (.int (0))) ∧ sh' = ev_s2 ∧ dp_le ev_Pm μ') := by
  obtain ⟨h1, h2, h3, h4⟩ := ev_okW_ok ev_u88_ok
  have h5 := (ev_U_ok hZ h1 [] (Nat.le_of_ble_eq_true rfl)).2.2 ad μ h
  rw [h3] at h5
  exact h5.imp (fun r sh' μ' q => ⟨q.1.trans h2, q.2.1.trans h3, ev_Pm_le h q.2.2.2 h4⟩)
def ev_u19 : Option dp_R := ev_U 3 19 0 1 ev_s2 ev_P2
theorem ev_u19_ok : ev_okW ev_u19 none ev_s2 46 = true := by decide +kernel
theorem ev_c19 {Z : sm_Z} (hZ : Z.2.2.2 = tb_N) (ad : Nat → Nat) (μ : sm_M) (h : dp_le ev_P2 μ) : sm_C tb_cl Z (tb_ys 19) (tb_ws 19) (dp_rm 4 128 ev_s2 ev_s2) [.ref 0] ad ev_s2 μ (fun r sh' μ' => r = none ∧ sh' = ev_s2 ∧ dp_le ev_Pm μ') := by
  obtain ⟨h1, h2, h3, h4⟩ := ev_okW_ok ev_u19_ok
  have h5 := (ev_U_ok hZ h1 [] (Nat.le_of_ble_eq_true rfl)).2.2 ad μ h
  rw [h3] at h5
  exact h5.imp (fun r sh' μ' q => ⟨q.1.trans h2, q.2.1.trans h3, ev_Pm_le h q.2.2.2 h4⟩)
def ev_u175 : Option dp_R := ev_U 3 175 46 3 ev_s2 ev_Pm
theorem ev_u175_ok : ev_okW ev_u175 (some (.int (0))) ev_s2 1000 = true := by decide +kernel
theorem ev_c175 {Z : sm_Z} (hZ : Z.2.2.2 = tb_N) (ad : Nat → Nat) (μ : sm_M) (h : dp_le ev_Pm μ) (a0 a1 : Int32) : sm_C tb_cl Z (tb_ys 175) (tb_ws 175) (dp_rm 4 128 ev_s2 ev_s2) [.ref 46, .int a0, .int a1] ad ev_s2 μ (fun r sh' μ' => r = (some (.int (0))) ∧ sh' = ev_s2) := by
  obtain ⟨h1, h2, h3, h4⟩ := ev_okW_ok ev_u175_ok
  have h5 := (ev_U_ok hZ h1 [.int a0, .int a1] (Nat.le_of_ble_eq_true rfl)).2.2 ad μ h
  rw [h3] at h5
  exact h5.imp (fun r sh' μ' q => ⟨q.1.trans h2, q.2.1.trans h3⟩)
def ev_u176 : Option dp_R := ev_U 3 176 46 4 ev_s2 ev_Pm
theorem ev_u176_ok : ev_okW ev_u176 (some (.int (0))) ev_s2 1000 = true := by decide +kernel
theorem ev_c176 {Z : sm_Z} (hZ : Z.2.2.2 = tb_N) (ad : Nat → Nat) (μ : sm_M) (h : dp_le ev_Pm μ) (a0 a1 a2 : Int32) : sm_C tb_cl Z (tb_ys 176) (tb_ws 176) (dp_rm 4 128 ev_s2 ev_s2) [.ref 46, .int a0, .int a1, .int a2] ad ev_s2 μ (fun r sh' μ' => r = (some (.int (0))) ∧ sh' = ev_s2) := by
  obtain ⟨h1, h2, h3, h4⟩ := ev_okW_ok ev_u176_ok
  have h5 := (ev_U_ok hZ h1 [.int a0, .int a1, .int a2] (Nat.le_of_ble_eq_true rfl)).2.2 ad μ h
  rw [h3] at h5
  exact h5.imp (fun r sh' μ' q => ⟨q.1.trans h2, q.2.1.trans h3⟩)
def ev_u177 : Option dp_R := ev_U 3 177 46 3 ev_s2 ev_Pm
theorem ev_u177_ok : ev_okW ev_u177 (some (.int (-1))) ev_s2 1000 = true := by decide +kernel
theorem ev_c177 {Z : sm_Z} (hZ : Z.2.2.2 = tb_N) (ad : Nat → Nat) (μ : sm_M) (h : dp_le ev_Pm μ) (a0 a1 : Int32) : sm_C tb_cl Z (tb_ys 177) (tb_ws 177) (dp_rm 4 128 ev_s2 ev_s2) [.ref 46, .int a0, .int a1] ad ev_s2 μ (fun r sh' μ' => r = (some (.int (-1))) ∧ sh' = ev_s2) := by
  obtain ⟨h1, h2, h3, h4⟩ := ev_okW_ok ev_u177_ok
  have h5 := (ev_U_ok hZ h1 [.int a0, .int a1] (Nat.le_of_ble_eq_true rfl)).2.2 ad μ h
  rw [h3] at h5
  exact h5.imp (fun r sh' μ' q => ⟨q.1.trans h2, q.2.1.trans h3⟩)
def ev_u180 : Option dp_R := ev_U 3 180 46 1 ev_s2 ev_Pm
theorem ev_u180_ok : ev_okW ev_u180 (some (.int (-1))) ev_s2 1000 = true := by decide +kernel
theorem ev_c180 {Z : sm_Z} (hZ : Z.2.2.2 = tb_N) (ad : Nat → Nat) (μ : sm_M) (h : dp_le ev_Pm μ) : sm_C tb_cl Z (tb_ys 180) (tb_ws 180) (dp_rm 4 128 ev_s2 ev_s2) [.ref 46] ad ev_s2 μ (fun r sh' μ' => r = (some (.int (-1))) ∧ sh' = ev_s2) := by
  obtain ⟨h1, h2, h3, h4⟩ := ev_okW_ok ev_u180_ok
  have h5 := (ev_U_ok hZ h1 [] (Nat.le_of_ble_eq_true rfl)).2.2 ad μ h
  rw [h3] at h5
  exact h5.imp (fun r sh' μ' q => ⟨q.1.trans h2, q.2.1.trans h3⟩)
def ev_u182 : Option dp_R := ev_U 3 182 46 2 ev_s2 ev_Pm
theorem ev_u182_ok : ev_okW ev_u182 (some (.int (0))) ev_s2 1000 = true := by decide +kernel
theorem ev_c182 {Z : sm_Z} (hZ : Z.2.2.2 = tb_N) (ad : Nat → Nat) (μ : sm_M) (h : dp_le ev_Pm μ) (a0 : Int32) : sm_C tb_cl Z (tb_ys 182) (tb_ws 182) (dp_rm 4 128 ev_s2 ev_s2) [.ref 46, .int a0] ad ev_s2 μ (fun r sh' μ' => r = (some (.int (0))) ∧ sh' = ev_s2) := by
  obtain ⟨h1, h2, h3, h4⟩ := ev_okW_ok ev_u182_ok
  have h5 := (ev_U_ok hZ h1 [.int a0] (Nat.le_of_ble_eq_true rfl)).2.2 ad μ h
  rw [h3] at h5
  exact h5.imp (fun r sh' μ' q => ⟨q.1.trans h2, q.2.1.trans h3⟩)
def ev_u184 : Option dp_R := ev_U 3 184 46 3 ev_s2 ev_Pm
theorem ev_u184_ok : ev_okW ev_u184 (some (.int (-1))) ev_s2 1000 = true := by decide +kernel
theorem ev_c184 {Z : sm_Z} (hZ : Z.2.2.2 = tb_N) (ad : Nat → Nat) (μ : sm_M) (h : dp_le ev_Pm μ) (a0 a1 : Int32) : sm_C tb_cl Z (tb_ys 184) (tb_ws 184) (dp_rm 4 128 ev_s2 ev_s2) [.ref 46, .int a0, .int a1] ad ev_s2 μ (fun r sh' μ' => r = (some (.int (-1))) ∧ sh' = ev_s2) := by
  obtain ⟨h1, h2, h3, h4⟩ := ev_okW_ok ev_u184_ok
  have h5 := (ev_U_ok hZ h1 [.int a0, .int a1] (Nat.le_of_ble_eq_true rfl)).2.2 ad μ h
  rw [h3] at h5
  exact h5.imp (fun r sh' μ' q => ⟨q.1.trans h2, q.2.1.trans h3⟩)
def ev_u192 : Option dp_R := ev_U 3 192 46 1 ev_s2 ev_Pm
theorem ev_u192_ok : ev_okW ev_u192 (some (.int (-1))) ev_s2 1000 = true := by decide +kernel
theorem ev_c192 {Z : sm_Z} (hZ : Z.2.2.2 = tb_N) (ad : Nat → Nat) (μ : sm_M) (h : dp_le ev_Pm μ) : sm_C tb_cl Z (tb_ys 192) (tb_ws 192) (dp_rm 4 128 ev_s2 ev_s2) [.ref 46] ad ev_s2 μ (fun r sh' μ' => r = (some (.int (-1))) ∧ sh' = ev_s2) := by
  obtain ⟨h1, h2, h3, h4⟩ := ev_okW_ok ev_u192_ok
  have h5 := (ev_U_ok hZ h1 [] (Nat.le_of_ble_eq_true rfl)).2.2 ad μ h
  rw [h3] at h5
  exact h5.imp (fun r sh' μ' q => ⟨q.1.trans h2, q.2.1.trans h3⟩)
def ev_u193 : Option dp_R := ev_U 3 193 46 2 ev_s2 ev_Pm
theorem ev_u193_ok : ev_okW ev_u193 (some (.int (0))) ev_s2 1000 = true := by decide +kernel
theorem ev_c193 {Z : sm_Z} (hZ : Z.2.2.2 = tb_N) (ad : Nat → Nat) (μ : sm_M) (h : dp_le ev_Pm μ) (a0 : Int32) : sm_C tb_cl Z (tb_ys 193) (tb_ws 193) (dp_rm 4 128 ev_s2 ev_s2) [.ref 46, .int a0] ad ev_s2 μ (fun r sh' μ' => r = (some (.int (0))) ∧ sh' = ev_s2) := by
  obtain ⟨h1, h2, h3, h4⟩ := ev_okW_ok ev_u193_ok
  have h5 := (ev_U_ok hZ h1 [.int a0] (Nat.le_of_ble_eq_true rfl)).2.2 ad μ h
  rw [h3] at h5
  exact h5.imp (fun r sh' μ' q => ⟨q.1.trans h2, q.2.1.trans h3⟩)
def ev_u203 : Option dp_R := ev_U 3 203 46 1 ev_s2 ev_Pm
theorem ev_u203_ok : ev_okW ev_u203 (some (.int (-1))) ev_s2 1000 = true := by decide +kernel
theorem ev_c203 {Z : sm_Z} (hZ : Z.2.2.2 = tb_N) (ad : Nat → Nat) (μ : sm_M) (h : dp_le ev_Pm μ) : sm_C tb_cl Z (tb_ys 203) (tb_ws 203) (dp_rm 4 128 ev_s2 ev_s2) [.ref 46] ad ev_s2 μ (fun r sh' μ' => r = (some (.int (-1))) ∧ sh' = ev_s2) := by
  obtain ⟨h1, h2, h3, h4⟩ := ev_okW_ok ev_u203_ok
  have h5 := (ev_U_ok hZ h1 [] (Nat.le_of_ble_eq_true rfl)).2.2 ad μ h
  rw [h3] at h5
  exact h5.imp (fun r sh' μ' q => ⟨q.1.trans h2, q.2.1.trans h3⟩)
def ev_u205 : Option dp_R := ev_U 3 205 46 2 ev_s2 ev_Pm
theorem ev_u205_ok : ev_okW ev_u205 (some (.int (-1))) ev_s2 1000 = true := by decide +kernel
theorem ev_c205 {Z : sm_Z} (hZ : Z.2.2.2 = tb_N) (ad : Nat → Nat) (μ : sm_M) (h : dp_le ev_Pm μ) (a0 : Int32) : sm_C tb_cl Z (tb_ys 205) (tb_ws 205) (dp_rm 4 128 ev_s2 ev_s2) [.ref 46, .int a0] ad ev_s2 μ (fun r sh' μ' => r = (some (.int (-1))) ∧ sh' = ev_s2) := by
  obtain ⟨h1, h2, h3, h4⟩ := ev_okW_ok ev_u205_ok
  have h5 := (ev_U_ok hZ h1 [.int a0] (Nat.le_of_ble_eq_true rfl)).2.2 ad μ h
  rw [h3] at h5
  exact h5.imp (fun r sh' μ' q => ⟨q.1.trans h2, q.2.1.trans h3⟩)
def ev_u199 : Option dp_R := ev_U 3 199 46 1 ev_s2 ev_Pm
theorem ev_u199_ok : ev_okW ev_u199 (some (.int (0))) ev_s2 1000 = true := by decide +kernel
theorem ev_c199 {Z : sm_Z} (hZ : Z.2.2.2 = tb_N) (ad : Nat → Nat) (μ : sm_M) (h : dp_le ev_Pm μ) : sm_C tb_cl Z (tb_ys 199) (tb_ws 199) (dp_rm 4 128 ev_s2 ev_s2) [.ref 46] ad ev_s2 μ (fun r sh' μ' => r = (some (.int (0))) ∧ sh' = ev_s2) := by
  obtain ⟨h1, h2, h3, h4⟩ := ev_okW_ok ev_u199_ok
  have h5 := (ev_U_ok hZ h1 [] (Nat.le_of_ble_eq_true rfl)).2.2 ad μ h
  rw [h3] at h5
  exact h5.imp (fun r sh' μ' q => ⟨q.1.trans h2, q.2.1.trans h3⟩)
def ev_u145 : Option dp_R := ev_U 3 145 46 1 ev_s2 ev_Pm
theorem ev_u145_ok : ev_okW ev_u145 none ev_s2 1000 = true := by decide +kernel
theorem ev_c145 {Z : sm_Z} (hZ : Z.2.2.2 = tb_N) (ad : Nat → Nat) (μ : sm_M) (h : dp_le ev_Pm μ) : sm_C tb_cl Z (tb_ys 145) (tb_ws 145) (dp_rm 4 128 ev_s2 ev_s2) [.ref 46] ad ev_s2 μ (fun r sh' μ' => r = none ∧ sh' = ev_s2) := by
  obtain ⟨h1, h2, h3, h4⟩ := ev_okW_ok ev_u145_ok
  have h5 := (ev_U_ok hZ h1 [] (Nat.le_of_ble_eq_true rfl)).2.2 ad μ h
  rw [h3] at h5
  exact h5.imp (fun r sh' μ' q => ⟨q.1.trans h2, q.2.1.trans h3⟩)
def ev_u194 : Option dp_R := ev_U 3 194 46 3 ev_s2 ev_Pm
theorem ev_u194_ok : ev_okW ev_u194 (some (.int (0))) ev_s2 1000 = true := by decide +kernel
theorem ev_c194 {Z : sm_Z} (hZ : Z.2.2.2 = tb_N) (ad : Nat → Nat) (μ : sm_M) (h : dp_le ev_Pm μ) (a0 a1 : Int32) : sm_C tb_cl Z (tb_ys 194) (tb_ws 194) (dp_rm 4 128 ev_s2 ev_s2) [.ref 46, .int a0, .int a1] ad ev_s2 μ (fun r sh' μ' => r = (some (.int (0))) ∧ sh' = ev_s2) := by
  obtain ⟨h1, h2, h3, h4⟩ := ev_okW_ok ev_u194_ok
  have h5 := (ev_U_ok hZ h1 [.int a0, .int a1] (Nat.le_of_ble_eq_true rfl)).2.2 ad μ h
  rw [h3] at h5
  exact h5.imp (fun r sh' μ' q => ⟨q.1.trans h2, q.2.1.trans h3⟩)
end
section
/-! a computed stretch inside a walk: until the run stands at a place -/
def dp_sts (stop : Nat) (K : dp_K) (M : dp_M) (cf : dp_F) (s : dp_T) : Option (dp_T ⊕ dp_R) := bif Nat.beq s.1 stop then some (.inl s) else dp_st K M cf s
def dp_til (stop : Nat) (K : dp_K) (M : dp_M) (cf : dp_F) : Nat → dp_T → Option (dp_T ⊕ dp_R)
  | 0, s => dp_sts stop K M cf s
  | k + 1, s => match dp_til stop K M cf k s with
    | some (.inl s') => bif Nat.beq s'.1 stop then some (.inl s') else dp_til stop K M cf k s'
    | some (.inr R) => some (.inr R)
    | none => none
theorem dp_sts_ok {stop : Nat} {cl : List vw_C} {X : sm_X} {cc : ByteArray} {own : String} {Ts : List Cond} {rm : Room} {N S : Nat} {M : dp_M} (hX : sm_ok cl X cc M.2.1 own Ts M.2.2.1 rm N S M.2.2.2) (hM : ∀ e ∈ M.1, decode cc e.1 = .ok e.2) {K : dp_K} {ys : Nat → MethodName} {wss : Nat → List Cond} {cf : dp_F} {fr lo : Nat} (hK : dp_Kok cl X.1.2.2.2 own Ts ys wss K) (hcf : dp_cfok cl X.1 ys wss fr lo cf) (hfr : fr + 1 ≤ rm.frames) (hlo : 32 + lo ≤ rm.locals) {ad0 : Nat → Nat} {sh0 : sm_S} {μ0 : sm_M} {s : dp_T} {o : dp_T ⊕ dp_R} (h : dp_sts stop K M cf s = some o) : (s.2.2.2.1.length ≤ (dp_shp o).length ∧ sm_sl s.2.2.2.1 ≤ sm_sl (dp_shp o)) ∧ ((dp_shp o).length ≤ N → sm_sl (dp_shp o) ≤ S → dp_End cl X ad0 sh0 μ0 o → dp_J cl X ad0 sh0 μ0 s) := by
  unfold dp_sts at h
  cases hb : Nat.beq s.1 stop with
  | true =>
    rw [hb] at h
    cases h
    exact ⟨⟨Nat.le_refl _, Nat.le_refl _⟩, fun _ _ z => z⟩
  | false =>
    rw [hb] at h
    exact dp_st_ok hX hM hK hcf hfr hlo h
theorem dp_til_ok {stop : Nat} {cl : List vw_C} {X : sm_X} {cc : ByteArray} {own : String} {Ts : List Cond} {rm : Room} {N S : Nat} {M : dp_M} (hX : sm_ok cl X cc M.2.1 own Ts M.2.2.1 rm N S M.2.2.2) (hM : ∀ e ∈ M.1, decode cc e.1 = .ok e.2) {K : dp_K} {ys : Nat → MethodName} {wss : Nat → List Cond} {cf : dp_F} {fr lo : Nat} (hK : dp_Kok cl X.1.2.2.2 own Ts ys wss K) (hcf : dp_cfok cl X.1 ys wss fr lo cf) (hfr : fr + 1 ≤ rm.frames) (hlo : 32 + lo ≤ rm.locals) {ad0 : Nat → Nat} {sh0 : sm_S} {μ0 : sm_M} : ∀ (k : Nat) (s : dp_T) (o : dp_T ⊕ dp_R), dp_til stop K M cf k s = some o → (s.2.2.2.1.length ≤ (dp_shp o).length ∧ sm_sl s.2.2.2.1 ≤ sm_sl (dp_shp o)) ∧ ((dp_shp o).length ≤ N → sm_sl (dp_shp o) ≤ S → dp_End cl X ad0 sh0 μ0 o → dp_J cl X ad0 sh0 μ0 s)
  | 0, s, o, h => dp_sts_ok hX hM hK hcf hfr hlo h
  | k + 1, s, o, h => by
    unfold dp_til at h
    split at h
    · rename_i s' hs
      cases hb : Nat.beq s'.1 stop with
      | true =>
        rw [hb] at h
        cases h
        exact dp_til_ok hX hM hK hcf hfr hlo k s _ hs
      | false =>
        rw [hb] at h
        obtain ⟨⟨a1, a2⟩, a3⟩ := dp_til_ok hX hM hK hcf hfr hlo k s _ hs
        obtain ⟨⟨b1, b2⟩, b3⟩ := dp_til_ok hX hM hK hcf hfr hlo k s' o h
        simp only [dp_shp] at a1 a2 a3
        exact ⟨⟨Nat.le_trans a1 b1, Nat.le_trans a2 b2⟩, fun z1 z2 z3 => a3 (Nat.le_trans b1 z1) (Nat.le_trans b2 z2) (b3 z1 z2 z3)⟩
    · rename_i R hs
      cases h
      exact dp_til_ok hX hM hK hcf hfr hlo k s _ hs
    · cases h
/-- of method j, at level n + 1, from s until 'stop' -/
def ev_T (n j stop : Nat) (q : Nat × Option FieldType × Bool) (s : dp_T) : Option (dp_T ⊕ dp_R) := dp_o (dp_lk tb_rec j) fun e => dp_g (decide (e.2.2 = q)) (dp_til stop e.1 e.2 (tb_cf n) 16 s)
def ev_getT (o : Option (dp_T ⊕ dp_R)) : dp_P × dp_w := match o with
  | some (.inl s) => s.2.2.2.2
  | _ => ((fun _ _ => none, fun _ _ => none), dp_w0)
def ev_okT (o : Option (dp_T ⊕ dp_R)) (pc : Nat) (L : List (Option Value)) (st : List Value) (sh : sm_S) : Bool := match o with
  | some (.inl s) => Nat.beq s.1 pc && (decide (s.2.1 = L) && (decide (s.2.2.1 = st) && decide (s.2.2.2.1 = sh)))
  | _ => false
theorem ev_okT_ok {o : Option (dp_T ⊕ dp_R)} {pc : Nat} {L : List (Option Value)} {st : List Value} {sh : sm_S} (h : ev_okT o pc L st sh = true) : o = some (.inl (pc, L, st, sh, (ev_getT o).1, (ev_getT o).2)) := by
  unfold ev_okT at h
  split at h
  · rename_i s
    obtain ⟨a, b, c, d, e, f⟩ := s
    rw [Bool.and_eq_true, Bool.and_eq_true, Bool.and_eq_true] at h
    obtain ⟨h1, h2, h3, h4⟩ := h
    have e1 := dp_beq h1
    have e2 := of_decide_eq_true h2
    have e3 := of_decide_eq_true h3
    have e4 := of_decide_eq_true h4
    simp only at e1 e2 e3 e4
    subst e1 e2 e3 e4
    rfl
  · cases h
/-- a stretch that makes no cell -/
theorem ev_T_E {Z : sm_Z} (hZ : Z.2.2.2 = tb_N) {X : sm_X} (hXZ : X.1 = Z) {n j stop : Nat} {cc : ByteArray} {nL : Nat} {own : String} {ret : Option FieldType} {rm : Room} {N S : Nat} {ini : Bool} (hX : sm_ok tb_cl X cc nL own tb_W ret rm N S ini) (hj : (tb_m j).2.1 = cc ∧ (tb_ys j).cls = own) (hfr : n + 1 ≤ rm.frames) (hlo : 32 + 32 * n ≤ rm.locals) {pc : Nat} {L L' : List (Option Value)} {st st' : List Value} {sh : sm_S} {P : dp_P} (hN : sh.length ≤ N) (hS : sm_sl sh ≤ S) (h : ev_okT (ev_T n j stop (nL, ret, ini) (pc, L, st, sh, P, dp_w0)) stop L' st' sh = true) {ad : Nat → Nat} {μ : sm_M} (hle : dp_le P μ) (k : ∀ μ' : sm_M, dp_le (ev_getT (ev_T n j stop (nL, ret, ini) (pc, L, st, sh, P, dp_w0))).1 μ' → dp_ou (ev_getT (ev_T n j stop (nL, ret, ini) (pc, L, st, sh, P, dp_w0))).2 μ' μ → sm_E tb_cl X stop L' st' ad sh μ') : sm_E tb_cl X pc L st ad sh μ := by
  have h1 := ev_okT_ok h
  obtain ⟨⟨K, M⟩, he, h1'⟩ := dp_o_ok h1
  obtain ⟨hjm, h2⟩ := dp_g_ok h1'
  have hjm := of_decide_eq_true hjm
  obtain ⟨g1, g2, g3, g4, g5⟩ := tb_rec_ok _ (dp_lk_mem he)
  simp only at g1 g2 g3 g4 g5 h2 hjm
  obtain ⟨hj1, hj2⟩ := hj
  subst hXZ hj1 hj2
  obtain ⟨tb, a, b, c⟩ := M
  simp only at hjm
  cases hjm
  have h3 := (dp_til_ok (ad0 := ad) (sh0 := sh) (μ0 := μ) hX g2 (hZ ▸ g1) (tb_cfok hZ tb_prs n) hfr hlo 16 _ _ h2).2 hN hS
  refine h3 ?_ ad μ hle dp_ou.rf (fun _ _ => rfl) (Nat.le_refl _)
  intro ad' μ' a1 a2 a3 a4
  have e : ad' = ad := sm_ag_eq a3
  subst e
  exact k μ' a1 a2
end
section
theorem td_146_0 : decode prog_12_method_7_code 0 = .ok ((.aload_n 0), 1) := tb_b146_ok (0, (.aload_n 0), 1) (List.mem_of_getElem? (i := 0) rfl)
theorem td_146_1 : decode prog_12_method_7_code 1 = .ok ((.getfield 100), 3) := tb_b146_ok (1, (.getfield 100), 3) (List.mem_of_getElem? (i := 1) rfl)
theorem td_146_4 : decode prog_12_method_7_code 4 = .ok ((.ifCond .eq (6)), 3) := tb_b146_ok (4, (.ifCond .eq (6)), 3) (List.mem_of_getElem? (i := 2) rfl)
theorem td_146_7 : decode prog_12_method_7_code 7 = .ok ((.bipush (-2)), 2) := tb_b146_ok (7, (.bipush (-2)), 2) (List.mem_of_getElem? (i := 3) rfl)
theorem td_146_9 : decode prog_12_method_7_code 9 = .ok (.ireturn, 1) := tb_b146_ok (9, .ireturn, 1) (List.mem_of_getElem? (i := 4) rfl)
theorem td_146_10 : decode prog_12_method_7_code 10 = .ok ((.aload_n 0), 1) := tb_b146_ok (10, (.aload_n 0), 1) (List.mem_of_getElem? (i := 5) rfl)
theorem td_146_11 : decode prog_12_method_7_code 11 = .ok ((.invokevirtual 120), 3) := tb_b146_ok (11, (.invokevirtual 120), 3) (List.mem_of_getElem? (i := 6) rfl)
theorem td_146_14 : decode prog_12_method_7_code 14 = .ok ((.istore_n 1), 1) := tb_b146_ok (14, (.istore_n 1), 1) (List.mem_of_getElem? (i := 7) rfl)
theorem td_146_15 : decode prog_12_method_7_code 15 = .ok ((.iconst (0)), 1) := tb_b146_ok (15, (.iconst (0)), 1) (List.mem_of_getElem? (i := 8) rfl)
theorem td_146_16 : decode prog_12_method_7_code 16 = .ok ((.istore_n 2), 1) := tb_b146_ok (16, (.istore_n 2), 1) (List.mem_of_getElem? (i := 9) rfl)
theorem td_146_17 : decode prog_12_method_7_code 17 = .ok ((.iload_n 2), 1) := tb_b146_ok (17, (.iload_n 2), 1) (List.mem_of_getElem? (i := 10) rfl)
theorem td_146_18 : decode prog_12_method_7_code 18 = .ok ((.aload_n 0), 1) := tb_b146_ok (18, (.aload_n 0), 1) (List.mem_of_getElem? (i := 11) rfl)
theorem td_146_19 : decode prog_12_method_7_code 19 = .ok ((.getfield 104), 3) := tb_b146_ok (19, (.getfield 104), 3) (List.mem_of_getElem? (i := 12) rfl)
theorem td_146_22 : decode prog_12_method_7_code 22 = .ok ((.if_icmp .ge (43)), 3) := tb_b146_ok (22, (.if_icmp .ge (43)), 3) (List.mem_of_getElem? (i := 13) rfl)
theorem td_146_25 : decode prog_12_method_7_code 25 = .ok ((.iload_n 1), 1) := tb_b146_ok (25, (.iload_n 1), 1) (List.mem_of_getElem? (i := 14) rfl)
theorem td_146_26 : decode prog_12_method_7_code 26 = .ok ((.ifCond .ge (39)), 3) := tb_b146_ok (26, (.ifCond .ge (39)), 3) (List.mem_of_getElem? (i := 15) rfl)
theorem td_146_29 : decode prog_12_method_7_code 29 = .ok ((.aload_n 0), 1) := tb_b146_ok (29, (.aload_n 0), 1) (List.mem_of_getElem? (i := 16) rfl)
theorem td_146_30 : decode prog_12_method_7_code 30 = .ok ((.iload_n 2), 1) := tb_b146_ok (30, (.iload_n 2), 1) (List.mem_of_getElem? (i := 17) rfl)
theorem td_146_31 : decode prog_12_method_7_code 31 = .ok ((.invokevirtual 124), 3) := tb_b146_ok (31, (.invokevirtual 124), 3) (List.mem_of_getElem? (i := 18) rfl)
theorem td_146_34 : decode prog_12_method_7_code 34 = .ok ((.ifCond .eq (23)), 3) := tb_b146_ok (34, (.ifCond .eq (23)), 3) (List.mem_of_getElem? (i := 19) rfl)
theorem td_146_37 : decode prog_12_method_7_code 37 = .ok ((.aload_n 0), 1) := tb_b146_ok (37, (.aload_n 0), 1) (List.mem_of_getElem? (i := 20) rfl)
theorem td_146_38 : decode prog_12_method_7_code 38 = .ok ((.getfield 7), 3) := tb_b146_ok (38, (.getfield 7), 3) (List.mem_of_getElem? (i := 21) rfl)
theorem td_146_41 : decode prog_12_method_7_code 41 = .ok ((.iload_n 2), 1) := tb_b146_ok (41, (.iload_n 2), 1) (List.mem_of_getElem? (i := 22) rfl)
theorem td_146_42 : decode prog_12_method_7_code 42 = .ok (.iaload, 1) := tb_b146_ok (42, .iaload, 1) (List.mem_of_getElem? (i := 23) rfl)
theorem td_146_43 : decode prog_12_method_7_code 43 = .ok ((.bipush (13)), 2) := tb_b146_ok (43, (.bipush (13)), 2) (List.mem_of_getElem? (i := 24) rfl)
theorem td_146_45 : decode prog_12_method_7_code 45 = .ok (.isub, 1) := tb_b146_ok (45, .isub, 1) (List.mem_of_getElem? (i := 25) rfl)
theorem td_146_46 : decode prog_12_method_7_code 46 = .ok ((.aload_n 0), 1) := tb_b146_ok (46, (.aload_n 0), 1) (List.mem_of_getElem? (i := 26) rfl)
theorem td_146_47 : decode prog_12_method_7_code 47 = .ok ((.getfield 117), 3) := tb_b146_ok (47, (.getfield 117), 3) (List.mem_of_getElem? (i := 27) rfl)
theorem td_146_50 : decode prog_12_method_7_code 50 = .ok ((.if_icmp .lt (7)), 3) := tb_b146_ok (50, (.if_icmp .lt (7)), 3) (List.mem_of_getElem? (i := 28) rfl)
theorem td_146_53 : decode prog_12_method_7_code 53 = .ok ((.iload_n 2), 1) := tb_b146_ok (53, (.iload_n 2), 1) (List.mem_of_getElem? (i := 29) rfl)
theorem td_146_54 : decode prog_12_method_7_code 54 = .ok ((.goto (4)), 3) := tb_b146_ok (54, (.goto (4)), 3) (List.mem_of_getElem? (i := 30) rfl)
theorem td_146_57 : decode prog_12_method_7_code 57 = .ok ((.iload_n 1), 1) := tb_b146_ok (57, (.iload_n 1), 1) (List.mem_of_getElem? (i := 31) rfl)
theorem td_146_58 : decode prog_12_method_7_code 58 = .ok ((.istore_n 1), 1) := tb_b146_ok (58, (.istore_n 1), 1) (List.mem_of_getElem? (i := 32) rfl)
theorem td_146_59 : decode prog_12_method_7_code 59 = .ok ((.iinc 2 (1)), 3) := tb_b146_ok (59, (.iinc 2 (1)), 3) (List.mem_of_getElem? (i := 33) rfl)
theorem td_146_62 : decode prog_12_method_7_code 62 = .ok ((.goto (-45)), 3) := tb_b146_ok (62, (.goto (-45)), 3) (List.mem_of_getElem? (i := 34) rfl)
theorem td_146_65 : decode prog_12_method_7_code 65 = .ok ((.iload_n 1), 1) := tb_b146_ok (65, (.iload_n 1), 1) (List.mem_of_getElem? (i := 35) rfl)
theorem td_146_66 : decode prog_12_method_7_code 66 = .ok ((.ifCond .lt (8)), 3) := tb_b146_ok (66, (.ifCond .lt (8)), 3) (List.mem_of_getElem? (i := 36) rfl)
theorem td_146_69 : decode prog_12_method_7_code 69 = .ok ((.bipush (-3)), 2) := tb_b146_ok (69, (.bipush (-3)), 2) (List.mem_of_getElem? (i := 37) rfl)
theorem td_146_71 : decode prog_12_method_7_code 71 = .ok ((.iload_n 1), 1) := tb_b146_ok (71, (.iload_n 1), 1) (List.mem_of_getElem? (i := 38) rfl)
theorem td_146_72 : decode prog_12_method_7_code 72 = .ok (.isub, 1) := tb_b146_ok (72, .isub, 1) (List.mem_of_getElem? (i := 39) rfl)
theorem td_146_73 : decode prog_12_method_7_code 73 = .ok (.ireturn, 1) := tb_b146_ok (73, .ireturn, 1) (List.mem_of_getElem? (i := 40) rfl)
theorem td_146_74 : decode prog_12_method_7_code 74 = .ok ((.aload_n 0), 1) := tb_b146_ok (74, (.aload_n 0), 1) (List.mem_of_getElem? (i := 41) rfl)
theorem td_146_75 : decode prog_12_method_7_code 75 = .ok ((.iconst (1)), 1) := tb_b146_ok (75, (.iconst (1)), 1) (List.mem_of_getElem? (i := 42) rfl)
theorem td_146_76 : decode prog_12_method_7_code 76 = .ok ((.putfield 100), 3) := tb_b146_ok (76, (.putfield 100), 3) (List.mem_of_getElem? (i := 43) rfl)
theorem td_146_79 : decode prog_12_method_7_code 79 = .ok ((.aload_n 0), 1) := tb_b146_ok (79, (.aload_n 0), 1) (List.mem_of_getElem? (i := 44) rfl)
theorem td_146_80 : decode prog_12_method_7_code 80 = .ok ((.invokevirtual 127), 3) := tb_b146_ok (80, (.invokevirtual 127), 3) (List.mem_of_getElem? (i := 45) rfl)
theorem td_146_83 : decode prog_12_method_7_code 83 = .ok ((.aload_n 0), 1) := tb_b146_ok (83, (.aload_n 0), 1) (List.mem_of_getElem? (i := 46) rfl)
theorem td_146_84 : decode prog_12_method_7_code 84 = .ok ((.invokevirtual 130), 3) := tb_b146_ok (84, (.invokevirtual 130), 3) (List.mem_of_getElem? (i := 47) rfl)
theorem td_146_87 : decode prog_12_method_7_code 87 = .ok ((.iconst (0)), 1) := tb_b146_ok (87, (.iconst (0)), 1) (List.mem_of_getElem? (i := 48) rfl)
theorem td_146_88 : decode prog_12_method_7_code 88 = .ok (.ireturn, 1) := tb_b146_ok (88, .ireturn, 1) (List.mem_of_getElem? (i := 49) rfl)
theorem td_152_0 : decode prog_12_method_29_code 0 = .ok ((.iconst (0)), 1) := tb_b152_ok (0, (.iconst (0)), 1) (List.mem_of_getElem? (i := 0) rfl)
theorem td_152_1 : decode prog_12_method_29_code 1 = .ok ((.istore_n 1), 1) := tb_b152_ok (1, (.istore_n 1), 1) (List.mem_of_getElem? (i := 1) rfl)
theorem td_152_2 : decode prog_12_method_29_code 2 = .ok ((.iload_n 1), 1) := tb_b152_ok (2, (.iload_n 1), 1) (List.mem_of_getElem? (i := 2) rfl)
theorem td_152_3 : decode prog_12_method_29_code 3 = .ok ((.sipush (1008)), 3) := tb_b152_ok (3, (.sipush (1008)), 3) (List.mem_of_getElem? (i := 3) rfl)
theorem td_152_6 : decode prog_12_method_29_code 6 = .ok ((.if_icmp .ge (30)), 3) := tb_b152_ok (6, (.if_icmp .ge (30)), 3) (List.mem_of_getElem? (i := 4) rfl)
theorem td_152_9 : decode prog_12_method_29_code 9 = .ok ((.aload_n 0), 1) := tb_b152_ok (9, (.aload_n 0), 1) (List.mem_of_getElem? (i := 5) rfl)
theorem td_152_10 : decode prog_12_method_29_code 10 = .ok ((.getfield 50), 3) := tb_b152_ok (10, (.getfield 50), 3) (List.mem_of_getElem? (i := 6) rfl)
theorem td_152_13 : decode prog_12_method_29_code 13 = .ok ((.iload_n 1), 1) := tb_b152_ok (13, (.iload_n 1), 1) (List.mem_of_getElem? (i := 7) rfl)
theorem td_152_14 : decode prog_12_method_29_code 14 = .ok ((.lconst 0), 1) := tb_b152_ok (14, (.lconst 0), 1) (List.mem_of_getElem? (i := 8) rfl)
theorem td_152_15 : decode prog_12_method_29_code 15 = .ok (.lastore, 1) := tb_b152_ok (15, .lastore, 1) (List.mem_of_getElem? (i := 9) rfl)
theorem td_152_16 : decode prog_12_method_29_code 16 = .ok ((.aload_n 0), 1) := tb_b152_ok (16, (.aload_n 0), 1) (List.mem_of_getElem? (i := 10) rfl)
theorem td_152_17 : decode prog_12_method_29_code 17 = .ok ((.getfield 53), 3) := tb_b152_ok (17, (.getfield 53), 3) (List.mem_of_getElem? (i := 11) rfl)
theorem td_152_20 : decode prog_12_method_29_code 20 = .ok ((.iload_n 1), 1) := tb_b152_ok (20, (.iload_n 1), 1) (List.mem_of_getElem? (i := 12) rfl)
theorem td_152_21 : decode prog_12_method_29_code 21 = .ok ((.lconst 0), 1) := tb_b152_ok (21, (.lconst 0), 1) (List.mem_of_getElem? (i := 13) rfl)
theorem td_152_22 : decode prog_12_method_29_code 22 = .ok (.lastore, 1) := tb_b152_ok (22, .lastore, 1) (List.mem_of_getElem? (i := 14) rfl)
theorem td_152_23 : decode prog_12_method_29_code 23 = .ok ((.aload_n 0), 1) := tb_b152_ok (23, (.aload_n 0), 1) (List.mem_of_getElem? (i := 15) rfl)
theorem td_152_24 : decode prog_12_method_29_code 24 = .ok ((.getfield 56), 3) := tb_b152_ok (24, (.getfield 56), 3) (List.mem_of_getElem? (i := 16) rfl)
theorem td_152_27 : decode prog_12_method_29_code 27 = .ok ((.iload_n 1), 1) := tb_b152_ok (27, (.iload_n 1), 1) (List.mem_of_getElem? (i := 17) rfl)
theorem td_152_28 : decode prog_12_method_29_code 28 = .ok ((.lconst 0), 1) := tb_b152_ok (28, (.lconst 0), 1) (List.mem_of_getElem? (i := 18) rfl)
theorem td_152_29 : decode prog_12_method_29_code 29 = .ok (.lastore, 1) := tb_b152_ok (29, .lastore, 1) (List.mem_of_getElem? (i := 19) rfl)
theorem td_152_30 : decode prog_12_method_29_code 30 = .ok ((.iinc 1 (1)), 3) := tb_b152_ok (30, (.iinc 1 (1)), 3) (List.mem_of_getElem? (i := 20) rfl)
theorem td_152_33 : decode prog_12_method_29_code 33 = .ok ((.goto (-31)), 3) := tb_b152_ok (33, (.goto (-31)), 3) (List.mem_of_getElem? (i := 21) rfl)
theorem td_152_36 : decode prog_12_method_29_code 36 = .ok ((.iconst (0)), 1) := tb_b152_ok (36, (.iconst (0)), 1) (List.mem_of_getElem? (i := 22) rfl)
theorem td_152_37 : decode prog_12_method_29_code 37 = .ok ((.istore_n 1), 1) := tb_b152_ok (37, (.istore_n 1), 1) (List.mem_of_getElem? (i := 23) rfl)
theorem td_152_38 : decode prog_12_method_29_code 38 = .ok ((.iload_n 1), 1) := tb_b152_ok (38, (.iload_n 1), 1) (List.mem_of_getElem? (i := 24) rfl)
theorem td_152_39 : decode prog_12_method_29_code 39 = .ok ((.sipush (252)), 3) := tb_b152_ok (39, (.sipush (252)), 3) (List.mem_of_getElem? (i := 25) rfl)
theorem td_152_42 : decode prog_12_method_29_code 42 = .ok ((.if_icmp .ge (42)), 3) := tb_b152_ok (42, (.if_icmp .ge (42)), 3) (List.mem_of_getElem? (i := 26) rfl)
theorem td_152_45 : decode prog_12_method_29_code 45 = .ok ((.iconst (0)), 1) := tb_b152_ok (45, (.iconst (0)), 1) (List.mem_of_getElem? (i := 27) rfl)
theorem td_152_46 : decode prog_12_method_29_code 46 = .ok ((.istore_n 2), 1) := tb_b152_ok (46, (.istore_n 2), 1) (List.mem_of_getElem? (i := 28) rfl)
theorem td_152_47 : decode prog_12_method_29_code 47 = .ok ((.iload_n 2), 1) := tb_b152_ok (47, (.iload_n 2), 1) (List.mem_of_getElem? (i := 29) rfl)
theorem td_152_48 : decode prog_12_method_29_code 48 = .ok ((.sipush (252)), 3) := tb_b152_ok (48, (.sipush (252)), 3) (List.mem_of_getElem? (i := 30) rfl)
theorem td_152_51 : decode prog_12_method_29_code 51 = .ok ((.if_icmp .ge (27)), 3) := tb_b152_ok (51, (.if_icmp .ge (27)), 3) (List.mem_of_getElem? (i := 31) rfl)
theorem td_152_54 : decode prog_12_method_29_code 54 = .ok ((.aload_n 0), 1) := tb_b152_ok (54, (.aload_n 0), 1) (List.mem_of_getElem? (i := 32) rfl)
theorem td_152_55 : decode prog_12_method_29_code 55 = .ok ((.iload_n 1), 1) := tb_b152_ok (55, (.iload_n 1), 1) (List.mem_of_getElem? (i := 33) rfl)
theorem td_152_56 : decode prog_12_method_29_code 56 = .ok ((.iload_n 2), 1) := tb_b152_ok (56, (.iload_n 2), 1) (List.mem_of_getElem? (i := 34) rfl)
theorem td_152_57 : decode prog_12_method_29_code 57 = .ok ((.invokevirtual 188), 3) := tb_b152_ok (57, (.invokevirtual 188), 3) (List.mem_of_getElem? (i := 35) rfl)
theorem td_152_60 : decode prog_12_method_29_code 60 = .ok ((.ifCond .eq (12)), 3) := tb_b152_ok (60, (.ifCond .eq (12)), 3) (List.mem_of_getElem? (i := 36) rfl)
theorem td_152_63 : decode prog_12_method_29_code 63 = .ok ((.aload_n 0), 1) := tb_b152_ok (63, (.aload_n 0), 1) (List.mem_of_getElem? (i := 37) rfl)
theorem td_152_64 : decode prog_12_method_29_code 64 = .ok ((.getfield 50), 3) := tb_b152_ok (64, (.getfield 50), 3) (List.mem_of_getElem? (i := 38) rfl)
theorem td_152_67 : decode prog_12_method_29_code 67 = .ok ((.iload_n 1), 1) := tb_b152_ok (67, (.iload_n 1), 1) (List.mem_of_getElem? (i := 39) rfl)
theorem td_152_68 : decode prog_12_method_29_code 68 = .ok ((.iload_n 2), 1) := tb_b152_ok (68, (.iload_n 2), 1) (List.mem_of_getElem? (i := 40) rfl)
theorem td_152_69 : decode prog_12_method_29_code 69 = .ok ((.invokestatic 191), 3) := tb_b152_ok (69, (.invokestatic 191), 3) (List.mem_of_getElem? (i := 41) rfl)
theorem td_152_72 : decode prog_12_method_29_code 72 = .ok ((.iinc 2 (1)), 3) := tb_b152_ok (72, (.iinc 2 (1)), 3) (List.mem_of_getElem? (i := 42) rfl)
theorem td_152_75 : decode prog_12_method_29_code 75 = .ok ((.goto (-28)), 3) := tb_b152_ok (75, (.goto (-28)), 3) (List.mem_of_getElem? (i := 43) rfl)
theorem td_152_78 : decode prog_12_method_29_code 78 = .ok ((.iinc 1 (1)), 3) := tb_b152_ok (78, (.iinc 1 (1)), 3) (List.mem_of_getElem? (i := 44) rfl)
theorem td_152_81 : decode prog_12_method_29_code 81 = .ok ((.goto (-43)), 3) := tb_b152_ok (81, (.goto (-43)), 3) (List.mem_of_getElem? (i := 45) rfl)
theorem td_152_84 : decode prog_12_method_29_code 84 = .ok ((.iconst (0)), 1) := tb_b152_ok (84, (.iconst (0)), 1) (List.mem_of_getElem? (i := 46) rfl)
theorem td_152_85 : decode prog_12_method_29_code 85 = .ok ((.istore_n 1), 1) := tb_b152_ok (85, (.istore_n 1), 1) (List.mem_of_getElem? (i := 47) rfl)
theorem td_152_86 : decode prog_12_method_29_code 86 = .ok ((.iload_n 1), 1) := tb_b152_ok (86, (.iload_n 1), 1) (List.mem_of_getElem? (i := 48) rfl)
theorem td_152_87 : decode prog_12_method_29_code 87 = .ok ((.aload_n 0), 1) := tb_b152_ok (87, (.aload_n 0), 1) (List.mem_of_getElem? (i := 49) rfl)
theorem td_152_88 : decode prog_12_method_29_code 88 = .ok ((.getfield 104), 3) := tb_b152_ok (88, (.getfield 104), 3) (List.mem_of_getElem? (i := 50) rfl)
theorem td_152_91 : decode prog_12_method_29_code 91 = .ok ((.if_icmp .ge (100)), 3) := tb_b152_ok (91, (.if_icmp .ge (100)), 3) (List.mem_of_getElem? (i := 51) rfl)
theorem td_152_94 : decode prog_12_method_29_code 94 = .ok ((.aload_n 0), 1) := tb_b152_ok (94, (.aload_n 0), 1) (List.mem_of_getElem? (i := 52) rfl)
theorem td_152_95 : decode prog_12_method_29_code 95 = .ok ((.iload_n 1), 1) := tb_b152_ok (95, (.iload_n 1), 1) (List.mem_of_getElem? (i := 53) rfl)
theorem td_152_96 : decode prog_12_method_29_code 96 = .ok ((.invokevirtual 124), 3) := tb_b152_ok (96, (.invokevirtual 124), 3) (List.mem_of_getElem? (i := 54) rfl)
theorem td_152_99 : decode prog_12_method_29_code 99 = .ok ((.ifCond .eq (86)), 3) := tb_b152_ok (99, (.ifCond .eq (86)), 3) (List.mem_of_getElem? (i := 55) rfl)
theorem td_152_102 : decode prog_12_method_29_code 102 = .ok ((.sipush (224)), 3) := tb_b152_ok (102, (.sipush (224)), 3) (List.mem_of_getElem? (i := 56) rfl)
theorem td_152_105 : decode prog_12_method_29_code 105 = .ok ((.bipush (7)), 2) := tb_b152_ok (105, (.bipush (7)), 2) (List.mem_of_getElem? (i := 57) rfl)
theorem td_152_107 : decode prog_12_method_29_code 107 = .ok ((.aload_n 0), 1) := tb_b152_ok (107, (.aload_n 0), 1) (List.mem_of_getElem? (i := 58) rfl)
theorem td_152_108 : decode prog_12_method_29_code 108 = .ok ((.getfield 7), 3) := tb_b152_ok (108, (.getfield 7), 3) (List.mem_of_getElem? (i := 59) rfl)
theorem td_152_111 : decode prog_12_method_29_code 111 = .ok ((.iload_n 1), 1) := tb_b152_ok (111, (.iload_n 1), 1) (List.mem_of_getElem? (i := 60) rfl)
theorem td_152_112 : decode prog_12_method_29_code 112 = .ok (.iaload, 1) := tb_b152_ok (112, .iaload, 1) (List.mem_of_getElem? (i := 61) rfl)
theorem td_152_113 : decode prog_12_method_29_code 113 = .ok ((.bipush (13)), 2) := tb_b152_ok (113, (.bipush (13)), 2) (List.mem_of_getElem? (i := 62) rfl)
theorem td_152_115 : decode prog_12_method_29_code 115 = .ok (.isub, 1) := tb_b152_ok (115, .isub, 1) (List.mem_of_getElem? (i := 63) rfl)
theorem td_152_116 : decode prog_12_method_29_code 116 = .ok (.imul, 1) := tb_b152_ok (116, .imul, 1) (List.mem_of_getElem? (i := 64) rfl)
theorem td_152_117 : decode prog_12_method_29_code 117 = .ok (.iadd, 1) := tb_b152_ok (117, .iadd, 1) (List.mem_of_getElem? (i := 65) rfl)
theorem td_152_118 : decode prog_12_method_29_code 118 = .ok ((.istore_n 2), 1) := tb_b152_ok (118, (.istore_n 2), 1) (List.mem_of_getElem? (i := 66) rfl)
theorem td_152_119 : decode prog_12_method_29_code 119 = .ok ((.aload_n 0), 1) := tb_b152_ok (119, (.aload_n 0), 1) (List.mem_of_getElem? (i := 67) rfl)
theorem td_152_120 : decode prog_12_method_29_code 120 = .ok ((.getfield 53), 3) := tb_b152_ok (120, (.getfield 53), 3) (List.mem_of_getElem? (i := 68) rfl)
theorem td_152_123 : decode prog_12_method_29_code 123 = .ok ((.iload_n 2), 1) := tb_b152_ok (123, (.iload_n 2), 1) (List.mem_of_getElem? (i := 69) rfl)
theorem td_152_124 : decode prog_12_method_29_code 124 = .ok ((.iload_n 1), 1) := tb_b152_ok (124, (.iload_n 1), 1) (List.mem_of_getElem? (i := 70) rfl)
theorem td_152_125 : decode prog_12_method_29_code 125 = .ok ((.invokestatic 191), 3) := tb_b152_ok (125, (.invokestatic 191), 3) (List.mem_of_getElem? (i := 71) rfl)
theorem td_152_128 : decode prog_12_method_29_code 128 = .ok ((.iconst (0)), 1) := tb_b152_ok (128, (.iconst (0)), 1) (List.mem_of_getElem? (i := 72) rfl)
theorem td_152_129 : decode prog_12_method_29_code 129 = .ok ((.istore_n 3), 1) := tb_b152_ok (129, (.istore_n 3), 1) (List.mem_of_getElem? (i := 73) rfl)
theorem td_152_130 : decode prog_12_method_29_code 130 = .ok ((.iload_n 3), 1) := tb_b152_ok (130, (.iload_n 3), 1) (List.mem_of_getElem? (i := 74) rfl)
theorem td_152_131 : decode prog_12_method_29_code 131 = .ok ((.iconst (3)), 1) := tb_b152_ok (131, (.iconst (3)), 1) (List.mem_of_getElem? (i := 75) rfl)
theorem td_152_132 : decode prog_12_method_29_code 132 = .ok ((.if_icmp .ge (53)), 3) := tb_b152_ok (132, (.if_icmp .ge (53)), 3) (List.mem_of_getElem? (i := 76) rfl)
theorem td_152_135 : decode prog_12_method_29_code 135 = .ok ((.aload_n 0), 1) := tb_b152_ok (135, (.aload_n 0), 1) (List.mem_of_getElem? (i := 77) rfl)
theorem td_152_136 : decode prog_12_method_29_code 136 = .ok ((.getfield 53), 3) := tb_b152_ok (136, (.getfield 53), 3) (List.mem_of_getElem? (i := 78) rfl)
theorem td_152_139 : decode prog_12_method_29_code 139 = .ok ((.iload_n 2), 1) := tb_b152_ok (139, (.iload_n 2), 1) (List.mem_of_getElem? (i := 79) rfl)
theorem td_152_140 : decode prog_12_method_29_code 140 = .ok ((.iconst (1)), 1) := tb_b152_ok (140, (.iconst (1)), 1) (List.mem_of_getElem? (i := 80) rfl)
theorem td_152_141 : decode prog_12_method_29_code 141 = .ok (.iadd, 1) := tb_b152_ok (141, .iadd, 1) (List.mem_of_getElem? (i := 81) rfl)
theorem td_152_142 : decode prog_12_method_29_code 142 = .ok ((.iload_n 3), 1) := tb_b152_ok (142, (.iload_n 3), 1) (List.mem_of_getElem? (i := 82) rfl)
theorem td_152_143 : decode prog_12_method_29_code 143 = .ok (.iadd, 1) := tb_b152_ok (143, .iadd, 1) (List.mem_of_getElem? (i := 83) rfl)
theorem td_152_144 : decode prog_12_method_29_code 144 = .ok ((.bipush (32)), 2) := tb_b152_ok (144, (.bipush (32)), 2) (List.mem_of_getElem? (i := 84) rfl)
theorem td_152_146 : decode prog_12_method_29_code 146 = .ok ((.bipush (6)), 2) := tb_b152_ok (146, (.bipush (6)), 2) (List.mem_of_getElem? (i := 85) rfl)
theorem td_152_148 : decode prog_12_method_29_code 148 = .ok ((.iload_n 1), 1) := tb_b152_ok (148, (.iload_n 1), 1) (List.mem_of_getElem? (i := 86) rfl)
theorem td_152_149 : decode prog_12_method_29_code 149 = .ok (.imul, 1) := tb_b152_ok (149, .imul, 1) (List.mem_of_getElem? (i := 87) rfl)
theorem td_152_150 : decode prog_12_method_29_code 150 = .ok (.iadd, 1) := tb_b152_ok (150, .iadd, 1) (List.mem_of_getElem? (i := 88) rfl)
theorem td_152_151 : decode prog_12_method_29_code 151 = .ok ((.iload_n 3), 1) := tb_b152_ok (151, (.iload_n 3), 1) (List.mem_of_getElem? (i := 89) rfl)
theorem td_152_152 : decode prog_12_method_29_code 152 = .ok (.iadd, 1) := tb_b152_ok (152, .iadd, 1) (List.mem_of_getElem? (i := 90) rfl)
theorem td_152_153 : decode prog_12_method_29_code 153 = .ok ((.invokestatic 191), 3) := tb_b152_ok (153, (.invokestatic 191), 3) (List.mem_of_getElem? (i := 91) rfl)
theorem td_152_156 : decode prog_12_method_29_code 156 = .ok ((.aload_n 0), 1) := tb_b152_ok (156, (.aload_n 0), 1) (List.mem_of_getElem? (i := 92) rfl)
theorem td_152_157 : decode prog_12_method_29_code 157 = .ok ((.getfield 56), 3) := tb_b152_ok (157, (.getfield 56), 3) (List.mem_of_getElem? (i := 93) rfl)
theorem td_152_160 : decode prog_12_method_29_code 160 = .ok ((.bipush (32)), 2) := tb_b152_ok (160, (.bipush (32)), 2) (List.mem_of_getElem? (i := 94) rfl)
theorem td_152_162 : decode prog_12_method_29_code 162 = .ok ((.bipush (6)), 2) := tb_b152_ok (162, (.bipush (6)), 2) (List.mem_of_getElem? (i := 95) rfl)
theorem td_152_164 : decode prog_12_method_29_code 164 = .ok ((.iload_n 1), 1) := tb_b152_ok (164, (.iload_n 1), 1) (List.mem_of_getElem? (i := 96) rfl)
theorem td_152_165 : decode prog_12_method_29_code 165 = .ok (.imul, 1) := tb_b152_ok (165, .imul, 1) (List.mem_of_getElem? (i := 97) rfl)
theorem td_152_166 : decode prog_12_method_29_code 166 = .ok (.iadd, 1) := tb_b152_ok (166, .iadd, 1) (List.mem_of_getElem? (i := 98) rfl)
theorem td_152_167 : decode prog_12_method_29_code 167 = .ok ((.iconst (3)), 1) := tb_b152_ok (167, (.iconst (3)), 1) (List.mem_of_getElem? (i := 99) rfl)
theorem td_152_168 : decode prog_12_method_29_code 168 = .ok (.iadd, 1) := tb_b152_ok (168, .iadd, 1) (List.mem_of_getElem? (i := 100) rfl)
theorem td_152_169 : decode prog_12_method_29_code 169 = .ok ((.iload_n 3), 1) := tb_b152_ok (169, (.iload_n 3), 1) (List.mem_of_getElem? (i := 101) rfl)
theorem td_152_170 : decode prog_12_method_29_code 170 = .ok (.iadd, 1) := tb_b152_ok (170, .iadd, 1) (List.mem_of_getElem? (i := 102) rfl)
theorem td_152_171 : decode prog_12_method_29_code 171 = .ok ((.iload_n 2), 1) := tb_b152_ok (171, (.iload_n 2), 1) (List.mem_of_getElem? (i := 103) rfl)
theorem td_152_172 : decode prog_12_method_29_code 172 = .ok ((.iconst (4)), 1) := tb_b152_ok (172, (.iconst (4)), 1) (List.mem_of_getElem? (i := 104) rfl)
theorem td_152_173 : decode prog_12_method_29_code 173 = .ok (.iadd, 1) := tb_b152_ok (173, .iadd, 1) (List.mem_of_getElem? (i := 105) rfl)
theorem td_152_174 : decode prog_12_method_29_code 174 = .ok ((.iload_n 3), 1) := tb_b152_ok (174, (.iload_n 3), 1) (List.mem_of_getElem? (i := 106) rfl)
theorem td_152_175 : decode prog_12_method_29_code 175 = .ok (.iadd, 1) := tb_b152_ok (175, .iadd, 1) (List.mem_of_getElem? (i := 107) rfl)
theorem td_152_176 : decode prog_12_method_29_code 176 = .ok ((.invokestatic 191), 3) := tb_b152_ok (176, (.invokestatic 191), 3) (List.mem_of_getElem? (i := 108) rfl)
theorem td_152_179 : decode prog_12_method_29_code 179 = .ok ((.iinc 3 (1)), 3) := tb_b152_ok (179, (.iinc 3 (1)), 3) (List.mem_of_getElem? (i := 109) rfl)
theorem td_152_182 : decode prog_12_method_29_code 182 = .ok ((.goto (-52)), 3) := tb_b152_ok (182, (.goto (-52)), 3) (List.mem_of_getElem? (i := 110) rfl)
theorem td_152_185 : decode prog_12_method_29_code 185 = .ok ((.iinc 1 (1)), 3) := tb_b152_ok (185, (.iinc 1 (1)), 3) (List.mem_of_getElem? (i := 111) rfl)
theorem td_152_188 : decode prog_12_method_29_code 188 = .ok ((.goto (-102)), 3) := tb_b152_ok (188, (.goto (-102)), 3) (List.mem_of_getElem? (i := 112) rfl)
theorem td_152_191 : decode prog_12_method_29_code 191 = .ok ((.iconst (1)), 1) := tb_b152_ok (191, (.iconst (1)), 1) (List.mem_of_getElem? (i := 113) rfl)
theorem td_152_192 : decode prog_12_method_29_code 192 = .ok ((.istore_n 1), 1) := tb_b152_ok (192, (.istore_n 1), 1) (List.mem_of_getElem? (i := 114) rfl)
theorem td_152_193 : decode prog_12_method_29_code 193 = .ok ((.iconst (0)), 1) := tb_b152_ok (193, (.iconst (0)), 1) (List.mem_of_getElem? (i := 115) rfl)
theorem td_152_194 : decode prog_12_method_29_code 194 = .ok ((.istore_n 2), 1) := tb_b152_ok (194, (.istore_n 2), 1) (List.mem_of_getElem? (i := 116) rfl)
theorem td_152_195 : decode prog_12_method_29_code 195 = .ok ((.iload_n 2), 1) := tb_b152_ok (195, (.iload_n 2), 1) (List.mem_of_getElem? (i := 117) rfl)
theorem td_152_196 : decode prog_12_method_29_code 196 = .ok ((.sipush (1000)), 3) := tb_b152_ok (196, (.sipush (1000)), 3) (List.mem_of_getElem? (i := 118) rfl)
theorem td_152_199 : decode prog_12_method_29_code 199 = .ok ((.if_icmp .ge (57)), 3) := tb_b152_ok (199, (.if_icmp .ge (57)), 3) (List.mem_of_getElem? (i := 119) rfl)
theorem td_152_202 : decode prog_12_method_29_code 202 = .ok ((.iload_n 1), 1) := tb_b152_ok (202, (.iload_n 1), 1) (List.mem_of_getElem? (i := 120) rfl)
theorem td_152_203 : decode prog_12_method_29_code 203 = .ok ((.ifCond .eq (53)), 3) := tb_b152_ok (203, (.ifCond .eq (53)), 3) (List.mem_of_getElem? (i := 121) rfl)
theorem td_152_206 : decode prog_12_method_29_code 206 = .ok ((.iconst (0)), 1) := tb_b152_ok (206, (.iconst (0)), 1) (List.mem_of_getElem? (i := 122) rfl)
theorem td_152_207 : decode prog_12_method_29_code 207 = .ok ((.istore_n 1), 1) := tb_b152_ok (207, (.istore_n 1), 1) (List.mem_of_getElem? (i := 123) rfl)
theorem td_152_208 : decode prog_12_method_29_code 208 = .ok ((.iconst (0)), 1) := tb_b152_ok (208, (.iconst (0)), 1) (List.mem_of_getElem? (i := 124) rfl)
theorem td_152_209 : decode prog_12_method_29_code 209 = .ok ((.istore_n 3), 1) := tb_b152_ok (209, (.istore_n 3), 1) (List.mem_of_getElem? (i := 125) rfl)
theorem td_152_210 : decode prog_12_method_29_code 210 = .ok ((.iload_n 3), 1) := tb_b152_ok (210, (.iload_n 3), 1) (List.mem_of_getElem? (i := 126) rfl)
theorem td_152_211 : decode prog_12_method_29_code 211 = .ok ((.aload_n 0), 1) := tb_b152_ok (211, (.aload_n 0), 1) (List.mem_of_getElem? (i := 127) rfl)
theorem td_152_212 : decode prog_12_method_29_code 212 = .ok ((.getfield 104), 3) := tb_b152_ok (212, (.getfield 104), 3) (List.mem_of_getElem? (i := 128) rfl)
theorem td_152_215 : decode prog_12_method_29_code 215 = .ok ((.if_icmp .ge (35)), 3) := tb_b152_ok (215, (.if_icmp .ge (35)), 3) (List.mem_of_getElem? (i := 129) rfl)
theorem td_152_218 : decode prog_12_method_29_code 218 = .ok ((.aload_n 0), 1) := tb_b152_ok (218, (.aload_n 0), 1) (List.mem_of_getElem? (i := 130) rfl)
theorem td_152_219 : decode prog_12_method_29_code 219 = .ok ((.iload_n 3), 1) := tb_b152_ok (219, (.iload_n 3), 1) (List.mem_of_getElem? (i := 131) rfl)
theorem td_152_220 : decode prog_12_method_29_code 220 = .ok ((.invokevirtual 124), 3) := tb_b152_ok (220, (.invokevirtual 124), 3) (List.mem_of_getElem? (i := 132) rfl)
theorem td_152_223 : decode prog_12_method_29_code 223 = .ok ((.ifCond .eq (11)), 3) := tb_b152_ok (223, (.ifCond .eq (11)), 3) (List.mem_of_getElem? (i := 133) rfl)
theorem td_152_226 : decode prog_12_method_29_code 226 = .ok ((.aload_n 0), 1) := tb_b152_ok (226, (.aload_n 0), 1) (List.mem_of_getElem? (i := 134) rfl)
theorem td_152_227 : decode prog_12_method_29_code 227 = .ok ((.iload_n 3), 1) := tb_b152_ok (227, (.iload_n 3), 1) (List.mem_of_getElem? (i := 135) rfl)
theorem td_152_228 : decode prog_12_method_29_code 228 = .ok ((.invokevirtual 195), 3) := tb_b152_ok (228, (.invokevirtual 195), 3) (List.mem_of_getElem? (i := 136) rfl)
theorem td_152_231 : decode prog_12_method_29_code 231 = .ok ((.ifCond .ne (7)), 3) := tb_b152_ok (231, (.ifCond .ne (7)), 3) (List.mem_of_getElem? (i := 137) rfl)
theorem td_152_234 : decode prog_12_method_29_code 234 = .ok ((.iload_n 1), 1) := tb_b152_ok (234, (.iload_n 1), 1) (List.mem_of_getElem? (i := 138) rfl)
theorem td_152_235 : decode prog_12_method_29_code 235 = .ok ((.ifCond .eq (7)), 3) := tb_b152_ok (235, (.ifCond .eq (7)), 3) (List.mem_of_getElem? (i := 139) rfl)
theorem td_152_238 : decode prog_12_method_29_code 238 = .ok ((.iconst (1)), 1) := tb_b152_ok (238, (.iconst (1)), 1) (List.mem_of_getElem? (i := 140) rfl)
theorem td_152_239 : decode prog_12_method_29_code 239 = .ok ((.goto (4)), 3) := tb_b152_ok (239, (.goto (4)), 3) (List.mem_of_getElem? (i := 141) rfl)
theorem td_152_242 : decode prog_12_method_29_code 242 = .ok ((.iconst (0)), 1) := tb_b152_ok (242, (.iconst (0)), 1) (List.mem_of_getElem? (i := 142) rfl)
theorem td_152_243 : decode prog_12_method_29_code 243 = .ok ((.istore_n 1), 1) := tb_b152_ok (243, (.istore_n 1), 1) (List.mem_of_getElem? (i := 143) rfl)
theorem td_152_244 : decode prog_12_method_29_code 244 = .ok ((.iinc 3 (1)), 3) := tb_b152_ok (244, (.iinc 3 (1)), 3) (List.mem_of_getElem? (i := 144) rfl)
theorem td_152_247 : decode prog_12_method_29_code 247 = .ok ((.goto (-37)), 3) := tb_b152_ok (247, (.goto (-37)), 3) (List.mem_of_getElem? (i := 145) rfl)
theorem td_152_250 : decode prog_12_method_29_code 250 = .ok ((.iinc 2 (1)), 3) := tb_b152_ok (250, (.iinc 2 (1)), 3) (List.mem_of_getElem? (i := 146) rfl)
theorem td_152_253 : decode prog_12_method_29_code 253 = .ok ((.goto (-58)), 3) := tb_b152_ok (253, (.goto (-58)), 3) (List.mem_of_getElem? (i := 147) rfl)
theorem td_152_256 : decode prog_12_method_29_code 256 = .ok (.return_, 1) := tb_b152_ok (256, .return_, 1) (List.mem_of_getElem? (i := 148) rfl)
theorem td_153_0 : decode prog_12_method_26_code 0 = .ok ((.aload_n 0), 1) := tb_b153_ok (0, (.aload_n 0), 1) (List.mem_of_getElem? (i := 0) rfl)
theorem td_153_1 : decode prog_12_method_26_code 1 = .ok ((.iload_n 1), 1) := tb_b153_ok (1, (.iload_n 1), 1) (List.mem_of_getElem? (i := 1) rfl)
theorem td_153_2 : decode prog_12_method_26_code 2 = .ok ((.invokevirtual 174), 3) := tb_b153_ok (2, (.invokevirtual 174), 3) (List.mem_of_getElem? (i := 2) rfl)
theorem td_153_5 : decode prog_12_method_26_code 5 = .ok ((.ifCond .eq (24)), 3) := tb_b153_ok (5, (.ifCond .eq (24)), 3) (List.mem_of_getElem? (i := 3) rfl)
theorem td_153_8 : decode prog_12_method_26_code 8 = .ok ((.aload_n 0), 1) := tb_b153_ok (8, (.aload_n 0), 1) (List.mem_of_getElem? (i := 4) rfl)
theorem td_153_9 : decode prog_12_method_26_code 9 = .ok ((.iload_n 2), 1) := tb_b153_ok (9, (.iload_n 2), 1) (List.mem_of_getElem? (i := 5) rfl)
theorem td_153_10 : decode prog_12_method_26_code 10 = .ok ((.invokevirtual 174), 3) := tb_b153_ok (10, (.invokevirtual 174), 3) (List.mem_of_getElem? (i := 6) rfl)
theorem td_153_13 : decode prog_12_method_26_code 13 = .ok ((.ifCond .eq (16)), 3) := tb_b153_ok (13, (.ifCond .eq (16)), 3) (List.mem_of_getElem? (i := 7) rfl)
theorem td_153_16 : decode prog_12_method_26_code 16 = .ok ((.aload_n 0), 1) := tb_b153_ok (16, (.aload_n 0), 1) (List.mem_of_getElem? (i := 8) rfl)
theorem td_153_17 : decode prog_12_method_26_code 17 = .ok ((.iload_n 1), 1) := tb_b153_ok (17, (.iload_n 1), 1) (List.mem_of_getElem? (i := 9) rfl)
theorem td_153_18 : decode prog_12_method_26_code 18 = .ok ((.invokevirtual 161), 3) := tb_b153_ok (18, (.invokevirtual 161), 3) (List.mem_of_getElem? (i := 10) rfl)
theorem td_153_21 : decode prog_12_method_26_code 21 = .ok ((.aload_n 0), 1) := tb_b153_ok (21, (.aload_n 0), 1) (List.mem_of_getElem? (i := 11) rfl)
theorem td_153_22 : decode prog_12_method_26_code 22 = .ok ((.iload_n 2), 1) := tb_b153_ok (22, (.iload_n 2), 1) (List.mem_of_getElem? (i := 12) rfl)
theorem td_153_23 : decode prog_12_method_26_code 23 = .ok ((.invokevirtual 161), 3) := tb_b153_ok (23, (.invokevirtual 161), 3) (List.mem_of_getElem? (i := 13) rfl)
theorem td_153_26 : decode prog_12_method_26_code 26 = .ok ((.if_icmp .eq (5)), 3) := tb_b153_ok (26, (.if_icmp .eq (5)), 3) (List.mem_of_getElem? (i := 14) rfl)
theorem td_153_29 : decode prog_12_method_26_code 29 = .ok ((.iconst (0)), 1) := tb_b153_ok (29, (.iconst (0)), 1) (List.mem_of_getElem? (i := 15) rfl)
theorem td_153_30 : decode prog_12_method_26_code 30 = .ok (.ireturn, 1) := tb_b153_ok (30, .ireturn, 1) (List.mem_of_getElem? (i := 16) rfl)
theorem td_153_31 : decode prog_12_method_26_code 31 = .ok ((.aload_n 0), 1) := tb_b153_ok (31, (.aload_n 0), 1) (List.mem_of_getElem? (i := 17) rfl)
theorem td_153_32 : decode prog_12_method_26_code 32 = .ok ((.iload_n 1), 1) := tb_b153_ok (32, (.iload_n 1), 1) (List.mem_of_getElem? (i := 18) rfl)
theorem td_153_33 : decode prog_12_method_26_code 33 = .ok ((.iload_n 2), 1) := tb_b153_ok (33, (.iload_n 2), 1) (List.mem_of_getElem? (i := 19) rfl)
theorem td_153_34 : decode prog_12_method_26_code 34 = .ok ((.invokevirtual 177), 3) := tb_b153_ok (34, (.invokevirtual 177), 3) (List.mem_of_getElem? (i := 20) rfl)
theorem td_153_37 : decode prog_12_method_26_code 37 = .ok ((.ifCond .eq (7)), 3) := tb_b153_ok (37, (.ifCond .eq (7)), 3) (List.mem_of_getElem? (i := 21) rfl)
theorem td_153_40 : decode prog_12_method_26_code 40 = .ok ((.iconst (1)), 1) := tb_b153_ok (40, (.iconst (1)), 1) (List.mem_of_getElem? (i := 22) rfl)
theorem td_153_41 : decode prog_12_method_26_code 41 = .ok ((.goto (4)), 3) := tb_b153_ok (41, (.goto (4)), 3) (List.mem_of_getElem? (i := 23) rfl)
theorem td_153_44 : decode prog_12_method_26_code 44 = .ok ((.iconst (0)), 1) := tb_b153_ok (44, (.iconst (0)), 1) (List.mem_of_getElem? (i := 24) rfl)
theorem td_153_45 : decode prog_12_method_26_code 45 = .ok ((.aload_n 0), 1) := tb_b153_ok (45, (.aload_n 0), 1) (List.mem_of_getElem? (i := 25) rfl)
theorem td_153_46 : decode prog_12_method_26_code 46 = .ok ((.iload_n 1), 1) := tb_b153_ok (46, (.iload_n 1), 1) (List.mem_of_getElem? (i := 26) rfl)
theorem td_153_47 : decode prog_12_method_26_code 47 = .ok ((.iload_n 2), 1) := tb_b153_ok (47, (.iload_n 2), 1) (List.mem_of_getElem? (i := 27) rfl)
theorem td_153_48 : decode prog_12_method_26_code 48 = .ok ((.invokevirtual 180), 3) := tb_b153_ok (48, (.invokevirtual 180), 3) (List.mem_of_getElem? (i := 28) rfl)
theorem td_153_51 : decode prog_12_method_26_code 51 = .ok ((.ifCond .eq (7)), 3) := tb_b153_ok (51, (.ifCond .eq (7)), 3) (List.mem_of_getElem? (i := 29) rfl)
theorem td_153_54 : decode prog_12_method_26_code 54 = .ok ((.iconst (2)), 1) := tb_b153_ok (54, (.iconst (2)), 1) (List.mem_of_getElem? (i := 30) rfl)
theorem td_153_55 : decode prog_12_method_26_code 55 = .ok ((.goto (4)), 3) := tb_b153_ok (55, (.goto (4)), 3) (List.mem_of_getElem? (i := 31) rfl)
theorem td_153_58 : decode prog_12_method_26_code 58 = .ok ((.iconst (0)), 1) := tb_b153_ok (58, (.iconst (0)), 1) (List.mem_of_getElem? (i := 32) rfl)
theorem td_153_59 : decode prog_12_method_26_code 59 = .ok (.iadd, 1) := tb_b153_ok (59, .iadd, 1) (List.mem_of_getElem? (i := 33) rfl)
theorem td_153_60 : decode prog_12_method_26_code 60 = .ok ((.aload_n 0), 1) := tb_b153_ok (60, (.aload_n 0), 1) (List.mem_of_getElem? (i := 34) rfl)
theorem td_153_61 : decode prog_12_method_26_code 61 = .ok ((.iload_n 1), 1) := tb_b153_ok (61, (.iload_n 1), 1) (List.mem_of_getElem? (i := 35) rfl)
theorem td_153_62 : decode prog_12_method_26_code 62 = .ok ((.iload_n 2), 1) := tb_b153_ok (62, (.iload_n 2), 1) (List.mem_of_getElem? (i := 36) rfl)
theorem td_153_63 : decode prog_12_method_26_code 63 = .ok ((.invokevirtual 183), 3) := tb_b153_ok (63, (.invokevirtual 183), 3) (List.mem_of_getElem? (i := 37) rfl)
theorem td_153_66 : decode prog_12_method_26_code 66 = .ok ((.ifCond .eq (7)), 3) := tb_b153_ok (66, (.ifCond .eq (7)), 3) (List.mem_of_getElem? (i := 38) rfl)
theorem td_153_69 : decode prog_12_method_26_code 69 = .ok ((.iconst (4)), 1) := tb_b153_ok (69, (.iconst (4)), 1) (List.mem_of_getElem? (i := 39) rfl)
theorem td_153_70 : decode prog_12_method_26_code 70 = .ok ((.goto (4)), 3) := tb_b153_ok (70, (.goto (4)), 3) (List.mem_of_getElem? (i := 40) rfl)
theorem td_153_73 : decode prog_12_method_26_code 73 = .ok ((.iconst (0)), 1) := tb_b153_ok (73, (.iconst (0)), 1) (List.mem_of_getElem? (i := 41) rfl)
theorem td_153_74 : decode prog_12_method_26_code 74 = .ok (.iadd, 1) := tb_b153_ok (74, .iadd, 1) (List.mem_of_getElem? (i := 42) rfl)
theorem td_153_75 : decode prog_12_method_26_code 75 = .ok ((.aload_n 0), 1) := tb_b153_ok (75, (.aload_n 0), 1) (List.mem_of_getElem? (i := 43) rfl)
theorem td_153_76 : decode prog_12_method_26_code 76 = .ok ((.iload_n 1), 1) := tb_b153_ok (76, (.iload_n 1), 1) (List.mem_of_getElem? (i := 44) rfl)
theorem td_153_77 : decode prog_12_method_26_code 77 = .ok ((.iload_n 2), 1) := tb_b153_ok (77, (.iload_n 2), 1) (List.mem_of_getElem? (i := 45) rfl)
theorem td_153_78 : decode prog_12_method_26_code 78 = .ok ((.invokevirtual 185), 3) := tb_b153_ok (78, (.invokevirtual 185), 3) (List.mem_of_getElem? (i := 46) rfl)
theorem td_153_81 : decode prog_12_method_26_code 81 = .ok ((.ifCond .eq (8)), 3) := tb_b153_ok (81, (.ifCond .eq (8)), 3) (List.mem_of_getElem? (i := 47) rfl)
theorem td_153_84 : decode prog_12_method_26_code 84 = .ok ((.bipush (8)), 2) := tb_b153_ok (84, (.bipush (8)), 2) (List.mem_of_getElem? (i := 48) rfl)
theorem td_153_86 : decode prog_12_method_26_code 86 = .ok ((.goto (4)), 3) := tb_b153_ok (86, (.goto (4)), 3) (List.mem_of_getElem? (i := 49) rfl)
theorem td_153_89 : decode prog_12_method_26_code 89 = .ok ((.iconst (0)), 1) := tb_b153_ok (89, (.iconst (0)), 1) (List.mem_of_getElem? (i := 50) rfl)
theorem td_153_90 : decode prog_12_method_26_code 90 = .ok (.iadd, 1) := tb_b153_ok (90, .iadd, 1) (List.mem_of_getElem? (i := 51) rfl)
theorem td_153_91 : decode prog_12_method_26_code 91 = .ok (.ireturn, 1) := tb_b153_ok (91, .ireturn, 1) (List.mem_of_getElem? (i := 52) rfl)
theorem td_169_0 : decode prog_12_method_28_code 0 = .ok ((.aload_n 0), 1) := tb_b169_ok (0, (.aload_n 0), 1) (List.mem_of_getElem? (i := 0) rfl)
theorem td_169_1 : decode prog_12_method_28_code 1 = .ok ((.iconst (4)), 1) := tb_b169_ok (1, (.iconst (4)), 1) (List.mem_of_getElem? (i := 1) rfl)
theorem td_169_2 : decode prog_12_method_28_code 2 = .ok ((.iload_n 1), 1) := tb_b169_ok (2, (.iload_n 1), 1) (List.mem_of_getElem? (i := 2) rfl)
theorem td_169_3 : decode prog_12_method_28_code 3 = .ok (.imul, 1) := tb_b169_ok (3, .imul, 1) (List.mem_of_getElem? (i := 3) rfl)
theorem td_169_4 : decode prog_12_method_28_code 4 = .ok ((.iload_n 2), 1) := tb_b169_ok (4, (.iload_n 2), 1) (List.mem_of_getElem? (i := 4) rfl)
theorem td_169_5 : decode prog_12_method_28_code 5 = .ok ((.bipush (6)), 2) := tb_b169_ok (5, (.bipush (6)), 2) (List.mem_of_getElem? (i := 5) rfl)
theorem td_169_7 : decode prog_12_method_28_code 7 = .ok (.ishr, 1) := tb_b169_ok (7, .ishr, 1) (List.mem_of_getElem? (i := 6) rfl)
theorem td_169_8 : decode prog_12_method_28_code 8 = .ok (.iadd, 1) := tb_b169_ok (8, .iadd, 1) (List.mem_of_getElem? (i := 7) rfl)
theorem td_169_9 : decode prog_12_method_28_code 9 = .ok (.dup2, 1) := tb_b169_ok (9, .dup2, 1) (List.mem_of_getElem? (i := 8) rfl)
theorem td_169_10 : decode prog_12_method_28_code 10 = .ok (.laload, 1) := tb_b169_ok (10, .laload, 1) (List.mem_of_getElem? (i := 9) rfl)
theorem td_169_11 : decode prog_12_method_28_code 11 = .ok ((.lconst 1), 1) := tb_b169_ok (11, (.lconst 1), 1) (List.mem_of_getElem? (i := 10) rfl)
theorem td_169_12 : decode prog_12_method_28_code 12 = .ok ((.iload_n 2), 1) := tb_b169_ok (12, (.iload_n 2), 1) (List.mem_of_getElem? (i := 11) rfl)
theorem td_169_13 : decode prog_12_method_28_code 13 = .ok ((.bipush (63)), 2) := tb_b169_ok (13, (.bipush (63)), 2) (List.mem_of_getElem? (i := 12) rfl)
theorem td_169_15 : decode prog_12_method_28_code 15 = .ok (.iand, 1) := tb_b169_ok (15, .iand, 1) (List.mem_of_getElem? (i := 13) rfl)
theorem td_169_16 : decode prog_12_method_28_code 16 = .ok (.lshl, 1) := tb_b169_ok (16, .lshl, 1) (List.mem_of_getElem? (i := 14) rfl)
theorem td_169_17 : decode prog_12_method_28_code 17 = .ok (.lor, 1) := tb_b169_ok (17, .lor, 1) (List.mem_of_getElem? (i := 15) rfl)
theorem td_169_18 : decode prog_12_method_28_code 18 = .ok (.lastore, 1) := tb_b169_ok (18, .lastore, 1) (List.mem_of_getElem? (i := 16) rfl)
theorem td_169_19 : decode prog_12_method_28_code 19 = .ok (.return_, 1) := tb_b169_ok (19, .return_, 1) (List.mem_of_getElem? (i := 17) rfl)
theorem td_149_0 : decode prog_12_method_10_code 0 = .ok ((.iconst (0)), 1) := tb_b149_ok (0, (.iconst (0)), 1) (List.mem_of_getElem? (i := 0) rfl)
theorem td_149_1 : decode prog_12_method_10_code 1 = .ok ((.istore_n 1), 1) := tb_b149_ok (1, (.istore_n 1), 1) (List.mem_of_getElem? (i := 1) rfl)
theorem td_149_2 : decode prog_12_method_10_code 2 = .ok ((.iload_n 1), 1) := tb_b149_ok (2, (.iload_n 1), 1) (List.mem_of_getElem? (i := 2) rfl)
theorem td_149_3 : decode prog_12_method_10_code 3 = .ok ((.bipush (36)), 2) := tb_b149_ok (3, (.bipush (36)), 2) (List.mem_of_getElem? (i := 3) rfl)
theorem td_149_5 : decode prog_12_method_10_code 5 = .ok ((.if_icmp .ge (16)), 3) := tb_b149_ok (5, (.if_icmp .ge (16)), 3) (List.mem_of_getElem? (i := 4) rfl)
theorem td_149_8 : decode prog_12_method_10_code 8 = .ok ((.aload_n 0), 1) := tb_b149_ok (8, (.aload_n 0), 1) (List.mem_of_getElem? (i := 5) rfl)
theorem td_149_9 : decode prog_12_method_10_code 9 = .ok ((.getfield 46), 3) := tb_b149_ok (9, (.getfield 46), 3) (List.mem_of_getElem? (i := 6) rfl)
theorem td_149_12 : decode prog_12_method_10_code 12 = .ok ((.iload_n 1), 1) := tb_b149_ok (12, (.iload_n 1), 1) (List.mem_of_getElem? (i := 7) rfl)
theorem td_149_13 : decode prog_12_method_10_code 13 = .ok ((.lconst 0), 1) := tb_b149_ok (13, (.lconst 0), 1) (List.mem_of_getElem? (i := 8) rfl)
theorem td_149_14 : decode prog_12_method_10_code 14 = .ok (.lastore, 1) := tb_b149_ok (14, .lastore, 1) (List.mem_of_getElem? (i := 9) rfl)
theorem td_149_15 : decode prog_12_method_10_code 15 = .ok ((.iinc 1 (1)), 3) := tb_b149_ok (15, (.iinc 1 (1)), 3) (List.mem_of_getElem? (i := 10) rfl)
theorem td_149_18 : decode prog_12_method_10_code 18 = .ok ((.goto (-16)), 3) := tb_b149_ok (18, (.goto (-16)), 3) (List.mem_of_getElem? (i := 11) rfl)
theorem td_149_21 : decode prog_12_method_10_code 21 = .ok ((.iconst (0)), 1) := tb_b149_ok (21, (.iconst (0)), 1) (List.mem_of_getElem? (i := 12) rfl)
theorem td_149_22 : decode prog_12_method_10_code 22 = .ok ((.istore_n 1), 1) := tb_b149_ok (22, (.istore_n 1), 1) (List.mem_of_getElem? (i := 13) rfl)
theorem td_149_23 : decode prog_12_method_10_code 23 = .ok ((.iload_n 1), 1) := tb_b149_ok (23, (.iload_n 1), 1) (List.mem_of_getElem? (i := 14) rfl)
theorem td_149_24 : decode prog_12_method_10_code 24 = .ok ((.aload_n 0), 1) := tb_b149_ok (24, (.aload_n 0), 1) (List.mem_of_getElem? (i := 15) rfl)
theorem td_149_25 : decode prog_12_method_10_code 25 = .ok ((.getfield 104), 3) := tb_b149_ok (25, (.getfield 104), 3) (List.mem_of_getElem? (i := 16) rfl)
theorem td_149_28 : decode prog_12_method_10_code 28 = .ok ((.if_icmp .ge (60)), 3) := tb_b149_ok (28, (.if_icmp .ge (60)), 3) (List.mem_of_getElem? (i := 17) rfl)
theorem td_149_31 : decode prog_12_method_10_code 31 = .ok ((.iconst (0)), 1) := tb_b149_ok (31, (.iconst (0)), 1) (List.mem_of_getElem? (i := 18) rfl)
theorem td_149_32 : decode prog_12_method_10_code 32 = .ok ((.istore_n 2), 1) := tb_b149_ok (32, (.istore_n 2), 1) (List.mem_of_getElem? (i := 19) rfl)
theorem td_149_33 : decode prog_12_method_10_code 33 = .ok ((.iload_n 2), 1) := tb_b149_ok (33, (.iload_n 2), 1) (List.mem_of_getElem? (i := 20) rfl)
theorem td_149_34 : decode prog_12_method_10_code 34 = .ok ((.iconst (2)), 1) := tb_b149_ok (34, (.iconst (2)), 1) (List.mem_of_getElem? (i := 21) rfl)
theorem td_149_35 : decode prog_12_method_10_code 35 = .ok ((.if_icmp .ge (47)), 3) := tb_b149_ok (35, (.if_icmp .ge (47)), 3) (List.mem_of_getElem? (i := 22) rfl)
theorem td_149_38 : decode prog_12_method_10_code 38 = .ok ((.aload_n 0), 1) := tb_b149_ok (38, (.aload_n 0), 1) (List.mem_of_getElem? (i := 23) rfl)
theorem td_149_39 : decode prog_12_method_10_code 39 = .ok ((.getfield 7), 3) := tb_b149_ok (39, (.getfield 7), 3) (List.mem_of_getElem? (i := 24) rfl)
theorem td_149_42 : decode prog_12_method_10_code 42 = .ok ((.iload_n 1), 1) := tb_b149_ok (42, (.iload_n 1), 1) (List.mem_of_getElem? (i := 25) rfl)
theorem td_149_43 : decode prog_12_method_10_code 43 = .ok (.iaload, 1) := tb_b149_ok (43, .iaload, 1) (List.mem_of_getElem? (i := 26) rfl)
theorem td_149_44 : decode prog_12_method_10_code 44 = .ok ((.bipush (18)), 2) := tb_b149_ok (44, (.bipush (18)), 2) (List.mem_of_getElem? (i := 27) rfl)
theorem td_149_46 : decode prog_12_method_10_code 46 = .ok ((.if_icmp .eq (36)), 3) := tb_b149_ok (46, (.if_icmp .eq (36)), 3) (List.mem_of_getElem? (i := 28) rfl)
theorem td_149_49 : decode prog_12_method_10_code 49 = .ok ((.aload_n 0), 1) := tb_b149_ok (49, (.aload_n 0), 1) (List.mem_of_getElem? (i := 29) rfl)
theorem td_149_50 : decode prog_12_method_10_code 50 = .ok ((.iload_n 1), 1) := tb_b149_ok (50, (.iload_n 1), 1) (List.mem_of_getElem? (i := 30) rfl)
theorem td_149_51 : decode prog_12_method_10_code 51 = .ok ((.iload_n 2), 1) := tb_b149_ok (51, (.iload_n 2), 1) (List.mem_of_getElem? (i := 31) rfl)
theorem td_149_52 : decode prog_12_method_10_code 52 = .ok ((.invokevirtual 137), 3) := tb_b149_ok (52, (.invokevirtual 137), 3) (List.mem_of_getElem? (i := 32) rfl)
theorem td_149_55 : decode prog_12_method_10_code 55 = .ok ((.istore_n 3), 1) := tb_b149_ok (55, (.istore_n 3), 1) (List.mem_of_getElem? (i := 33) rfl)
theorem td_149_56 : decode prog_12_method_10_code 56 = .ok ((.aload_n 0), 1) := tb_b149_ok (56, (.aload_n 0), 1) (List.mem_of_getElem? (i := 34) rfl)
theorem td_149_57 : decode prog_12_method_10_code 57 = .ok ((.getfield 46), 3) := tb_b149_ok (57, (.getfield 46), 3) (List.mem_of_getElem? (i := 35) rfl)
theorem td_149_60 : decode prog_12_method_10_code 60 = .ok ((.iload_n 1), 1) := tb_b149_ok (60, (.iload_n 1), 1) (List.mem_of_getElem? (i := 36) rfl)
theorem td_149_61 : decode prog_12_method_10_code 61 = .ok (.dup2, 1) := tb_b149_ok (61, .dup2, 1) (List.mem_of_getElem? (i := 37) rfl)
theorem td_149_62 : decode prog_12_method_10_code 62 = .ok (.laload, 1) := tb_b149_ok (62, .laload, 1) (List.mem_of_getElem? (i := 38) rfl)
theorem td_149_63 : decode prog_12_method_10_code 63 = .ok ((.iload_n 3), 1) := tb_b149_ok (63, (.iload_n 3), 1) (List.mem_of_getElem? (i := 39) rfl)
theorem td_149_64 : decode prog_12_method_10_code 64 = .ok ((.ifCond .ge (7)), 3) := tb_b149_ok (64, (.ifCond .ge (7)), 3) (List.mem_of_getElem? (i := 40) rfl)
theorem td_149_67 : decode prog_12_method_10_code 67 = .ok ((.lconst 0), 1) := tb_b149_ok (67, (.lconst 0), 1) (List.mem_of_getElem? (i := 41) rfl)
theorem td_149_68 : decode prog_12_method_10_code 68 = .ok ((.goto (6)), 3) := tb_b149_ok (68, (.goto (6)), 3) (List.mem_of_getElem? (i := 42) rfl)
theorem td_149_71 : decode prog_12_method_10_code 71 = .ok ((.lconst 1), 1) := tb_b149_ok (71, (.lconst 1), 1) (List.mem_of_getElem? (i := 43) rfl)
theorem td_149_72 : decode prog_12_method_10_code 72 = .ok ((.iload_n 3), 1) := tb_b149_ok (72, (.iload_n 3), 1) (List.mem_of_getElem? (i := 44) rfl)
theorem td_149_73 : decode prog_12_method_10_code 73 = .ok (.lshl, 1) := tb_b149_ok (73, .lshl, 1) (List.mem_of_getElem? (i := 45) rfl)
theorem td_149_74 : decode prog_12_method_10_code 74 = .ok (.lor, 1) := tb_b149_ok (74, .lor, 1) (List.mem_of_getElem? (i := 46) rfl)
theorem td_149_75 : decode prog_12_method_10_code 75 = .ok (.lastore, 1) := tb_b149_ok (75, .lastore, 1) (List.mem_of_getElem? (i := 47) rfl)
theorem td_149_76 : decode prog_12_method_10_code 76 = .ok ((.iinc 2 (1)), 3) := tb_b149_ok (76, (.iinc 2 (1)), 3) (List.mem_of_getElem? (i := 48) rfl)
theorem td_149_79 : decode prog_12_method_10_code 79 = .ok ((.goto (-46)), 3) := tb_b149_ok (79, (.goto (-46)), 3) (List.mem_of_getElem? (i := 49) rfl)
theorem td_149_82 : decode prog_12_method_10_code 82 = .ok ((.iinc 1 (1)), 3) := tb_b149_ok (82, (.iinc 1 (1)), 3) (List.mem_of_getElem? (i := 50) rfl)
theorem td_149_85 : decode prog_12_method_10_code 85 = .ok ((.goto (-62)), 3) := tb_b149_ok (85, (.goto (-62)), 3) (List.mem_of_getElem? (i := 51) rfl)
theorem td_149_88 : decode prog_12_method_10_code 88 = .ok ((.iconst (0)), 1) := tb_b149_ok (88, (.iconst (0)), 1) (List.mem_of_getElem? (i := 52) rfl)
theorem td_149_89 : decode prog_12_method_10_code 89 = .ok ((.istore_n 1), 1) := tb_b149_ok (89, (.istore_n 1), 1) (List.mem_of_getElem? (i := 53) rfl)
theorem td_149_90 : decode prog_12_method_10_code 90 = .ok ((.iload_n 1), 1) := tb_b149_ok (90, (.iload_n 1), 1) (List.mem_of_getElem? (i := 54) rfl)
theorem td_149_91 : decode prog_12_method_10_code 91 = .ok ((.bipush (36)), 2) := tb_b149_ok (91, (.bipush (36)), 2) (List.mem_of_getElem? (i := 55) rfl)
theorem td_149_93 : decode prog_12_method_10_code 93 = .ok ((.if_icmp .ge (57)), 3) := tb_b149_ok (93, (.if_icmp .ge (57)), 3) (List.mem_of_getElem? (i := 56) rfl)
theorem td_149_96 : decode prog_12_method_10_code 96 = .ok ((.iconst (0)), 1) := tb_b149_ok (96, (.iconst (0)), 1) (List.mem_of_getElem? (i := 57) rfl)
theorem td_149_97 : decode prog_12_method_10_code 97 = .ok ((.istore_n 2), 1) := tb_b149_ok (97, (.istore_n 2), 1) (List.mem_of_getElem? (i := 58) rfl)
theorem td_149_98 : decode prog_12_method_10_code 98 = .ok ((.iload_n 2), 1) := tb_b149_ok (98, (.iload_n 2), 1) (List.mem_of_getElem? (i := 59) rfl)
theorem td_149_99 : decode prog_12_method_10_code 99 = .ok ((.bipush (36)), 2) := tb_b149_ok (99, (.bipush (36)), 2) (List.mem_of_getElem? (i := 60) rfl)
theorem td_149_101 : decode prog_12_method_10_code 101 = .ok ((.if_icmp .ge (43)), 3) := tb_b149_ok (101, (.if_icmp .ge (43)), 3) (List.mem_of_getElem? (i := 61) rfl)
theorem td_149_104 : decode prog_12_method_10_code 104 = .ok ((.aload_n 0), 1) := tb_b149_ok (104, (.aload_n 0), 1) (List.mem_of_getElem? (i := 62) rfl)
theorem td_149_105 : decode prog_12_method_10_code 105 = .ok ((.getfield 46), 3) := tb_b149_ok (105, (.getfield 46), 3) (List.mem_of_getElem? (i := 63) rfl)
theorem td_149_108 : decode prog_12_method_10_code 108 = .ok ((.iload_n 2), 1) := tb_b149_ok (108, (.iload_n 2), 1) (List.mem_of_getElem? (i := 64) rfl)
theorem td_149_109 : decode prog_12_method_10_code 109 = .ok (.dup2, 1) := tb_b149_ok (109, .dup2, 1) (List.mem_of_getElem? (i := 65) rfl)
theorem td_149_110 : decode prog_12_method_10_code 110 = .ok (.laload, 1) := tb_b149_ok (110, .laload, 1) (List.mem_of_getElem? (i := 66) rfl)
theorem td_149_111 : decode prog_12_method_10_code 111 = .ok ((.aload_n 0), 1) := tb_b149_ok (111, (.aload_n 0), 1) (List.mem_of_getElem? (i := 67) rfl)
theorem td_149_112 : decode prog_12_method_10_code 112 = .ok ((.getfield 46), 3) := tb_b149_ok (112, (.getfield 46), 3) (List.mem_of_getElem? (i := 68) rfl)
theorem td_149_115 : decode prog_12_method_10_code 115 = .ok ((.iload_n 2), 1) := tb_b149_ok (115, (.iload_n 2), 1) (List.mem_of_getElem? (i := 69) rfl)
theorem td_149_116 : decode prog_12_method_10_code 116 = .ok (.laload, 1) := tb_b149_ok (116, .laload, 1) (List.mem_of_getElem? (i := 70) rfl)
theorem td_149_117 : decode prog_12_method_10_code 117 = .ok ((.iload_n 1), 1) := tb_b149_ok (117, (.iload_n 1), 1) (List.mem_of_getElem? (i := 71) rfl)
theorem td_149_118 : decode prog_12_method_10_code 118 = .ok (.lshr, 1) := tb_b149_ok (118, .lshr, 1) (List.mem_of_getElem? (i := 72) rfl)
theorem td_149_119 : decode prog_12_method_10_code 119 = .ok ((.lconst 1), 1) := tb_b149_ok (119, (.lconst 1), 1) (List.mem_of_getElem? (i := 73) rfl)
theorem td_149_120 : decode prog_12_method_10_code 120 = .ok (.land, 1) := tb_b149_ok (120, .land, 1) (List.mem_of_getElem? (i := 74) rfl)
theorem td_149_121 : decode prog_12_method_10_code 121 = .ok ((.lconst 0), 1) := tb_b149_ok (121, (.lconst 0), 1) (List.mem_of_getElem? (i := 75) rfl)
theorem td_149_122 : decode prog_12_method_10_code 122 = .ok (.lcmp, 1) := tb_b149_ok (122, .lcmp, 1) (List.mem_of_getElem? (i := 76) rfl)
theorem td_149_123 : decode prog_12_method_10_code 123 = .ok ((.ifCond .eq (12)), 3) := tb_b149_ok (123, (.ifCond .eq (12)), 3) (List.mem_of_getElem? (i := 77) rfl)
theorem td_149_126 : decode prog_12_method_10_code 126 = .ok ((.aload_n 0), 1) := tb_b149_ok (126, (.aload_n 0), 1) (List.mem_of_getElem? (i := 78) rfl)
theorem td_149_127 : decode prog_12_method_10_code 127 = .ok ((.getfield 46), 3) := tb_b149_ok (127, (.getfield 46), 3) (List.mem_of_getElem? (i := 79) rfl)
theorem td_149_130 : decode prog_12_method_10_code 130 = .ok ((.iload_n 1), 1) := tb_b149_ok (130, (.iload_n 1), 1) (List.mem_of_getElem? (i := 80) rfl)
theorem td_149_131 : decode prog_12_method_10_code 131 = .ok (.laload, 1) := tb_b149_ok (131, .laload, 1) (List.mem_of_getElem? (i := 81) rfl)
theorem td_149_132 : decode prog_12_method_10_code 132 = .ok ((.goto (4)), 3) := tb_b149_ok (132, (.goto (4)), 3) (List.mem_of_getElem? (i := 82) rfl)
theorem td_149_135 : decode prog_12_method_10_code 135 = .ok ((.lconst 0), 1) := tb_b149_ok (135, (.lconst 0), 1) (List.mem_of_getElem? (i := 83) rfl)
theorem td_149_136 : decode prog_12_method_10_code 136 = .ok (.lor, 1) := tb_b149_ok (136, .lor, 1) (List.mem_of_getElem? (i := 84) rfl)
theorem td_149_137 : decode prog_12_method_10_code 137 = .ok (.lastore, 1) := tb_b149_ok (137, .lastore, 1) (List.mem_of_getElem? (i := 85) rfl)
theorem td_149_138 : decode prog_12_method_10_code 138 = .ok ((.iinc 2 (1)), 3) := tb_b149_ok (138, (.iinc 2 (1)), 3) (List.mem_of_getElem? (i := 86) rfl)
theorem td_149_141 : decode prog_12_method_10_code 141 = .ok ((.goto (-43)), 3) := tb_b149_ok (141, (.goto (-43)), 3) (List.mem_of_getElem? (i := 87) rfl)
theorem td_149_144 : decode prog_12_method_10_code 144 = .ok ((.iinc 1 (1)), 3) := tb_b149_ok (144, (.iinc 1 (1)), 3) (List.mem_of_getElem? (i := 88) rfl)
theorem td_149_147 : decode prog_12_method_10_code 147 = .ok ((.goto (-57)), 3) := tb_b149_ok (147, (.goto (-57)), 3) (List.mem_of_getElem? (i := 89) rfl)
theorem td_149_150 : decode prog_12_method_10_code 150 = .ok (.return_, 1) := tb_b149_ok (150, .return_, 1) (List.mem_of_getElem? (i := 90) rfl)
/-! the reference's build on a fresh object -/
theorem sm_l42 {a b c d : Option Value} : ∀ (i : Nat) (v : Value), ([a, b, none, none] : List (Option Value))[i]? = some (some v) → ([a, b, c, d] : List (Option Value))[i]? = some (some v)
  | 0, _, h => h
  | 1, _, h => h
  | 2, _, h => by cases h
  | 3, _, h => by cases h
  | i + 4, _, h => by simp at h
theorem sm_l41 {a b c d : Option Value} : ∀ (i : Nat) (v : Value), ([a, none, none, none] : List (Option Value))[i]? = some (some v) → ([a, b, c, d] : List (Option Value))[i]? = some (some v)
  | 0, _, h => h
  | 1, _, h => by cases h
  | 2, _, h => by cases h
  | 3, _, h => by cases h
  | i + 4, _, h => by simp at h
def mb_L0 : List (Option Value) := [some (.ref 46), none, none]
def mb_L1 : List (Option Value) := [some (.ref 46), some (.int (-1)), some (.int 0)]
def mb_T : Option (dp_T ⊕ dp_R) := ev_T 1 146 80 (3, some .int, false) (0, mb_L0, [], ev_s2, ev_Pm, dp_w0)
theorem mb_T_ok : ev_okT mb_T 80 mb_L1 [.ref 46] ev_s2 = true := by decide +kernel
def mb_P : dp_P := (ev_getT mb_T).1
/-- all but the rows of dependences -/
def mb_f (P : dp_P) : dp_P := (P.1, fun q j => bif Nat.ble 60 q && Nat.ble q 62 then none else P.2 q j)
def mb_F : dp_P := mb_f mb_P
theorem mb_f_le {P : dp_P} {μ : sm_M} (h : dp_le P μ) : dp_le (mb_f P) μ := by
  refine ⟨h.1, fun q j v hv => h.2 q j v ?_⟩
  have hv : (bif Nat.ble 60 q && Nat.ble q 62 then none else P.2 q j) = some v := hv
  cases hb : (Nat.ble 60 q && Nat.ble q 62) with
  | true => rw [hb] at hv; cases hv
  | false => rw [hb] at hv; exact hv
theorem mb_f_ul {P : dp_P} {μ : sm_M} (h : dp_le (mb_f P) μ) {p i : Nat} {v : Int64} (h1 : 60 ≤ p) (h2 : p ≤ 62) : dp_le (mb_f P) (sm_ul μ p i v) := by
  refine ⟨h.1, fun q j u hu => ?_⟩
  by_cases hq : q = p
  · subst hq
    have hu : (bif Nat.ble 60 q && Nat.ble q 62 then none else P.2 q j) = some u := hu
    rw [Nat.ble_eq_true_of_le h1, Nat.ble_eq_true_of_le h2] at hu
    cases hu
  · have h3 := h.2 q j u hu
    simpa [sm_ul, hq] using h3
/-! ways -/
theorem mb_keep {P : dp_P} {μ : sm_M} (h : dp_le P μ) {p i : Nat} {v : Int64} (hv : P.2 p i = some v) : dp_le P (sm_ul μ p i v) := by
  refine ⟨h.1, fun q j u hu => ?_⟩
  by_cases hq : q = p
  · subst hq
    by_cases hj : j = i
    · subst hj
      rw [hv] at hu
      cases hu
      simp [sm_ul, vp_updL]
    · have h3 := h.2 q j u hu
      simpa [sm_ul, vp_updL, hj] using h3
  · have h3 := h.2 q j u hu
    simpa [sm_ul, hq] using h3
theorem mb_r0 : (List.range 36).all (fun n => decide (mb_F.2 59 n = some 0)) = true := by decide +kernel
theorem mb_sh : (List.range 36).all (fun k => decide (lg_cmp ((0 : Int64) >>> ((nI k).toInt64 &&& 63) &&& Int64.ofNat ((1 : Fin 2) : Nat)) (Int64.ofNat ((0 : Fin 2) : Nat)) = 0)) = true := by decide +kernel
theorem mb_ways_C {Z : sm_Z} (ad : Nat → Nat) (μ : sm_M) (h : dp_le mb_F μ) : sm_C tb_cl Z (tb_ys 149) (tb_ws 149) (dp_rm 1 32 ev_s2 ev_s2) [.ref 46] ad ev_s2 μ (fun r sh' μ' => r = none ∧ sh' = ev_s2 ∧ dp_le mb_F μ') := by
  refine sm_enter (cc := prog_12_method_10_code) (nL := 4) (ret := none) (by decide +kernel) (Nat.le_of_ble_eq_true rfl) (fun X hXZ hX hf => ?_)
  rw [show (tb_ys 149).cls = "ProgramSlicesModel" by decide +kernel] at hX
  have r0 : ∀ n, n < 36 → mb_F.2 59 n = some 0 := fun n hn => of_decide_eq_true (List.all_eq_true.mp mb_r0 n (List.mem_range.mpr hn))
  have inner : ∀ (k : Nat), k < 36 → (∀ μ1 : sm_M, dp_le mb_F μ1 → sm_E tb_cl X 90 [some (.ref 46), some (.int (nI (k + 1))), none, none] [] ad ev_s2 μ1) → ∀ (q n : Nat), n + q = 36 → ∀ μ1 : sm_M, dp_le mb_F μ1 → sm_E tb_cl X 98 [some (.ref 46), some (.int (nI k)), some (.int (nI n)), none] [] ad ev_s2 μ1 := by
    intro k hk next q
    induction q with
    | zero =>
      intro n hn μ1 h1
      have hn : n = 36 := by omega
      subst hn
      refine sm_iloadN hX td_149_98 rfl ?_
      refine sm_bipush hX td_149_99 ?_
      refine sm_icmp_ge hX 144 td_149_101 (by decide) (fun _ => ?_) (fun z => absurd (by decide) z)
      refine sm_iincG hX td_149_144 rfl rfl (by decide) ?_
      refine sm_goto hX 90 td_149_147 (by decide) ?_
      have e : nI k + Int32.ofInt 1 = nI (k + 1) := nI_1 k
      rw [e]
      refine sm_E.less ?_ (next μ1 h1)
      exact sm_l42
    | succ q ih =>
      intro n hn μ1 h1
      have hv : μ1.2 59 (nI n).toNatClampNeg = 0 := by
        rw [nI_clamp (show n < 2 ^ 31 by omega)]
        exact h1.2 59 n 0 (r0 n (by omega))
      have hc := of_decide_eq_true (List.all_eq_true.mp mb_sh k (List.mem_range.mpr hk))
      refine sm_iloadN hX td_149_98 rfl ?_
      refine sm_bipush hX td_149_99 ?_
      refine sm_icmp_ge hX 144 td_149_101 (by decide) (fun z => absurd z (nI_ge (a := n) (b := 36) (by omega) (by omega))) (fun _ => ?_)
      refine sm_aloadN hX td_149_104 rfl ?_
      refine sm_getR hX (k := 15) (q := 59) (ci := 10) (T := tb_T10) (N' := 38) (C := "ProgramSlicesModel") rfl rfl (by decide) rfl tb_u10 tb_w646 td_149_105 ?_
      refine sm_iloadN hX td_149_108 rfl ?_
      refine sm_dup2 hX td_149_109 rfl rfl ?_
      refine sm_lald hX (p := 59) (len := 36) rfl (nI_in (by omega) (by omega)) td_149_110 ?_
      refine sm_aloadN hX td_149_111 rfl ?_
      refine sm_getR hX (k := 15) (q := 59) (ci := 10) (T := tb_T10) (N' := 38) (C := "ProgramSlicesModel") rfl rfl (by decide) rfl tb_u10 tb_w646 td_149_112 ?_
      refine sm_iloadN hX td_149_115 rfl ?_
      refine sm_lald hX (p := 59) (len := 36) rfl (nI_in (by omega) (by omega)) td_149_116 ?_
      rw [hv]
      refine sm_iloadN hX td_149_117 rfl ?_
      refine sm_lshr hX td_149_118 ?_
      refine sm_lconst hX td_149_119 ?_
      refine sm_land hX td_149_120 ?_
      refine sm_lconst hX td_149_121 ?_
      refine sm_lcmp hX td_149_122 ?_
      refine sm_if_eq hX 135 td_149_123 (by decide) (fun _ => ?_) (fun z => absurd hc z)
      refine sm_lconst hX td_149_135 ?_
      refine sm_lor hX td_149_136 ?_
      refine sm_last hX (p := 59) (len := 36) rfl (nI_in (by omega) (by omega)) td_149_137 ?_
      refine sm_iincG hX td_149_138 rfl rfl (by decide) ?_
      refine sm_goto hX 98 td_149_141 (by decide) ?_
      have e : nI n + Int32.ofInt 1 = nI (n + 1) := nI_1 n
      rw [e, nI_clamp (show n < 2 ^ 31 by omega)]
      exact ih (n + 1) (by omega) _ (mb_keep h1 (r0 n (by omega)))
  have outer : ∀ (q k : Nat), k + q = 36 → ∀ μ1 : sm_M, dp_le mb_F μ1 → sm_E tb_cl X 90 [some (.ref 46), some (.int (nI k)), none, none] [] ad ev_s2 μ1 := by
    intro q
    induction q with
    | zero =>
      intro k hk μ1 h1
      have hk : k = 36 := by omega
      subst hk
      refine sm_iloadN hX td_149_90 rfl ?_
      refine sm_bipush hX td_149_91 ?_
      refine sm_icmp_ge hX 150 td_149_93 (by decide) (fun _ => ?_) (fun z => absurd (by decide) z)
      exact sm_vret hX hf rfl rfl (fun _ _ => rfl) rfl td_149_150 ⟨rfl, rfl, h1⟩
    | succ q ih =>
      intro k hk μ1 h1
      refine sm_iloadN hX td_149_90 rfl ?_
      refine sm_bipush hX td_149_91 ?_
      refine sm_icmp_ge hX 150 td_149_93 (by decide) (fun z => absurd z (nI_ge (a := k) (b := 36) (by omega) (by omega))) (fun _ => ?_)
      refine sm_iconst hX td_149_96 ?_
      refine sm_istoreN hX td_149_97 rfl (by decide) ?_
      exact inner k (by omega) (ih (k + 1) (by omega)) 36 0 (by omega) μ1 h1
  have hcount : mb_F.1 46 0 = some 0 := by decide +kernel
  have clear : ∀ (q k : Nat), k + q = 36 → ∀ μ1 : sm_M, dp_le mb_F μ1 → sm_E tb_cl X 2 [some (.ref 46), some (.int (nI k)), none, none] [] ad ev_s2 μ1 := by
    intro q
    induction q with
    | zero =>
      intro k hk μ1 h1
      have hk : k = 36 := by omega
      subst hk
      refine sm_iloadN hX td_149_2 rfl ?_
      refine sm_bipush hX td_149_3 ?_
      refine sm_icmp_ge hX 21 td_149_5 (by decide) (fun _ => ?_) (fun z => absurd (by decide) z)
      refine sm_iconst hX td_149_21 ?_
      refine sm_istoreN hX td_149_22 rfl (by decide) ?_
      refine sm_iloadN hX td_149_23 rfl ?_
      refine sm_aloadN hX td_149_24 rfl ?_
      refine sm_getI hX (k := 0) (ci := 10) (T := tb_T10) (N' := 38) (C := "ProgramSlicesModel") rfl rfl (by decide) rfl tb_u10 tb_w631 td_149_25 ?_
      rw [h1.1 46 0 0 hcount]
      refine sm_icmp_ge hX 88 td_149_28 (by decide) (fun _ => ?_) (fun z => absurd (by decide) z)
      refine sm_iconst hX td_149_88 ?_
      refine sm_istoreN hX td_149_89 rfl (by decide) ?_
      exact outer 36 0 (by omega) μ1 h1
    | succ q ih =>
      intro k hk μ1 h1
      refine sm_iloadN hX td_149_2 rfl ?_
      refine sm_bipush hX td_149_3 ?_
      refine sm_icmp_ge hX 21 td_149_5 (by decide) (fun z => absurd z (nI_ge (a := k) (b := 36) (by omega) (by omega))) (fun _ => ?_)
      refine sm_aloadN hX td_149_8 rfl ?_
      refine sm_getR hX (k := 15) (q := 59) (ci := 10) (T := tb_T10) (N' := 38) (C := "ProgramSlicesModel") rfl rfl (by decide) rfl tb_u10 tb_w646 td_149_9 ?_
      refine sm_iloadN hX td_149_12 rfl ?_
      refine sm_lconst hX td_149_13 ?_
      refine sm_last hX (p := 59) (len := 36) rfl (nI_in (by omega) (by omega)) td_149_14 ?_
      refine sm_iincG hX td_149_15 rfl rfl (by decide) ?_
      refine sm_goto hX 2 td_149_18 (by decide) ?_
      have e : nI k + Int32.ofInt 1 = nI (k + 1) := nI_1 k
      rw [e, nI_clamp (show k < 2 ^ 31 by omega)]
      exact ih (k + 1) (by omega) _ (mb_keep h1 (r0 k (by omega)))
  refine sm_iconst hX td_149_0 ?_
  refine sm_istoreN hX td_149_1 rfl (by decide) ?_
  exact clear 36 0 (by omega) μ h
/-! exists, by a table -/
def mb_ex (n : Nat) : Bool := Nat.ble 224 n && Nat.ble (n + 1) 231
def mb_okx (n : Nat) : Bool := match tb_cf 2 154 [.ref 46, .int (nI n)] ev_s2 mb_F with
  | some R => decide (R.1 = some (.int (bif mb_ex n then 1 else 0))) && (decide (R.2.1 = ev_s2) && Nat.ble R.2.2.2.2 R.2.2.2.1)
  | none => false
theorem mb_okx_all : (List.range 252).all mb_okx = true := by decide +kernel
theorem mb_ex_C {Z : sm_Z} (hZ : Z.2.2.2 = tb_N) {n : Nat} (hn : n < 252) (ad : Nat → Nat) (μ : sm_M) (h : dp_le mb_F μ) : sm_C tb_cl Z (tb_ys 154) (tb_ws 154) (dp_rm 2 64 ev_s2 ev_s2) [.ref 46, .int (nI n)] ad ev_s2 μ (fun r sh' μ' => r = some (.int (bif mb_ex n then 1 else 0)) ∧ sh' = ev_s2 ∧ μ' = μ) := by
  have h1 := List.all_eq_true.mp mb_okx_all n (List.mem_range.mpr hn)
  unfold mb_okx at h1
  split at h1
  · rename_i R hR
    rw [Bool.and_eq_true, Bool.and_eq_true] at h1
    obtain ⟨z1, z2, z3⟩ := h1
    have z1 := of_decide_eq_true z1
    have z2 := of_decide_eq_true z2
    have z3 := Nat.le_of_ble_eq_true z3
    have h5 := (tb_cfok hZ tb_prs 2 _ _ _ _ _ hR).2.2 ad μ h
    rw [z2] at h5
    exact h5.imp (fun r sh' μ' q => ⟨q.1.trans z1, q.2.1.trans z2, q.2.2.2.all z3⟩)
  · cases h1
end
section
/-! how of two nodes that are there, by a table -/
def mb_isI : Option Value → Bool
  | some (.int _) => true
  | _ => false
def mb_okh (n m : Nat) : Bool := match tb_cf 5 153 [.ref 46, .int (nI n), .int (nI m)] ev_s2 mb_F with
  | some R => mb_isI R.1 && (decide (R.2.1 = ev_s2) && Nat.ble R.2.2.2.2 R.2.2.2.1)
  | none => false
theorem mb_okh_all : (List.range 7).all (fun a => (List.range 7).all (fun b => mb_okh (224 + a) (224 + b))) = true := by decide +kernel
theorem mb_how_C {Z : sm_Z} (hZ : Z.2.2.2 = tb_N) {n m : Nat} (hn : n < 252) (hm : m < 252) (ad : Nat → Nat) (μ : sm_M) (h : dp_le mb_F μ) : sm_C tb_cl Z (tb_ys 153) (tb_ws 153) (dp_rm 5 160 ev_s2 ev_s2) [.ref 46, .int (nI n), .int (nI m)] ad ev_s2 μ (fun r sh' μ' => (∃ v, r = some (.int v)) ∧ sh' = ev_s2 ∧ μ' = μ) := by
  by_cases hb : mb_ex n = true ∧ mb_ex m = true
  · obtain ⟨b1, b2⟩ := hb
    unfold mb_ex at b1 b2
    rw [Bool.and_eq_true] at b1 b2
    have c1 := Nat.le_of_ble_eq_true b1.1
    have c2 := Nat.le_of_ble_eq_true b1.2
    have c3 := Nat.le_of_ble_eq_true b2.1
    have c4 := Nat.le_of_ble_eq_true b2.2
    have h1 := List.all_eq_true.mp (List.all_eq_true.mp mb_okh_all (n - 224) (List.mem_range.mpr (by omega))) (m - 224) (List.mem_range.mpr (by omega))
    rw [show 224 + (n - 224) = n by omega, show 224 + (m - 224) = m by omega] at h1
    unfold mb_okh at h1
    split at h1
    · rename_i R hR
      rw [Bool.and_eq_true, Bool.and_eq_true] at h1
      obtain ⟨z1, z2, z3⟩ := h1
      have z2 := of_decide_eq_true z2
      have z3 := Nat.le_of_ble_eq_true z3
      have z1 : ∃ v, R.1 = some (.int v) := by
        cases hr : R.1 with
        | none => rw [hr] at z1; cases z1
        | some x =>
          cases x with
          | int v => exact ⟨v, rfl⟩
          | _ => rw [hr] at z1; cases z1
      obtain ⟨v, z1⟩ := z1
      have h5 := (tb_cfok hZ tb_prs 5 _ _ _ _ _ hR).2.2 ad μ h
      rw [z2] at h5
      exact h5.imp (fun r sh' μ' q => ⟨⟨v, q.1.trans z1⟩, q.2.1.trans z2, q.2.2.2.all z3⟩)
    · cases h1
  · refine sm_enter (cc := prog_12_method_26_code) (nL := 3) (ret := some .int) (by decide +kernel) (Nat.le_of_ble_eq_true rfl) (fun X hXZ hX hf => ?_)
    subst hXZ
    rw [show (tb_ys 153).cls = "ProgramSlicesModel" by decide +kernel] at hX
    have fin : ∀ L : List (Option Value), sm_E tb_cl X 29 L [] ad ev_s2 μ := by
      intro L
      refine sm_iconst hX td_153_29 ?_
      exact sm_iret hX hf rfl rfl (fun _ _ => rfl) rfl td_153_30 ⟨⟨_, rfl⟩, rfl, rfl⟩
    refine sm_aloadN hX td_153_0 rfl ?_
    refine sm_iloadN hX td_153_1 rfl ?_
    refine tb_v11_7 _ X _ _ _ _ _ _ hZ hX _ _ [] ad ev_s2 μ [.ref 46, .int (nI n)] _ (dp_rm 2 64 ev_s2 ev_s2) rfl ⟨46, _, _, rfl, rfl⟩ (mb_ex_C hZ hn ad μ h) (by decide) (by decide) (by decide) (by decide) (by decide) td_153_2 (fun v ad' sh' μ' e1 e2 hag q => ?_)
    obtain ⟨rfl, rfl, rfl⟩ := q
    have ea : ad' = ad := sm_ag_eq hag
    subst ea
    refine ⟨Or.inl (by decide), ?_⟩
    refine sm_if_eq hX 29 td_153_5 (by decide) (fun _ => fin _) (fun hne => ?_)
    have b1 : mb_ex n = true := by
      cases hb1 : mb_ex n with
      | true => rfl
      | false => rw [hb1] at hne; exact absurd rfl hne
    refine sm_aloadN hX td_153_8 rfl ?_
    refine sm_iloadN hX td_153_9 rfl ?_
    refine tb_v11_7 _ X _ _ _ _ _ _ hZ hX _ _ [] ad' ev_s2 μ' [.ref 46, .int (nI m)] _ (dp_rm 2 64 ev_s2 ev_s2) rfl ⟨46, _, _, rfl, rfl⟩ (mb_ex_C hZ hm ad' μ' h) (by decide) (by decide) (by decide) (by decide) (by decide) td_153_10 (fun v ad'' sh' μ'' e1 e2 hag q => ?_)
    obtain ⟨rfl, rfl, rfl⟩ := q
    have ea : ad'' = ad' := sm_ag_eq hag
    subst ea
    refine ⟨Or.inl (by decide), ?_⟩
    refine sm_if_eq hX 29 td_153_13 (by decide) (fun _ => fin _) (fun hne => ?_)
    exfalso
    apply hb
    refine ⟨b1, ?_⟩
    cases hb1 : mb_ex m with
    | true => rfl
    | false => rw [hb1] at hne; exact absurd rfl hne
end
section
/-! put -/
theorem mb_ix1 : (List.range 252).all (fun n => decide (Int32.ofInt 4 * nI n = nI (4 * n))) = true := by decide +kernel
theorem mb_ix2 : (List.range 252).all (fun n => decide (nI n >>> ((Int8.ofInt 6).toInt32 &&& 31) = nI (n / 64))) = true := by decide +kernel
theorem mb_put_C {Z : sm_Z} {p n m : Nat} (hp : ev_s2[p]? = some (.inr (2, 1008))) (h60 : 60 ≤ p) (h62 : p ≤ 62) (hn : n < 252) (hm : m < 252) (ad : Nat → Nat) (μ : sm_M) (h : dp_le mb_F μ) : sm_C tb_cl Z (tb_ys 169) (tb_ws 169) (dp_rm 1 32 ev_s2 ev_s2) [.ref p, .int (nI n), .int (nI m)] ad ev_s2 μ (fun r sh' μ' => r = none ∧ sh' = ev_s2 ∧ dp_le mb_F μ') := by
  refine sm_enter (cc := prog_12_method_28_code) (nL := 3) (ret := none) (by decide +kernel) (Nat.le_of_ble_eq_true rfl) (fun X hXZ hX hf => ?_)
  rw [show (tb_ys 169).cls = "ProgramSlicesModel" by decide +kernel] at hX
  have i1 := of_decide_eq_true (List.all_eq_true.mp mb_ix1 n (List.mem_range.mpr hn))
  have i2 := of_decide_eq_true (List.all_eq_true.mp mb_ix2 m (List.mem_range.mpr hm))
  have hin : vp_in (Int32.ofInt 4 * nI n + nI m >>> ((Int8.ofInt 6).toInt32 &&& 31)) 1008 := by
    rw [i1, i2, nI_add]
    exact nI_in (by omega) (by omega)
  refine sm_aloadN hX td_169_0 rfl ?_
  refine sm_iconst hX td_169_1 ?_
  refine sm_iloadN hX td_169_2 rfl ?_
  refine sm_imul hX td_169_3 ?_
  refine sm_iloadN hX td_169_4 rfl ?_
  refine sm_bipush hX td_169_5 ?_
  refine sm_ishr hX td_169_7 ?_
  refine sm_iadd hX td_169_8 ?_
  refine sm_dup2 hX td_169_9 rfl rfl ?_
  refine sm_lald hX hp hin td_169_10 ?_
  refine sm_lconst hX td_169_11 ?_
  refine sm_iloadN hX td_169_12 rfl ?_
  refine sm_bipush hX td_169_13 ?_
  refine sm_iand hX td_169_15 ?_
  refine sm_lshl hX td_169_16 ?_
  refine sm_lor hX td_169_17 ?_
  refine sm_last hX hp hin td_169_18 ?_
  exact sm_vret hX hf rfl rfl (fun _ _ => rfl) rfl td_169_19 ⟨rfl, rfl, mb_f_ul h h60 h62⟩
/-! dependences -/
theorem mb_dep_C {Z : sm_Z} (hZ : Z.2.2.2 = tb_N) (ad : Nat → Nat) (μ : sm_M) (h : dp_le mb_F μ) : sm_C tb_cl Z (tb_ys 152) (tb_ws 152) (dp_rm 6 192 ev_s2 ev_s2) [.ref 46] ad ev_s2 μ (fun r sh' μ' => r = none ∧ sh' = ev_s2) := by
  refine sm_enter (cc := prog_12_method_29_code) (nL := 4) (ret := none) (by decide +kernel) (Nat.le_of_ble_eq_true rfl) (fun X hXZ hX hf => ?_)
  subst hXZ
  rw [show (tb_ys 152).cls = "ProgramSlicesModel" by decide +kernel] at hX
  -- behind the loops
  have tail : ∀ μ1 : sm_M, dp_le mb_F μ1 → sm_E tb_cl X 84 [some (.ref 46), none, none, none] [] ad ev_s2 μ1 := by
    intro μ1 h1
    refine ev_T_E hZ rfl hX ⟨rfl, by decide +kernel⟩ (n := 0) (j := 152) (stop := 256) (L' := [some (.ref 46), some (.int 0), some (.int 1), some (.int 0)]) (st' := []) (P := mb_F) (by decide) (by decide) (by decide) (by decide) (by decide +kernel) h1 (fun μ2 h2 h3 => ?_)
    exact sm_vret hX hf rfl rfl (fun _ _ => rfl) rfl td_152_256 ⟨rfl, rfl⟩
  -- the inner loop, with what follows it
  have inner : ∀ (n : Nat), n < 252 → (∀ μ1 : sm_M, dp_le mb_F μ1 → sm_E tb_cl X 38 [some (.ref 46), some (.int (nI (n + 1))), none, none] [] ad ev_s2 μ1) → ∀ (q k : Nat), k + q = 252 → ∀ μ1 : sm_M, dp_le mb_F μ1 → sm_E tb_cl X 47 [some (.ref 46), some (.int (nI n)), some (.int (nI k)), none] [] ad ev_s2 μ1 := by
    intro n hn next q
    induction q with
    | zero =>
      intro k hk μ1 h1
      have hk : k = 252 := by omega
      subst hk
      refine sm_iloadN hX td_152_47 rfl ?_
      refine sm_sipush hX td_152_48 ?_
      refine sm_icmp_ge hX 78 td_152_51 (by decide) (fun _ => ?_) (fun z => absurd (by decide) z)
      refine sm_iincG hX td_152_78 rfl rfl (by decide) ?_
      refine sm_goto hX 38 td_152_81 (by decide) ?_
      have e : nI n + Int32.ofInt 1 = nI (n + 1) := nI_1 n
      rw [e]
      refine sm_E.less ?_ (next μ1 h1)
      exact sm_l42
    | succ q ih =>
      intro k hk μ1 h1
      have more : ∀ μ2 : sm_M, dp_le mb_F μ2 → sm_E tb_cl X 72 [some (.ref 46), some (.int (nI n)), some (.int (nI k)), none] [] ad ev_s2 μ2 := by
        intro μ2 h2
        refine sm_iincG hX td_152_72 rfl rfl (by decide) ?_
        refine sm_goto hX 47 td_152_75 (by decide) ?_
        have e : nI k + Int32.ofInt 1 = nI (k + 1) := nI_1 k
        rw [e]
        exact ih (k + 1) (by omega) μ2 h2
      refine sm_iloadN hX td_152_47 rfl ?_
      refine sm_sipush hX td_152_48 ?_
      refine sm_icmp_ge hX 78 td_152_51 (by decide) (fun z => absurd z (nI_ge (a := k) (b := 252) (by omega) (by omega))) (fun _ => ?_)
      refine sm_aloadN hX td_152_54 rfl ?_
      refine sm_iloadN hX td_152_55 rfl ?_
      refine sm_iloadN hX td_152_56 rfl ?_
      refine tb_v11_6 _ X _ _ _ _ _ _ hZ hX _ _ [] ad ev_s2 μ1 [.ref 46, .int (nI n), .int (nI k)] _ (dp_rm 5 160 ev_s2 ev_s2) rfl ⟨46, _, _, rfl, rfl⟩ (mb_how_C hZ hn (by omega) ad μ1 h1) (by decide) (by decide) (by decide) (by decide) (by decide) td_152_57 (fun v ad' sh' μ' e1 e2 hag hq => ?_)
      obtain ⟨⟨v, rfl⟩, rfl, rfl⟩ := hq
      have ea : ad' = ad := sm_ag_eq hag
      subst ea
      refine ⟨Or.inl (by decide), ?_⟩
      refine sm_if_eq hX 72 td_152_60 (by decide) (fun _ => more μ' h1) (fun _ => ?_)
      refine sm_aloadN hX td_152_63 rfl ?_
      refine sm_getR hX (k := 16) (q := 60) (ci := 10) (T := tb_T10) (N' := 38) (C := "ProgramSlicesModel") rfl rfl (by decide) rfl tb_u10 tb_w647 td_152_64 ?_
      refine sm_iloadN hX td_152_67 rfl ?_
      refine sm_iloadN hX td_152_68 rfl ?_
      refine tb_s11_4 _ X _ _ _ _ _ _ hZ hX _ _ [] ad' ev_s2 μ' [.ref 60, .int (nI n), .int (nI k)] _ (dp_rm 1 32 ev_s2 ev_s2) rfl trivial (mb_put_C rfl (by decide) (by decide) hn (by omega) ad' μ' h1) (by decide) (by decide) (by decide) (by decide) (by decide) td_152_69 (fun v ad'' sh' μ'' e1 e2 hag hq => ?_)
      obtain ⟨rfl, rfl, h2⟩ := hq
      have ea : ad'' = ad' := sm_ag_eq hag
      subst ea
      exact ⟨Or.inl (by decide), more μ'' h2⟩
  -- the outer loop
  have outer : ∀ (q k : Nat), k + q = 252 → ∀ μ1 : sm_M, dp_le mb_F μ1 → sm_E tb_cl X 38 [some (.ref 46), some (.int (nI k)), none, none] [] ad ev_s2 μ1 := by
    intro q
    induction q with
    | zero =>
      intro k hk μ1 h1
      have hk : k = 252 := by omega
      subst hk
      refine sm_iloadN hX td_152_38 rfl ?_
      refine sm_sipush hX td_152_39 ?_
      refine sm_icmp_ge hX 84 td_152_42 (by decide) (fun _ => ?_) (fun z => absurd (by decide) z)
      refine sm_E.less ?_ (tail μ1 h1)
      exact sm_l41
    | succ q ih =>
      intro k hk μ1 h1
      refine sm_iloadN hX td_152_38 rfl ?_
      refine sm_sipush hX td_152_39 ?_
      refine sm_icmp_ge hX 84 td_152_42 (by decide) (fun z => absurd z (nI_ge (a := k) (b := 252) (by omega) (by omega))) (fun _ => ?_)
      refine sm_iconst hX td_152_45 ?_
      refine sm_istoreN hX td_152_46 rfl (by decide) ?_
      exact inner k (by omega) (ih (k + 1) (by omega)) 252 0 (by omega) μ1 h1
  -- the rows are emptied
  have clear : ∀ (q k : Nat), k + q = 1008 → ∀ μ1 : sm_M, dp_le mb_F μ1 → sm_E tb_cl X 2 [some (.ref 46), some (.int (nI k)), none, none] [] ad ev_s2 μ1 := by
    intro q
    induction q with
    | zero =>
      intro k hk μ1 h1
      have hk : k = 1008 := by omega
      subst hk
      refine sm_iloadN hX td_152_2 rfl ?_
      refine sm_sipush hX td_152_3 ?_
      refine sm_icmp_ge hX 36 td_152_6 (by decide) (fun _ => ?_) (fun z => absurd (by decide) z)
      refine sm_iconst hX td_152_36 ?_
      refine sm_istoreN hX td_152_37 rfl (by decide) ?_
      exact outer 252 0 (by omega) μ1 h1
    | succ q ih =>
      intro k hk μ1 h1
      refine sm_iloadN hX td_152_2 rfl ?_
      refine sm_sipush hX td_152_3 ?_
      refine sm_icmp_ge hX 36 td_152_6 (by decide) (fun z => absurd z (nI_ge (a := k) (b := 1008) (by omega) (by omega))) (fun _ => ?_)
      refine sm_aloadN hX td_152_9 rfl ?_
      refine sm_getR hX (k := 16) (q := 60) (ci := 10) (T := tb_T10) (N' := 38) (C := "ProgramSlicesModel") rfl rfl (by decide) rfl tb_u10 tb_w647 td_152_10 ?_
      refine sm_iloadN hX td_152_13 rfl ?_
      refine sm_lconst hX td_152_14 ?_
      refine sm_last hX (p := 60) (len := 1008) rfl (nI_in (by omega) (by omega)) td_152_15 ?_
      refine sm_aloadN hX td_152_16 rfl ?_
      refine sm_getR hX (k := 17) (q := 61) (ci := 10) (T := tb_T10) (N' := 38) (C := "ProgramSlicesModel") rfl rfl (by decide) rfl tb_u10 tb_w648 td_152_17 ?_
      refine sm_iloadN hX td_152_20 rfl ?_
      refine sm_lconst hX td_152_21 ?_
      refine sm_last hX (p := 61) (len := 1008) rfl (nI_in (by omega) (by omega)) td_152_22 ?_
      refine sm_aloadN hX td_152_23 rfl ?_
      refine sm_getR hX (k := 18) (q := 62) (ci := 10) (T := tb_T10) (N' := 38) (C := "ProgramSlicesModel") rfl rfl (by decide) rfl tb_u10 tb_w649 td_152_24 ?_
      refine sm_iloadN hX td_152_27 rfl ?_
      refine sm_lconst hX td_152_28 ?_
      refine sm_last hX (p := 62) (len := 1008) rfl (nI_in (by omega) (by omega)) td_152_29 ?_
      refine sm_iincG hX td_152_30 rfl rfl (by decide) ?_
      refine sm_goto hX 2 td_152_33 (by decide) ?_
      have e : nI k + Int32.ofInt 1 = nI (k + 1) := nI_1 k
      rw [e]
      exact ih (k + 1) (by omega) _ (mb_f_ul (mb_f_ul (mb_f_ul h1 (by decide) (by decide)) (by decide) (by decide)) (by decide) (by decide))
  refine sm_iconst hX td_152_0 ?_
  refine sm_istoreN hX td_152_1 rfl (by decide) ?_
  exact clear 1008 0 (by omega) μ h
theorem mb_C {Z : sm_Z} (hZ : Z.2.2.2 = tb_N) (ad : Nat → Nat) (μ : sm_M) (h : dp_le ev_Pm μ) : sm_C tb_cl Z (tb_ys 146) (tb_ws 146) (dp_rm 7 224 ev_s2 ev_s2) [.ref 46] ad ev_s2 μ (fun r sh' μ' => r = some (.int 0) ∧ sh' = ev_s2) := by
  refine sm_enter (cc := prog_12_method_7_code) (nL := 3) (ret := some .int) (by decide +kernel) (Nat.le_of_ble_eq_true rfl) (fun X hXZ hX hf => ?_)
  subst hXZ
  rw [show (tb_ys 146).cls = "ProgramSlicesModel" by decide +kernel] at hX
  refine ev_T_E hZ rfl hX ⟨rfl, by decide +kernel⟩ (n := 1) (j := 146) (by decide) (by decide) (by decide) (by decide) mb_T_ok h (fun μ1 h1 _ => ?_)
  have h1 := mb_f_le h1
  refine tb_v11_2 _ X _ _ _ _ _ _ hZ hX _ _ [] ad ev_s2 μ1 [.ref 46] _ (dp_rm 1 32 ev_s2 ev_s2) rfl ⟨46, _, _, rfl, rfl⟩ (mb_ways_C ad μ1 h1) (by decide) (by decide) (by decide) (by decide) (by decide) td_146_80 (fun v ad' sh' μ2 e1 e2 hag hq => ?_)
  obtain ⟨rfl, rfl, h1⟩ := hq
  have ea : ad' = ad := sm_ag_eq hag
  subst ea
  refine ⟨Or.inl (by decide), ?_⟩
  generalize μ2 = μ1 at h1 ⊢
  refine sm_aloadN hX td_146_83 rfl ?_
  refine tb_v11_5 _ X _ _ _ _ _ _ hZ hX _ _ [] ad' ev_s2 μ1 [.ref 46] _ (dp_rm 6 192 ev_s2 ev_s2) rfl ⟨46, _, _, rfl, rfl⟩ (mb_dep_C hZ ad' μ1 h1) (by decide) (by decide) (by decide) (by decide) (by decide) td_146_84 (fun v ad'' sh' μ' e1 e2 hag hq => ?_)
  obtain ⟨rfl, rfl⟩ := hq
  have ea : ad'' = ad' := sm_ag_eq hag
  subst ea
  refine ⟨Or.inl (by decide), ?_⟩
  refine sm_iconst hX td_146_87 ?_
  exact sm_iret hX hf rfl rfl (fun _ _ => rfl) rfl td_146_88 ⟨rfl, rfl⟩
end
section
theorem td_15_0 : decode prog_1_method_22_code 0 = .ok ((.iload_n 0), 1) := tb_b15_ok (0, (.iload_n 0), 1) (List.mem_of_getElem? (i := 0) rfl)
theorem td_15_1 : decode prog_1_method_22_code 1 = .ok ((.ifCond .lt (12)), 3) := tb_b15_ok (1, (.ifCond .lt (12)), 3) (List.mem_of_getElem? (i := 1) rfl)
theorem td_15_4 : decode prog_1_method_22_code 4 = .ok ((.iload_n 0), 1) := tb_b15_ok (4, (.iload_n 0), 1) (List.mem_of_getElem? (i := 2) rfl)
theorem td_15_5 : decode prog_1_method_22_code 5 = .ok ((.iconst (4)), 1) := tb_b15_ok (5, (.iconst (4)), 1) (List.mem_of_getElem? (i := 3) rfl)
theorem td_15_6 : decode prog_1_method_22_code 6 = .ok ((.if_icmp .ge (7)), 3) := tb_b15_ok (6, (.if_icmp .ge (7)), 3) (List.mem_of_getElem? (i := 4) rfl)
theorem td_15_9 : decode prog_1_method_22_code 9 = .ok ((.iconst (1)), 1) := tb_b15_ok (9, (.iconst (1)), 1) (List.mem_of_getElem? (i := 5) rfl)
theorem td_15_10 : decode prog_1_method_22_code 10 = .ok ((.goto (4)), 3) := tb_b15_ok (10, (.goto (4)), 3) (List.mem_of_getElem? (i := 6) rfl)
theorem td_15_13 : decode prog_1_method_22_code 13 = .ok ((.iconst (0)), 1) := tb_b15_ok (13, (.iconst (0)), 1) (List.mem_of_getElem? (i := 7) rfl)
theorem td_15_14 : decode prog_1_method_22_code 14 = .ok (.ireturn, 1) := tb_b15_ok (14, .ireturn, 1) (List.mem_of_getElem? (i := 8) rfl)
theorem td_83_0 : decode prog_7_method_3_code 0 = .ok ((.iload_n 1), 1) := tb_b83_ok (0, (.iload_n 1), 1) (List.mem_of_getElem? (i := 0) rfl)
theorem td_83_1 : decode prog_7_method_3_code 1 = .ok ((.ifCond .lt (15)), 3) := tb_b83_ok (1, (.ifCond .lt (15)), 3) (List.mem_of_getElem? (i := 1) rfl)
theorem td_83_4 : decode prog_7_method_3_code 4 = .ok ((.iload_n 1), 1) := tb_b83_ok (4, (.iload_n 1), 1) (List.mem_of_getElem? (i := 2) rfl)
theorem td_83_5 : decode prog_7_method_3_code 5 = .ok ((.aload_n 0), 1) := tb_b83_ok (5, (.aload_n 0), 1) (List.mem_of_getElem? (i := 3) rfl)
theorem td_83_6 : decode prog_7_method_3_code 6 = .ok ((.getfield 21), 3) := tb_b83_ok (6, (.getfield 21), 3) (List.mem_of_getElem? (i := 4) rfl)
theorem td_83_9 : decode prog_7_method_3_code 9 = .ok ((.if_icmp .ge (7)), 3) := tb_b83_ok (9, (.if_icmp .ge (7)), 3) (List.mem_of_getElem? (i := 5) rfl)
theorem td_83_12 : decode prog_7_method_3_code 12 = .ok ((.iconst (1)), 1) := tb_b83_ok (12, (.iconst (1)), 1) (List.mem_of_getElem? (i := 6) rfl)
theorem td_83_13 : decode prog_7_method_3_code 13 = .ok ((.goto (4)), 3) := tb_b83_ok (13, (.goto (4)), 3) (List.mem_of_getElem? (i := 7) rfl)
theorem td_83_16 : decode prog_7_method_3_code 16 = .ok ((.iconst (0)), 1) := tb_b83_ok (16, (.iconst (0)), 1) (List.mem_of_getElem? (i := 8) rfl)
theorem td_83_17 : decode prog_7_method_3_code 17 = .ok (.ireturn, 1) := tb_b83_ok (17, .ireturn, 1) (List.mem_of_getElem? (i := 9) rfl)
theorem td_144_0 : decode prog_12_method_2_code 0 = .ok ((.iload_n 0), 1) := tb_b144_ok (0, (.iload_n 0), 1) (List.mem_of_getElem? (i := 0) rfl)
theorem td_144_1 : decode prog_12_method_2_code 1 = .ok ((.ifCond .lt (12)), 3) := tb_b144_ok (1, (.ifCond .lt (12)), 3) (List.mem_of_getElem? (i := 1) rfl)
theorem td_144_4 : decode prog_12_method_2_code 4 = .ok ((.iload_n 0), 1) := tb_b144_ok (4, (.iload_n 0), 1) (List.mem_of_getElem? (i := 2) rfl)
theorem td_144_5 : decode prog_12_method_2_code 5 = .ok ((.iconst (3)), 1) := tb_b144_ok (5, (.iconst (3)), 1) (List.mem_of_getElem? (i := 3) rfl)
theorem td_144_6 : decode prog_12_method_2_code 6 = .ok ((.if_icmp .gt (7)), 3) := tb_b144_ok (6, (.if_icmp .gt (7)), 3) (List.mem_of_getElem? (i := 4) rfl)
theorem td_144_9 : decode prog_12_method_2_code 9 = .ok ((.iconst (1)), 1) := tb_b144_ok (9, (.iconst (1)), 1) (List.mem_of_getElem? (i := 5) rfl)
theorem td_144_10 : decode prog_12_method_2_code 10 = .ok ((.goto (4)), 3) := tb_b144_ok (10, (.goto (4)), 3) (List.mem_of_getElem? (i := 6) rfl)
theorem td_144_13 : decode prog_12_method_2_code 13 = .ok ((.iconst (0)), 1) := tb_b144_ok (13, (.iconst (0)), 1) (List.mem_of_getElem? (i := 7) rfl)
theorem td_144_14 : decode prog_12_method_2_code 14 = .ok (.ireturn, 1) := tb_b144_ok (14, .ireturn, 1) (List.mem_of_getElem? (i := 8) rfl)
theorem td_197_0 : decode prog_12_method_55_code 0 = .ok ((.iload_n 1), 1) := tb_b197_ok (0, (.iload_n 1), 1) (List.mem_of_getElem? (i := 0) rfl)
theorem td_197_1 : decode prog_12_method_55_code 1 = .ok ((.ifCond .lt (15)), 3) := tb_b197_ok (1, (.ifCond .lt (15)), 3) (List.mem_of_getElem? (i := 1) rfl)
theorem td_197_4 : decode prog_12_method_55_code 4 = .ok ((.iload_n 1), 1) := tb_b197_ok (4, (.iload_n 1), 1) (List.mem_of_getElem? (i := 2) rfl)
theorem td_197_5 : decode prog_12_method_55_code 5 = .ok ((.aload_n 0), 1) := tb_b197_ok (5, (.aload_n 0), 1) (List.mem_of_getElem? (i := 3) rfl)
theorem td_197_6 : decode prog_12_method_55_code 6 = .ok ((.getfield 86), 3) := tb_b197_ok (6, (.getfield 86), 3) (List.mem_of_getElem? (i := 4) rfl)
theorem td_197_9 : decode prog_12_method_55_code 9 = .ok ((.if_icmp .ge (7)), 3) := tb_b197_ok (9, (.if_icmp .ge (7)), 3) (List.mem_of_getElem? (i := 5) rfl)
theorem td_197_12 : decode prog_12_method_55_code 12 = .ok ((.iconst (1)), 1) := tb_b197_ok (12, (.iconst (1)), 1) (List.mem_of_getElem? (i := 6) rfl)
theorem td_197_13 : decode prog_12_method_55_code 13 = .ok ((.goto (4)), 3) := tb_b197_ok (13, (.goto (4)), 3) (List.mem_of_getElem? (i := 7) rfl)
theorem td_197_16 : decode prog_12_method_55_code 16 = .ok ((.iconst (0)), 1) := tb_b197_ok (16, (.iconst (0)), 1) (List.mem_of_getElem? (i := 8) rfl)
theorem td_197_17 : decode prog_12_method_55_code 17 = .ok (.ireturn, 1) := tb_b197_ok (17, .ireturn, 1) (List.mem_of_getElem? (i := 9) rfl)
/-! methods whose arguments matter, on fresh objects -/
def fb (x : Int32) : Bool := decide (0 ≤ x) && decide (x < 4)
theorem fb_neg {x : Int32} (h : x < 0) : fb x = false := by
  unfold fb
  rw [decide_eq_false (Int32.not_le.mpr h)]
  rfl
theorem fb_ge {x : Int32} (h : (4 : Int32) ≤ x) : fb x = false := by
  unfold fb
  rw [decide_eq_false (Int32.not_lt.mpr h), Bool.and_false]
theorem fb_in {x : Int32} (h1 : ¬ x < 0) (h2 : ¬ (4 : Int32) ≤ x) : fb x = true := by
  unfold fb
  rw [decide_eq_true (Int32.not_lt.mp h1), decide_eq_true (Int32.not_le.mp h2)]
  rfl
theorem fb_gt {x : Int32} : (3 : Int32) < x ↔ (4 : Int32) ≤ x := by
  rw [Int32.lt_iff_toInt_lt, Int32.le_iff_toInt_le]
  have h3 : (3 : Int32).toInt = 3 := by decide
  have h4 : (4 : Int32).toInt = 4 := by decide
  rw [h3, h4]
  omega
theorem fb_nat {x : Int32} (h : fb x = true) : ∃ j : Nat, j < 4 ∧ x = nI j := by
  unfold fb at h
  rw [Bool.and_eq_true] at h
  have h1 := of_decide_eq_true h.1
  have h2 := of_decide_eq_true h.2
  have h3 : x ≤ (3 : Int32) := by
    rw [Int32.lt_iff_toInt_lt] at h2
    rw [Int32.le_iff_toInt_le]
    have e3 : (3 : Int32).toInt = 3 := by decide
    have e4 : (4 : Int32).toInt = 4 := by decide
    rw [e4] at h2
    rw [e3]
    omega
  obtain ⟨j, hj, e⟩ := nI_of2 (n := 3) (by decide) (Int32.not_lt.mpr h1) h3
  exact ⟨j, by omega, e⟩
def bI (b : Bool) : Int32 := bif b then 1 else 0
theorem bI_0 {b : Bool} (h : bI b = 0) : b = false := by cases b with | false => rfl | true => exact absurd h (by decide)
theorem bI_1 {b : Bool} (h : ¬ bI b = 0) : b = true := by cases b with | true => rfl | false => exact absurd rfl h
theorem one_of {x : Int32} (h1 : ¬ x < 0) (h2 : ¬ (1 : Int32) ≤ x) : x = 0 := by
  rw [Int32.lt_iff_toInt_lt] at h1
  rw [Int32.le_iff_toInt_le] at h2
  have e1 : (1 : Int32).toInt = 1 := by decide
  have e0 : (0 : Int32).toInt = 0 := by decide
  rw [e0] at h1
  rw [e1] at h2
  apply Int32.toInt_inj.mp
  rw [e0]
  omega
theorem f4_C {Z : sm_Z} (x : Int32) (ad : Nat → Nat) (μ : sm_M) : sm_C tb_cl Z (tb_ys 15) (tb_ws 15) (dp_rm 1 32 ev_s2 ev_s2) [.int x] ad ev_s2 μ (fun r sh' μ' => r = some (.int (bI (fb x))) ∧ sh' = ev_s2 ∧ μ' = μ) := by
  refine sm_enter (cc := prog_1_method_22_code) (nL := 1) (ret := some .boolean) (by decide +kernel) (Nat.le_of_ble_eq_true rfl) (fun X hXZ hX hf => ?_)
  have no : fb x = false → ∀ L, sm_E tb_cl X 13 L [] ad ev_s2 μ := fun hb L => by
    refine sm_iconst hX td_15_13 ?_
    exact sm_zret hX hf rfl rfl (fun _ _ => rfl) rfl (by decide) td_15_14 ⟨by rw [hb]; rfl, rfl, rfl⟩
  refine sm_iloadN hX td_15_0 rfl ?_
  refine sm_if_lt hX 13 td_15_1 (by decide) (fun h => no (fb_neg h) _) (fun h1 => ?_)
  refine sm_iloadN hX td_15_4 rfl ?_
  refine sm_iconst hX td_15_5 ?_
  refine sm_icmp_ge hX 13 td_15_6 (by decide) (fun h => no (fb_ge h) _) (fun h2 => ?_)
  refine sm_iconst hX td_15_9 ?_
  refine sm_goto hX 14 td_15_10 (by decide) ?_
  exact sm_zret hX hf rfl rfl (fun _ _ => rfl) rfl (by decide) td_15_14 ⟨by rw [fb_in h1 h2]; rfl, rfl, rfl⟩
theorem f4m_C {Z : sm_Z} (x : Int32) (ad : Nat → Nat) (μ : sm_M) : sm_C tb_cl Z (tb_ys 144) (tb_ws 144) (dp_rm 1 32 ev_s2 ev_s2) [.int x] ad ev_s2 μ (fun r sh' μ' => r = some (.int (bI (fb x))) ∧ sh' = ev_s2 ∧ μ' = μ) := by
  refine sm_enter (cc := prog_12_method_2_code) (nL := 1) (ret := some .boolean) (by decide +kernel) (Nat.le_of_ble_eq_true rfl) (fun X hXZ hX hf => ?_)
  have no : fb x = false → ∀ L, sm_E tb_cl X 13 L [] ad ev_s2 μ := fun hb L => by
    refine sm_iconst hX td_144_13 ?_
    exact sm_zret hX hf rfl rfl (fun _ _ => rfl) rfl (by decide) td_144_14 ⟨by rw [hb]; rfl, rfl, rfl⟩
  refine sm_iloadN hX td_144_0 rfl ?_
  refine sm_if_lt hX 13 td_144_1 (by decide) (fun h => no (fb_neg h) _) (fun h1 => ?_)
  refine sm_iloadN hX td_144_4 rfl ?_
  refine sm_iconst hX td_144_5 ?_
  refine sm_icmp_gt hX 13 td_144_6 (by decide) (fun h => no (fb_ge (fb_gt.mp h)) _) (fun h2 => ?_)
  refine sm_iconst hX td_144_9 ?_
  refine sm_goto hX 14 td_144_10 (by decide) ?_
  exact sm_zret hX hf rfl rfl (fun _ _ => rfl) rfl (by decide) td_144_14 ⟨by rw [fb_in h1 (fun z => h2 (fb_gt.mpr z))]; rfl, rfl, rfl⟩
theorem lv_C {Z : sm_Z} (x : Int32) (ad : Nat → Nat) (μ : sm_M) (h : dp_le ev_P2 μ) : sm_C tb_cl Z (tb_ys 83) (tb_ws 83) (dp_rm 1 32 ev_s2 ev_s2) [.ref 38, .int x] ad ev_s2 μ (fun r sh' μ' => r = some (.int (bI (decide (x = 0)))) ∧ sh' = ev_s2 ∧ μ' = μ) := by
  refine sm_enter (cc := prog_7_method_3_code) (nL := 2) (ret := some .boolean) (by decide +kernel) (Nat.le_of_ble_eq_true rfl) (fun X hXZ hX hf => ?_)
  rw [show (tb_ys 83).cls = "ProgramSlices$Order" by decide +kernel] at hX
  have hc : μ.1 38 0 = 1 := h.1 38 0 1 (by decide +kernel)
  have no : ¬ x = 0 → ∀ L, sm_E tb_cl X 16 L [] ad ev_s2 μ := fun hb L => by
    refine sm_iconst hX td_83_16 ?_
    exact sm_zret hX hf rfl rfl (fun _ _ => rfl) rfl (by decide) td_83_17 ⟨by rw [decide_eq_false hb]; rfl, rfl, rfl⟩
  refine sm_iloadN hX td_83_0 rfl ?_
  refine sm_if_lt hX 16 td_83_1 (by decide) (fun h => no (fun e => by rw [e] at h; exact absurd h (by decide)) _) (fun h1 => ?_)
  refine sm_iloadN hX td_83_4 rfl ?_
  refine sm_aloadN hX td_83_5 rfl ?_
  refine sm_getI hX (k := 0) (ci := 7) (T := tb_T7) (N' := 4) (C := "ProgramSlices$Order") rfl rfl (by decide) rfl tb_u7 tb_w551 td_83_6 ?_
  rw [hc]
  refine sm_icmp_ge hX 16 td_83_9 (by decide) (fun h => no (fun e => by rw [e] at h; exact absurd h (by decide)) _) (fun h2 => ?_)
  refine sm_iconst hX td_83_12 ?_
  refine sm_goto hX 17 td_83_13 (by decide) ?_
  exact sm_zret hX hf rfl rfl (fun _ _ => rfl) rfl (by decide) td_83_17 ⟨by rw [decide_eq_true (one_of h1 h2)]; rfl, rfl, rfl⟩
theorem lvm_C {Z : sm_Z} (x : Int32) (ad : Nat → Nat) (μ : sm_M) (h : dp_le ev_Pm μ) : sm_C tb_cl Z (tb_ys 197) (tb_ws 197) (dp_rm 1 32 ev_s2 ev_s2) [.ref 46, .int x] ad ev_s2 μ (fun r sh' μ' => r = some (.int (bI (decide (x = 0)))) ∧ sh' = ev_s2 ∧ μ' = μ) := by
  refine sm_enter (cc := prog_12_method_55_code) (nL := 2) (ret := some .boolean) (by decide +kernel) (Nat.le_of_ble_eq_true rfl) (fun X hXZ hX hf => ?_)
  rw [show (tb_ys 197).cls = "ProgramSlicesModel" by decide +kernel] at hX
  have hc : μ.1 46 34 = 1 := h.1 46 34 1 (by decide +kernel)
  have no : ¬ x = 0 → ∀ L, sm_E tb_cl X 16 L [] ad ev_s2 μ := fun hb L => by
    refine sm_iconst hX td_197_16 ?_
    exact sm_zret hX hf rfl rfl (fun _ _ => rfl) rfl (by decide) td_197_17 ⟨by rw [decide_eq_false hb]; rfl, rfl, rfl⟩
  refine sm_iloadN hX td_197_0 rfl ?_
  refine sm_if_lt hX 16 td_197_1 (by decide) (fun h => no (fun e => by rw [e] at h; exact absurd h (by decide)) _) (fun h1 => ?_)
  refine sm_iloadN hX td_197_4 rfl ?_
  refine sm_aloadN hX td_197_5 rfl ?_
  refine sm_getI hX (k := 34) (ci := 10) (T := tb_T10) (N' := 38) (C := "ProgramSlicesModel") rfl rfl (by decide) rfl tb_u10 tb_w665 td_197_6 ?_
  rw [hc]
  refine sm_icmp_ge hX 16 td_197_9 (by decide) (fun h => no (fun e => by rw [e] at h; exact absurd h (by decide)) _) (fun h2 => ?_)
  refine sm_iconst hX td_197_12 ?_
  refine sm_goto hX 17 td_197_13 (by decide) ?_
  exact sm_zret hX hf rfl rfl (fun _ _ => rfl) rfl (by decide) td_197_17 ⟨by rw [decide_eq_true (one_of h1 h2)]; rfl, rfl, rfl⟩
end
