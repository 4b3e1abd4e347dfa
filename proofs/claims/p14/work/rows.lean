section
-- ===== PART A: goes FIRST, ahead of the names: the tables' words, and 'selects' of the private methods out of them =====
/-- a private method of a class that the tables say can be made, by its rows of tables_1 -/
def lw_okq (q : MethodName × Nat) : Prop := (q.1.cls ≠ "java/lang/invoke/MethodHandle" ∧ q.1.cls ≠ "java/lang/invoke/VarHandle") ∧ Cond.instantiable q.1.cls q.2 ∈ tables_1 ∧ Cond.privateMethod q.1 ∈ tables_1 ∧ Cond.instanceMethod q.1 ∈ tables_1
theorem lw_p0 : lw_okq (⟨"ProgramSlices$Code", "place", "(I)Z"⟩, 14) := ⟨⟨by decide +kernel, by decide +kernel⟩, List.mem_of_getElem? (i := 23) (by decide +kernel), List.mem_of_getElem? (i := 391) (by decide +kernel), List.mem_of_getElem? (i := 392) (by decide +kernel)⟩
theorem lw_p1 : lw_okq (⟨"ProgramSlices$Code", "placeOpener", "(I)Z"⟩, 14) := ⟨⟨by decide +kernel, by decide +kernel⟩, List.mem_of_getElem? (i := 23) (by decide +kernel), List.mem_of_getElem? (i := 395) (by decide +kernel), List.mem_of_getElem? (i := 396) (by decide +kernel)⟩
theorem lw_p2 : lw_okq (⟨"ProgramSlices$Code", "placeElse", "(II)Z"⟩, 14) := ⟨⟨by decide +kernel, by decide +kernel⟩, List.mem_of_getElem? (i := 23) (by decide +kernel), List.mem_of_getElem? (i := 399) (by decide +kernel), List.mem_of_getElem? (i := 400) (by decide +kernel)⟩
theorem lw_p3 : lw_okq (⟨"ProgramSlices$Code", "placeEnd", "(II)Z"⟩, 14) := ⟨⟨by decide +kernel, by decide +kernel⟩, List.mem_of_getElem? (i := 23) (by decide +kernel), List.mem_of_getElem? (i := 403) (by decide +kernel), List.mem_of_getElem? (i := 404) (by decide +kernel)⟩
theorem lw_p4 : lw_okq (⟨"ProgramSlices$Code", "placeProc", "(I)Z"⟩, 14) := ⟨⟨by decide +kernel, by decide +kernel⟩, List.mem_of_getElem? (i := 23) (by decide +kernel), List.mem_of_getElem? (i := 407) (by decide +kernel), List.mem_of_getElem? (i := 408) (by decide +kernel)⟩
theorem lw_p5 : lw_okq (⟨"ProgramSlices$Code", "firstCallOfNothing", "()I"⟩, 14) := ⟨⟨by decide +kernel, by decide +kernel⟩, List.mem_of_getElem? (i := 23) (by decide +kernel), List.mem_of_getElem? (i := 411) (by decide +kernel), List.mem_of_getElem? (i := 412) (by decide +kernel)⟩
theorem lw_p6 : lw_okq (⟨"ProgramSlices$Ways", "stepsFrom", "(I)J"⟩, 6) := ⟨⟨by decide +kernel, by decide +kernel⟩, List.mem_of_getElem? (i := 108) (by decide +kernel), List.mem_of_getElem? (i := 434) (by decide +kernel), List.mem_of_getElem? (i := 435) (by decide +kernel)⟩
theorem lw_p7 : lw_okq (⟨"ProgramSlices$Ways", "flood", "(JJ)J"⟩, 6) := ⟨⟨by decide +kernel, by decide +kernel⟩, List.mem_of_getElem? (i := 108) (by decide +kernel), List.mem_of_getElem? (i := 450) (by decide +kernel), List.mem_of_getElem? (i := 451) (by decide +kernel)⟩
theorem lw_p8 : lw_okq (⟨"ProgramSlices$Dependences", "joinControl", "(I)V"⟩, 7) := ⟨⟨by decide +kernel, by decide +kernel⟩, List.mem_of_getElem? (i := 102) (by decide +kernel), List.mem_of_getElem? (i := 467) (by decide +kernel), List.mem_of_getElem? (i := 468) (by decide +kernel)⟩
theorem lw_p9 : lw_okq (⟨"ProgramSlices$Dependences", "joinAs", "(III)V"⟩, 7) := ⟨⟨by decide +kernel, by decide +kernel⟩, List.mem_of_getElem? (i := 102) (by decide +kernel), List.mem_of_getElem? (i := 474) (by decide +kernel), List.mem_of_getElem? (i := 475) (by decide +kernel)⟩
theorem lw_p10 : lw_okq (⟨"ProgramSlices$Dependences", "join", "(II)V"⟩, 7) := ⟨⟨by decide +kernel, by decide +kernel⟩, List.mem_of_getElem? (i := 102) (by decide +kernel), List.mem_of_getElem? (i := 478) (by decide +kernel), List.mem_of_getElem? (i := 479) (by decide +kernel)⟩
theorem lw_p11 : lw_okq (⟨"ProgramSlices$Dependences", "joinData", "(I)V"⟩, 7) := ⟨⟨by decide +kernel, by decide +kernel⟩, List.mem_of_getElem? (i := 102) (by decide +kernel), List.mem_of_getElem? (i := 487) (by decide +kernel), List.mem_of_getElem? (i := 488) (by decide +kernel)⟩
theorem lw_p12 : lw_okq (⟨"ProgramSlices$Dependences", "joinRead", "(IIII)V"⟩, 7) := ⟨⟨by decide +kernel, by decide +kernel⟩, List.mem_of_getElem? (i := 102) (by decide +kernel), List.mem_of_getElem? (i := 491) (by decide +kernel), List.mem_of_getElem? (i := 492) (by decide +kernel)⟩
theorem lw_p13 : lw_okq (⟨"ProgramSlices$Dependences", "joinHeap", "(I)V"⟩, 7) := ⟨⟨by decide +kernel, by decide +kernel⟩, List.mem_of_getElem? (i := 102) (by decide +kernel), List.mem_of_getElem? (i := 504) (by decide +kernel), List.mem_of_getElem? (i := 505) (by decide +kernel)⟩
theorem lw_p14 : lw_okq (⟨"ProgramSlices$Dependences", "joinSource", "(IIIII)V"⟩, 7) := ⟨⟨by decide +kernel, by decide +kernel⟩, List.mem_of_getElem? (i := 102) (by decide +kernel), List.mem_of_getElem? (i := 512) (by decide +kernel), List.mem_of_getElem? (i := 513) (by decide +kernel)⟩
theorem lw_p15 : lw_okq (⟨"ProgramSlices$Dependences", "joinHalt", "(I)V"⟩, 7) := ⟨⟨by decide +kernel, by decide +kernel⟩, List.mem_of_getElem? (i := 102) (by decide +kernel), List.mem_of_getElem? (i := 516) (by decide +kernel), List.mem_of_getElem? (i := 517) (by decide +kernel)⟩
def lw_privs_1 : List (MethodName × Nat) := [(⟨"ProgramSlices$Code", "place", "(I)Z"⟩, 14), (⟨"ProgramSlices$Code", "placeOpener", "(I)Z"⟩, 14), (⟨"ProgramSlices$Code", "placeElse", "(II)Z"⟩, 14), (⟨"ProgramSlices$Code", "placeEnd", "(II)Z"⟩, 14), (⟨"ProgramSlices$Code", "placeProc", "(I)Z"⟩, 14), (⟨"ProgramSlices$Code", "firstCallOfNothing", "()I"⟩, 14), (⟨"ProgramSlices$Ways", "stepsFrom", "(I)J"⟩, 6), (⟨"ProgramSlices$Ways", "flood", "(JJ)J"⟩, 6), (⟨"ProgramSlices$Dependences", "joinControl", "(I)V"⟩, 7), (⟨"ProgramSlices$Dependences", "joinAs", "(III)V"⟩, 7), (⟨"ProgramSlices$Dependences", "join", "(II)V"⟩, 7), (⟨"ProgramSlices$Dependences", "joinData", "(I)V"⟩, 7), (⟨"ProgramSlices$Dependences", "joinRead", "(IIII)V"⟩, 7), (⟨"ProgramSlices$Dependences", "joinHeap", "(I)V"⟩, 7), (⟨"ProgramSlices$Dependences", "joinSource", "(IIIII)V"⟩, 7), (⟨"ProgramSlices$Dependences", "joinHalt", "(I)V"⟩, 7)]
theorem lw_r1 : ∀ q ∈ lw_privs_1, lw_okq q := List.forall_mem_cons.mpr ⟨lw_p0, List.forall_mem_cons.mpr ⟨lw_p1, List.forall_mem_cons.mpr ⟨lw_p2, List.forall_mem_cons.mpr ⟨lw_p3, List.forall_mem_cons.mpr ⟨lw_p4, List.forall_mem_cons.mpr ⟨lw_p5, List.forall_mem_cons.mpr ⟨lw_p6, List.forall_mem_cons.mpr ⟨lw_p7, List.forall_mem_cons.mpr ⟨lw_p8, List.forall_mem_cons.mpr ⟨lw_p9, List.forall_mem_cons.mpr ⟨lw_p10, List.forall_mem_cons.mpr ⟨lw_p11, List.forall_mem_cons.mpr ⟨lw_p12, List.forall_mem_cons.mpr ⟨lw_p13, List.forall_mem_cons.mpr ⟨lw_p14, List.forall_mem_cons.mpr ⟨lw_p15, fun _ h => absurd h List.not_mem_nil⟩⟩⟩⟩⟩⟩⟩⟩⟩⟩⟩⟩⟩⟩⟩⟩
theorem lw_p16 : lw_okq (⟨"ProgramSlices$Dependences", "joinEnds", "(I)V"⟩, 7) := ⟨⟨by decide +kernel, by decide +kernel⟩, List.mem_of_getElem? (i := 102) (by decide +kernel), List.mem_of_getElem? (i := 520) (by decide +kernel), List.mem_of_getElem? (i := 521) (by decide +kernel)⟩
theorem lw_p17 : lw_okq (⟨"ProgramSlices$Walk", "summariseEnd", "(II)Z"⟩, 5) := ⟨⟨by decide +kernel, by decide +kernel⟩, List.mem_of_getElem? (i := 156) (by decide +kernel), List.mem_of_getElem? (i := 528) (by decide +kernel), List.mem_of_getElem? (i := 529) (by decide +kernel)⟩
theorem lw_p18 : lw_okq (⟨"ProgramSlices$Walk", "begin", "(I)V"⟩, 5) := ⟨⟨by decide +kernel, by decide +kernel⟩, List.mem_of_getElem? (i := 156) (by decide +kernel), List.mem_of_getElem? (i := 533) (by decide +kernel), List.mem_of_getElem? (i := 534) (by decide +kernel)⟩
theorem lw_p19 : lw_okq (⟨"ProgramSlices$Walk", "put", "(I)V"⟩, 5) := ⟨⟨by decide +kernel, by decide +kernel⟩, List.mem_of_getElem? (i := 156) (by decide +kernel), List.mem_of_getElem? (i := 538) (by decide +kernel), List.mem_of_getElem? (i := 539) (by decide +kernel)⟩
theorem lw_p20 : lw_okq (⟨"ProgramSlices$Walk", "follow", "(IZ)V"⟩, 5) := ⟨⟨by decide +kernel, by decide +kernel⟩, List.mem_of_getElem? (i := 156) (by decide +kernel), List.mem_of_getElem? (i := 542) (by decide +kernel), List.mem_of_getElem? (i := 543) (by decide +kernel)⟩
theorem lw_p21 : lw_okq (⟨"ProgramSlices$Walk", "putAll", "(II)V"⟩, 5) := ⟨⟨by decide +kernel, by decide +kernel⟩, List.mem_of_getElem? (i := 156) (by decide +kernel), List.mem_of_getElem? (i := 550) (by decide +kernel), List.mem_of_getElem? (i := 551) (by decide +kernel)⟩
theorem lw_p22 : lw_okq (⟨"ProgramSlices$Walk", "callsBeyond", "(IZ)I"⟩, 5) := ⟨⟨by decide +kernel, by decide +kernel⟩, List.mem_of_getElem? (i := 156) (by decide +kernel), List.mem_of_getElem? (i := 560) (by decide +kernel), List.mem_of_getElem? (i := 561) (by decide +kernel)⟩
theorem lw_p23 : lw_okq (⟨"ProgramSlices$Walk", "sideBeyond", "(IZ)I"⟩, 5) := ⟨⟨by decide +kernel, by decide +kernel⟩, List.mem_of_getElem? (i := 156) (by decide +kernel), List.mem_of_getElem? (i := 571) (by decide +kernel), List.mem_of_getElem? (i := 572) (by decide +kernel)⟩
theorem lw_p24 : lw_okq (⟨"ProgramSlices$Flows", "isSink", "(I)Z"⟩, 3) := ⟨⟨by decide +kernel, by decide +kernel⟩, List.mem_of_getElem? (i := 269) (by decide +kernel), List.mem_of_getElem? (i := 593) (by decide +kernel), List.mem_of_getElem? (i := 594) (by decide +kernel)⟩
theorem lw_p25 : lw_okq (⟨"ProgramSlices$Order", "hasCircle", "()Z"⟩, 4) := ⟨⟨by decide +kernel, by decide +kernel⟩, List.mem_of_getElem? (i := 250) (by decide +kernel), List.mem_of_getElem? (i := 648) (by decide +kernel), List.mem_of_getElem? (i := 649) (by decide +kernel)⟩
theorem lw_p26 : lw_okq (⟨"ProgramSlices$Order", "allJoin", "()Z"⟩, 4) := ⟨⟨by decide +kernel, by decide +kernel⟩, List.mem_of_getElem? (i := 250) (by decide +kernel), List.mem_of_getElem? (i := 652) (by decide +kernel), List.mem_of_getElem? (i := 653) (by decide +kernel)⟩
theorem lw_p27 : lw_okq (⟨"ProgramSlices$Order", "hasLeast", "(I)Z"⟩, 4) := ⟨⟨by decide +kernel, by decide +kernel⟩, List.mem_of_getElem? (i := 250) (by decide +kernel), List.mem_of_getElem? (i := 656) (by decide +kernel), List.mem_of_getElem? (i := 657) (by decide +kernel)⟩
theorem lw_p28 : lw_okq (⟨"ProgramSlices$Slice", "join", "(LProgramSlices$Walk;)V"⟩, 4) := ⟨⟨by decide +kernel, by decide +kernel⟩, List.mem_of_getElem? (i := 285) (by decide +kernel), List.mem_of_getElem? (i := 690) (by decide +kernel), List.mem_of_getElem? (i := 691) (by decide +kernel)⟩
theorem lw_p29 : lw_okq (⟨"ProgramSlices$Slice", "fitCall", "(LProgramSlices$Walk;II)Z"⟩, 4) := ⟨⟨by decide +kernel, by decide +kernel⟩, List.mem_of_getElem? (i := 285) (by decide +kernel), List.mem_of_getElem? (i := 719) (by decide +kernel), List.mem_of_getElem? (i := 720) (by decide +kernel)⟩
theorem lw_p30 : lw_okq (⟨"ProgramSlices$Slice", "lacks", "(III)Z"⟩, 4) := ⟨⟨by decide +kernel, by decide +kernel⟩, List.mem_of_getElem? (i := 285) (by decide +kernel), List.mem_of_getElem? (i := 723) (by decide +kernel), List.mem_of_getElem? (i := 724) (by decide +kernel)⟩
theorem lw_p31 : lw_okq (⟨"ProgramSlices$Machine", "enter", "(IIII)V"⟩, 15) := ⟨⟨by decide +kernel, by decide +kernel⟩, List.mem_of_getElem? (i := 178) (by decide +kernel), List.mem_of_getElem? (i := 765) (by decide +kernel), List.mem_of_getElem? (i := 766) (by decide +kernel)⟩
def lw_privs_2 : List (MethodName × Nat) := [(⟨"ProgramSlices$Dependences", "joinEnds", "(I)V"⟩, 7), (⟨"ProgramSlices$Walk", "summariseEnd", "(II)Z"⟩, 5), (⟨"ProgramSlices$Walk", "begin", "(I)V"⟩, 5), (⟨"ProgramSlices$Walk", "put", "(I)V"⟩, 5), (⟨"ProgramSlices$Walk", "follow", "(IZ)V"⟩, 5), (⟨"ProgramSlices$Walk", "putAll", "(II)V"⟩, 5), (⟨"ProgramSlices$Walk", "callsBeyond", "(IZ)I"⟩, 5), (⟨"ProgramSlices$Walk", "sideBeyond", "(IZ)I"⟩, 5), (⟨"ProgramSlices$Flows", "isSink", "(I)Z"⟩, 3), (⟨"ProgramSlices$Order", "hasCircle", "()Z"⟩, 4), (⟨"ProgramSlices$Order", "allJoin", "()Z"⟩, 4), (⟨"ProgramSlices$Order", "hasLeast", "(I)Z"⟩, 4), (⟨"ProgramSlices$Slice", "join", "(LProgramSlices$Walk;)V"⟩, 4), (⟨"ProgramSlices$Slice", "fitCall", "(LProgramSlices$Walk;II)Z"⟩, 4), (⟨"ProgramSlices$Slice", "lacks", "(III)Z"⟩, 4), (⟨"ProgramSlices$Machine", "enter", "(IIII)V"⟩, 15)]
theorem lw_r2 : ∀ q ∈ lw_privs_2, lw_okq q := List.forall_mem_cons.mpr ⟨lw_p16, List.forall_mem_cons.mpr ⟨lw_p17, List.forall_mem_cons.mpr ⟨lw_p18, List.forall_mem_cons.mpr ⟨lw_p19, List.forall_mem_cons.mpr ⟨lw_p20, List.forall_mem_cons.mpr ⟨lw_p21, List.forall_mem_cons.mpr ⟨lw_p22, List.forall_mem_cons.mpr ⟨lw_p23, List.forall_mem_cons.mpr ⟨lw_p24, List.forall_mem_cons.mpr ⟨lw_p25, List.forall_mem_cons.mpr ⟨lw_p26, List.forall_mem_cons.mpr ⟨lw_p27, List.forall_mem_cons.mpr ⟨lw_p28, List.forall_mem_cons.mpr ⟨lw_p29, List.forall_mem_cons.mpr ⟨lw_p30, List.forall_mem_cons.mpr ⟨lw_p31, fun _ h => absurd h List.not_mem_nil⟩⟩⟩⟩⟩⟩⟩⟩⟩⟩⟩⟩⟩⟩⟩⟩
theorem lw_p32 : lw_okq (⟨"ProgramSlices$Machine", "setVariable", "(II)V"⟩, 15) := ⟨⟨by decide +kernel, by decide +kernel⟩, List.mem_of_getElem? (i := 178) (by decide +kernel), List.mem_of_getElem? (i := 769) (by decide +kernel), List.mem_of_getElem? (i := 770) (by decide +kernel)⟩
theorem lw_p33 : lw_okq (⟨"ProgramSlices$Machine", "takeTurn", "()V"⟩, 15) := ⟨⟨by decide +kernel, by decide +kernel⟩, List.mem_of_getElem? (i := 178) (by decide +kernel), List.mem_of_getElem? (i := 774) (by decide +kernel), List.mem_of_getElem? (i := 775) (by decide +kernel)⟩
theorem lw_p34 : lw_okq (⟨"ProgramSlices$Machine", "leave", "()V"⟩, 15) := ⟨⟨by decide +kernel, by decide +kernel⟩, List.mem_of_getElem? (i := 178) (by decide +kernel), List.mem_of_getElem? (i := 778) (by decide +kernel), List.mem_of_getElem? (i := 779) (by decide +kernel)⟩
theorem lw_p35 : lw_okq (⟨"ProgramSlices$Machine", "variable", "(I)I"⟩, 15) := ⟨⟨by decide +kernel, by decide +kernel⟩, List.mem_of_getElem? (i := 178) (by decide +kernel), List.mem_of_getElem? (i := 782) (by decide +kernel), List.mem_of_getElem? (i := 783) (by decide +kernel)⟩
theorem lw_p36 : lw_okq (⟨"ProgramSlices$Machine", "isBranch", "(I)Z"⟩, 15) := ⟨⟨by decide +kernel, by decide +kernel⟩, List.mem_of_getElem? (i := 178) (by decide +kernel), List.mem_of_getElem? (i := 789) (by decide +kernel), List.mem_of_getElem? (i := 790) (by decide +kernel)⟩
theorem lw_p37 : lw_okq (⟨"ProgramSlices$Machine", "take", "(I)V"⟩, 15) := ⟨⟨by decide +kernel, by decide +kernel⟩, List.mem_of_getElem? (i := 178) (by decide +kernel), List.mem_of_getElem? (i := 793) (by decide +kernel), List.mem_of_getElem? (i := 794) (by decide +kernel)⟩
theorem lw_p38 : lw_okq (⟨"ProgramSlices$Machine", "takeCall", "(I)V"⟩, 15) := ⟨⟨by decide +kernel, by decide +kernel⟩, List.mem_of_getElem? (i := 178) (by decide +kernel), List.mem_of_getElem? (i := 798) (by decide +kernel), List.mem_of_getElem? (i := 799) (by decide +kernel)⟩
theorem lw_p39 : lw_okq (⟨"ProgramSlices$Machine", "takeBranch", "(I)V"⟩, 15) := ⟨⟨by decide +kernel, by decide +kernel⟩, List.mem_of_getElem? (i := 178) (by decide +kernel), List.mem_of_getElem? (i := 803) (by decide +kernel), List.mem_of_getElem? (i := 804) (by decide +kernel)⟩
theorem lw_p40 : lw_okq (⟨"ProgramSlices$Machine", "note", "(II)V"⟩, 15) := ⟨⟨by decide +kernel, by decide +kernel⟩, List.mem_of_getElem? (i := 178) (by decide +kernel), List.mem_of_getElem? (i := 807) (by decide +kernel), List.mem_of_getElem? (i := 808) (by decide +kernel)⟩
theorem lw_p41 : lw_okq (⟨"ProgramSlices$Machine", "newValue", "(I)I"⟩, 15) := ⟨⟨by decide +kernel, by decide +kernel⟩, List.mem_of_getElem? (i := 178) (by decide +kernel), List.mem_of_getElem? (i := 820) (by decide +kernel), List.mem_of_getElem? (i := 821) (by decide +kernel)⟩
theorem lw_p42 : lw_okq (⟨"ProgramSlices", "canCheck", "()Z"⟩, 8) := ⟨⟨by decide +kernel, by decide +kernel⟩, List.mem_of_getElem? (i := 15) (by decide +kernel), List.mem_of_getElem? (i := 855) (by decide +kernel), List.mem_of_getElem? (i := 856) (by decide +kernel)⟩
theorem lw_p43 : lw_okq (⟨"ProgramSlices$Flows", "inputsInto", "(I)I"⟩, 3) := ⟨⟨by decide +kernel, by decide +kernel⟩, List.mem_of_getElem? (i := 269) (by decide +kernel), List.mem_of_getElem? (i := 863) (by decide +kernel), List.mem_of_getElem? (i := 864) (by decide +kernel)⟩
theorem lw_p44 : lw_okq (⟨"ProgramSlicesModel", "structure", "()I"⟩, 38) := ⟨⟨by decide +kernel, by decide +kernel⟩, List.mem_of_getElem? (i := 887) (by decide +kernel), List.mem_of_getElem? (i := 1024) (by decide +kernel), List.mem_of_getElem? (i := 1025) (by decide +kernel)⟩
theorem lw_p45 : lw_okq (⟨"ProgramSlicesModel", "isCall", "(I)Z"⟩, 38) := ⟨⟨by decide +kernel, by decide +kernel⟩, List.mem_of_getElem? (i := 887) (by decide +kernel), List.mem_of_getElem? (i := 1028) (by decide +kernel), List.mem_of_getElem? (i := 1029) (by decide +kernel)⟩
theorem lw_p46 : lw_okq (⟨"ProgramSlicesModel", "ways", "()V"⟩, 38) := ⟨⟨by decide +kernel, by decide +kernel⟩, List.mem_of_getElem? (i := 887) (by decide +kernel), List.mem_of_getElem? (i := 1032) (by decide +kernel), List.mem_of_getElem? (i := 1033) (by decide +kernel)⟩
theorem lw_p47 : lw_okq (⟨"ProgramSlicesModel", "way", "(II)I"⟩, 38) := ⟨⟨by decide +kernel, by decide +kernel⟩, List.mem_of_getElem? (i := 887) (by decide +kernel), List.mem_of_getElem? (i := 1036) (by decide +kernel), List.mem_of_getElem? (i := 1037) (by decide +kernel)⟩
def lw_privs_3 : List (MethodName × Nat) := [(⟨"ProgramSlices$Machine", "setVariable", "(II)V"⟩, 15), (⟨"ProgramSlices$Machine", "takeTurn", "()V"⟩, 15), (⟨"ProgramSlices$Machine", "leave", "()V"⟩, 15), (⟨"ProgramSlices$Machine", "variable", "(I)I"⟩, 15), (⟨"ProgramSlices$Machine", "isBranch", "(I)Z"⟩, 15), (⟨"ProgramSlices$Machine", "take", "(I)V"⟩, 15), (⟨"ProgramSlices$Machine", "takeCall", "(I)V"⟩, 15), (⟨"ProgramSlices$Machine", "takeBranch", "(I)V"⟩, 15), (⟨"ProgramSlices$Machine", "note", "(II)V"⟩, 15), (⟨"ProgramSlices$Machine", "newValue", "(I)I"⟩, 15), (⟨"ProgramSlices", "canCheck", "()Z"⟩, 8), (⟨"ProgramSlices$Flows", "inputsInto", "(I)I"⟩, 3), (⟨"ProgramSlicesModel", "structure", "()I"⟩, 38), (⟨"ProgramSlicesModel", "isCall", "(I)Z"⟩, 38), (⟨"ProgramSlicesModel", "ways", "()V"⟩, 38), (⟨"ProgramSlicesModel", "way", "(II)I"⟩, 38)]
theorem lw_r3 : ∀ q ∈ lw_privs_3, lw_okq q := List.forall_mem_cons.mpr ⟨lw_p32, List.forall_mem_cons.mpr ⟨lw_p33, List.forall_mem_cons.mpr ⟨lw_p34, List.forall_mem_cons.mpr ⟨lw_p35, List.forall_mem_cons.mpr ⟨lw_p36, List.forall_mem_cons.mpr ⟨lw_p37, List.forall_mem_cons.mpr ⟨lw_p38, List.forall_mem_cons.mpr ⟨lw_p39, List.forall_mem_cons.mpr ⟨lw_p40, List.forall_mem_cons.mpr ⟨lw_p41, List.forall_mem_cons.mpr ⟨lw_p42, List.forall_mem_cons.mpr ⟨lw_p43, List.forall_mem_cons.mpr ⟨lw_p44, List.forall_mem_cons.mpr ⟨lw_p45, List.forall_mem_cons.mpr ⟨lw_p46, List.forall_mem_cons.mpr ⟨lw_p47, fun _ h => absurd h List.not_mem_nil⟩⟩⟩⟩⟩⟩⟩⟩⟩⟩⟩⟩⟩⟩⟩⟩
theorem lw_p48 : lw_okq (⟨"ProgramSlicesModel", "behind", "(II)I"⟩, 38) := ⟨⟨by decide +kernel, by decide +kernel⟩, List.mem_of_getElem? (i := 887) (by decide +kernel), List.mem_of_getElem? (i := 1040) (by decide +kernel), List.mem_of_getElem? (i := 1041) (by decide +kernel)⟩
theorem lw_p49 : lw_okq (⟨"ProgramSlicesModel", "dependences", "()V"⟩, 38) := ⟨⟨by decide +kernel, by decide +kernel⟩, List.mem_of_getElem? (i := 887) (by decide +kernel), List.mem_of_getElem? (i := 1044) (by decide +kernel), List.mem_of_getElem? (i := 1045) (by decide +kernel)⟩
theorem lw_p50 : lw_okq (⟨"ProgramSlicesModel", "how", "(II)I"⟩, 38) := ⟨⟨by decide +kernel, by decide +kernel⟩, List.mem_of_getElem? (i := 887) (by decide +kernel), List.mem_of_getElem? (i := 1048) (by decide +kernel), List.mem_of_getElem? (i := 1049) (by decide +kernel)⟩
theorem lw_p51 : lw_okq (⟨"ProgramSlicesModel", "exists", "(I)Z"⟩, 38) := ⟨⟨by decide +kernel, by decide +kernel⟩, List.mem_of_getElem? (i := 887) (by decide +kernel), List.mem_of_getElem? (i := 1052) (by decide +kernel), List.mem_of_getElem? (i := 1053) (by decide +kernel)⟩
theorem lw_p52 : lw_okq (⟨"ProgramSlicesModel", "procedure", "(I)I"⟩, 38) := ⟨⟨by decide +kernel, by decide +kernel⟩, List.mem_of_getElem? (i := 887) (by decide +kernel), List.mem_of_getElem? (i := 1056) (by decide +kernel), List.mem_of_getElem? (i := 1057) (by decide +kernel)⟩
theorem lw_p53 : lw_okq (⟨"ProgramSlicesModel", "control", "(II)Z"⟩, 38) := ⟨⟨by decide +kernel, by decide +kernel⟩, List.mem_of_getElem? (i := 887) (by decide +kernel), List.mem_of_getElem? (i := 1063) (by decide +kernel), List.mem_of_getElem? (i := 1064) (by decide +kernel)⟩
theorem lw_p54 : lw_okq (⟨"ProgramSlicesModel", "data", "(II)Z"⟩, 38) := ⟨⟨by decide +kernel, by decide +kernel⟩, List.mem_of_getElem? (i := 887) (by decide +kernel), List.mem_of_getElem? (i := 1067) (by decide +kernel), List.mem_of_getElem? (i := 1068) (by decide +kernel)⟩
theorem lw_p55 : lw_okq (⟨"ProgramSlicesModel", "reads", "(II)Z"⟩, 38) := ⟨⟨by decide +kernel, by decide +kernel⟩, List.mem_of_getElem? (i := 887) (by decide +kernel), List.mem_of_getElem? (i := 1077) (by decide +kernel), List.mem_of_getElem? (i := 1078) (by decide +kernel)⟩
theorem lw_p56 : lw_okq (⟨"ProgramSlicesModel", "fromBeginning", "(III)Z"⟩, 38) := ⟨⟨by decide +kernel, by decide +kernel⟩, List.mem_of_getElem? (i := 887) (by decide +kernel), List.mem_of_getElem? (i := 1081) (by decide +kernel), List.mem_of_getElem? (i := 1082) (by decide +kernel)⟩
theorem lw_p57 : lw_okq (⟨"ProgramSlicesModel", "spread", "(JI)J"⟩, 38) := ⟨⟨by decide +kernel, by decide +kernel⟩, List.mem_of_getElem? (i := 887) (by decide +kernel), List.mem_of_getElem? (i := 1085) (by decide +kernel), List.mem_of_getElem? (i := 1086) (by decide +kernel)⟩
theorem lw_p58 : lw_okq (⟨"ProgramSlicesModel", "defines", "(II)Z"⟩, 38) := ⟨⟨by decide +kernel, by decide +kernel⟩, List.mem_of_getElem? (i := 887) (by decide +kernel), List.mem_of_getElem? (i := 1089) (by decide +kernel), List.mem_of_getElem? (i := 1090) (by decide +kernel)⟩
theorem lw_p59 : lw_okq (⟨"ProgramSlicesModel", "arrives", "(III)Z"⟩, 38) := ⟨⟨by decide +kernel, by decide +kernel⟩, List.mem_of_getElem? (i := 887) (by decide +kernel), List.mem_of_getElem? (i := 1093) (by decide +kernel), List.mem_of_getElem? (i := 1094) (by decide +kernel)⟩
theorem lw_p60 : lw_okq (⟨"ProgramSlicesModel", "heap", "(II)Z"⟩, 38) := ⟨⟨by decide +kernel, by decide +kernel⟩, List.mem_of_getElem? (i := 887) (by decide +kernel), List.mem_of_getElem? (i := 1097) (by decide +kernel), List.mem_of_getElem? (i := 1098) (by decide +kernel)⟩
theorem lw_p61 : lw_okq (⟨"ProgramSlicesModel", "path", "(II)Z"⟩, 38) := ⟨⟨by decide +kernel, by decide +kernel⟩, List.mem_of_getElem? (i := 887) (by decide +kernel), List.mem_of_getElem? (i := 1101) (by decide +kernel), List.mem_of_getElem? (i := 1102) (by decide +kernel)⟩
theorem lw_p62 : lw_okq (⟨"ProgramSlicesModel", "halt", "(II)Z"⟩, 38) := ⟨⟨by decide +kernel, by decide +kernel⟩, List.mem_of_getElem? (i := 887) (by decide +kernel), List.mem_of_getElem? (i := 1105) (by decide +kernel), List.mem_of_getElem? (i := 1106) (by decide +kernel)⟩
theorem lw_p63 : lw_okq (⟨"ProgramSlicesModel", "summaries", "(I)Z"⟩, 38) := ⟨⟨by decide +kernel, by decide +kernel⟩, List.mem_of_getElem? (i := 887) (by decide +kernel), List.mem_of_getElem? (i := 1112) (by decide +kernel), List.mem_of_getElem? (i := 1113) (by decide +kernel)⟩
def lw_privs_4 : List (MethodName × Nat) := [(⟨"ProgramSlicesModel", "behind", "(II)I"⟩, 38), (⟨"ProgramSlicesModel", "dependences", "()V"⟩, 38), (⟨"ProgramSlicesModel", "how", "(II)I"⟩, 38), (⟨"ProgramSlicesModel", "exists", "(I)Z"⟩, 38), (⟨"ProgramSlicesModel", "procedure", "(I)I"⟩, 38), (⟨"ProgramSlicesModel", "control", "(II)Z"⟩, 38), (⟨"ProgramSlicesModel", "data", "(II)Z"⟩, 38), (⟨"ProgramSlicesModel", "reads", "(II)Z"⟩, 38), (⟨"ProgramSlicesModel", "fromBeginning", "(III)Z"⟩, 38), (⟨"ProgramSlicesModel", "spread", "(JI)J"⟩, 38), (⟨"ProgramSlicesModel", "defines", "(II)Z"⟩, 38), (⟨"ProgramSlicesModel", "arrives", "(III)Z"⟩, 38), (⟨"ProgramSlicesModel", "heap", "(II)Z"⟩, 38), (⟨"ProgramSlicesModel", "path", "(II)Z"⟩, 38), (⟨"ProgramSlicesModel", "halt", "(II)Z"⟩, 38), (⟨"ProgramSlicesModel", "summaries", "(I)Z"⟩, 38)]
theorem lw_r4 : ∀ q ∈ lw_privs_4, lw_okq q := List.forall_mem_cons.mpr ⟨lw_p48, List.forall_mem_cons.mpr ⟨lw_p49, List.forall_mem_cons.mpr ⟨lw_p50, List.forall_mem_cons.mpr ⟨lw_p51, List.forall_mem_cons.mpr ⟨lw_p52, List.forall_mem_cons.mpr ⟨lw_p53, List.forall_mem_cons.mpr ⟨lw_p54, List.forall_mem_cons.mpr ⟨lw_p55, List.forall_mem_cons.mpr ⟨lw_p56, List.forall_mem_cons.mpr ⟨lw_p57, List.forall_mem_cons.mpr ⟨lw_p58, List.forall_mem_cons.mpr ⟨lw_p59, List.forall_mem_cons.mpr ⟨lw_p60, List.forall_mem_cons.mpr ⟨lw_p61, List.forall_mem_cons.mpr ⟨lw_p62, List.forall_mem_cons.mpr ⟨lw_p63, fun _ h => absurd h List.not_mem_nil⟩⟩⟩⟩⟩⟩⟩⟩⟩⟩⟩⟩⟩⟩⟩⟩
theorem lw_p64 : lw_okq (⟨"ProgramSlicesModel", "single", "(I)V"⟩, 38) := ⟨⟨by decide +kernel, by decide +kernel⟩, List.mem_of_getElem? (i := 887) (by decide +kernel), List.mem_of_getElem? (i := 1116) (by decide +kernel), List.mem_of_getElem? (i := 1117) (by decide +kernel)⟩
theorem lw_p65 : lw_okq (⟨"ProgramSlicesModel", "flood", "([J[JZ)V"⟩, 38) := ⟨⟨by decide +kernel, by decide +kernel⟩, List.mem_of_getElem? (i := 887) (by decide +kernel), List.mem_of_getElem? (i := 1120) (by decide +kernel), List.mem_of_getElem? (i := 1121) (by decide +kernel)⟩
theorem lw_p66 : lw_okq (⟨"ProgramSlicesModel", "touches", "([J[JI)Z"⟩, 38) := ⟨⟨by decide +kernel, by decide +kernel⟩, List.mem_of_getElem? (i := 887) (by decide +kernel), List.mem_of_getElem? (i := 1127) (by decide +kernel), List.mem_of_getElem? (i := 1128) (by decide +kernel)⟩
theorem lw_p67 : lw_okq (⟨"ProgramSlicesModel", "backward", "(I)V"⟩, 38) := ⟨⟨by decide +kernel, by decide +kernel⟩, List.mem_of_getElem? (i := 887) (by decide +kernel), List.mem_of_getElem? (i := 1143) (by decide +kernel), List.mem_of_getElem? (i := 1144) (by decide +kernel)⟩
theorem lw_p68 : lw_okq (⟨"ProgramSlicesModel", "instructions", "([J)I"⟩, 38) := ⟨⟨by decide +kernel, by decide +kernel⟩, List.mem_of_getElem? (i := 887) (by decide +kernel), List.mem_of_getElem? (i := 1147) (by decide +kernel), List.mem_of_getElem? (i := 1148) (by decide +kernel)⟩
theorem lw_p69 : lw_okq (⟨"ProgramSlicesModel", "wanting", "()I"⟩, 38) := ⟨⟨by decide +kernel, by decide +kernel⟩, List.mem_of_getElem? (i := 887) (by decide +kernel), List.mem_of_getElem? (i := 1155) (by decide +kernel), List.mem_of_getElem? (i := 1156) (by decide +kernel)⟩
theorem lw_p70 : lw_okq (⟨"ProgramSlicesModel", "leave", "()I"⟩, 38) := ⟨⟨by decide +kernel, by decide +kernel⟩, List.mem_of_getElem? (i := 887) (by decide +kernel), List.mem_of_getElem? (i := 1172) (by decide +kernel), List.mem_of_getElem? (i := 1173) (by decide +kernel)⟩
theorem lw_p71 : lw_okq (⟨"ProgramSlicesModel", "x", "(I)I"⟩, 38) := ⟨⟨by decide +kernel, by decide +kernel⟩, List.mem_of_getElem? (i := 887) (by decide +kernel), List.mem_of_getElem? (i := 1176) (by decide +kernel), List.mem_of_getElem? (i := 1177) (by decide +kernel)⟩
theorem lw_p72 : lw_okq (⟨"ProgramSlicesModel", "become", "(II)V"⟩, 38) := ⟨⟨by decide +kernel, by decide +kernel⟩, List.mem_of_getElem? (i := 887) (by decide +kernel), List.mem_of_getElem? (i := 1180) (by decide +kernel), List.mem_of_getElem? (i := 1181) (by decide +kernel)⟩
theorem lw_p73 : lw_okq (⟨"ProgramSlicesModel", "enter", "(I)V"⟩, 38) := ⟨⟨by decide +kernel, by decide +kernel⟩, List.mem_of_getElem? (i := 887) (by decide +kernel), List.mem_of_getElem? (i := 1184) (by decide +kernel), List.mem_of_getElem? (i := 1185) (by decide +kernel)⟩
theorem lw_p74 : lw_okq (⟨"ProgramSlicesModel", "act", "(I)I"⟩, 38) := ⟨⟨by decide +kernel, by decide +kernel⟩, List.mem_of_getElem? (i := 887) (by decide +kernel), List.mem_of_getElem? (i := 1188) (by decide +kernel), List.mem_of_getElem? (i := 1189) (by decide +kernel)⟩
theorem lw_p75 : lw_okq (⟨"ProgramSlicesModel", "computed", "(III)I"⟩, 38) := ⟨⟨by decide +kernel, by decide +kernel⟩, List.mem_of_getElem? (i := 887) (by decide +kernel), List.mem_of_getElem? (i := 1192) (by decide +kernel), List.mem_of_getElem? (i := 1193) (by decide +kernel)⟩
theorem lw_p76 : lw_okq (⟨"ProgramSlicesModel", "saw", "(II)V"⟩, 38) := ⟨⟨by decide +kernel, by decide +kernel⟩, List.mem_of_getElem? (i := 887) (by decide +kernel), List.mem_of_getElem? (i := 1196) (by decide +kernel), List.mem_of_getElem? (i := 1197) (by decide +kernel)⟩
theorem lw_p77 : lw_okq (⟨"ProgramSlicesModel", "isLevel", "(I)Z"⟩, 38) := ⟨⟨by decide +kernel, by decide +kernel⟩, List.mem_of_getElem? (i := 887) (by decide +kernel), List.mem_of_getElem? (i := 1220) (by decide +kernel), List.mem_of_getElem? (i := 1221) (by decide +kernel)⟩
theorem lw_p78 : lw_okq (⟨"ProgramSlicesModel", "under", "(II)Z"⟩, 38) := ⟨⟨by decide +kernel, by decide +kernel⟩, List.mem_of_getElem? (i := 887) (by decide +kernel), List.mem_of_getElem? (i := 1232) (by decide +kernel), List.mem_of_getElem? (i := 1233) (by decide +kernel)⟩
theorem lw_p79 : lw_okq (⟨"ProgramSlicesModel", "join", "(III)Z"⟩, 38) := ⟨⟨by decide +kernel, by decide +kernel⟩, List.mem_of_getElem? (i := 887) (by decide +kernel), List.mem_of_getElem? (i := 1236) (by decide +kernel), List.mem_of_getElem? (i := 1237) (by decide +kernel)⟩
def lw_privs_5 : List (MethodName × Nat) := [(⟨"ProgramSlicesModel", "single", "(I)V"⟩, 38), (⟨"ProgramSlicesModel", "flood", "([J[JZ)V"⟩, 38), (⟨"ProgramSlicesModel", "touches", "([J[JI)Z"⟩, 38), (⟨"ProgramSlicesModel", "backward", "(I)V"⟩, 38), (⟨"ProgramSlicesModel", "instructions", "([J)I"⟩, 38), (⟨"ProgramSlicesModel", "wanting", "()I"⟩, 38), (⟨"ProgramSlicesModel", "leave", "()I"⟩, 38), (⟨"ProgramSlicesModel", "x", "(I)I"⟩, 38), (⟨"ProgramSlicesModel", "become", "(II)V"⟩, 38), (⟨"ProgramSlicesModel", "enter", "(I)V"⟩, 38), (⟨"ProgramSlicesModel", "act", "(I)I"⟩, 38), (⟨"ProgramSlicesModel", "computed", "(III)I"⟩, 38), (⟨"ProgramSlicesModel", "saw", "(II)V"⟩, 38), (⟨"ProgramSlicesModel", "isLevel", "(I)Z"⟩, 38), (⟨"ProgramSlicesModel", "under", "(II)Z"⟩, 38), (⟨"ProgramSlicesModel", "join", "(III)Z"⟩, 38)]
theorem lw_r5 : ∀ q ∈ lw_privs_5, lw_okq q := List.forall_mem_cons.mpr ⟨lw_p64, List.forall_mem_cons.mpr ⟨lw_p65, List.forall_mem_cons.mpr ⟨lw_p66, List.forall_mem_cons.mpr ⟨lw_p67, List.forall_mem_cons.mpr ⟨lw_p68, List.forall_mem_cons.mpr ⟨lw_p69, List.forall_mem_cons.mpr ⟨lw_p70, List.forall_mem_cons.mpr ⟨lw_p71, List.forall_mem_cons.mpr ⟨lw_p72, List.forall_mem_cons.mpr ⟨lw_p73, List.forall_mem_cons.mpr ⟨lw_p74, List.forall_mem_cons.mpr ⟨lw_p75, List.forall_mem_cons.mpr ⟨lw_p76, List.forall_mem_cons.mpr ⟨lw_p77, List.forall_mem_cons.mpr ⟨lw_p78, List.forall_mem_cons.mpr ⟨lw_p79, fun _ h => absurd h List.not_mem_nil⟩⟩⟩⟩⟩⟩⟩⟩⟩⟩⟩⟩⟩⟩⟩⟩
theorem lw_p80 : lw_okq (⟨"ProgramSlicesModel", "bottom", "()I"⟩, 38) := ⟨⟨by decide +kernel, by decide +kernel⟩, List.mem_of_getElem? (i := 887) (by decide +kernel), List.mem_of_getElem? (i := 1240) (by decide +kernel), List.mem_of_getElem? (i := 1241) (by decide +kernel)⟩
theorem lw_p81 : lw_okq (⟨"ProgramSlicesModel", "search", "(I)I"⟩, 38) := ⟨⟨by decide +kernel, by decide +kernel⟩, List.mem_of_getElem? (i := 887) (by decide +kernel), List.mem_of_getElem? (i := 1249) (by decide +kernel), List.mem_of_getElem? (i := 1250) (by decide +kernel)⟩
def lw_privs_6 : List (MethodName × Nat) := [(⟨"ProgramSlicesModel", "bottom", "()I"⟩, 38), (⟨"ProgramSlicesModel", "search", "(I)I"⟩, 38)]
theorem lw_r6 : ∀ q ∈ lw_privs_6, lw_okq q := List.forall_mem_cons.mpr ⟨lw_p80, List.forall_mem_cons.mpr ⟨lw_p81, fun _ h => absurd h List.not_mem_nil⟩⟩
def lw_privs : List (MethodName × Nat) := lw_privs_1 ++ (lw_privs_2 ++ (lw_privs_3 ++ (lw_privs_4 ++ (lw_privs_5 ++ (lw_privs_6)))))
def lw_tbl : List Cond := k2_sels lw_privs ++ tables_1
theorem lw_privs_ok : ∀ q ∈ lw_privs, lw_okq q := by
  show ∀ q ∈ lw_privs_1 ++ (lw_privs_2 ++ (lw_privs_3 ++ (lw_privs_4 ++ (lw_privs_5 ++ (lw_privs_6))))), lw_okq q
  exact List.forall_mem_append.mpr ⟨lw_r1, List.forall_mem_append.mpr ⟨lw_r2, List.forall_mem_append.mpr ⟨lw_r3, List.forall_mem_append.mpr ⟨lw_r4, List.forall_mem_append.mpr ⟨lw_r5, lw_r6⟩⟩⟩⟩⟩
end
section
/-! The plain world: all cells of both systems in one list of shapes, a memory of ints and longs by place and number, references as places. -/
abbrev sm_S : Type := List ((Nat × List (Option (Option Nat))) ⊕ (Nat × Nat))
abbrev sm_M : Type := (Nat → Nat → Int32) × (Nat → Nat → Int64)
def sm_ui (μ : sm_M) (p i : Nat) (v : Int32) : sm_M := (fun q => if q = p then upd (μ.1 p) i v else μ.1 q, μ.2)
def sm_ul (μ : sm_M) (p i : Nat) (v : Int64) : sm_M := (μ.1, fun q => if q = p then vp_updL (μ.2 p) i v else μ.2 q)
def sm_z (μ : sm_M) (p : Nat) : sm_M := (fun q => if q = p then fun _ => 0 else μ.1 q, fun q => if q = p then fun _ => 0 else μ.2 q)
def sm_v (ad : Nat → Nat) : Value → Value
  | .ref k => .ref (ad k)
  | v => v
theorem sm_v_cat (ad : Nat → Nat) (v : Value) : (sm_v ad v).category = v.category := by cases v <;> rfl
def sm_f (ad : Nat → Nat) (g : Nat → Int32) (k : Nat) (f : Option (Option Nat)) : Value := match f with
  | none => .int (g k)
  | some none => .null
  | some (some q) => .ref (ad q)
def sm_e (ad : Nat → Nat) (cA : Nat → ClassId) (μ : sm_M) (p : Nat) (x : (Nat × List (Option (Option Nat))) ⊕ (Nat × Nat)) : Nat × va_E := match x with
  | .inl o => (ad p, .inr (o.1, o.2.mapIdx (sm_f ad (μ.1 p))))
  | .inr a => (ad p, .inl (cA a.1, a.2, if a.1 = 2 then .inr (.inl (μ.2 p)) else .inl (μ.1 p)))
def sm_w (ad : Nat → Nat) (cA : Nat → ClassId) (sh : sm_S) (μ : sm_M) : va_W := sh.mapIdx (sm_e ad cA μ)
def sm_ty (cA : Nat → ClassId) : List (ClassId × FieldType) := [(cA 0, .int), (cA 1, .boolean), (cA 2, .long)]
def sm_A (ad : Nat → Nat) (sh : sm_S) (sz : Nat) : Nat → Prop := fun q => (∃ p, p < sh.length ∧ q = ad p) ∨ sz ≤ q
def sm_sz : ((Nat × List (Option (Option Nat))) ⊕ (Nat × Nat)) → Nat
  | .inl o => o.2.length
  | .inr a => a.2
def sm_sl (sh : sm_S) : Nat := (sh.map sm_sz).sum
theorem sm_sl_app (sh sh' : sm_S) : sm_sl (sh ++ sh') = sm_sl sh + sm_sl sh' := by simp [sm_sl]
theorem sm_w_at {ad : Nat → Nat} {cA : Nat → ClassId} {sh : sm_S} {μ : sm_M} (p : Nat) : (sm_w ad cA sh μ)[p]? = (sh[p]?).map (sm_e ad cA μ p) := by
  simp [sm_w, List.getElem?_mapIdx]
theorem sm_w_len {ad : Nat → Nat} {cA : Nat → ClassId} {sh : sm_S} {μ : sm_M} : (sm_w ad cA sh μ).length = sh.length := by simp [sm_w]
theorem sm_w_ui {ad : Nat → Nat} {cA : Nat → ClassId} {sh : sm_S} {μ : sm_M} {p k ci : Nat} {fs : List (Option (Option Nat))} {v : Int32} (h : sh[p]? = some (.inl (ci, fs))) (hk : fs[k]? = some none) :
    (sm_w ad cA sh μ).set p (ad p, .inr (ci, (fs.mapIdx (sm_f ad (μ.1 p))).set k (.int v))) = sm_w ad cA sh (sm_ui μ p k v) := by
  apply List.ext_getElem?
  intro i
  by_cases hi : i = p
  · subst hi
    have hlt : i < (sm_w ad cA sh μ).length := by rw [sm_w_len]; exact (List.getElem?_eq_some_iff.mp h).1
    rw [List.getElem?_set_self hlt, sm_w_at, h]
    have hl : (fs.mapIdx (sm_f ad (μ.1 i))).set k (.int v) = fs.mapIdx (sm_f ad ((sm_ui μ i k v).1 i)) := by
      apply List.ext_getElem?
      intro j
      by_cases hj : j = k
      · subst hj
        have hlt2 : j < (fs.mapIdx (sm_f ad (μ.1 i))).length := by rw [List.length_mapIdx]; exact (List.getElem?_eq_some_iff.mp hk).1
        rw [List.getElem?_set_self hlt2, List.getElem?_mapIdx, hk]
        simp [sm_f, sm_ui, upd]
      · rw [List.getElem?_set_ne (Ne.symm hj), List.getElem?_mapIdx, List.getElem?_mapIdx]
        cases fs[j]? with
        | none => rfl
        | some f =>
          cases f with
          | none => simp [sm_f, sm_ui, upd, hj]
          | some f => cases f <;> rfl
    simp only [Option.map, sm_e]
    rw [hl]
  · rw [List.getElem?_set_ne (Ne.symm hi), sm_w_at, sm_w_at]
    cases sh[i]? with
    | none => rfl
    | some x => cases x <;> simp [sm_e, sm_ui, hi]
/-- a reference field becomes a reference -/
theorem sm_w_ur {ad : Nat → Nat} {cA : Nat → ClassId} {sh : sm_S} {μ : sm_M} {p k ci q : Nat} {fs : List (Option (Option Nat))} (h : sh[p]? = some (.inl (ci, fs))) (hk : k < fs.length) :
    (sm_w ad cA sh μ).set p (ad p, .inr (ci, (fs.mapIdx (sm_f ad (μ.1 p))).set k (.ref (ad q)))) = sm_w ad cA (sh.set p (.inl (ci, fs.set k (some (some q))))) μ := by
  apply List.ext_getElem?
  intro i
  by_cases hi : i = p
  · subst hi
    have hs := (List.getElem?_eq_some_iff.mp h).1
    have hlt : i < (sm_w ad cA sh μ).length := by rw [sm_w_len]; exact hs
    rw [List.getElem?_set_self hlt, sm_w_at, List.getElem?_set_self hs]
    have hl : (fs.mapIdx (sm_f ad (μ.1 i))).set k (.ref (ad q)) = (fs.set k (some (some q))).mapIdx (sm_f ad (μ.1 i)) := by
      apply List.ext_getElem?
      intro j
      by_cases hj : j = k
      · subst hj
        have hlt2 : j < (fs.mapIdx (sm_f ad (μ.1 i))).length := by rw [List.length_mapIdx]; exact hk
        rw [List.getElem?_set_self hlt2, List.getElem?_mapIdx, List.getElem?_set_self hk]
        rfl
      · rw [List.getElem?_set_ne (Ne.symm hj), List.getElem?_mapIdx, List.getElem?_mapIdx, List.getElem?_set_ne (Ne.symm hj)]
    simp only [Option.map, sm_e]
    rw [hl]
  · rw [List.getElem?_set_ne (Ne.symm hi), sm_w_at, sm_w_at, List.getElem?_set_ne (Ne.symm hi)]
theorem sm_w_ai {ad : Nat → Nat} {cA : Nat → ClassId} {sh : sm_S} {μ : sm_M} {p i kd n : Nat} {v : Int32} (h : sh[p]? = some (.inr (kd, n))) (hkd : kd ≠ 2) :
    (sm_w ad cA sh μ).set p (ad p, .inl (cA kd, n, .inl (upd (μ.1 p) i v))) = sm_w ad cA sh (sm_ui μ p i v) := by
  apply List.ext_getElem?
  intro j
  by_cases hj : j = p
  · subst hj
    have hlt : j < (sm_w ad cA sh μ).length := by rw [sm_w_len]; exact (List.getElem?_eq_some_iff.mp h).1
    rw [List.getElem?_set_self hlt, sm_w_at, h]
    simp [sm_e, sm_ui, hkd]
  · rw [List.getElem?_set_ne (Ne.symm hj), sm_w_at, sm_w_at]
    cases sh[j]? with
    | none => rfl
    | some x => cases x <;> simp [sm_e, sm_ui, hj]
theorem sm_w_al {ad : Nat → Nat} {cA : Nat → ClassId} {sh : sm_S} {μ : sm_M} {p i n : Nat} {v : Int64} (h : sh[p]? = some (.inr (2, n))) :
    (sm_w ad cA sh μ).set p (ad p, .inl (cA 2, n, .inr (.inl (vp_updL (μ.2 p) i v)))) = sm_w ad cA sh (sm_ul μ p i v) := by
  apply List.ext_getElem?
  intro j
  by_cases hj : j = p
  · subst hj
    have hlt : j < (sm_w ad cA sh μ).length := by rw [sm_w_len]; exact (List.getElem?_eq_some_iff.mp h).1
    rw [List.getElem?_set_self hlt, sm_w_at, h]
    simp [sm_e, sm_ul]
  · rw [List.getElem?_set_ne (Ne.symm hj), sm_w_at, sm_w_at]
    cases sh[j]? with
    | none => rfl
    | some x => cases x <;> simp [sm_e, sm_ul, hj]
/-! no reference in the locals, on the stack, in the shape, to places a .. b - 1 -/
def sm_nv (a b : Nat) : Value → Bool
  | .ref k => k < a || b ≤ k
  | _ => true
def sm_no (a b : Nat) : Option Value → Bool
  | some v => sm_nv a b v
  | none => true
def sm_nf (a b : Nat) : Option (Option Nat) → Bool
  | some (some k) => k < a || b ≤ k
  | _ => true
def sm_ns (a b : Nat) : ((Nat × List (Option (Option Nat))) ⊕ (Nat × Nat)) → Bool
  | .inl o => o.2.all (sm_nf a b)
  | .inr _ => true
def sm_ag (a b : Nat) (ad' ad : Nat → Nat) : Prop := ∀ p, p < a ∨ b ≤ p → ad' p = ad p
theorem sm_nv_eq {a b : Nat} {ad' ad : Nat → Nat} (h : sm_ag a b ad' ad) {v : Value} (hv : sm_nv a b v = true) : sm_v ad' v = sm_v ad v := by
  cases v with
  | ref k =>
    have h2 : k < a ∨ b ≤ k := by simpa [sm_nv] using hv
    show Value.ref _ = Value.ref _
    rw [h k h2]
  | _ => rfl
theorem sm_nf_eq {a b : Nat} {ad' ad : Nat → Nat} (h : sm_ag a b ad' ad) {g : Nat → Int32} {k : Nat} {f : Option (Option Nat)} (hv : sm_nf a b f = true) : sm_f ad' g k f = sm_f ad g k f := by
  cases f with
  | none => rfl
  | some f =>
    cases f with
    | none => rfl
    | some q =>
      have h2 : q < a ∨ b ≤ q := by simpa [sm_nf] using hv
      show Value.ref _ = Value.ref _
      rw [h q h2]
theorem sm_ns_map {a b : Nat} {ad' ad : Nat → Nat} (h : sm_ag a b ad' ad) {g : Nat → Int32} {fs : List (Option (Option Nat))} (hv : fs.all (sm_nf a b) = true) : fs.mapIdx (sm_f ad' g) = fs.mapIdx (sm_f ad g) := by
  apply List.ext_getElem?
  intro i
  rw [List.getElem?_mapIdx, List.getElem?_mapIdx]
  cases hf : fs[i]? with
  | none => rfl
  | some f => simp only [Option.map]; rw [sm_nf_eq h (List.all_eq_true.mp hv f (List.mem_of_getElem? hf))]
/-- one more cell, all of it 0 -/
theorem sm_w_new {ad : Nat → Nat} {cA : Nat → ClassId} {sh : sm_S} {μ : sm_M} {x : (Nat × List (Option (Option Nat))) ⊕ (Nat × Nat)} {a : Nat} {ad' : Nat → Nat} (ha : ad' sh.length = a) (hag : sm_ag sh.length (sh.length + 1) ad' ad) (hn : sh.all (sm_ns sh.length (sh.length + 1)) = true) :
    sm_w ad' cA (sh ++ [x]) (sm_z μ sh.length) = sm_w ad cA sh μ ++ [(a, (sm_e ad' cA (sm_z μ sh.length) sh.length x).2)] := by
  apply List.ext_getElem?
  intro i
  rw [sm_w_at]
  by_cases hi : i < sh.length
  · rw [List.getElem?_append_left hi, List.getElem?_append_left (by rw [sm_w_len]; exact hi), sm_w_at]
    cases hs : sh[i]? with
    | none => rfl
    | some y =>
      have hy := List.all_eq_true.mp hn y (List.mem_of_getElem? hs)
      have hne : i ≠ sh.length := by omega
      have h1 : ad' i = ad i := hag i (Or.inl hi)
      cases y with
      | inl o =>
        simp only [Option.map, sm_e]
        rw [sm_ns_map hag hy, h1]
        simp [sm_z, hne]
      | inr o =>
        simp only [Option.map, sm_e]
        rw [h1]
        simp [sm_z, hne]
  · by_cases he : i = sh.length
    · subst he
      rw [List.getElem?_append_right (Nat.le_refl _), List.getElem?_append_right (by rw [sm_w_len]; exact Nat.le_refl _), sm_w_len, Nat.sub_self]
      simp only [List.getElem?_cons_zero, Option.map]
      rw [← ha]
      cases x <;> rfl
    · rw [List.getElem?_eq_none (by simp; omega), List.getElem?_eq_none (by simp [sm_w_len]; omega)]
      rfl
/-! the locals: a list of places, a value or nothing -/
def sm_has (ls : Array Slot) (nL : Nat) (ad : Nat → Nat) (L : List (Option Value)) : Prop := ls.size = nL ∧ lv_wf ls ∧ ∀ (i : Nat) (v : Value), L[i]? = some (some v) → ls[i]? = some (.val (sm_v ad v))
theorem sm_has.ag {ls : Array Slot} {nL a b : Nat} {ad ad' : Nat → Nat} {L : List (Option Value)} (h : sm_has ls nL ad L) (hag : sm_ag a b ad' ad) (hL : L.all (sm_no a b) = true) : sm_has ls nL ad' L := by
  refine ⟨h.1, h.2.1, fun i v hi => ?_⟩
  rw [sm_nv_eq hag (show sm_nv a b v = true from List.all_eq_true.mp hL (some v) (List.mem_of_getElem? hi))]
  exact h.2.2 i v hi
theorem sm_st_ag {a b : Nat} {ad ad' : Nat → Nat} {r : List Value} (hag : sm_ag a b ad' ad) (hr : r.all (sm_nv a b) = true) : r.map (sm_v ad') = r.map (sm_v ad) := by
  apply List.map_congr_left
  intro v hv
  exact sm_nv_eq hag (List.all_eq_true.mp hr v hv)
def sm_l (ad : Nat → Nat) (L : List (Option Value)) : List (Nat × Value) := (L.mapIdx (fun i v => (i, v))).filterMap (fun q => q.2.map (fun v => (q.1, sm_v ad v)))
theorem sm_l_mem {ad : Nat → Nat} {L : List (Option Value)} {i : Nat} {w : Value} : (i, w) ∈ sm_l ad L ↔ ∃ v, L[i]? = some (some v) ∧ w = sm_v ad v := by
  unfold sm_l
  rw [List.mem_filterMap]
  constructor
  · rintro ⟨⟨j, o⟩, hm, ho⟩
    obtain ⟨k, hk⟩ := List.getElem?_of_mem hm
    rw [List.getElem?_mapIdx] at hk
    cases hL : L[k]? with
    | none => rw [hL] at hk; cases hk
    | some x =>
      rw [hL] at hk
      cases hk
      cases o with
      | none => cases ho
      | some v => cases ho; exact ⟨v, hL, rfl⟩
  · rintro ⟨v, hL, rfl⟩
    refine ⟨(i, some v), ?_, rfl⟩
    apply List.mem_of_getElem? (i := i)
    rw [List.getElem?_mapIdx, hL]
    rfl
theorem sm_has.lv {ls : Array Slot} {nL : Nat} {ad : Nat → Nat} {L : List (Option Value)} (h : sm_has ls nL ad L) : lv_has ls nL (sm_l ad L) := by
  refine ⟨h.1, h.2.1, fun q hq => ?_⟩
  obtain ⟨v, h1, h2⟩ := sm_l_mem.mp (show (q.1, q.2) ∈ sm_l ad L from hq)
  rw [h2]
  exact h.2.2 _ _ h1
def sm_c1 : Option Value → Bool
  | some (.long _) => false
  | some (.double _) => false
  | _ => true
/-- the place ahead of i holds no long -/
def sm_ah (L : List (Option Value)) : Nat → Bool
  | 0 => true
  | i + 1 => sm_c1 (L.getD i none)
theorem sm_ah_ok {L : List (Option Value)} {i j : Nat} {w : Value} (h : sm_ah L i = true) (hj : j + 1 = i) (hw : L[j]? = some (some w)) : ¬ w.category = 2 := by
  subst hj
  have h1 : sm_c1 (L.getD j none) = true := h
  rw [List.getD_eq_getElem?_getD, hw] at h1
  cases w <;> simp_all [sm_c1, Value.category]
theorem sm_has.st1 {ls' : Array Slot} {nL : Nat} {ad : Nat → Nat} {L : List (Option Value)} {i : Nat} {v : Value} (ha : sm_ah L i = true)
    (h : lv_has ls' nL ((i, sm_v ad v) :: (sm_l ad L).filter (fun q => !(q.1 == i) && !(q.1 + 1 == i && q.2.category == 2)))) : sm_has ls' nL ad (L.set i (some v)) := by
  refine ⟨h.1, h.2.1, fun j w hj => ?_⟩
  by_cases hji : j = i
  · subst hji
    have hlt : j < L.length := by
      have := (List.getElem?_eq_some_iff.mp hj).1
      simpa using this
    rw [List.getElem?_set_self hlt] at hj
    cases hj
    exact h.2.2 (j, sm_v ad v) List.mem_cons_self
  · rw [List.getElem?_set_ne (Ne.symm hji)] at hj
    refine h.2.2 (j, sm_v ad w) (List.mem_cons_of_mem _ (List.mem_filter.mpr ⟨sm_l_mem.mpr ⟨w, hj, rfl⟩, ?_⟩))
    have h2 : ¬ (j + 1 = i ∧ w.category = 2) := fun q => sm_ah_ok ha q.1 hj q.2
    by_cases h3 : j + 1 = i
    · have h4 : ¬ w.category = 2 := fun q => h2 ⟨h3, q⟩
      simp [hji, h3, sm_v_cat, h4]
    · simp [hji, h3]
theorem sm_has.st2 {ls' : Array Slot} {nL : Nat} {ad : Nat → Nat} {L : List (Option Value)} {i : Nat} {v : Value} (ha : sm_ah L i = true)
    (h : lv_has ls' nL ((i, sm_v ad v) :: (sm_l ad L).filter (fun q => !(q.1 == i) && (!(q.1 == i + 1) && !(q.1 + 1 == i && q.2.category == 2))))) : sm_has ls' nL ad ((L.set i (some v)).set (i + 1) none) := by
  refine ⟨h.1, h.2.1, fun j w hj => ?_⟩
  by_cases hj1 : j = i + 1
  · subst hj1
    have hlt : i + 1 < (L.set i (some v)).length := (by have := (List.getElem?_eq_some_iff.mp hj).1; simpa using this)
    rw [List.getElem?_set_self hlt] at hj
    cases hj
  · rw [List.getElem?_set_ne (Ne.symm hj1)] at hj
    by_cases hji : j = i
    · subst hji
      have hlt : j < L.length := by
        have := (List.getElem?_eq_some_iff.mp hj).1
        simpa using this
      rw [List.getElem?_set_self hlt] at hj
      cases hj
      exact h.2.2 (j, sm_v ad v) List.mem_cons_self
    · rw [List.getElem?_set_ne (Ne.symm hji)] at hj
      refine h.2.2 (j, sm_v ad w) (List.mem_cons_of_mem _ (List.mem_filter.mpr ⟨sm_l_mem.mpr ⟨w, hj, rfl⟩, ?_⟩))
      have h2 : ¬ (j + 1 = i ∧ w.category = 2) := fun q => sm_ah_ok ha q.1 hj q.2
      by_cases h3 : j + 1 = i
      · have h4 : ¬ w.category = 2 := fun q => h2 ⟨h3, q⟩
        simp [hji, hj1, h3, sm_v_cat, h4]
      · simp [hji, hj1, h3]
/-! words of nest mates: they go with the state -/
def sm_isN : Cond → Bool
  | .fieldLinkNest _ _ _ _ _ _ => true
  | .methodLinkNest _ _ _ _ => true
  | _ => false
def sm_nw (NW : List Cond) (U : State) : Prop := ∀ w ∈ NW, sm_isN w = true ∧ va_Nw w U
theorem sm_nw.warm {NW : List Cond} {s U : State} (h : sm_nw NW s) (hW : s.WarmedH U.vm) : sm_nw NW U := by
  intro w hw
  obtain ⟨h1, h2⟩ := h w hw
  refine ⟨h1, ?_⟩
  cases w with
  | fieldLinkNest a i b n d k => exact va_Nw.warmF hW h2
  | methodLinkNest a i x k => exact va_Nw.warmM hW h2
  | _ => cases h1
theorem sm_nw.same {NW : List Cond} {s U : State} (h : sm_nw NW s) (hv : s.vm = U.vm) : sm_nw NW U := by
  intro w hw
  obtain ⟨h1, h2⟩ := h w hw
  refine ⟨h1, ?_⟩
  cases w with
  | fieldLinkNest a i b n d k => exact va_Nw.same rfl hv h2
  | methodLinkNest a i x k => exact va_Nw.same rfl hv h2
  | _ => cases h1
/-! the judgement: where a method stands, in plain words -/
abbrev sm_Z : Type := Launch × va_G × (Nat → ClassId) × List Cond
abbrev sm_X : Type := sm_Z × Program × Env × Room × State × MethodId × Array Value × List Frame × Method × Code × Nat × (Nat → Prop) × Heap × (State → Prop) × Nat × Nat
def sm_E (cl : List vw_C) (X : sm_X) (pc : Nat) (L : List (Option Value)) (st : List Value) (ad : Nat → Nat) (sh : sm_S) (μ : sm_M) : Prop := match X with
  | ((l, D, cA, NW), p, e, R, s, m, args, below, meth, c, nL, A, H0, Q, n0, s0) => ∀ (ls : Array Slot) (H : Heap) (locs : List Loc) (cells slots : Nat), cells + n0 = sh.length → slots + s0 = sm_sl sh → sm_has ls nL ad L → va_P D cl (sm_w ad cA sh μ) H → va_D A (sm_w ad cA sh μ) → va_S A H0 H locs → W p l e R s m args below meth c H locs cells slots Q (F0 m pc ls (st.map (sm_v ad)))
def sm_ok (cl : List vw_C) (X : sm_X) (cc : ByteArray) (n : Nat) (own : String) (Ts : List Cond) (ret : Option FieldType) (rm : Room) (N S : Nat) (ini : Bool) : Prop := match X with
  | ((l, D, cA, NW), p, e, R, s, m, args, below, meth, c, nL, A, H0, Q, n0, s0) => p.tables.exec = Jvm.exec ∧ c.code = cc ∧ c.maxLocals = nL ∧ nL = n ∧ s.vm.findClass own = some m.cls ∧ (∀ w ∈ Ts, w.before args s = true) ∧ va_K D cl (sm_ty cA) s ∧ meth.locks = false ∧ meth.sig.returnType = ret ∧ R = rm ∧ (∀ q, H0.size ≤ q → A q) ∧ n0 + rm.cells = N ∧ s0 + rm.slots = S ∧ (ini = true → meth.name = "<init>") ∧ sm_nw NW s
def sm_Q (cl : List vw_C) (Z : sm_Z) (ad : Nat → Nat) (sh : sm_S) (mc ms : Nat) (A : Nat → Prop) (Q : Option Value → sm_S → sm_M → Prop) : Array Value → State → Outcome → State → Prop := match Z with
  | (l, D, cA, NW) => fun _ st oc t => (∃ (r : Option Value) (ad' : Nat → Nat) (sh' : sm_S) (μ' : sm_M), oc = .returned (r.map (sm_v ad')) ∧ sh'.length = sh.length + mc ∧ sm_sl sh' = sm_sl sh + ms ∧ sm_ag sh.length sh'.length ad' ad ∧ Q r sh' μ' ∧ va_P D cl (sm_w ad' cA sh' μ') t.heap ∧ va_K D cl (sm_ty cA) t ∧ va_D A (sm_w ad' cA sh' μ')) ∧ va_F A st t
def sm_fin (cl : List vw_C) (X : sm_X) (ad0 : Nat → Nat) (sh0 : sm_S) (mc ms : Nat) (Q0 : Option Value → sm_S → sm_M → Prop) : Prop := match X with
  | ((l, D, cA, NW), p, e, R, s, m, args, below, meth, c, nL, A, H0, Q, n0, s0) => Q = MQ below (sm_Q cl (l, D, cA, NW) ad0 sh0 mc ms A Q0) args s mc ms A ∧ H0 = s.heap ∧ n0 = sh0.length ∧ s0 = sm_sl sh0
/-- a method's contract: called so, at this world, it returns so that Q -/
def sm_C (cl : List vw_C) (Z : sm_Z) (y : MethodName) (ws : List Cond) (rm : Room) (av : List Value) (ad : Nat → Nat) (sh : sm_S) (μ : sm_M) (Q : Option Value → sm_S → sm_M → Prop) : Prop := match Z with
  | (l, D, cA, NW) => ∀ sz : Nat, Met l y ws rm (va_Pc (av.map (sm_v ad)) (fun U => U.heap.size = sz ∧ va_P D cl (sm_w ad cA sh μ) U.heap ∧ va_K D cl (sm_ty cA) U ∧ va_D (fun _ => True) (sm_w ad cA sh μ) ∧ sm_nw NW U)) (sm_Q cl (l, D, cA, NW) ad sh rm.cells rm.slots (sm_A ad sh sz) Q) rm.cells rm.slots (sm_A ad sh sz)
/-- fewer locals are known -/
theorem sm_E.less {cl : List vw_C} {X : sm_X} {pc : Nat} {L L' : List (Option Value)} {st : List Value} {ad : Nat → Nat} {sh : sm_S} {μ : sm_M} (h : ∀ (i : Nat) (v : Value), L'[i]? = some (some v) → L[i]? = some (some v)) (k : sm_E cl X pc L' st ad sh μ) : sm_E cl X pc L st ad sh μ := by
  obtain ⟨⟨l, D, cA, NW⟩, p, e, R, s, m, args, below, meth, c, nL, A, H0, Q, n0, s0⟩ := X
  exact fun ls H locs cells slots g1 g2 h1 h2 h3 h4 => k ls H locs cells slots g1 g2 ⟨h1.1, h1.2.1, fun i v q => h1.2.2 i v (h i v q)⟩ h2 h3 h4
def sm_L0 (n : Nat) (av : List Value) : List (Option Value) := let f := av.flatMap (fun v => if v.category = 2 then [some v, none] else [some v]); f ++ List.replicate (n - f.length) none
theorem sm_L0_args {ad : Nat → Nat} {v : Value} : ∀ (av : List Value) (o i : Nat), (av.flatMap (fun v => if v.category = 2 then [some v, none] else [some v]))[i]? = some (some v) → (o + i, sm_v ad v) ∈ lv_args o (av.map (sm_v ad))
  | [], o, i, h => by simp at h
  | a :: t, o, i, h => by
    rw [List.flatMap_cons] at h
    show _ ∈ (o, sm_v ad a) :: lv_args (if (sm_v ad a).category = 2 then o + 2 else o + 1) (t.map (sm_v ad))
    rw [sm_v_cat]
    by_cases hc : a.category = 2
    · rw [if_pos hc] at h ⊢
      match i, h with
      | 0, h =>
        have h2 : a = v := by simpa using h
        subst h2
        exact List.mem_cons_self
      | 1, h => simp at h
      | j + 2, h =>
        refine List.mem_cons_of_mem _ ?_
        have h2 := sm_L0_args (ad := ad) t (o + 2) j (by simpa using h)
        rwa [show o + 2 + j = o + (j + 2) by omega] at h2
    · rw [if_neg hc] at h ⊢
      match i, h with
      | 0, h =>
        have h2 : a = v := by simpa using h
        subst h2
        exact List.mem_cons_self
      | j + 1, h =>
        refine List.mem_cons_of_mem _ ?_
        have h2 := sm_L0_args (ad := ad) t (o + 1) j (by simpa using h)
        rwa [show o + 1 + j = o + (j + 1) by omega] at h2
theorem sm_sl_len {ad : Nat → Nat} (av : List Value) : (lg_sl (av.map (sm_v ad))).length = (lg_sl av).length := by
  induction av with
  | nil => rfl
  | cons a t ih =>
    simp only [lg_sl, List.map_cons, List.flatMap_cons, List.length_append, sm_v_cat] at ih ⊢
    rw [ih]
    split <;> rfl
theorem sm_enter {cl : List vw_C} {Z : sm_Z} {y : MethodName} {cc : ByteArray} {nL : Nat} {ret : Option FieldType} {W' : List Cond} {rm : Room} {av : List Value} {ad : Nat → Nat} {sh : sm_S} {μ : sm_M} {Q : Option Value → sm_S → sm_M → Prop} (hy : plainName y.cls = true) (hlen : (lg_sl av).length ≤ nL)
    (body : ∀ X : sm_X, X.1 = Z → sm_ok cl X cc nL y.cls W' ret rm (sh.length + rm.cells) (sm_sl sh + rm.slots) (y.name == "<init>") → sm_fin cl X ad sh rm.cells rm.slots Q → sm_E cl X 0 (sm_L0 nL av) [] ad sh μ) : sm_C cl Z y (Cond.code y cc nL ret :: W') rm av ad sh μ Q := by
  obtain ⟨l, D, cA, NW⟩ := Z
  intro sz
  refine Met.ofW (cc := cc) (maxL := nL) (ret := ret) hy rfl ?_
  intro p e s m args below meth c s₁ B hml hv
  obtain ⟨rfl, hsz, hP, hK, hD0, hnw⟩ := hv
  subst hsz
  have hD : va_D (sm_A ad sh s.heap.size) (sm_w ad cA sh μ) := ⟨hD0.1, fun k q hk => by
    rw [sm_w_at] at hk
    cases hs : sh[k]? with
    | none => rw [hs] at hk; cases hk
    | some x =>
      rw [hs] at hk
      cases hk
      refine Or.inl ⟨k, (List.getElem?_eq_some_iff.mp hs).1, ?_⟩
      cases x <;> rfl⟩
  have hl := lv_entry (av.map (sm_v ad)) (n := nL) (by rw [sm_sl_len]; exact hlen)
  rw [lg_entry_eq]
  have h := body ((l, D, cA, NW), p, e, rm, s, m, (av.map (sm_v ad)).toArray, below, meth, c, nL, sm_A ad sh s.heap.size, s.heap, MQ below (sm_Q cl (l, D, cA, NW) ad sh rm.cells rm.slots (sm_A ad sh s.heap.size) Q) (av.map (sm_v ad)).toArray s rm.cells rm.slots (sm_A ad sh s.heap.size), sh.length, sm_sl sh) rfl ⟨B.exec, B.bytes, hml, rfl, findClass_of_methodNamed B.named, fun w hw => atoms_spec (ws := Cond.code y cc nL ret :: W') B.pre w (List.mem_cons_of_mem _ hw), hK, B.notSynchronized, B.returns, rfl, fun _ h => Or.inr h, rfl, rfl, fun h => (name_of_methodNamed B.named B.method).1.trans (eq_of_beq h), hnw⟩ ⟨rfl, rfl, rfl, rfl⟩
  refine h _ s.heap [] 0 0 (Nat.zero_add _) (Nat.zero_add _) ⟨hl.1, hl.2.1, fun i v hi => hl.2.2 (i, sm_v ad v) ?_⟩ hP hD va_S.rf
  have h2 : (av.flatMap (fun v => if v.category = 2 then [some v, none] else [some v]))[i]? = some (some v) := by
    unfold sm_L0 at hi
    rw [List.getElem?_append] at hi
    split at hi
    · exact hi
    · exfalso
      have := List.eq_of_mem_replicate (List.mem_of_getElem? hi)
      cases this
  have h3 := sm_L0_args (ad := ad) av 0 i h2
  rwa [Nat.zero_add] at h3
theorem sm_call_core {cl : List vw_C} {sh : sm_S} {l : Launch} {D : va_G} {NW : List Cond} {ad : Nat → Nat} {cA : Nat → ClassId} {p : Program} {e : Env} {R : Room} {s : State} {m : MethodId} {args : Array Value} {below : List Frame} {meth : Method} {c : Code} {H H0 : Heap} {locs : List Loc} {cells slots pc mc ms sz : Nat} {Q : State → Prop} {ls : Array Slot} {st0 rest : List Value} {A : Nat → Prop} {Q' : Option Value → sm_S → sm_M → Prop} {a : Array Value}
    (hr : va_Run p l e R s m args below meth c H locs cells slots mc ms (F0 m pc ls st0) rest (sm_Q cl (l, D, cA, NW) ad sh mc ms (sm_A ad sh sz) Q' a) (sm_A ad sh sz)) (hS : va_S A H0 H locs) (hA : ∀ q, sm_A ad sh sz q → A q)
    (kk : ∀ (r : Option Value) (ad' : Nat → Nat) (sh' : sm_S) (μ' : sm_M) (H1 : Heap) (locs1 : List Loc), sh'.length = sh.length + mc → sm_sl sh' = sm_sl sh + ms → sm_ag sh.length sh'.length ad' ad → Q' r sh' μ' → va_P D cl (sm_w ad' cA sh' μ') H1 → va_D A (sm_w ad' cA sh' μ') → va_S A H0 H1 locs1 → W p l e R s m args below meth c H1 locs1 (cells + mc) (slots + ms) Q (F0 m (pc + 3) ls ((r.map (sm_v ad')).toList ++ rest))) : W p l e R s m args below meth c H locs cells slots Q (F0 m pc ls st0) := by
  intro T hT X
  obtain ⟨v, st₀, t, T', L, h0, X', hL, e1, e2, ⟨⟨r, ad', sh', μ', hv, hn, hs, hag, hq, hP, hK, hD⟩, hz, hk⟩, st⟩ := hr T hT X
  have hv : v = r.map (sm_v ad') := Outcome.returned.inj hv
  subst hv
  rw [h0] at hz hk
  obtain ⟨t2, a1, b1⟩ := kk r ad' sh' μ' T'.heap (locs ++ L) hn hs hag hq (by rw [e1]; exact hP) (hD.weaken (fun k q _ h => hA q.1 h))
    ⟨Nat.le_trans hS.1 (by rw [e1]; exact hz), fun q g1 g2 => by rw [e1, hk q (Nat.lt_of_lt_of_le g1 hS.1) (fun z => g2 (hA q z))]; exact hS.2.1 q g1 g2, fun q hq => by
      rcases List.mem_append.mp hq with h | h
      · exact hS.2.2 q h
      · exact hA _ (hL q h)⟩ T' rfl X'
  exact ⟨t2, st t2 a1, b1⟩
theorem sm_A_in {A : Nat → Prop} {ad : Nat → Nat} {cA : Nat → ClassId} {sh : sm_S} {μ : sm_M} {H0 H : Heap} {locs : List Loc} (hD : va_D A (sm_w ad cA sh μ)) (hS : va_S A H0 H locs) (hA : ∀ q, H0.size ≤ q → A q) : ∀ q, sm_A ad sh H.size q → A q := by
  intro q h
  rcases h with ⟨k, hk, rfl⟩ | h
  · have h1 : (sm_w ad cA sh μ)[k]? = some (sm_e ad cA μ k sh[k]) := by rw [sm_w_at, List.getElem?_eq_getElem hk]; rfl
    have h2 := hD.2 k _ h1
    have h3 : (sm_e ad cA μ k sh[k]).1 = ad k := by cases sh[k] <;> rfl
    rwa [h3] at h2
  · exact hA q (Nat.le_trans hS.1 h)

theorem sm_iadd {cl : List vw_C} {X : sm_X} {cc : ByteArray} {n : Nat} {own : String} {Ts : List Cond} {ret : Option FieldType} {rm : Room} {N S : Nat} {ini : Bool} (hX : sm_ok cl X cc n own Ts ret rm N S ini) {pc : Nat} {L : List (Option Value)} {r : List Value} {ad : Nat → Nat} {sh : sm_S} {μ : sm_M} {x y : Int32} (d : decode cc pc = .ok (.iadd, 1)) (k : sm_E cl X (pc + 1) L (.int (x + y) :: r) ad sh μ) : sm_E cl X pc L (.int y :: .int x :: r) ad sh μ := by
  obtain ⟨⟨l, D, cA, NW⟩, pr, e, R, s, m, args, below, meth, c, nL, A, H0, Q, n0, s0⟩ := X
  obtain ⟨hx, hb, hml, hn, hown, hts, hK, hlk, hrt, hR, hA, hc0, hs0, hin, hnw⟩ := hX
  exact fun ls H locs cells slots g1 g2 h1 h2 h3 h4 => lv_iadd hx hb d (k ls H locs cells slots g1 g2 h1 h2 h3 h4)
theorem sm_isub {cl : List vw_C} {X : sm_X} {cc : ByteArray} {n : Nat} {own : String} {Ts : List Cond} {ret : Option FieldType} {rm : Room} {N S : Nat} {ini : Bool} (hX : sm_ok cl X cc n own Ts ret rm N S ini) {pc : Nat} {L : List (Option Value)} {r : List Value} {ad : Nat → Nat} {sh : sm_S} {μ : sm_M} {x y : Int32} (d : decode cc pc = .ok (.isub, 1)) (k : sm_E cl X (pc + 1) L (.int (x - y) :: r) ad sh μ) : sm_E cl X pc L (.int y :: .int x :: r) ad sh μ := by
  obtain ⟨⟨l, D, cA, NW⟩, pr, e, R, s, m, args, below, meth, c, nL, A, H0, Q, n0, s0⟩ := X
  obtain ⟨hx, hb, hml, hn, hown, hts, hK, hlk, hrt, hR, hA, hc0, hs0, hin, hnw⟩ := hX
  exact fun ls H locs cells slots g1 g2 h1 h2 h3 h4 => lv_isub hx hb d (k ls H locs cells slots g1 g2 h1 h2 h3 h4)
theorem sm_imul {cl : List vw_C} {X : sm_X} {cc : ByteArray} {n : Nat} {own : String} {Ts : List Cond} {ret : Option FieldType} {rm : Room} {N S : Nat} {ini : Bool} (hX : sm_ok cl X cc n own Ts ret rm N S ini) {pc : Nat} {L : List (Option Value)} {r : List Value} {ad : Nat → Nat} {sh : sm_S} {μ : sm_M} {x y : Int32} (d : decode cc pc = .ok (.imul, 1)) (k : sm_E cl X (pc + 1) L (.int (x * y) :: r) ad sh μ) : sm_E cl X pc L (.int y :: .int x :: r) ad sh μ := by
  obtain ⟨⟨l, D, cA, NW⟩, pr, e, R, s, m, args, below, meth, c, nL, A, H0, Q, n0, s0⟩ := X
  obtain ⟨hx, hb, hml, hn, hown, hts, hK, hlk, hrt, hR, hA, hc0, hs0, hin, hnw⟩ := hX
  exact fun ls H locs cells slots g1 g2 h1 h2 h3 h4 => lv_imul hx hb d (k ls H locs cells slots g1 g2 h1 h2 h3 h4)
theorem sm_iand {cl : List vw_C} {X : sm_X} {cc : ByteArray} {n : Nat} {own : String} {Ts : List Cond} {ret : Option FieldType} {rm : Room} {N S : Nat} {ini : Bool} (hX : sm_ok cl X cc n own Ts ret rm N S ini) {pc : Nat} {L : List (Option Value)} {r : List Value} {ad : Nat → Nat} {sh : sm_S} {μ : sm_M} {x y : Int32} (d : decode cc pc = .ok (.iand, 1)) (k : sm_E cl X (pc + 1) L (.int (x &&& y) :: r) ad sh μ) : sm_E cl X pc L (.int y :: .int x :: r) ad sh μ := by
  obtain ⟨⟨l, D, cA, NW⟩, pr, e, R, s, m, args, below, meth, c, nL, A, H0, Q, n0, s0⟩ := X
  obtain ⟨hx, hb, hml, hn, hown, hts, hK, hlk, hrt, hR, hA, hc0, hs0, hin, hnw⟩ := hX
  exact fun ls H locs cells slots g1 g2 h1 h2 h3 h4 => lv_iand hx hb d (k ls H locs cells slots g1 g2 h1 h2 h3 h4)
theorem sm_ior {cl : List vw_C} {X : sm_X} {cc : ByteArray} {n : Nat} {own : String} {Ts : List Cond} {ret : Option FieldType} {rm : Room} {N S : Nat} {ini : Bool} (hX : sm_ok cl X cc n own Ts ret rm N S ini) {pc : Nat} {L : List (Option Value)} {r : List Value} {ad : Nat → Nat} {sh : sm_S} {μ : sm_M} {x y : Int32} (d : decode cc pc = .ok (.ior, 1)) (k : sm_E cl X (pc + 1) L (.int (x ||| y) :: r) ad sh μ) : sm_E cl X pc L (.int y :: .int x :: r) ad sh μ := by
  obtain ⟨⟨l, D, cA, NW⟩, pr, e, R, s, m, args, below, meth, c, nL, A, H0, Q, n0, s0⟩ := X
  obtain ⟨hx, hb, hml, hn, hown, hts, hK, hlk, hrt, hR, hA, hc0, hs0, hin, hnw⟩ := hX
  exact fun ls H locs cells slots g1 g2 h1 h2 h3 h4 => lv_ior hx hb d (k ls H locs cells slots g1 g2 h1 h2 h3 h4)
theorem sm_ixor {cl : List vw_C} {X : sm_X} {cc : ByteArray} {n : Nat} {own : String} {Ts : List Cond} {ret : Option FieldType} {rm : Room} {N S : Nat} {ini : Bool} (hX : sm_ok cl X cc n own Ts ret rm N S ini) {pc : Nat} {L : List (Option Value)} {r : List Value} {ad : Nat → Nat} {sh : sm_S} {μ : sm_M} {x y : Int32} (d : decode cc pc = .ok (.ixor, 1)) (k : sm_E cl X (pc + 1) L (.int (x ^^^ y) :: r) ad sh μ) : sm_E cl X pc L (.int y :: .int x :: r) ad sh μ := by
  obtain ⟨⟨l, D, cA, NW⟩, pr, e, R, s, m, args, below, meth, c, nL, A, H0, Q, n0, s0⟩ := X
  obtain ⟨hx, hb, hml, hn, hown, hts, hK, hlk, hrt, hR, hA, hc0, hs0, hin, hnw⟩ := hX
  exact fun ls H locs cells slots g1 g2 h1 h2 h3 h4 => lv_ixor hx hb d (k ls H locs cells slots g1 g2 h1 h2 h3 h4)
theorem sm_ladd {cl : List vw_C} {X : sm_X} {cc : ByteArray} {n : Nat} {own : String} {Ts : List Cond} {ret : Option FieldType} {rm : Room} {N S : Nat} {ini : Bool} (hX : sm_ok cl X cc n own Ts ret rm N S ini) {pc : Nat} {L : List (Option Value)} {r : List Value} {ad : Nat → Nat} {sh : sm_S} {μ : sm_M} {x y : Int64} (d : decode cc pc = .ok (.ladd, 1)) (k : sm_E cl X (pc + 1) L (.long (x + y) :: r) ad sh μ) : sm_E cl X pc L (.long y :: .long x :: r) ad sh μ := by
  obtain ⟨⟨l, D, cA, NW⟩, pr, e, R, s, m, args, below, meth, c, nL, A, H0, Q, n0, s0⟩ := X
  obtain ⟨hx, hb, hml, hn, hown, hts, hK, hlk, hrt, hR, hA, hc0, hs0, hin, hnw⟩ := hX
  exact fun ls H locs cells slots g1 g2 h1 h2 h3 h4 => lv_ladd hx hb d (k ls H locs cells slots g1 g2 h1 h2 h3 h4)
theorem sm_lsub {cl : List vw_C} {X : sm_X} {cc : ByteArray} {n : Nat} {own : String} {Ts : List Cond} {ret : Option FieldType} {rm : Room} {N S : Nat} {ini : Bool} (hX : sm_ok cl X cc n own Ts ret rm N S ini) {pc : Nat} {L : List (Option Value)} {r : List Value} {ad : Nat → Nat} {sh : sm_S} {μ : sm_M} {x y : Int64} (d : decode cc pc = .ok (.lsub, 1)) (k : sm_E cl X (pc + 1) L (.long (x - y) :: r) ad sh μ) : sm_E cl X pc L (.long y :: .long x :: r) ad sh μ := by
  obtain ⟨⟨l, D, cA, NW⟩, pr, e, R, s, m, args, below, meth, c, nL, A, H0, Q, n0, s0⟩ := X
  obtain ⟨hx, hb, hml, hn, hown, hts, hK, hlk, hrt, hR, hA, hc0, hs0, hin, hnw⟩ := hX
  exact fun ls H locs cells slots g1 g2 h1 h2 h3 h4 => lv_lsub hx hb d (k ls H locs cells slots g1 g2 h1 h2 h3 h4)
theorem sm_lmul {cl : List vw_C} {X : sm_X} {cc : ByteArray} {n : Nat} {own : String} {Ts : List Cond} {ret : Option FieldType} {rm : Room} {N S : Nat} {ini : Bool} (hX : sm_ok cl X cc n own Ts ret rm N S ini) {pc : Nat} {L : List (Option Value)} {r : List Value} {ad : Nat → Nat} {sh : sm_S} {μ : sm_M} {x y : Int64} (d : decode cc pc = .ok (.lmul, 1)) (k : sm_E cl X (pc + 1) L (.long (x * y) :: r) ad sh μ) : sm_E cl X pc L (.long y :: .long x :: r) ad sh μ := by
  obtain ⟨⟨l, D, cA, NW⟩, pr, e, R, s, m, args, below, meth, c, nL, A, H0, Q, n0, s0⟩ := X
  obtain ⟨hx, hb, hml, hn, hown, hts, hK, hlk, hrt, hR, hA, hc0, hs0, hin, hnw⟩ := hX
  exact fun ls H locs cells slots g1 g2 h1 h2 h3 h4 => lv_lmul hx hb d (k ls H locs cells slots g1 g2 h1 h2 h3 h4)
theorem sm_land {cl : List vw_C} {X : sm_X} {cc : ByteArray} {n : Nat} {own : String} {Ts : List Cond} {ret : Option FieldType} {rm : Room} {N S : Nat} {ini : Bool} (hX : sm_ok cl X cc n own Ts ret rm N S ini) {pc : Nat} {L : List (Option Value)} {r : List Value} {ad : Nat → Nat} {sh : sm_S} {μ : sm_M} {x y : Int64} (d : decode cc pc = .ok (.land, 1)) (k : sm_E cl X (pc + 1) L (.long (x &&& y) :: r) ad sh μ) : sm_E cl X pc L (.long y :: .long x :: r) ad sh μ := by
  obtain ⟨⟨l, D, cA, NW⟩, pr, e, R, s, m, args, below, meth, c, nL, A, H0, Q, n0, s0⟩ := X
  obtain ⟨hx, hb, hml, hn, hown, hts, hK, hlk, hrt, hR, hA, hc0, hs0, hin, hnw⟩ := hX
  exact fun ls H locs cells slots g1 g2 h1 h2 h3 h4 => lv_land hx hb d (k ls H locs cells slots g1 g2 h1 h2 h3 h4)
theorem sm_lor {cl : List vw_C} {X : sm_X} {cc : ByteArray} {n : Nat} {own : String} {Ts : List Cond} {ret : Option FieldType} {rm : Room} {N S : Nat} {ini : Bool} (hX : sm_ok cl X cc n own Ts ret rm N S ini) {pc : Nat} {L : List (Option Value)} {r : List Value} {ad : Nat → Nat} {sh : sm_S} {μ : sm_M} {x y : Int64} (d : decode cc pc = .ok (.lor, 1)) (k : sm_E cl X (pc + 1) L (.long (x ||| y) :: r) ad sh μ) : sm_E cl X pc L (.long y :: .long x :: r) ad sh μ := by
  obtain ⟨⟨l, D, cA, NW⟩, pr, e, R, s, m, args, below, meth, c, nL, A, H0, Q, n0, s0⟩ := X
  obtain ⟨hx, hb, hml, hn, hown, hts, hK, hlk, hrt, hR, hA, hc0, hs0, hin, hnw⟩ := hX
  exact fun ls H locs cells slots g1 g2 h1 h2 h3 h4 => lv_lor hx hb d (k ls H locs cells slots g1 g2 h1 h2 h3 h4)
theorem sm_lxor {cl : List vw_C} {X : sm_X} {cc : ByteArray} {n : Nat} {own : String} {Ts : List Cond} {ret : Option FieldType} {rm : Room} {N S : Nat} {ini : Bool} (hX : sm_ok cl X cc n own Ts ret rm N S ini) {pc : Nat} {L : List (Option Value)} {r : List Value} {ad : Nat → Nat} {sh : sm_S} {μ : sm_M} {x y : Int64} (d : decode cc pc = .ok (.lxor, 1)) (k : sm_E cl X (pc + 1) L (.long (x ^^^ y) :: r) ad sh μ) : sm_E cl X pc L (.long y :: .long x :: r) ad sh μ := by
  obtain ⟨⟨l, D, cA, NW⟩, pr, e, R, s, m, args, below, meth, c, nL, A, H0, Q, n0, s0⟩ := X
  obtain ⟨hx, hb, hml, hn, hown, hts, hK, hlk, hrt, hR, hA, hc0, hs0, hin, hnw⟩ := hX
  exact fun ls H locs cells slots g1 g2 h1 h2 h3 h4 => lv_lxor hx hb d (k ls H locs cells slots g1 g2 h1 h2 h3 h4)
theorem sm_idiv {cl : List vw_C} {X : sm_X} {cc : ByteArray} {n : Nat} {own : String} {Ts : List Cond} {ret : Option FieldType} {rm : Room} {N S : Nat} {ini : Bool} (hX : sm_ok cl X cc n own Ts ret rm N S ini) {pc : Nat} {L : List (Option Value)} {r : List Value} {ad : Nat → Nat} {sh : sm_S} {μ : sm_M} {x y : Int32} (d : decode cc pc = .ok (.idiv, 1)) (hne : ¬ y = 0) (k : sm_E cl X (pc + 1) L (.int (x / y) :: r) ad sh μ) : sm_E cl X pc L (.int y :: .int x :: r) ad sh μ := by
  obtain ⟨⟨l, D, cA, NW⟩, pr, e, R, s, m, args, below, meth, c, nL, A, H0, Q, n0, s0⟩ := X
  obtain ⟨hx, hb, hml, hn, hown, hts, hK, hlk, hrt, hR, hA, hc0, hs0, hin, hnw⟩ := hX
  exact fun ls H locs cells slots g1 g2 h1 h2 h3 h4 => lv_idiv hx hb d hne (k ls H locs cells slots g1 g2 h1 h2 h3 h4)
theorem sm_irem {cl : List vw_C} {X : sm_X} {cc : ByteArray} {n : Nat} {own : String} {Ts : List Cond} {ret : Option FieldType} {rm : Room} {N S : Nat} {ini : Bool} (hX : sm_ok cl X cc n own Ts ret rm N S ini) {pc : Nat} {L : List (Option Value)} {r : List Value} {ad : Nat → Nat} {sh : sm_S} {μ : sm_M} {x y : Int32} (d : decode cc pc = .ok (.irem, 1)) (hne : ¬ y = 0) (k : sm_E cl X (pc + 1) L (.int (x - x / y * y) :: r) ad sh μ) : sm_E cl X pc L (.int y :: .int x :: r) ad sh μ := by
  obtain ⟨⟨l, D, cA, NW⟩, pr, e, R, s, m, args, below, meth, c, nL, A, H0, Q, n0, s0⟩ := X
  obtain ⟨hx, hb, hml, hn, hown, hts, hK, hlk, hrt, hR, hA, hc0, hs0, hin, hnw⟩ := hX
  exact fun ls H locs cells slots g1 g2 h1 h2 h3 h4 => lv_irem hx hb d hne (k ls H locs cells slots g1 g2 h1 h2 h3 h4)
theorem sm_ineg {cl : List vw_C} {X : sm_X} {cc : ByteArray} {n : Nat} {own : String} {Ts : List Cond} {ret : Option FieldType} {rm : Room} {N S : Nat} {ini : Bool} (hX : sm_ok cl X cc n own Ts ret rm N S ini) {pc : Nat} {L : List (Option Value)} {r : List Value} {ad : Nat → Nat} {sh : sm_S} {μ : sm_M} {x : Int32} (d : decode cc pc = .ok (.ineg, 1)) (k : sm_E cl X (pc + 1) L (.int (-x) :: r) ad sh μ) : sm_E cl X pc L (.int x :: r) ad sh μ := by
  obtain ⟨⟨l, D, cA, NW⟩, pr, e, R, s, m, args, below, meth, c, nL, A, H0, Q, n0, s0⟩ := X
  obtain ⟨hx, hb, hml, hn, hown, hts, hK, hlk, hrt, hR, hA, hc0, hs0, hin, hnw⟩ := hX
  exact fun ls H locs cells slots g1 g2 h1 h2 h3 h4 => lv_ineg hx hb d (k ls H locs cells slots g1 g2 h1 h2 h3 h4)
theorem sm_iconst {cl : List vw_C} {X : sm_X} {cc : ByteArray} {n : Nat} {own : String} {Ts : List Cond} {ret : Option FieldType} {rm : Room} {N S : Nat} {ini : Bool} (hX : sm_ok cl X cc n own Ts ret rm N S ini) {pc : Nat} {L : List (Option Value)} {r : List Value} {ad : Nat → Nat} {sh : sm_S} {μ : sm_M} {i : Int} (d : decode cc pc = .ok (.iconst i, 1)) (k : sm_E cl X (pc + 1) L (.int (Int32.ofInt i) :: r) ad sh μ) : sm_E cl X pc L (r) ad sh μ := by
  obtain ⟨⟨l, D, cA, NW⟩, pr, e, R, s, m, args, below, meth, c, nL, A, H0, Q, n0, s0⟩ := X
  obtain ⟨hx, hb, hml, hn, hown, hts, hK, hlk, hrt, hR, hA, hc0, hs0, hin, hnw⟩ := hX
  exact fun ls H locs cells slots g1 g2 h1 h2 h3 h4 => lv_iconst hx hb d rfl (k ls H locs cells slots g1 g2 h1 h2 h3 h4)
theorem sm_bipush {cl : List vw_C} {X : sm_X} {cc : ByteArray} {n : Nat} {own : String} {Ts : List Cond} {ret : Option FieldType} {rm : Room} {N S : Nat} {ini : Bool} (hX : sm_ok cl X cc n own Ts ret rm N S ini) {pc : Nat} {L : List (Option Value)} {r : List Value} {ad : Nat → Nat} {sh : sm_S} {μ : sm_M} {i : Int} (d : decode cc pc = .ok (.bipush i, 2)) (k : sm_E cl X (pc + 2) L (.int (Int8.ofInt i).toInt32 :: r) ad sh μ) : sm_E cl X pc L (r) ad sh μ := by
  obtain ⟨⟨l, D, cA, NW⟩, pr, e, R, s, m, args, below, meth, c, nL, A, H0, Q, n0, s0⟩ := X
  obtain ⟨hx, hb, hml, hn, hown, hts, hK, hlk, hrt, hR, hA, hc0, hs0, hin, hnw⟩ := hX
  exact fun ls H locs cells slots g1 g2 h1 h2 h3 h4 => lv_bipush hx hb d rfl (k ls H locs cells slots g1 g2 h1 h2 h3 h4)
theorem sm_sipush {cl : List vw_C} {X : sm_X} {cc : ByteArray} {n : Nat} {own : String} {Ts : List Cond} {ret : Option FieldType} {rm : Room} {N S : Nat} {ini : Bool} (hX : sm_ok cl X cc n own Ts ret rm N S ini) {pc : Nat} {L : List (Option Value)} {r : List Value} {ad : Nat → Nat} {sh : sm_S} {μ : sm_M} {i : Int} (d : decode cc pc = .ok (.sipush i, 3)) (k : sm_E cl X (pc + 3) L (.int (Int16.ofInt i).toInt32 :: r) ad sh μ) : sm_E cl X pc L (r) ad sh μ := by
  obtain ⟨⟨l, D, cA, NW⟩, pr, e, R, s, m, args, below, meth, c, nL, A, H0, Q, n0, s0⟩ := X
  obtain ⟨hx, hb, hml, hn, hown, hts, hK, hlk, hrt, hR, hA, hc0, hs0, hin, hnw⟩ := hX
  exact fun ls H locs cells slots g1 g2 h1 h2 h3 h4 => lv_sipush hx hb d rfl (k ls H locs cells slots g1 g2 h1 h2 h3 h4)
theorem sm_lconst {cl : List vw_C} {X : sm_X} {cc : ByteArray} {n : Nat} {own : String} {Ts : List Cond} {ret : Option FieldType} {rm : Room} {N S : Nat} {ini : Bool} (hX : sm_ok cl X cc n own Ts ret rm N S ini) {pc : Nat} {L : List (Option Value)} {r : List Value} {ad : Nat → Nat} {sh : sm_S} {μ : sm_M} {i : Fin 2} (d : decode cc pc = .ok (.lconst i, 1)) (k : sm_E cl X (pc + 1) L (.long (Int64.ofNat (i : Nat)) :: r) ad sh μ) : sm_E cl X pc L (r) ad sh μ := by
  obtain ⟨⟨l, D, cA, NW⟩, pr, e, R, s, m, args, below, meth, c, nL, A, H0, Q, n0, s0⟩ := X
  obtain ⟨hx, hb, hml, hn, hown, hts, hK, hlk, hrt, hR, hA, hc0, hs0, hin, hnw⟩ := hX
  exact fun ls H locs cells slots g1 g2 h1 h2 h3 h4 => lv_lconst hx hb d rfl (k ls H locs cells slots g1 g2 h1 h2 h3 h4)
theorem sm_ldc {cl : List vw_C} {X : sm_X} {cc : ByteArray} {n : Nat} {own : String} {Ts : List Cond} {ret : Option FieldType} {rm : Room} {N S : Nat} {ini : Bool} (hX : sm_ok cl X cc n own Ts ret rm N S ini) {pc : Nat} {L : List (Option Value)} {r : List Value} {ad : Nat → Nat} {sh : sm_S} {μ : sm_M} {idx : Nat} {v : Int32} (d : decode cc pc = .ok (.ldc idx, 2)) (hc : Jvm.Cond.constant own idx v ∈ Ts) (k : sm_E cl X (pc + 2) L (.int v :: r) ad sh μ) : sm_E cl X pc L (r) ad sh μ := by
  obtain ⟨⟨l, D, cA, NW⟩, pr, e, R, s, m, args, below, meth, c, nL, A, H0, Q, n0, s0⟩ := X
  obtain ⟨hx, hb, hml, hn, hown, hts, hK, hlk, hrt, hR, hA, hc0, hs0, hin, hnw⟩ := hX
  exact fun ls H locs cells slots g1 g2 h1 h2 h3 h4 => lv_ldc hx hb hown (hts _ hc) d (k ls H locs cells slots g1 g2 h1 h2 h3 h4)
theorem sm_ldc2 {cl : List vw_C} {X : sm_X} {cc : ByteArray} {n : Nat} {own : String} {Ts : List Cond} {ret : Option FieldType} {rm : Room} {N S : Nat} {ini : Bool} (hX : sm_ok cl X cc n own Ts ret rm N S ini) {pc : Nat} {L : List (Option Value)} {r : List Value} {ad : Nat → Nat} {sh : sm_S} {μ : sm_M} {idx : Nat} {v : Int64} (d : decode cc pc = .ok (.ldc2_w idx, 3)) (hc : Jvm.Cond.constantLong own idx v ∈ Ts) (k : sm_E cl X (pc + 3) L (.long v :: r) ad sh μ) : sm_E cl X pc L (r) ad sh μ := by
  obtain ⟨⟨l, D, cA, NW⟩, pr, e, R, s, m, args, below, meth, c, nL, A, H0, Q, n0, s0⟩ := X
  obtain ⟨hx, hb, hml, hn, hown, hts, hK, hlk, hrt, hR, hA, hc0, hs0, hin, hnw⟩ := hX
  exact fun ls H locs cells slots g1 g2 h1 h2 h3 h4 => lv_ldc2 hx hb hown (hts _ hc) d (k ls H locs cells slots g1 g2 h1 h2 h3 h4)
theorem sm_i2l {cl : List vw_C} {X : sm_X} {cc : ByteArray} {n : Nat} {own : String} {Ts : List Cond} {ret : Option FieldType} {rm : Room} {N S : Nat} {ini : Bool} (hX : sm_ok cl X cc n own Ts ret rm N S ini) {pc : Nat} {L : List (Option Value)} {r : List Value} {ad : Nat → Nat} {sh : sm_S} {μ : sm_M} {x : Int32} (d : decode cc pc = .ok (.i2l, 1)) (k : sm_E cl X (pc + 1) L (.long x.toInt64 :: r) ad sh μ) : sm_E cl X pc L (.int x :: r) ad sh μ := by
  obtain ⟨⟨l, D, cA, NW⟩, pr, e, R, s, m, args, below, meth, c, nL, A, H0, Q, n0, s0⟩ := X
  obtain ⟨hx, hb, hml, hn, hown, hts, hK, hlk, hrt, hR, hA, hc0, hs0, hin, hnw⟩ := hX
  exact fun ls H locs cells slots g1 g2 h1 h2 h3 h4 => lv_i2l hx hb d rfl (k ls H locs cells slots g1 g2 h1 h2 h3 h4)
theorem sm_l2i {cl : List vw_C} {X : sm_X} {cc : ByteArray} {n : Nat} {own : String} {Ts : List Cond} {ret : Option FieldType} {rm : Room} {N S : Nat} {ini : Bool} (hX : sm_ok cl X cc n own Ts ret rm N S ini) {pc : Nat} {L : List (Option Value)} {r : List Value} {ad : Nat → Nat} {sh : sm_S} {μ : sm_M} {x : Int64} (d : decode cc pc = .ok (.l2i, 1)) (k : sm_E cl X (pc + 1) L (.int x.toInt32 :: r) ad sh μ) : sm_E cl X pc L (.long x :: r) ad sh μ := by
  obtain ⟨⟨l, D, cA, NW⟩, pr, e, R, s, m, args, below, meth, c, nL, A, H0, Q, n0, s0⟩ := X
  obtain ⟨hx, hb, hml, hn, hown, hts, hK, hlk, hrt, hR, hA, hc0, hs0, hin, hnw⟩ := hX
  exact fun ls H locs cells slots g1 g2 h1 h2 h3 h4 => lv_l2i hx hb d rfl (k ls H locs cells slots g1 g2 h1 h2 h3 h4)
theorem sm_iushr {cl : List vw_C} {X : sm_X} {cc : ByteArray} {n : Nat} {own : String} {Ts : List Cond} {ret : Option FieldType} {rm : Room} {N S : Nat} {ini : Bool} (hX : sm_ok cl X cc n own Ts ret rm N S ini) {pc : Nat} {L : List (Option Value)} {r : List Value} {ad : Nat → Nat} {sh : sm_S} {μ : sm_M} {x y : Int32} (d : decode cc pc = .ok (.iushr, 1)) (k : sm_E cl X (pc + 1) L (.int (x.toUInt32 >>> (y.toUInt32 &&& Int32.toUInt32 31)).toInt32 :: r) ad sh μ) : sm_E cl X pc L (.int y :: .int x :: r) ad sh μ := by
  obtain ⟨⟨l, D, cA, NW⟩, pr, e, R, s, m, args, below, meth, c, nL, A, H0, Q, n0, s0⟩ := X
  obtain ⟨hx, hb, hml, hn, hown, hts, hK, hlk, hrt, hR, hA, hc0, hs0, hin, hnw⟩ := hX
  exact fun ls H locs cells slots g1 g2 h1 h2 h3 h4 => lv_iushr hx hb d rfl (k ls H locs cells slots g1 g2 h1 h2 h3 h4)
theorem sm_lushr {cl : List vw_C} {X : sm_X} {cc : ByteArray} {n : Nat} {own : String} {Ts : List Cond} {ret : Option FieldType} {rm : Room} {N S : Nat} {ini : Bool} (hX : sm_ok cl X cc n own Ts ret rm N S ini) {pc : Nat} {L : List (Option Value)} {r : List Value} {ad : Nat → Nat} {sh : sm_S} {μ : sm_M} {x : Int64} {y : Int32} (d : decode cc pc = .ok (.lushr, 1)) (k : sm_E cl X (pc + 1) L (.long (x.toUInt64 >>> (y.toInt64.toUInt64 &&& Int64.toUInt64 63)).toInt64 :: r) ad sh μ) : sm_E cl X pc L (.int y :: .long x :: r) ad sh μ := by
  obtain ⟨⟨l, D, cA, NW⟩, pr, e, R, s, m, args, below, meth, c, nL, A, H0, Q, n0, s0⟩ := X
  obtain ⟨hx, hb, hml, hn, hown, hts, hK, hlk, hrt, hR, hA, hc0, hs0, hin, hnw⟩ := hX
  exact fun ls H locs cells slots g1 g2 h1 h2 h3 h4 => lv_lushr hx hb d rfl (k ls H locs cells slots g1 g2 h1 h2 h3 h4)
theorem sm_lshl {cl : List vw_C} {X : sm_X} {cc : ByteArray} {n : Nat} {own : String} {Ts : List Cond} {ret : Option FieldType} {rm : Room} {N S : Nat} {ini : Bool} (hX : sm_ok cl X cc n own Ts ret rm N S ini) {pc : Nat} {L : List (Option Value)} {r : List Value} {ad : Nat → Nat} {sh : sm_S} {μ : sm_M} {x : Int64} {y : Int32} (d : decode cc pc = .ok (.lshl, 1)) (k : sm_E cl X (pc + 1) L (.long (x <<< (y.toInt64 &&& 63)) :: r) ad sh μ) : sm_E cl X pc L (.int y :: .long x :: r) ad sh μ := by
  obtain ⟨⟨l, D, cA, NW⟩, pr, e, R, s, m, args, below, meth, c, nL, A, H0, Q, n0, s0⟩ := X
  obtain ⟨hx, hb, hml, hn, hown, hts, hK, hlk, hrt, hR, hA, hc0, hs0, hin, hnw⟩ := hX
  exact fun ls H locs cells slots g1 g2 h1 h2 h3 h4 => lv_lshl hx hb d rfl (k ls H locs cells slots g1 g2 h1 h2 h3 h4)
theorem sm_lshr {cl : List vw_C} {X : sm_X} {cc : ByteArray} {n : Nat} {own : String} {Ts : List Cond} {ret : Option FieldType} {rm : Room} {N S : Nat} {ini : Bool} (hX : sm_ok cl X cc n own Ts ret rm N S ini) {pc : Nat} {L : List (Option Value)} {r : List Value} {ad : Nat → Nat} {sh : sm_S} {μ : sm_M} {x : Int64} {y : Int32} (d : decode cc pc = .ok (.lshr, 1)) (k : sm_E cl X (pc + 1) L (.long (x >>> (y.toInt64 &&& 63)) :: r) ad sh μ) : sm_E cl X pc L (.int y :: .long x :: r) ad sh μ := by
  obtain ⟨⟨l, D, cA, NW⟩, pr, e, R, s, m, args, below, meth, c, nL, A, H0, Q, n0, s0⟩ := X
  obtain ⟨hx, hb, hml, hn, hown, hts, hK, hlk, hrt, hR, hA, hc0, hs0, hin, hnw⟩ := hX
  exact fun ls H locs cells slots g1 g2 h1 h2 h3 h4 => lv_lshr hx hb d rfl (k ls H locs cells slots g1 g2 h1 h2 h3 h4)
theorem sm_ishl {cl : List vw_C} {X : sm_X} {cc : ByteArray} {n : Nat} {own : String} {Ts : List Cond} {ret : Option FieldType} {rm : Room} {N S : Nat} {ini : Bool} (hX : sm_ok cl X cc n own Ts ret rm N S ini) {pc : Nat} {L : List (Option Value)} {r : List Value} {ad : Nat → Nat} {sh : sm_S} {μ : sm_M} {x y : Int32} (d : decode cc pc = .ok (.ishl, 1)) (k : sm_E cl X (pc + 1) L (.int (x <<< (y &&& 31)) :: r) ad sh μ) : sm_E cl X pc L (.int y :: .int x :: r) ad sh μ := by
  obtain ⟨⟨l, D, cA, NW⟩, pr, e, R, s, m, args, below, meth, c, nL, A, H0, Q, n0, s0⟩ := X
  obtain ⟨hx, hb, hml, hn, hown, hts, hK, hlk, hrt, hR, hA, hc0, hs0, hin, hnw⟩ := hX
  exact fun ls H locs cells slots g1 g2 h1 h2 h3 h4 => lv_ishl hx hb d (k ls H locs cells slots g1 g2 h1 h2 h3 h4)
theorem sm_ishr {cl : List vw_C} {X : sm_X} {cc : ByteArray} {n : Nat} {own : String} {Ts : List Cond} {ret : Option FieldType} {rm : Room} {N S : Nat} {ini : Bool} (hX : sm_ok cl X cc n own Ts ret rm N S ini) {pc : Nat} {L : List (Option Value)} {r : List Value} {ad : Nat → Nat} {sh : sm_S} {μ : sm_M} {x y : Int32} (d : decode cc pc = .ok (.ishr, 1)) (k : sm_E cl X (pc + 1) L (.int (x >>> (y &&& 31)) :: r) ad sh μ) : sm_E cl X pc L (.int y :: .int x :: r) ad sh μ := by
  obtain ⟨⟨l, D, cA, NW⟩, pr, e, R, s, m, args, below, meth, c, nL, A, H0, Q, n0, s0⟩ := X
  obtain ⟨hx, hb, hml, hn, hown, hts, hK, hlk, hrt, hR, hA, hc0, hs0, hin, hnw⟩ := hX
  exact fun ls H locs cells slots g1 g2 h1 h2 h3 h4 => lv_ishr hx hb d (k ls H locs cells slots g1 g2 h1 h2 h3 h4)
theorem sm_lcmp {cl : List vw_C} {X : sm_X} {cc : ByteArray} {n : Nat} {own : String} {Ts : List Cond} {ret : Option FieldType} {rm : Room} {N S : Nat} {ini : Bool} (hX : sm_ok cl X cc n own Ts ret rm N S ini) {pc : Nat} {L : List (Option Value)} {r : List Value} {ad : Nat → Nat} {sh : sm_S} {μ : sm_M} {x y : Int64} (d : decode cc pc = .ok (.lcmp, 1)) (k : sm_E cl X (pc + 1) L (.int (lg_cmp x y) :: r) ad sh μ) : sm_E cl X pc L (.long y :: .long x :: r) ad sh μ := by
  obtain ⟨⟨l, D, cA, NW⟩, pr, e, R, s, m, args, below, meth, c, nL, A, H0, Q, n0, s0⟩ := X
  obtain ⟨hx, hb, hml, hn, hown, hts, hK, hlk, hrt, hR, hA, hc0, hs0, hin, hnw⟩ := hX
  exact fun ls H locs cells slots g1 g2 h1 h2 h3 h4 => W.lcmp hx hb d (k ls H locs cells slots g1 g2 h1 h2 h3 h4)
theorem sm_dup {cl : List vw_C} {X : sm_X} {cc : ByteArray} {n : Nat} {own : String} {Ts : List Cond} {ret : Option FieldType} {rm : Room} {N S : Nat} {ini : Bool} (hX : sm_ok cl X cc n own Ts ret rm N S ini) {pc : Nat} {L : List (Option Value)} {r : List Value} {ad : Nat → Nat} {sh : sm_S} {μ : sm_M} {a : Value} (d : decode cc pc = .ok (.dup, 1)) (h : a.category = 1) (k : sm_E cl X (pc + 1) L (a :: a :: r) ad sh μ) : sm_E cl X pc L (a :: r) ad sh μ := by
  obtain ⟨⟨l, D, cA, NW⟩, pr, e, R, s, m, args, below, meth, c, nL, A, H0, Q, n0, s0⟩ := X
  obtain ⟨hx, hb, hml, hn, hown, hts, hK, hlk, hrt, hR, hA, hc0, hs0, hin, hnw⟩ := hX
  exact fun ls H locs cells slots g1 g2 h1 h2 h3 h4 => lv_dup hx hb d (by rw [sm_v_cat]; exact h) (k ls H locs cells slots g1 g2 h1 h2 h3 h4)
theorem sm_pop {cl : List vw_C} {X : sm_X} {cc : ByteArray} {n : Nat} {own : String} {Ts : List Cond} {ret : Option FieldType} {rm : Room} {N S : Nat} {ini : Bool} (hX : sm_ok cl X cc n own Ts ret rm N S ini) {pc : Nat} {L : List (Option Value)} {r : List Value} {ad : Nat → Nat} {sh : sm_S} {μ : sm_M} {a : Value} (d : decode cc pc = .ok (.pop, 1)) (h : a.category = 1) (k : sm_E cl X (pc + 1) L (r) ad sh μ) : sm_E cl X pc L (a :: r) ad sh μ := by
  obtain ⟨⟨l, D, cA, NW⟩, pr, e, R, s, m, args, below, meth, c, nL, A, H0, Q, n0, s0⟩ := X
  obtain ⟨hx, hb, hml, hn, hown, hts, hK, hlk, hrt, hR, hA, hc0, hs0, hin, hnw⟩ := hX
  exact fun ls H locs cells slots g1 g2 h1 h2 h3 h4 => lv_pop hx hb d (by rw [sm_v_cat]; exact h) (k ls H locs cells slots g1 g2 h1 h2 h3 h4)
theorem sm_dup_x1 {cl : List vw_C} {X : sm_X} {cc : ByteArray} {n : Nat} {own : String} {Ts : List Cond} {ret : Option FieldType} {rm : Room} {N S : Nat} {ini : Bool} (hX : sm_ok cl X cc n own Ts ret rm N S ini) {pc : Nat} {L : List (Option Value)} {r : List Value} {ad : Nat → Nat} {sh : sm_S} {μ : sm_M} {a b : Value} (d : decode cc pc = .ok (.dup_x1, 1)) (h : a.category = 1) (h' : b.category = 1) (k : sm_E cl X (pc + 1) L (a :: b :: a :: r) ad sh μ) : sm_E cl X pc L (a :: b :: r) ad sh μ := by
  obtain ⟨⟨l, D, cA, NW⟩, pr, e, R, s, m, args, below, meth, c, nL, A, H0, Q, n0, s0⟩ := X
  obtain ⟨hx, hb, hml, hn, hown, hts, hK, hlk, hrt, hR, hA, hc0, hs0, hin, hnw⟩ := hX
  exact fun ls H locs cells slots g1 g2 h1 h2 h3 h4 => lv_dup_x1 hx hb d (by rw [sm_v_cat]; exact h) (by rw [sm_v_cat]; exact h') (k ls H locs cells slots g1 g2 h1 h2 h3 h4)
theorem sm_dup2 {cl : List vw_C} {X : sm_X} {cc : ByteArray} {n : Nat} {own : String} {Ts : List Cond} {ret : Option FieldType} {rm : Room} {N S : Nat} {ini : Bool} (hX : sm_ok cl X cc n own Ts ret rm N S ini) {pc : Nat} {L : List (Option Value)} {r : List Value} {ad : Nat → Nat} {sh : sm_S} {μ : sm_M} {a b : Value} (d : decode cc pc = .ok (.dup2, 1)) (h : a.category = 1) (h' : b.category = 1) (k : sm_E cl X (pc + 1) L (a :: b :: a :: b :: r) ad sh μ) : sm_E cl X pc L (a :: b :: r) ad sh μ := by
  obtain ⟨⟨l, D, cA, NW⟩, pr, e, R, s, m, args, below, meth, c, nL, A, H0, Q, n0, s0⟩ := X
  obtain ⟨hx, hb, hml, hn, hown, hts, hK, hlk, hrt, hR, hA, hc0, hs0, hin, hnw⟩ := hX
  exact fun ls H locs cells slots g1 g2 h1 h2 h3 h4 => lv_dup2_11 hx hb d (by rw [sm_v_cat]; exact h) (by rw [sm_v_cat]; exact h') (k ls H locs cells slots g1 g2 h1 h2 h3 h4)
theorem sm_dup2L {cl : List vw_C} {X : sm_X} {cc : ByteArray} {n : Nat} {own : String} {Ts : List Cond} {ret : Option FieldType} {rm : Room} {N S : Nat} {ini : Bool} (hX : sm_ok cl X cc n own Ts ret rm N S ini) {pc : Nat} {L : List (Option Value)} {r : List Value} {ad : Nat → Nat} {sh : sm_S} {μ : sm_M} {a : Value} (d : decode cc pc = .ok (.dup2, 1)) (h : a.category = 2) (k : sm_E cl X (pc + 1) L (a :: a :: r) ad sh μ) : sm_E cl X pc L (a :: r) ad sh μ := by
  obtain ⟨⟨l, D, cA, NW⟩, pr, e, R, s, m, args, below, meth, c, nL, A, H0, Q, n0, s0⟩ := X
  obtain ⟨hx, hb, hml, hn, hown, hts, hK, hlk, hrt, hR, hA, hc0, hs0, hin, hnw⟩ := hX
  exact fun ls H locs cells slots g1 g2 h1 h2 h3 h4 => lv_dup2_2 hx hb d (by rw [sm_v_cat]; exact h) (k ls H locs cells slots g1 g2 h1 h2 h3 h4)
theorem sm_iloadG {cl : List vw_C} {X : sm_X} {cc : ByteArray} {n : Nat} {own : String} {Ts : List Cond} {ret : Option FieldType} {rm : Room} {N S : Nat} {ini : Bool} (hX : sm_ok cl X cc n own Ts ret rm N S ini) {pc : Nat} {L : List (Option Value)} {r : List Value} {ad : Nat → Nat} {sh : sm_S} {μ : sm_M} {i : Nat} {x : Int32} (d : decode cc pc = .ok (.iload i, 2)) (hl : L[i]? = some (some (.int x))) (k : sm_E cl X (pc + 2) L (.int x :: r) ad sh μ) : sm_E cl X pc L r ad sh μ := by
  obtain ⟨⟨l, D, cA, NW⟩, pr, e, R, s, m, args, below, meth, c, nL, A, H0, Q, n0, s0⟩ := X
  obtain ⟨hx, hb, hml, hn, hown, hts, hK, hlk, hrt, hR, hA, hc0, hs0, hin, hnw⟩ := hX
  exact fun ls H locs cells slots g1 g2 h1 h2 h3 h4 => lv_iload hx hb d (h1.2.2 _ _ hl) (k ls H locs cells slots g1 g2 h1 h2 h3 h4)
theorem sm_iloadN {cl : List vw_C} {X : sm_X} {cc : ByteArray} {n : Nat} {own : String} {Ts : List Cond} {ret : Option FieldType} {rm : Room} {N S : Nat} {ini : Bool} (hX : sm_ok cl X cc n own Ts ret rm N S ini) {pc : Nat} {L : List (Option Value)} {r : List Value} {ad : Nat → Nat} {sh : sm_S} {μ : sm_M} {i : Fin 4} {x : Int32} (d : decode cc pc = .ok (.iload_n i, 1)) (hl : L[(i : Nat)]? = some (some (.int x))) (k : sm_E cl X (pc + 1) L (.int x :: r) ad sh μ) : sm_E cl X pc L r ad sh μ := by
  obtain ⟨⟨l, D, cA, NW⟩, pr, e, R, s, m, args, below, meth, c, nL, A, H0, Q, n0, s0⟩ := X
  obtain ⟨hx, hb, hml, hn, hown, hts, hK, hlk, hrt, hR, hA, hc0, hs0, hin, hnw⟩ := hX
  exact fun ls H locs cells slots g1 g2 h1 h2 h3 h4 => lv_iload_n hx hb d rfl (h1.2.2 _ _ hl) (k ls H locs cells slots g1 g2 h1 h2 h3 h4)
theorem sm_istoreG {cl : List vw_C} {X : sm_X} {cc : ByteArray} {n : Nat} {own : String} {Ts : List Cond} {ret : Option FieldType} {rm : Room} {N S : Nat} {ini : Bool} (hX : sm_ok cl X cc n own Ts ret rm N S ini) {pc : Nat} {L : List (Option Value)} {r : List Value} {ad : Nat → Nat} {sh : sm_S} {μ : sm_M} {i : Nat} {x : Int32} (d : decode cc pc = .ok (.istore i, 2)) (ha : sm_ah L i = true) (hi : i < n) (k : sm_E cl X (pc + 2) (L.set i (some (.int x))) r ad sh μ) : sm_E cl X pc L (.int x :: r) ad sh μ := by
  obtain ⟨⟨l, D, cA, NW⟩, pr, e, R, s, m, args, below, meth, c, nL, A, H0, Q, n0, s0⟩ := X
  obtain ⟨hx, hb, hml, hn, hown, hts, hK, hlk, hrt, hR, hA, hc0, hs0, hin, hnw⟩ := hX
  subst hn
  exact fun ls H locs cells slots g1 g2 h1 h2 h3 h4 => lv_istore hx hb d h1.lv hi rfl (fun ls' h' => k ls' H locs cells slots g1 g2 (sm_has.st1 (v := .int x) ha h') h2 h3 h4)
theorem sm_istoreN {cl : List vw_C} {X : sm_X} {cc : ByteArray} {n : Nat} {own : String} {Ts : List Cond} {ret : Option FieldType} {rm : Room} {N S : Nat} {ini : Bool} (hX : sm_ok cl X cc n own Ts ret rm N S ini) {pc : Nat} {L : List (Option Value)} {r : List Value} {ad : Nat → Nat} {sh : sm_S} {μ : sm_M} {i : Fin 4} {x : Int32} (d : decode cc pc = .ok (.istore_n i, 1)) (ha : sm_ah L (i : Nat) = true) (hi : (i : Nat) < n) (k : sm_E cl X (pc + 1) (L.set (i : Nat) (some (.int x))) r ad sh μ) : sm_E cl X pc L (.int x :: r) ad sh μ := by
  obtain ⟨⟨l, D, cA, NW⟩, pr, e, R, s, m, args, below, meth, c, nL, A, H0, Q, n0, s0⟩ := X
  obtain ⟨hx, hb, hml, hn, hown, hts, hK, hlk, hrt, hR, hA, hc0, hs0, hin, hnw⟩ := hX
  subst hn
  exact fun ls H locs cells slots g1 g2 h1 h2 h3 h4 => lv_istore_n hx hb d rfl h1.lv hi rfl (fun ls' h' => k ls' H locs cells slots g1 g2 (sm_has.st1 (v := .int x) ha h') h2 h3 h4)
theorem sm_lloadG {cl : List vw_C} {X : sm_X} {cc : ByteArray} {n : Nat} {own : String} {Ts : List Cond} {ret : Option FieldType} {rm : Room} {N S : Nat} {ini : Bool} (hX : sm_ok cl X cc n own Ts ret rm N S ini) {pc : Nat} {L : List (Option Value)} {r : List Value} {ad : Nat → Nat} {sh : sm_S} {μ : sm_M} {i : Nat} {x : Int64} (d : decode cc pc = .ok (.lload i, 2)) (hl : L[i]? = some (some (.long x))) (k : sm_E cl X (pc + 2) L (.long x :: r) ad sh μ) : sm_E cl X pc L r ad sh μ := by
  obtain ⟨⟨l, D, cA, NW⟩, pr, e, R, s, m, args, below, meth, c, nL, A, H0, Q, n0, s0⟩ := X
  obtain ⟨hx, hb, hml, hn, hown, hts, hK, hlk, hrt, hR, hA, hc0, hs0, hin, hnw⟩ := hX
  exact fun ls H locs cells slots g1 g2 h1 h2 h3 h4 => lv_lload hx hb d (h1.2.2 _ _ hl) (k ls H locs cells slots g1 g2 h1 h2 h3 h4)
theorem sm_lloadN {cl : List vw_C} {X : sm_X} {cc : ByteArray} {n : Nat} {own : String} {Ts : List Cond} {ret : Option FieldType} {rm : Room} {N S : Nat} {ini : Bool} (hX : sm_ok cl X cc n own Ts ret rm N S ini) {pc : Nat} {L : List (Option Value)} {r : List Value} {ad : Nat → Nat} {sh : sm_S} {μ : sm_M} {i : Fin 4} {x : Int64} (d : decode cc pc = .ok (.lload_n i, 1)) (hl : L[(i : Nat)]? = some (some (.long x))) (k : sm_E cl X (pc + 1) L (.long x :: r) ad sh μ) : sm_E cl X pc L r ad sh μ := by
  obtain ⟨⟨l, D, cA, NW⟩, pr, e, R, s, m, args, below, meth, c, nL, A, H0, Q, n0, s0⟩ := X
  obtain ⟨hx, hb, hml, hn, hown, hts, hK, hlk, hrt, hR, hA, hc0, hs0, hin, hnw⟩ := hX
  exact fun ls H locs cells slots g1 g2 h1 h2 h3 h4 => lv_lload_n hx hb d rfl (h1.2.2 _ _ hl) (k ls H locs cells slots g1 g2 h1 h2 h3 h4)
theorem sm_lstoreG {cl : List vw_C} {X : sm_X} {cc : ByteArray} {n : Nat} {own : String} {Ts : List Cond} {ret : Option FieldType} {rm : Room} {N S : Nat} {ini : Bool} (hX : sm_ok cl X cc n own Ts ret rm N S ini) {pc : Nat} {L : List (Option Value)} {r : List Value} {ad : Nat → Nat} {sh : sm_S} {μ : sm_M} {i : Nat} {x : Int64} (d : decode cc pc = .ok (.lstore i, 2)) (ha : sm_ah L i = true) (hi : i + 1 < n) (k : sm_E cl X (pc + 2) ((L.set i (some (.long x))).set (i + 1) none) r ad sh μ) : sm_E cl X pc L (.long x :: r) ad sh μ := by
  obtain ⟨⟨l, D, cA, NW⟩, pr, e, R, s, m, args, below, meth, c, nL, A, H0, Q, n0, s0⟩ := X
  obtain ⟨hx, hb, hml, hn, hown, hts, hK, hlk, hrt, hR, hA, hc0, hs0, hin, hnw⟩ := hX
  subst hn
  exact fun ls H locs cells slots g1 g2 h1 h2 h3 h4 => lv_lstore hx hb d h1.lv hi rfl (fun ls' h' => k ls' H locs cells slots g1 g2 (sm_has.st2 (v := .long x) ha h') h2 h3 h4)
theorem sm_lstoreN {cl : List vw_C} {X : sm_X} {cc : ByteArray} {n : Nat} {own : String} {Ts : List Cond} {ret : Option FieldType} {rm : Room} {N S : Nat} {ini : Bool} (hX : sm_ok cl X cc n own Ts ret rm N S ini) {pc : Nat} {L : List (Option Value)} {r : List Value} {ad : Nat → Nat} {sh : sm_S} {μ : sm_M} {i : Fin 4} {x : Int64} (d : decode cc pc = .ok (.lstore_n i, 1)) (ha : sm_ah L (i : Nat) = true) (hi : (i : Nat) + 1 < n) (k : sm_E cl X (pc + 1) ((L.set (i : Nat) (some (.long x))).set ((i : Nat) + 1) none) r ad sh μ) : sm_E cl X pc L (.long x :: r) ad sh μ := by
  obtain ⟨⟨l, D, cA, NW⟩, pr, e, R, s, m, args, below, meth, c, nL, A, H0, Q, n0, s0⟩ := X
  obtain ⟨hx, hb, hml, hn, hown, hts, hK, hlk, hrt, hR, hA, hc0, hs0, hin, hnw⟩ := hX
  subst hn
  exact fun ls H locs cells slots g1 g2 h1 h2 h3 h4 => lv_lstore_n hx hb d rfl h1.lv hi rfl (fun ls' h' => k ls' H locs cells slots g1 g2 (sm_has.st2 (v := .long x) ha h') h2 h3 h4)
theorem sm_aloadG {cl : List vw_C} {X : sm_X} {cc : ByteArray} {n : Nat} {own : String} {Ts : List Cond} {ret : Option FieldType} {rm : Room} {N S : Nat} {ini : Bool} (hX : sm_ok cl X cc n own Ts ret rm N S ini) {pc : Nat} {L : List (Option Value)} {r : List Value} {ad : Nat → Nat} {sh : sm_S} {μ : sm_M} {i : Nat} {x : Nat} (d : decode cc pc = .ok (.aload i, 2)) (hl : L[i]? = some (some (.ref x))) (k : sm_E cl X (pc + 2) L (.ref x :: r) ad sh μ) : sm_E cl X pc L r ad sh μ := by
  obtain ⟨⟨l, D, cA, NW⟩, pr, e, R, s, m, args, below, meth, c, nL, A, H0, Q, n0, s0⟩ := X
  obtain ⟨hx, hb, hml, hn, hown, hts, hK, hlk, hrt, hR, hA, hc0, hs0, hin, hnw⟩ := hX
  exact fun ls H locs cells slots g1 g2 h1 h2 h3 h4 => lv_aload hx hb d (h1.2.2 _ _ hl) (k ls H locs cells slots g1 g2 h1 h2 h3 h4)
theorem sm_aloadN {cl : List vw_C} {X : sm_X} {cc : ByteArray} {n : Nat} {own : String} {Ts : List Cond} {ret : Option FieldType} {rm : Room} {N S : Nat} {ini : Bool} (hX : sm_ok cl X cc n own Ts ret rm N S ini) {pc : Nat} {L : List (Option Value)} {r : List Value} {ad : Nat → Nat} {sh : sm_S} {μ : sm_M} {i : Fin 4} {x : Nat} (d : decode cc pc = .ok (.aload_n i, 1)) (hl : L[(i : Nat)]? = some (some (.ref x))) (k : sm_E cl X (pc + 1) L (.ref x :: r) ad sh μ) : sm_E cl X pc L r ad sh μ := by
  obtain ⟨⟨l, D, cA, NW⟩, pr, e, R, s, m, args, below, meth, c, nL, A, H0, Q, n0, s0⟩ := X
  obtain ⟨hx, hb, hml, hn, hown, hts, hK, hlk, hrt, hR, hA, hc0, hs0, hin, hnw⟩ := hX
  exact fun ls H locs cells slots g1 g2 h1 h2 h3 h4 => lv_aload_n hx hb d rfl (h1.2.2 _ _ hl) (k ls H locs cells slots g1 g2 h1 h2 h3 h4)
theorem sm_astoreG {cl : List vw_C} {X : sm_X} {cc : ByteArray} {n : Nat} {own : String} {Ts : List Cond} {ret : Option FieldType} {rm : Room} {N S : Nat} {ini : Bool} (hX : sm_ok cl X cc n own Ts ret rm N S ini) {pc : Nat} {L : List (Option Value)} {r : List Value} {ad : Nat → Nat} {sh : sm_S} {μ : sm_M} {i : Nat} {x : Nat} (d : decode cc pc = .ok (.astore i, 2)) (ha : sm_ah L i = true) (hi : i < n) (k : sm_E cl X (pc + 2) (L.set i (some (.ref x))) r ad sh μ) : sm_E cl X pc L (.ref x :: r) ad sh μ := by
  obtain ⟨⟨l, D, cA, NW⟩, pr, e, R, s, m, args, below, meth, c, nL, A, H0, Q, n0, s0⟩ := X
  obtain ⟨hx, hb, hml, hn, hown, hts, hK, hlk, hrt, hR, hA, hc0, hs0, hin, hnw⟩ := hX
  subst hn
  exact fun ls H locs cells slots g1 g2 h1 h2 h3 h4 => lv_astore hx hb d h1.lv hi rfl (fun ls' h' => k ls' H locs cells slots g1 g2 (sm_has.st1 (v := .ref x) ha h') h2 h3 h4)
theorem sm_astoreN {cl : List vw_C} {X : sm_X} {cc : ByteArray} {n : Nat} {own : String} {Ts : List Cond} {ret : Option FieldType} {rm : Room} {N S : Nat} {ini : Bool} (hX : sm_ok cl X cc n own Ts ret rm N S ini) {pc : Nat} {L : List (Option Value)} {r : List Value} {ad : Nat → Nat} {sh : sm_S} {μ : sm_M} {i : Fin 4} {x : Nat} (d : decode cc pc = .ok (.astore_n i, 1)) (ha : sm_ah L (i : Nat) = true) (hi : (i : Nat) < n) (k : sm_E cl X (pc + 1) (L.set (i : Nat) (some (.ref x))) r ad sh μ) : sm_E cl X pc L (.ref x :: r) ad sh μ := by
  obtain ⟨⟨l, D, cA, NW⟩, pr, e, R, s, m, args, below, meth, c, nL, A, H0, Q, n0, s0⟩ := X
  obtain ⟨hx, hb, hml, hn, hown, hts, hK, hlk, hrt, hR, hA, hc0, hs0, hin, hnw⟩ := hX
  subst hn
  exact fun ls H locs cells slots g1 g2 h1 h2 h3 h4 => lv_astore_n hx hb d rfl h1.lv hi rfl (fun ls' h' => k ls' H locs cells slots g1 g2 (sm_has.st1 (v := .ref x) ha h') h2 h3 h4)
theorem sm_iincG {cl : List vw_C} {X : sm_X} {cc : ByteArray} {n : Nat} {own : String} {Ts : List Cond} {ret : Option FieldType} {rm : Room} {N S : Nat} {ini : Bool} (hX : sm_ok cl X cc n own Ts ret rm N S ini) {pc : Nat} {L : List (Option Value)} {r : List Value} {ad : Nat → Nat} {sh : sm_S} {μ : sm_M} {i : Nat} {z : Int} {x : Int32} (d : decode cc pc = .ok (.iinc i z, 3)) (hl : L[i]? = some (some (.int x))) (ha : sm_ah L i = true) (hi : i < n) (k : sm_E cl X (pc + 3) (L.set i (some (.int (x + Int32.ofInt z)))) r ad sh μ) : sm_E cl X pc L r ad sh μ := by
  obtain ⟨⟨l, D, cA, NW⟩, pr, e, R, s, m, args, below, meth, c, nL, A, H0, Q, n0, s0⟩ := X
  obtain ⟨hx, hb, hml, hn, hown, hts, hK, hlk, hrt, hR, hA, hc0, hs0, hin, hnw⟩ := hX
  subst hn
  intro ls H locs cells slots g1 g2 h1 h2 h3 h4
  obtain ⟨q, hq⟩ := List.getElem?_of_mem (sm_l_mem.mpr ⟨_, hl, rfl⟩ : (i, sm_v ad (.int x)) ∈ sm_l ad L)
  exact lv_iinc hx hb d h1.lv hq rfl hi rfl (fun ls' h' => k ls' H locs cells slots g1 g2 (sm_has.st1 (v := .int (x + Int32.ofInt z)) ha h') h2 h3 h4)
theorem sm_if_eq {cl : List vw_C} {X : sm_X} {cc : ByteArray} {n : Nat} {own : String} {Ts : List Cond} {ret : Option FieldType} {rm : Room} {N S : Nat} {ini : Bool} (hX : sm_ok cl X cc n own Ts ret rm N S ini) {pc : Nat} {L : List (Option Value)} {r : List Value} {ad : Nat → Nat} {sh : sm_S} {μ : sm_M} {x : Int32} {off : Int} (tgt : Nat) (d : decode cc pc = .ok (.ifCond .eq off, 3)) (ht : (pc : Int) + off = (tgt : Int)) (kt : x = 0 → sm_E cl X tgt L r ad sh μ) (kf : ¬ (x = 0) → sm_E cl X (pc + 3) L r ad sh μ) : sm_E cl X pc L (.int x :: r) ad sh μ := by
  obtain ⟨⟨l, D, cA, NW⟩, pr, e, R, s, m, args, below, meth, c, nL, A, H0, Q, n0, s0⟩ := X
  obtain ⟨hx, hb, hml, hn, hown, hts, hK, hlk, hrt, hR, hA, hc0, hs0, hin, hnw⟩ := hX
  exact fun ls H locs cells slots g1 g2 h1 h2 h3 h4 => lv_if_eq hx hb d ht (fun q => kt q ls H locs cells slots g1 g2 h1 h2 h3 h4) (fun q => kf q ls H locs cells slots g1 g2 h1 h2 h3 h4)
theorem sm_icmp_eq {cl : List vw_C} {X : sm_X} {cc : ByteArray} {n : Nat} {own : String} {Ts : List Cond} {ret : Option FieldType} {rm : Room} {N S : Nat} {ini : Bool} (hX : sm_ok cl X cc n own Ts ret rm N S ini) {pc : Nat} {L : List (Option Value)} {r : List Value} {ad : Nat → Nat} {sh : sm_S} {μ : sm_M} {x y : Int32} {off : Int} (tgt : Nat) (d : decode cc pc = .ok (.if_icmp .eq off, 3)) (ht : (pc : Int) + off = (tgt : Int)) (kt : x = y → sm_E cl X tgt L r ad sh μ) (kf : ¬ (x = y) → sm_E cl X (pc + 3) L r ad sh μ) : sm_E cl X pc L (.int y :: .int x :: r) ad sh μ := by
  obtain ⟨⟨l, D, cA, NW⟩, pr, e, R, s, m, args, below, meth, c, nL, A, H0, Q, n0, s0⟩ := X
  obtain ⟨hx, hb, hml, hn, hown, hts, hK, hlk, hrt, hR, hA, hc0, hs0, hin, hnw⟩ := hX
  exact fun ls H locs cells slots g1 g2 h1 h2 h3 h4 => lv_icmp_eq hx hb d ht (fun q => kt q ls H locs cells slots g1 g2 h1 h2 h3 h4) (fun q => kf q ls H locs cells slots g1 g2 h1 h2 h3 h4)
theorem sm_if_ne {cl : List vw_C} {X : sm_X} {cc : ByteArray} {n : Nat} {own : String} {Ts : List Cond} {ret : Option FieldType} {rm : Room} {N S : Nat} {ini : Bool} (hX : sm_ok cl X cc n own Ts ret rm N S ini) {pc : Nat} {L : List (Option Value)} {r : List Value} {ad : Nat → Nat} {sh : sm_S} {μ : sm_M} {x : Int32} {off : Int} (tgt : Nat) (d : decode cc pc = .ok (.ifCond .ne off, 3)) (ht : (pc : Int) + off = (tgt : Int)) (kt : ¬ x = 0 → sm_E cl X tgt L r ad sh μ) (kf : x = 0 → sm_E cl X (pc + 3) L r ad sh μ) : sm_E cl X pc L (.int x :: r) ad sh μ := by
  obtain ⟨⟨l, D, cA, NW⟩, pr, e, R, s, m, args, below, meth, c, nL, A, H0, Q, n0, s0⟩ := X
  obtain ⟨hx, hb, hml, hn, hown, hts, hK, hlk, hrt, hR, hA, hc0, hs0, hin, hnw⟩ := hX
  exact fun ls H locs cells slots g1 g2 h1 h2 h3 h4 => lv_if_ne hx hb d ht (fun q => kt q ls H locs cells slots g1 g2 h1 h2 h3 h4) (fun q => kf q ls H locs cells slots g1 g2 h1 h2 h3 h4)
theorem sm_icmp_ne {cl : List vw_C} {X : sm_X} {cc : ByteArray} {n : Nat} {own : String} {Ts : List Cond} {ret : Option FieldType} {rm : Room} {N S : Nat} {ini : Bool} (hX : sm_ok cl X cc n own Ts ret rm N S ini) {pc : Nat} {L : List (Option Value)} {r : List Value} {ad : Nat → Nat} {sh : sm_S} {μ : sm_M} {x y : Int32} {off : Int} (tgt : Nat) (d : decode cc pc = .ok (.if_icmp .ne off, 3)) (ht : (pc : Int) + off = (tgt : Int)) (kt : ¬ x = y → sm_E cl X tgt L r ad sh μ) (kf : x = y → sm_E cl X (pc + 3) L r ad sh μ) : sm_E cl X pc L (.int y :: .int x :: r) ad sh μ := by
  obtain ⟨⟨l, D, cA, NW⟩, pr, e, R, s, m, args, below, meth, c, nL, A, H0, Q, n0, s0⟩ := X
  obtain ⟨hx, hb, hml, hn, hown, hts, hK, hlk, hrt, hR, hA, hc0, hs0, hin, hnw⟩ := hX
  exact fun ls H locs cells slots g1 g2 h1 h2 h3 h4 => lv_icmp_ne hx hb d ht (fun q => kt q ls H locs cells slots g1 g2 h1 h2 h3 h4) (fun q => kf q ls H locs cells slots g1 g2 h1 h2 h3 h4)
theorem sm_if_lt {cl : List vw_C} {X : sm_X} {cc : ByteArray} {n : Nat} {own : String} {Ts : List Cond} {ret : Option FieldType} {rm : Room} {N S : Nat} {ini : Bool} (hX : sm_ok cl X cc n own Ts ret rm N S ini) {pc : Nat} {L : List (Option Value)} {r : List Value} {ad : Nat → Nat} {sh : sm_S} {μ : sm_M} {x : Int32} {off : Int} (tgt : Nat) (d : decode cc pc = .ok (.ifCond .lt off, 3)) (ht : (pc : Int) + off = (tgt : Int)) (kt : x < 0 → sm_E cl X tgt L r ad sh μ) (kf : ¬ (x < 0) → sm_E cl X (pc + 3) L r ad sh μ) : sm_E cl X pc L (.int x :: r) ad sh μ := by
  obtain ⟨⟨l, D, cA, NW⟩, pr, e, R, s, m, args, below, meth, c, nL, A, H0, Q, n0, s0⟩ := X
  obtain ⟨hx, hb, hml, hn, hown, hts, hK, hlk, hrt, hR, hA, hc0, hs0, hin, hnw⟩ := hX
  exact fun ls H locs cells slots g1 g2 h1 h2 h3 h4 => lv_if_lt hx hb d ht (fun q => kt q ls H locs cells slots g1 g2 h1 h2 h3 h4) (fun q => kf q ls H locs cells slots g1 g2 h1 h2 h3 h4)
theorem sm_icmp_lt {cl : List vw_C} {X : sm_X} {cc : ByteArray} {n : Nat} {own : String} {Ts : List Cond} {ret : Option FieldType} {rm : Room} {N S : Nat} {ini : Bool} (hX : sm_ok cl X cc n own Ts ret rm N S ini) {pc : Nat} {L : List (Option Value)} {r : List Value} {ad : Nat → Nat} {sh : sm_S} {μ : sm_M} {x y : Int32} {off : Int} (tgt : Nat) (d : decode cc pc = .ok (.if_icmp .lt off, 3)) (ht : (pc : Int) + off = (tgt : Int)) (kt : x < y → sm_E cl X tgt L r ad sh μ) (kf : ¬ (x < y) → sm_E cl X (pc + 3) L r ad sh μ) : sm_E cl X pc L (.int y :: .int x :: r) ad sh μ := by
  obtain ⟨⟨l, D, cA, NW⟩, pr, e, R, s, m, args, below, meth, c, nL, A, H0, Q, n0, s0⟩ := X
  obtain ⟨hx, hb, hml, hn, hown, hts, hK, hlk, hrt, hR, hA, hc0, hs0, hin, hnw⟩ := hX
  exact fun ls H locs cells slots g1 g2 h1 h2 h3 h4 => lv_icmp_lt hx hb d ht (fun q => kt q ls H locs cells slots g1 g2 h1 h2 h3 h4) (fun q => kf q ls H locs cells slots g1 g2 h1 h2 h3 h4)
theorem sm_if_ge {cl : List vw_C} {X : sm_X} {cc : ByteArray} {n : Nat} {own : String} {Ts : List Cond} {ret : Option FieldType} {rm : Room} {N S : Nat} {ini : Bool} (hX : sm_ok cl X cc n own Ts ret rm N S ini) {pc : Nat} {L : List (Option Value)} {r : List Value} {ad : Nat → Nat} {sh : sm_S} {μ : sm_M} {x : Int32} {off : Int} (tgt : Nat) (d : decode cc pc = .ok (.ifCond .ge off, 3)) (ht : (pc : Int) + off = (tgt : Int)) (kt : 0 ≤ x → sm_E cl X tgt L r ad sh μ) (kf : ¬ (0 ≤ x) → sm_E cl X (pc + 3) L r ad sh μ) : sm_E cl X pc L (.int x :: r) ad sh μ := by
  obtain ⟨⟨l, D, cA, NW⟩, pr, e, R, s, m, args, below, meth, c, nL, A, H0, Q, n0, s0⟩ := X
  obtain ⟨hx, hb, hml, hn, hown, hts, hK, hlk, hrt, hR, hA, hc0, hs0, hin, hnw⟩ := hX
  exact fun ls H locs cells slots g1 g2 h1 h2 h3 h4 => lv_if_ge hx hb d ht (fun q => kt q ls H locs cells slots g1 g2 h1 h2 h3 h4) (fun q => kf q ls H locs cells slots g1 g2 h1 h2 h3 h4)
theorem sm_icmp_ge {cl : List vw_C} {X : sm_X} {cc : ByteArray} {n : Nat} {own : String} {Ts : List Cond} {ret : Option FieldType} {rm : Room} {N S : Nat} {ini : Bool} (hX : sm_ok cl X cc n own Ts ret rm N S ini) {pc : Nat} {L : List (Option Value)} {r : List Value} {ad : Nat → Nat} {sh : sm_S} {μ : sm_M} {x y : Int32} {off : Int} (tgt : Nat) (d : decode cc pc = .ok (.if_icmp .ge off, 3)) (ht : (pc : Int) + off = (tgt : Int)) (kt : y ≤ x → sm_E cl X tgt L r ad sh μ) (kf : ¬ (y ≤ x) → sm_E cl X (pc + 3) L r ad sh μ) : sm_E cl X pc L (.int y :: .int x :: r) ad sh μ := by
  obtain ⟨⟨l, D, cA, NW⟩, pr, e, R, s, m, args, below, meth, c, nL, A, H0, Q, n0, s0⟩ := X
  obtain ⟨hx, hb, hml, hn, hown, hts, hK, hlk, hrt, hR, hA, hc0, hs0, hin, hnw⟩ := hX
  exact fun ls H locs cells slots g1 g2 h1 h2 h3 h4 => lv_icmp_ge hx hb d ht (fun q => kt q ls H locs cells slots g1 g2 h1 h2 h3 h4) (fun q => kf q ls H locs cells slots g1 g2 h1 h2 h3 h4)
theorem sm_if_gt {cl : List vw_C} {X : sm_X} {cc : ByteArray} {n : Nat} {own : String} {Ts : List Cond} {ret : Option FieldType} {rm : Room} {N S : Nat} {ini : Bool} (hX : sm_ok cl X cc n own Ts ret rm N S ini) {pc : Nat} {L : List (Option Value)} {r : List Value} {ad : Nat → Nat} {sh : sm_S} {μ : sm_M} {x : Int32} {off : Int} (tgt : Nat) (d : decode cc pc = .ok (.ifCond .gt off, 3)) (ht : (pc : Int) + off = (tgt : Int)) (kt : 0 < x → sm_E cl X tgt L r ad sh μ) (kf : ¬ (0 < x) → sm_E cl X (pc + 3) L r ad sh μ) : sm_E cl X pc L (.int x :: r) ad sh μ := by
  obtain ⟨⟨l, D, cA, NW⟩, pr, e, R, s, m, args, below, meth, c, nL, A, H0, Q, n0, s0⟩ := X
  obtain ⟨hx, hb, hml, hn, hown, hts, hK, hlk, hrt, hR, hA, hc0, hs0, hin, hnw⟩ := hX
  exact fun ls H locs cells slots g1 g2 h1 h2 h3 h4 => lv_if_gt hx hb d ht (fun q => kt q ls H locs cells slots g1 g2 h1 h2 h3 h4) (fun q => kf q ls H locs cells slots g1 g2 h1 h2 h3 h4)
theorem sm_icmp_gt {cl : List vw_C} {X : sm_X} {cc : ByteArray} {n : Nat} {own : String} {Ts : List Cond} {ret : Option FieldType} {rm : Room} {N S : Nat} {ini : Bool} (hX : sm_ok cl X cc n own Ts ret rm N S ini) {pc : Nat} {L : List (Option Value)} {r : List Value} {ad : Nat → Nat} {sh : sm_S} {μ : sm_M} {x y : Int32} {off : Int} (tgt : Nat) (d : decode cc pc = .ok (.if_icmp .gt off, 3)) (ht : (pc : Int) + off = (tgt : Int)) (kt : y < x → sm_E cl X tgt L r ad sh μ) (kf : ¬ (y < x) → sm_E cl X (pc + 3) L r ad sh μ) : sm_E cl X pc L (.int y :: .int x :: r) ad sh μ := by
  obtain ⟨⟨l, D, cA, NW⟩, pr, e, R, s, m, args, below, meth, c, nL, A, H0, Q, n0, s0⟩ := X
  obtain ⟨hx, hb, hml, hn, hown, hts, hK, hlk, hrt, hR, hA, hc0, hs0, hin, hnw⟩ := hX
  exact fun ls H locs cells slots g1 g2 h1 h2 h3 h4 => lv_icmp_gt hx hb d ht (fun q => kt q ls H locs cells slots g1 g2 h1 h2 h3 h4) (fun q => kf q ls H locs cells slots g1 g2 h1 h2 h3 h4)
theorem sm_if_le {cl : List vw_C} {X : sm_X} {cc : ByteArray} {n : Nat} {own : String} {Ts : List Cond} {ret : Option FieldType} {rm : Room} {N S : Nat} {ini : Bool} (hX : sm_ok cl X cc n own Ts ret rm N S ini) {pc : Nat} {L : List (Option Value)} {r : List Value} {ad : Nat → Nat} {sh : sm_S} {μ : sm_M} {x : Int32} {off : Int} (tgt : Nat) (d : decode cc pc = .ok (.ifCond .le off, 3)) (ht : (pc : Int) + off = (tgt : Int)) (kt : x ≤ 0 → sm_E cl X tgt L r ad sh μ) (kf : ¬ (x ≤ 0) → sm_E cl X (pc + 3) L r ad sh μ) : sm_E cl X pc L (.int x :: r) ad sh μ := by
  obtain ⟨⟨l, D, cA, NW⟩, pr, e, R, s, m, args, below, meth, c, nL, A, H0, Q, n0, s0⟩ := X
  obtain ⟨hx, hb, hml, hn, hown, hts, hK, hlk, hrt, hR, hA, hc0, hs0, hin, hnw⟩ := hX
  exact fun ls H locs cells slots g1 g2 h1 h2 h3 h4 => lv_if_le hx hb d ht (fun q => kt q ls H locs cells slots g1 g2 h1 h2 h3 h4) (fun q => kf q ls H locs cells slots g1 g2 h1 h2 h3 h4)
theorem sm_icmp_le {cl : List vw_C} {X : sm_X} {cc : ByteArray} {n : Nat} {own : String} {Ts : List Cond} {ret : Option FieldType} {rm : Room} {N S : Nat} {ini : Bool} (hX : sm_ok cl X cc n own Ts ret rm N S ini) {pc : Nat} {L : List (Option Value)} {r : List Value} {ad : Nat → Nat} {sh : sm_S} {μ : sm_M} {x y : Int32} {off : Int} (tgt : Nat) (d : decode cc pc = .ok (.if_icmp .le off, 3)) (ht : (pc : Int) + off = (tgt : Int)) (kt : x ≤ y → sm_E cl X tgt L r ad sh μ) (kf : ¬ (x ≤ y) → sm_E cl X (pc + 3) L r ad sh μ) : sm_E cl X pc L (.int y :: .int x :: r) ad sh μ := by
  obtain ⟨⟨l, D, cA, NW⟩, pr, e, R, s, m, args, below, meth, c, nL, A, H0, Q, n0, s0⟩ := X
  obtain ⟨hx, hb, hml, hn, hown, hts, hK, hlk, hrt, hR, hA, hc0, hs0, hin, hnw⟩ := hX
  exact fun ls H locs cells slots g1 g2 h1 h2 h3 h4 => lv_icmp_le hx hb d ht (fun q => kt q ls H locs cells slots g1 g2 h1 h2 h3 h4) (fun q => kf q ls H locs cells slots g1 g2 h1 h2 h3 h4)
theorem sm_goto {cl : List vw_C} {X : sm_X} {cc : ByteArray} {n : Nat} {own : String} {Ts : List Cond} {ret : Option FieldType} {rm : Room} {N S : Nat} {ini : Bool} (hX : sm_ok cl X cc n own Ts ret rm N S ini) {pc : Nat} {L : List (Option Value)} {r : List Value} {ad : Nat → Nat} {sh : sm_S} {μ : sm_M} {off : Int} (tgt : Nat) (d : decode cc pc = .ok (.goto off, 3)) (ht : (pc : Int) + off = (tgt : Int)) (k : sm_E cl X tgt L r ad sh μ) : sm_E cl X pc L r ad sh μ := by
  obtain ⟨⟨l, D, cA, NW⟩, pr, e, R, s, m, args, below, meth, c, nL, A, H0, Q, n0, s0⟩ := X
  obtain ⟨hx, hb, hml, hn, hown, hts, hK, hlk, hrt, hR, hA, hc0, hs0, hin, hnw⟩ := hX
  exact fun ls H locs cells slots g1 g2 h1 h2 h3 h4 => lv_goto hx hb d ht (k ls H locs cells slots g1 g2 h1 h2 h3 h4)
theorem sm_lookup {cl : List vw_C} {X : sm_X} {cc : ByteArray} {n : Nat} {own : String} {Ts : List Cond} {ret : Option FieldType} {rm : Room} {N S : Nat} {ini : Bool} (hX : sm_ok cl X cc n own Ts ret rm N S ini) {pc : Nat} {L : List (Option Value)} {r : List Value} {ad : Nat → Nat} {sh : sm_S} {μ : sm_M} {dflt : Int} {ps : Array (Int × Int)} {len : Nat} {x : Int32} (tgt : Nat) (d : decode cc pc = .ok (.lookupswitch dflt ps, len)) (hp : (ps.toList.zip (ps.toList.drop 1)).all (fun (a, next) => a.1 < next.1) = true) (ht : (pc : Int) + Op.lookupswitch.offset ps.toList dflt x.toInt = (tgt : Int)) (k : sm_E cl X tgt L r ad sh μ) : sm_E cl X pc L (.int x :: r) ad sh μ := by
  obtain ⟨⟨l, D, cA, NW⟩, pr, e, R, s, m, args, below, meth, c, nL, A, H0, Q, n0, s0⟩ := X
  obtain ⟨hx, hb, hml, hn, hown, hts, hK, hlk, hrt, hR, hA, hc0, hs0, hin, hnw⟩ := hX
  exact fun ls H locs cells slots g1 g2 h1 h2 h3 h4 => lv_lookup hx hb d hp rfl ht (k ls H locs cells slots g1 g2 h1 h2 h3 h4)
theorem sm_tableOut {cl : List vw_C} {X : sm_X} {cc : ByteArray} {n : Nat} {own : String} {Ts : List Cond} {ret : Option FieldType} {rm : Room} {N S : Nat} {ini : Bool} (hX : sm_ok cl X cc n own Ts ret rm N S ini) {pc : Nat} {L : List (Option Value)} {r : List Value} {ad : Nat → Nat} {sh : sm_S} {μ : sm_M} {dflt lo hi : Int} {offs : Array Int} {len : Nat} {x : Int32} (tgt : Nat) (d : decode cc pc = .ok (.tableswitch dflt lo hi offs, len)) (h : x.toInt < lo ∨ hi < x.toInt) (ht : (pc : Int) + dflt = (tgt : Int)) (k : sm_E cl X tgt L r ad sh μ) : sm_E cl X pc L (.int x :: r) ad sh μ := by
  obtain ⟨⟨l, D, cA, NW⟩, pr, e, R, s, m, args, below, meth, c, nL, A, H0, Q, n0, s0⟩ := X
  obtain ⟨hx, hb, hml, hn, hown, hts, hK, hlk, hrt, hR, hA, hc0, hs0, hin, hnw⟩ := hX
  exact fun ls H locs cells slots g1 g2 h1 h2 h3 h4 => lv_tableOut hx hb d h ht (k ls H locs cells slots g1 g2 h1 h2 h3 h4)
theorem sm_tableIn {cl : List vw_C} {X : sm_X} {cc : ByteArray} {n : Nat} {own : String} {Ts : List Cond} {ret : Option FieldType} {rm : Room} {N S : Nat} {ini : Bool} (hX : sm_ok cl X cc n own Ts ret rm N S ini) {pc : Nat} {L : List (Option Value)} {r : List Value} {ad : Nat → Nat} {sh : sm_S} {μ : sm_M} {dflt lo hi : Int} {offs : Array Int} {len : Nat} {x : Int32} {off : Int} (tgt : Nat) (d : decode cc pc = .ok (.tableswitch dflt lo hi offs, len)) (hl : ¬ x.toInt < lo) (hh : ¬ hi < x.toInt) (ho : offs[(x.toInt - lo).toNat]? = some off) (ht : (pc : Int) + off = (tgt : Int)) (k : sm_E cl X tgt L r ad sh μ) : sm_E cl X pc L (.int x :: r) ad sh μ := by
  obtain ⟨⟨l, D, cA, NW⟩, pr, e, R, s, m, args, below, meth, c, nL, A, H0, Q, n0, s0⟩ := X
  obtain ⟨hx, hb, hml, hn, hown, hts, hK, hlk, hrt, hR, hA, hc0, hs0, hin, hnw⟩ := hX
  exact fun ls H locs cells slots g1 g2 h1 h2 h3 h4 => lv_tableIn hx hb d hl hh ho ht (k ls H locs cells slots g1 g2 h1 h2 h3 h4)
def sm_fl (cl : List vw_C) (sh : sm_S) (Ts : List Cond) (C nm ds : String) (p k : Nat) (f : Option (Option Nat)) : Prop := ∃ (T : u_T) (N ci : Nat) (fs : List (Option (Option Nat))), sh[p]? = some (.inl (ci, fs)) ∧ cl[ci]? = some (C, T, N) ∧ k < N ∧ fs[k]? = some f ∧ (∀ w ∈ u_ws C T N, w ∈ Ts) ∧ (T k).1 = C ∧ (T k).2.1 = nm ∧ (T k).2.2.1 = ds
def sm_fp (cl : List vw_C) (Ts : List Cond) (C : String) (ci N k : Nat) (fin : Bool) (ty : FieldType) (T : u_T) : Prop := ∃ t : Nat → FieldType, cl[ci]? = some (C, T, N) ∧ k < N ∧ (∀ w ∈ u_ws C T N, w ∈ Ts) ∧ (∀ k, k < N → parseFieldDescriptor (T k).2.2.1 = some (t k)) ∧ (∀ a, a < N → ∀ b, b < N → a ≠ b → (T a).2.1 ≠ (T b).2.1) ∧ (T k).2.2.2 = fin ∧ t k = ty
def sm_fk (own : String) (Ts : List Cond) (idx : Nat) (ref nm ds : String) : Prop := Cond.fieldLink own idx ref nm ds ∈ Ts
def sm_fn (own : String) (Ts : List Cond) (idx : Nat) (ref nm ds : String) : Prop := ∃ host, Cond.fieldLinkNest own idx ref nm ds host ∈ Ts
theorem sm_get {cl : List vw_C} {X : sm_X} {cc : ByteArray} {n : Nat} {own : String} {Ts : List Cond} {ret : Option FieldType} {rm : Room} {N S : Nat} {ini : Bool} (hX : sm_ok cl X cc n own Ts ret rm N S ini) {pc : Nat} {L : List (Option Value)} {r : List Value} {ad : Nat → Nat} {sh : sm_S} {μ : sm_M} {idx p k ci N' : Nat} {C : String} {T : u_T} {fs : List (Option (Option Nat))} {f : Option (Option Nat)} (e1 : sh[p]? = some (.inl (ci, fs))) (e2 : cl[ci]? = some (C, T, N')) (e3 : k < N') (e4 : fs[k]? = some f) (e5 : ∀ w ∈ u_ws C T N', w ∈ Ts) (e6 : Cond.fieldLink own idx (T k).1 (T k).2.1 (T k).2.2.1 ∈ Ts) (d : decode cc pc = .ok (.getfield idx, 3)) (kk : ∀ v : Value, sm_v ad v = sm_f ad (μ.1 p) k f → (∀ q, f = some (some q) → v = .ref q) → (f = none → v = .int (μ.1 p k)) → sm_E cl X (pc + 3) L (v :: r) ad sh μ) : sm_E cl X pc L (.ref p :: r) ad sh μ := by
  obtain ⟨⟨l, D, cA, NW⟩, pr, e, R, s, m, args, below, meth, c, nL, A, H0, Q, n0, s0⟩ := X
  obtain ⟨hx, hb, hml, hn, hown, hts, hK, hlk, hrt, hR, hA, hc0, hs0, hin, hnw⟩ := hX
  have hv : ∃ v : Value, sm_v ad v = sm_f ad (μ.1 p) k f ∧ (∀ q, f = some (some q) → v = .ref q) ∧ (f = none → v = .int (μ.1 p k)) := by
    cases f with
    | none => exact ⟨.int (μ.1 p k), rfl, fun q h => (by cases h), fun _ => rfl⟩
    | some f =>
      cases f with
      | none => exact ⟨.null, rfl, fun q h => (by cases h), fun h => (by cases h)⟩
      | some q => exact ⟨.ref q, rfl, fun q' h => (by cases h; rfl), fun h => (by cases h)⟩
  obtain ⟨v, hv1, hv2, hv3⟩ := hv
  intro ls H locs cells slots g1 g2 h1 h2 h3 h4
  have k := kk v hv1 hv2 hv3 ls H locs cells slots g1 g2 h1 h2 h3 h4
  rw [List.map_cons, hv1] at k
  exact va_get (D := D) (v := sm_f ad (μ.1 p) _ f) hx hb hts e5 hown hK h2 p (by rw [sm_w_at, e1]; rfl) e2 _ e3 (hts _ e6) (fun _ h => h) (by rw [List.getElem?_mapIdx, e4]; rfl) d k
theorem sm_getI {cl : List vw_C} {X : sm_X} {cc : ByteArray} {n : Nat} {own : String} {Ts : List Cond} {ret : Option FieldType} {rm : Room} {N S : Nat} {ini : Bool} (hX : sm_ok cl X cc n own Ts ret rm N S ini) {pc : Nat} {L : List (Option Value)} {r : List Value} {ad : Nat → Nat} {sh : sm_S} {μ : sm_M} {idx p k ci N' : Nat} {C : String} {T : u_T} {fs : List (Option (Option Nat))} (e1 : sh[p]? = some (.inl (ci, fs))) (e2 : cl[ci]? = some (C, T, N')) (e3 : k < N') (e4 : fs[k]? = some none) (e5 : ∀ w ∈ u_ws C T N', w ∈ Ts) (e6 : Cond.fieldLink own idx (T k).1 (T k).2.1 (T k).2.2.1 ∈ Ts) (d : decode cc pc = .ok (.getfield idx, 3)) (kk : sm_E cl X (pc + 3) L (.int (μ.1 p k) :: r) ad sh μ) : sm_E cl X pc L (.ref p :: r) ad sh μ :=
  sm_get hX e1 e2 e3 e4 e5 e6 d (fun v _ _ h => by rw [h rfl]; exact kk)
theorem sm_getR {cl : List vw_C} {X : sm_X} {cc : ByteArray} {n : Nat} {own : String} {Ts : List Cond} {ret : Option FieldType} {rm : Room} {N S : Nat} {ini : Bool} (hX : sm_ok cl X cc n own Ts ret rm N S ini) {pc : Nat} {L : List (Option Value)} {r : List Value} {ad : Nat → Nat} {sh : sm_S} {μ : sm_M} {idx p k ci N' q : Nat} {C : String} {T : u_T} {fs : List (Option (Option Nat))} (e1 : sh[p]? = some (.inl (ci, fs))) (e2 : cl[ci]? = some (C, T, N')) (e3 : k < N') (e4 : fs[k]? = some (some (some q))) (e5 : ∀ w ∈ u_ws C T N', w ∈ Ts) (e6 : Cond.fieldLink own idx (T k).1 (T k).2.1 (T k).2.2.1 ∈ Ts) (d : decode cc pc = .ok (.getfield idx, 3)) (kk : sm_E cl X (pc + 3) L (.ref q :: r) ad sh μ) : sm_E cl X pc L (.ref p :: r) ad sh μ :=
  sm_get hX e1 e2 e3 e4 e5 e6 d (fun v _ h _ => by rw [h q rfl]; exact kk)
theorem sm_getN {cl : List vw_C} {X : sm_X} {cc : ByteArray} {n : Nat} {own : String} {Ts : List Cond} {ret : Option FieldType} {rm : Room} {N S : Nat} {ini : Bool} (hX : sm_ok cl X cc n own Ts ret rm N S ini) {pc : Nat} {L : List (Option Value)} {r : List Value} {ad : Nat → Nat} {sh : sm_S} {μ : sm_M} {idx p k ci N' : Nat} {C : String} {T : u_T} {fs : List (Option (Option Nat))} {f : Option (Option Nat)} {host : String} (e1 : sh[p]? = some (.inl (ci, fs))) (e2 : cl[ci]? = some (C, T, N')) (e3 : k < N') (e4 : fs[k]? = some f) (e5 : ∀ w ∈ u_ws C T N', w ∈ Ts) (e6 : Cond.fieldLinkNest own idx (T k).1 (T k).2.1 (T k).2.2.1 host ∈ X.1.2.2.2) (d : decode cc pc = .ok (.getfield idx, 3)) (kk : ∀ v : Value, sm_v ad v = sm_f ad (μ.1 p) k f → (∀ q, f = some (some q) → v = .ref q) → (f = none → v = .int (μ.1 p k)) → sm_E cl X (pc + 3) L (v :: r) ad sh μ) : sm_E cl X pc L (.ref p :: r) ad sh μ := by
  obtain ⟨⟨l, D, cA, NW⟩, pr, e, R, s, m, args, below, meth, c, nL, A, H0, Q, n0, s0⟩ := X
  obtain ⟨hx, hb, hml, hn, hown, hts, hK, hlk, hrt, hR, hA, hc0, hs0, hin, hnw⟩ := hX
  have hv : ∃ v : Value, sm_v ad v = sm_f ad (μ.1 p) k f ∧ (∀ q, f = some (some q) → v = .ref q) ∧ (f = none → v = .int (μ.1 p k)) := by
    cases f with
    | none => exact ⟨.int (μ.1 p k), rfl, fun q h => (by cases h), fun _ => rfl⟩
    | some f =>
      cases f with
      | none => exact ⟨.null, rfl, fun q h => (by cases h), fun h => (by cases h)⟩
      | some q => exact ⟨.ref q, rfl, fun q' h => (by cases h; rfl), fun h => (by cases h)⟩
  obtain ⟨v, hv1, hv2, hv3⟩ := hv
  intro ls H locs cells slots g1 g2 h1 h2 h3 h4
  have k := kk v hv1 hv2 hv3 ls H locs cells slots g1 g2 h1 h2 h3 h4
  rw [List.map_cons, hv1] at k
  exact va_getN (D := D) (v := sm_f ad (μ.1 p) _ f) hx hb hts e5 hown hK h2 p (by rw [sm_w_at, e1]; rfl) e2 _ e3 (va_Nw.use rfl (hnw _ e6).2) (fun _ h => h) (by rw [List.getElem?_mapIdx, e4]; rfl) d k
theorem sm_getIN {cl : List vw_C} {X : sm_X} {cc : ByteArray} {n : Nat} {own : String} {Ts : List Cond} {ret : Option FieldType} {rm : Room} {N S : Nat} {ini : Bool} (hX : sm_ok cl X cc n own Ts ret rm N S ini) {pc : Nat} {L : List (Option Value)} {r : List Value} {ad : Nat → Nat} {sh : sm_S} {μ : sm_M} {idx p k ci N' : Nat} {C : String} {T : u_T} {fs : List (Option (Option Nat))} {host : String} (e1 : sh[p]? = some (.inl (ci, fs))) (e2 : cl[ci]? = some (C, T, N')) (e3 : k < N') (e4 : fs[k]? = some none) (e5 : ∀ w ∈ u_ws C T N', w ∈ Ts) (e6 : Cond.fieldLinkNest own idx (T k).1 (T k).2.1 (T k).2.2.1 host ∈ X.1.2.2.2) (d : decode cc pc = .ok (.getfield idx, 3)) (kk : sm_E cl X (pc + 3) L (.int (μ.1 p k) :: r) ad sh μ) : sm_E cl X pc L (.ref p :: r) ad sh μ :=
  sm_getN hX e1 e2 e3 e4 e5 e6 d (fun v _ _ h => by rw [h rfl]; exact kk)
theorem sm_getRN {cl : List vw_C} {X : sm_X} {cc : ByteArray} {n : Nat} {own : String} {Ts : List Cond} {ret : Option FieldType} {rm : Room} {N S : Nat} {ini : Bool} (hX : sm_ok cl X cc n own Ts ret rm N S ini) {pc : Nat} {L : List (Option Value)} {r : List Value} {ad : Nat → Nat} {sh : sm_S} {μ : sm_M} {idx p k ci N' q : Nat} {C : String} {T : u_T} {fs : List (Option (Option Nat))} {host : String} (e1 : sh[p]? = some (.inl (ci, fs))) (e2 : cl[ci]? = some (C, T, N')) (e3 : k < N') (e4 : fs[k]? = some (some (some q))) (e5 : ∀ w ∈ u_ws C T N', w ∈ Ts) (e6 : Cond.fieldLinkNest own idx (T k).1 (T k).2.1 (T k).2.2.1 host ∈ X.1.2.2.2) (d : decode cc pc = .ok (.getfield idx, 3)) (kk : sm_E cl X (pc + 3) L (.ref q :: r) ad sh μ) : sm_E cl X pc L (.ref p :: r) ad sh μ :=
  sm_getN hX e1 e2 e3 e4 e5 e6 d (fun v _ h _ => by rw [h q rfl]; exact kk)
theorem sm_put {cl : List vw_C} {X : sm_X} {cc : ByteArray} {n : Nat} {own : String} {Ts : List Cond} {ret : Option FieldType} {rm : Room} {N S : Nat} {ini : Bool} (hX : sm_ok cl X cc n own Ts ret rm N S ini) {pc : Nat} {L : List (Option Value)} {r : List Value} {ad : Nat → Nat} {sh : sm_S} {μ : sm_M} {idx p k ci N' : Nat} {C : String} {T : u_T} {fs : List (Option (Option Nat))} {ty : FieldType} {v : Int32} (e1 : sh[p]? = some (.inl (ci, fs))) (e4 : fs[k]? = some none) (hf : sm_fp cl Ts C ci N' k false ty T) (e6 : Cond.fieldLink own idx (T k).1 (T k).2.1 (T k).2.2.1 ∈ Ts) (hn0 : narrow ty (.int v) = .int v) (hfit : fits ty (.int v) = true) (d : decode cc pc = .ok (.putfield idx, 3)) (kk : sm_E cl X (pc + 3) L r ad sh (sm_ui μ p k v)) : sm_E cl X pc L (.int v :: .ref p :: r) ad sh μ := by
  obtain ⟨⟨l, D, cA, NW⟩, pr, e, R, s, m, args, below, meth, c, nL, A, H0, Q, n0, s0⟩ := X
  obtain ⟨hx, hb, hml, hn, hown, hts, hK, hlk, hrt, hR, hA, hc0, hs0, hin, hnw⟩ := hX
  obtain ⟨t, e2, e3, e5, e7, e8, e9, e10⟩ := hf
  intro ls H locs cells slots g1 g2 h1 h2 h3 h4
  refine va_put (D := D) (v := .int v) (ty := ty) hx hb hts e5 t e7 e8 hown hK h2 h3 h4 p (by rw [sm_w_at, e1]; rfl) e2 k e3 (hts _ e6) (fun _ h => h) e9 (by rw [e7 k e3, e10]) hn0 hfit (by rw [List.length_mapIdx]; exact (List.getElem?_eq_some_iff.mp e4).1) d (fun H1 locs1 q1 q2 q3 => ?_)
  rw [sm_w_ui e1 e4] at q1 q2
  exact kk ls H1 locs1 cells slots g1 g2 h1 q1 q2 q3
theorem sm_putN {cl : List vw_C} {X : sm_X} {cc : ByteArray} {n : Nat} {own : String} {Ts : List Cond} {ret : Option FieldType} {rm : Room} {N S : Nat} {ini : Bool} (hX : sm_ok cl X cc n own Ts ret rm N S ini) {pc : Nat} {L : List (Option Value)} {r : List Value} {ad : Nat → Nat} {sh : sm_S} {μ : sm_M} {idx p k ci N' : Nat} {C : String} {T : u_T} {fs : List (Option (Option Nat))} {ty : FieldType} {v : Int32} {host : String} (e1 : sh[p]? = some (.inl (ci, fs))) (e4 : fs[k]? = some none) (hf : sm_fp cl Ts C ci N' k false ty T) (e6 : Cond.fieldLinkNest own idx (T k).1 (T k).2.1 (T k).2.2.1 host ∈ X.1.2.2.2) (hn0 : narrow ty (.int v) = .int v) (hfit : fits ty (.int v) = true) (d : decode cc pc = .ok (.putfield idx, 3)) (kk : sm_E cl X (pc + 3) L r ad sh (sm_ui μ p k v)) : sm_E cl X pc L (.int v :: .ref p :: r) ad sh μ := by
  obtain ⟨⟨l, D, cA, NW⟩, pr, e, R, s, m, args, below, meth, c, nL, A, H0, Q, n0, s0⟩ := X
  obtain ⟨hx, hb, hml, hn, hown, hts, hK, hlk, hrt, hR, hA, hc0, hs0, hin, hnw⟩ := hX
  obtain ⟨t, e2, e3, e5, e7, e8, e9, e10⟩ := hf
  intro ls H locs cells slots g1 g2 h1 h2 h3 h4
  refine va_putN (D := D) (v := .int v) (ty := ty) hx hb hts e5 t e7 e8 hown hK h2 h3 h4 p (by rw [sm_w_at, e1]; rfl) e2 k e3 (va_Nw.use rfl (hnw _ e6).2) (fun _ h => h) e9 (by rw [e7 k e3, e10]) hn0 hfit (by rw [List.length_mapIdx]; exact (List.getElem?_eq_some_iff.mp e4).1) d (fun H1 locs1 q1 q2 q3 => ?_)
  rw [sm_w_ui e1 e4] at q1 q2
  exact kk ls H1 locs1 cells slots g1 g2 h1 q1 q2 q3
theorem sm_sl_set {sh : sm_S} {p ci : Nat} {fs fs' : List (Option (Option Nat))} (h : sh[p]? = some (.inl (ci, fs))) (hl : fs'.length = fs.length) : sm_sl (sh.set p (.inl (ci, fs'))) = sm_sl sh := by
  unfold sm_sl
  congr 1
  apply List.ext_getElem?
  intro i
  rw [List.getElem?_map, List.getElem?_map]
  by_cases hi : i = p
  · subst hi
    rw [List.getElem?_set_self (List.getElem?_eq_some_iff.mp h).1, h]
    simp [sm_sz, hl]
  · rw [List.getElem?_set_ne (Ne.symm hi)]
theorem sm_putF {cl : List vw_C} {X : sm_X} {cc : ByteArray} {n : Nat} {own : String} {Ts : List Cond} {ret : Option FieldType} {rm : Room} {N S : Nat} {ini : Bool} (hX : sm_ok cl X cc n own Ts ret rm N S ini) {pc : Nat} {L : List (Option Value)} {r : List Value} {ad : Nat → Nat} {sh : sm_S} {μ : sm_M} {idx p k ci N' q : Nat} {C : String} {T : u_T} {fs : List (Option (Option Nat))} {ty : FieldType} (e1 : sh[p]? = some (.inl (ci, fs))) (e4 : k < fs.length) (hf : sm_fp cl Ts C ci N' k true ty T) (e6 : Cond.fieldLink own idx (T k).1 (T k).2.1 (T k).2.2.1 ∈ Ts) (hii : ini = true) (hdec : (T k).1 = own) (hn0 : narrow ty (.ref (ad q)) = .ref (ad q)) (hfit : fits ty (.ref (ad q)) = true) (d : decode cc pc = .ok (.putfield idx, 3)) (kk : sm_E cl X (pc + 3) L r ad (sh.set p (.inl (ci, fs.set k (some (some q))))) μ) : sm_E cl X pc L (.ref q :: .ref p :: r) ad sh μ := by
  obtain ⟨⟨l, D, cA, NW⟩, pr, e, R, s, m, args, below, meth, c, nL, A, H0, Q, n0, s0⟩ := X
  obtain ⟨hx, hb, hml, hn, hown, hts, hK, hlk, hrt, hR, hA, hc0, hs0, hin, hnw⟩ := hX
  obtain ⟨t, e2, e3, e5, e7, e8, e9, e10⟩ := hf
  intro ls H locs cells slots g1 g2 h1 h2 h3 h4
  refine va_putF (D := D) (v := .ref (ad q)) (ty := ty) hx hb hts e5 t e7 e8 hown hK h2 h3 h4 p (by rw [sm_w_at, e1]; rfl) e2 k e3 (hts _ e6) (fun _ h => h) e9 (hin hii) hdec (by rw [e7 k e3, e10]) hn0 hfit (by rw [List.length_mapIdx]; exact e4) d (fun H1 locs1 q1 q2 q3 => ?_)
  rw [sm_w_ur e1 e4] at q1 q2
  exact kk ls H1 locs1 cells slots (by rw [List.length_set]; exact g1) (by rw [sm_sl_set e1 (by rw [List.length_set])]; exact g2) h1 q1 q2 q3
theorem sm_iald {cl : List vw_C} {X : sm_X} {cc : ByteArray} {n : Nat} {own : String} {Ts : List Cond} {ret : Option FieldType} {rm : Room} {N S : Nat} {ini : Bool} (hX : sm_ok cl X cc n own Ts ret rm N S ini) {pc : Nat} {L : List (Option Value)} {r : List Value} {ad : Nat → Nat} {sh : sm_S} {μ : sm_M} {p len : Nat} {i : Int32} (hs : sh[p]? = some (.inr (0, len))) (hi : vp_in i len) (d : decode cc pc = .ok (.iaload, 1)) (kk : sm_E cl X (pc + 1) L (.int (μ.1 p i.toNatClampNeg) :: r) ad sh μ) : sm_E cl X pc L (.int i :: .ref p :: r) ad sh μ := by
  obtain ⟨⟨l, D, cA, NW⟩, pr, e, R, s, m, args, below, meth, c, nL, A, H0, Q, n0, s0⟩ := X
  obtain ⟨hx, hb, hml, hn, hown, hts, hK, hlk, hrt, hR, hA, hc0, hs0, hin, hnw⟩ := hX
  exact fun ls H locs cells slots g1 g2 h1 h2 h3 h4 => va_iald (D := D) (f := μ.1 p) hx hb hK h2 p 0 (by rw [sm_w_at, hs]; rfl) rfl hi d (kk ls H locs cells slots g1 g2 h1 h2 h3 h4)
theorem sm_zald {cl : List vw_C} {X : sm_X} {cc : ByteArray} {n : Nat} {own : String} {Ts : List Cond} {ret : Option FieldType} {rm : Room} {N S : Nat} {ini : Bool} (hX : sm_ok cl X cc n own Ts ret rm N S ini) {pc : Nat} {L : List (Option Value)} {r : List Value} {ad : Nat → Nat} {sh : sm_S} {μ : sm_M} {p len : Nat} {i : Int32} (hs : sh[p]? = some (.inr (1, len))) (hi : vp_in i len) (d : decode cc pc = .ok (.baload, 1)) (kk : sm_E cl X (pc + 1) L (.int (μ.1 p i.toNatClampNeg) :: r) ad sh μ) : sm_E cl X pc L (.int i :: .ref p :: r) ad sh μ := by
  obtain ⟨⟨l, D, cA, NW⟩, pr, e, R, s, m, args, below, meth, c, nL, A, H0, Q, n0, s0⟩ := X
  obtain ⟨hx, hb, hml, hn, hown, hts, hK, hlk, hrt, hR, hA, hc0, hs0, hin, hnw⟩ := hX
  exact fun ls H locs cells slots g1 g2 h1 h2 h3 h4 => va_zald (D := D) (f := μ.1 p) hx hb hK h2 p 1 (by rw [sm_w_at, hs]; rfl) rfl hi d (kk ls H locs cells slots g1 g2 h1 h2 h3 h4)
theorem sm_lald {cl : List vw_C} {X : sm_X} {cc : ByteArray} {n : Nat} {own : String} {Ts : List Cond} {ret : Option FieldType} {rm : Room} {N S : Nat} {ini : Bool} (hX : sm_ok cl X cc n own Ts ret rm N S ini) {pc : Nat} {L : List (Option Value)} {r : List Value} {ad : Nat → Nat} {sh : sm_S} {μ : sm_M} {p len : Nat} {i : Int32} (hs : sh[p]? = some (.inr (2, len))) (hi : vp_in i len) (d : decode cc pc = .ok (.laload, 1)) (kk : sm_E cl X (pc + 1) L (.long (μ.2 p i.toNatClampNeg) :: r) ad sh μ) : sm_E cl X pc L (.int i :: .ref p :: r) ad sh μ := by
  obtain ⟨⟨l, D, cA, NW⟩, pr, e, R, s, m, args, below, meth, c, nL, A, H0, Q, n0, s0⟩ := X
  obtain ⟨hx, hb, hml, hn, hown, hts, hK, hlk, hrt, hR, hA, hc0, hs0, hin, hnw⟩ := hX
  exact fun ls H locs cells slots g1 g2 h1 h2 h3 h4 => va_lald (D := D) (f := μ.2 p) hx hb hK h2 p 2 (by rw [sm_w_at, hs]; rfl) rfl hi d (kk ls H locs cells slots g1 g2 h1 h2 h3 h4)
theorem sm_iast {cl : List vw_C} {X : sm_X} {cc : ByteArray} {n : Nat} {own : String} {Ts : List Cond} {ret : Option FieldType} {rm : Room} {N S : Nat} {ini : Bool} (hX : sm_ok cl X cc n own Ts ret rm N S ini) {pc : Nat} {L : List (Option Value)} {r : List Value} {ad : Nat → Nat} {sh : sm_S} {μ : sm_M} {p len : Nat} {i x : Int32} (hs : sh[p]? = some (.inr (0, len))) (hi : vp_in i len) (d : decode cc pc = .ok (.iastore, 1)) (kk : sm_E cl X (pc + 1) L r ad sh (sm_ui μ p i.toNatClampNeg x)) : sm_E cl X pc L (.int x :: .int i :: .ref p :: r) ad sh μ := by
  obtain ⟨⟨l, D, cA, NW⟩, pr, e, R, s, m, args, below, meth, c, nL, A, H0, Q, n0, s0⟩ := X
  obtain ⟨hx, hb, hml, hn, hown, hts, hK, hlk, hrt, hR, hA, hc0, hs0, hin, hnw⟩ := hX
  intro ls H locs cells slots g1 g2 h1 h2 h3 h4
  refine va_iast (D := D) (f := μ.1 p) hx hb hK h2 h3 h4 p 0 (by rw [sm_w_at, hs]; rfl) rfl hi d (fun H1 locs1 q1 q2 q3 => ?_)
  rw [sm_w_ai hs (by decide)] at q1 q2
  exact kk ls H1 locs1 cells slots g1 g2 h1 q1 q2 q3
theorem sm_zast {cl : List vw_C} {X : sm_X} {cc : ByteArray} {n : Nat} {own : String} {Ts : List Cond} {ret : Option FieldType} {rm : Room} {N S : Nat} {ini : Bool} (hX : sm_ok cl X cc n own Ts ret rm N S ini) {pc : Nat} {L : List (Option Value)} {r : List Value} {ad : Nat → Nat} {sh : sm_S} {μ : sm_M} {p len : Nat} {i x : Int32} (hs : sh[p]? = some (.inr (1, len))) (hi : vp_in i len) (d : decode cc pc = .ok (.bastore, 1)) (kk : sm_E cl X (pc + 1) L r ad sh (sm_ui μ p i.toNatClampNeg (vp_nar .boolean x))) : sm_E cl X pc L (.int x :: .int i :: .ref p :: r) ad sh μ := by
  obtain ⟨⟨l, D, cA, NW⟩, pr, e, R, s, m, args, below, meth, c, nL, A, H0, Q, n0, s0⟩ := X
  obtain ⟨hx, hb, hml, hn, hown, hts, hK, hlk, hrt, hR, hA, hc0, hs0, hin, hnw⟩ := hX
  intro ls H locs cells slots g1 g2 h1 h2 h3 h4
  refine va_zast (D := D) (f := μ.1 p) hx hb hK h2 h3 h4 p 1 (by rw [sm_w_at, hs]; rfl) rfl hi d (fun H1 locs1 q1 q2 q3 => ?_)
  rw [sm_w_ai hs (by decide)] at q1 q2
  exact kk ls H1 locs1 cells slots g1 g2 h1 q1 q2 q3
theorem sm_last {cl : List vw_C} {X : sm_X} {cc : ByteArray} {n : Nat} {own : String} {Ts : List Cond} {ret : Option FieldType} {rm : Room} {N S : Nat} {ini : Bool} (hX : sm_ok cl X cc n own Ts ret rm N S ini) {pc : Nat} {L : List (Option Value)} {r : List Value} {ad : Nat → Nat} {sh : sm_S} {μ : sm_M} {p len : Nat} {i : Int32} {x : Int64} (hs : sh[p]? = some (.inr (2, len))) (hi : vp_in i len) (d : decode cc pc = .ok (.lastore, 1)) (kk : sm_E cl X (pc + 1) L r ad sh (sm_ul μ p i.toNatClampNeg x)) : sm_E cl X pc L (.long x :: .int i :: .ref p :: r) ad sh μ := by
  obtain ⟨⟨l, D, cA, NW⟩, pr, e, R, s, m, args, below, meth, c, nL, A, H0, Q, n0, s0⟩ := X
  obtain ⟨hx, hb, hml, hn, hown, hts, hK, hlk, hrt, hR, hA, hc0, hs0, hin, hnw⟩ := hX
  intro ls H locs cells slots g1 g2 h1 h2 h3 h4
  refine va_last (D := D) (f := μ.2 p) hx hb hK h2 h3 h4 p 2 (by rw [sm_w_at, hs]; rfl) rfl hi d (fun H1 locs1 q1 q2 q3 => ?_)
  rw [sm_w_al hs] at q1 q2
  exact kk ls H1 locs1 cells slots g1 g2 h1 q1 q2 q3
theorem sm_alen {cl : List vw_C} {X : sm_X} {cc : ByteArray} {n : Nat} {own : String} {Ts : List Cond} {ret : Option FieldType} {rm : Room} {N S : Nat} {ini : Bool} (hX : sm_ok cl X cc n own Ts ret rm N S ini) {pc : Nat} {L : List (Option Value)} {r : List Value} {ad : Nat → Nat} {sh : sm_S} {μ : sm_M} {p kd len : Nat} (hs : sh[p]? = some (.inr (kd, len))) (hkd : kd < 3) (d : decode cc pc = .ok (.arraylength, 1)) (kk : sm_E cl X (pc + 1) L (.int (Int32.ofNat len) :: r) ad sh μ) : sm_E cl X pc L (.ref p :: r) ad sh μ := by
  obtain ⟨⟨l, D, cA, NW⟩, pr, e, R, s, m, args, below, meth, c, nL, A, H0, Q, n0, s0⟩ := X
  obtain ⟨hx, hb, hml, hn, hown, hts, hK, hlk, hrt, hR, hA, hc0, hs0, hin, hnw⟩ := hX
  have ht : ∃ ty, (sm_ty cA)[kd]? = some (cA kd, ty) := by
    rcases (show kd = 0 ∨ kd = 1 ∨ kd = 2 by omega) with rfl | rfl | rfl <;> exact ⟨_, rfl⟩
  obtain ⟨ty, ht⟩ := ht
  exact fun ls H locs cells slots g1 g2 h1 h2 h3 h4 => va_alen (D := D) (x := (len, if kd = 2 then .inr (.inl (μ.2 p)) else .inl (μ.1 p))) hx hb hK h2 p kd (by rw [sm_w_at, hs]; rfl) ht rfl d (kk ls H locs cells slots g1 g2 h1 h2 h3 h4)
theorem sm_iret {cl : List vw_C} {X : sm_X} {cc : ByteArray} {n : Nat} {own : String} {Ts : List Cond} {ret : Option FieldType} {rm : Room} {N S : Nat} {ini : Bool} (hX : sm_ok cl X cc n own Ts ret rm N S ini) {pc : Nat} {L : List (Option Value)} {ad : Nat → Nat} {sh : sm_S} {μ : sm_M} {ad0 : Nat → Nat} {sh0 : sm_S} {mc ms : Nat} {Q0 : Option Value → sm_S → sm_M → Prop} {v : Int32} (hf : sm_fin cl X ad0 sh0 mc ms Q0) (hN : sh.length = sh0.length + mc) (hS : sm_sl sh = sm_sl sh0 + ms) (hag : sm_ag sh0.length sh.length ad ad0) (hi : ret = some .int) (d : decode cc pc = .ok (.ireturn, 1)) (hq : Q0 (some (.int v)) sh μ) : sm_E cl X pc L [.int v] ad sh μ := by
  obtain ⟨⟨l, D, cA, NW⟩, pr, e, R, s, m, args, below, meth, c, nL, A, H0, Q, n0, s0⟩ := X
  obtain ⟨hx, hb, hml, hn, hown, hts, hK, hlk, hrt, hR, hA, hc0, hs0, hin, hnw⟩ := hX
  obtain ⟨rfl, rfl, rfl, rfl⟩ := hf
  subst hi
  intro ls H locs cells slots g1 g2 h1 h2 h3 h4
  have e1 : cells = mc := by omega
  have e2 : slots = ms := by omega
  subst e1 e2
  exact W.iret hx hb hrt (fun t ht hW => ⟨⟨(some (.int v)), ad, sh, μ, rfl, hN, hS, hag, hq, by rw [ht]; exact h2, va_K.moved hW.alike hK, h3⟩, h4.F ht⟩) h4.2.2 d hlk
theorem sm_zret {cl : List vw_C} {X : sm_X} {cc : ByteArray} {n : Nat} {own : String} {Ts : List Cond} {ret : Option FieldType} {rm : Room} {N S : Nat} {ini : Bool} (hX : sm_ok cl X cc n own Ts ret rm N S ini) {pc : Nat} {L : List (Option Value)} {ad : Nat → Nat} {sh : sm_S} {μ : sm_M} {ad0 : Nat → Nat} {sh0 : sm_S} {mc ms : Nat} {Q0 : Option Value → sm_S → sm_M → Prop} {v : Int32} (hf : sm_fin cl X ad0 sh0 mc ms Q0) (hN : sh.length = sh0.length + mc) (hS : sm_sl sh = sm_sl sh0 + ms) (hag : sm_ag sh0.length sh.length ad ad0) (hi : ret = some .boolean) (hv : v &&& 1 = v) (d : decode cc pc = .ok (.ireturn, 1)) (hq : Q0 (some (.int v)) sh μ) : sm_E cl X pc L [.int v] ad sh μ := by
  obtain ⟨⟨l, D, cA, NW⟩, pr, e, R, s, m, args, below, meth, c, nL, A, H0, Q, n0, s0⟩ := X
  obtain ⟨hx, hb, hml, hn, hown, hts, hK, hlk, hrt, hR, hA, hc0, hs0, hin, hnw⟩ := hX
  obtain ⟨rfl, rfl, rfl, rfl⟩ := hf
  subst hi
  intro ls H locs cells slots g1 g2 h1 h2 h3 h4
  have e1 : cells = mc := by omega
  have e2 : slots = ms := by omega
  subst e1 e2
  exact W.zret hx hb hrt (by simp [narrow, hv]) (fun t ht hW => ⟨⟨(some (.int v)), ad, sh, μ, rfl, hN, hS, hag, hq, by rw [ht]; exact h2, va_K.moved hW.alike hK, h3⟩, h4.F ht⟩) h4.2.2 d hlk
theorem sm_lret {cl : List vw_C} {X : sm_X} {cc : ByteArray} {n : Nat} {own : String} {Ts : List Cond} {ret : Option FieldType} {rm : Room} {N S : Nat} {ini : Bool} (hX : sm_ok cl X cc n own Ts ret rm N S ini) {pc : Nat} {L : List (Option Value)} {ad : Nat → Nat} {sh : sm_S} {μ : sm_M} {ad0 : Nat → Nat} {sh0 : sm_S} {mc ms : Nat} {Q0 : Option Value → sm_S → sm_M → Prop} {v : Int64} (hf : sm_fin cl X ad0 sh0 mc ms Q0) (hN : sh.length = sh0.length + mc) (hS : sm_sl sh = sm_sl sh0 + ms) (hag : sm_ag sh0.length sh.length ad ad0) (hi : ret = some .long) (d : decode cc pc = .ok (.lreturn, 1)) (hq : Q0 (some (.long v)) sh μ) : sm_E cl X pc L [.long v] ad sh μ := by
  obtain ⟨⟨l, D, cA, NW⟩, pr, e, R, s, m, args, below, meth, c, nL, A, H0, Q, n0, s0⟩ := X
  obtain ⟨hx, hb, hml, hn, hown, hts, hK, hlk, hrt, hR, hA, hc0, hs0, hin, hnw⟩ := hX
  obtain ⟨rfl, rfl, rfl, rfl⟩ := hf
  subst hi
  intro ls H locs cells slots g1 g2 h1 h2 h3 h4
  have e1 : cells = mc := by omega
  have e2 : slots = ms := by omega
  subst e1 e2
  exact W.lret hx hb hrt (fun t ht hW => ⟨⟨(some (.long v)), ad, sh, μ, rfl, hN, hS, hag, hq, by rw [ht]; exact h2, va_K.moved hW.alike hK, h3⟩, h4.F ht⟩) h4.2.2 d hlk
theorem sm_vret {cl : List vw_C} {X : sm_X} {cc : ByteArray} {n : Nat} {own : String} {Ts : List Cond} {ret : Option FieldType} {rm : Room} {N S : Nat} {ini : Bool} (hX : sm_ok cl X cc n own Ts ret rm N S ini) {pc : Nat} {L : List (Option Value)} {ad : Nat → Nat} {sh : sm_S} {μ : sm_M} {ad0 : Nat → Nat} {sh0 : sm_S} {mc ms : Nat} {Q0 : Option Value → sm_S → sm_M → Prop} (hf : sm_fin cl X ad0 sh0 mc ms Q0) (hN : sh.length = sh0.length + mc) (hS : sm_sl sh = sm_sl sh0 + ms) (hag : sm_ag sh0.length sh.length ad ad0) (hi : ret = none) (d : decode cc pc = .ok (.return_, 1)) (hq : Q0 none sh μ) : sm_E cl X pc L [] ad sh μ := by
  obtain ⟨⟨l, D, cA, NW⟩, pr, e, R, s, m, args, below, meth, c, nL, A, H0, Q, n0, s0⟩ := X
  obtain ⟨hx, hb, hml, hn, hown, hts, hK, hlk, hrt, hR, hA, hc0, hs0, hin, hnw⟩ := hX
  obtain ⟨rfl, rfl, rfl, rfl⟩ := hf
  subst hi
  intro ls H locs cells slots g1 g2 h1 h2 h3 h4
  have e1 : cells = mc := by omega
  have e2 : slots = ms := by omega
  subst e1 e2
  exact W.vret hx hb hrt (fun t ht hW => ⟨⟨none, ad, sh, μ, rfl, hN, hS, hag, hq, by rw [ht]; exact h2, va_K.moved hW.alike hK, h3⟩, h4.F ht⟩) h4.2.2 d hlk
/-! calls: what a call instruction needs of the tables, so that a contract of the called method takes the walk over it -/
theorem sm_ag_eq {a : Nat} {ad' ad : Nat → Nat} (h : sm_ag a a ad' ad) : ad' = ad := funext fun p => h p (Nat.lt_or_ge p a)
theorem sm_stab {L : List (Option Value)} {r : List Value} {a b c : Nat} {ad' ad : Nat → Nat} (hl : b = a + c) (hag : sm_ag a b ad' ad) (h : c = 0 ∨ (L.all (sm_no a b) = true ∧ r.all (sm_nv a b) = true)) : (∀ (ls : Array Slot) (nL : Nat), sm_has ls nL ad L → sm_has ls nL ad' L) ∧ r.map (sm_v ad') = r.map (sm_v ad) := by
  rcases h with h | ⟨h1, h2⟩
  · have hb : b = a := by omega
    subst hb
    rw [sm_ag_eq hag]
    exact ⟨fun _ _ h => h, rfl⟩
  · exact ⟨fun _ _ h => h.ag hag h1, sm_st_ag hag h2⟩
def sm_rcv (sh : sm_S) (rc : Option Nat) (As : List Value) : Prop := match rc with
  | none => True
  | some ci => ∃ (p : Nat) (t : List Value) (fs : List (Option (Option Nat))), As = .ref p :: t ∧ sh[p]? = some (.inl (ci, fs))
def sm_Cal (cl : List vw_C) (NW : List Cond) (cc : ByteArray) (own : String) (Ts : List Cond) (ins : Instr) (y : MethodName) (ws : List Cond) (na : Nat) (rc : Option Nat) : Prop := ∀ (X : sm_X) (n : Nat) (ret : Option FieldType) (rm : Room) (N S : Nat) (ini : Bool), X.1.2.2.2 = NW → sm_ok cl X cc n own Ts ret rm N S ini → ∀ (pc : Nat) (L : List (Option Value)) (r : List Value) (ad : Nat → Nat) (sh : sm_S) (μ : sm_M) (As : List Value) (Q' : Option Value → sm_S → sm_M → Prop) (rm' : Room), As.length = na → sm_rcv sh rc As → sm_C cl X.1 y ws rm' As ad sh μ Q' → rm'.frames + 1 ≤ rm.frames → 32 + rm'.locals ≤ rm.locals → sh.length + rm'.cells ≤ N → sm_sl sh + rm'.slots ≤ S → (r.map fun v => v.category).sum ≤ 8 → decode cc pc = .ok (ins, 3) →
  (∀ (v : Option Value) (ad' : Nat → Nat) (sh' : sm_S) (μ' : sm_M), sh'.length = sh.length + rm'.cells → sm_sl sh' = sm_sl sh + rm'.slots → sm_ag sh.length sh'.length ad' ad → Q' v sh' μ' → (rm'.cells = 0 ∨ (L.all (sm_no sh.length sh'.length) = true ∧ r.all (sm_nv sh.length sh'.length) = true)) ∧ sm_E cl X (pc + 3) L (v.toList ++ r) ad' sh' μ') → sm_E cl X pc L (As.reverse ++ r) ad sh μ
theorem sm_recv {cl : List vw_C} {D : va_G} {cA : Nat → ClassId} {ad : Nat → Nat} {sh : sm_S} {μ : sm_M} {H : Heap} {s : State} {tys : List (ClassId × FieldType)} {p ci N : Nat} {C : String} {T : u_T} {fs : List (Option (Option Nat))} (hK : va_K D cl tys s) (hP : va_P D cl (sm_w ad cA sh μ) H) (hs : sh[p]? = some (.inl (ci, fs))) (hc : cl[ci]? = some (C, T, N)) : ∃ cellB : Cell, H[ad p]? = some cellB ∧ cellB.vm.isStatics = false ∧ s.vm.findClass C = some cellB.cls := by
  obtain ⟨r, h1, cell, q1, q2, q3, -⟩ := hP p (ad p, .inr (ci, fs.mapIdx (sm_f ad (μ.1 p)))) (by rw [sm_w_at, hs]; rfl)
  refine ⟨cell, q1, by rw [q3]; rfl, ?_⟩
  rw [q2]
  exact (hK.1 ci _ hc).2.1
theorem sm_cal_S {cl : List vw_C} {NW : List Cond} {cc : ByteArray} {own : String} {Ts : List Cond} {y : MethodName} {bytes : ByteArray} {maxL idx n' : Nat} {ret' : Option FieldType} {W' : List Cond} (hG : GoodIn Ts (va_wsS own idx y (Cond.code y bytes maxL ret' :: W'))) (hd : y.cls ≠ "java/lang/invoke/MethodHandle" ∧ y.cls ≠ "java/lang/invoke/VarHandle" ∧ (parseMethodDescriptor y.desc).map (fun d => d.parameters.length) = some n') (hm : maxL ≤ 13) : sm_Cal cl NW cc own Ts (.invokestatic idx) y (Cond.code y bytes maxL ret' :: W') n' none := by
  intro X n ret rm N S ini hNW hX pc L r ad sh μ As Q' rm' hna hrc hC hfr hlo hN hS hw d kk
  obtain ⟨⟨l, D, cA, NW'⟩, pr, e, R, s, m, args, below, meth, c, nL, A, H0, Q, n0, s0⟩ := X
  obtain ⟨hx, hb, hml, hn, hown, hts, hK, hlk, hrt, hR, hA, hc0, hs0, hin, hnw⟩ := hX
  subst hNW hR
  intro ls H locs cells slots g1 g2 h1 h2 h3 h4
  refine sm_call_core (Q' := Q') (sz := H.size) (va_runS (As := As.map (sm_v ad)) (rest := r.map (sm_v ad)) ⟨hx, hb, hml, hown, hts⟩ (hC H.size) (va_cwS _ hts hG rfl rfl rfl hd ⟨hfr, by omega⟩) (⟨fun a U g mk q => by obtain ⟨q0, q1, qP, qK, qD, qN⟩ := q; exact ⟨q0, q1, qP, va_K.moved (u := U) (U := U.calling g mk a) (Vm.Alike.refl U.vm) qK, qD, qN.same rfl⟩, fun U hU hW => ⟨rfl, by rw [hU], by rw [hU]; exact h2, va_K.moved hW.alike hK, h3.weaken (fun _ _ _ _ => trivial), hnw.warm hW⟩⟩) rfl (by simpa using hna) h1.1 (by simp [F0, List.map_append, List.map_reverse]) (lv_room (by simpa [sm_v_cat, Function.comp_def] using hw)) d ⟨by omega, by omega⟩) h4 (sm_A_in h3 h4 hA) (fun v ad' sh' μ' H1 locs1 e1 e2 hag q p1 p2 p3 => ?_)
  obtain ⟨hst, kE⟩ := kk v ad' sh' μ' e1 e2 hag q
  obtain ⟨hh, hr⟩ := sm_stab e1 hag hst
  have k2 := kE ls H1 locs1 (cells + rm'.cells) (slots + rm'.slots) (by omega) (by omega) (hh _ _ h1) p1 p2 p3
  rw [List.map_append, hr] at k2
  have e9 : (v.map (sm_v ad')).toList = v.toList.map (sm_v ad') := by cases v <;> rfl
  rw [e9]
  exact k2
theorem sm_cal_SN {cl : List vw_C} {NW : List Cond} {cc : ByteArray} {own : String} {Ts : List Cond} {y : MethodName} {bytes : ByteArray} {maxL idx n' : Nat} {ret' : Option FieldType} {W' : List Cond} {host : String} (hG : GoodIn Ts (Cond.code y bytes maxL ret' :: W')) (hst : Cond.static y ∈ Ts) (hi : Cond.initialized y.cls ∈ Ts) (hl : Cond.methodLinkNest own idx y host ∈ NW) (hd : y.cls ≠ "java/lang/invoke/MethodHandle" ∧ y.cls ≠ "java/lang/invoke/VarHandle" ∧ (parseMethodDescriptor y.desc).map (fun d => d.parameters.length) = some n') (hm : maxL ≤ 13) : sm_Cal cl NW cc own Ts (.invokestatic idx) y (Cond.code y bytes maxL ret' :: W') n' none := by
  intro X n ret rm N S ini hNW hX pc L r ad sh μ As Q' rm' hna hrc hC hfr hlo hN hS hw d kk
  obtain ⟨⟨l, D, cA, NW'⟩, pr, e, R, s, m, args, below, meth, c, nL, A, H0, Q, n0, s0⟩ := X
  obtain ⟨hx, hb, hml, hn, hown, hts, hK, hlk, hrt, hR, hA, hc0, hs0, hin, hnw⟩ := hX
  subst hNW hR
  intro ls H locs cells slots g1 g2 h1 h2 h3 h4
  refine sm_call_core (Q' := Q') (sz := H.size) (va_runSN (As := As.map (sm_v ad)) (rest := r.map (sm_v ad)) ⟨hx, hb, hml, hown, hts⟩ (hC H.size) (⟨va_cnB _ hts hG rfl rfl rfl (hnw _ hl).2 (hts _ hi) hd ⟨hfr, by omega⟩, hts _ hst, trivial⟩) (⟨fun a U g mk q => by obtain ⟨q0, q1, qP, qK, qD, qN⟩ := q; exact ⟨q0, q1, qP, va_K.moved (u := U) (U := U.calling g mk a) (Vm.Alike.refl U.vm) qK, qD, qN.same rfl⟩, fun U hU hW => ⟨rfl, by rw [hU], by rw [hU]; exact h2, va_K.moved hW.alike hK, h3.weaken (fun _ _ _ _ => trivial), hnw.warm hW⟩⟩) rfl (by simpa using hna) h1.1 (by simp [F0, List.map_append, List.map_reverse]) (lv_room (by simpa [sm_v_cat, Function.comp_def] using hw)) d ⟨by omega, by omega⟩) h4 (sm_A_in h3 h4 hA) (fun v ad' sh' μ' H1 locs1 e1 e2 hag q p1 p2 p3 => ?_)
  obtain ⟨hst, kE⟩ := kk v ad' sh' μ' e1 e2 hag q
  obtain ⟨hh, hr⟩ := sm_stab e1 hag hst
  have k2 := kE ls H1 locs1 (cells + rm'.cells) (slots + rm'.slots) (by omega) (by omega) (hh _ _ h1) p1 p2 p3
  rw [List.map_append, hr] at k2
  have e9 : (v.map (sm_v ad')).toList = v.toList.map (sm_v ad') := by cases v <;> rfl
  rw [e9]
  exact k2
theorem sm_cal_V {cl : List vw_C} {NW : List Cond} {cc : ByteArray} {own : String} {Ts : List Cond} {y : MethodName} {bytes : ByteArray} {maxL idx n' : Nat} {ret' : Option FieldType} {W' : List Cond} {ci N0 : Nat} {T0 : u_T} (hcl : cl[ci]? = some (y.cls, T0, N0)) (hG : GoodIn Ts (wsV own idx y.cls y (Cond.code y bytes maxL ret' :: W'))) (hd : y.cls ≠ "java/lang/invoke/MethodHandle" ∧ y.cls ≠ "java/lang/invoke/VarHandle" ∧ (parseMethodDescriptor y.desc).map (fun d => d.parameters.length) = some n') (hm : maxL ≤ 13) : sm_Cal cl NW cc own Ts (.invokevirtual idx) y (Cond.code y bytes maxL ret' :: W') (n' + 1) (some ci) := by
  intro X n ret rm N S ini hNW hX pc L r ad sh μ As Q' rm' hna hrc hC hfr hlo hN hS hw d kk
  obtain ⟨⟨l, D, cA, NW'⟩, pr, e, R, s, m, args, below, meth, c, nL, A, H0, Q, n0, s0⟩ := X
  obtain ⟨hx, hb, hml, hn, hown, hts, hK, hlk, hrt, hR, hA, hc0, hs0, hin, hnw⟩ := hX
  subst hNW hR
  obtain ⟨p0, As, fs0, rfl, hs0'⟩ := hrc
  have hna : As.length = n' := by simpa using hna
  intro ls H locs cells slots g1 g2 h1 h2 h3 h4
  refine sm_call_core (Q' := Q') (sz := H.size) (va_runV (As := As.map (sm_v ad)) (rest := r.map (sm_v ad)) ⟨hx, hb, hml, hown, hts⟩ (hC H.size) (cwV _ hts hG rfl rfl rfl ⟨rfl, hd⟩ ⟨hfr, by omega⟩) ((show PreV s H _ (ad p0) _ (As.map (sm_v ad)) from ⟨fun a U g mk q => by obtain ⟨q0, q1, qP, qK, qD, qN⟩ := q; exact ⟨q0, q1, qP, va_K.moved (u := U) (U := U.calling g mk a) (Vm.Alike.refl U.vm) qK, qD, qN.same rfl⟩, sm_recv hK h2 hs0' hcl, fun U hU hW => ⟨rfl, by rw [hU], by rw [hU]; exact h2, va_K.moved hW.alike hK, h3.weaken (fun _ _ _ _ => trivial), hnw.warm hW⟩⟩)) rfl (by simpa using hna) h1.1 (by simp [F0, sm_v, List.map_append, List.map_reverse]) (lv_room (by simpa [sm_v_cat, Function.comp_def] using hw)) d ⟨by omega, by omega⟩) h4 (sm_A_in h3 h4 hA) (fun v ad' sh' μ' H1 locs1 e1 e2 hag q p1 p2 p3 => ?_)
  obtain ⟨hst, kE⟩ := kk v ad' sh' μ' e1 e2 hag q
  obtain ⟨hh, hr⟩ := sm_stab e1 hag hst
  have k2 := kE ls H1 locs1 (cells + rm'.cells) (slots + rm'.slots) (by omega) (by omega) (hh _ _ h1) p1 p2 p3
  rw [List.map_append, hr] at k2
  have e9 : (v.map (sm_v ad')).toList = v.toList.map (sm_v ad') := by cases v <;> rfl
  rw [e9]
  exact k2
theorem sm_cal_VN {cl : List vw_C} {NW : List Cond} {cc : ByteArray} {own : String} {Ts : List Cond} {y : MethodName} {bytes : ByteArray} {maxL idx n' : Nat} {ret' : Option FieldType} {W' : List Cond} {host : String} {ci N0 : Nat} {T0 : u_T} (hcl : cl[ci]? = some (y.cls, T0, N0)) (hG : GoodIn Ts (Cond.code y bytes maxL ret' :: W')) (him : Cond.instanceMethod y ∈ Ts) (hse : Cond.selects y.cls y y ∈ Ts) (hi : Cond.initialized y.cls ∈ Ts) (hl : Cond.methodLinkNest own idx y host ∈ NW) (hd : y.cls ≠ "java/lang/invoke/MethodHandle" ∧ y.cls ≠ "java/lang/invoke/VarHandle" ∧ (parseMethodDescriptor y.desc).map (fun d => d.parameters.length) = some n') (hm : maxL ≤ 13) : sm_Cal cl NW cc own Ts (.invokevirtual idx) y (Cond.code y bytes maxL ret' :: W') (n' + 1) (some ci) := by
  intro X n ret rm N S ini hNW hX pc L r ad sh μ As Q' rm' hna hrc hC hfr hlo hN hS hw d kk
  obtain ⟨⟨l, D, cA, NW'⟩, pr, e, R, s, m, args, below, meth, c, nL, A, H0, Q, n0, s0⟩ := X
  obtain ⟨hx, hb, hml, hn, hown, hts, hK, hlk, hrt, hR, hA, hc0, hs0, hin, hnw⟩ := hX
  subst hNW hR
  obtain ⟨p0, As, fs0, rfl, hs0'⟩ := hrc
  have hna : As.length = n' := by simpa using hna
  intro ls H locs cells slots g1 g2 h1 h2 h3 h4
  refine sm_call_core (Q' := Q') (sz := H.size) (va_runVN (As := As.map (sm_v ad)) (rest := r.map (sm_v ad)) ⟨hx, hb, hml, hown, hts⟩ (hC H.size) (⟨va_cnB _ hts hG rfl rfl rfl (hnw _ hl).2 (hts _ hi) hd ⟨hfr, by omega⟩, hts _ him, hts _ hse⟩) ((show PreV s H _ (ad p0) _ (As.map (sm_v ad)) from ⟨fun a U g mk q => by obtain ⟨q0, q1, qP, qK, qD, qN⟩ := q; exact ⟨q0, q1, qP, va_K.moved (u := U) (U := U.calling g mk a) (Vm.Alike.refl U.vm) qK, qD, qN.same rfl⟩, sm_recv hK h2 hs0' hcl, fun U hU hW => ⟨rfl, by rw [hU], by rw [hU]; exact h2, va_K.moved hW.alike hK, h3.weaken (fun _ _ _ _ => trivial), hnw.warm hW⟩⟩)) rfl (by simpa using hna) h1.1 (by simp [F0, sm_v, List.map_append, List.map_reverse]) (lv_room (by simpa [sm_v_cat, Function.comp_def] using hw)) d ⟨by omega, by omega⟩) h4 (sm_A_in h3 h4 hA) (fun v ad' sh' μ' H1 locs1 e1 e2 hag q p1 p2 p3 => ?_)
  obtain ⟨hst, kE⟩ := kk v ad' sh' μ' e1 e2 hag q
  obtain ⟨hh, hr⟩ := sm_stab e1 hag hst
  have k2 := kE ls H1 locs1 (cells + rm'.cells) (slots + rm'.slots) (by omega) (by omega) (hh _ _ h1) p1 p2 p3
  rw [List.map_append, hr] at k2
  have e9 : (v.map (sm_v ad')).toList = v.toList.map (sm_v ad') := by cases v <;> rfl
  rw [e9]
  exact k2
theorem sm_cal_I {cl : List vw_C} {NW : List Cond} {cc : ByteArray} {own : String} {Ts : List Cond} {y : MethodName} {bytes : ByteArray} {maxL idx n' : Nat} {ret' : Option FieldType} {W' : List Cond} {ci : Nat} (hG : GoodIn Ts (Cond.code y bytes maxL none :: W')) (hi : Cond.initialized y.cls ∈ Ts) (hl : Cond.methodLink own idx y ∈ Ts) (him : Cond.instanceMethod y ∈ Ts) (hy1 : y.name = "<init>") (hd : y.cls ≠ "java/lang/invoke/MethodHandle" ∧ y.cls ≠ "java/lang/invoke/VarHandle" ∧ (parseMethodDescriptor y.desc).map (fun d => d.parameters.length) = some n') (hm : maxL ≤ 13) : sm_Cal cl NW cc own Ts (.invokespecial idx) y (Cond.code y bytes maxL none :: W') (n' + 1) (some ci) := by
  intro X n ret rm N S ini hNW hX pc L r ad sh μ As Q' rm' hna hrc hC hfr hlo hN hS hw d kk
  obtain ⟨⟨l, D, cA, NW'⟩, pr, e, R, s, m, args, below, meth, c, nL, A, H0, Q, n0, s0⟩ := X
  obtain ⟨hx, hb, hml, hn, hown, hts, hK, hlk, hrt, hR, hA, hc0, hs0, hin, hnw⟩ := hX
  subst hNW hR
  obtain ⟨p0, As, fs0, rfl, hs0'⟩ := hrc
  have hna : As.length = n' := by simpa using hna
  intro ls H locs cells slots g1 g2 h1 h2 h3 h4
  refine sm_call_core (Q' := Q') (sz := H.size) (va_runI (As := As.map (sm_v ad)) (rest := r.map (sm_v ad)) ⟨hx, hb, hml, hown, hts⟩ (hC H.size) (cwI _ hts hG rfl rfl rfl (hts _ hi) (hts _ hl) (hts _ him) hy1 hd ⟨hfr, by omega⟩) (⟨fun a U g mk q => by obtain ⟨q0, q1, qP, qK, qD, qN⟩ := q; exact ⟨q0, q1, qP, va_K.moved (u := U) (U := U.calling g mk a) (Vm.Alike.refl U.vm) qK, qD, qN.same rfl⟩, fun U hU hW => ⟨rfl, by rw [hU], by rw [hU]; exact h2, va_K.moved hW.alike hK, h3.weaken (fun _ _ _ _ => trivial), hnw.warm hW⟩⟩) rfl (by simpa using hna) h1.1 (by simp [F0, sm_v, List.map_append, List.map_reverse]) (lv_room (by simpa [sm_v_cat, Function.comp_def] using hw)) d ⟨by omega, by omega⟩) h4 (sm_A_in h3 h4 hA) (fun v ad' sh' μ' H1 locs1 e1 e2 hag q p1 p2 p3 => ?_)
  obtain ⟨hst, kE⟩ := kk v ad' sh' μ' e1 e2 hag q
  obtain ⟨hh, hr⟩ := sm_stab e1 hag hst
  have k2 := kE ls H1 locs1 (cells + rm'.cells) (slots + rm'.slots) (by omega) (by omega) (hh _ _ h1) p1 p2 p3
  rw [List.map_append, hr] at k2
  have e9 : (v.map (sm_v ad')).toList = v.toList.map (sm_v ad') := by cases v <;> rfl
  rw [e9]
  exact k2
theorem sm_cal_IN {cl : List vw_C} {NW : List Cond} {cc : ByteArray} {own : String} {Ts : List Cond} {y : MethodName} {bytes : ByteArray} {maxL idx n' : Nat} {ret' : Option FieldType} {W' : List Cond} {host : String} {ci : Nat} (hG : GoodIn Ts (Cond.code y bytes maxL none :: W')) (hi : Cond.initialized y.cls ∈ Ts) (hl : Cond.methodLinkNest own idx y host ∈ NW) (him : Cond.instanceMethod y ∈ Ts) (hy1 : y.name = "<init>") (hd : y.cls ≠ "java/lang/invoke/MethodHandle" ∧ y.cls ≠ "java/lang/invoke/VarHandle" ∧ (parseMethodDescriptor y.desc).map (fun d => d.parameters.length) = some n') (hm : maxL ≤ 13) : sm_Cal cl NW cc own Ts (.invokespecial idx) y (Cond.code y bytes maxL none :: W') (n' + 1) (some ci) := by
  intro X n ret rm N S ini hNW hX pc L r ad sh μ As Q' rm' hna hrc hC hfr hlo hN hS hw d kk
  obtain ⟨⟨l, D, cA, NW'⟩, pr, e, R, s, m, args, below, meth, c, nL, A, H0, Q, n0, s0⟩ := X
  obtain ⟨hx, hb, hml, hn, hown, hts, hK, hlk, hrt, hR, hA, hc0, hs0, hin, hnw⟩ := hX
  subst hNW hR
  obtain ⟨p0, As, fs0, rfl, hs0'⟩ := hrc
  have hna : As.length = n' := by simpa using hna
  intro ls H locs cells slots g1 g2 h1 h2 h3 h4
  refine sm_call_core (Q' := Q') (sz := H.size) (va_runIN (As := As.map (sm_v ad)) (rest := r.map (sm_v ad)) ⟨hx, hb, hml, hown, hts⟩ (hC H.size) (⟨va_cnB _ hts hG rfl rfl rfl (hnw _ hl).2 (hts _ hi) hd ⟨hfr, by omega⟩, hy1, hts _ him⟩) (⟨fun a U g mk q => by obtain ⟨q0, q1, qP, qK, qD, qN⟩ := q; exact ⟨q0, q1, qP, va_K.moved (u := U) (U := U.calling g mk a) (Vm.Alike.refl U.vm) qK, qD, qN.same rfl⟩, fun U hU hW => ⟨rfl, by rw [hU], by rw [hU]; exact h2, va_K.moved hW.alike hK, h3.weaken (fun _ _ _ _ => trivial), hnw.warm hW⟩⟩) rfl (by simpa using hna) h1.1 (by simp [F0, sm_v, List.map_append, List.map_reverse]) (lv_room (by simpa [sm_v_cat, Function.comp_def] using hw)) d ⟨by omega, by omega⟩) h4 (sm_A_in h3 h4 hA) (fun v ad' sh' μ' H1 locs1 e1 e2 hag q p1 p2 p3 => ?_)
  obtain ⟨hst, kE⟩ := kk v ad' sh' μ' e1 e2 hag q
  obtain ⟨hh, hr⟩ := sm_stab e1 hag hst
  have k2 := kE ls H1 locs1 (cells + rm'.cells) (slots + rm'.slots) (by omega) (by omega) (hh _ _ h1) p1 p2 p3
  rw [List.map_append, hr] at k2
  have e9 : (v.map (sm_v ad')).toList = v.toList.map (sm_v ad') := by cases v <;> rfl
  rw [e9]
  exact k2
theorem sm_objInit {cl : List vw_C} {X : sm_X} {cc : ByteArray} {n : Nat} {own : String} {Ts : List Cond} {ret : Option FieldType} {rm : Room} {N S : Nat} {ini : Bool} (hX : sm_ok cl X cc n own Ts ret rm N S ini) {pc : Nat} {L : List (Option Value)} {r : List Value} {ad : Nat → Nat} {sh : sm_S} {μ : sm_M} {idx p : Nat} (hl : Cond.methodLink own idx Lib.objectInit ∈ Ts) (hi : Cond.instanceMethod Lib.objectInit ∈ Ts) (hc : Cond.code Lib.objectInit ⟨#[0xb1]⟩ 1 none ∈ Ts) (hf : 1 ≤ rm.frames) (hlo : 20 ≤ rm.locals) (hw : (r.map fun v => v.category).sum ≤ 8) (d : decode cc pc = .ok (.invokespecial idx, 3)) (k : sm_E cl X (pc + 3) L r ad sh μ) : sm_E cl X pc L (.ref p :: r) ad sh μ := by
  obtain ⟨⟨l, D, cA, NW⟩, pr, e, R, s, m, args, below, meth, c, nL, A, H0, Q, n0, s0⟩ := X
  obtain ⟨hx, hb, hml, hn, hown, hts, hK, hlk, hrt, hR, hA, hc0, hs0, hin, hnw⟩ := hX
  subst hR
  intro ls H locs cells slots g1 g2 h1 h2 h3 h4
  have hw2 := lv_room (m := m) (pc := pc) (ls := ls) (rest := (.ref (ad p) :: r.map (sm_v ad))) (st := r.map (sm_v ad)) (by simpa [sm_v_cat, Function.comp_def] using hw)
  exact W.objInit hx hb hown (hts _ hl) (hts _ hi) (hts _ hc) (g := F0 m pc ls (.ref (ad p) :: r.map (sm_v ad))) rfl (h1.1.trans hml.symm) rfl d hf (by omega) (k ls H locs cells slots g1 g2 h1 h2 h3 h4)
theorem sm_new_ag {sh : sm_S} {ad : Nat → Nat} (a : Nat) : sm_ag sh.length (sh.length + 1) (fun q => if q = sh.length then a else ad q) ad := by
  intro p hp
  have h : p ≠ sh.length := by omega
  simp [h]
theorem sm_new {cl : List vw_C} {X : sm_X} {cc : ByteArray} {n : Nat} {own : String} {Ts : List Cond} {ret : Option FieldType} {rm : Room} {N S : Nat} {ini : Bool} (hX : sm_ok cl X cc n own Ts ret rm N S ini) {pc : Nat} {L : List (Option Value)} {r : List Value} {ad : Nat → Nat} {sh : sm_S} {μ : sm_M} {idx ci N' : Nat} {C : String} {T : u_T} {fs : List (Option (Option Nat))} (t : Nat → FieldType) (e2 : cl[ci]? = some (C, T, N')) (e5 : ∀ w ∈ u_ws C T N', w ∈ Ts) (e7 : ∀ k, k < N' → parseFieldDescriptor (T k).2.2.1 = some (t k)) (hl : Cond.classLink own idx C ∈ Ts) (hi : Cond.instantiable C N' ∈ Ts) (hz : Cond.initialized C ∈ Ts) (hfl : fs.length = N') (hfs : ∀ j, j < N' → ∀ ad : Nat → Nat, defaultValue (t j) = vp_V (fs.mapIdx (sm_f ad (fun _ => 0))) j) (hno : ∀ ad ad' : Nat → Nat, fs.mapIdx (sm_f ad (fun _ => 0)) = fs.mapIdx (sm_f ad' (fun _ => 0))) (hnL : L.all (sm_no sh.length (sh.length + 1)) = true) (hnr : r.all (sm_nv sh.length (sh.length + 1)) = true) (hns : sh.all (sm_ns sh.length (sh.length + 1)) = true) (hN : sh.length + 1 ≤ N) (hS : sm_sl sh + N' ≤ S) (d : decode cc pc = .ok (.new idx, 3)) (k : ∀ ad' : Nat → Nat, sm_ag sh.length (sh.length + 1) ad' ad → sm_E cl X (pc + 3) L (.ref sh.length :: r) ad' (sh ++ [.inl (ci, fs)]) (sm_z μ sh.length)) : sm_E cl X pc L r ad sh μ := by
  obtain ⟨⟨l, D, cA, NW⟩, pr, e, R, s, m, args, below, meth, c, nL, A, H0, Q, n0, s0⟩ := X
  obtain ⟨hx, hb, hml, hn, hown, hts, hK, hlk, hrt, hR, hA, hc0, hs0, hin, hnw⟩ := hX
  subst hR hfl
  intro ls H locs cells slots g1 g2 h1 h2 h3 h4
  refine va_new (ci := ci) (fs := fs.mapIdx (sm_f (fun q' => ad q') (fun _ => 0))) (C := C) (T := T) (N := fs.length) hx hb hts e5 t e7 hown (hts _ hl) (hts _ hi) (hts _ hz) hK h2 h3 h4 hA e2 (fun j hj => hfs j hj _) (by omega) (by omega) d (fun q H1 p1 p2 p3 => ?_)
  have ha : (fun q' => if q' = sh.length then q else ad q') sh.length = q := by simp
  have hag := sm_new_ag (sh := sh) (ad := ad) q
  have hw := sm_w_new (cA := cA) (μ := μ) (x := .inl (ci, fs)) ha hag hns
  have he : (sm_e (fun q' => if q' = sh.length then q else ad q') cA (sm_z μ sh.length) sh.length (.inl (ci, fs))).2 = .inr (ci, fs.mapIdx (sm_f (fun q' => ad q') (fun _ => 0))) := by
    have hz0 : (sm_z μ sh.length).1 sh.length = fun _ => 0 := by simp [sm_z]
    show Sum.inr (ci, fs.mapIdx (sm_f _ ((sm_z μ sh.length).1 sh.length))) = _
    rw [hz0, hno _ (fun q' => ad q')]
  have k2 := k (fun q' => if q' = sh.length then q else ad q') hag ls H1 locs (cells + 1) (slots + fs.length) (by simp; omega) (by rw [sm_sl_app]; simp [sm_sl, sm_sz]; simp [sm_sl] at g2; omega) (h1.ag hag hnL) (by rw [hw, he]; exact p1) (by rw [hw, he]; exact p2) p3
  rw [List.map_cons, sm_st_ag hag hnr] at k2
  have e8 : sm_v (fun q' => if q' = sh.length then q else ad q') (.ref sh.length) = .ref q := by simp [sm_v]
  rw [e8] at k2
  exact k2
theorem sm_newa0 {cl : List vw_C} {X : sm_X} {cc : ByteArray} {n : Nat} {own : String} {Ts : List Cond} {ret : Option FieldType} {rm : Room} {N S : Nat} {ini : Bool} (hX : sm_ok cl X cc n own Ts ret rm N S ini) {pc : Nat} {L : List (Option Value)} {r : List Value} {ad : Nat → Nat} {sh : sm_S} {μ : sm_M} {n0' : Int32} {len : Nat} (harr : Cond.arrayClass .int ∈ Ts) (hn0 : ¬ n0' < 0) (hlen : n0'.toNatClampNeg = len) (hbig : len ≤ 100000) (hnL : L.all (sm_no sh.length (sh.length + 1)) = true) (hnr : r.all (sm_nv sh.length (sh.length + 1)) = true) (hns : sh.all (sm_ns sh.length (sh.length + 1)) = true) (hN : sh.length + 1 ≤ N) (hS : sm_sl sh + len ≤ S) (d : decode cc pc = .ok (.newarray .int, 2)) (k : ∀ ad' : Nat → Nat, sm_ag sh.length (sh.length + 1) ad' ad → sm_E cl X (pc + 2) L (.ref sh.length :: r) ad' (sh ++ [.inr (0, len)]) (sm_z μ sh.length)) : sm_E cl X pc L (.int n0' :: r) ad sh μ := by
  obtain ⟨⟨l, D, cA, NW⟩, pr, e, R, s, m, args, below, meth, c, nL, A, H0, Q, n0, s0⟩ := X
  obtain ⟨hx, hb, hml, hn, hown, hts, hK, hlk, hrt, hR, hA, hc0, hs0, hin, hnw⟩ := hX
  subst hR
  intro ls H locs cells slots g1 g2 h1 h2 h3 h4
  refine va_newa (atype := .int) (a0 := (len, .inl (fun _ => 0))) (N' := len) (ty := .int) hx hb (hts _ harr) rfl hK h2 h3 h4 hA (fun cA => rfl) hn0 hlen (by simp [componentBytes]; omega) (by omega) (by omega) d (fun q cA' H1 hK' p1 p2 p3 => ?_)
  have hcA : cA' = cA 0 := by
    have z1 := (hK'.2 3 _ rfl).2
    have z2 := (hK.2 0 _ rfl).2
    exact Option.some.inj (z1.symm.trans z2)
  subst hcA
  have ha : (fun q' => if q' = sh.length then q else ad q') sh.length = q := by simp
  have hag := sm_new_ag (sh := sh) (ad := ad) q
  have hw := sm_w_new (cA := cA) (μ := μ) (x := .inr (0, len)) ha hag hns
  have he : (sm_e (fun q' => if q' = sh.length then q else ad q') cA (sm_z μ sh.length) sh.length (.inr (0, len))).2 = .inl (cA 0, len, .inl (fun _ => 0)) := by
    simp [sm_e, sm_z]
  have k2 := k (fun q' => if q' = sh.length then q else ad q') hag ls H1 locs (cells + 1) (slots + len) (by simp; omega) (by rw [sm_sl_app]; simp [sm_sl, sm_sz]; simp [sm_sl] at g2; omega) (h1.ag hag hnL) (by rw [hw, he]; exact p1) (by rw [hw, he]; exact p2) p3
  rw [List.map_cons, sm_st_ag hag hnr] at k2
  have e8 : sm_v (fun q' => if q' = sh.length then q else ad q') (.ref sh.length) = .ref q := by simp [sm_v]
  rw [e8] at k2
  exact k2
theorem sm_newa1 {cl : List vw_C} {X : sm_X} {cc : ByteArray} {n : Nat} {own : String} {Ts : List Cond} {ret : Option FieldType} {rm : Room} {N S : Nat} {ini : Bool} (hX : sm_ok cl X cc n own Ts ret rm N S ini) {pc : Nat} {L : List (Option Value)} {r : List Value} {ad : Nat → Nat} {sh : sm_S} {μ : sm_M} {n0' : Int32} {len : Nat} (harr : Cond.arrayClass .boolean ∈ Ts) (hn0 : ¬ n0' < 0) (hlen : n0'.toNatClampNeg = len) (hbig : len ≤ 100000) (hnL : L.all (sm_no sh.length (sh.length + 1)) = true) (hnr : r.all (sm_nv sh.length (sh.length + 1)) = true) (hns : sh.all (sm_ns sh.length (sh.length + 1)) = true) (hN : sh.length + 1 ≤ N) (hS : sm_sl sh + len ≤ S) (d : decode cc pc = .ok (.newarray .boolean, 2)) (k : ∀ ad' : Nat → Nat, sm_ag sh.length (sh.length + 1) ad' ad → sm_E cl X (pc + 2) L (.ref sh.length :: r) ad' (sh ++ [.inr (1, len)]) (sm_z μ sh.length)) : sm_E cl X pc L (.int n0' :: r) ad sh μ := by
  obtain ⟨⟨l, D, cA, NW⟩, pr, e, R, s, m, args, below, meth, c, nL, A, H0, Q, n0, s0⟩ := X
  obtain ⟨hx, hb, hml, hn, hown, hts, hK, hlk, hrt, hR, hA, hc0, hs0, hin, hnw⟩ := hX
  subst hR
  intro ls H locs cells slots g1 g2 h1 h2 h3 h4
  refine va_newa (atype := .boolean) (a0 := (len, .inl (fun _ => 0))) (N' := len) (ty := .boolean) hx hb (hts _ harr) rfl hK h2 h3 h4 hA (fun cA => rfl) hn0 hlen (by simp [componentBytes]; omega) (by omega) (by omega) d (fun q cA' H1 hK' p1 p2 p3 => ?_)
  have hcA : cA' = cA 1 := by
    have z1 := (hK'.2 3 _ rfl).2
    have z2 := (hK.2 1 _ rfl).2
    exact Option.some.inj (z1.symm.trans z2)
  subst hcA
  have ha : (fun q' => if q' = sh.length then q else ad q') sh.length = q := by simp
  have hag := sm_new_ag (sh := sh) (ad := ad) q
  have hw := sm_w_new (cA := cA) (μ := μ) (x := .inr (1, len)) ha hag hns
  have he : (sm_e (fun q' => if q' = sh.length then q else ad q') cA (sm_z μ sh.length) sh.length (.inr (1, len))).2 = .inl (cA 1, len, .inl (fun _ => 0)) := by
    simp [sm_e, sm_z]
  have k2 := k (fun q' => if q' = sh.length then q else ad q') hag ls H1 locs (cells + 1) (slots + len) (by simp; omega) (by rw [sm_sl_app]; simp [sm_sl, sm_sz]; simp [sm_sl] at g2; omega) (h1.ag hag hnL) (by rw [hw, he]; exact p1) (by rw [hw, he]; exact p2) p3
  rw [List.map_cons, sm_st_ag hag hnr] at k2
  have e8 : sm_v (fun q' => if q' = sh.length then q else ad q') (.ref sh.length) = .ref q := by simp [sm_v]
  rw [e8] at k2
  exact k2
theorem sm_newa2 {cl : List vw_C} {X : sm_X} {cc : ByteArray} {n : Nat} {own : String} {Ts : List Cond} {ret : Option FieldType} {rm : Room} {N S : Nat} {ini : Bool} (hX : sm_ok cl X cc n own Ts ret rm N S ini) {pc : Nat} {L : List (Option Value)} {r : List Value} {ad : Nat → Nat} {sh : sm_S} {μ : sm_M} {n0' : Int32} {len : Nat} (harr : Cond.arrayClass .long ∈ Ts) (hn0 : ¬ n0' < 0) (hlen : n0'.toNatClampNeg = len) (hbig : len ≤ 100000) (hnL : L.all (sm_no sh.length (sh.length + 1)) = true) (hnr : r.all (sm_nv sh.length (sh.length + 1)) = true) (hns : sh.all (sm_ns sh.length (sh.length + 1)) = true) (hN : sh.length + 1 ≤ N) (hS : sm_sl sh + len ≤ S) (d : decode cc pc = .ok (.newarray .long, 2)) (k : ∀ ad' : Nat → Nat, sm_ag sh.length (sh.length + 1) ad' ad → sm_E cl X (pc + 2) L (.ref sh.length :: r) ad' (sh ++ [.inr (2, len)]) (sm_z μ sh.length)) : sm_E cl X pc L (.int n0' :: r) ad sh μ := by
  obtain ⟨⟨l, D, cA, NW⟩, pr, e, R, s, m, args, below, meth, c, nL, A, H0, Q, n0, s0⟩ := X
  obtain ⟨hx, hb, hml, hn, hown, hts, hK, hlk, hrt, hR, hA, hc0, hs0, hin, hnw⟩ := hX
  subst hR
  intro ls H locs cells slots g1 g2 h1 h2 h3 h4
  refine va_newa (atype := .long) (a0 := (len, .inr (.inl (fun _ => 0)))) (N' := len) (ty := .long) hx hb (hts _ harr) rfl hK h2 h3 h4 hA (fun cA => rfl) hn0 hlen (by simp [componentBytes]; omega) (by omega) (by omega) d (fun q cA' H1 hK' p1 p2 p3 => ?_)
  have hcA : cA' = cA 2 := by
    have z1 := (hK'.2 3 _ rfl).2
    have z2 := (hK.2 2 _ rfl).2
    exact Option.some.inj (z1.symm.trans z2)
  subst hcA
  have ha : (fun q' => if q' = sh.length then q else ad q') sh.length = q := by simp
  have hag := sm_new_ag (sh := sh) (ad := ad) q
  have hw := sm_w_new (cA := cA) (μ := μ) (x := .inr (2, len)) ha hag hns
  have he : (sm_e (fun q' => if q' = sh.length then q else ad q') cA (sm_z μ sh.length) sh.length (.inr (2, len))).2 = .inl (cA 2, len, .inr (.inl (fun _ => 0))) := by
    simp [sm_e, sm_z]
  have k2 := k (fun q' => if q' = sh.length then q else ad q') hag ls H1 locs (cells + 1) (slots + len) (by simp; omega) (by rw [sm_sl_app]; simp [sm_sl, sm_sz]; simp [sm_sl] at g2; omega) (h1.ag hag hnL) (by rw [hw, he]; exact p1) (by rw [hw, he]; exact p2) p3
  rw [List.map_cons, sm_st_ag hag hnr] at k2
  have e8 : sm_v (fun q' => if q' = sh.length then q else ad q') (.ref sh.length) = .ref q := by simp [sm_v]
  rw [e8] at k2
  exact k2
end
section
/-! a memory of which a part is known -/
abbrev dp_P : Type := (Nat → Nat → Option Int32) × (Nat → Nat → Option Int64)
def dp_le (P : dp_P) (μ : sm_M) : Prop := (∀ p i v, P.1 p i = some v → μ.1 p i = v) ∧ ∀ p i v, P.2 p i = some v → μ.2 p i = v
def dp_ui (P : dp_P) (p i : Nat) (v : Int32) : dp_P := (fun q j => bif Nat.beq q p then (bif Nat.beq j i then some v else P.1 q j) else P.1 q j, P.2)
def dp_ul (P : dp_P) (p i : Nat) (v : Int64) : dp_P := (P.1, fun q j => bif Nat.beq q p then (bif Nat.beq j i then some v else P.2 q j) else P.2 q j)
def dp_z (P : dp_P) (p : Nat) : dp_P := (fun q j => bif Nat.beq q p then some 0 else P.1 q j, fun q j => bif Nat.beq q p then some 0 else P.2 q j)
theorem dp_beq {a b : Nat} (h : Nat.beq a b = true) : a = b := Nat.eq_of_beq_eq_true h
theorem dp_bne {a b : Nat} (h : Nat.beq a b = false) : a ≠ b := Nat.ne_of_beq_eq_false h
theorem dp_le.ui {P : dp_P} {μ : sm_M} (h : dp_le P μ) (p i : Nat) (v : Int32) : dp_le (dp_ui P p i v) (sm_ui μ p i v) := by
  refine ⟨fun q j u hu0 => ?_, h.2⟩
  have hu : (bif Nat.beq q p then (bif Nat.beq j i then some v else P.1 q j) else P.1 q j) = some u := hu0
  clear hu0
  cases h1 : Nat.beq q p with
  | false =>
    rw [h1] at hu
    have := dp_bne h1
    simp only [sm_ui, this, if_false]
    exact h.1 q j u hu
  | true =>
    rw [h1] at hu
    have e1 := dp_beq h1
    subst e1
    cases h2 : Nat.beq j i with
    | false =>
      rw [h2] at hu
      have := dp_bne h2
      simp only [sm_ui, upd, this, if_true, if_false]
      exact h.1 q j u hu
    | true =>
      rw [h2] at hu
      have e2 := dp_beq h2
      subst e2
      simp only [sm_ui, upd, if_true]
      exact Option.some.inj hu
theorem dp_le.ul {P : dp_P} {μ : sm_M} (h : dp_le P μ) (p i : Nat) (v : Int64) : dp_le (dp_ul P p i v) (sm_ul μ p i v) := by
  refine ⟨h.1, fun q j u hu0 => ?_⟩
  have hu : (bif Nat.beq q p then (bif Nat.beq j i then some v else P.2 q j) else P.2 q j) = some u := hu0
  clear hu0
  cases h1 : Nat.beq q p with
  | false =>
    rw [h1] at hu
    have := dp_bne h1
    simp only [sm_ul, this, if_false]
    exact h.2 q j u hu
  | true =>
    rw [h1] at hu
    have e1 := dp_beq h1
    subst e1
    cases h2 : Nat.beq j i with
    | false =>
      rw [h2] at hu
      have := dp_bne h2
      simp only [sm_ul, vp_updL, this, if_true, if_false]
      exact h.2 q j u hu
    | true =>
      rw [h2] at hu
      have e2 := dp_beq h2
      subst e2
      simp only [sm_ul, vp_updL, if_true]
      exact Option.some.inj hu
theorem dp_le.z {P : dp_P} {μ : sm_M} (h : dp_le P μ) (p : Nat) : dp_le (dp_z P p) (sm_z μ p) := by
  refine ⟨fun q j u hu0 => ?_, fun q j u hu0 => ?_⟩
  · have hu : (bif Nat.beq q p then some 0 else P.1 q j) = some u := hu0
    clear hu0
    cases h1 : Nat.beq q p with
    | false =>
      rw [h1] at hu
      have := dp_bne h1
      simp only [sm_z, this, if_false]
      exact h.1 q j u hu
    | true =>
      rw [h1] at hu
      have e1 := dp_beq h1
      subst e1
      simp only [sm_z, if_true]
      exact Option.some.inj hu
  · have hu : (bif Nat.beq q p then some 0 else P.2 q j) = some u := hu0
    clear hu0
    cases h1 : Nat.beq q p with
    | false =>
      rw [h1] at hu
      have := dp_bne h1
      simp only [sm_z, this, if_false]
      exact h.2 q j u hu
    | true =>
      rw [h1] at hu
      have e1 := dp_beq h1
      subst e1
      simp only [sm_z, if_true]
      exact Option.some.inj hu
/-! numbers are worked out at once -/
def dp_nf {α : Type} (n : Nat) (k : Nat → α) : α := match n with
  | 0 => k 0
  | m + 1 => k (m + 1)
theorem dp_nf_eq {α : Type} (n : Nat) (k : Nat → α) : dp_nf n k = k n := by cases n <;> rfl
def dp_fi {α : Type} (x : Int32) (k : Int32 → α) : α := dp_nf x.toUInt32.toBitVec.toNat (fun n => k ⟨⟨BitVec.ofNat 32 n⟩⟩)
theorem dp_fi_eq {α : Type} (x : Int32) (k : Int32 → α) : dp_fi x k = k x := by
  unfold dp_fi
  rw [dp_nf_eq, BitVec.ofNat_toNat, BitVec.setWidth_eq]
def dp_fl {α : Type} (x : Int64) (k : Int64 → α) : α := dp_nf x.toUInt64.toBitVec.toNat (fun n => k ⟨⟨BitVec.ofNat 64 n⟩⟩)
theorem dp_fl_eq {α : Type} (x : Int64) (k : Int64 → α) : dp_fl x k = k x := by
  unfold dp_fl
  rw [dp_nf_eq, BitVec.ofNat_toNat, BitVec.setWidth_eq]
/-! which places were written: between two numbers -/
def dp_wu (w : Nat × Nat) (p : Nat) : Nat × Nat := (bif Nat.ble w.1 p then w.1 else p, bif Nat.ble (p + 1) w.2 then w.2 else p + 1)
def dp_wj (w w' : Nat × Nat) : Nat × Nat := (bif Nat.ble w.1 w'.1 then w.1 else w'.1, bif Nat.ble w'.2 w.2 then w.2 else w'.2)
def dp_ou (w : Nat × Nat) (μ' μ : sm_M) : Prop := ∀ q, (q < w.1 ∨ w.2 ≤ q) → μ'.1 q = μ.1 q ∧ μ'.2 q = μ.2 q
theorem dp_bl {b : Bool} {x y : Nat} : (bif b then x else y) = if b = true then x else y := by cases b <;> rfl
theorem dp_wu_out {w : Nat × Nat} {p q : Nat} (h : q < (dp_wu w p).1 ∨ (dp_wu w p).2 ≤ q) : q ≠ p ∧ (q < w.1 ∨ w.2 ≤ q) := by
  unfold dp_wu at h
  simp only [dp_bl, Nat.ble_eq] at h
  split at h <;> split at h <;> omega
theorem dp_wj_out {w w' : Nat × Nat} {q : Nat} (h : q < (dp_wj w w').1 ∨ (dp_wj w w').2 ≤ q) : (q < w.1 ∨ w.2 ≤ q) ∧ (q < w'.1 ∨ w'.2 ≤ q) := by
  unfold dp_wj at h
  simp only [dp_bl, Nat.ble_eq] at h
  split at h <;> split at h <;> omega
theorem dp_ou.ui {w : Nat × Nat} {μ μ0 : sm_M} (h : dp_ou w μ μ0) (p i : Nat) (v : Int32) : dp_ou (dp_wu w p) (sm_ui μ p i v) μ0 := by
  intro q hq
  obtain ⟨h1, h2⟩ := dp_wu_out hq
  have h3 := h q h2
  simpa [sm_ui, h1] using h3
theorem dp_ou.ul {w : Nat × Nat} {μ μ0 : sm_M} (h : dp_ou w μ μ0) (p i : Nat) (v : Int64) : dp_ou (dp_wu w p) (sm_ul μ p i v) μ0 := by
  intro q hq
  obtain ⟨h1, h2⟩ := dp_wu_out hq
  have h3 := h q h2
  simpa [sm_ul, h1] using h3
theorem dp_ou.z {w : Nat × Nat} {μ μ0 : sm_M} (h : dp_ou w μ μ0) (p : Nat) : dp_ou (dp_wu w p) (sm_z μ p) μ0 := by
  intro q hq
  obtain ⟨h1, h2⟩ := dp_wu_out hq
  have h3 := h q h2
  simpa [sm_z, h1] using h3
theorem dp_ou.tr {w w' : Nat × Nat} {μ'' μ' μ : sm_M} (h : dp_ou w μ' μ) (h' : dp_ou w' μ'' μ') : dp_ou (dp_wj w w') μ'' μ := by
  intro q hq
  obtain ⟨h1, h2⟩ := dp_wj_out hq
  have h3 := h q h1
  have h4 := h' q h2
  exact ⟨h4.1.trans h3.1, h4.2.trans h3.2⟩
def dp_w0 : Nat × Nat := (1000000, 0)
theorem dp_ou.rf {μ : sm_M} : dp_ou dp_w0 μ μ := fun _ _ => ⟨rfl, rfl⟩
theorem dp_ou.all {w : Nat × Nat} {μ' μ : sm_M} (h : dp_ou w μ' μ) (hw : w.2 ≤ w.1) : μ' = μ := by
  obtain ⟨a', b'⟩ := μ'
  obtain ⟨a, b⟩ := μ
  have e1 : a' = a := funext fun q => (h q (by omega)).1
  have e2 : b' = b := funext fun q => (h q (by omega)).2
  rw [e1, e2]
/-! where a run stands: pc, locals, stack, shape, memory, has it written; what it ends with; a class's tables: fields, constants, long constants, calls, classes, Object's constructor; its method: instructions, locals, answer, constructor -/
abbrev dp_w : Type := Nat × Nat
abbrev dp_T : Type := Nat × List (Option Value) × List Value × sm_S × dp_P × dp_w
abbrev dp_R : Type := Option Value × sm_S × dp_P × dp_w
abbrev dp_K : Type := (Nat → Option (Nat × Nat × Nat)) × (Nat → Option Int32) × (Nat → Option Int64) × (Nat → Option (Nat × Nat × Nat)) × (Nat → Option (Nat × List (Option (Option Nat)))) × Nat
abbrev dp_M : Type := List (Nat × Instr × Nat) × Nat × Option FieldType × Bool
abbrev dp_F : Type := Nat → List Value → sm_S → dp_P → Option dp_R
def dp_find (pc : Nat) : List (Nat × Instr × Nat) → Option (Instr × Nat)
  | [] => none
  | (q, i) :: t => bif Nat.beq q pc then some i else dp_find pc t
theorem dp_find_mem {pc : Nat} {tb : List (Nat × Instr × Nat)} {i : Instr × Nat} (h : dp_find pc tb = some i) : (pc, i) ∈ tb := by
  induction tb with
  | nil => cases h
  | cons a t ih =>
    obtain ⟨q, j⟩ := a
    have h : (bif Nat.beq q pc then some j else dp_find pc t) = some i := h
    cases hb : Nat.beq q pc with
    | false => rw [hb] at h; exact List.mem_cons_of_mem _ (ih h)
    | true =>
      rw [hb] at h
      have e1 := dp_beq hb
      have e2 : j = i := Option.some.inj h
      rw [e1, e2]
      exact List.mem_cons_self
def dp_g {α : Type} (b : Bool) (x : Option α) : Option α := bif b then x else none
theorem dp_g_ok {α : Type} {b : Bool} {x : Option α} {y : α} (h : dp_g b x = some y) : b = true ∧ x = some y := by
  cases b with
  | false => cases h
  | true => exact ⟨rfl, h⟩
def dp_o {α β : Type} (o : Option α) (k : α → Option β) : Option β := match o with
  | none => none
  | some a => k a
theorem dp_o_ok {α β : Type} {o : Option α} {k : α → Option β} {y : β} (h : dp_o o k = some y) : ∃ a, o = some a ∧ k a = some y := by
  cases o with
  | none => cases h
  | some a => exact ⟨a, rfl, h⟩
def dp_1i {β : Type} (st : List Value) (k : Int32 → List Value → Option β) : Option β := match st with
  | .int x :: r => k x r
  | _ => none
theorem dp_1i_ok {β : Type} {st : List Value} {k : Int32 → List Value → Option β} {y : β} (h : dp_1i st k = some y) : ∃ x r, st = .int x :: r ∧ k x r = some y := by
  unfold dp_1i at h
  split at h
  · exact ⟨_, _, rfl, h⟩
  · cases h
def dp_1l {β : Type} (st : List Value) (k : Int64 → List Value → Option β) : Option β := match st with
  | .long x :: r => k x r
  | _ => none
theorem dp_1l_ok {β : Type} {st : List Value} {k : Int64 → List Value → Option β} {y : β} (h : dp_1l st k = some y) : ∃ x r, st = .long x :: r ∧ k x r = some y := by
  unfold dp_1l at h
  split at h
  · exact ⟨_, _, rfl, h⟩
  · cases h
def dp_1r {β : Type} (st : List Value) (k : Nat → List Value → Option β) : Option β := match st with
  | .ref x :: r => k x r
  | _ => none
theorem dp_1r_ok {β : Type} {st : List Value} {k : Nat → List Value → Option β} {y : β} (h : dp_1r st k = some y) : ∃ x r, st = .ref x :: r ∧ k x r = some y := by
  unfold dp_1r at h
  split at h
  · exact ⟨_, _, rfl, h⟩
  · cases h
def dp_1v {β : Type} (st : List Value) (k : Value → List Value → Option β) : Option β := match st with
  | x :: r => k x r
  | _ => none
theorem dp_1v_ok {β : Type} {st : List Value} {k : Value → List Value → Option β} {y : β} (h : dp_1v st k = some y) : ∃ x r, st = x :: r ∧ k x r = some y := by
  unfold dp_1v at h
  split at h
  · exact ⟨_, _, rfl, h⟩
  · cases h
def dp_li {β : Type} (L : List (Option Value)) (i : Nat) (k : Int32 → Option β) : Option β := match L[i]? with
  | some (some (.int x)) => k x
  | _ => none
theorem dp_li_ok {β : Type} {L : List (Option Value)} {i : Nat} {k : Int32 → Option β} {y : β} (h : dp_li L i k = some y) : ∃ x, L[i]? = some (some (.int x)) ∧ k x = some y := by
  unfold dp_li at h
  split at h
  · exact ⟨_, by assumption, h⟩
  · cases h
def dp_ll {β : Type} (L : List (Option Value)) (i : Nat) (k : Int64 → Option β) : Option β := match L[i]? with
  | some (some (.long x)) => k x
  | _ => none
theorem dp_ll_ok {β : Type} {L : List (Option Value)} {i : Nat} {k : Int64 → Option β} {y : β} (h : dp_ll L i k = some y) : ∃ x, L[i]? = some (some (.long x)) ∧ k x = some y := by
  unfold dp_ll at h
  split at h
  · exact ⟨_, by assumption, h⟩
  · cases h
def dp_la {β : Type} (L : List (Option Value)) (i : Nat) (k : Nat → Option β) : Option β := match L[i]? with
  | some (some (.ref x)) => k x
  | _ => none
theorem dp_la_ok {β : Type} {L : List (Option Value)} {i : Nat} {k : Nat → Option β} {y : β} (h : dp_la L i k = some y) : ∃ x, L[i]? = some (some (.ref x)) ∧ k x = some y := by
  unfold dp_la at h
  split at h
  · exact ⟨_, by assumption, h⟩
  · cases h
def dp_tg {β : Type} (pc : Nat) (off : Int) (k : Nat → Option β) : Option β := match (pc : Int) + off with
  | .ofNat n => k n
  | .negSucc _ => none
theorem dp_tg_ok {β : Type} {pc : Nat} {off : Int} {k : Nat → Option β} {y : β} (h : dp_tg pc off k = some y) : ∃ n : Nat, (pc : Int) + off = (n : Int) ∧ k n = some y := by
  unfold dp_tg at h
  split at h
  · exact ⟨_, by assumption, h⟩
  · cases h
def dp_ob {β : Type} (sh : sm_S) (p ci : Nat) (k : List (Option (Option Nat)) → Option β) : Option β := match sh[p]? with
  | some (.inl (c, fs)) => bif Nat.beq c ci then k fs else none
  | _ => none
theorem dp_ob_ok {β : Type} {sh : sm_S} {p ci : Nat} {k : List (Option (Option Nat)) → Option β} {y : β} (h : dp_ob sh p ci k = some y) : ∃ fs, sh[p]? = some (.inl (ci, fs)) ∧ k fs = some y := by
  unfold dp_ob at h
  split at h
  · rename_i c fs heq
    cases hb : Nat.beq c ci with
    | false => rw [hb] at h; cases h
    | true =>
      rw [hb] at h
      have e := dp_beq hb
      subst e
      exact ⟨fs, heq, h⟩
  · cases h
def dp_ar {β : Type} (sh : sm_S) (p kd : Nat) (i : Int32) (k : Nat → Option β) : Option β := match sh[p]? with
  | some (.inr (c, n)) => bif Nat.beq c kd && (decide (0 ≤ i) && Nat.ble (i.toNatClampNeg + 1) n) then dp_nf i.toNatClampNeg k else none
  | _ => none
theorem dp_ar_ok {β : Type} {sh : sm_S} {p kd : Nat} {i : Int32} {k : Nat → Option β} {y : β} (h : dp_ar sh p kd i k = some y) : ∃ n, sh[p]? = some (.inr (kd, n)) ∧ vp_in i n ∧ k i.toNatClampNeg = some y := by
  unfold dp_ar at h
  split at h
  · rename_i c n heq
    cases hb : (Nat.beq c kd && (decide (0 ≤ i) && Nat.ble (i.toNatClampNeg + 1) n)) with
    | false => rw [hb] at h; cases h
    | true =>
      rw [hb] at h
      simp only [Bool.and_eq_true, decide_eq_true_eq] at hb
      obtain ⟨h1, h2, h3⟩ := hb
      have e := dp_beq h1
      subst e
      have h3 := Nat.le_of_ble_eq_true h3
      refine ⟨n, heq, fun z => ?_, ?_⟩
      · rcases z with z | z
        · exact absurd h2 (Int32.not_le.mpr z)
        · omega
      · rw [← dp_nf_eq i.toNatClampNeg k]; exact h
  · cases h
def dp_c0 : Jvm.ClassFile.Cond → Int32 → Bool
  | .eq, x => decide (x = 0)
  | .ne, x => !decide (x = 0)
  | .lt, x => decide (x < 0)
  | .ge, x => decide (0 ≤ x)
  | .gt, x => decide (0 < x)
  | .le, x => decide (x ≤ 0)
def dp_c2 : Jvm.ClassFile.Cond → Int32 → Int32 → Bool
  | .eq, x, y => decide (x = y)
  | .ne, x, y => !decide (x = y)
  | .lt, x, y => decide (x < y)
  | .ge, x, y => decide (y ≤ x)
  | .gt, x, y => decide (y < x)
  | .le, x, y => decide (x ≤ y)
def dp_kd : ArrayType → Option Nat
  | .int => some 0
  | .boolean => some 1
  | .long => some 2
  | _ => none
/-- a new cell -/
def dp_nw (L : List (Option Value)) (r : List Value) (sh : sm_S) (x : (Nat × List (Option (Option Nat))) ⊕ (Nat × Nat)) (pc : Nat) (P : dp_P) (w : dp_w) : Option dp_T :=
  dp_g (L.all (sm_no sh.length (sh.length + 1))) (dp_g (r.all (sm_nv sh.length (sh.length + 1))) (dp_g (sh.all (sm_ns sh.length (sh.length + 1))) (some (pc, L, .ref sh.length :: r, sh ++ [x], dp_z P sh.length, dp_wu w sh.length))))
def dp_rc (sh : sm_S) (rc : Nat) (As : List Value) : Bool := match rc with
  | 0 => true
  | ci + 1 => match As with
    | .ref p :: _ => (match sh[p]? with
      | some (.inl (c, _)) => Nat.beq c ci
      | _ => false)
    | _ => false
/-- a call: so many arguments, the callee's number, the receiver's class + 1 or 0 -/
def dp_ca (cf : dp_F) (j na rc pc : Nat) (L : List (Option Value)) (st : List Value) (sh : sm_S) (P : dp_P) (w : dp_w) : Option dp_T :=
  dp_g (Nat.beq (st.take na).length na) (dp_g (dp_rc sh rc (st.take na).reverse) (dp_g (Nat.ble ((st.drop na).map fun v => v.category).sum 8) (dp_o (cf j (st.take na).reverse sh P) (fun R => match R with
    | (v, sh', P', w') => dp_g (Nat.beq sh'.length sh.length || (L.all (sm_no sh.length sh'.length) && (st.drop na).all (sm_nv sh.length sh'.length))) (some (pc + 3, L, v.toList ++ st.drop na, sh', P', dp_wj w w'))))))

def dp_gf {β : Type} (f : Option (Option Nat)) (o : Option Int32) (k : Value → Option β) : Option β := match f with
  | none => dp_o o fun v => k (.int v)
  | some none => none
  | some (some q) => k (.ref q)
def dp_pf {β : Type} (fs : List (Option (Option Nat))) (j fl : Nat) (u : Value) (ini : Bool) (ki : Int32 → Option β) (kr : Nat → Option β) : Option β := match u with
  | .int v => (match fs[j]? with
    | some none => (match fl with
      | 0 => ki v
      | 1 => dp_g (decide (v = 0) || decide (v = 1)) (ki v)
      | _ => none)
    | _ => none)
  | .ref q => dp_g (Nat.beq fl 2) (dp_g ini (dp_g (Nat.ble (j + 1) fs.length) (kr q)))
  | _ => none
def dp_le' {β : Type} (sh : sm_S) (p : Nat) (k : Int32 → Option β) : Option β := match sh[p]? with
  | some (.inr (c, n)) => dp_g (Nat.ble (c + 1) 3) (k (Int32.ofNat n))
  | _ => none
def dp_rt {β : Type} (t : Option FieldType) (v : Int32) (o : Option β) : Option β := match t with
  | some .int => o
  | some .boolean => dp_g (decide (v &&& 1 = v)) o
  | _ => none
/-- one instruction -/
def dp_in (K : dp_K) (M : dp_M) (cf : dp_F) (pc : Nat) (L : List (Option Value)) (st : List Value) (sh : sm_S) (P : dp_P) (w : dp_w) (ins : Instr) (len : Nat) : Option dp_T := match ins with
  | .iadd => dp_g (Nat.beq len 1) (dp_1i st fun y r => dp_1i r fun x r => dp_fi (x + y) fun v => some (pc + 1, L, .int v :: r, sh, P, w))
  | .isub => dp_g (Nat.beq len 1) (dp_1i st fun y r => dp_1i r fun x r => dp_fi (x - y) fun v => some (pc + 1, L, .int v :: r, sh, P, w))
  | .imul => dp_g (Nat.beq len 1) (dp_1i st fun y r => dp_1i r fun x r => dp_fi (x * y) fun v => some (pc + 1, L, .int v :: r, sh, P, w))
  | .iand => dp_g (Nat.beq len 1) (dp_1i st fun y r => dp_1i r fun x r => dp_fi (x &&& y) fun v => some (pc + 1, L, .int v :: r, sh, P, w))
  | .ior => dp_g (Nat.beq len 1) (dp_1i st fun y r => dp_1i r fun x r => dp_fi (x ||| y) fun v => some (pc + 1, L, .int v :: r, sh, P, w))
  | .ixor => dp_g (Nat.beq len 1) (dp_1i st fun y r => dp_1i r fun x r => dp_fi (x ^^^ y) fun v => some (pc + 1, L, .int v :: r, sh, P, w))
  | .ladd => dp_g (Nat.beq len 1) (dp_1l st fun y r => dp_1l r fun x r => dp_fl (x + y) fun v => some (pc + 1, L, .long v :: r, sh, P, w))
  | .lsub => dp_g (Nat.beq len 1) (dp_1l st fun y r => dp_1l r fun x r => dp_fl (x - y) fun v => some (pc + 1, L, .long v :: r, sh, P, w))
  | .land => dp_g (Nat.beq len 1) (dp_1l st fun y r => dp_1l r fun x r => dp_fl (x &&& y) fun v => some (pc + 1, L, .long v :: r, sh, P, w))
  | .lor => dp_g (Nat.beq len 1) (dp_1l st fun y r => dp_1l r fun x r => dp_fl (x ||| y) fun v => some (pc + 1, L, .long v :: r, sh, P, w))
  | .lxor => dp_g (Nat.beq len 1) (dp_1l st fun y r => dp_1l r fun x r => dp_fl (x ^^^ y) fun v => some (pc + 1, L, .long v :: r, sh, P, w))
  | .idiv => dp_g (Nat.beq len 1) (dp_1i st fun y r => dp_1i r fun x r => dp_g (!decide (y = 0)) (dp_fi (x / y) fun v => some (pc + 1, L, .int v :: r, sh, P, w)))
  | .irem => dp_g (Nat.beq len 1) (dp_1i st fun y r => dp_1i r fun x r => dp_g (!decide (y = 0)) (dp_fi (x - x / y * y) fun v => some (pc + 1, L, .int v :: r, sh, P, w)))
  | .ineg => dp_g (Nat.beq len 1) (dp_1i st fun x r => dp_fi (-x) fun v => some (pc + 1, L, .int v :: r, sh, P, w))
  | .iconst i => dp_g (Nat.beq len 1) (dp_fi (Int32.ofInt i) fun v => some (pc + 1, L, .int v :: st, sh, P, w))
  | .bipush i => dp_g (Nat.beq len 2) (dp_fi (Int8.ofInt i).toInt32 fun v => some (pc + 2, L, .int v :: st, sh, P, w))
  | .sipush i => dp_g (Nat.beq len 3) (dp_fi (Int16.ofInt i).toInt32 fun v => some (pc + 3, L, .int v :: st, sh, P, w))
  | .lconst i => dp_g (Nat.beq len 1) (dp_fl (Int64.ofNat (i : Nat)) fun v => some (pc + 1, L, .long v :: st, sh, P, w))
  | .ldc i => dp_g (Nat.beq len 2) (dp_o (K.2.1 i) fun v => some (pc + 2, L, .int v :: st, sh, P, w))
  | .ldc2_w i => dp_g (Nat.beq len 3) (dp_o (K.2.2.1 i) fun v => some (pc + 3, L, .long v :: st, sh, P, w))
  | .i2l => dp_g (Nat.beq len 1) (dp_1i st fun x r => dp_fl x.toInt64 fun v => some (pc + 1, L, .long v :: r, sh, P, w))
  | .l2i => dp_g (Nat.beq len 1) (dp_1l st fun x r => dp_fi x.toInt32 fun v => some (pc + 1, L, .int v :: r, sh, P, w))
  | .iushr => dp_g (Nat.beq len 1) (dp_1i st fun y r => dp_1i r fun x r => dp_fi (x.toUInt32 >>> (y.toUInt32 &&& Int32.toUInt32 31)).toInt32 fun v => some (pc + 1, L, .int v :: r, sh, P, w))
  | .ishl => dp_g (Nat.beq len 1) (dp_1i st fun y r => dp_1i r fun x r => dp_fi (x <<< (y &&& 31)) fun v => some (pc + 1, L, .int v :: r, sh, P, w))
  | .ishr => dp_g (Nat.beq len 1) (dp_1i st fun y r => dp_1i r fun x r => dp_fi (x >>> (y &&& 31)) fun v => some (pc + 1, L, .int v :: r, sh, P, w))
  | .lushr => dp_g (Nat.beq len 1) (dp_1i st fun y r => dp_1l r fun x r => dp_fl (x.toUInt64 >>> (y.toInt64.toUInt64 &&& Int64.toUInt64 63)).toInt64 fun v => some (pc + 1, L, .long v :: r, sh, P, w))
  | .lshl => dp_g (Nat.beq len 1) (dp_1i st fun y r => dp_1l r fun x r => dp_fl (x <<< (y.toInt64 &&& 63)) fun v => some (pc + 1, L, .long v :: r, sh, P, w))
  | .lshr => dp_g (Nat.beq len 1) (dp_1i st fun y r => dp_1l r fun x r => dp_fl (x >>> (y.toInt64 &&& 63)) fun v => some (pc + 1, L, .long v :: r, sh, P, w))
  | .lcmp => dp_g (Nat.beq len 1) (dp_1l st fun y r => dp_1l r fun x r => dp_fi (lg_cmp x y) fun v => some (pc + 1, L, .int v :: r, sh, P, w))
  | .dup => dp_g (Nat.beq len 1) (dp_1v st fun a r => dp_g (Nat.beq a.category 1) (some (pc + 1, L, a :: a :: r, sh, P, w)))
  | .pop => dp_g (Nat.beq len 1) (dp_1v st fun a r => dp_g (Nat.beq a.category 1) (some (pc + 1, L, r, sh, P, w)))
  | .dup_x1 => dp_g (Nat.beq len 1) (dp_1v st fun a r => dp_1v r fun b r => dp_g (Nat.beq a.category 1) (dp_g (Nat.beq b.category 1) (some (pc + 1, L, a :: b :: a :: r, sh, P, w))))
  | .dup2 => dp_g (Nat.beq len 1) (dp_1v st fun a r => dp_1v r fun b r => dp_g (Nat.beq a.category 1) (dp_g (Nat.beq b.category 1) (some (pc + 1, L, a :: b :: a :: b :: r, sh, P, w))))
  | .iload i => dp_g (Nat.beq len 2) (dp_li L i fun x => some (pc + 2, L, .int x :: st, sh, P, w))
  | .iload_n i => dp_g (Nat.beq len 1) (dp_li L (i : Nat) fun x => some (pc + 1, L, .int x :: st, sh, P, w))
  | .istore i => dp_g (Nat.beq len 2) (dp_1i st fun x r => dp_g (sm_ah L i) (dp_g (Nat.ble (i + 1) M.2.1) (some (pc + 2, (L.set i (some (.int x))), r, sh, P, w))))
  | .istore_n i => dp_g (Nat.beq len 1) (dp_1i st fun x r => dp_g (sm_ah L (i : Nat)) (dp_g (Nat.ble ((i : Nat) + 1) M.2.1) (some (pc + 1, (L.set (i : Nat) (some (.int x))), r, sh, P, w))))
  | .lload i => dp_g (Nat.beq len 2) (dp_ll L i fun x => some (pc + 2, L, .long x :: st, sh, P, w))
  | .lload_n i => dp_g (Nat.beq len 1) (dp_ll L (i : Nat) fun x => some (pc + 1, L, .long x :: st, sh, P, w))
  | .lstore i => dp_g (Nat.beq len 2) (dp_1l st fun x r => dp_g (sm_ah L i) (dp_g (Nat.ble (i + 2) M.2.1) (some (pc + 2, ((L.set i (some (.long x))).set (i + 1) none), r, sh, P, w))))
  | .lstore_n i => dp_g (Nat.beq len 1) (dp_1l st fun x r => dp_g (sm_ah L (i : Nat)) (dp_g (Nat.ble ((i : Nat) + 2) M.2.1) (some (pc + 1, ((L.set (i : Nat) (some (.long x))).set ((i : Nat) + 1) none), r, sh, P, w))))
  | .aload i => dp_g (Nat.beq len 2) (dp_la L i fun x => some (pc + 2, L, .ref x :: st, sh, P, w))
  | .aload_n i => dp_g (Nat.beq len 1) (dp_la L (i : Nat) fun x => some (pc + 1, L, .ref x :: st, sh, P, w))
  | .astore i => dp_g (Nat.beq len 2) (dp_1r st fun x r => dp_g (sm_ah L i) (dp_g (Nat.ble (i + 1) M.2.1) (some (pc + 2, (L.set i (some (.ref x))), r, sh, P, w))))
  | .astore_n i => dp_g (Nat.beq len 1) (dp_1r st fun x r => dp_g (sm_ah L (i : Nat)) (dp_g (Nat.ble ((i : Nat) + 1) M.2.1) (some (pc + 1, (L.set (i : Nat) (some (.ref x))), r, sh, P, w))))
  | .iinc i z => dp_g (Nat.beq len 3) (dp_li L i fun x => dp_g (sm_ah L i) (dp_g (Nat.ble (i + 1) M.2.1) (dp_fi (x + Int32.ofInt z) fun v => some (pc + 3, (L.set i (some (.int v))), st, sh, P, w))))
  | .ifCond cn off => dp_g (Nat.beq len 3) (dp_1i st fun x r => dp_tg pc off fun t => bif dp_c0 cn x then some (t, L, r, sh, P, w) else some (pc + 3, L, r, sh, P, w))
  | .if_icmp cn off => dp_g (Nat.beq len 3) (dp_1i st fun y r => dp_1i r fun x r => dp_tg pc off fun t => bif dp_c2 cn x y then some (t, L, r, sh, P, w) else some (pc + 3, L, r, sh, P, w))
  | .goto off => dp_g (Nat.beq len 3) (dp_tg pc off fun t => some (t, L, st, sh, P, w))
  | .lookupswitch dflt ps => dp_1i st fun x r => dp_g ((ps.toList.zip (ps.toList.drop 1)).all (fun (a, next) => a.1 < next.1)) (dp_tg pc (Op.lookupswitch.offset ps.toList dflt x.toInt) fun t => some (t, L, r, sh, P, w))
  | .tableswitch dflt lo hi offs => dp_1i st fun x r => bif decide (x.toInt < lo ∨ hi < x.toInt) then dp_tg pc dflt fun t => some (t, L, r, sh, P, w) else dp_o offs[(x.toInt - lo).toNat]? fun off => dp_tg pc off fun t => some (t, L, r, sh, P, w)
  | .getfield i => dp_g (Nat.beq len 3) (dp_1r st fun p r => dp_o (K.1 i) fun F => dp_ob sh p F.1 fun fs => dp_o fs[F.2.1]? fun f => dp_gf f (P.1 p F.2.1) fun v => some (pc + 3, L, v :: r, sh, P, w))
  | .putfield i => dp_g (Nat.beq len 3) (dp_1v st fun u r => dp_1r r fun p r => dp_o (K.1 i) fun F => dp_ob sh p F.1 fun fs => dp_pf fs F.2.1 F.2.2 u M.2.2.2 (fun v => some (pc + 3, L, r, sh, dp_ui P p F.2.1 v, dp_wu w p)) (fun q => some (pc + 3, L, r, sh.set p (.inl (F.1, fs.set F.2.1 (some (some q)))), P, w)))
  | .iaload => dp_g (Nat.beq len 1) (dp_1i st fun i r => dp_1r r fun p r => dp_ar sh p 0 i fun j => dp_o (P.1 p j) fun v => some (pc + 1, L, .int v :: r, sh, P, w))
  | .baload => dp_g (Nat.beq len 1) (dp_1i st fun i r => dp_1r r fun p r => dp_ar sh p 1 i fun j => dp_o (P.1 p j) fun v => some (pc + 1, L, .int v :: r, sh, P, w))
  | .laload => dp_g (Nat.beq len 1) (dp_1i st fun i r => dp_1r r fun p r => dp_ar sh p 2 i fun j => dp_o (P.2 p j) fun v => some (pc + 1, L, .long v :: r, sh, P, w))
  | .iastore => dp_g (Nat.beq len 1) (dp_1i st fun x r => dp_1i r fun i r => dp_1r r fun p r => dp_ar sh p 0 i fun j => some (pc + 1, L, r, sh, dp_ui P p j x, dp_wu w p))
  | .bastore => dp_g (Nat.beq len 1) (dp_1i st fun x r => dp_1i r fun i r => dp_1r r fun p r => dp_ar sh p 1 i fun j => dp_fi (vp_nar .boolean x) fun v => some (pc + 1, L, r, sh, dp_ui P p j v, dp_wu w p))
  | .lastore => dp_g (Nat.beq len 1) (dp_1l st fun x r => dp_1i r fun i r => dp_1r r fun p r => dp_ar sh p 2 i fun j => some (pc + 1, L, r, sh, dp_ul P p j x, dp_wu w p))
  | .arraylength => dp_g (Nat.beq len 1) (dp_1r st fun p r => dp_le' sh p fun n => some (pc + 1, L, .int n :: r, sh, P, w))
  | .new i => dp_g (Nat.beq len 3) (dp_o (K.2.2.2.2.1 i) fun C => dp_nw L st sh (.inl C) (pc + 3) P w)
  | .newarray at' => dp_g (Nat.beq len 2) (dp_1i st fun n r => dp_o (dp_kd at') fun kd => dp_g (decide (0 ≤ n)) (dp_nf n.toNatClampNeg fun len' => dp_g (Nat.ble len' 100000) (dp_nw L r sh (.inr (kd, len')) (pc + 2) P w)))
  | .invokespecial i => dp_g (Nat.beq len 3) (bif Nat.beq i K.2.2.2.2.2 then dp_1r st fun _ r => dp_g (Nat.ble (r.map fun v => v.category).sum 8) (some (pc + 3, L, r, sh, P, w)) else dp_o (K.2.2.2.1 (3 * i + 2)) fun C => dp_ca cf C.1 C.2.1 C.2.2 pc L st sh P w)
  | .invokestatic i => dp_g (Nat.beq len 3) (dp_o (K.2.2.2.1 (3 * i)) fun C => dp_ca cf C.1 C.2.1 C.2.2 pc L st sh P w)
  | .invokevirtual i => dp_g (Nat.beq len 3) (dp_o (K.2.2.2.1 (3 * i + 1)) fun C => dp_ca cf C.1 C.2.1 C.2.2 pc L st sh P w)
  | _ => none
def dp_rn (M : dp_M) (st : List Value) (sh : sm_S) (P : dp_P) (w : dp_w) (ins : Instr) (len : Nat) : Option dp_R := match ins with
  | .ireturn => dp_g (Nat.beq len 1) (dp_1i st fun v r => dp_g r.isEmpty (dp_rt M.2.2.1 v (some (some (.int v), sh, P, w))))
  | .lreturn => dp_g (Nat.beq len 1) (dp_1l st fun v r => dp_g r.isEmpty (match M.2.2.1 with
    | some .long => some (some (.long v), sh, P, w)
    | _ => none))
  | .return_ => dp_g (Nat.beq len 1) (dp_g st.isEmpty (match M.2.2.1 with
    | none => some (none, sh, P, w)
    | _ => none))
  | _ => none
def dp_ck (sh sh' : sm_S) : Bool := Nat.ble sh.length sh'.length && Nat.ble (sm_sl sh) (sm_sl sh')
def dp_st (K : dp_K) (M : dp_M) (cf : dp_F) (s : dp_T) : Option (dp_T ⊕ dp_R) := match s with
  | (pc, L, st, sh, P, w) => dp_nf pc fun pc => dp_o (dp_find pc M.1) fun i => match dp_rn M st sh P w i.1 i.2 with
    | some R => some (.inr R)
    | none => dp_o (dp_in K M cf pc L st sh P w i.1 i.2) fun s' => dp_g (dp_ck sh s'.2.2.2.1) (some (.inl s'))
/-- 2 ^ k instructions -/
def dp_go (K : dp_K) (M : dp_M) (cf : dp_F) : Nat → dp_T → Option (dp_T ⊕ dp_R)
  | 0, s => dp_st K M cf s
  | k + 1, s => match dp_go K M cf k s with
    | some (.inl s') => dp_go K M cf k s'
    | some (.inr R) => some (.inr R)
    | none => none
end
section
/-! what is computed is so -/
def dp_J (cl : List vw_C) (X : sm_X) (ad0 : Nat → Nat) (sh0 : sm_S) (μ0 : sm_M) (s : dp_T) : Prop := match s with
  | (pc, L, st, sh, P, w) => ∀ (ad : Nat → Nat) (μ : sm_M), dp_le P μ → dp_ou w μ μ0 → sm_ag sh0.length sh.length ad ad0 → sh0.length ≤ sh.length → sm_E cl X pc L st ad sh μ
def dp_Q (μ : sm_M) (R : dp_R) : Option Value → sm_S → sm_M → Prop := fun r sh' μ' => r = R.1 ∧ sh' = R.2.1 ∧ dp_le R.2.2.1 μ' ∧ dp_ou R.2.2.2 μ' μ
def dp_rm (fr lo : Nat) (sh sh' : sm_S) : Room := { frames := fr, cells := sh'.length - sh.length, slots := sm_sl sh' - sm_sl sh, locals := lo }
def dp_cfok (cl : List vw_C) (Z : sm_Z) (ys : Nat → MethodName) (wss : Nat → List Cond) (fr lo : Nat) (cf : dp_F) : Prop := ∀ (j : Nat) (As : List Value) (sh : sm_S) (P : dp_P) (R : dp_R), cf j As sh P = some R → sh.length ≤ R.2.1.length ∧ sm_sl sh ≤ sm_sl R.2.1 ∧ ∀ (ad : Nat → Nat) (μ : sm_M), dp_le P μ → sm_C cl Z (ys j) (wss j) (dp_rm fr lo sh R.2.1) As ad sh μ (dp_Q μ R)
def dp_rcO : Nat → Option Nat
  | 0 => none
  | ci + 1 => some ci
def dp_fok (cl : List vw_C) (NW : List Cond) (own : String) (Ts : List Cond) (i : Nat) (F : Nat × Nat × Nat) : Prop := ∃ (C : String) (T : u_T) (N' : Nat) (t : Nat → FieldType), cl[F.1]? = some (C, T, N') ∧ F.2.1 < N' ∧ (∀ w ∈ u_ws C T N', w ∈ Ts) ∧ (∀ k, k < N' → parseFieldDescriptor (T k).2.2.1 = some (t k)) ∧ (∀ a, a < N' → ∀ b, b < N' → a ≠ b → (T a).2.1 ≠ (T b).2.1) ∧ (Cond.fieldLink own i (T F.2.1).1 (T F.2.1).2.1 (T F.2.1).2.2.1 ∈ Ts ∨ ∃ host, Cond.fieldLinkNest own i (T F.2.1).1 (T F.2.1).2.1 (T F.2.1).2.2.1 host ∈ NW) ∧ (F.2.2 = 0 → (T F.2.1).2.2.2 = false ∧ t F.2.1 = .int) ∧ (F.2.2 = 1 → (T F.2.1).2.2.2 = false ∧ t F.2.1 = .boolean) ∧ (F.2.2 = 2 → (T F.2.1).2.2.2 = true ∧ (T F.2.1).1 = own ∧ Cond.fieldLink own i (T F.2.1).1 (T F.2.1).2.1 (T F.2.1).2.2.1 ∈ Ts ∧ ∀ a : Nat, narrow (t F.2.1) (.ref a) = .ref a ∧ fits (t F.2.1) (.ref a) = true)
def dp_nok (cl : List vw_C) (own : String) (Ts : List Cond) (i : Nat) (C : Nat × List (Option (Option Nat))) : Prop := ∃ (Cn : String) (T : u_T) (t : Nat → FieldType), cl[C.1]? = some (Cn, T, C.2.length) ∧ (∀ w ∈ u_ws Cn T C.2.length, w ∈ Ts) ∧ (∀ k, k < C.2.length → parseFieldDescriptor (T k).2.2.1 = some (t k)) ∧ Cond.classLink own i Cn ∈ Ts ∧ Cond.instantiable Cn C.2.length ∈ Ts ∧ Cond.initialized Cn ∈ Ts ∧ (∀ j, j < C.2.length → ∀ ad : Nat → Nat, defaultValue (t j) = vp_V (C.2.mapIdx (sm_f ad (fun _ => 0))) j) ∧ ∀ ad ad' : Nat → Nat, C.2.mapIdx (sm_f ad (fun _ => 0)) = C.2.mapIdx (sm_f ad' (fun _ => 0))
def dp_Kok (cl : List vw_C) (NW : List Cond) (own : String) (Ts : List Cond) (ys : Nat → MethodName) (wss : Nat → List Cond) (K : dp_K) : Prop :=
  (∀ i F, K.1 i = some F → dp_fok cl NW own Ts i F) ∧ (∀ i v, K.2.1 i = some v → Jvm.Cond.constant own i v ∈ Ts) ∧ (∀ i v, K.2.2.1 i = some v → Jvm.Cond.constantLong own i v ∈ Ts) ∧
  (∀ i C, K.2.2.2.1 (3 * i) = some C → ∀ cc, sm_Cal cl NW cc own Ts (.invokestatic i) (ys C.1) (wss C.1) C.2.1 (dp_rcO C.2.2)) ∧ (∀ i C, K.2.2.2.1 (3 * i + 1) = some C → ∀ cc, sm_Cal cl NW cc own Ts (.invokevirtual i) (ys C.1) (wss C.1) C.2.1 (dp_rcO C.2.2)) ∧ (∀ i C, K.2.2.2.1 (3 * i + 2) = some C → ∀ cc, sm_Cal cl NW cc own Ts (.invokespecial i) (ys C.1) (wss C.1) C.2.1 (dp_rcO C.2.2)) ∧
  (∀ i C, K.2.2.2.2.1 i = some C → dp_nok cl own Ts i C) ∧ (Cond.methodLink own K.2.2.2.2.2 Lib.objectInit ∈ Ts ∧ Cond.instanceMethod Lib.objectInit ∈ Ts ∧ Cond.code Lib.objectInit ⟨#[0xb1]⟩ 1 none ∈ Ts) ∧ Cond.arrayClass .int ∈ Ts ∧ Cond.arrayClass .boolean ∈ Ts ∧ Cond.arrayClass .long ∈ Ts
theorem dp_rc_ok {sh : sm_S} {rc : Nat} {As : List Value} (h : dp_rc sh rc As = true) : sm_rcv sh (dp_rcO rc) As := by
  cases rc with
  | zero => exact trivial
  | succ ci =>
    unfold dp_rc at h
    simp only at h
    split at h
    · rename_i p t
      split at h
      · rename_i c fs hs
        have e := dp_beq h
        subst e
        exact ⟨p, t, fs, rfl, hs⟩
      · cases h
    · cases h
theorem dp_take {st : List Value} (n : Nat) : (st.take n).reverse.reverse ++ st.drop n = st := by rw [List.reverse_reverse, List.take_append_drop]

theorem dp_call_ok {cl : List vw_C} {X : sm_X} {cc : ByteArray} {own : String} {Ts : List Cond} {rm : Room} {N S : Nat} {M : dp_M} (hX : sm_ok cl X cc M.2.1 own Ts M.2.2.1 rm N S M.2.2.2) {ys : Nat → MethodName} {wss : Nat → List Cond} {cf : dp_F} {fr lo : Nat} (hcf : dp_cfok cl X.1 ys wss fr lo cf) (hfr : fr + 1 ≤ rm.frames) (hlo : 32 + lo ≤ rm.locals) {ad0 : Nat → Nat} {sh0 : sm_S} {μ0 : sm_M} {ins : Instr} {j na rc pc : Nat} (hC : sm_Cal cl X.1.2.2.2 cc own Ts ins (ys j) (wss j) na (dp_rcO rc)) (d : decode cc pc = .ok (ins, 3)) {L : List (Option Value)} {st : List Value} {sh : sm_S} {P : dp_P} {w : dp_w} {s' : dp_T} (h : dp_ca cf j na rc pc L st sh P w = some s') (hN : s'.2.2.2.1.length ≤ N) (hS : sm_sl s'.2.2.2.1 ≤ S) (k : dp_J cl X ad0 sh0 μ0 s') : dp_J cl X ad0 sh0 μ0 (pc, L, st, sh, P, w) := by
  unfold dp_ca at h
  obtain ⟨h1, h⟩ := dp_g_ok h
  obtain ⟨h2, h⟩ := dp_g_ok h
  obtain ⟨h3, h⟩ := dp_g_ok h
  obtain ⟨⟨v, sh', P', w'⟩, hR, h⟩ := dp_o_ok h
  obtain ⟨h4, h⟩ := dp_g_ok h
  cases h
  obtain ⟨q1, q2, q3⟩ := hcf _ _ _ _ _ hR
  simp only at q1 q2 q3 hN hS
  intro ad μ a b c e
  have h5 := hC X _ _ _ _ _ _ rfl hX pc L (st.drop na) ad sh μ (st.take na).reverse _ (dp_rm fr lo sh sh') (by rw [List.length_reverse]; exact dp_beq h1) (dp_rc_ok h2) (q3 ad μ a) hfr hlo (by simp only [dp_rm]; omega) (by simp only [dp_rm]; omega) (Nat.le_of_ble_eq_true h3) d (fun v' ad' sh'' μ' e1 e2 hag q => ?_)
  · rwa [dp_take] at h5
  · obtain ⟨rfl, rfl, g1, g2⟩ := q
    simp only at g1 g2
    refine ⟨?_, k ad' μ' g1 (b.tr g2) ?_ (by omega)⟩
    · rw [Bool.or_eq_true, Bool.and_eq_true] at h4
      rcases h4 with h4 | h4
      · left
        have := dp_beq h4
        simp only [dp_rm]
        omega
      · exact Or.inr h4
    · intro p hp
      rw [hag p (by omega), c p (by omega)]
theorem dp_nw_ag {a b : Nat} {ad'' ad ad0 : Nat → Nat} (h1 : sm_ag b (b + 1) ad'' ad) (h0 : sm_ag a b ad ad0) (hl : a ≤ b) : sm_ag a (b + 1) ad'' ad0 := by
  intro p hp
  rw [h1 p (by omega), h0 p (by omega)]
theorem dp_in_iadd {cl : List vw_C} {X : sm_X} {cc : ByteArray} {own : String} {Ts : List Cond} {rm : Room} {N S : Nat} {M : dp_M} (hX : sm_ok cl X cc M.2.1 own Ts M.2.2.1 rm N S M.2.2.2) {K : dp_K} {ys : Nat → MethodName} {wss : Nat → List Cond} {cf : dp_F} {fr lo : Nat} (hK : dp_Kok cl X.1.2.2.2 own Ts ys wss K) (hcf : dp_cfok cl X.1 ys wss fr lo cf) (hfr : fr + 1 ≤ rm.frames) (hlo : 32 + lo ≤ rm.locals) {ad0 : Nat → Nat} {sh0 : sm_S} {μ0 : sm_M} {pc len : Nat}  (d : decode cc pc = .ok (.iadd, len)) {L : List (Option Value)} {st : List Value} {sh : sm_S} {P : dp_P} {w : dp_w} {s' : dp_T} (h : dp_in K M cf pc L st sh P w .iadd len = some s') (hN : s'.2.2.2.1.length ≤ N) (hS : sm_sl s'.2.2.2.1 ≤ S) (k : dp_J cl X ad0 sh0 μ0 s') : dp_J cl X ad0 sh0 μ0 (pc, L, st, sh, P, w) := by
  obtain ⟨hl, hu1⟩ := dp_g_ok h
  clear h
  have hl := dp_beq hl
  subst hl
  obtain ⟨y, r, rfl, hu2⟩ := dp_1i_ok hu1
  clear hu1
  obtain ⟨x, r, rfl, hu3⟩ := dp_1i_ok hu2
  clear hu2
  rw [dp_fi_eq] at hu3
  cases hu3
  exact fun ad μ a b c e => sm_iadd hX d (k ad μ a b c e)
theorem dp_in_isub {cl : List vw_C} {X : sm_X} {cc : ByteArray} {own : String} {Ts : List Cond} {rm : Room} {N S : Nat} {M : dp_M} (hX : sm_ok cl X cc M.2.1 own Ts M.2.2.1 rm N S M.2.2.2) {K : dp_K} {ys : Nat → MethodName} {wss : Nat → List Cond} {cf : dp_F} {fr lo : Nat} (hK : dp_Kok cl X.1.2.2.2 own Ts ys wss K) (hcf : dp_cfok cl X.1 ys wss fr lo cf) (hfr : fr + 1 ≤ rm.frames) (hlo : 32 + lo ≤ rm.locals) {ad0 : Nat → Nat} {sh0 : sm_S} {μ0 : sm_M} {pc len : Nat}  (d : decode cc pc = .ok (.isub, len)) {L : List (Option Value)} {st : List Value} {sh : sm_S} {P : dp_P} {w : dp_w} {s' : dp_T} (h : dp_in K M cf pc L st sh P w .isub len = some s') (hN : s'.2.2.2.1.length ≤ N) (hS : sm_sl s'.2.2.2.1 ≤ S) (k : dp_J cl X ad0 sh0 μ0 s') : dp_J cl X ad0 sh0 μ0 (pc, L, st, sh, P, w) := by
  obtain ⟨hl, hu1⟩ := dp_g_ok h
  clear h
  have hl := dp_beq hl
  subst hl
  obtain ⟨y, r, rfl, hu2⟩ := dp_1i_ok hu1
  clear hu1
  obtain ⟨x, r, rfl, hu3⟩ := dp_1i_ok hu2
  clear hu2
  rw [dp_fi_eq] at hu3
  cases hu3
  exact fun ad μ a b c e => sm_isub hX d (k ad μ a b c e)
theorem dp_in_imul {cl : List vw_C} {X : sm_X} {cc : ByteArray} {own : String} {Ts : List Cond} {rm : Room} {N S : Nat} {M : dp_M} (hX : sm_ok cl X cc M.2.1 own Ts M.2.2.1 rm N S M.2.2.2) {K : dp_K} {ys : Nat → MethodName} {wss : Nat → List Cond} {cf : dp_F} {fr lo : Nat} (hK : dp_Kok cl X.1.2.2.2 own Ts ys wss K) (hcf : dp_cfok cl X.1 ys wss fr lo cf) (hfr : fr + 1 ≤ rm.frames) (hlo : 32 + lo ≤ rm.locals) {ad0 : Nat → Nat} {sh0 : sm_S} {μ0 : sm_M} {pc len : Nat}  (d : decode cc pc = .ok (.imul, len)) {L : List (Option Value)} {st : List Value} {sh : sm_S} {P : dp_P} {w : dp_w} {s' : dp_T} (h : dp_in K M cf pc L st sh P w .imul len = some s') (hN : s'.2.2.2.1.length ≤ N) (hS : sm_sl s'.2.2.2.1 ≤ S) (k : dp_J cl X ad0 sh0 μ0 s') : dp_J cl X ad0 sh0 μ0 (pc, L, st, sh, P, w) := by
  obtain ⟨hl, hu1⟩ := dp_g_ok h
  clear h
  have hl := dp_beq hl
  subst hl
  obtain ⟨y, r, rfl, hu2⟩ := dp_1i_ok hu1
  clear hu1
  obtain ⟨x, r, rfl, hu3⟩ := dp_1i_ok hu2
  clear hu2
  rw [dp_fi_eq] at hu3
  cases hu3
  exact fun ad μ a b c e => sm_imul hX d (k ad μ a b c e)
theorem dp_in_iand {cl : List vw_C} {X : sm_X} {cc : ByteArray} {own : String} {Ts : List Cond} {rm : Room} {N S : Nat} {M : dp_M} (hX : sm_ok cl X cc M.2.1 own Ts M.2.2.1 rm N S M.2.2.2) {K : dp_K} {ys : Nat → MethodName} {wss : Nat → List Cond} {cf : dp_F} {fr lo : Nat} (hK : dp_Kok cl X.1.2.2.2 own Ts ys wss K) (hcf : dp_cfok cl X.1 ys wss fr lo cf) (hfr : fr + 1 ≤ rm.frames) (hlo : 32 + lo ≤ rm.locals) {ad0 : Nat → Nat} {sh0 : sm_S} {μ0 : sm_M} {pc len : Nat}  (d : decode cc pc = .ok (.iand, len)) {L : List (Option Value)} {st : List Value} {sh : sm_S} {P : dp_P} {w : dp_w} {s' : dp_T} (h : dp_in K M cf pc L st sh P w .iand len = some s') (hN : s'.2.2.2.1.length ≤ N) (hS : sm_sl s'.2.2.2.1 ≤ S) (k : dp_J cl X ad0 sh0 μ0 s') : dp_J cl X ad0 sh0 μ0 (pc, L, st, sh, P, w) := by
  obtain ⟨hl, hu1⟩ := dp_g_ok h
  clear h
  have hl := dp_beq hl
  subst hl
  obtain ⟨y, r, rfl, hu2⟩ := dp_1i_ok hu1
  clear hu1
  obtain ⟨x, r, rfl, hu3⟩ := dp_1i_ok hu2
  clear hu2
  rw [dp_fi_eq] at hu3
  cases hu3
  exact fun ad μ a b c e => sm_iand hX d (k ad μ a b c e)
theorem dp_in_ior {cl : List vw_C} {X : sm_X} {cc : ByteArray} {own : String} {Ts : List Cond} {rm : Room} {N S : Nat} {M : dp_M} (hX : sm_ok cl X cc M.2.1 own Ts M.2.2.1 rm N S M.2.2.2) {K : dp_K} {ys : Nat → MethodName} {wss : Nat → List Cond} {cf : dp_F} {fr lo : Nat} (hK : dp_Kok cl X.1.2.2.2 own Ts ys wss K) (hcf : dp_cfok cl X.1 ys wss fr lo cf) (hfr : fr + 1 ≤ rm.frames) (hlo : 32 + lo ≤ rm.locals) {ad0 : Nat → Nat} {sh0 : sm_S} {μ0 : sm_M} {pc len : Nat}  (d : decode cc pc = .ok (.ior, len)) {L : List (Option Value)} {st : List Value} {sh : sm_S} {P : dp_P} {w : dp_w} {s' : dp_T} (h : dp_in K M cf pc L st sh P w .ior len = some s') (hN : s'.2.2.2.1.length ≤ N) (hS : sm_sl s'.2.2.2.1 ≤ S) (k : dp_J cl X ad0 sh0 μ0 s') : dp_J cl X ad0 sh0 μ0 (pc, L, st, sh, P, w) := by
  obtain ⟨hl, hu1⟩ := dp_g_ok h
  clear h
  have hl := dp_beq hl
  subst hl
  obtain ⟨y, r, rfl, hu2⟩ := dp_1i_ok hu1
  clear hu1
  obtain ⟨x, r, rfl, hu3⟩ := dp_1i_ok hu2
  clear hu2
  rw [dp_fi_eq] at hu3
  cases hu3
  exact fun ad μ a b c e => sm_ior hX d (k ad μ a b c e)
theorem dp_in_ixor {cl : List vw_C} {X : sm_X} {cc : ByteArray} {own : String} {Ts : List Cond} {rm : Room} {N S : Nat} {M : dp_M} (hX : sm_ok cl X cc M.2.1 own Ts M.2.2.1 rm N S M.2.2.2) {K : dp_K} {ys : Nat → MethodName} {wss : Nat → List Cond} {cf : dp_F} {fr lo : Nat} (hK : dp_Kok cl X.1.2.2.2 own Ts ys wss K) (hcf : dp_cfok cl X.1 ys wss fr lo cf) (hfr : fr + 1 ≤ rm.frames) (hlo : 32 + lo ≤ rm.locals) {ad0 : Nat → Nat} {sh0 : sm_S} {μ0 : sm_M} {pc len : Nat}  (d : decode cc pc = .ok (.ixor, len)) {L : List (Option Value)} {st : List Value} {sh : sm_S} {P : dp_P} {w : dp_w} {s' : dp_T} (h : dp_in K M cf pc L st sh P w .ixor len = some s') (hN : s'.2.2.2.1.length ≤ N) (hS : sm_sl s'.2.2.2.1 ≤ S) (k : dp_J cl X ad0 sh0 μ0 s') : dp_J cl X ad0 sh0 μ0 (pc, L, st, sh, P, w) := by
  obtain ⟨hl, hu1⟩ := dp_g_ok h
  clear h
  have hl := dp_beq hl
  subst hl
  obtain ⟨y, r, rfl, hu2⟩ := dp_1i_ok hu1
  clear hu1
  obtain ⟨x, r, rfl, hu3⟩ := dp_1i_ok hu2
  clear hu2
  rw [dp_fi_eq] at hu3
  cases hu3
  exact fun ad μ a b c e => sm_ixor hX d (k ad μ a b c e)
theorem dp_in_ishl {cl : List vw_C} {X : sm_X} {cc : ByteArray} {own : String} {Ts : List Cond} {rm : Room} {N S : Nat} {M : dp_M} (hX : sm_ok cl X cc M.2.1 own Ts M.2.2.1 rm N S M.2.2.2) {K : dp_K} {ys : Nat → MethodName} {wss : Nat → List Cond} {cf : dp_F} {fr lo : Nat} (hK : dp_Kok cl X.1.2.2.2 own Ts ys wss K) (hcf : dp_cfok cl X.1 ys wss fr lo cf) (hfr : fr + 1 ≤ rm.frames) (hlo : 32 + lo ≤ rm.locals) {ad0 : Nat → Nat} {sh0 : sm_S} {μ0 : sm_M} {pc len : Nat}  (d : decode cc pc = .ok (.ishl, len)) {L : List (Option Value)} {st : List Value} {sh : sm_S} {P : dp_P} {w : dp_w} {s' : dp_T} (h : dp_in K M cf pc L st sh P w .ishl len = some s') (hN : s'.2.2.2.1.length ≤ N) (hS : sm_sl s'.2.2.2.1 ≤ S) (k : dp_J cl X ad0 sh0 μ0 s') : dp_J cl X ad0 sh0 μ0 (pc, L, st, sh, P, w) := by
  obtain ⟨hl, hu1⟩ := dp_g_ok h
  clear h
  have hl := dp_beq hl
  subst hl
  obtain ⟨y, r, rfl, hu2⟩ := dp_1i_ok hu1
  clear hu1
  obtain ⟨x, r, rfl, hu3⟩ := dp_1i_ok hu2
  clear hu2
  rw [dp_fi_eq] at hu3
  cases hu3
  exact fun ad μ a b c e => sm_ishl hX d (k ad μ a b c e)
theorem dp_in_ishr {cl : List vw_C} {X : sm_X} {cc : ByteArray} {own : String} {Ts : List Cond} {rm : Room} {N S : Nat} {M : dp_M} (hX : sm_ok cl X cc M.2.1 own Ts M.2.2.1 rm N S M.2.2.2) {K : dp_K} {ys : Nat → MethodName} {wss : Nat → List Cond} {cf : dp_F} {fr lo : Nat} (hK : dp_Kok cl X.1.2.2.2 own Ts ys wss K) (hcf : dp_cfok cl X.1 ys wss fr lo cf) (hfr : fr + 1 ≤ rm.frames) (hlo : 32 + lo ≤ rm.locals) {ad0 : Nat → Nat} {sh0 : sm_S} {μ0 : sm_M} {pc len : Nat}  (d : decode cc pc = .ok (.ishr, len)) {L : List (Option Value)} {st : List Value} {sh : sm_S} {P : dp_P} {w : dp_w} {s' : dp_T} (h : dp_in K M cf pc L st sh P w .ishr len = some s') (hN : s'.2.2.2.1.length ≤ N) (hS : sm_sl s'.2.2.2.1 ≤ S) (k : dp_J cl X ad0 sh0 μ0 s') : dp_J cl X ad0 sh0 μ0 (pc, L, st, sh, P, w) := by
  obtain ⟨hl, hu1⟩ := dp_g_ok h
  clear h
  have hl := dp_beq hl
  subst hl
  obtain ⟨y, r, rfl, hu2⟩ := dp_1i_ok hu1
  clear hu1
  obtain ⟨x, r, rfl, hu3⟩ := dp_1i_ok hu2
  clear hu2
  rw [dp_fi_eq] at hu3
  cases hu3
  exact fun ad μ a b c e => sm_ishr hX d (k ad μ a b c e)
theorem dp_in_iushr {cl : List vw_C} {X : sm_X} {cc : ByteArray} {own : String} {Ts : List Cond} {rm : Room} {N S : Nat} {M : dp_M} (hX : sm_ok cl X cc M.2.1 own Ts M.2.2.1 rm N S M.2.2.2) {K : dp_K} {ys : Nat → MethodName} {wss : Nat → List Cond} {cf : dp_F} {fr lo : Nat} (hK : dp_Kok cl X.1.2.2.2 own Ts ys wss K) (hcf : dp_cfok cl X.1 ys wss fr lo cf) (hfr : fr + 1 ≤ rm.frames) (hlo : 32 + lo ≤ rm.locals) {ad0 : Nat → Nat} {sh0 : sm_S} {μ0 : sm_M} {pc len : Nat}  (d : decode cc pc = .ok (.iushr, len)) {L : List (Option Value)} {st : List Value} {sh : sm_S} {P : dp_P} {w : dp_w} {s' : dp_T} (h : dp_in K M cf pc L st sh P w .iushr len = some s') (hN : s'.2.2.2.1.length ≤ N) (hS : sm_sl s'.2.2.2.1 ≤ S) (k : dp_J cl X ad0 sh0 μ0 s') : dp_J cl X ad0 sh0 μ0 (pc, L, st, sh, P, w) := by
  obtain ⟨hl, hu1⟩ := dp_g_ok h
  clear h
  have hl := dp_beq hl
  subst hl
  obtain ⟨y, r, rfl, hu2⟩ := dp_1i_ok hu1
  clear hu1
  obtain ⟨x, r, rfl, hu3⟩ := dp_1i_ok hu2
  clear hu2
  rw [dp_fi_eq] at hu3
  cases hu3
  exact fun ad μ a b c e => sm_iushr hX d (k ad μ a b c e)
theorem dp_in_ladd {cl : List vw_C} {X : sm_X} {cc : ByteArray} {own : String} {Ts : List Cond} {rm : Room} {N S : Nat} {M : dp_M} (hX : sm_ok cl X cc M.2.1 own Ts M.2.2.1 rm N S M.2.2.2) {K : dp_K} {ys : Nat → MethodName} {wss : Nat → List Cond} {cf : dp_F} {fr lo : Nat} (hK : dp_Kok cl X.1.2.2.2 own Ts ys wss K) (hcf : dp_cfok cl X.1 ys wss fr lo cf) (hfr : fr + 1 ≤ rm.frames) (hlo : 32 + lo ≤ rm.locals) {ad0 : Nat → Nat} {sh0 : sm_S} {μ0 : sm_M} {pc len : Nat}  (d : decode cc pc = .ok (.ladd, len)) {L : List (Option Value)} {st : List Value} {sh : sm_S} {P : dp_P} {w : dp_w} {s' : dp_T} (h : dp_in K M cf pc L st sh P w .ladd len = some s') (hN : s'.2.2.2.1.length ≤ N) (hS : sm_sl s'.2.2.2.1 ≤ S) (k : dp_J cl X ad0 sh0 μ0 s') : dp_J cl X ad0 sh0 μ0 (pc, L, st, sh, P, w) := by
  obtain ⟨hl, hu1⟩ := dp_g_ok h
  clear h
  have hl := dp_beq hl
  subst hl
  obtain ⟨y, r, rfl, hu2⟩ := dp_1l_ok hu1
  clear hu1
  obtain ⟨x, r, rfl, hu3⟩ := dp_1l_ok hu2
  clear hu2
  rw [dp_fl_eq] at hu3
  cases hu3
  exact fun ad μ a b c e => sm_ladd hX d (k ad μ a b c e)
theorem dp_in_lsub {cl : List vw_C} {X : sm_X} {cc : ByteArray} {own : String} {Ts : List Cond} {rm : Room} {N S : Nat} {M : dp_M} (hX : sm_ok cl X cc M.2.1 own Ts M.2.2.1 rm N S M.2.2.2) {K : dp_K} {ys : Nat → MethodName} {wss : Nat → List Cond} {cf : dp_F} {fr lo : Nat} (hK : dp_Kok cl X.1.2.2.2 own Ts ys wss K) (hcf : dp_cfok cl X.1 ys wss fr lo cf) (hfr : fr + 1 ≤ rm.frames) (hlo : 32 + lo ≤ rm.locals) {ad0 : Nat → Nat} {sh0 : sm_S} {μ0 : sm_M} {pc len : Nat}  (d : decode cc pc = .ok (.lsub, len)) {L : List (Option Value)} {st : List Value} {sh : sm_S} {P : dp_P} {w : dp_w} {s' : dp_T} (h : dp_in K M cf pc L st sh P w .lsub len = some s') (hN : s'.2.2.2.1.length ≤ N) (hS : sm_sl s'.2.2.2.1 ≤ S) (k : dp_J cl X ad0 sh0 μ0 s') : dp_J cl X ad0 sh0 μ0 (pc, L, st, sh, P, w) := by
  obtain ⟨hl, hu1⟩ := dp_g_ok h
  clear h
  have hl := dp_beq hl
  subst hl
  obtain ⟨y, r, rfl, hu2⟩ := dp_1l_ok hu1
  clear hu1
  obtain ⟨x, r, rfl, hu3⟩ := dp_1l_ok hu2
  clear hu2
  rw [dp_fl_eq] at hu3
  cases hu3
  exact fun ad μ a b c e => sm_lsub hX d (k ad μ a b c e)
theorem dp_in_land {cl : List vw_C} {X : sm_X} {cc : ByteArray} {own : String} {Ts : List Cond} {rm : Room} {N S : Nat} {M : dp_M} (hX : sm_ok cl X cc M.2.1 own Ts M.2.2.1 rm N S M.2.2.2) {K : dp_K} {ys : Nat → MethodName} {wss : Nat → List Cond} {cf : dp_F} {fr lo : Nat} (hK : dp_Kok cl X.1.2.2.2 own Ts ys wss K) (hcf : dp_cfok cl X.1 ys wss fr lo cf) (hfr : fr + 1 ≤ rm.frames) (hlo : 32 + lo ≤ rm.locals) {ad0 : Nat → Nat} {sh0 : sm_S} {μ0 : sm_M} {pc len : Nat}  (d : decode cc pc = .ok (.land, len)) {L : List (Option Value)} {st : List Value} {sh : sm_S} {P : dp_P} {w : dp_w} {s' : dp_T} (h : dp_in K M cf pc L st sh P w .land len = some s') (hN : s'.2.2.2.1.length ≤ N) (hS : sm_sl s'.2.2.2.1 ≤ S) (k : dp_J cl X ad0 sh0 μ0 s') : dp_J cl X ad0 sh0 μ0 (pc, L, st, sh, P, w) := by
  obtain ⟨hl, hu1⟩ := dp_g_ok h
  clear h
  have hl := dp_beq hl
  subst hl
  obtain ⟨y, r, rfl, hu2⟩ := dp_1l_ok hu1
  clear hu1
  obtain ⟨x, r, rfl, hu3⟩ := dp_1l_ok hu2
  clear hu2
  rw [dp_fl_eq] at hu3
  cases hu3
  exact fun ad μ a b c e => sm_land hX d (k ad μ a b c e)
theorem dp_in_lor {cl : List vw_C} {X : sm_X} {cc : ByteArray} {own : String} {Ts : List Cond} {rm : Room} {N S : Nat} {M : dp_M} (hX : sm_ok cl X cc M.2.1 own Ts M.2.2.1 rm N S M.2.2.2) {K : dp_K} {ys : Nat → MethodName} {wss : Nat → List Cond} {cf : dp_F} {fr lo : Nat} (hK : dp_Kok cl X.1.2.2.2 own Ts ys wss K) (hcf : dp_cfok cl X.1 ys wss fr lo cf) (hfr : fr + 1 ≤ rm.frames) (hlo : 32 + lo ≤ rm.locals) {ad0 : Nat → Nat} {sh0 : sm_S} {μ0 : sm_M} {pc len : Nat}  (d : decode cc pc = .ok (.lor, len)) {L : List (Option Value)} {st : List Value} {sh : sm_S} {P : dp_P} {w : dp_w} {s' : dp_T} (h : dp_in K M cf pc L st sh P w .lor len = some s') (hN : s'.2.2.2.1.length ≤ N) (hS : sm_sl s'.2.2.2.1 ≤ S) (k : dp_J cl X ad0 sh0 μ0 s') : dp_J cl X ad0 sh0 μ0 (pc, L, st, sh, P, w) := by
  obtain ⟨hl, hu1⟩ := dp_g_ok h
  clear h
  have hl := dp_beq hl
  subst hl
  obtain ⟨y, r, rfl, hu2⟩ := dp_1l_ok hu1
  clear hu1
  obtain ⟨x, r, rfl, hu3⟩ := dp_1l_ok hu2
  clear hu2
  rw [dp_fl_eq] at hu3
  cases hu3
  exact fun ad μ a b c e => sm_lor hX d (k ad μ a b c e)
theorem dp_in_lxor {cl : List vw_C} {X : sm_X} {cc : ByteArray} {own : String} {Ts : List Cond} {rm : Room} {N S : Nat} {M : dp_M} (hX : sm_ok cl X cc M.2.1 own Ts M.2.2.1 rm N S M.2.2.2) {K : dp_K} {ys : Nat → MethodName} {wss : Nat → List Cond} {cf : dp_F} {fr lo : Nat} (hK : dp_Kok cl X.1.2.2.2 own Ts ys wss K) (hcf : dp_cfok cl X.1 ys wss fr lo cf) (hfr : fr + 1 ≤ rm.frames) (hlo : 32 + lo ≤ rm.locals) {ad0 : Nat → Nat} {sh0 : sm_S} {μ0 : sm_M} {pc len : Nat}  (d : decode cc pc = .ok (.lxor, len)) {L : List (Option Value)} {st : List Value} {sh : sm_S} {P : dp_P} {w : dp_w} {s' : dp_T} (h : dp_in K M cf pc L st sh P w .lxor len = some s') (hN : s'.2.2.2.1.length ≤ N) (hS : sm_sl s'.2.2.2.1 ≤ S) (k : dp_J cl X ad0 sh0 μ0 s') : dp_J cl X ad0 sh0 μ0 (pc, L, st, sh, P, w) := by
  obtain ⟨hl, hu1⟩ := dp_g_ok h
  clear h
  have hl := dp_beq hl
  subst hl
  obtain ⟨y, r, rfl, hu2⟩ := dp_1l_ok hu1
  clear hu1
  obtain ⟨x, r, rfl, hu3⟩ := dp_1l_ok hu2
  clear hu2
  rw [dp_fl_eq] at hu3
  cases hu3
  exact fun ad μ a b c e => sm_lxor hX d (k ad μ a b c e)
theorem dp_in_lushr {cl : List vw_C} {X : sm_X} {cc : ByteArray} {own : String} {Ts : List Cond} {rm : Room} {N S : Nat} {M : dp_M} (hX : sm_ok cl X cc M.2.1 own Ts M.2.2.1 rm N S M.2.2.2) {K : dp_K} {ys : Nat → MethodName} {wss : Nat → List Cond} {cf : dp_F} {fr lo : Nat} (hK : dp_Kok cl X.1.2.2.2 own Ts ys wss K) (hcf : dp_cfok cl X.1 ys wss fr lo cf) (hfr : fr + 1 ≤ rm.frames) (hlo : 32 + lo ≤ rm.locals) {ad0 : Nat → Nat} {sh0 : sm_S} {μ0 : sm_M} {pc len : Nat}  (d : decode cc pc = .ok (.lushr, len)) {L : List (Option Value)} {st : List Value} {sh : sm_S} {P : dp_P} {w : dp_w} {s' : dp_T} (h : dp_in K M cf pc L st sh P w .lushr len = some s') (hN : s'.2.2.2.1.length ≤ N) (hS : sm_sl s'.2.2.2.1 ≤ S) (k : dp_J cl X ad0 sh0 μ0 s') : dp_J cl X ad0 sh0 μ0 (pc, L, st, sh, P, w) := by
  obtain ⟨hl, hu1⟩ := dp_g_ok h
  clear h
  have hl := dp_beq hl
  subst hl
  obtain ⟨y, r, rfl, hu2⟩ := dp_1i_ok hu1
  clear hu1
  obtain ⟨x, r, rfl, hu3⟩ := dp_1l_ok hu2
  clear hu2
  rw [dp_fl_eq] at hu3
  cases hu3
  exact fun ad μ a b c e => sm_lushr hX d (k ad μ a b c e)
theorem dp_in_lshl {cl : List vw_C} {X : sm_X} {cc : ByteArray} {own : String} {Ts : List Cond} {rm : Room} {N S : Nat} {M : dp_M} (hX : sm_ok cl X cc M.2.1 own Ts M.2.2.1 rm N S M.2.2.2) {K : dp_K} {ys : Nat → MethodName} {wss : Nat → List Cond} {cf : dp_F} {fr lo : Nat} (hK : dp_Kok cl X.1.2.2.2 own Ts ys wss K) (hcf : dp_cfok cl X.1 ys wss fr lo cf) (hfr : fr + 1 ≤ rm.frames) (hlo : 32 + lo ≤ rm.locals) {ad0 : Nat → Nat} {sh0 : sm_S} {μ0 : sm_M} {pc len : Nat}  (d : decode cc pc = .ok (.lshl, len)) {L : List (Option Value)} {st : List Value} {sh : sm_S} {P : dp_P} {w : dp_w} {s' : dp_T} (h : dp_in K M cf pc L st sh P w .lshl len = some s') (hN : s'.2.2.2.1.length ≤ N) (hS : sm_sl s'.2.2.2.1 ≤ S) (k : dp_J cl X ad0 sh0 μ0 s') : dp_J cl X ad0 sh0 μ0 (pc, L, st, sh, P, w) := by
  obtain ⟨hl, hu1⟩ := dp_g_ok h
  clear h
  have hl := dp_beq hl
  subst hl
  obtain ⟨y, r, rfl, hu2⟩ := dp_1i_ok hu1
  clear hu1
  obtain ⟨x, r, rfl, hu3⟩ := dp_1l_ok hu2
  clear hu2
  rw [dp_fl_eq] at hu3
  cases hu3
  exact fun ad μ a b c e => sm_lshl hX d (k ad μ a b c e)
theorem dp_in_lshr {cl : List vw_C} {X : sm_X} {cc : ByteArray} {own : String} {Ts : List Cond} {rm : Room} {N S : Nat} {M : dp_M} (hX : sm_ok cl X cc M.2.1 own Ts M.2.2.1 rm N S M.2.2.2) {K : dp_K} {ys : Nat → MethodName} {wss : Nat → List Cond} {cf : dp_F} {fr lo : Nat} (hK : dp_Kok cl X.1.2.2.2 own Ts ys wss K) (hcf : dp_cfok cl X.1 ys wss fr lo cf) (hfr : fr + 1 ≤ rm.frames) (hlo : 32 + lo ≤ rm.locals) {ad0 : Nat → Nat} {sh0 : sm_S} {μ0 : sm_M} {pc len : Nat}  (d : decode cc pc = .ok (.lshr, len)) {L : List (Option Value)} {st : List Value} {sh : sm_S} {P : dp_P} {w : dp_w} {s' : dp_T} (h : dp_in K M cf pc L st sh P w .lshr len = some s') (hN : s'.2.2.2.1.length ≤ N) (hS : sm_sl s'.2.2.2.1 ≤ S) (k : dp_J cl X ad0 sh0 μ0 s') : dp_J cl X ad0 sh0 μ0 (pc, L, st, sh, P, w) := by
  obtain ⟨hl, hu1⟩ := dp_g_ok h
  clear h
  have hl := dp_beq hl
  subst hl
  obtain ⟨y, r, rfl, hu2⟩ := dp_1i_ok hu1
  clear hu1
  obtain ⟨x, r, rfl, hu3⟩ := dp_1l_ok hu2
  clear hu2
  rw [dp_fl_eq] at hu3
  cases hu3
  exact fun ad μ a b c e => sm_lshr hX d (k ad μ a b c e)
theorem dp_in_idiv {cl : List vw_C} {X : sm_X} {cc : ByteArray} {own : String} {Ts : List Cond} {rm : Room} {N S : Nat} {M : dp_M} (hX : sm_ok cl X cc M.2.1 own Ts M.2.2.1 rm N S M.2.2.2) {K : dp_K} {ys : Nat → MethodName} {wss : Nat → List Cond} {cf : dp_F} {fr lo : Nat} (hK : dp_Kok cl X.1.2.2.2 own Ts ys wss K) (hcf : dp_cfok cl X.1 ys wss fr lo cf) (hfr : fr + 1 ≤ rm.frames) (hlo : 32 + lo ≤ rm.locals) {ad0 : Nat → Nat} {sh0 : sm_S} {μ0 : sm_M} {pc len : Nat}  (d : decode cc pc = .ok (.idiv, len)) {L : List (Option Value)} {st : List Value} {sh : sm_S} {P : dp_P} {w : dp_w} {s' : dp_T} (h : dp_in K M cf pc L st sh P w .idiv len = some s') (hN : s'.2.2.2.1.length ≤ N) (hS : sm_sl s'.2.2.2.1 ≤ S) (k : dp_J cl X ad0 sh0 μ0 s') : dp_J cl X ad0 sh0 μ0 (pc, L, st, sh, P, w) := by
  obtain ⟨hl, hu1⟩ := dp_g_ok h
  clear h
  have hl := dp_beq hl
  subst hl
  obtain ⟨y, r, rfl, hu2⟩ := dp_1i_ok hu1
  clear hu1
  obtain ⟨x, r, rfl, hu3⟩ := dp_1i_ok hu2
  clear hu2
  obtain ⟨hne, hu4⟩ := dp_g_ok hu3
  clear hu3
  have hne : ¬ y = 0 := by simpa using hne
  rw [dp_fi_eq] at hu4
  cases hu4
  exact fun ad μ a b c e => sm_idiv hX d hne (k ad μ a b c e)
theorem dp_in_irem {cl : List vw_C} {X : sm_X} {cc : ByteArray} {own : String} {Ts : List Cond} {rm : Room} {N S : Nat} {M : dp_M} (hX : sm_ok cl X cc M.2.1 own Ts M.2.2.1 rm N S M.2.2.2) {K : dp_K} {ys : Nat → MethodName} {wss : Nat → List Cond} {cf : dp_F} {fr lo : Nat} (hK : dp_Kok cl X.1.2.2.2 own Ts ys wss K) (hcf : dp_cfok cl X.1 ys wss fr lo cf) (hfr : fr + 1 ≤ rm.frames) (hlo : 32 + lo ≤ rm.locals) {ad0 : Nat → Nat} {sh0 : sm_S} {μ0 : sm_M} {pc len : Nat}  (d : decode cc pc = .ok (.irem, len)) {L : List (Option Value)} {st : List Value} {sh : sm_S} {P : dp_P} {w : dp_w} {s' : dp_T} (h : dp_in K M cf pc L st sh P w .irem len = some s') (hN : s'.2.2.2.1.length ≤ N) (hS : sm_sl s'.2.2.2.1 ≤ S) (k : dp_J cl X ad0 sh0 μ0 s') : dp_J cl X ad0 sh0 μ0 (pc, L, st, sh, P, w) := by
  obtain ⟨hl, hu1⟩ := dp_g_ok h
  clear h
  have hl := dp_beq hl
  subst hl
  obtain ⟨y, r, rfl, hu2⟩ := dp_1i_ok hu1
  clear hu1
  obtain ⟨x, r, rfl, hu3⟩ := dp_1i_ok hu2
  clear hu2
  obtain ⟨hne, hu4⟩ := dp_g_ok hu3
  clear hu3
  have hne : ¬ y = 0 := by simpa using hne
  rw [dp_fi_eq] at hu4
  cases hu4
  exact fun ad μ a b c e => sm_irem hX d hne (k ad μ a b c e)
theorem dp_in_ineg {cl : List vw_C} {X : sm_X} {cc : ByteArray} {own : String} {Ts : List Cond} {rm : Room} {N S : Nat} {M : dp_M} (hX : sm_ok cl X cc M.2.1 own Ts M.2.2.1 rm N S M.2.2.2) {K : dp_K} {ys : Nat → MethodName} {wss : Nat → List Cond} {cf : dp_F} {fr lo : Nat} (hK : dp_Kok cl X.1.2.2.2 own Ts ys wss K) (hcf : dp_cfok cl X.1 ys wss fr lo cf) (hfr : fr + 1 ≤ rm.frames) (hlo : 32 + lo ≤ rm.locals) {ad0 : Nat → Nat} {sh0 : sm_S} {μ0 : sm_M} {pc len : Nat}  (d : decode cc pc = .ok (.ineg, len)) {L : List (Option Value)} {st : List Value} {sh : sm_S} {P : dp_P} {w : dp_w} {s' : dp_T} (h : dp_in K M cf pc L st sh P w .ineg len = some s') (hN : s'.2.2.2.1.length ≤ N) (hS : sm_sl s'.2.2.2.1 ≤ S) (k : dp_J cl X ad0 sh0 μ0 s') : dp_J cl X ad0 sh0 μ0 (pc, L, st, sh, P, w) := by
  obtain ⟨hl, hu1⟩ := dp_g_ok h
  clear h
  have hl := dp_beq hl
  subst hl
  obtain ⟨x, r, rfl, hu2⟩ := dp_1i_ok hu1
  clear hu1
  rw [dp_fi_eq] at hu2
  cases hu2
  exact fun ad μ a b c e => sm_ineg hX d (k ad μ a b c e)
theorem dp_in_lcmp {cl : List vw_C} {X : sm_X} {cc : ByteArray} {own : String} {Ts : List Cond} {rm : Room} {N S : Nat} {M : dp_M} (hX : sm_ok cl X cc M.2.1 own Ts M.2.2.1 rm N S M.2.2.2) {K : dp_K} {ys : Nat → MethodName} {wss : Nat → List Cond} {cf : dp_F} {fr lo : Nat} (hK : dp_Kok cl X.1.2.2.2 own Ts ys wss K) (hcf : dp_cfok cl X.1 ys wss fr lo cf) (hfr : fr + 1 ≤ rm.frames) (hlo : 32 + lo ≤ rm.locals) {ad0 : Nat → Nat} {sh0 : sm_S} {μ0 : sm_M} {pc len : Nat}  (d : decode cc pc = .ok (.lcmp, len)) {L : List (Option Value)} {st : List Value} {sh : sm_S} {P : dp_P} {w : dp_w} {s' : dp_T} (h : dp_in K M cf pc L st sh P w .lcmp len = some s') (hN : s'.2.2.2.1.length ≤ N) (hS : sm_sl s'.2.2.2.1 ≤ S) (k : dp_J cl X ad0 sh0 μ0 s') : dp_J cl X ad0 sh0 μ0 (pc, L, st, sh, P, w) := by
  obtain ⟨hl, hu1⟩ := dp_g_ok h
  clear h
  have hl := dp_beq hl
  subst hl
  obtain ⟨y, r, rfl, hu2⟩ := dp_1l_ok hu1
  clear hu1
  obtain ⟨x, r, rfl, hu3⟩ := dp_1l_ok hu2
  clear hu2
  rw [dp_fi_eq] at hu3
  cases hu3
  exact fun ad μ a b c e => sm_lcmp hX d (k ad μ a b c e)
theorem dp_in_i2l {cl : List vw_C} {X : sm_X} {cc : ByteArray} {own : String} {Ts : List Cond} {rm : Room} {N S : Nat} {M : dp_M} (hX : sm_ok cl X cc M.2.1 own Ts M.2.2.1 rm N S M.2.2.2) {K : dp_K} {ys : Nat → MethodName} {wss : Nat → List Cond} {cf : dp_F} {fr lo : Nat} (hK : dp_Kok cl X.1.2.2.2 own Ts ys wss K) (hcf : dp_cfok cl X.1 ys wss fr lo cf) (hfr : fr + 1 ≤ rm.frames) (hlo : 32 + lo ≤ rm.locals) {ad0 : Nat → Nat} {sh0 : sm_S} {μ0 : sm_M} {pc len : Nat}  (d : decode cc pc = .ok (.i2l, len)) {L : List (Option Value)} {st : List Value} {sh : sm_S} {P : dp_P} {w : dp_w} {s' : dp_T} (h : dp_in K M cf pc L st sh P w .i2l len = some s') (hN : s'.2.2.2.1.length ≤ N) (hS : sm_sl s'.2.2.2.1 ≤ S) (k : dp_J cl X ad0 sh0 μ0 s') : dp_J cl X ad0 sh0 μ0 (pc, L, st, sh, P, w) := by
  obtain ⟨hl, hu1⟩ := dp_g_ok h
  clear h
  have hl := dp_beq hl
  subst hl
  obtain ⟨x, r, rfl, hu2⟩ := dp_1i_ok hu1
  clear hu1
  rw [dp_fl_eq] at hu2
  cases hu2
  exact fun ad μ a b c e => sm_i2l hX d (k ad μ a b c e)
theorem dp_in_l2i {cl : List vw_C} {X : sm_X} {cc : ByteArray} {own : String} {Ts : List Cond} {rm : Room} {N S : Nat} {M : dp_M} (hX : sm_ok cl X cc M.2.1 own Ts M.2.2.1 rm N S M.2.2.2) {K : dp_K} {ys : Nat → MethodName} {wss : Nat → List Cond} {cf : dp_F} {fr lo : Nat} (hK : dp_Kok cl X.1.2.2.2 own Ts ys wss K) (hcf : dp_cfok cl X.1 ys wss fr lo cf) (hfr : fr + 1 ≤ rm.frames) (hlo : 32 + lo ≤ rm.locals) {ad0 : Nat → Nat} {sh0 : sm_S} {μ0 : sm_M} {pc len : Nat}  (d : decode cc pc = .ok (.l2i, len)) {L : List (Option Value)} {st : List Value} {sh : sm_S} {P : dp_P} {w : dp_w} {s' : dp_T} (h : dp_in K M cf pc L st sh P w .l2i len = some s') (hN : s'.2.2.2.1.length ≤ N) (hS : sm_sl s'.2.2.2.1 ≤ S) (k : dp_J cl X ad0 sh0 μ0 s') : dp_J cl X ad0 sh0 μ0 (pc, L, st, sh, P, w) := by
  obtain ⟨hl, hu1⟩ := dp_g_ok h
  clear h
  have hl := dp_beq hl
  subst hl
  obtain ⟨x, r, rfl, hu2⟩ := dp_1l_ok hu1
  clear hu1
  rw [dp_fi_eq] at hu2
  cases hu2
  exact fun ad μ a b c e => sm_l2i hX d (k ad μ a b c e)
theorem dp_in_iconst {cl : List vw_C} {X : sm_X} {cc : ByteArray} {own : String} {Ts : List Cond} {rm : Room} {N S : Nat} {M : dp_M} (hX : sm_ok cl X cc M.2.1 own Ts M.2.2.1 rm N S M.2.2.2) {K : dp_K} {ys : Nat → MethodName} {wss : Nat → List Cond} {cf : dp_F} {fr lo : Nat} (hK : dp_Kok cl X.1.2.2.2 own Ts ys wss K) (hcf : dp_cfok cl X.1 ys wss fr lo cf) (hfr : fr + 1 ≤ rm.frames) (hlo : 32 + lo ≤ rm.locals) {ad0 : Nat → Nat} {sh0 : sm_S} {μ0 : sm_M} {pc len : Nat} (i : Int) (d : decode cc pc = .ok ((.iconst i), len)) {L : List (Option Value)} {st : List Value} {sh : sm_S} {P : dp_P} {w : dp_w} {s' : dp_T} (h : dp_in K M cf pc L st sh P w (.iconst i) len = some s') (hN : s'.2.2.2.1.length ≤ N) (hS : sm_sl s'.2.2.2.1 ≤ S) (k : dp_J cl X ad0 sh0 μ0 s') : dp_J cl X ad0 sh0 μ0 (pc, L, st, sh, P, w) := by
  obtain ⟨hl, hu1⟩ := dp_g_ok h
  clear h
  have hl := dp_beq hl
  subst hl
  rw [dp_fi_eq] at hu1
  cases hu1
  exact fun ad μ a b c e => sm_iconst hX d (k ad μ a b c e)
theorem dp_in_bipush {cl : List vw_C} {X : sm_X} {cc : ByteArray} {own : String} {Ts : List Cond} {rm : Room} {N S : Nat} {M : dp_M} (hX : sm_ok cl X cc M.2.1 own Ts M.2.2.1 rm N S M.2.2.2) {K : dp_K} {ys : Nat → MethodName} {wss : Nat → List Cond} {cf : dp_F} {fr lo : Nat} (hK : dp_Kok cl X.1.2.2.2 own Ts ys wss K) (hcf : dp_cfok cl X.1 ys wss fr lo cf) (hfr : fr + 1 ≤ rm.frames) (hlo : 32 + lo ≤ rm.locals) {ad0 : Nat → Nat} {sh0 : sm_S} {μ0 : sm_M} {pc len : Nat} (i : Int) (d : decode cc pc = .ok ((.bipush i), len)) {L : List (Option Value)} {st : List Value} {sh : sm_S} {P : dp_P} {w : dp_w} {s' : dp_T} (h : dp_in K M cf pc L st sh P w (.bipush i) len = some s') (hN : s'.2.2.2.1.length ≤ N) (hS : sm_sl s'.2.2.2.1 ≤ S) (k : dp_J cl X ad0 sh0 μ0 s') : dp_J cl X ad0 sh0 μ0 (pc, L, st, sh, P, w) := by
  obtain ⟨hl, hu1⟩ := dp_g_ok h
  clear h
  have hl := dp_beq hl
  subst hl
  rw [dp_fi_eq] at hu1
  cases hu1
  exact fun ad μ a b c e => sm_bipush hX d (k ad μ a b c e)
theorem dp_in_sipush {cl : List vw_C} {X : sm_X} {cc : ByteArray} {own : String} {Ts : List Cond} {rm : Room} {N S : Nat} {M : dp_M} (hX : sm_ok cl X cc M.2.1 own Ts M.2.2.1 rm N S M.2.2.2) {K : dp_K} {ys : Nat → MethodName} {wss : Nat → List Cond} {cf : dp_F} {fr lo : Nat} (hK : dp_Kok cl X.1.2.2.2 own Ts ys wss K) (hcf : dp_cfok cl X.1 ys wss fr lo cf) (hfr : fr + 1 ≤ rm.frames) (hlo : 32 + lo ≤ rm.locals) {ad0 : Nat → Nat} {sh0 : sm_S} {μ0 : sm_M} {pc len : Nat} (i : Int) (d : decode cc pc = .ok ((.sipush i), len)) {L : List (Option Value)} {st : List Value} {sh : sm_S} {P : dp_P} {w : dp_w} {s' : dp_T} (h : dp_in K M cf pc L st sh P w (.sipush i) len = some s') (hN : s'.2.2.2.1.length ≤ N) (hS : sm_sl s'.2.2.2.1 ≤ S) (k : dp_J cl X ad0 sh0 μ0 s') : dp_J cl X ad0 sh0 μ0 (pc, L, st, sh, P, w) := by
  obtain ⟨hl, hu1⟩ := dp_g_ok h
  clear h
  have hl := dp_beq hl
  subst hl
  rw [dp_fi_eq] at hu1
  cases hu1
  exact fun ad μ a b c e => sm_sipush hX d (k ad μ a b c e)
theorem dp_in_lconst {cl : List vw_C} {X : sm_X} {cc : ByteArray} {own : String} {Ts : List Cond} {rm : Room} {N S : Nat} {M : dp_M} (hX : sm_ok cl X cc M.2.1 own Ts M.2.2.1 rm N S M.2.2.2) {K : dp_K} {ys : Nat → MethodName} {wss : Nat → List Cond} {cf : dp_F} {fr lo : Nat} (hK : dp_Kok cl X.1.2.2.2 own Ts ys wss K) (hcf : dp_cfok cl X.1 ys wss fr lo cf) (hfr : fr + 1 ≤ rm.frames) (hlo : 32 + lo ≤ rm.locals) {ad0 : Nat → Nat} {sh0 : sm_S} {μ0 : sm_M} {pc len : Nat} (i : Fin 2) (d : decode cc pc = .ok ((.lconst i), len)) {L : List (Option Value)} {st : List Value} {sh : sm_S} {P : dp_P} {w : dp_w} {s' : dp_T} (h : dp_in K M cf pc L st sh P w (.lconst i) len = some s') (hN : s'.2.2.2.1.length ≤ N) (hS : sm_sl s'.2.2.2.1 ≤ S) (k : dp_J cl X ad0 sh0 μ0 s') : dp_J cl X ad0 sh0 μ0 (pc, L, st, sh, P, w) := by
  obtain ⟨hl, hu1⟩ := dp_g_ok h
  clear h
  have hl := dp_beq hl
  subst hl
  rw [dp_fl_eq] at hu1
  cases hu1
  exact fun ad μ a b c e => sm_lconst hX d (k ad μ a b c e)
theorem dp_in_ldc {cl : List vw_C} {X : sm_X} {cc : ByteArray} {own : String} {Ts : List Cond} {rm : Room} {N S : Nat} {M : dp_M} (hX : sm_ok cl X cc M.2.1 own Ts M.2.2.1 rm N S M.2.2.2) {K : dp_K} {ys : Nat → MethodName} {wss : Nat → List Cond} {cf : dp_F} {fr lo : Nat} (hK : dp_Kok cl X.1.2.2.2 own Ts ys wss K) (hcf : dp_cfok cl X.1 ys wss fr lo cf) (hfr : fr + 1 ≤ rm.frames) (hlo : 32 + lo ≤ rm.locals) {ad0 : Nat → Nat} {sh0 : sm_S} {μ0 : sm_M} {pc len : Nat} (i : Nat) (d : decode cc pc = .ok ((.ldc i), len)) {L : List (Option Value)} {st : List Value} {sh : sm_S} {P : dp_P} {w : dp_w} {s' : dp_T} (h : dp_in K M cf pc L st sh P w (.ldc i) len = some s') (hN : s'.2.2.2.1.length ≤ N) (hS : sm_sl s'.2.2.2.1 ≤ S) (k : dp_J cl X ad0 sh0 μ0 s') : dp_J cl X ad0 sh0 μ0 (pc, L, st, sh, P, w) := by
  obtain ⟨hl, hu1⟩ := dp_g_ok h
  clear h
  have hl := dp_beq hl
  subst hl
  obtain ⟨v, hv, hu2⟩ := dp_o_ok hu1
  clear hu1
  cases hu2
  exact fun ad μ a b c e => sm_ldc hX d (hK.2.1 _ _ hv) (k ad μ a b c e)
theorem dp_in_ldc2_w {cl : List vw_C} {X : sm_X} {cc : ByteArray} {own : String} {Ts : List Cond} {rm : Room} {N S : Nat} {M : dp_M} (hX : sm_ok cl X cc M.2.1 own Ts M.2.2.1 rm N S M.2.2.2) {K : dp_K} {ys : Nat → MethodName} {wss : Nat → List Cond} {cf : dp_F} {fr lo : Nat} (hK : dp_Kok cl X.1.2.2.2 own Ts ys wss K) (hcf : dp_cfok cl X.1 ys wss fr lo cf) (hfr : fr + 1 ≤ rm.frames) (hlo : 32 + lo ≤ rm.locals) {ad0 : Nat → Nat} {sh0 : sm_S} {μ0 : sm_M} {pc len : Nat} (i : Nat) (d : decode cc pc = .ok ((.ldc2_w i), len)) {L : List (Option Value)} {st : List Value} {sh : sm_S} {P : dp_P} {w : dp_w} {s' : dp_T} (h : dp_in K M cf pc L st sh P w (.ldc2_w i) len = some s') (hN : s'.2.2.2.1.length ≤ N) (hS : sm_sl s'.2.2.2.1 ≤ S) (k : dp_J cl X ad0 sh0 μ0 s') : dp_J cl X ad0 sh0 μ0 (pc, L, st, sh, P, w) := by
  obtain ⟨hl, hu1⟩ := dp_g_ok h
  clear h
  have hl := dp_beq hl
  subst hl
  obtain ⟨v, hv, hu2⟩ := dp_o_ok hu1
  clear hu1
  cases hu2
  exact fun ad μ a b c e => sm_ldc2 hX d (hK.2.2.1 _ _ hv) (k ad μ a b c e)
theorem dp_in_dup {cl : List vw_C} {X : sm_X} {cc : ByteArray} {own : String} {Ts : List Cond} {rm : Room} {N S : Nat} {M : dp_M} (hX : sm_ok cl X cc M.2.1 own Ts M.2.2.1 rm N S M.2.2.2) {K : dp_K} {ys : Nat → MethodName} {wss : Nat → List Cond} {cf : dp_F} {fr lo : Nat} (hK : dp_Kok cl X.1.2.2.2 own Ts ys wss K) (hcf : dp_cfok cl X.1 ys wss fr lo cf) (hfr : fr + 1 ≤ rm.frames) (hlo : 32 + lo ≤ rm.locals) {ad0 : Nat → Nat} {sh0 : sm_S} {μ0 : sm_M} {pc len : Nat}  (d : decode cc pc = .ok (.dup, len)) {L : List (Option Value)} {st : List Value} {sh : sm_S} {P : dp_P} {w : dp_w} {s' : dp_T} (h : dp_in K M cf pc L st sh P w .dup len = some s') (hN : s'.2.2.2.1.length ≤ N) (hS : sm_sl s'.2.2.2.1 ≤ S) (k : dp_J cl X ad0 sh0 μ0 s') : dp_J cl X ad0 sh0 μ0 (pc, L, st, sh, P, w) := by
  obtain ⟨hl, hu1⟩ := dp_g_ok h
  clear h
  have hl := dp_beq hl
  subst hl
  obtain ⟨x, r, rfl, hu2⟩ := dp_1v_ok hu1
  clear hu1
  obtain ⟨h1, hu3⟩ := dp_g_ok hu2
  clear hu2
  have h1 := dp_beq h1
  cases hu3
  exact fun ad μ a b c e => sm_dup hX d h1 (k ad μ a b c e)
theorem dp_in_pop {cl : List vw_C} {X : sm_X} {cc : ByteArray} {own : String} {Ts : List Cond} {rm : Room} {N S : Nat} {M : dp_M} (hX : sm_ok cl X cc M.2.1 own Ts M.2.2.1 rm N S M.2.2.2) {K : dp_K} {ys : Nat → MethodName} {wss : Nat → List Cond} {cf : dp_F} {fr lo : Nat} (hK : dp_Kok cl X.1.2.2.2 own Ts ys wss K) (hcf : dp_cfok cl X.1 ys wss fr lo cf) (hfr : fr + 1 ≤ rm.frames) (hlo : 32 + lo ≤ rm.locals) {ad0 : Nat → Nat} {sh0 : sm_S} {μ0 : sm_M} {pc len : Nat}  (d : decode cc pc = .ok (.pop, len)) {L : List (Option Value)} {st : List Value} {sh : sm_S} {P : dp_P} {w : dp_w} {s' : dp_T} (h : dp_in K M cf pc L st sh P w .pop len = some s') (hN : s'.2.2.2.1.length ≤ N) (hS : sm_sl s'.2.2.2.1 ≤ S) (k : dp_J cl X ad0 sh0 μ0 s') : dp_J cl X ad0 sh0 μ0 (pc, L, st, sh, P, w) := by
  obtain ⟨hl, hu1⟩ := dp_g_ok h
  clear h
  have hl := dp_beq hl
  subst hl
  obtain ⟨x, r, rfl, hu2⟩ := dp_1v_ok hu1
  clear hu1
  obtain ⟨h1, hu3⟩ := dp_g_ok hu2
  clear hu2
  have h1 := dp_beq h1
  cases hu3
  exact fun ad μ a b c e => sm_pop hX d h1 (k ad μ a b c e)
theorem dp_in_dup_x1 {cl : List vw_C} {X : sm_X} {cc : ByteArray} {own : String} {Ts : List Cond} {rm : Room} {N S : Nat} {M : dp_M} (hX : sm_ok cl X cc M.2.1 own Ts M.2.2.1 rm N S M.2.2.2) {K : dp_K} {ys : Nat → MethodName} {wss : Nat → List Cond} {cf : dp_F} {fr lo : Nat} (hK : dp_Kok cl X.1.2.2.2 own Ts ys wss K) (hcf : dp_cfok cl X.1 ys wss fr lo cf) (hfr : fr + 1 ≤ rm.frames) (hlo : 32 + lo ≤ rm.locals) {ad0 : Nat → Nat} {sh0 : sm_S} {μ0 : sm_M} {pc len : Nat}  (d : decode cc pc = .ok (.dup_x1, len)) {L : List (Option Value)} {st : List Value} {sh : sm_S} {P : dp_P} {w : dp_w} {s' : dp_T} (h : dp_in K M cf pc L st sh P w .dup_x1 len = some s') (hN : s'.2.2.2.1.length ≤ N) (hS : sm_sl s'.2.2.2.1 ≤ S) (k : dp_J cl X ad0 sh0 μ0 s') : dp_J cl X ad0 sh0 μ0 (pc, L, st, sh, P, w) := by
  obtain ⟨hl, hu1⟩ := dp_g_ok h
  clear h
  have hl := dp_beq hl
  subst hl
  obtain ⟨x, r, rfl, hu2⟩ := dp_1v_ok hu1
  clear hu1
  obtain ⟨y, r, rfl, hu3⟩ := dp_1v_ok hu2
  clear hu2
  obtain ⟨h1, hu4⟩ := dp_g_ok hu3
  clear hu3
  have h1 := dp_beq h1
  obtain ⟨h2, hu5⟩ := dp_g_ok hu4
  clear hu4
  have h2 := dp_beq h2
  cases hu5
  exact fun ad μ a b c e => sm_dup_x1 hX d h1 h2 (k ad μ a b c e)
theorem dp_in_dup2 {cl : List vw_C} {X : sm_X} {cc : ByteArray} {own : String} {Ts : List Cond} {rm : Room} {N S : Nat} {M : dp_M} (hX : sm_ok cl X cc M.2.1 own Ts M.2.2.1 rm N S M.2.2.2) {K : dp_K} {ys : Nat → MethodName} {wss : Nat → List Cond} {cf : dp_F} {fr lo : Nat} (hK : dp_Kok cl X.1.2.2.2 own Ts ys wss K) (hcf : dp_cfok cl X.1 ys wss fr lo cf) (hfr : fr + 1 ≤ rm.frames) (hlo : 32 + lo ≤ rm.locals) {ad0 : Nat → Nat} {sh0 : sm_S} {μ0 : sm_M} {pc len : Nat}  (d : decode cc pc = .ok (.dup2, len)) {L : List (Option Value)} {st : List Value} {sh : sm_S} {P : dp_P} {w : dp_w} {s' : dp_T} (h : dp_in K M cf pc L st sh P w .dup2 len = some s') (hN : s'.2.2.2.1.length ≤ N) (hS : sm_sl s'.2.2.2.1 ≤ S) (k : dp_J cl X ad0 sh0 μ0 s') : dp_J cl X ad0 sh0 μ0 (pc, L, st, sh, P, w) := by
  obtain ⟨hl, hu1⟩ := dp_g_ok h
  clear h
  have hl := dp_beq hl
  subst hl
  obtain ⟨x, r, rfl, hu2⟩ := dp_1v_ok hu1
  clear hu1
  obtain ⟨y, r, rfl, hu3⟩ := dp_1v_ok hu2
  clear hu2
  obtain ⟨h1, hu4⟩ := dp_g_ok hu3
  clear hu3
  have h1 := dp_beq h1
  obtain ⟨h2, hu5⟩ := dp_g_ok hu4
  clear hu4
  have h2 := dp_beq h2
  cases hu5
  exact fun ad μ a b c e => sm_dup2 hX d h1 h2 (k ad μ a b c e)
theorem dp_in_iload {cl : List vw_C} {X : sm_X} {cc : ByteArray} {own : String} {Ts : List Cond} {rm : Room} {N S : Nat} {M : dp_M} (hX : sm_ok cl X cc M.2.1 own Ts M.2.2.1 rm N S M.2.2.2) {K : dp_K} {ys : Nat → MethodName} {wss : Nat → List Cond} {cf : dp_F} {fr lo : Nat} (hK : dp_Kok cl X.1.2.2.2 own Ts ys wss K) (hcf : dp_cfok cl X.1 ys wss fr lo cf) (hfr : fr + 1 ≤ rm.frames) (hlo : 32 + lo ≤ rm.locals) {ad0 : Nat → Nat} {sh0 : sm_S} {μ0 : sm_M} {pc len : Nat} (i : Nat) (d : decode cc pc = .ok ((.iload i), len)) {L : List (Option Value)} {st : List Value} {sh : sm_S} {P : dp_P} {w : dp_w} {s' : dp_T} (h : dp_in K M cf pc L st sh P w (.iload i) len = some s') (hN : s'.2.2.2.1.length ≤ N) (hS : sm_sl s'.2.2.2.1 ≤ S) (k : dp_J cl X ad0 sh0 μ0 s') : dp_J cl X ad0 sh0 μ0 (pc, L, st, sh, P, w) := by
  obtain ⟨hl, hu1⟩ := dp_g_ok h
  clear h
  have hl := dp_beq hl
  subst hl
  obtain ⟨x, hx, hu2⟩ := dp_li_ok hu1
  clear hu1
  cases hu2
  exact fun ad μ a b c e => sm_iloadG hX d hx (k ad μ a b c e)
theorem dp_in_iload_n {cl : List vw_C} {X : sm_X} {cc : ByteArray} {own : String} {Ts : List Cond} {rm : Room} {N S : Nat} {M : dp_M} (hX : sm_ok cl X cc M.2.1 own Ts M.2.2.1 rm N S M.2.2.2) {K : dp_K} {ys : Nat → MethodName} {wss : Nat → List Cond} {cf : dp_F} {fr lo : Nat} (hK : dp_Kok cl X.1.2.2.2 own Ts ys wss K) (hcf : dp_cfok cl X.1 ys wss fr lo cf) (hfr : fr + 1 ≤ rm.frames) (hlo : 32 + lo ≤ rm.locals) {ad0 : Nat → Nat} {sh0 : sm_S} {μ0 : sm_M} {pc len : Nat} (i : Fin 4) (d : decode cc pc = .ok ((.iload_n i), len)) {L : List (Option Value)} {st : List Value} {sh : sm_S} {P : dp_P} {w : dp_w} {s' : dp_T} (h : dp_in K M cf pc L st sh P w (.iload_n i) len = some s') (hN : s'.2.2.2.1.length ≤ N) (hS : sm_sl s'.2.2.2.1 ≤ S) (k : dp_J cl X ad0 sh0 μ0 s') : dp_J cl X ad0 sh0 μ0 (pc, L, st, sh, P, w) := by
  obtain ⟨hl, hu1⟩ := dp_g_ok h
  clear h
  have hl := dp_beq hl
  subst hl
  obtain ⟨x, hx, hu2⟩ := dp_li_ok hu1
  clear hu1
  cases hu2
  exact fun ad μ a b c e => sm_iloadN hX d hx (k ad μ a b c e)
theorem dp_in_istore {cl : List vw_C} {X : sm_X} {cc : ByteArray} {own : String} {Ts : List Cond} {rm : Room} {N S : Nat} {M : dp_M} (hX : sm_ok cl X cc M.2.1 own Ts M.2.2.1 rm N S M.2.2.2) {K : dp_K} {ys : Nat → MethodName} {wss : Nat → List Cond} {cf : dp_F} {fr lo : Nat} (hK : dp_Kok cl X.1.2.2.2 own Ts ys wss K) (hcf : dp_cfok cl X.1 ys wss fr lo cf) (hfr : fr + 1 ≤ rm.frames) (hlo : 32 + lo ≤ rm.locals) {ad0 : Nat → Nat} {sh0 : sm_S} {μ0 : sm_M} {pc len : Nat} (i : Nat) (d : decode cc pc = .ok ((.istore i), len)) {L : List (Option Value)} {st : List Value} {sh : sm_S} {P : dp_P} {w : dp_w} {s' : dp_T} (h : dp_in K M cf pc L st sh P w (.istore i) len = some s') (hN : s'.2.2.2.1.length ≤ N) (hS : sm_sl s'.2.2.2.1 ≤ S) (k : dp_J cl X ad0 sh0 μ0 s') : dp_J cl X ad0 sh0 μ0 (pc, L, st, sh, P, w) := by
  obtain ⟨hl, hu1⟩ := dp_g_ok h
  clear h
  have hl := dp_beq hl
  subst hl
  obtain ⟨x, r, rfl, hu2⟩ := dp_1i_ok hu1
  clear hu1
  obtain ⟨h1, hu3⟩ := dp_g_ok hu2
  clear hu2
  obtain ⟨h2, hu4⟩ := dp_g_ok hu3
  clear hu3
  have h2 := Nat.le_of_ble_eq_true h2
  cases hu4
  exact fun ad μ a b c e => sm_istoreG hX d h1 (by omega) (k ad μ a b c e)
theorem dp_in_istore_n {cl : List vw_C} {X : sm_X} {cc : ByteArray} {own : String} {Ts : List Cond} {rm : Room} {N S : Nat} {M : dp_M} (hX : sm_ok cl X cc M.2.1 own Ts M.2.2.1 rm N S M.2.2.2) {K : dp_K} {ys : Nat → MethodName} {wss : Nat → List Cond} {cf : dp_F} {fr lo : Nat} (hK : dp_Kok cl X.1.2.2.2 own Ts ys wss K) (hcf : dp_cfok cl X.1 ys wss fr lo cf) (hfr : fr + 1 ≤ rm.frames) (hlo : 32 + lo ≤ rm.locals) {ad0 : Nat → Nat} {sh0 : sm_S} {μ0 : sm_M} {pc len : Nat} (i : Fin 4) (d : decode cc pc = .ok ((.istore_n i), len)) {L : List (Option Value)} {st : List Value} {sh : sm_S} {P : dp_P} {w : dp_w} {s' : dp_T} (h : dp_in K M cf pc L st sh P w (.istore_n i) len = some s') (hN : s'.2.2.2.1.length ≤ N) (hS : sm_sl s'.2.2.2.1 ≤ S) (k : dp_J cl X ad0 sh0 μ0 s') : dp_J cl X ad0 sh0 μ0 (pc, L, st, sh, P, w) := by
  obtain ⟨hl, hu1⟩ := dp_g_ok h
  clear h
  have hl := dp_beq hl
  subst hl
  obtain ⟨x, r, rfl, hu2⟩ := dp_1i_ok hu1
  clear hu1
  obtain ⟨h1, hu3⟩ := dp_g_ok hu2
  clear hu2
  obtain ⟨h2, hu4⟩ := dp_g_ok hu3
  clear hu3
  have h2 := Nat.le_of_ble_eq_true h2
  cases hu4
  exact fun ad μ a b c e => sm_istoreN hX d h1 (by omega) (k ad μ a b c e)
theorem dp_in_lload {cl : List vw_C} {X : sm_X} {cc : ByteArray} {own : String} {Ts : List Cond} {rm : Room} {N S : Nat} {M : dp_M} (hX : sm_ok cl X cc M.2.1 own Ts M.2.2.1 rm N S M.2.2.2) {K : dp_K} {ys : Nat → MethodName} {wss : Nat → List Cond} {cf : dp_F} {fr lo : Nat} (hK : dp_Kok cl X.1.2.2.2 own Ts ys wss K) (hcf : dp_cfok cl X.1 ys wss fr lo cf) (hfr : fr + 1 ≤ rm.frames) (hlo : 32 + lo ≤ rm.locals) {ad0 : Nat → Nat} {sh0 : sm_S} {μ0 : sm_M} {pc len : Nat} (i : Nat) (d : decode cc pc = .ok ((.lload i), len)) {L : List (Option Value)} {st : List Value} {sh : sm_S} {P : dp_P} {w : dp_w} {s' : dp_T} (h : dp_in K M cf pc L st sh P w (.lload i) len = some s') (hN : s'.2.2.2.1.length ≤ N) (hS : sm_sl s'.2.2.2.1 ≤ S) (k : dp_J cl X ad0 sh0 μ0 s') : dp_J cl X ad0 sh0 μ0 (pc, L, st, sh, P, w) := by
  obtain ⟨hl, hu1⟩ := dp_g_ok h
  clear h
  have hl := dp_beq hl
  subst hl
  obtain ⟨x, hx, hu2⟩ := dp_ll_ok hu1
  clear hu1
  cases hu2
  exact fun ad μ a b c e => sm_lloadG hX d hx (k ad μ a b c e)
theorem dp_in_lload_n {cl : List vw_C} {X : sm_X} {cc : ByteArray} {own : String} {Ts : List Cond} {rm : Room} {N S : Nat} {M : dp_M} (hX : sm_ok cl X cc M.2.1 own Ts M.2.2.1 rm N S M.2.2.2) {K : dp_K} {ys : Nat → MethodName} {wss : Nat → List Cond} {cf : dp_F} {fr lo : Nat} (hK : dp_Kok cl X.1.2.2.2 own Ts ys wss K) (hcf : dp_cfok cl X.1 ys wss fr lo cf) (hfr : fr + 1 ≤ rm.frames) (hlo : 32 + lo ≤ rm.locals) {ad0 : Nat → Nat} {sh0 : sm_S} {μ0 : sm_M} {pc len : Nat} (i : Fin 4) (d : decode cc pc = .ok ((.lload_n i), len)) {L : List (Option Value)} {st : List Value} {sh : sm_S} {P : dp_P} {w : dp_w} {s' : dp_T} (h : dp_in K M cf pc L st sh P w (.lload_n i) len = some s') (hN : s'.2.2.2.1.length ≤ N) (hS : sm_sl s'.2.2.2.1 ≤ S) (k : dp_J cl X ad0 sh0 μ0 s') : dp_J cl X ad0 sh0 μ0 (pc, L, st, sh, P, w) := by
  obtain ⟨hl, hu1⟩ := dp_g_ok h
  clear h
  have hl := dp_beq hl
  subst hl
  obtain ⟨x, hx, hu2⟩ := dp_ll_ok hu1
  clear hu1
  cases hu2
  exact fun ad μ a b c e => sm_lloadN hX d hx (k ad μ a b c e)
theorem dp_in_lstore {cl : List vw_C} {X : sm_X} {cc : ByteArray} {own : String} {Ts : List Cond} {rm : Room} {N S : Nat} {M : dp_M} (hX : sm_ok cl X cc M.2.1 own Ts M.2.2.1 rm N S M.2.2.2) {K : dp_K} {ys : Nat → MethodName} {wss : Nat → List Cond} {cf : dp_F} {fr lo : Nat} (hK : dp_Kok cl X.1.2.2.2 own Ts ys wss K) (hcf : dp_cfok cl X.1 ys wss fr lo cf) (hfr : fr + 1 ≤ rm.frames) (hlo : 32 + lo ≤ rm.locals) {ad0 : Nat → Nat} {sh0 : sm_S} {μ0 : sm_M} {pc len : Nat} (i : Nat) (d : decode cc pc = .ok ((.lstore i), len)) {L : List (Option Value)} {st : List Value} {sh : sm_S} {P : dp_P} {w : dp_w} {s' : dp_T} (h : dp_in K M cf pc L st sh P w (.lstore i) len = some s') (hN : s'.2.2.2.1.length ≤ N) (hS : sm_sl s'.2.2.2.1 ≤ S) (k : dp_J cl X ad0 sh0 μ0 s') : dp_J cl X ad0 sh0 μ0 (pc, L, st, sh, P, w) := by
  obtain ⟨hl, hu1⟩ := dp_g_ok h
  clear h
  have hl := dp_beq hl
  subst hl
  obtain ⟨x, r, rfl, hu2⟩ := dp_1l_ok hu1
  clear hu1
  obtain ⟨h1, hu3⟩ := dp_g_ok hu2
  clear hu2
  obtain ⟨h2, hu4⟩ := dp_g_ok hu3
  clear hu3
  have h2 := Nat.le_of_ble_eq_true h2
  cases hu4
  exact fun ad μ a b c e => sm_lstoreG hX d h1 (by omega) (k ad μ a b c e)
theorem dp_in_lstore_n {cl : List vw_C} {X : sm_X} {cc : ByteArray} {own : String} {Ts : List Cond} {rm : Room} {N S : Nat} {M : dp_M} (hX : sm_ok cl X cc M.2.1 own Ts M.2.2.1 rm N S M.2.2.2) {K : dp_K} {ys : Nat → MethodName} {wss : Nat → List Cond} {cf : dp_F} {fr lo : Nat} (hK : dp_Kok cl X.1.2.2.2 own Ts ys wss K) (hcf : dp_cfok cl X.1 ys wss fr lo cf) (hfr : fr + 1 ≤ rm.frames) (hlo : 32 + lo ≤ rm.locals) {ad0 : Nat → Nat} {sh0 : sm_S} {μ0 : sm_M} {pc len : Nat} (i : Fin 4) (d : decode cc pc = .ok ((.lstore_n i), len)) {L : List (Option Value)} {st : List Value} {sh : sm_S} {P : dp_P} {w : dp_w} {s' : dp_T} (h : dp_in K M cf pc L st sh P w (.lstore_n i) len = some s') (hN : s'.2.2.2.1.length ≤ N) (hS : sm_sl s'.2.2.2.1 ≤ S) (k : dp_J cl X ad0 sh0 μ0 s') : dp_J cl X ad0 sh0 μ0 (pc, L, st, sh, P, w) := by
  obtain ⟨hl, hu1⟩ := dp_g_ok h
  clear h
  have hl := dp_beq hl
  subst hl
  obtain ⟨x, r, rfl, hu2⟩ := dp_1l_ok hu1
  clear hu1
  obtain ⟨h1, hu3⟩ := dp_g_ok hu2
  clear hu2
  obtain ⟨h2, hu4⟩ := dp_g_ok hu3
  clear hu3
  have h2 := Nat.le_of_ble_eq_true h2
  cases hu4
  exact fun ad μ a b c e => sm_lstoreN hX d h1 (by omega) (k ad μ a b c e)
theorem dp_in_aload {cl : List vw_C} {X : sm_X} {cc : ByteArray} {own : String} {Ts : List Cond} {rm : Room} {N S : Nat} {M : dp_M} (hX : sm_ok cl X cc M.2.1 own Ts M.2.2.1 rm N S M.2.2.2) {K : dp_K} {ys : Nat → MethodName} {wss : Nat → List Cond} {cf : dp_F} {fr lo : Nat} (hK : dp_Kok cl X.1.2.2.2 own Ts ys wss K) (hcf : dp_cfok cl X.1 ys wss fr lo cf) (hfr : fr + 1 ≤ rm.frames) (hlo : 32 + lo ≤ rm.locals) {ad0 : Nat → Nat} {sh0 : sm_S} {μ0 : sm_M} {pc len : Nat} (i : Nat) (d : decode cc pc = .ok ((.aload i), len)) {L : List (Option Value)} {st : List Value} {sh : sm_S} {P : dp_P} {w : dp_w} {s' : dp_T} (h : dp_in K M cf pc L st sh P w (.aload i) len = some s') (hN : s'.2.2.2.1.length ≤ N) (hS : sm_sl s'.2.2.2.1 ≤ S) (k : dp_J cl X ad0 sh0 μ0 s') : dp_J cl X ad0 sh0 μ0 (pc, L, st, sh, P, w) := by
  obtain ⟨hl, hu1⟩ := dp_g_ok h
  clear h
  have hl := dp_beq hl
  subst hl
  obtain ⟨x, hx, hu2⟩ := dp_la_ok hu1
  clear hu1
  cases hu2
  exact fun ad μ a b c e => sm_aloadG hX d hx (k ad μ a b c e)
theorem dp_in_aload_n {cl : List vw_C} {X : sm_X} {cc : ByteArray} {own : String} {Ts : List Cond} {rm : Room} {N S : Nat} {M : dp_M} (hX : sm_ok cl X cc M.2.1 own Ts M.2.2.1 rm N S M.2.2.2) {K : dp_K} {ys : Nat → MethodName} {wss : Nat → List Cond} {cf : dp_F} {fr lo : Nat} (hK : dp_Kok cl X.1.2.2.2 own Ts ys wss K) (hcf : dp_cfok cl X.1 ys wss fr lo cf) (hfr : fr + 1 ≤ rm.frames) (hlo : 32 + lo ≤ rm.locals) {ad0 : Nat → Nat} {sh0 : sm_S} {μ0 : sm_M} {pc len : Nat} (i : Fin 4) (d : decode cc pc = .ok ((.aload_n i), len)) {L : List (Option Value)} {st : List Value} {sh : sm_S} {P : dp_P} {w : dp_w} {s' : dp_T} (h : dp_in K M cf pc L st sh P w (.aload_n i) len = some s') (hN : s'.2.2.2.1.length ≤ N) (hS : sm_sl s'.2.2.2.1 ≤ S) (k : dp_J cl X ad0 sh0 μ0 s') : dp_J cl X ad0 sh0 μ0 (pc, L, st, sh, P, w) := by
  obtain ⟨hl, hu1⟩ := dp_g_ok h
  clear h
  have hl := dp_beq hl
  subst hl
  obtain ⟨x, hx, hu2⟩ := dp_la_ok hu1
  clear hu1
  cases hu2
  exact fun ad μ a b c e => sm_aloadN hX d hx (k ad μ a b c e)
theorem dp_in_astore {cl : List vw_C} {X : sm_X} {cc : ByteArray} {own : String} {Ts : List Cond} {rm : Room} {N S : Nat} {M : dp_M} (hX : sm_ok cl X cc M.2.1 own Ts M.2.2.1 rm N S M.2.2.2) {K : dp_K} {ys : Nat → MethodName} {wss : Nat → List Cond} {cf : dp_F} {fr lo : Nat} (hK : dp_Kok cl X.1.2.2.2 own Ts ys wss K) (hcf : dp_cfok cl X.1 ys wss fr lo cf) (hfr : fr + 1 ≤ rm.frames) (hlo : 32 + lo ≤ rm.locals) {ad0 : Nat → Nat} {sh0 : sm_S} {μ0 : sm_M} {pc len : Nat} (i : Nat) (d : decode cc pc = .ok ((.astore i), len)) {L : List (Option Value)} {st : List Value} {sh : sm_S} {P : dp_P} {w : dp_w} {s' : dp_T} (h : dp_in K M cf pc L st sh P w (.astore i) len = some s') (hN : s'.2.2.2.1.length ≤ N) (hS : sm_sl s'.2.2.2.1 ≤ S) (k : dp_J cl X ad0 sh0 μ0 s') : dp_J cl X ad0 sh0 μ0 (pc, L, st, sh, P, w) := by
  obtain ⟨hl, hu1⟩ := dp_g_ok h
  clear h
  have hl := dp_beq hl
  subst hl
  obtain ⟨x, r, rfl, hu2⟩ := dp_1r_ok hu1
  clear hu1
  obtain ⟨h1, hu3⟩ := dp_g_ok hu2
  clear hu2
  obtain ⟨h2, hu4⟩ := dp_g_ok hu3
  clear hu3
  have h2 := Nat.le_of_ble_eq_true h2
  cases hu4
  exact fun ad μ a b c e => sm_astoreG hX d h1 (by omega) (k ad μ a b c e)
theorem dp_in_astore_n {cl : List vw_C} {X : sm_X} {cc : ByteArray} {own : String} {Ts : List Cond} {rm : Room} {N S : Nat} {M : dp_M} (hX : sm_ok cl X cc M.2.1 own Ts M.2.2.1 rm N S M.2.2.2) {K : dp_K} {ys : Nat → MethodName} {wss : Nat → List Cond} {cf : dp_F} {fr lo : Nat} (hK : dp_Kok cl X.1.2.2.2 own Ts ys wss K) (hcf : dp_cfok cl X.1 ys wss fr lo cf) (hfr : fr + 1 ≤ rm.frames) (hlo : 32 + lo ≤ rm.locals) {ad0 : Nat → Nat} {sh0 : sm_S} {μ0 : sm_M} {pc len : Nat} (i : Fin 4) (d : decode cc pc = .ok ((.astore_n i), len)) {L : List (Option Value)} {st : List Value} {sh : sm_S} {P : dp_P} {w : dp_w} {s' : dp_T} (h : dp_in K M cf pc L st sh P w (.astore_n i) len = some s') (hN : s'.2.2.2.1.length ≤ N) (hS : sm_sl s'.2.2.2.1 ≤ S) (k : dp_J cl X ad0 sh0 μ0 s') : dp_J cl X ad0 sh0 μ0 (pc, L, st, sh, P, w) := by
  obtain ⟨hl, hu1⟩ := dp_g_ok h
  clear h
  have hl := dp_beq hl
  subst hl
  obtain ⟨x, r, rfl, hu2⟩ := dp_1r_ok hu1
  clear hu1
  obtain ⟨h1, hu3⟩ := dp_g_ok hu2
  clear hu2
  obtain ⟨h2, hu4⟩ := dp_g_ok hu3
  clear hu3
  have h2 := Nat.le_of_ble_eq_true h2
  cases hu4
  exact fun ad μ a b c e => sm_astoreN hX d h1 (by omega) (k ad μ a b c e)
theorem dp_in_iinc {cl : List vw_C} {X : sm_X} {cc : ByteArray} {own : String} {Ts : List Cond} {rm : Room} {N S : Nat} {M : dp_M} (hX : sm_ok cl X cc M.2.1 own Ts M.2.2.1 rm N S M.2.2.2) {K : dp_K} {ys : Nat → MethodName} {wss : Nat → List Cond} {cf : dp_F} {fr lo : Nat} (hK : dp_Kok cl X.1.2.2.2 own Ts ys wss K) (hcf : dp_cfok cl X.1 ys wss fr lo cf) (hfr : fr + 1 ≤ rm.frames) (hlo : 32 + lo ≤ rm.locals) {ad0 : Nat → Nat} {sh0 : sm_S} {μ0 : sm_M} {pc len : Nat} (i : Nat) (z : Int) (d : decode cc pc = .ok ((.iinc i z), len)) {L : List (Option Value)} {st : List Value} {sh : sm_S} {P : dp_P} {w : dp_w} {s' : dp_T} (h : dp_in K M cf pc L st sh P w (.iinc i z) len = some s') (hN : s'.2.2.2.1.length ≤ N) (hS : sm_sl s'.2.2.2.1 ≤ S) (k : dp_J cl X ad0 sh0 μ0 s') : dp_J cl X ad0 sh0 μ0 (pc, L, st, sh, P, w) := by
  obtain ⟨hl, hu1⟩ := dp_g_ok h
  clear h
  have hl := dp_beq hl
  subst hl
  obtain ⟨x, hx, hu2⟩ := dp_li_ok hu1
  clear hu1
  obtain ⟨h1, hu3⟩ := dp_g_ok hu2
  clear hu2
  obtain ⟨h2, hu4⟩ := dp_g_ok hu3
  clear hu3
  have h2 := Nat.le_of_ble_eq_true h2
  rw [dp_fi_eq] at hu4
  cases hu4
  exact fun ad μ a b c e => sm_iincG hX d hx h1 (by omega) (k ad μ a b c e)
theorem dp_in_ifCond {cl : List vw_C} {X : sm_X} {cc : ByteArray} {own : String} {Ts : List Cond} {rm : Room} {N S : Nat} {M : dp_M} (hX : sm_ok cl X cc M.2.1 own Ts M.2.2.1 rm N S M.2.2.2) {K : dp_K} {ys : Nat → MethodName} {wss : Nat → List Cond} {cf : dp_F} {fr lo : Nat} (hK : dp_Kok cl X.1.2.2.2 own Ts ys wss K) (hcf : dp_cfok cl X.1 ys wss fr lo cf) (hfr : fr + 1 ≤ rm.frames) (hlo : 32 + lo ≤ rm.locals) {ad0 : Nat → Nat} {sh0 : sm_S} {μ0 : sm_M} {pc len : Nat} (cn : Jvm.ClassFile.Cond) (off : Int) (d : decode cc pc = .ok ((.ifCond cn off), len)) {L : List (Option Value)} {st : List Value} {sh : sm_S} {P : dp_P} {w : dp_w} {s' : dp_T} (h : dp_in K M cf pc L st sh P w (.ifCond cn off) len = some s') (hN : s'.2.2.2.1.length ≤ N) (hS : sm_sl s'.2.2.2.1 ≤ S) (k : dp_J cl X ad0 sh0 μ0 s') : dp_J cl X ad0 sh0 μ0 (pc, L, st, sh, P, w) := by
  obtain ⟨hl, hu1⟩ := dp_g_ok h
  clear h
  have hl := dp_beq hl
  subst hl
  obtain ⟨x, r, rfl, hu2⟩ := dp_1i_ok hu1
  clear hu1
  obtain ⟨t, ht, hu3⟩ := dp_tg_ok hu2
  clear hu2
  cases hc : dp_c0 cn x with
  | true =>
    rw [hc] at hu3
    cases hu3
    intro ad μ a b c e
    cases cn with
    | eq =>
      have hc := of_decide_eq_true hc
      exact sm_if_eq hX t d ht (fun _ => k ad μ a b c e) (fun z => absurd hc z)
    | ne =>
      have hc := of_decide_eq_false ((Bool.not_eq_true' _).mp hc)
      exact sm_if_ne hX t d ht (fun _ => k ad μ a b c e) (fun z => absurd z hc)
    | lt =>
      have hc := of_decide_eq_true hc
      exact sm_if_lt hX t d ht (fun _ => k ad μ a b c e) (fun z => absurd hc z)
    | ge =>
      have hc := of_decide_eq_true hc
      exact sm_if_ge hX t d ht (fun _ => k ad μ a b c e) (fun z => absurd hc z)
    | gt =>
      have hc := of_decide_eq_true hc
      exact sm_if_gt hX t d ht (fun _ => k ad μ a b c e) (fun z => absurd hc z)
    | le =>
      have hc := of_decide_eq_true hc
      exact sm_if_le hX t d ht (fun _ => k ad μ a b c e) (fun z => absurd hc z)
  | false =>
    rw [hc] at hu3
    cases hu3
    intro ad μ a b c e
    cases cn with
    | eq =>
      have hc := of_decide_eq_false hc
      exact sm_if_eq hX t d ht (fun z => absurd z hc) (fun _ => k ad μ a b c e)
    | ne =>
      have hc := of_decide_eq_true ((Bool.not_eq_false' _).mp hc)
      exact sm_if_ne hX t d ht (fun z => absurd hc z) (fun _ => k ad μ a b c e)
    | lt =>
      have hc := of_decide_eq_false hc
      exact sm_if_lt hX t d ht (fun z => absurd z hc) (fun _ => k ad μ a b c e)
    | ge =>
      have hc := of_decide_eq_false hc
      exact sm_if_ge hX t d ht (fun z => absurd z hc) (fun _ => k ad μ a b c e)
    | gt =>
      have hc := of_decide_eq_false hc
      exact sm_if_gt hX t d ht (fun z => absurd z hc) (fun _ => k ad μ a b c e)
    | le =>
      have hc := of_decide_eq_false hc
      exact sm_if_le hX t d ht (fun z => absurd z hc) (fun _ => k ad μ a b c e)
theorem dp_in_if_icmp {cl : List vw_C} {X : sm_X} {cc : ByteArray} {own : String} {Ts : List Cond} {rm : Room} {N S : Nat} {M : dp_M} (hX : sm_ok cl X cc M.2.1 own Ts M.2.2.1 rm N S M.2.2.2) {K : dp_K} {ys : Nat → MethodName} {wss : Nat → List Cond} {cf : dp_F} {fr lo : Nat} (hK : dp_Kok cl X.1.2.2.2 own Ts ys wss K) (hcf : dp_cfok cl X.1 ys wss fr lo cf) (hfr : fr + 1 ≤ rm.frames) (hlo : 32 + lo ≤ rm.locals) {ad0 : Nat → Nat} {sh0 : sm_S} {μ0 : sm_M} {pc len : Nat} (cn : Jvm.ClassFile.Cond) (off : Int) (d : decode cc pc = .ok ((.if_icmp cn off), len)) {L : List (Option Value)} {st : List Value} {sh : sm_S} {P : dp_P} {w : dp_w} {s' : dp_T} (h : dp_in K M cf pc L st sh P w (.if_icmp cn off) len = some s') (hN : s'.2.2.2.1.length ≤ N) (hS : sm_sl s'.2.2.2.1 ≤ S) (k : dp_J cl X ad0 sh0 μ0 s') : dp_J cl X ad0 sh0 μ0 (pc, L, st, sh, P, w) := by
  obtain ⟨hl, hu1⟩ := dp_g_ok h
  clear h
  have hl := dp_beq hl
  subst hl
  obtain ⟨y, r, rfl, hu2⟩ := dp_1i_ok hu1
  clear hu1
  obtain ⟨x, r, rfl, hu3⟩ := dp_1i_ok hu2
  clear hu2
  obtain ⟨t, ht, hu4⟩ := dp_tg_ok hu3
  clear hu3
  cases hc : dp_c2 cn x y with
  | true =>
    rw [hc] at hu4
    cases hu4
    intro ad μ a b c e
    cases cn with
    | eq =>
      have hc := of_decide_eq_true hc
      exact sm_icmp_eq hX t d ht (fun _ => k ad μ a b c e) (fun z => absurd hc z)
    | ne =>
      have hc := of_decide_eq_false ((Bool.not_eq_true' _).mp hc)
      exact sm_icmp_ne hX t d ht (fun _ => k ad μ a b c e) (fun z => absurd z hc)
    | lt =>
      have hc := of_decide_eq_true hc
      exact sm_icmp_lt hX t d ht (fun _ => k ad μ a b c e) (fun z => absurd hc z)
    | ge =>
      have hc := of_decide_eq_true hc
      exact sm_icmp_ge hX t d ht (fun _ => k ad μ a b c e) (fun z => absurd hc z)
    | gt =>
      have hc := of_decide_eq_true hc
      exact sm_icmp_gt hX t d ht (fun _ => k ad μ a b c e) (fun z => absurd hc z)
    | le =>
      have hc := of_decide_eq_true hc
      exact sm_icmp_le hX t d ht (fun _ => k ad μ a b c e) (fun z => absurd hc z)
  | false =>
    rw [hc] at hu4
    cases hu4
    intro ad μ a b c e
    cases cn with
    | eq =>
      have hc := of_decide_eq_false hc
      exact sm_icmp_eq hX t d ht (fun z => absurd z hc) (fun _ => k ad μ a b c e)
    | ne =>
      have hc := of_decide_eq_true ((Bool.not_eq_false' _).mp hc)
      exact sm_icmp_ne hX t d ht (fun z => absurd hc z) (fun _ => k ad μ a b c e)
    | lt =>
      have hc := of_decide_eq_false hc
      exact sm_icmp_lt hX t d ht (fun z => absurd z hc) (fun _ => k ad μ a b c e)
    | ge =>
      have hc := of_decide_eq_false hc
      exact sm_icmp_ge hX t d ht (fun z => absurd z hc) (fun _ => k ad μ a b c e)
    | gt =>
      have hc := of_decide_eq_false hc
      exact sm_icmp_gt hX t d ht (fun z => absurd z hc) (fun _ => k ad μ a b c e)
    | le =>
      have hc := of_decide_eq_false hc
      exact sm_icmp_le hX t d ht (fun z => absurd z hc) (fun _ => k ad μ a b c e)
theorem dp_in_goto {cl : List vw_C} {X : sm_X} {cc : ByteArray} {own : String} {Ts : List Cond} {rm : Room} {N S : Nat} {M : dp_M} (hX : sm_ok cl X cc M.2.1 own Ts M.2.2.1 rm N S M.2.2.2) {K : dp_K} {ys : Nat → MethodName} {wss : Nat → List Cond} {cf : dp_F} {fr lo : Nat} (hK : dp_Kok cl X.1.2.2.2 own Ts ys wss K) (hcf : dp_cfok cl X.1 ys wss fr lo cf) (hfr : fr + 1 ≤ rm.frames) (hlo : 32 + lo ≤ rm.locals) {ad0 : Nat → Nat} {sh0 : sm_S} {μ0 : sm_M} {pc len : Nat} (off : Int) (d : decode cc pc = .ok ((.goto off), len)) {L : List (Option Value)} {st : List Value} {sh : sm_S} {P : dp_P} {w : dp_w} {s' : dp_T} (h : dp_in K M cf pc L st sh P w (.goto off) len = some s') (hN : s'.2.2.2.1.length ≤ N) (hS : sm_sl s'.2.2.2.1 ≤ S) (k : dp_J cl X ad0 sh0 μ0 s') : dp_J cl X ad0 sh0 μ0 (pc, L, st, sh, P, w) := by
  obtain ⟨hl, hu1⟩ := dp_g_ok h
  clear h
  have hl := dp_beq hl
  subst hl
  obtain ⟨t, ht, hu2⟩ := dp_tg_ok hu1
  clear hu1
  cases hu2
  exact fun ad μ a b c e => sm_goto hX t d ht (k ad μ a b c e)
theorem dp_in_lookupswitch {cl : List vw_C} {X : sm_X} {cc : ByteArray} {own : String} {Ts : List Cond} {rm : Room} {N S : Nat} {M : dp_M} (hX : sm_ok cl X cc M.2.1 own Ts M.2.2.1 rm N S M.2.2.2) {K : dp_K} {ys : Nat → MethodName} {wss : Nat → List Cond} {cf : dp_F} {fr lo : Nat} (hK : dp_Kok cl X.1.2.2.2 own Ts ys wss K) (hcf : dp_cfok cl X.1 ys wss fr lo cf) (hfr : fr + 1 ≤ rm.frames) (hlo : 32 + lo ≤ rm.locals) {ad0 : Nat → Nat} {sh0 : sm_S} {μ0 : sm_M} {pc len : Nat} (dflt : Int) (ps : Array (Int × Int)) (d : decode cc pc = .ok ((.lookupswitch dflt ps), len)) {L : List (Option Value)} {st : List Value} {sh : sm_S} {P : dp_P} {w : dp_w} {s' : dp_T} (h : dp_in K M cf pc L st sh P w (.lookupswitch dflt ps) len = some s') (hN : s'.2.2.2.1.length ≤ N) (hS : sm_sl s'.2.2.2.1 ≤ S) (k : dp_J cl X ad0 sh0 μ0 s') : dp_J cl X ad0 sh0 μ0 (pc, L, st, sh, P, w) := by
  obtain ⟨x, r, rfl, hu1⟩ := dp_1i_ok h
  clear h
  obtain ⟨hp, hu2⟩ := dp_g_ok hu1
  clear hu1
  obtain ⟨t, ht, hu3⟩ := dp_tg_ok hu2
  clear hu2
  cases hu3
  exact fun ad μ a b c e => sm_lookup hX t d hp ht (k ad μ a b c e)
theorem dp_in_tableswitch {cl : List vw_C} {X : sm_X} {cc : ByteArray} {own : String} {Ts : List Cond} {rm : Room} {N S : Nat} {M : dp_M} (hX : sm_ok cl X cc M.2.1 own Ts M.2.2.1 rm N S M.2.2.2) {K : dp_K} {ys : Nat → MethodName} {wss : Nat → List Cond} {cf : dp_F} {fr lo : Nat} (hK : dp_Kok cl X.1.2.2.2 own Ts ys wss K) (hcf : dp_cfok cl X.1 ys wss fr lo cf) (hfr : fr + 1 ≤ rm.frames) (hlo : 32 + lo ≤ rm.locals) {ad0 : Nat → Nat} {sh0 : sm_S} {μ0 : sm_M} {pc len : Nat} (dflt : Int) (lo : Int) (hi : Int) (offs : Array Int) (d : decode cc pc = .ok ((.tableswitch dflt lo hi offs), len)) {L : List (Option Value)} {st : List Value} {sh : sm_S} {P : dp_P} {w : dp_w} {s' : dp_T} (h : dp_in K M cf pc L st sh P w (.tableswitch dflt lo hi offs) len = some s') (hN : s'.2.2.2.1.length ≤ N) (hS : sm_sl s'.2.2.2.1 ≤ S) (k : dp_J cl X ad0 sh0 μ0 s') : dp_J cl X ad0 sh0 μ0 (pc, L, st, sh, P, w) := by
  obtain ⟨x, r, rfl, hu1⟩ := dp_1i_ok h
  clear h
  cases hc : decide (x.toInt < lo ∨ hi < x.toInt) with
  | true =>
    rw [hc] at hu1
    obtain ⟨t, ht, hu1⟩ := dp_tg_ok hu1
    cases hu1
    exact fun ad μ a b c e => sm_tableOut hX t d (of_decide_eq_true hc) ht (k ad μ a b c e)
  | false =>
    rw [hc] at hu1
    have hc := of_decide_eq_false hc
    obtain ⟨off, ho, hu1⟩ := dp_o_ok hu1
    obtain ⟨t, ht, hu1⟩ := dp_tg_ok hu1
    cases hu1
    exact fun ad μ a b c e => sm_tableIn hX t d (fun z => hc (Or.inl z)) (fun z => hc (Or.inr z)) ho ht (k ad μ a b c e)
theorem dp_in_getfield {cl : List vw_C} {X : sm_X} {cc : ByteArray} {own : String} {Ts : List Cond} {rm : Room} {N S : Nat} {M : dp_M} (hX : sm_ok cl X cc M.2.1 own Ts M.2.2.1 rm N S M.2.2.2) {K : dp_K} {ys : Nat → MethodName} {wss : Nat → List Cond} {cf : dp_F} {fr lo : Nat} (hK : dp_Kok cl X.1.2.2.2 own Ts ys wss K) (hcf : dp_cfok cl X.1 ys wss fr lo cf) (hfr : fr + 1 ≤ rm.frames) (hlo : 32 + lo ≤ rm.locals) {ad0 : Nat → Nat} {sh0 : sm_S} {μ0 : sm_M} {pc len : Nat} (i : Nat) (d : decode cc pc = .ok ((.getfield i), len)) {L : List (Option Value)} {st : List Value} {sh : sm_S} {P : dp_P} {w : dp_w} {s' : dp_T} (h : dp_in K M cf pc L st sh P w (.getfield i) len = some s') (hN : s'.2.2.2.1.length ≤ N) (hS : sm_sl s'.2.2.2.1 ≤ S) (k : dp_J cl X ad0 sh0 μ0 s') : dp_J cl X ad0 sh0 μ0 (pc, L, st, sh, P, w) := by
  obtain ⟨hl, hu1⟩ := dp_g_ok h
  clear h
  have hl := dp_beq hl
  subst hl
  obtain ⟨p, r, rfl, hu2⟩ := dp_1r_ok hu1
  clear hu1
  obtain ⟨⟨ci, kf, fl⟩, hF, hu3⟩ := dp_o_ok hu2
  clear hu2
  obtain ⟨fs, hs, hu4⟩ := dp_ob_ok hu3
  clear hu3
  obtain ⟨f, hf, hu5⟩ := dp_o_ok hu4
  clear hu4
  obtain ⟨C, T, N', t, e2, e3, e5, e7, e8, e6, -⟩ := hK.1 _ _ hF
  simp only at e2 e3 e5 e6 hs hf
  intro ad μ a b c e
  have key : ∀ v : Value, (∀ q, f = some (some q) → v = .ref q) → (f = none → v = .int (μ.1 p kf)) → sm_E cl X (pc + 3) L (v :: r) ad sh μ := by
    intro v hv1 hv2
    cases f with
    | none =>
      obtain ⟨u, hu, hu5⟩ := dp_o_ok hu5
      cases hu5
      rw [hv2 rfl, a.1 _ _ _ hu]
      exact k ad μ a b c e
    | some f =>
      cases f with
      | none => cases hu5
      | some q =>
        cases hu5
        rw [hv1 q rfl]
        exact k ad μ a b c e
  rcases e6 with e6 | ⟨host, e6⟩
  · exact sm_get hX hs e2 e3 hf e5 e6 d (fun v _ h1 h2 => key v h1 h2)
  · exact sm_getN hX hs e2 e3 hf e5 e6 d (fun v _ h1 h2 => key v h1 h2)
theorem dp_in_putfield {cl : List vw_C} {X : sm_X} {cc : ByteArray} {own : String} {Ts : List Cond} {rm : Room} {N S : Nat} {M : dp_M} (hX : sm_ok cl X cc M.2.1 own Ts M.2.2.1 rm N S M.2.2.2) {K : dp_K} {ys : Nat → MethodName} {wss : Nat → List Cond} {cf : dp_F} {fr lo : Nat} (hK : dp_Kok cl X.1.2.2.2 own Ts ys wss K) (hcf : dp_cfok cl X.1 ys wss fr lo cf) (hfr : fr + 1 ≤ rm.frames) (hlo : 32 + lo ≤ rm.locals) {ad0 : Nat → Nat} {sh0 : sm_S} {μ0 : sm_M} {pc len : Nat} (i : Nat) (d : decode cc pc = .ok ((.putfield i), len)) {L : List (Option Value)} {st : List Value} {sh : sm_S} {P : dp_P} {w : dp_w} {s' : dp_T} (h : dp_in K M cf pc L st sh P w (.putfield i) len = some s') (hN : s'.2.2.2.1.length ≤ N) (hS : sm_sl s'.2.2.2.1 ≤ S) (k : dp_J cl X ad0 sh0 μ0 s') : dp_J cl X ad0 sh0 μ0 (pc, L, st, sh, P, w) := by
  obtain ⟨hl, hu1⟩ := dp_g_ok h
  clear h
  have hl := dp_beq hl
  subst hl
  obtain ⟨u, r, rfl, hu2⟩ := dp_1v_ok hu1
  clear hu1
  obtain ⟨p, r, rfl, hu3⟩ := dp_1r_ok hu2
  clear hu2
  obtain ⟨⟨ci, kf, fl⟩, hF, hu4⟩ := dp_o_ok hu3
  clear hu3
  obtain ⟨fs, hs, hu5⟩ := dp_ob_ok hu4
  clear hu4
  obtain ⟨C, T, N', t, e2, e3, e5, e7, e8, e6, f0, f1, f2⟩ := hK.1 _ _ hF
  simp only at e2 e3 e5 e6 f0 f1 f2 hs hu5
  intro ad μ a b c e
  unfold dp_pf at hu5
  split at hu5
  · rename_i v
    split at hu5
    · rename_i hf
      have key : ∀ ty : FieldType, sm_fp cl Ts C ci N' kf false ty T → narrow ty (.int v) = .int v → fits ty (.int v) = true → sm_E cl X (pc + 3) L r ad sh (sm_ui μ p kf v) → sm_E cl X pc L (.int v :: .ref p :: r) ad sh μ := by
        intro ty g1 g2 g3 g5
        rcases e6 with e6 | ⟨host, e6⟩
        · exact sm_put hX hs hf g1 e6 g2 g3 d g5
        · exact sm_putN hX hs hf g1 e6 g2 g3 d g5
      split at hu5
      · cases hu5
        obtain ⟨z1, z2⟩ := f0 rfl
        exact key .int ⟨t, e2, e3, e5, e7, e8, z1, z2⟩ rfl rfl (k ad _ (a.ui p kf v) (b.ui p kf v) c e)
      · obtain ⟨z0, ha⟩ := dp_g_ok hu5
        cases ha
        obtain ⟨z1, z2⟩ := f1 rfl
        rw [Bool.or_eq_true, decide_eq_true_eq, decide_eq_true_eq] at z0
        refine key .boolean ⟨t, e2, e3, e5, e7, e8, z1, z2⟩ ?_ ?_ (k ad _ (a.ui p kf v) (b.ui p kf v) c e)
        · rcases z0 with rfl | rfl <;> rfl
        · rcases z0 with rfl | rfl <;> rfl
      · cases hu5
    · cases hu5
  · rename_i q
    obtain ⟨z0, ha⟩ := dp_g_ok hu5
    obtain ⟨z1, hb⟩ := dp_g_ok ha
    obtain ⟨z2, hc⟩ := dp_g_ok hb
    have z2 := Nat.le_of_ble_eq_true z2
    cases hc
    have z0 := dp_beq z0
    obtain ⟨z3, z4, z5, z6⟩ := f2 z0
    exact sm_putF hX hs (by omega) ⟨t, e2, e3, e5, e7, e8, z3, rfl⟩ z5 z1 z4 (z6 _).1 (z6 _).2 d (k ad μ a b (by rw [List.length_set]; exact c) (by rw [List.length_set]; exact e))
  · cases hu5
theorem dp_in_iaload {cl : List vw_C} {X : sm_X} {cc : ByteArray} {own : String} {Ts : List Cond} {rm : Room} {N S : Nat} {M : dp_M} (hX : sm_ok cl X cc M.2.1 own Ts M.2.2.1 rm N S M.2.2.2) {K : dp_K} {ys : Nat → MethodName} {wss : Nat → List Cond} {cf : dp_F} {fr lo : Nat} (hK : dp_Kok cl X.1.2.2.2 own Ts ys wss K) (hcf : dp_cfok cl X.1 ys wss fr lo cf) (hfr : fr + 1 ≤ rm.frames) (hlo : 32 + lo ≤ rm.locals) {ad0 : Nat → Nat} {sh0 : sm_S} {μ0 : sm_M} {pc len : Nat}  (d : decode cc pc = .ok (.iaload, len)) {L : List (Option Value)} {st : List Value} {sh : sm_S} {P : dp_P} {w : dp_w} {s' : dp_T} (h : dp_in K M cf pc L st sh P w .iaload len = some s') (hN : s'.2.2.2.1.length ≤ N) (hS : sm_sl s'.2.2.2.1 ≤ S) (k : dp_J cl X ad0 sh0 μ0 s') : dp_J cl X ad0 sh0 μ0 (pc, L, st, sh, P, w) := by
  obtain ⟨hl, hu1⟩ := dp_g_ok h
  clear h
  have hl := dp_beq hl
  subst hl
  obtain ⟨i, r, rfl, hu2⟩ := dp_1i_ok hu1
  clear hu1
  obtain ⟨p, r, rfl, hu3⟩ := dp_1r_ok hu2
  clear hu2
  obtain ⟨n, hs, hi, hu4⟩ := dp_ar_ok hu3
  clear hu3
  obtain ⟨v, hv, hu5⟩ := dp_o_ok hu4
  clear hu4
  cases hu5
  intro ad μ a b c e
  have k2 := k ad μ a b c e
  rw [← a.1 _ _ _ hv] at k2
  exact sm_iald hX hs hi d k2
theorem dp_in_baload {cl : List vw_C} {X : sm_X} {cc : ByteArray} {own : String} {Ts : List Cond} {rm : Room} {N S : Nat} {M : dp_M} (hX : sm_ok cl X cc M.2.1 own Ts M.2.2.1 rm N S M.2.2.2) {K : dp_K} {ys : Nat → MethodName} {wss : Nat → List Cond} {cf : dp_F} {fr lo : Nat} (hK : dp_Kok cl X.1.2.2.2 own Ts ys wss K) (hcf : dp_cfok cl X.1 ys wss fr lo cf) (hfr : fr + 1 ≤ rm.frames) (hlo : 32 + lo ≤ rm.locals) {ad0 : Nat → Nat} {sh0 : sm_S} {μ0 : sm_M} {pc len : Nat}  (d : decode cc pc = .ok (.baload, len)) {L : List (Option Value)} {st : List Value} {sh : sm_S} {P : dp_P} {w : dp_w} {s' : dp_T} (h : dp_in K M cf pc L st sh P w .baload len = some s') (hN : s'.2.2.2.1.length ≤ N) (hS : sm_sl s'.2.2.2.1 ≤ S) (k : dp_J cl X ad0 sh0 μ0 s') : dp_J cl X ad0 sh0 μ0 (pc, L, st, sh, P, w) := by
  obtain ⟨hl, hu1⟩ := dp_g_ok h
  clear h
  have hl := dp_beq hl
  subst hl
  obtain ⟨i, r, rfl, hu2⟩ := dp_1i_ok hu1
  clear hu1
  obtain ⟨p, r, rfl, hu3⟩ := dp_1r_ok hu2
  clear hu2
  obtain ⟨n, hs, hi, hu4⟩ := dp_ar_ok hu3
  clear hu3
  obtain ⟨v, hv, hu5⟩ := dp_o_ok hu4
  clear hu4
  cases hu5
  intro ad μ a b c e
  have k2 := k ad μ a b c e
  rw [← a.1 _ _ _ hv] at k2
  exact sm_zald hX hs hi d k2
theorem dp_in_laload {cl : List vw_C} {X : sm_X} {cc : ByteArray} {own : String} {Ts : List Cond} {rm : Room} {N S : Nat} {M : dp_M} (hX : sm_ok cl X cc M.2.1 own Ts M.2.2.1 rm N S M.2.2.2) {K : dp_K} {ys : Nat → MethodName} {wss : Nat → List Cond} {cf : dp_F} {fr lo : Nat} (hK : dp_Kok cl X.1.2.2.2 own Ts ys wss K) (hcf : dp_cfok cl X.1 ys wss fr lo cf) (hfr : fr + 1 ≤ rm.frames) (hlo : 32 + lo ≤ rm.locals) {ad0 : Nat → Nat} {sh0 : sm_S} {μ0 : sm_M} {pc len : Nat}  (d : decode cc pc = .ok (.laload, len)) {L : List (Option Value)} {st : List Value} {sh : sm_S} {P : dp_P} {w : dp_w} {s' : dp_T} (h : dp_in K M cf pc L st sh P w .laload len = some s') (hN : s'.2.2.2.1.length ≤ N) (hS : sm_sl s'.2.2.2.1 ≤ S) (k : dp_J cl X ad0 sh0 μ0 s') : dp_J cl X ad0 sh0 μ0 (pc, L, st, sh, P, w) := by
  obtain ⟨hl, hu1⟩ := dp_g_ok h
  clear h
  have hl := dp_beq hl
  subst hl
  obtain ⟨i, r, rfl, hu2⟩ := dp_1i_ok hu1
  clear hu1
  obtain ⟨p, r, rfl, hu3⟩ := dp_1r_ok hu2
  clear hu2
  obtain ⟨n, hs, hi, hu4⟩ := dp_ar_ok hu3
  clear hu3
  obtain ⟨v, hv, hu5⟩ := dp_o_ok hu4
  clear hu4
  cases hu5
  intro ad μ a b c e
  have k2 := k ad μ a b c e
  rw [← a.2 _ _ _ hv] at k2
  exact sm_lald hX hs hi d k2
theorem dp_in_iastore {cl : List vw_C} {X : sm_X} {cc : ByteArray} {own : String} {Ts : List Cond} {rm : Room} {N S : Nat} {M : dp_M} (hX : sm_ok cl X cc M.2.1 own Ts M.2.2.1 rm N S M.2.2.2) {K : dp_K} {ys : Nat → MethodName} {wss : Nat → List Cond} {cf : dp_F} {fr lo : Nat} (hK : dp_Kok cl X.1.2.2.2 own Ts ys wss K) (hcf : dp_cfok cl X.1 ys wss fr lo cf) (hfr : fr + 1 ≤ rm.frames) (hlo : 32 + lo ≤ rm.locals) {ad0 : Nat → Nat} {sh0 : sm_S} {μ0 : sm_M} {pc len : Nat}  (d : decode cc pc = .ok (.iastore, len)) {L : List (Option Value)} {st : List Value} {sh : sm_S} {P : dp_P} {w : dp_w} {s' : dp_T} (h : dp_in K M cf pc L st sh P w .iastore len = some s') (hN : s'.2.2.2.1.length ≤ N) (hS : sm_sl s'.2.2.2.1 ≤ S) (k : dp_J cl X ad0 sh0 μ0 s') : dp_J cl X ad0 sh0 μ0 (pc, L, st, sh, P, w) := by
  obtain ⟨hl, hu1⟩ := dp_g_ok h
  clear h
  have hl := dp_beq hl
  subst hl
  obtain ⟨x, r, rfl, hu2⟩ := dp_1i_ok hu1
  clear hu1
  obtain ⟨i, r, rfl, hu3⟩ := dp_1i_ok hu2
  clear hu2
  obtain ⟨p, r, rfl, hu4⟩ := dp_1r_ok hu3
  clear hu3
  obtain ⟨n, hs, hi, hu5⟩ := dp_ar_ok hu4
  clear hu4
  cases hu5
  exact fun ad μ a b c e => sm_iast hX hs hi d (k ad _ (a.ui _ _ _) (b.ui _ _ _) c e)
theorem dp_in_bastore {cl : List vw_C} {X : sm_X} {cc : ByteArray} {own : String} {Ts : List Cond} {rm : Room} {N S : Nat} {M : dp_M} (hX : sm_ok cl X cc M.2.1 own Ts M.2.2.1 rm N S M.2.2.2) {K : dp_K} {ys : Nat → MethodName} {wss : Nat → List Cond} {cf : dp_F} {fr lo : Nat} (hK : dp_Kok cl X.1.2.2.2 own Ts ys wss K) (hcf : dp_cfok cl X.1 ys wss fr lo cf) (hfr : fr + 1 ≤ rm.frames) (hlo : 32 + lo ≤ rm.locals) {ad0 : Nat → Nat} {sh0 : sm_S} {μ0 : sm_M} {pc len : Nat}  (d : decode cc pc = .ok (.bastore, len)) {L : List (Option Value)} {st : List Value} {sh : sm_S} {P : dp_P} {w : dp_w} {s' : dp_T} (h : dp_in K M cf pc L st sh P w .bastore len = some s') (hN : s'.2.2.2.1.length ≤ N) (hS : sm_sl s'.2.2.2.1 ≤ S) (k : dp_J cl X ad0 sh0 μ0 s') : dp_J cl X ad0 sh0 μ0 (pc, L, st, sh, P, w) := by
  obtain ⟨hl, hu1⟩ := dp_g_ok h
  clear h
  have hl := dp_beq hl
  subst hl
  obtain ⟨x, r, rfl, hu2⟩ := dp_1i_ok hu1
  clear hu1
  obtain ⟨i, r, rfl, hu3⟩ := dp_1i_ok hu2
  clear hu2
  obtain ⟨p, r, rfl, hu4⟩ := dp_1r_ok hu3
  clear hu3
  obtain ⟨n, hs, hi, hu5⟩ := dp_ar_ok hu4
  clear hu4
  rw [dp_fi_eq] at hu5
  cases hu5
  exact fun ad μ a b c e => sm_zast hX hs hi d (k ad _ (a.ui _ _ _) (b.ui _ _ _) c e)
theorem dp_in_lastore {cl : List vw_C} {X : sm_X} {cc : ByteArray} {own : String} {Ts : List Cond} {rm : Room} {N S : Nat} {M : dp_M} (hX : sm_ok cl X cc M.2.1 own Ts M.2.2.1 rm N S M.2.2.2) {K : dp_K} {ys : Nat → MethodName} {wss : Nat → List Cond} {cf : dp_F} {fr lo : Nat} (hK : dp_Kok cl X.1.2.2.2 own Ts ys wss K) (hcf : dp_cfok cl X.1 ys wss fr lo cf) (hfr : fr + 1 ≤ rm.frames) (hlo : 32 + lo ≤ rm.locals) {ad0 : Nat → Nat} {sh0 : sm_S} {μ0 : sm_M} {pc len : Nat}  (d : decode cc pc = .ok (.lastore, len)) {L : List (Option Value)} {st : List Value} {sh : sm_S} {P : dp_P} {w : dp_w} {s' : dp_T} (h : dp_in K M cf pc L st sh P w .lastore len = some s') (hN : s'.2.2.2.1.length ≤ N) (hS : sm_sl s'.2.2.2.1 ≤ S) (k : dp_J cl X ad0 sh0 μ0 s') : dp_J cl X ad0 sh0 μ0 (pc, L, st, sh, P, w) := by
  obtain ⟨hl, hu1⟩ := dp_g_ok h
  clear h
  have hl := dp_beq hl
  subst hl
  obtain ⟨x, r, rfl, hu2⟩ := dp_1l_ok hu1
  clear hu1
  obtain ⟨i, r, rfl, hu3⟩ := dp_1i_ok hu2
  clear hu2
  obtain ⟨p, r, rfl, hu4⟩ := dp_1r_ok hu3
  clear hu3
  obtain ⟨n, hs, hi, hu5⟩ := dp_ar_ok hu4
  clear hu4
  cases hu5
  exact fun ad μ a b c e => sm_last hX hs hi d (k ad _ (a.ul _ _ _) (b.ul _ _ _) c e)
theorem dp_in_arraylength {cl : List vw_C} {X : sm_X} {cc : ByteArray} {own : String} {Ts : List Cond} {rm : Room} {N S : Nat} {M : dp_M} (hX : sm_ok cl X cc M.2.1 own Ts M.2.2.1 rm N S M.2.2.2) {K : dp_K} {ys : Nat → MethodName} {wss : Nat → List Cond} {cf : dp_F} {fr lo : Nat} (hK : dp_Kok cl X.1.2.2.2 own Ts ys wss K) (hcf : dp_cfok cl X.1 ys wss fr lo cf) (hfr : fr + 1 ≤ rm.frames) (hlo : 32 + lo ≤ rm.locals) {ad0 : Nat → Nat} {sh0 : sm_S} {μ0 : sm_M} {pc len : Nat}  (d : decode cc pc = .ok (.arraylength, len)) {L : List (Option Value)} {st : List Value} {sh : sm_S} {P : dp_P} {w : dp_w} {s' : dp_T} (h : dp_in K M cf pc L st sh P w .arraylength len = some s') (hN : s'.2.2.2.1.length ≤ N) (hS : sm_sl s'.2.2.2.1 ≤ S) (k : dp_J cl X ad0 sh0 μ0 s') : dp_J cl X ad0 sh0 μ0 (pc, L, st, sh, P, w) := by
  obtain ⟨hl, hu1⟩ := dp_g_ok h
  clear h
  have hl := dp_beq hl
  subst hl
  obtain ⟨p, r, rfl, hu2⟩ := dp_1r_ok hu1
  clear hu1
  unfold dp_le' at hu2
  split at hu2
  · rename_i c0 n hs
    obtain ⟨h1, hu2⟩ := dp_g_ok hu2
    have h1 := Nat.le_of_ble_eq_true h1
    cases hu2
    exact fun ad μ a b c e => sm_alen hX hs (by omega) d (k ad μ a b c e)
  · cases hu2
theorem dp_in_new {cl : List vw_C} {X : sm_X} {cc : ByteArray} {own : String} {Ts : List Cond} {rm : Room} {N S : Nat} {M : dp_M} (hX : sm_ok cl X cc M.2.1 own Ts M.2.2.1 rm N S M.2.2.2) {K : dp_K} {ys : Nat → MethodName} {wss : Nat → List Cond} {cf : dp_F} {fr lo : Nat} (hK : dp_Kok cl X.1.2.2.2 own Ts ys wss K) (hcf : dp_cfok cl X.1 ys wss fr lo cf) (hfr : fr + 1 ≤ rm.frames) (hlo : 32 + lo ≤ rm.locals) {ad0 : Nat → Nat} {sh0 : sm_S} {μ0 : sm_M} {pc len : Nat} (i : Nat) (d : decode cc pc = .ok ((.new i), len)) {L : List (Option Value)} {st : List Value} {sh : sm_S} {P : dp_P} {w : dp_w} {s' : dp_T} (h : dp_in K M cf pc L st sh P w (.new i) len = some s') (hN : s'.2.2.2.1.length ≤ N) (hS : sm_sl s'.2.2.2.1 ≤ S) (k : dp_J cl X ad0 sh0 μ0 s') : dp_J cl X ad0 sh0 μ0 (pc, L, st, sh, P, w) := by
  obtain ⟨hl, hu1⟩ := dp_g_ok h
  clear h
  have hl := dp_beq hl
  subst hl
  obtain ⟨⟨ci, fs⟩, hC, hu2⟩ := dp_o_ok hu1
  clear hu1
  obtain ⟨Cn, T, t, e2, e5, e7, g1, g2, g3, g4, g5⟩ := hK.2.2.2.2.2.2.1 _ _ hC
  unfold dp_nw at hu2
  obtain ⟨h1, hu3⟩ := dp_g_ok hu2
  clear hu2
  obtain ⟨h2, hu4⟩ := dp_g_ok hu3
  clear hu3
  obtain ⟨h3, hu5⟩ := dp_g_ok hu4
  clear hu4
  cases hu5
  simp only [List.length_append, List.length_singleton, sm_sl_app] at hN hS
  exact fun ad μ a b c e => sm_new hX t e2 e5 e7 g1 g2 g3 rfl g4 g5 h1 h2 h3 hN (by simpa [sm_sl, sm_sz] using hS) d (fun ad' hag => k ad' _ (a.z _) (b.z _) (by simpa using dp_nw_ag hag c e) (by simp; omega))
theorem dp_in_newarray {cl : List vw_C} {X : sm_X} {cc : ByteArray} {own : String} {Ts : List Cond} {rm : Room} {N S : Nat} {M : dp_M} (hX : sm_ok cl X cc M.2.1 own Ts M.2.2.1 rm N S M.2.2.2) {K : dp_K} {ys : Nat → MethodName} {wss : Nat → List Cond} {cf : dp_F} {fr lo : Nat} (hK : dp_Kok cl X.1.2.2.2 own Ts ys wss K) (hcf : dp_cfok cl X.1 ys wss fr lo cf) (hfr : fr + 1 ≤ rm.frames) (hlo : 32 + lo ≤ rm.locals) {ad0 : Nat → Nat} {sh0 : sm_S} {μ0 : sm_M} {pc len : Nat} (at' : ArrayType) (d : decode cc pc = .ok ((.newarray at'), len)) {L : List (Option Value)} {st : List Value} {sh : sm_S} {P : dp_P} {w : dp_w} {s' : dp_T} (h : dp_in K M cf pc L st sh P w (.newarray at') len = some s') (hN : s'.2.2.2.1.length ≤ N) (hS : sm_sl s'.2.2.2.1 ≤ S) (k : dp_J cl X ad0 sh0 μ0 s') : dp_J cl X ad0 sh0 μ0 (pc, L, st, sh, P, w) := by
  obtain ⟨hl, hu1⟩ := dp_g_ok h
  clear h
  have hl := dp_beq hl
  subst hl
  obtain ⟨n, r, rfl, hu2⟩ := dp_1i_ok hu1
  clear hu1
  obtain ⟨kd, hkd, hu3⟩ := dp_o_ok hu2
  clear hu2
  obtain ⟨hn, hu4⟩ := dp_g_ok hu3
  clear hu3
  rw [dp_nf_eq] at hu4
  obtain ⟨hb, hu5⟩ := dp_g_ok hu4
  clear hu4
  have hb := Nat.le_of_ble_eq_true hb
  have hn := Int32.not_lt.mpr (of_decide_eq_true hn)
  unfold dp_nw at hu5
  obtain ⟨h1, hu6⟩ := dp_g_ok hu5
  clear hu5
  obtain ⟨h2, hu7⟩ := dp_g_ok hu6
  clear hu6
  obtain ⟨h3, hu8⟩ := dp_g_ok hu7
  clear hu7
  cases hu8
  simp only [List.length_append, List.length_singleton, sm_sl_app] at hN hS
  have hS : sm_sl sh + n.toNatClampNeg ≤ S := by simpa [sm_sl, sm_sz] using hS
  cases at' with
  | int =>
    cases hkd
    exact fun ad μ a b c e => sm_newa0 hX hK.2.2.2.2.2.2.2.2.1 hn rfl hb h1 h2 h3 hN hS d (fun ad' hag => k ad' _ (a.z _) (b.z _) (by simpa using dp_nw_ag hag c e) (by simp; omega))
  | boolean =>
    cases hkd
    exact fun ad μ a b c e => sm_newa1 hX hK.2.2.2.2.2.2.2.2.2.1 hn rfl hb h1 h2 h3 hN hS d (fun ad' hag => k ad' _ (a.z _) (b.z _) (by simpa using dp_nw_ag hag c e) (by simp; omega))
  | long =>
    cases hkd
    exact fun ad μ a b c e => sm_newa2 hX hK.2.2.2.2.2.2.2.2.2.2 hn rfl hb h1 h2 h3 hN hS d (fun ad' hag => k ad' _ (a.z _) (b.z _) (by simpa using dp_nw_ag hag c e) (by simp; omega))
  | _ => cases hkd
theorem dp_in_invokespecial {cl : List vw_C} {X : sm_X} {cc : ByteArray} {own : String} {Ts : List Cond} {rm : Room} {N S : Nat} {M : dp_M} (hX : sm_ok cl X cc M.2.1 own Ts M.2.2.1 rm N S M.2.2.2) {K : dp_K} {ys : Nat → MethodName} {wss : Nat → List Cond} {cf : dp_F} {fr lo : Nat} (hK : dp_Kok cl X.1.2.2.2 own Ts ys wss K) (hcf : dp_cfok cl X.1 ys wss fr lo cf) (hfr : fr + 1 ≤ rm.frames) (hlo : 32 + lo ≤ rm.locals) {ad0 : Nat → Nat} {sh0 : sm_S} {μ0 : sm_M} {pc len : Nat} (i : Nat) (d : decode cc pc = .ok ((.invokespecial i), len)) {L : List (Option Value)} {st : List Value} {sh : sm_S} {P : dp_P} {w : dp_w} {s' : dp_T} (h : dp_in K M cf pc L st sh P w (.invokespecial i) len = some s') (hN : s'.2.2.2.1.length ≤ N) (hS : sm_sl s'.2.2.2.1 ≤ S) (k : dp_J cl X ad0 sh0 μ0 s') : dp_J cl X ad0 sh0 μ0 (pc, L, st, sh, P, w) := by
  obtain ⟨hl, hu1⟩ := dp_g_ok h
  clear h
  have hl := dp_beq hl
  subst hl
  cases ho : Nat.beq i K.2.2.2.2.2 with
  | true =>
    rw [ho] at hu1
    have ho := dp_beq ho
    obtain ⟨p, r, rfl, hu1⟩ := dp_1r_ok hu1
    obtain ⟨h1, hu1⟩ := dp_g_ok hu1
    have h1 := Nat.le_of_ble_eq_true h1
    cases hu1
    obtain ⟨z1, z2, z3⟩ := hK.2.2.2.2.2.2.2.1
    rw [← ho] at z1
    exact fun ad μ a b c e => sm_objInit hX z1 z2 z3 (by omega) (by omega) h1 d (k ad μ a b c e)
  | false =>
    rw [ho] at hu1
    obtain ⟨C, hC, hu1⟩ := dp_o_ok hu1
    exact dp_call_ok hX hcf hfr hlo (hK.2.2.2.2.2.1 _ _ hC cc) d hu1 hN hS k
theorem dp_in_invokestatic {cl : List vw_C} {X : sm_X} {cc : ByteArray} {own : String} {Ts : List Cond} {rm : Room} {N S : Nat} {M : dp_M} (hX : sm_ok cl X cc M.2.1 own Ts M.2.2.1 rm N S M.2.2.2) {K : dp_K} {ys : Nat → MethodName} {wss : Nat → List Cond} {cf : dp_F} {fr lo : Nat} (hK : dp_Kok cl X.1.2.2.2 own Ts ys wss K) (hcf : dp_cfok cl X.1 ys wss fr lo cf) (hfr : fr + 1 ≤ rm.frames) (hlo : 32 + lo ≤ rm.locals) {ad0 : Nat → Nat} {sh0 : sm_S} {μ0 : sm_M} {pc len : Nat} (i : Nat) (d : decode cc pc = .ok ((.invokestatic i), len)) {L : List (Option Value)} {st : List Value} {sh : sm_S} {P : dp_P} {w : dp_w} {s' : dp_T} (h : dp_in K M cf pc L st sh P w (.invokestatic i) len = some s') (hN : s'.2.2.2.1.length ≤ N) (hS : sm_sl s'.2.2.2.1 ≤ S) (k : dp_J cl X ad0 sh0 μ0 s') : dp_J cl X ad0 sh0 μ0 (pc, L, st, sh, P, w) := by
  obtain ⟨hl, hu1⟩ := dp_g_ok h
  clear h
  have hl := dp_beq hl
  subst hl
  obtain ⟨C, hC, hu2⟩ := dp_o_ok hu1
  clear hu1
  exact dp_call_ok hX hcf hfr hlo (hK.2.2.2.1 _ _ hC cc) d hu2 hN hS k
theorem dp_in_invokevirtual {cl : List vw_C} {X : sm_X} {cc : ByteArray} {own : String} {Ts : List Cond} {rm : Room} {N S : Nat} {M : dp_M} (hX : sm_ok cl X cc M.2.1 own Ts M.2.2.1 rm N S M.2.2.2) {K : dp_K} {ys : Nat → MethodName} {wss : Nat → List Cond} {cf : dp_F} {fr lo : Nat} (hK : dp_Kok cl X.1.2.2.2 own Ts ys wss K) (hcf : dp_cfok cl X.1 ys wss fr lo cf) (hfr : fr + 1 ≤ rm.frames) (hlo : 32 + lo ≤ rm.locals) {ad0 : Nat → Nat} {sh0 : sm_S} {μ0 : sm_M} {pc len : Nat} (i : Nat) (d : decode cc pc = .ok ((.invokevirtual i), len)) {L : List (Option Value)} {st : List Value} {sh : sm_S} {P : dp_P} {w : dp_w} {s' : dp_T} (h : dp_in K M cf pc L st sh P w (.invokevirtual i) len = some s') (hN : s'.2.2.2.1.length ≤ N) (hS : sm_sl s'.2.2.2.1 ≤ S) (k : dp_J cl X ad0 sh0 μ0 s') : dp_J cl X ad0 sh0 μ0 (pc, L, st, sh, P, w) := by
  obtain ⟨hl, hu1⟩ := dp_g_ok h
  clear h
  have hl := dp_beq hl
  subst hl
  obtain ⟨C, hC, hu2⟩ := dp_o_ok hu1
  clear hu1
  exact dp_call_ok hX hcf hfr hlo (hK.2.2.2.2.1 _ _ hC cc) d hu2 hN hS k
theorem dp_in_ok {cl : List vw_C} {X : sm_X} {cc : ByteArray} {own : String} {Ts : List Cond} {rm : Room} {N S : Nat} {M : dp_M} (hX : sm_ok cl X cc M.2.1 own Ts M.2.2.1 rm N S M.2.2.2) {K : dp_K} {ys : Nat → MethodName} {wss : Nat → List Cond} {cf : dp_F} {fr lo : Nat} (hK : dp_Kok cl X.1.2.2.2 own Ts ys wss K) (hcf : dp_cfok cl X.1 ys wss fr lo cf) (hfr : fr + 1 ≤ rm.frames) (hlo : 32 + lo ≤ rm.locals) {ad0 : Nat → Nat} {sh0 : sm_S} {μ0 : sm_M} {pc len : Nat} {ins : Instr} (d : decode cc pc = .ok (ins, len)) {L : List (Option Value)} {st : List Value} {sh : sm_S} {P : dp_P} {w : dp_w} {s' : dp_T} (h : dp_in K M cf pc L st sh P w ins len = some s') (hN : s'.2.2.2.1.length ≤ N) (hS : sm_sl s'.2.2.2.1 ≤ S) (k : dp_J cl X ad0 sh0 μ0 s') : dp_J cl X ad0 sh0 μ0 (pc, L, st, sh, P, w) := by
  cases ins with
  | iadd => exact dp_in_iadd hX hK hcf hfr hlo  d h hN hS k
  | isub => exact dp_in_isub hX hK hcf hfr hlo  d h hN hS k
  | imul => exact dp_in_imul hX hK hcf hfr hlo  d h hN hS k
  | iand => exact dp_in_iand hX hK hcf hfr hlo  d h hN hS k
  | ior => exact dp_in_ior hX hK hcf hfr hlo  d h hN hS k
  | ixor => exact dp_in_ixor hX hK hcf hfr hlo  d h hN hS k
  | ishl => exact dp_in_ishl hX hK hcf hfr hlo  d h hN hS k
  | ishr => exact dp_in_ishr hX hK hcf hfr hlo  d h hN hS k
  | iushr => exact dp_in_iushr hX hK hcf hfr hlo  d h hN hS k
  | ladd => exact dp_in_ladd hX hK hcf hfr hlo  d h hN hS k
  | lsub => exact dp_in_lsub hX hK hcf hfr hlo  d h hN hS k
  | land => exact dp_in_land hX hK hcf hfr hlo  d h hN hS k
  | lor => exact dp_in_lor hX hK hcf hfr hlo  d h hN hS k
  | lxor => exact dp_in_lxor hX hK hcf hfr hlo  d h hN hS k
  | lushr => exact dp_in_lushr hX hK hcf hfr hlo  d h hN hS k
  | lshl => exact dp_in_lshl hX hK hcf hfr hlo  d h hN hS k
  | lshr => exact dp_in_lshr hX hK hcf hfr hlo  d h hN hS k
  | idiv => exact dp_in_idiv hX hK hcf hfr hlo  d h hN hS k
  | irem => exact dp_in_irem hX hK hcf hfr hlo  d h hN hS k
  | ineg => exact dp_in_ineg hX hK hcf hfr hlo  d h hN hS k
  | lcmp => exact dp_in_lcmp hX hK hcf hfr hlo  d h hN hS k
  | i2l => exact dp_in_i2l hX hK hcf hfr hlo  d h hN hS k
  | l2i => exact dp_in_l2i hX hK hcf hfr hlo  d h hN hS k
  | iconst i => exact dp_in_iconst hX hK hcf hfr hlo i d h hN hS k
  | bipush i => exact dp_in_bipush hX hK hcf hfr hlo i d h hN hS k
  | sipush i => exact dp_in_sipush hX hK hcf hfr hlo i d h hN hS k
  | lconst i => exact dp_in_lconst hX hK hcf hfr hlo i d h hN hS k
  | ldc i => exact dp_in_ldc hX hK hcf hfr hlo i d h hN hS k
  | ldc2_w i => exact dp_in_ldc2_w hX hK hcf hfr hlo i d h hN hS k
  | dup => exact dp_in_dup hX hK hcf hfr hlo  d h hN hS k
  | pop => exact dp_in_pop hX hK hcf hfr hlo  d h hN hS k
  | dup_x1 => exact dp_in_dup_x1 hX hK hcf hfr hlo  d h hN hS k
  | dup2 => exact dp_in_dup2 hX hK hcf hfr hlo  d h hN hS k
  | iload i => exact dp_in_iload hX hK hcf hfr hlo i d h hN hS k
  | iload_n i => exact dp_in_iload_n hX hK hcf hfr hlo i d h hN hS k
  | istore i => exact dp_in_istore hX hK hcf hfr hlo i d h hN hS k
  | istore_n i => exact dp_in_istore_n hX hK hcf hfr hlo i d h hN hS k
  | lload i => exact dp_in_lload hX hK hcf hfr hlo i d h hN hS k
  | lload_n i => exact dp_in_lload_n hX hK hcf hfr hlo i d h hN hS k
  | lstore i => exact dp_in_lstore hX hK hcf hfr hlo i d h hN hS k
  | lstore_n i => exact dp_in_lstore_n hX hK hcf hfr hlo i d h hN hS k
  | aload i => exact dp_in_aload hX hK hcf hfr hlo i d h hN hS k
  | aload_n i => exact dp_in_aload_n hX hK hcf hfr hlo i d h hN hS k
  | astore i => exact dp_in_astore hX hK hcf hfr hlo i d h hN hS k
  | astore_n i => exact dp_in_astore_n hX hK hcf hfr hlo i d h hN hS k
  | iinc i z => exact dp_in_iinc hX hK hcf hfr hlo i z d h hN hS k
  | ifCond cn off => exact dp_in_ifCond hX hK hcf hfr hlo cn off d h hN hS k
  | if_icmp cn off => exact dp_in_if_icmp hX hK hcf hfr hlo cn off d h hN hS k
  | goto off => exact dp_in_goto hX hK hcf hfr hlo off d h hN hS k
  | lookupswitch dflt ps => exact dp_in_lookupswitch hX hK hcf hfr hlo dflt ps d h hN hS k
  | tableswitch dflt lo hi offs => exact dp_in_tableswitch hX hK hcf hfr hlo dflt lo hi offs d h hN hS k
  | getfield i => exact dp_in_getfield hX hK hcf hfr hlo i d h hN hS k
  | putfield i => exact dp_in_putfield hX hK hcf hfr hlo i d h hN hS k
  | iaload => exact dp_in_iaload hX hK hcf hfr hlo  d h hN hS k
  | baload => exact dp_in_baload hX hK hcf hfr hlo  d h hN hS k
  | laload => exact dp_in_laload hX hK hcf hfr hlo  d h hN hS k
  | iastore => exact dp_in_iastore hX hK hcf hfr hlo  d h hN hS k
  | bastore => exact dp_in_bastore hX hK hcf hfr hlo  d h hN hS k
  | lastore => exact dp_in_lastore hX hK hcf hfr hlo  d h hN hS k
  | arraylength => exact dp_in_arraylength hX hK hcf hfr hlo  d h hN hS k
  | new i => exact dp_in_new hX hK hcf hfr hlo i d h hN hS k
  | newarray at' => exact dp_in_newarray hX hK hcf hfr hlo at' d h hN hS k
  | invokespecial i => exact dp_in_invokespecial hX hK hcf hfr hlo i d h hN hS k
  | invokestatic i => exact dp_in_invokestatic hX hK hcf hfr hlo i d h hN hS k
  | invokevirtual i => exact dp_in_invokevirtual hX hK hcf hfr hlo i d h hN hS k
  | _ => exact absurd h (by intro h; cases h)
theorem dp_rn_ok {cl : List vw_C} {X : sm_X} {cc : ByteArray} {own : String} {Ts : List Cond} {rm : Room} {N S : Nat} {M : dp_M} (hX : sm_ok cl X cc M.2.1 own Ts M.2.2.1 rm N S M.2.2.2) {ad0 : Nat → Nat} {sh0 : sm_S} {μ0 : sm_M} {pc len : Nat} {ins : Instr} (d : decode cc pc = .ok (ins, len)) {L : List (Option Value)} {st : List Value} {sh : sm_S} {P : dp_P} {w : dp_w} {R : dp_R} (h : dp_rn M st sh P w ins len = some R) : R.2 = (sh, P, w) ∧ (sh0.length ≤ sh.length → sm_sl sh0 ≤ sm_sl sh → sm_fin cl X ad0 sh0 (sh.length - sh0.length) (sm_sl sh - sm_sl sh0) (dp_Q μ0 R) → dp_J cl X ad0 sh0 μ0 (pc, L, st, sh, P, w)) := by
  cases ins with
  | ireturn =>
    obtain ⟨hl, ha⟩ := dp_g_ok h
    clear h
    have hl := dp_beq hl
    subst hl
    obtain ⟨v, r, rfl, hb⟩ := dp_1i_ok ha
    clear ha
    obtain ⟨hr, h⟩ := dp_g_ok hb
    clear hb
    have hr : r = [] := List.isEmpty_iff.mp hr
    subst hr
    unfold dp_rt at h
    split at h
    · rename_i hrt
      cases h
      exact ⟨rfl, fun g1 g2 hf ad μ a b c e => sm_iret hX hf (by omega) (by omega) c hrt d ⟨rfl, rfl, a, b⟩⟩
    · rename_i hrt
      obtain ⟨hv, hc⟩ := dp_g_ok h
      cases hc
      exact ⟨rfl, fun g1 g2 hf ad μ a b c e => sm_zret hX hf (by omega) (by omega) c hrt (of_decide_eq_true hv) d ⟨rfl, rfl, a, b⟩⟩
    · cases h
  | lreturn =>
    obtain ⟨hl, ha⟩ := dp_g_ok h
    clear h
    have hl := dp_beq hl
    subst hl
    obtain ⟨v, r, rfl, hb⟩ := dp_1l_ok ha
    clear ha
    obtain ⟨hr, h⟩ := dp_g_ok hb
    clear hb
    have hr : r = [] := List.isEmpty_iff.mp hr
    subst hr
    split at h
    · rename_i hrt
      cases h
      exact ⟨rfl, fun g1 g2 hf ad μ a b c e => sm_lret hX hf (by omega) (by omega) c hrt d ⟨rfl, rfl, a, b⟩⟩
    · cases h
  | return_ =>
    obtain ⟨hl, ha⟩ := dp_g_ok h
    clear h
    have hl := dp_beq hl
    subst hl
    obtain ⟨hr, h⟩ := dp_g_ok ha
    clear ha
    have hr : st = [] := List.isEmpty_iff.mp hr
    subst hr
    split at h
    · rename_i hrt
      cases h
      exact ⟨rfl, fun g1 g2 hf ad μ a b c e => sm_vret hX hf (by omega) (by omega) c hrt d ⟨rfl, rfl, a, b⟩⟩
    · cases h
  | _ => exact absurd h (by intro h; cases h)
theorem dp_ck_ok {sh sh' : sm_S} (h : dp_ck sh sh' = true) : sh.length ≤ sh'.length ∧ sm_sl sh ≤ sm_sl sh' := by
  unfold dp_ck at h
  rw [Bool.and_eq_true] at h
  exact ⟨Nat.le_of_ble_eq_true h.1, Nat.le_of_ble_eq_true h.2⟩
def dp_shp : dp_T ⊕ dp_R → sm_S
  | .inl s => s.2.2.2.1
  | .inr R => R.2.1
def dp_End (cl : List vw_C) (X : sm_X) (ad0 : Nat → Nat) (sh0 : sm_S) (μ0 : sm_M) : dp_T ⊕ dp_R → Prop
  | .inl s => dp_J cl X ad0 sh0 μ0 s
  | .inr R => sh0.length ≤ R.2.1.length ∧ sm_sl sh0 ≤ sm_sl R.2.1 ∧ sm_fin cl X ad0 sh0 (R.2.1.length - sh0.length) (sm_sl R.2.1 - sm_sl sh0) (dp_Q μ0 R)
theorem dp_st_ok {cl : List vw_C} {X : sm_X} {cc : ByteArray} {own : String} {Ts : List Cond} {rm : Room} {N S : Nat} {M : dp_M} (hX : sm_ok cl X cc M.2.1 own Ts M.2.2.1 rm N S M.2.2.2) (hM : ∀ e ∈ M.1, decode cc e.1 = .ok e.2) {K : dp_K} {ys : Nat → MethodName} {wss : Nat → List Cond} {cf : dp_F} {fr lo : Nat} (hK : dp_Kok cl X.1.2.2.2 own Ts ys wss K) (hcf : dp_cfok cl X.1 ys wss fr lo cf) (hfr : fr + 1 ≤ rm.frames) (hlo : 32 + lo ≤ rm.locals) {ad0 : Nat → Nat} {sh0 : sm_S} {μ0 : sm_M} {s : dp_T} {o : dp_T ⊕ dp_R} (h : dp_st K M cf s = some o) : (s.2.2.2.1.length ≤ (dp_shp o).length ∧ sm_sl s.2.2.2.1 ≤ sm_sl (dp_shp o)) ∧ ((dp_shp o).length ≤ N → sm_sl (dp_shp o) ≤ S → dp_End cl X ad0 sh0 μ0 o → dp_J cl X ad0 sh0 μ0 s) := by
  obtain ⟨pc, L, st, sh, P, w⟩ := s
  unfold dp_st at h
  simp only at h
  rw [dp_nf_eq] at h
  obtain ⟨⟨ins, len⟩, hi, h⟩ := dp_o_ok h
  have d := hM _ (dp_find_mem hi)
  simp only at h d
  split at h
  · rename_i R hR
    cases h
    obtain ⟨z1, z2⟩ := dp_rn_ok (ad0 := ad0) (sh0 := sh0) (μ0 := μ0) (L := L) hX d hR
    obtain ⟨r, sh', P', w'⟩ := R
    cases z1
    exact ⟨⟨Nat.le_refl _, Nat.le_refl _⟩, fun _ _ z => z2 z.1 z.2.1 z.2.2⟩
  · obtain ⟨s', hs, h⟩ := dp_o_ok h
    obtain ⟨hc, h⟩ := dp_g_ok h
    cases h
    exact ⟨dp_ck_ok hc, fun z1 z2 z3 => dp_in_ok hX hK hcf hfr hlo d hs z1 z2 z3⟩
theorem dp_go_ok {cl : List vw_C} {X : sm_X} {cc : ByteArray} {own : String} {Ts : List Cond} {rm : Room} {N S : Nat} {M : dp_M} (hX : sm_ok cl X cc M.2.1 own Ts M.2.2.1 rm N S M.2.2.2) (hM : ∀ e ∈ M.1, decode cc e.1 = .ok e.2) {K : dp_K} {ys : Nat → MethodName} {wss : Nat → List Cond} {cf : dp_F} {fr lo : Nat} (hK : dp_Kok cl X.1.2.2.2 own Ts ys wss K) (hcf : dp_cfok cl X.1 ys wss fr lo cf) (hfr : fr + 1 ≤ rm.frames) (hlo : 32 + lo ≤ rm.locals) {ad0 : Nat → Nat} {sh0 : sm_S} {μ0 : sm_M} : ∀ (k : Nat) (s : dp_T) (o : dp_T ⊕ dp_R), dp_go K M cf k s = some o → (s.2.2.2.1.length ≤ (dp_shp o).length ∧ sm_sl s.2.2.2.1 ≤ sm_sl (dp_shp o)) ∧ ((dp_shp o).length ≤ N → sm_sl (dp_shp o) ≤ S → dp_End cl X ad0 sh0 μ0 o → dp_J cl X ad0 sh0 μ0 s)
  | 0, s, o, h => dp_st_ok hX hM hK hcf hfr hlo h
  | k + 1, s, o, h => by
    unfold dp_go at h
    split at h
    · rename_i s' hs
      obtain ⟨⟨a1, a2⟩, a3⟩ := dp_go_ok hX hM hK hcf hfr hlo k s _ hs
      obtain ⟨⟨b1, b2⟩, b3⟩ := dp_go_ok hX hM hK hcf hfr hlo k s' o h
      simp only [dp_shp] at a1 a2 a3
      exact ⟨⟨Nat.le_trans a1 b1, Nat.le_trans a2 b2⟩, fun z1 z2 z3 => a3 (Nat.le_trans b1 z1) (Nat.le_trans b2 z2) (b3 z1 z2 z3)⟩
    · rename_i R hs
      cases h
      exact dp_go_ok hX hM hK hcf hfr hlo k s _ hs
    · cases h
theorem dp_rn_sh {M : dp_M} {st : List Value} {sh : sm_S} {P : dp_P} {w : dp_w} {ins : Instr} {len : Nat} {R : dp_R} (h : dp_rn M st sh P w ins len = some R) : R.2.1 = sh := by
  cases ins with
  | ireturn =>
    obtain ⟨hl, h⟩ := dp_g_ok h
    obtain ⟨v, r, rfl, h⟩ := dp_1i_ok h
    obtain ⟨hr, h⟩ := dp_g_ok h
    unfold dp_rt at h
    split at h
    · cases h; rfl
    · obtain ⟨hv, h⟩ := dp_g_ok h
      cases h; rfl
    · cases h
  | lreturn =>
    obtain ⟨hl, h⟩ := dp_g_ok h
    obtain ⟨v, r, rfl, h⟩ := dp_1l_ok h
    obtain ⟨hr, h⟩ := dp_g_ok h
    split at h
    · cases h; rfl
    · cases h
  | return_ =>
    obtain ⟨hl, h⟩ := dp_g_ok h
    obtain ⟨hr, h⟩ := dp_g_ok h
    split at h
    · cases h; rfl
    · cases h
  | _ => exact absurd h (by intro h; cases h)
theorem dp_st_gr {K : dp_K} {M : dp_M} {cf : dp_F} {s : dp_T} {o : dp_T ⊕ dp_R} (h : dp_st K M cf s = some o) : s.2.2.2.1.length ≤ (dp_shp o).length ∧ sm_sl s.2.2.2.1 ≤ sm_sl (dp_shp o) := by
  obtain ⟨pc, L, st, sh, P, w⟩ := s
  unfold dp_st at h
  simp only at h
  rw [dp_nf_eq] at h
  obtain ⟨⟨ins, len⟩, hi, h⟩ := dp_o_ok h
  simp only at h
  split at h
  · rename_i R hR
    cases h
    have z := dp_rn_sh hR
    simp only [dp_shp, z]
    exact ⟨Nat.le_refl _, Nat.le_refl _⟩
  · obtain ⟨s', hs, h⟩ := dp_o_ok h
    obtain ⟨hc, h⟩ := dp_g_ok h
    cases h
    exact dp_ck_ok hc
theorem dp_go_gr {K : dp_K} {M : dp_M} {cf : dp_F} : ∀ (k : Nat) (s : dp_T) (o : dp_T ⊕ dp_R), dp_go K M cf k s = some o → s.2.2.2.1.length ≤ (dp_shp o).length ∧ sm_sl s.2.2.2.1 ≤ sm_sl (dp_shp o)
  | 0, s, o, h => dp_st_gr h
  | k + 1, s, o, h => by
    unfold dp_go at h
    split at h
    · rename_i s' hs
      obtain ⟨a1, a2⟩ := dp_go_gr k s _ hs
      obtain ⟨b1, b2⟩ := dp_go_gr k s' o h
      exact ⟨Nat.le_trans a1 b1, Nat.le_trans a2 b2⟩
    · rename_i R hs
      cases h
      exact dp_go_gr k s _ hs
    · cases h
/-- a method: what a run from its beginning computes is its contract -/
theorem dp_meth {cl : List vw_C} {Z : sm_Z} {y : MethodName} {cc : ByteArray} {W' : List Cond} {M : dp_M} (hM : ∀ e ∈ M.1, decode cc e.1 = .ok e.2) {K : dp_K} {ys : Nat → MethodName} {wss : Nat → List Cond} {cf : dp_F} {fr lo : Nat} (hK : dp_Kok cl Z.2.2.2 y.cls W' ys wss K) (hcf : dp_cfok cl Z ys wss fr lo cf) (hy : plainName y.cls = true) (hini : (y.name == "<init>") = M.2.2.2) {As : List Value} (hlen : (lg_sl As).length ≤ M.2.1) {sh : sm_S} {P : dp_P} {R : dp_R} {k : Nat} (h : dp_go K M cf k (0, sm_L0 M.2.1 As, [], sh, P, dp_w0) = some (.inr R)) : sh.length ≤ R.2.1.length ∧ sm_sl sh ≤ sm_sl R.2.1 ∧ ∀ (ad : Nat → Nat) (μ : sm_M), dp_le P μ → sm_C cl Z y (Cond.code y cc M.2.1 M.2.2.1 :: W') (dp_rm (fr + 1) (lo + 32) sh R.2.1) As ad sh μ (dp_Q μ R) := by
  have g := dp_go_gr _ _ _ h
  simp only [dp_shp] at g
  refine ⟨g.1, g.2, fun ad μ hle => sm_enter hy hlen (fun X hZ hX hf => ?_)⟩
  subst hZ
  rw [hini] at hX
  exact (dp_go_ok hX hM hK hcf (Nat.le_refl _) (by simp only [dp_rm]; omega) k _ _ h).2 (by simp only [dp_shp, dp_rm]; omega) (by simp only [dp_shp, dp_rm]; omega) ⟨g.1, g.2, hf⟩ ad μ hle dp_ou.rf (fun _ _ => rfl) (Nat.le_refl _)
end
section
/-! A run over RANGES: what a method may do from every memory that keeps given ranges. An int is (lowest, highest, equal to the value that a local had at the segment's start plus a number, equal to a local now); a reference is its place; of a long nothing is known. -/
abbrev ab_I : Type := Int × Int × Option (Nat × Int) × Option Nat
abbrev ab_V : Type := ab_I ⊕ (Nat ⊕ Unit)
abbrev ab_L : Type := List (Option ab_V)
abbrev ab_T : Type := Nat × ab_L × List ab_V
/-- what a contract says of an argument or an answer -/
abbrev ab_A : Type := (Int × Int) ⊕ (Nat ⊕ Unit)
/-- a contract: method, level, arguments, answer, places that it may write -/
abbrev ab_C : Type := Nat × Nat × List ab_A × Option ab_A × List Nat
def ab_lo : Int := -2147483648
def ab_hi : Int := 2147483647
def ab_top : ab_I := (ab_lo, ab_hi, none, none)
def ab_c (n : Int) : ab_I := (n, n, none, none)
def ab_fit (lo hi : Int) : Bool := decide (ab_lo ≤ lo) && decide (hi ≤ ab_hi)
def ab_rg (lo hi : Int) (rel : Option (Nat × Int)) : ab_I := bif ab_fit lo hi then (lo, hi, rel, none) else ab_top
def ab_one (x : ab_I) : Bool := decide (x.1 = x.2.1)
def ab_sh (r : Option (Nat × Int)) (n : Int) : Option (Nat × Int) := match r with
  | some (k, c) => some (k, c + n)
  | none => none
def ab_add (x y : ab_I) : ab_I := ab_rg (x.1 + y.1) (x.2.1 + y.2.1) (bif ab_one y then ab_sh x.2.2.1 y.1 else bif ab_one x then ab_sh y.2.2.1 x.1 else none)
def ab_sub (x y : ab_I) : ab_I := ab_rg (x.1 - y.2.1) (x.2.1 - y.1) (bif ab_one y then ab_sh x.2.2.1 (-y.1) else none)
def ab_mul (x y : ab_I) : ab_I := bif decide (0 ≤ x.1) && decide (0 ≤ y.1) then ab_rg (x.1 * y.1) (x.2.1 * y.2.1) none else ab_top
def ab_div (x y : ab_I) : Option ab_I := bif ab_one y && (decide (0 < y.1) && decide (0 ≤ x.1)) then some (x.1 / y.1, x.2.1 / y.1, none, none) else none
def ab_rem (x y : ab_I) : Option ab_I := bif ab_one y && (decide (0 < y.1) && decide (0 ≤ x.1)) then some (0, y.1 - 1, none, none) else none
def ab_and (x y : ab_I) : ab_I := bif decide (0 ≤ y.1) then (0, y.2.1, none, none) else bif decide (0 ≤ x.1) then (0, x.2.1, none, none) else ab_top
def ab_bit (x : ab_I) : Bool := decide (0 ≤ x.1) && decide (x.2.1 ≤ 1)
def ab_or (x y : ab_I) : ab_I := bif ab_bit x && ab_bit y then (0, 1, none, none) else ab_top
def ab_shr (x y : ab_I) : ab_I := bif ab_one y && (decide (y.1 = 6) && (decide (0 ≤ x.1) && decide (x.2.1 ≤ 1023))) then (x.1 / 64, x.2.1 / 64, none, none) else ab_top
/-- two ints of which one is in a relation to the other: what then holds of both, if it can be -/
def ab_cut (x : ab_I) (lo hi : Int) : Option ab_I := bif decide (max x.1 lo ≤ min x.2.1 hi) then some (max x.1 lo, min x.2.1 hi, x.2.2) else none
def ab_two (x y : Option ab_I) : Option (ab_I × ab_I) := match x, y with
  | some a, some b => some (a, b)
  | _, _ => none
def ab_ne1 (x : ab_I) (c : Int) : Option ab_I := bif decide (x.1 = c) then ab_cut x (c + 1) ab_hi else bif decide (x.2.1 = c) then ab_cut x ab_lo (c - 1) else some x
def ab_cmp : Jvm.ClassFile.Cond → ab_I → ab_I → Option (ab_I × ab_I)
  | .eq, x, y => ab_two (ab_cut x y.1 y.2.1) (ab_cut y x.1 x.2.1)
  | .ne, x, y => ab_two (bif ab_one y then ab_ne1 x y.1 else some x) (bif ab_one x then ab_ne1 y x.1 else some y)
  | .lt, x, y => ab_two (ab_cut x ab_lo (y.2.1 - 1)) (ab_cut y (x.1 + 1) ab_hi)
  | .ge, x, y => ab_two (ab_cut x y.1 ab_hi) (ab_cut y ab_lo x.2.1)
  | .gt, x, y => ab_two (ab_cut x (y.1 + 1) ab_hi) (ab_cut y ab_lo (x.2.1 - 1))
  | .le, x, y => ab_two (ab_cut x ab_lo y.2.1) (ab_cut y x.1 ab_hi)
def ab_neg : Jvm.ClassFile.Cond → Jvm.ClassFile.Cond
  | .eq => .ne
  | .ne => .eq
  | .lt => .ge
  | .ge => .lt
  | .gt => .le
  | .le => .gt
/-- what became known of an int becomes known of the local that it is -/
def ab_up (A : ab_L) (x : ab_I) : ab_L := match x.2.2.2 with
  | none => A
  | some l => (match A[l]? with
    | some (some (.inl _)) => A.set l (some (.inl (x.1, x.2.1, x.2.2.1, none)))
    | _ => A)
/-- a stored local is no longer what lies on the stack -/
def ab_cl (l : Nat) (v : ab_V) : ab_V := match v with
  | .inl (a, b, r, some k) => bif Nat.beq k l then .inl (a, b, r, none) else .inl (a, b, r, some k)
  | v => v
def ab_co (l : Nat) (v : ab_V) : ab_V := match v with
  | .inl (a, b, r, _) => .inl (a, b, r, some l)
  | v => v
def ab_no : ab_V → ab_V
  | .inl (a, b, r, _) => .inl (a, b, r, none)
  | v => v
def ab_1i {β : Type} (st : List ab_V) (k : ab_I → List ab_V → Option β) : Option β := match st with
  | .inl x :: r => k x r
  | _ => none
def ab_1l {β : Type} (st : List ab_V) (k : List ab_V → Option β) : Option β := match st with
  | .inr (.inr _) :: r => k r
  | _ => none
def ab_1r {β : Type} (st : List ab_V) (k : Nat → List ab_V → Option β) : Option β := match st with
  | .inr (.inl p) :: r => k p r
  | _ => none
def ab_1v {β : Type} (st : List ab_V) (k : ab_V → List ab_V → Option β) : Option β := match st with
  | x :: r => k x r
  | _ => none
def ab_cat : ab_V → Nat
  | .inr (.inr _) => 2
  | _ => 1
def ab_ah (A : ab_L) : Nat → Bool
  | 0 => true
  | i + 1 => match A.getD i none with
    | some (.inr (.inr _)) => false
    | _ => true
/-- an array of the kind, all of whose places the index can be -/
def ab_ar {β : Type} (sh : sm_S) (p kd : Nat) (i : ab_I) (k : Unit → Option β) : Option β := match sh[p]? with
  | some (.inr (c, n)) => bif Nat.beq c kd && (decide (0 ≤ i.1) && decide (i.2.1 < (n : Int))) then k () else none
  | _ => none
def ab_in (x : ab_I) (r : Int × Int) : Bool := decide (r.1 ≤ x.1) && decide (x.2.1 ≤ r.2)
def ab_fits (v : ab_V) (a : ab_A) : Bool := match v, a with
  | .inl x, .inl r => ab_in x r
  | .inr (.inl p), .inr (.inl q) => Nat.beq p q
  | .inr (.inr _), .inr (.inr _) => true
  | _, _ => false
def ab_fitl : List ab_V → List ab_A → Bool
  | [], [] => true
  | v :: t, a :: u => ab_fits v a && ab_fitl t u
  | _, _ => false
def ab_of : ab_A → ab_V
  | .inl r => .inl (r.1, r.2, none, none)
  | .inr x => .inr x
def ab_find (j lvl : Nat) (As : List ab_V) : List ab_C → Option ab_C
  | [] => none
  | e :: t => bif Nat.beq e.1 j && (Nat.ble (e.2.1 + 1) lvl && ab_fitl As e.2.2.1) then some e else ab_find j lvl As t
def ab_sub' (w w' : List Nat) : Bool := w.all (fun p => w'.any (fun q => Nat.beq p q))
/-- the ranges of the ints by place and number, the shape; of a method: its locals, answer, level, places that it may write -/
abbrev ab_G : Type := (Nat → Nat → Int × Int) × sm_S
abbrev ab_M : Type := Nat × Option FieldType × Option ab_A × Nat × List Nat
def ab_w (M : ab_M) (p : Nat) : Bool := M.2.2.2.2.any (fun q => Nat.beq p q)
/-- a call, by the contracts that stand -/
def ab_ca (G : ab_G) (M : ab_M) (CT : List ab_C) (j na rc pc : Nat) (A : ab_L) (st : List ab_V) : Option (List ab_T) :=
  dp_g (Nat.beq (st.take na).length na) (dp_g (match rc with
    | 0 => true
    | ci + 1 => match (st.take na).reverse with
      | .inr (.inl p) :: _ => (match G.2[p]? with
        | some (.inl (c, _)) => Nat.beq c ci
        | _ => false)
      | _ => false) (dp_g (Nat.ble ((st.drop na).map ab_cat).sum 8) (dp_o (ab_find j M.2.2.2.1 (st.take na).reverse CT) (fun e => dp_g (ab_sub' e.2.2.2.2 M.2.2.2.2) (match e.2.2.2.1 with
    | none => some [(pc + 3, A, st.drop na)]
    | some a => some [(pc + 3, A, ab_of a :: st.drop na)])))))
/-- one instruction: where it may go on -/
def ab_st (K : dp_K) (G : ab_G) (M : ab_M) (CT : List ab_C) (pc : Nat) (A : ab_L) (st : List ab_V) (ins : Instr) (len : Nat) : Option (List ab_T) := match ins with
  | .iadd => dp_g (Nat.beq len 1) (ab_1i st fun y r => ab_1i r fun x r => some [(pc + 1, A, .inl (ab_add x y) :: r)])
  | .isub => dp_g (Nat.beq len 1) (ab_1i st fun y r => ab_1i r fun x r => some [(pc + 1, A, .inl (ab_sub x y) :: r)])
  | .imul => dp_g (Nat.beq len 1) (ab_1i st fun y r => ab_1i r fun x r => some [(pc + 1, A, .inl (ab_mul x y) :: r)])
  | .iand => dp_g (Nat.beq len 1) (ab_1i st fun y r => ab_1i r fun x r => some [(pc + 1, A, .inl (ab_and x y) :: r)])
  | .ior => dp_g (Nat.beq len 1) (ab_1i st fun y r => ab_1i r fun x r => some [(pc + 1, A, .inl (ab_or x y) :: r)])
  | .ishr => dp_g (Nat.beq len 1) (ab_1i st fun y r => ab_1i r fun x r => some [(pc + 1, A, .inl (ab_shr x y) :: r)])
  | .ixor => dp_g (Nat.beq len 1) (ab_1i st fun y r => ab_1i r fun x r => some [(pc + 1, A, .inl ab_top :: r)])
  | .ishl => dp_g (Nat.beq len 1) (ab_1i st fun y r => ab_1i r fun x r => some [(pc + 1, A, .inl ab_top :: r)])
  | .iushr => dp_g (Nat.beq len 1) (ab_1i st fun y r => ab_1i r fun x r => some [(pc + 1, A, .inl ab_top :: r)])
  | .idiv => dp_g (Nat.beq len 1) (ab_1i st fun y r => ab_1i r fun x r => dp_o (ab_div x y) fun v => some [(pc + 1, A, .inl v :: r)])
  | .irem => dp_g (Nat.beq len 1) (ab_1i st fun y r => ab_1i r fun x r => dp_o (ab_rem x y) fun v => some [(pc + 1, A, .inl v :: r)])
  | .ineg => dp_g (Nat.beq len 1) (ab_1i st fun _ r => some [(pc + 1, A, .inl ab_top :: r)])
  | .land => dp_g (Nat.beq len 1) (ab_1l st fun r => ab_1l r fun r => some [(pc + 1, A, .inr (.inr ()) :: r)])
  | .lor => dp_g (Nat.beq len 1) (ab_1l st fun r => ab_1l r fun r => some [(pc + 1, A, .inr (.inr ()) :: r)])
  | .lxor => dp_g (Nat.beq len 1) (ab_1l st fun r => ab_1l r fun r => some [(pc + 1, A, .inr (.inr ()) :: r)])
  | .ladd => dp_g (Nat.beq len 1) (ab_1l st fun r => ab_1l r fun r => some [(pc + 1, A, .inr (.inr ()) :: r)])
  | .lsub => dp_g (Nat.beq len 1) (ab_1l st fun r => ab_1l r fun r => some [(pc + 1, A, .inr (.inr ()) :: r)])
  | .lshl => dp_g (Nat.beq len 1) (ab_1i st fun _ r => ab_1l r fun r => some [(pc + 1, A, .inr (.inr ()) :: r)])
  | .lshr => dp_g (Nat.beq len 1) (ab_1i st fun _ r => ab_1l r fun r => some [(pc + 1, A, .inr (.inr ()) :: r)])
  | .lushr => dp_g (Nat.beq len 1) (ab_1i st fun _ r => ab_1l r fun r => some [(pc + 1, A, .inr (.inr ()) :: r)])
  | .lcmp => dp_g (Nat.beq len 1) (ab_1l st fun r => ab_1l r fun r => some [(pc + 1, A, .inl (-1, 1, none, none) :: r)])
  | .i2l => dp_g (Nat.beq len 1) (ab_1i st fun _ r => some [(pc + 1, A, .inr (.inr ()) :: r)])
  | .l2i => dp_g (Nat.beq len 1) (ab_1l st fun r => some [(pc + 1, A, .inl ab_top :: r)])
  | .iconst i => dp_g (Nat.beq len 1) (some [(pc + 1, A, .inl (ab_c (Int32.ofInt i).toInt) :: st)])
  | .bipush i => dp_g (Nat.beq len 2) (some [(pc + 2, A, .inl (ab_c (Int8.ofInt i).toInt32.toInt) :: st)])
  | .sipush i => dp_g (Nat.beq len 3) (some [(pc + 3, A, .inl (ab_c (Int16.ofInt i).toInt32.toInt) :: st)])
  | .lconst _ => dp_g (Nat.beq len 1) (some [(pc + 1, A, .inr (.inr ()) :: st)])
  | .ldc i => dp_g (Nat.beq len 2) (dp_o (K.2.1 i) fun v => some [(pc + 2, A, .inl (ab_c v.toInt) :: st)])
  | .ldc2_w i => dp_g (Nat.beq len 3) (dp_o (K.2.2.1 i) fun _ => some [(pc + 3, A, .inr (.inr ()) :: st)])
  | .dup => dp_g (Nat.beq len 1) (ab_1v st fun a r => dp_g (Nat.beq (ab_cat a) 1) (some [(pc + 1, A, a :: a :: r)]))
  | .pop => dp_g (Nat.beq len 1) (ab_1v st fun a r => dp_g (Nat.beq (ab_cat a) 1) (some [(pc + 1, A, r)]))
  | .dup_x1 => dp_g (Nat.beq len 1) (ab_1v st fun a r => ab_1v r fun b r => dp_g (Nat.beq (ab_cat a) 1) (dp_g (Nat.beq (ab_cat b) 1) (some [(pc + 1, A, a :: b :: a :: r)])))
  | .dup2 => dp_g (Nat.beq len 1) (ab_1v st fun a r => ab_1v r fun b r => dp_g (Nat.beq (ab_cat a) 1) (dp_g (Nat.beq (ab_cat b) 1) (some [(pc + 1, A, a :: b :: a :: b :: r)])))
  | .iload i => dp_g (Nat.beq len 2) (match A[i]? with
    | some (some (.inl x)) => some [(pc + 2, A, .inl (x.1, x.2.1, x.2.2.1, some (i)) :: st)]
    | _ => none)
  | .iload_n i => dp_g (Nat.beq len 1) (match A[(i : Nat)]? with
    | some (some (.inl x)) => some [(pc + 1, A, .inl (x.1, x.2.1, x.2.2.1, some ((i : Nat))) :: st)]
    | _ => none)
  | .istore i => dp_g (Nat.beq len 2) (ab_1i st fun x r => dp_g (ab_ah A i) (dp_g (Nat.ble (i + 1) M.1) (some [(pc + 2, A.set i (some (.inl (x.1, x.2.1, x.2.2.1, none))), r.map (ab_cl i))])))
  | .istore_n i => dp_g (Nat.beq len 1) (ab_1i st fun x r => dp_g (ab_ah A (i : Nat)) (dp_g (Nat.ble ((i : Nat) + 1) M.1) (some [(pc + 1, A.set (i : Nat) (some (.inl (x.1, x.2.1, x.2.2.1, none))), r.map (ab_cl (i : Nat)))])))
  | .lload i => dp_g (Nat.beq len 2) (match A[i]? with
    | some (some (.inr (.inr _))) => some [(pc + 2, A, .inr (.inr ()) :: st)]
    | _ => none)
  | .lload_n i => dp_g (Nat.beq len 1) (match A[(i : Nat)]? with
    | some (some (.inr (.inr _))) => some [(pc + 1, A, .inr (.inr ()) :: st)]
    | _ => none)
  | .lstore i => dp_g (Nat.beq len 2) (ab_1l st fun r => dp_g (ab_ah A i) (dp_g (Nat.ble (i + 2) M.1) (some [(pc + 2, (A.set i (some (.inr (.inr ())))).set (i + 1) none, (r.map (ab_cl i)).map (ab_cl (i + 1)))])))
  | .lstore_n i => dp_g (Nat.beq len 1) (ab_1l st fun r => dp_g (ab_ah A (i : Nat)) (dp_g (Nat.ble ((i : Nat) + 2) M.1) (some [(pc + 1, (A.set (i : Nat) (some (.inr (.inr ())))).set ((i : Nat) + 1) none, (r.map (ab_cl (i : Nat))).map (ab_cl ((i : Nat) + 1)))])))
  | .aload i => dp_g (Nat.beq len 2) (match A[i]? with
    | some (some (.inr (.inl p))) => some [(pc + 2, A, .inr (.inl p) :: st)]
    | _ => none)
  | .aload_n i => dp_g (Nat.beq len 1) (match A[(i : Nat)]? with
    | some (some (.inr (.inl p))) => some [(pc + 1, A, .inr (.inl p) :: st)]
    | _ => none)
  | .astore i => dp_g (Nat.beq len 2) (ab_1r st fun p r => dp_g (ab_ah A i) (dp_g (Nat.ble (i + 1) M.1) (some [(pc + 2, A.set i (some (.inr (.inl p))), r.map (ab_cl i))])))
  | .astore_n i => dp_g (Nat.beq len 1) (ab_1r st fun p r => dp_g (ab_ah A (i : Nat)) (dp_g (Nat.ble ((i : Nat) + 1) M.1) (some [(pc + 1, A.set (i : Nat) (some (.inr (.inl p))), r.map (ab_cl (i : Nat)))])))
  | .iinc i z => dp_g (Nat.beq len 3) (match A[i]? with
    | some (some (.inl x)) => dp_g (ab_ah A i) (dp_g (Nat.ble (i + 1) M.1) (some [(pc + 3, A.set i (some (.inl (ab_add x (ab_c (Int32.ofInt z).toInt)))), st.map (ab_cl i))]))
    | _ => none)
  | .goto off => dp_g (Nat.beq len 3) (dp_tg pc off fun t => some [(t, A, st)])
  | .ifCond cn off => dp_g (Nat.beq len 3) (ab_1i st fun x r => dp_tg pc off fun t => some ((match ab_cmp cn x (ab_c 0) with
    | some (a, _) => [(t, ab_up A a, r)]
    | none => []) ++ (match ab_cmp (ab_neg cn) x (ab_c 0) with
    | some (a, _) => [(pc + 3, ab_up A a, r)]
    | none => [])))
  | .if_icmp cn off => dp_g (Nat.beq len 3) (ab_1i st fun y r => ab_1i r fun x r => dp_tg pc off fun t => some ((match ab_cmp cn x y with
    | some (a, b) => [(t, ab_up (ab_up A a) b, r)]
    | none => []) ++ (match ab_cmp (ab_neg cn) x y with
    | some (a, b) => [(pc + 3, ab_up (ab_up A a) b, r)]
    | none => [])))
  | .getfield i => dp_g (Nat.beq len 3) (ab_1r st fun p r => dp_o (K.1 i) fun F => dp_ob G.2 p F.1 fun fs => dp_o fs[F.2.1]? fun f => match f with
    | none => some [(pc + 3, A, .inl ((G.1 p F.2.1).1, (G.1 p F.2.1).2, none, none) :: r)]
    | some none => none
    | some (some q) => some [(pc + 3, A, .inr (.inl q) :: r)])
  | .putfield i => dp_g (Nat.beq len 3) (ab_1i st fun x r => ab_1r r fun p r => dp_o (K.1 i) fun F => dp_ob G.2 p F.1 fun fs => match fs[F.2.1]? with
    | some none => dp_g (ab_w M p && ab_in x (G.1 p F.2.1)) (match F.2.2 with
      | 0 => some [(pc + 3, A, r)]
      | 1 => dp_g (ab_bit x) (some [(pc + 3, A, r)])
      | _ => none)
    | _ => none)
  | .iaload => dp_g (Nat.beq len 1) (ab_1i st fun i r => ab_1r r fun p r => ab_ar G.2 p 0 i fun _ => some [(pc + 1, A, .inl ((G.1 p 0).1, (G.1 p 0).2, none, none) :: r)])
  | .baload => dp_g (Nat.beq len 1) (ab_1i st fun i r => ab_1r r fun p r => ab_ar G.2 p 1 i fun _ => some [(pc + 1, A, .inl ((G.1 p 0).1, (G.1 p 0).2, none, none) :: r)])
  | .laload => dp_g (Nat.beq len 1) (ab_1i st fun i r => ab_1r r fun p r => ab_ar G.2 p 2 i fun _ => some [(pc + 1, A, .inr (.inr ()) :: r)])
  | .iastore => dp_g (Nat.beq len 1) (ab_1i st fun x r => ab_1i r fun i r => ab_1r r fun p r => ab_ar G.2 p 0 i fun _ => dp_g (ab_w M p && ab_in x (G.1 p 0)) (some [(pc + 1, A, r)]))
  | .bastore => dp_g (Nat.beq len 1) (ab_1i st fun x r => ab_1i r fun i r => ab_1r r fun p r => ab_ar G.2 p 1 i fun _ => dp_g (ab_w M p && (ab_bit x && ab_in x (G.1 p 0))) (some [(pc + 1, A, r)]))
  | .lastore => dp_g (Nat.beq len 1) (ab_1l st fun r => ab_1i r fun i r => ab_1r r fun p r => ab_ar G.2 p 2 i fun _ => dp_g (ab_w M p) (some [(pc + 1, A, r)]))
  | .arraylength => dp_g (Nat.beq len 1) (ab_1r st fun p r => match G.2[p]? with
    | some (.inr (c, n)) => dp_g (Nat.ble (c + 1) 3 && Nat.ble n 1000000) (some [(pc + 1, A, .inl (ab_c (n : Int)) :: r)])
    | _ => none)
  | .invokestatic i => dp_g (Nat.beq len 3) (dp_o (K.2.2.2.1 (3 * i)) fun C => ab_ca G M CT C.1 C.2.1 C.2.2 pc A st)
  | .invokevirtual i => dp_g (Nat.beq len 3) (dp_o (K.2.2.2.1 (3 * i + 1)) fun C => ab_ca G M CT C.1 C.2.1 C.2.2 pc A st)
  | _ => none
/-- an end: the answer is in its range -/
def ab_rt (M : ab_M) (st : List ab_V) (ins : Instr) (len : Nat) : Option Bool := match ins with
  | .ireturn => some (Nat.beq len 1 && (match st, M.2.2.1, M.2.1 with
    | [.inl x], some (.inl r), some .int => ab_in x r
    | [.inl x], some (.inl r), some .boolean => ab_in x r && ab_bit x
    | _, _, _ => false))
  | .lreturn => some (Nat.beq len 1 && (match st, M.2.2.1, M.2.1 with
    | [.inr (.inr _)], some (.inr (.inr _)), some .long => true
    | _, _, _ => false))
  | .return_ => some (Nat.beq len 1 && (match st, M.2.2.1, M.2.1 with
    | [], none, none => true
    | _, _, _ => false))
  | _ => none
/-- loop heads: pc, what is known of the locals there, a measure: terms, each a number, or a number less a local -/
abbrev ab_Tm : Type := Nat ⊕ (Nat × Int)
abbrev ab_H : Type := ab_L × List ab_Tm
abbrev ab_N : Type := List (Nat × ab_H)
def ab_head (pc : Nat) : ab_N → Option ab_H
  | [] => none
  | (q, h) :: t => bif Nat.beq q pc then some h else ab_head pc t
def ab_leV (a b : Option ab_V) : Bool := match b with
  | none => true
  | some (.inl y) => (match a with
    | some (.inl x) => decide (y.1 ≤ x.1) && decide (x.2.1 ≤ y.2.1)
    | _ => false)
  | some (.inr (.inl p)) => (match a with
    | some (.inr (.inl q)) => Nat.beq q p
    | _ => false)
  | some (.inr (.inr _)) => (match a with
    | some (.inr (.inr _)) => true
    | _ => false)
def ab_leL : ab_L → ab_L → Bool
  | _, [] => true
  | [], b :: t => ab_leV none b && ab_leL [] t
  | a :: s, b :: t => ab_leV a b && ab_leL s t
/-- a segment's start: every int local is itself -/
def ab_self (k : Nat) : ab_L → ab_L
  | [] => []
  | some (.inl x) :: t => some (.inl (x.1, x.2.1, some (k, 0), none)) :: ab_self (k + 1) t
  | a :: t => a :: ab_self (k + 1) t
/-- the measure falls from a head's start (its terms) to an arrival (its terms, the locals there) -/
def ab_fall (A : ab_L) : List ab_Tm → List ab_Tm → Bool
  | .inl a :: s, .inl b :: t => bif Nat.beq a b then ab_fall A s t else Nat.ble (b + 1) a && Nat.beq s.length t.length
  | .inr (l, c) :: s, .inr (l', c') :: t => Nat.beq l l' && (decide (c = c') && (match A[l]? with
    | some (some (.inl x)) => (match x.2.2.1 with
      | some (k, d) => Nat.beq k l && (bif decide (d = 0) then ab_fall A s t else decide (1 ≤ d) && Nat.beq s.length t.length)
      | none => false)
    | _ => false))
  | _, _ => false
/-- every term is between 0 and 2 ^ 32 -/
def ab_tok (A : ab_L) (t : ab_Tm) : Bool := match t with
  | .inl a => Nat.ble a 1000000
  | .inr (l, c) => (match A[l]? with
    | some (some (.inl x)) => decide (x.2.1 ≤ c) && (decide (c ≤ 2000000000) && decide (-2000000000 ≤ x.1))
    | _ => false)
def ab_arr (n : Nat) (m0 : Option (List ab_Tm)) (h : ab_H) (a : ab_T) : Bool := a.2.2.isEmpty && (ab_leL a.2.1 h.1 && (Nat.beq h.1.length n && (match m0 with
  | none => true
  | some s => ab_fall a.2.1 s h.2)))
def ab_ex (K : dp_K) (G : ab_G) (M : ab_M) (CT : List ab_C) (tb : List (Nat × Instr × Nat)) (H : ab_N) (m0 : Option (List ab_Tm)) : Nat → ab_T → Bool
  | 0, _ => false
  | n + 1, a => match dp_find a.1 tb with
    | none => false
    | some i => (match ab_rt M a.2.2 i.1 i.2 with
      | some b => b
      | none => (match ab_st K G M CT a.1 a.2.1 a.2.2 i.1 i.2 with
        | none => false
        | some l => l.all (fun a' => match ab_head a'.1 H with
          | some h => ab_arr M.1 m0 h a'
          | none => ab_ex K G M CT tb H m0 n a')))
end
section
/-! ranges of ints -/
theorem ab_min (v : Int32) : ab_lo ≤ v.toInt := Int32.le_toInt v
theorem ab_max (v : Int32) : v.toInt ≤ ab_hi := by
  have h := Int32.toInt_lt v
  show v.toInt ≤ 2147483647
  omega
theorem ab_bm {n : Int} (h1 : ab_lo ≤ n) (h2 : n ≤ ab_hi) : n.bmod (2 ^ 32) = n := by
  have h1 : (-2147483648 : Int) ≤ n := h1
  have h2 : n ≤ (2147483647 : Int) := h2
  apply Int.bmod_eq_of_le <;> omega
theorem ab_tadd {x y : Int32} (h1 : ab_lo ≤ x.toInt + y.toInt) (h2 : x.toInt + y.toInt ≤ ab_hi) : (x + y).toInt = x.toInt + y.toInt := by
  rw [Int32.toInt_add]
  exact ab_bm h1 h2
theorem ab_tsub {x y : Int32} (h1 : ab_lo ≤ x.toInt - y.toInt) (h2 : x.toInt - y.toInt ≤ ab_hi) : (x - y).toInt = x.toInt - y.toInt := by
  rw [Int32.toInt_sub]
  exact ab_bm h1 h2
theorem ab_tmul {x y : Int32} (h1 : ab_lo ≤ x.toInt * y.toInt) (h2 : x.toInt * y.toInt ≤ ab_hi) : (x * y).toInt = x.toInt * y.toInt := by
  rw [Int32.toInt_mul]
  exact ab_bm h1 h2
theorem ab_nat {x : Int32} (h : 0 ≤ x.toInt) : ∃ n : Nat, n < 2 ^ 31 ∧ x = nI n ∧ x.toInt = (n : Int) := by
  have h0 : ¬ x < 0 := by
    rw [Int32.lt_iff_toInt_lt]
    have e0 : (0 : Int32).toInt = 0 := by decide
    rw [e0]
    omega
  obtain ⟨n, hn, e⟩ := nI_of h0
  exact ⟨n, hn, e, by rw [e, nI_toInt hn]⟩
theorem ab_tdiv {x y : Int32} (hx : 0 ≤ x.toInt) (hy : 0 < y.toInt) : (x / y).toInt = x.toInt / y.toInt := by
  rw [Int32.toInt_div]
  obtain ⟨a, ha, -, ea⟩ := ab_nat hx
  obtain ⟨b, hb, -, eb⟩ := ab_nat (Int.le_of_lt hy)
  rw [ea, eb]
  have h1 : ((a : Int).tdiv (b : Int)) = ((a / b : Nat) : Int) := rfl
  have h2 : ((a : Int) / (b : Int)) = ((a / b : Nat) : Int) := rfl
  rw [h1, h2]
  have h3 : a / b ≤ a := Nat.div_le_self a b
  clear h1 h2
  generalize a / b = q at h3 ⊢
  apply ab_bm
  · show (-2147483648 : Int) ≤ _
    omega
  · show _ ≤ (2147483647 : Int)
    omega
theorem ab_tand {x y : Int32} (hy : 0 ≤ y.toInt) : 0 ≤ (x &&& y).toInt ∧ (x &&& y).toInt ≤ y.toInt := by
  obtain ⟨b, hb, eb, eb'⟩ := ab_nat hy
  have h : x &&& y = nI (x.toBitVec.toNat &&& b) := by
    rw [eb]
    apply Int32.toBitVec_inj.mp
    apply BitVec.eq_of_toNat_eq
    have h1 : (x &&& nI b).toBitVec = x.toBitVec &&& (BitVec.ofNat 32 b) := rfl
    have h2 : (nI (x.toBitVec.toNat &&& b)).toBitVec = BitVec.ofNat 32 (x.toBitVec.toNat &&& b) := rfl
    have h3 : x.toBitVec.toNat &&& b ≤ b := Nat.and_le_right
    rw [h1, h2, BitVec.toNat_and, BitVec.toNat_ofNat, BitVec.toNat_ofNat, Nat.mod_eq_of_lt (a := x.toBitVec.toNat &&& b) (by omega), Nat.mod_eq_of_lt (a := b) (by omega)]
  have h3 : x.toBitVec.toNat &&& b ≤ b := Nat.and_le_right
  rw [h, nI_toInt (by omega), eb']
  omega
theorem ab_tand' {x y : Int32} (hx : 0 ≤ x.toInt) : 0 ≤ (x &&& y).toInt ∧ (x &&& y).toInt ≤ x.toInt := by
  rw [Int32.and_comm]
  exact ab_tand hx
theorem ab_bits {x : Int32} (h1 : 0 ≤ x.toInt) (h2 : x.toInt ≤ 1) : x = 0 ∨ x = 1 := by
  have e0 : (0 : Int32).toInt = 0 := by decide
  have e1 : (1 : Int32).toInt = 1 := by decide
  rcases (show x.toInt = 0 ∨ x.toInt = 1 by omega) with h | h
  · exact Or.inl (Int32.toInt_inj.mp (h.trans e0.symm))
  · exact Or.inr (Int32.toInt_inj.mp (h.trans e1.symm))
theorem ab_tor {x y : Int32} (h1 : 0 ≤ x.toInt) (h2 : x.toInt ≤ 1) (h3 : 0 ≤ y.toInt) (h4 : y.toInt ≤ 1) : 0 ≤ (x ||| y).toInt ∧ (x ||| y).toInt ≤ 1 := by
  rcases ab_bits h1 h2 with rfl | rfl <;> rcases ab_bits h3 h4 with rfl | rfl <;> decide
theorem ab_trem {x y : Int32} (hx : 0 ≤ x.toInt) (hy : 0 < y.toInt) : 0 ≤ (x - x / y * y).toInt ∧ (x - x / y * y).toInt ≤ y.toInt - 1 := by
  have hd := ab_tdiv hx hy
  have hx2 := ab_max x
  have hx2 : x.toInt ≤ 2147483647 := hx2
  have hq0 : 0 ≤ x.toInt / y.toInt := Int.ediv_nonneg hx (Int.le_of_lt hy)
  have hm : x.toInt / y.toInt * y.toInt + x.toInt % y.toInt = x.toInt := Int.ediv_mul_add_emod x.toInt y.toInt
  have hr0 : 0 ≤ x.toInt % y.toInt := Int.emod_nonneg _ (by omega)
  have hr1 : x.toInt % y.toInt < y.toInt := Int.emod_lt_of_pos _ hy
  have hp0 : 0 ≤ x.toInt / y.toInt * y.toInt := Int.mul_nonneg hq0 (Int.le_of_lt hy)
  have hmul : (x / y * y).toInt = x.toInt / y.toInt * y.toInt := by
    rw [ab_tmul, hd]
    · rw [hd]; show (-2147483648 : Int) ≤ _; omega
    · rw [hd]; show _ ≤ (2147483647 : Int); omega
  have hsub : (x - x / y * y).toInt = x.toInt - x.toInt / y.toInt * y.toInt := by
    rw [ab_tsub, hmul]
    · rw [hmul]; show (-2147483648 : Int) ≤ _; omega
    · rw [hmul]; show _ ≤ (2147483647 : Int); omega
  rw [hsub]
  omega
theorem ab_clamp {i : Int32} {n : Nat} (h1 : 0 ≤ i.toInt) (h2 : i.toInt < (n : Int)) : vp_in i n ∧ i.toNatClampNeg < n := by
  obtain ⟨k, hk, e, e'⟩ := ab_nat h1
  subst e
  rw [e'] at h2
  have h3 : k < n := by omega
  refine ⟨fun z => ?_, by rw [nI_clamp hk]; exact h3⟩
  rcases z with z | z
  · exact nI_pos hk z
  · rw [nI_clamp hk] at z
    omega
end
section
/-! what a range says of a value -/
def ab_i (S : Nat → Int) (Lc : List (Option Value)) (x : ab_I) (v : Int32) : Prop := x.1 ≤ v.toInt ∧ v.toInt ≤ x.2.1 ∧ (∀ k c, x.2.2.1 = some (k, c) → v.toInt = S k + c) ∧ ∀ l, x.2.2.2 = some l → Lc[l]? = some (some (.int v))
def ab_v (S : Nat → Int) (Lc : List (Option Value)) (a : ab_V) (v : Value) : Prop := match a, v with
  | .inl x, .int n => ab_i S Lc x n
  | .inr (.inl p), .ref q => q = p
  | .inr (.inr _), .long _ => True
  | _, _ => False
def ab_sv (S : Nat → Int) (Lc : List (Option Value)) : List ab_V → List Value → Prop
  | [], [] => True
  | a :: t, v :: u => ab_v S Lc a v ∧ ab_sv S Lc t u
  | _, _ => False
def ab_lv (S : Nat → Int) (n : Nat) (A : ab_L) (Lc : List (Option Value)) : Prop := Lc.length = n ∧ A.length = n ∧ (∀ (l : Nat) (a : ab_V), A[l]? = some (some a) → ∃ v, Lc[l]? = some (some v) ∧ ab_v S [] (ab_no a) v) ∧ ∀ l : Nat, A[l]? = some none → Lc[l]? = some none
def ab_mu (G : ab_G) (μ : sm_M) : Prop := ∀ p i, (G.1 p i).1 ≤ (μ.1 p i).toInt ∧ (μ.1 p i).toInt ≤ (G.1 p i).2
def ab_Gok (G : ab_G) : Prop := ∀ p c n, G.2[p]? = some (.inr (c, n)) → ∀ i, G.1 p i = G.1 p 0
def ab_fr (W : List Nat) (μ μ0 : sm_M) : Prop := ∀ q, q ∉ W → μ.1 q = μ0.1 q ∧ μ.2 q = μ0.2 q
def ab_J (cl : List vw_C) (X : sm_X) (G : ab_G) (M : ab_M) (ad : Nat → Nat) (μ0 : sm_M) (S : Nat → Int) (a : ab_T) : Prop := ∀ (Lc : List (Option Value)) (stc : List Value) (μ : sm_M), ab_lv S M.1 a.2.1 Lc → ab_sv S Lc a.2.2 stc → ab_mu G μ → ab_fr M.2.2.2.2 μ μ0 → sm_E cl X a.1 Lc stc ad G.2 μ
theorem ab_v_int {S : Nat → Int} {Lc : List (Option Value)} {x : ab_I} {v : Value} (h : ab_v S Lc (.inl x) v) : ∃ n, v = .int n ∧ ab_i S Lc x n := by
  cases v with
  | int n => exact ⟨n, rfl, h⟩
  | _ => exact absurd h (fun z => z)
theorem ab_v_ref {S : Nat → Int} {Lc : List (Option Value)} {p : Nat} {v : Value} (h : ab_v S Lc (.inr (.inl p)) v) : v = .ref p := by
  cases v with
  | ref q => exact congrArg Value.ref h
  | _ => exact absurd h (fun z => z)
theorem ab_v_long {S : Nat → Int} {Lc : List (Option Value)} {u : Unit} {v : Value} (h : ab_v S Lc (.inr (.inr u)) v) : ∃ n, v = .long n := by
  cases v with
  | long n => exact ⟨n, rfl⟩
  | _ => exact absurd h (fun z => z)
theorem ab_v_cat {S : Nat → Int} {Lc : List (Option Value)} {a : ab_V} {v : Value} (h : ab_v S Lc a v) : v.category = ab_cat a := by
  cases a with
  | inl x => obtain ⟨n, rfl, -⟩ := ab_v_int h; rfl
  | inr a =>
    cases a with
    | inl p => have e := ab_v_ref h; subst e; rfl
    | inr u => obtain ⟨n, rfl⟩ := ab_v_long h; rfl
theorem ab_sv_cons {S : Nat → Int} {Lc : List (Option Value)} {a : ab_V} {t : List ab_V} {stc : List Value} (h : ab_sv S Lc (a :: t) stc) : ∃ v u, stc = v :: u ∧ ab_v S Lc a v ∧ ab_sv S Lc t u := by
  cases stc with
  | nil => exact absurd h (fun z => z)
  | cons v u => exact ⟨v, u, rfl, h.1, h.2⟩
theorem ab_1i_ok {β : Type} {st : List ab_V} {k : ab_I → List ab_V → Option β} {y : β} (h : ab_1i st k = some y) : ∃ x r, st = .inl x :: r ∧ k x r = some y := by
  unfold ab_1i at h
  split at h
  · exact ⟨_, _, rfl, h⟩
  · cases h
theorem ab_1l_ok {β : Type} {st : List ab_V} {k : List ab_V → Option β} {y : β} (h : ab_1l st k = some y) : ∃ u r, st = .inr (.inr u) :: r ∧ k r = some y := by
  unfold ab_1l at h
  split at h
  · exact ⟨_, _, rfl, h⟩
  · cases h
theorem ab_1r_ok {β : Type} {st : List ab_V} {k : Nat → List ab_V → Option β} {y : β} (h : ab_1r st k = some y) : ∃ x r, st = .inr (.inl x) :: r ∧ k x r = some y := by
  unfold ab_1r at h
  split at h
  · exact ⟨_, _, rfl, h⟩
  · cases h
theorem ab_1v_ok {β : Type} {st : List ab_V} {k : ab_V → List ab_V → Option β} {y : β} (h : ab_1v st k = some y) : ∃ x r, st = x :: r ∧ k x r = some y := by
  unfold ab_1v at h
  split at h
  · exact ⟨_, _, rfl, h⟩
  · cases h
theorem ab_i_top {S : Nat → Int} {Lc : List (Option Value)} (v : Int32) : ab_i S Lc ab_top v := ⟨ab_min v, ab_max v, fun _ _ h => (by cases h), fun _ h => (by cases h)⟩
theorem ab_i_mk {S : Nat → Int} {Lc : List (Option Value)} {lo hi : Int} {v : Int32} (h1 : lo ≤ v.toInt) (h2 : v.toInt ≤ hi) : ab_i S Lc (lo, hi, none, none) v := ⟨h1, h2, fun _ _ h => (by cases h), fun _ h => (by cases h)⟩
theorem ab_i_c {S : Nat → Int} {Lc : List (Option Value)} (v : Int32) : ab_i S Lc (ab_c v.toInt) v := ab_i_mk (Int.le_refl _) (Int.le_refl _)
theorem ab_one_eq {S : Nat → Int} {Lc : List (Option Value)} {x : ab_I} {v : Int32} (h : ab_i S Lc x v) (h1 : ab_one x = true) : v.toInt = x.1 := by
  have h2 := of_decide_eq_true h1
  have h3 := h.1
  have h4 := h.2.1
  omega
theorem ab_sh_ok {S : Nat → Int} {r : Option (Nat × Int)} {n v w : Int} (h : ∀ k c, r = some (k, c) → v = S k + c) (hw : w = v + n) : ∀ k c, ab_sh r n = some (k, c) → w = S k + c := by
  intro k c e
  cases r with
  | none => cases e
  | some q =>
    obtain ⟨k', c'⟩ := q
    have e : some (k', c' + n) = some (k, c) := e
    cases e
    rw [hw, h _ _ rfl]
    omega
theorem ab_rg_ok {S : Nat → Int} {Lc : List (Option Value)} {lo hi : Int} {rel : Option (Nat × Int)} {v : Int32} (h : ab_fit lo hi = true → lo ≤ v.toInt ∧ v.toInt ≤ hi ∧ ∀ k c, rel = some (k, c) → v.toInt = S k + c) : ab_i S Lc (ab_rg lo hi rel) v := by
  unfold ab_rg
  cases hb : ab_fit lo hi with
  | false => exact ab_i_top v
  | true =>
    obtain ⟨h1, h2, h3⟩ := h hb
    exact ⟨h1, h2, h3, fun _ h => (by cases h)⟩
theorem ab_fit_ok {lo hi : Int} (h : ab_fit lo hi = true) : ab_lo ≤ lo ∧ hi ≤ ab_hi := by
  unfold ab_fit at h
  rw [Bool.and_eq_true] at h
  exact ⟨of_decide_eq_true h.1, of_decide_eq_true h.2⟩
theorem ab_add_ok {S : Nat → Int} {Lc : List (Option Value)} {x y : ab_I} {u v : Int32} (hx : ab_i S Lc x u) (hy : ab_i S Lc y v) : ab_i S Lc (ab_add x y) (u + v) := by
  apply ab_rg_ok
  intro hf
  obtain ⟨f1, f2⟩ := ab_fit_ok hf
  have a1 := hx.1
  have a2 := hx.2.1
  have b1 := hy.1
  have b2 := hy.2.1
  have e := ab_tadd (x := u) (y := v) (by omega) (by omega)
  refine ⟨by omega, by omega, ?_⟩
  cases ho : ab_one y with
  | true => exact ab_sh_ok hx.2.2.1 (by rw [e, ab_one_eq hy ho])
  | false =>
    cases ho2 : ab_one x with
    | true => exact ab_sh_ok hy.2.2.1 (by rw [e, ab_one_eq hx ho2]; omega)
    | false => exact fun _ _ h => (by cases h)
theorem ab_sub_ok {S : Nat → Int} {Lc : List (Option Value)} {x y : ab_I} {u v : Int32} (hx : ab_i S Lc x u) (hy : ab_i S Lc y v) : ab_i S Lc (ab_sub x y) (u - v) := by
  apply ab_rg_ok
  intro hf
  obtain ⟨f1, f2⟩ := ab_fit_ok hf
  have a1 := hx.1
  have a2 := hx.2.1
  have b1 := hy.1
  have b2 := hy.2.1
  have e := ab_tsub (x := u) (y := v) (by omega) (by omega)
  refine ⟨by omega, by omega, ?_⟩
  cases ho : ab_one y with
  | true => exact ab_sh_ok hx.2.2.1 (by rw [e, ab_one_eq hy ho]; omega)
  | false => exact fun _ _ h => (by cases h)
theorem ab_mul_ok {S : Nat → Int} {Lc : List (Option Value)} {x y : ab_I} {u v : Int32} (hx : ab_i S Lc x u) (hy : ab_i S Lc y v) : ab_i S Lc (ab_mul x y) (u * v) := by
  unfold ab_mul
  cases hb : (decide (0 ≤ x.1) && decide (0 ≤ y.1)) with
  | false => exact ab_i_top _
  | true =>
    rw [Bool.and_eq_true] at hb
    have z1 := of_decide_eq_true hb.1
    have z2 := of_decide_eq_true hb.2
    apply ab_rg_ok
    intro hf
    obtain ⟨f1, f2⟩ := ab_fit_ok hf
    have a1 := hx.1
    have a2 := hx.2.1
    have b1 := hy.1
    have b2 := hy.2.1
    have m1 : x.1 * y.1 ≤ u.toInt * v.toInt := Int.mul_le_mul a1 b1 z2 (by omega)
    have m2 : u.toInt * v.toInt ≤ x.2.1 * y.2.1 := Int.mul_le_mul a2 b2 (by omega) (by omega)
    have e := ab_tmul (x := u) (y := v) (Int.le_trans f1 m1) (Int.le_trans m2 f2)
    rw [e]
    exact ⟨m1, m2, fun _ _ h => (by cases h)⟩
theorem ab_and_ok {S : Nat → Int} {Lc : List (Option Value)} {x y : ab_I} {u v : Int32} (hx : ab_i S Lc x u) (hy : ab_i S Lc y v) : ab_i S Lc (ab_and x y) (u &&& v) := by
  unfold ab_and
  cases hb : decide (0 ≤ y.1) with
  | true =>
    have z := of_decide_eq_true hb
    have h := ab_tand (x := u) (y := v) (Int.le_trans z hy.1)
    exact ab_i_mk h.1 (Int.le_trans h.2 hy.2.1)
  | false =>
    cases hc : decide (0 ≤ x.1) with
    | true =>
      have z := of_decide_eq_true hc
      have h := ab_tand' (x := u) (y := v) (Int.le_trans z hx.1)
      exact ab_i_mk h.1 (Int.le_trans h.2 hx.2.1)
    | false => exact ab_i_top _
theorem ab_bit_ok {S : Nat → Int} {Lc : List (Option Value)} {x : ab_I} {u : Int32} (hx : ab_i S Lc x u) (h : ab_bit x = true) : 0 ≤ u.toInt ∧ u.toInt ≤ 1 := by
  unfold ab_bit at h
  rw [Bool.and_eq_true] at h
  have z1 := of_decide_eq_true h.1
  have z2 := of_decide_eq_true h.2
  exact ⟨Int.le_trans z1 hx.1, Int.le_trans hx.2.1 z2⟩
theorem ab_or_ok {S : Nat → Int} {Lc : List (Option Value)} {x y : ab_I} {u v : Int32} (hx : ab_i S Lc x u) (hy : ab_i S Lc y v) : ab_i S Lc (ab_or x y) (u ||| v) := by
  unfold ab_or
  cases hb : (ab_bit x && ab_bit y) with
  | false => exact ab_i_top _
  | true =>
    rw [Bool.and_eq_true] at hb
    have z1 := ab_bit_ok hx hb.1
    have z2 := ab_bit_ok hy hb.2
    have h := ab_tor z1.1 z1.2 z2.1 z2.2
    exact ab_i_mk h.1 h.2
theorem ab_div_ok {S : Nat → Int} {Lc : List (Option Value)} {x y z : ab_I} {u v : Int32} (h : ab_div x y = some z) (hx : ab_i S Lc x u) (hy : ab_i S Lc y v) : ¬ v = 0 ∧ ab_i S Lc z (u / v) := by
  unfold ab_div at h
  cases hb : (ab_one y && (decide (0 < y.1) && decide (0 ≤ x.1))) with
  | false => rw [hb] at h; cases h
  | true =>
    rw [hb] at h
    cases h
    rw [Bool.and_eq_true, Bool.and_eq_true] at hb
    have o := ab_one_eq hy hb.1
    have z1 := of_decide_eq_true hb.2.1
    have z2 := of_decide_eq_true hb.2.2
    have hu := hx.1
    have hu2 := hx.2.1
    have e := ab_tdiv (x := u) (y := v) (by omega) (by omega)
    refine ⟨fun e0 => ?_, ab_i_mk ?_ ?_⟩
    · rw [e0] at o
      have e1 : (0 : Int32).toInt = 0 := by decide
      rw [e1] at o
      omega
    · rw [e, o]; exact Int.ediv_le_ediv z1 hu
    · rw [e, o]; exact Int.ediv_le_ediv z1 hu2
theorem ab_rem_ok {S : Nat → Int} {Lc : List (Option Value)} {x y z : ab_I} {u v : Int32} (h : ab_rem x y = some z) (hx : ab_i S Lc x u) (hy : ab_i S Lc y v) : ¬ v = 0 ∧ ab_i S Lc z (u - u / v * v) := by
  unfold ab_rem at h
  cases hb : (ab_one y && (decide (0 < y.1) && decide (0 ≤ x.1))) with
  | false => rw [hb] at h; cases h
  | true =>
    rw [hb] at h
    cases h
    rw [Bool.and_eq_true, Bool.and_eq_true] at hb
    have o := ab_one_eq hy hb.1
    have z1 := of_decide_eq_true hb.2.1
    have z2 := of_decide_eq_true hb.2.2
    have hu := hx.1
    have e := ab_trem (x := u) (y := v) (by omega) (by omega)
    refine ⟨fun e0 => ?_, ab_i_mk e.1 (by rw [← o]; exact e.2)⟩
    rw [e0] at o
    have e1 : (0 : Int32).toInt = 0 := by decide
    rw [e1] at o
    omega
end
section
/-! locals: loads, stores, what a branch tells -/
theorem ab_v_mono {S : Nat → Int} {Lc Lc' : List (Option Value)} {a : ab_V} {v : Value} (h : ab_v S Lc a v) (hl : ∀ x, a = .inl x → ∀ l, x.2.2.2 = some l → ∀ n, Lc[l]? = some (some (.int n)) → Lc'[l]? = some (some (.int n))) : ab_v S Lc' a v := by
  cases a with
  | inl x =>
    obtain ⟨n, rfl, h1, h2, h3, h4⟩ := ab_v_int h
    exact ⟨h1, h2, h3, fun l e => hl x rfl l e n (h4 l e)⟩
  | inr a =>
    cases a with
    | inl p => have e := ab_v_ref h; subst e; exact rfl
    | inr u => obtain ⟨n, rfl⟩ := ab_v_long h; exact trivial
theorem ab_no_any {S : Nat → Int} {Lc Lc' : List (Option Value)} {a : ab_V} {v : Value} (h : ab_v S Lc a v) : ab_v S Lc' (ab_no a) v := by
  cases a with
  | inl x =>
    obtain ⟨n, rfl, h1, h2, h3, h4⟩ := ab_v_int h
    exact ⟨h1, h2, h3, fun l e => by cases e⟩
  | inr a =>
    cases a with
    | inl p => have e := ab_v_ref h; subst e; exact rfl
    | inr u => obtain ⟨n, rfl⟩ := ab_v_long h; exact trivial
/-- a stored local: the stack's values that were that local are so no longer -/
theorem ab_cl_ok {S : Nat → Int} {Lc Lc' : List (Option Value)} {l : Nat} (hl : ∀ k, k ≠ l → ∀ n, Lc[k]? = some (some (.int n)) → Lc'[k]? = some (some (.int n))) : ∀ {st : List ab_V} {stc : List Value}, ab_sv S Lc st stc → ab_sv S Lc' (st.map (ab_cl l)) stc
  | [], [], _ => trivial
  | [], _ :: _, h => absurd h (fun z => z)
  | _ :: _, [], h => absurd h (fun z => z)
  | a :: t, v :: u, h => by
    refine ⟨?_, ab_cl_ok hl h.2⟩
    have h1 := h.1
    cases a with
    | inl x =>
      obtain ⟨lo, hi, r, o⟩ := x
      obtain ⟨n, rfl, h1, h2, h3, h4⟩ := ab_v_int h1
      cases o with
      | none => exact ⟨h1, h2, h3, fun l e => by cases e⟩
      | some k =>
        show ab_v S Lc' (bif Nat.beq k l then .inl (lo, hi, r, none) else .inl (lo, hi, r, some k)) (.int n)
        cases hb : Nat.beq k l with
        | true => exact ⟨h1, h2, h3, fun l e => by cases e⟩
        | false => exact ⟨h1, h2, h3, fun l' e => by cases e; exact hl k (dp_bne hb) n (h4 k rfl)⟩
    | inr a =>
      cases a with
      | inl p => have e := ab_v_ref h1; subst e; exact rfl
      | inr q => obtain ⟨n, rfl⟩ := ab_v_long h1; exact trivial
theorem ab_lv_set {S : Nat → Int} {n i : Nat} {A : ab_L} {Lc : List (Option Value)} {a : ab_V} {v : Value} (h : ab_lv S n A Lc) (hi : i < n) (hv : ab_v S [] (ab_no a) v) : ab_lv S n (A.set i (some a)) (Lc.set i (some v)) := by
  obtain ⟨h1, h2, h3, h4⟩ := h
  refine ⟨by rw [List.length_set]; exact h1, by rw [List.length_set]; exact h2, fun l b hb => ?_, fun l hb => ?_⟩
  · by_cases hl : l = i
    · subst hl
      rw [List.getElem?_set_self (by omega)] at hb
      cases hb
      exact ⟨v, List.getElem?_set_self (by omega), hv⟩
    · rw [List.getElem?_set_ne (Ne.symm hl)] at hb ⊢
      exact h3 l b hb
  · by_cases hl : l = i
    · subst hl
      rw [List.getElem?_set_self (by omega)] at hb
      cases hb
    · rw [List.getElem?_set_ne (Ne.symm hl)] at hb ⊢
      exact h4 l hb
theorem ab_lv_none {S : Nat → Int} {n i : Nat} {A : ab_L} {Lc : List (Option Value)} (h : ab_lv S n A Lc) : ab_lv S n (A.set i none) (Lc.set i none) := by
  obtain ⟨h1, h2, h3, h4⟩ := h
  refine ⟨by rw [List.length_set]; exact h1, by rw [List.length_set]; exact h2, fun l b hb => ?_, fun l hb => ?_⟩
  · by_cases hl : l = i
    · subst hl
      by_cases hlt : l < A.length
      · rw [List.getElem?_set_self hlt] at hb
        cases hb
      · rw [List.getElem?_eq_none (by rw [List.length_set]; omega)] at hb
        cases hb
    · rw [List.getElem?_set_ne (Ne.symm hl)] at hb ⊢
      exact h3 l b hb
  · by_cases hl : l = i
    · subst hl
      have hlt : l < A.length := by
        have := (List.getElem?_eq_some_iff.mp hb).1
        rw [List.length_set] at this
        exact this
      exact List.getElem?_set_self (by omega)
    · rw [List.getElem?_set_ne (Ne.symm hl)] at hb ⊢
      exact h4 l hb
theorem ab_ah_ok {S : Nat → Int} {n i : Nat} {A : ab_L} {Lc : List (Option Value)} (h : ab_lv S n A Lc) (ha : ab_ah A i = true) : sm_ah Lc i = true := by
  cases i with
  | zero => rfl
  | succ k =>
    obtain ⟨h1, h2, h3, h4⟩ := h
    show sm_c1 (Lc.getD k none) = true
    have ha : (match A.getD k none with
      | some (.inr (.inr _)) => false
      | _ => true) = true := ha
    rw [List.getD_eq_getElem?_getD] at ha ⊢
    cases hA : A[k]? with
    | none =>
      have hk : n ≤ k := by
        have := List.getElem?_eq_none_iff.mp hA
        omega
      rw [List.getElem?_eq_none (by omega)]
      rfl
    | some o =>
      cases o with
      | none => rw [h4 k hA]; rfl
      | some a =>
        obtain ⟨v, hv, hav⟩ := h3 k a hA
        rw [hv]
        rw [hA] at ha
        cases a with
        | inl x =>
          obtain ⟨lo, hi, r, o⟩ := x
          obtain ⟨m, rfl, -⟩ := ab_v_int hav
          rfl
        | inr a =>
          cases a with
          | inl p => have e := ab_v_ref hav; subst e; rfl
          | inr u => cases ha
/-- what a comparison tells of both sides -/
theorem ab_cut_ok {S : Nat → Int} {Lc : List (Option Value)} {x : ab_I} {v : Int32} {lo hi : Int} (h : ab_i S Lc x v) (h1 : lo ≤ v.toInt) (h2 : v.toInt ≤ hi) : ∃ z, ab_cut x lo hi = some z ∧ ab_i S Lc z v ∧ z.2.2 = x.2.2 := by
  unfold ab_cut
  have a1 := h.1
  have a2 := h.2.1
  have hb : max x.1 lo ≤ min x.2.1 hi := by omega
  rw [decide_eq_true hb]
  exact ⟨_, rfl, ⟨by show max x.1 lo ≤ v.toInt; omega, by show v.toInt ≤ min x.2.1 hi; omega, h.2.2.1, h.2.2.2⟩, rfl⟩
theorem ab_ne1_ok {S : Nat → Int} {Lc : List (Option Value)} {x : ab_I} {v : Int32} {c : Int} (h : ab_i S Lc x v) (hc : v.toInt ≠ c) : ∃ z, ab_ne1 x c = some z ∧ ab_i S Lc z v ∧ z.2.2 = x.2.2 := by
  unfold ab_ne1
  have a1 := h.1
  have a2 := h.2.1
  have m1 := ab_min v
  have m2 := ab_max v
  cases hb : decide (x.1 = c) with
  | true =>
    have e := of_decide_eq_true hb
    exact ab_cut_ok h (by omega) m2
  | false =>
    cases hd : decide (x.2.1 = c) with
    | true =>
      have e := of_decide_eq_true hd
      exact ab_cut_ok h m1 (by omega)
    | false => exact ⟨x, rfl, h, rfl⟩
theorem ab_two_ok {S : Nat → Int} {Lc : List (Option Value)} {x y : ab_I} {u v : Int32} {a b : Option ab_I} (ha : ∃ z, a = some z ∧ ab_i S Lc z u ∧ z.2.2 = x.2.2) (hb : ∃ z, b = some z ∧ ab_i S Lc z v ∧ z.2.2 = y.2.2) : ∃ z, ab_two a b = some z ∧ ab_i S Lc z.1 u ∧ ab_i S Lc z.2 v ∧ z.1.2.2 = x.2.2 ∧ z.2.2.2 = y.2.2 := by
  obtain ⟨z1, rfl, p1, q1⟩ := ha
  obtain ⟨z2, rfl, p2, q2⟩ := hb
  exact ⟨(z1, z2), rfl, p1, p2, q1, q2⟩
theorem ab_cmp_ok {S : Nat → Int} {Lc : List (Option Value)} {x y : ab_I} {u v : Int32} (cn : Jvm.ClassFile.Cond) (hx : ab_i S Lc x u) (hy : ab_i S Lc y v) (hc : dp_c2 cn u v = true) : ∃ z, ab_cmp cn x y = some z ∧ ab_i S Lc z.1 u ∧ ab_i S Lc z.2 v ∧ z.1.2.2 = x.2.2 ∧ z.2.2.2 = y.2.2 := by
  have a1 := hx.1
  have a2 := hx.2.1
  have b1 := hy.1
  have b2 := hy.2.1
  have m1 := ab_min u
  have m2 := ab_max u
  have n1 := ab_min v
  have n2 := ab_max v
  cases cn with
  | eq =>
    have e : u = v := of_decide_eq_true hc
    subst e
    exact ab_two_ok (ab_cut_ok hx b1 b2) (ab_cut_ok hy a1 a2)
  | ne =>
    have e : ¬ u = v := of_decide_eq_false ((Bool.not_eq_true' _).mp hc)
    have e' : u.toInt ≠ v.toInt := fun z => e (Int32.toInt_inj.mp z)
    refine ab_two_ok ?_ ?_
    · cases ho : ab_one y with
      | true => exact ab_ne1_ok hx (by rw [← ab_one_eq hy ho]; exact e')
      | false => exact ⟨x, rfl, hx, rfl⟩
    · cases ho : ab_one x with
      | true => exact ab_ne1_ok hy (by rw [← ab_one_eq hx ho]; exact e'.symm)
      | false => exact ⟨y, rfl, hy, rfl⟩
  | lt =>
    have e : u < v := of_decide_eq_true hc
    rw [Int32.lt_iff_toInt_lt] at e
    exact ab_two_ok (ab_cut_ok hx m1 (by omega)) (ab_cut_ok hy (by omega) n2)
  | ge =>
    have e : v ≤ u := of_decide_eq_true hc
    rw [Int32.le_iff_toInt_le] at e
    exact ab_two_ok (ab_cut_ok hx (by omega) m2) (ab_cut_ok hy n1 (by omega))
  | gt =>
    have e : v < u := of_decide_eq_true hc
    rw [Int32.lt_iff_toInt_lt] at e
    exact ab_two_ok (ab_cut_ok hx (by omega) m2) (ab_cut_ok hy n1 (by omega))
  | le =>
    have e : u ≤ v := of_decide_eq_true hc
    rw [Int32.le_iff_toInt_le] at e
    exact ab_two_ok (ab_cut_ok hx m1 (by omega)) (ab_cut_ok hy (by omega) n2)
theorem ab_neg_ok {cn : Jvm.ClassFile.Cond} {u v : Int32} (h : dp_c2 cn u v = false) : dp_c2 (ab_neg cn) u v = true := by
  cases cn with
  | eq => have e := of_decide_eq_false h; show (!decide (u = v)) = true; rw [decide_eq_false e]; rfl
  | ne => have e := of_decide_eq_true ((Bool.not_eq_false' _).mp h); exact decide_eq_true e
  | lt => exact decide_eq_true (Int32.not_lt.mp (of_decide_eq_false h))
  | ge => exact decide_eq_true (Int32.not_le.mp (of_decide_eq_false h))
  | gt => exact decide_eq_true (Int32.not_lt.mp (of_decide_eq_false h))
  | le => exact decide_eq_true (Int32.not_le.mp (of_decide_eq_false h))
/-- the local that the int is gets to know it -/
theorem ab_up_ok {S : Nat → Int} {n : Nat} {A : ab_L} {Lc : List (Option Value)} {x : ab_I} {v : Int32} (h : ab_lv S n A Lc) (hx : ab_i S Lc x v) : ab_lv S n (ab_up A x) Lc := by
  unfold ab_up
  split
  · exact h
  · rename_i l hl
    split
    · rename_i y hy
      obtain ⟨h1, h2, h3, h4⟩ := h
      refine ⟨h1, by rw [List.length_set]; exact h2, fun k b hb => ?_, fun k hb => ?_⟩
      · by_cases hk : k = l
        · subst hk
          rw [List.getElem?_set_self (List.getElem?_eq_some_iff.mp hy).1] at hb
          cases hb
          exact ⟨.int v, hx.2.2.2 _ hl, ⟨hx.1, hx.2.1, hx.2.2.1, fun _ e => (by cases e)⟩⟩
        · rw [List.getElem?_set_ne (Ne.symm hk)] at hb
          exact h3 k b hb
      · by_cases hk : k = l
        · subst hk
          rw [List.getElem?_set_self (List.getElem?_eq_some_iff.mp hy).1] at hb
          cases hb
        · rw [List.getElem?_set_ne (Ne.symm hk)] at hb
          exact h4 k hb
    · exact h
end
section
/-! contracts over ranges -/
def ab_av (a : ab_A) (v : Value) : Prop := match a, v with
  | .inl r, .int n => r.1 ≤ n.toInt ∧ n.toInt ≤ r.2
  | .inr (.inl p), .ref q => q = p
  | .inr (.inr _), .long _ => True
  | _, _ => False
def ab_avl : List ab_A → List Value → Prop
  | [], [] => True
  | a :: t, v :: u => ab_av a v ∧ ab_avl t u
  | _, _ => False
def ab_rv (o : Option ab_A) (r : Option Value) : Prop := match o, r with
  | none, none => True
  | some a, some v => ab_av a v
  | _, _ => False
def ab_ok (cl : List vw_C) (Z : sm_Z) (ys : Nat → MethodName) (wss : Nat → List Cond) (G : ab_G) (e : ab_C) : Prop := ∀ (As : List Value) (ad : Nat → Nat) (μ : sm_M), ab_avl e.2.2.1 As → ab_mu G μ → sm_C cl Z (ys e.1) (wss e.1) (dp_rm e.2.1 (32 * e.2.1) G.2 G.2) As ad G.2 μ (fun r sh' μ' => ab_rv e.2.2.2.1 r ∧ sh' = G.2 ∧ ab_mu G μ' ∧ ab_fr e.2.2.2.2 μ' μ)
theorem ab_sv_td {S : Nat → Int} {Lc : List (Option Value)} : ∀ (n : Nat) {st : List ab_V} {stc : List Value}, ab_sv S Lc st stc → ab_sv S Lc (st.take n) (stc.take n) ∧ ab_sv S Lc (st.drop n) (stc.drop n)
  | 0, st, stc, h => ⟨by simp [ab_sv], by simpa using h⟩
  | n + 1, [], [], _ => ⟨trivial, trivial⟩
  | n + 1, [], _ :: _, h => absurd h (fun z => z)
  | n + 1, _ :: _, [], h => absurd h (fun z => z)
  | n + 1, a :: t, v :: u, h => by
    obtain ⟨h1, h2⟩ := ab_sv_td n h.2
    exact ⟨⟨h.1, h1⟩, h2⟩
theorem ab_sv_snoc {S : Nat → Int} {Lc : List (Option Value)} {a : ab_V} {v : Value} (hv : ab_v S Lc a v) : ∀ {st : List ab_V} {stc : List Value}, ab_sv S Lc st stc → ab_sv S Lc (st ++ [a]) (stc ++ [v])
  | [], [], _ => ⟨hv, trivial⟩
  | [], _ :: _, h => absurd h (fun z => z)
  | _ :: _, [], h => absurd h (fun z => z)
  | _ :: _, _ :: _, h => ⟨h.1, ab_sv_snoc hv h.2⟩
theorem ab_sv_rev {S : Nat → Int} {Lc : List (Option Value)} : ∀ {st : List ab_V} {stc : List Value}, ab_sv S Lc st stc → ab_sv S Lc st.reverse stc.reverse
  | [], [], _ => trivial
  | [], _ :: _, h => absurd h (fun z => z)
  | _ :: _, [], h => absurd h (fun z => z)
  | a :: t, v :: u, h => by
    rw [List.reverse_cons, List.reverse_cons]
    exact ab_sv_snoc h.1 (ab_sv_rev h.2)
theorem ab_sv_len {S : Nat → Int} {Lc : List (Option Value)} : ∀ {st : List ab_V} {stc : List Value}, ab_sv S Lc st stc → stc.length = st.length
  | [], [], _ => rfl
  | [], _ :: _, h => absurd h (fun z => z)
  | _ :: _, [], h => absurd h (fun z => z)
  | a :: t, v :: u, h => by rw [List.length_cons, List.length_cons, ab_sv_len h.2]
theorem ab_sv_sum {S : Nat → Int} {Lc : List (Option Value)} : ∀ {st : List ab_V} {stc : List Value}, ab_sv S Lc st stc → (stc.map fun v => v.category).sum = (st.map ab_cat).sum
  | [], [], _ => rfl
  | [], _ :: _, h => absurd h (fun z => z)
  | _ :: _, [], h => absurd h (fun z => z)
  | a :: t, v :: u, h => by
    rw [List.map_cons, List.map_cons, List.sum_cons, List.sum_cons, ab_sv_sum h.2, ab_v_cat h.1]
theorem ab_fitl_ok {S : Nat → Int} {Lc : List (Option Value)} : ∀ {As : List ab_V} {T : List ab_A} {vs : List Value}, ab_fitl As T = true → ab_sv S Lc As vs → ab_avl T vs
  | [], [], [], _, _ => trivial
  | [], [], _ :: _, _, h => absurd h (fun z => z)
  | [], _ :: _, _, h, _ => by cases h
  | _ :: _, [], _, h, _ => by cases h
  | _ :: _, _ :: _, [], _, h => absurd h (fun z => z)
  | a :: t, b :: u, v :: vs, h, hs => by
    have h : (ab_fits a b && ab_fitl t u) = true := h
    rw [Bool.and_eq_true] at h
    refine ⟨?_, ab_fitl_ok h.2 hs.2⟩
    have h1 := h.1
    have h2 := hs.1
    cases a with
    | inl x =>
      obtain ⟨n, rfl, hn⟩ := ab_v_int h2
      cases b with
      | inl r =>
        have h1 : (decide (r.1 ≤ x.1) && decide (x.2.1 ≤ r.2)) = true := h1
        rw [Bool.and_eq_true] at h1
        exact ⟨Int.le_trans (of_decide_eq_true h1.1) hn.1, Int.le_trans hn.2.1 (of_decide_eq_true h1.2)⟩
      | inr r => cases h1
    | inr a =>
      cases a with
      | inl p =>
        have e := ab_v_ref h2
        subst e
        cases b with
        | inl r => cases h1
        | inr b =>
          cases b with
          | inl q => exact dp_beq h1
          | inr q => cases h1
      | inr p =>
        obtain ⟨n, rfl⟩ := ab_v_long h2
        cases b with
        | inl r => cases h1
        | inr b =>
          cases b with
          | inl q => cases h1
          | inr q => exact trivial
theorem ab_find_ok {j lvl : Nat} {As : List ab_V} : ∀ {CT : List ab_C} {e : ab_C}, ab_find j lvl As CT = some e → e ∈ CT ∧ e.1 = j ∧ e.2.1 + 1 ≤ lvl ∧ ab_fitl As e.2.2.1 = true
  | [], _, h => by cases h
  | c :: t, e, h => by
    unfold ab_find at h
    cases hb : (Nat.beq c.1 j && (Nat.ble (c.2.1 + 1) lvl && ab_fitl As c.2.2.1)) with
    | true =>
      rw [hb] at h
      cases h
      rw [Bool.and_eq_true, Bool.and_eq_true] at hb
      exact ⟨List.mem_cons_self, dp_beq hb.1, Nat.le_of_ble_eq_true hb.2.1, hb.2.2⟩
    | false =>
      rw [hb] at h
      obtain ⟨h1, h2⟩ := ab_find_ok h
      exact ⟨List.mem_cons_of_mem _ h1, h2⟩
theorem ab_of_ok {S : Nat → Int} {Lc : List (Option Value)} {a : ab_A} {v : Value} (h : ab_av a v) : ab_v S Lc (ab_of a) v := by
  cases a with
  | inl r =>
    cases v with
    | int n => exact ⟨h.1, h.2, fun _ _ e => (by cases e), fun _ e => (by cases e)⟩
    | _ => exact absurd h (fun z => z)
  | inr a =>
    cases a with
    | inl p =>
      cases v with
      | ref q => exact h
      | _ => exact absurd h (fun z => z)
    | inr p =>
      cases v with
      | long n => exact trivial
      | _ => exact absurd h (fun z => z)
theorem ab_sub_mem {w w' : List Nat} (h : ab_sub' w w' = true) {p : Nat} (hp : p ∈ w) : p ∈ w' := by
  have h1 := List.all_eq_true.mp h p hp
  obtain ⟨q, hq, e⟩ := List.any_eq_true.mp h1
  rw [dp_beq e]
  exact hq
theorem ab_w_mem {M : ab_M} {p : Nat} (h : ab_w M p = true) : p ∈ M.2.2.2.2 := by
  obtain ⟨q, hq, e⟩ := List.any_eq_true.mp h
  rw [dp_beq e]
  exact hq
theorem ab_mu_ui {G : ab_G} {μ : sm_M} (h : ab_mu G μ) {p i : Nat} {v : Int32} (h1 : (G.1 p i).1 ≤ v.toInt) (h2 : v.toInt ≤ (G.1 p i).2) : ab_mu G (sm_ui μ p i v) := by
  intro q j
  by_cases hq : q = p
  · subst hq
    by_cases hj : j = i
    · subst hj; simpa [sm_ui, upd] using ⟨h1, h2⟩
    · simpa [sm_ui, upd, hj] using h q j
  · simpa [sm_ui, hq] using h q j
theorem ab_fr_ui {W : List Nat} {μ μ0 : sm_M} (h : ab_fr W μ μ0) {p i : Nat} {v : Int32} (hp : p ∈ W) : ab_fr W (sm_ui μ p i v) μ0 := by
  intro q hq
  have hne : q ≠ p := fun e => hq (e ▸ hp)
  simpa [sm_ui, hne] using h q hq
theorem ab_fr_ul {W : List Nat} {μ μ0 : sm_M} (h : ab_fr W μ μ0) {p i : Nat} {v : Int64} (hp : p ∈ W) : ab_fr W (sm_ul μ p i v) μ0 := by
  intro q hq
  have hne : q ≠ p := fun e => hq (e ▸ hp)
  simpa [sm_ul, hne] using h q hq
theorem ab_ar_ok {β : Type} {sh : sm_S} {p kd : Nat} {i : ab_I} {k : Unit → Option β} {y : β} (h : ab_ar sh p kd i k = some y) : ∃ n, sh[p]? = some (.inr (kd, n)) ∧ 0 ≤ i.1 ∧ i.2.1 < (n : Int) ∧ k () = some y := by
  unfold ab_ar at h
  split at h
  · rename_i c n heq
    cases hb : (Nat.beq c kd && (decide (0 ≤ i.1) && decide (i.2.1 < (n : Int)))) with
    | false => rw [hb] at h; cases h
    | true =>
      rw [hb] at h
      rw [Bool.and_eq_true, Bool.and_eq_true] at hb
      have e := dp_beq hb.1
      subst e
      exact ⟨n, heq, of_decide_eq_true hb.2.1, of_decide_eq_true hb.2.2, h⟩
  · cases h
theorem ab_in_ok {S : Nat → Int} {Lc : List (Option Value)} {x : ab_I} {r : Int × Int} {v : Int32} (h : ab_in x r = true) (hx : ab_i S Lc x v) : r.1 ≤ v.toInt ∧ v.toInt ≤ r.2 := by
  unfold ab_in at h
  rw [Bool.and_eq_true] at h
  exact ⟨Int.le_trans (of_decide_eq_true h.1) hx.1, Int.le_trans hx.2.1 (of_decide_eq_true h.2)⟩
end
section
theorem ab_shr_t : (List.range 1024).all (fun n => decide (nI n >>> ((6 : Int32) &&& 31) = nI (n / 64))) = true := by decide +kernel
theorem ab_shr_ok {S : Nat → Int} {Lc : List (Option Value)} {x y : ab_I} {u v : Int32} (hx : ab_i S Lc x u) (hy : ab_i S Lc y v) : ab_i S Lc (ab_shr x y) (u >>> (v &&& 31)) := by
  unfold ab_shr
  cases hb : (ab_one y && (decide (y.1 = 6) && (decide (0 ≤ x.1) && decide (x.2.1 ≤ 1023)))) with
  | false => exact ab_i_top _
  | true =>
    rw [Bool.and_eq_true, Bool.and_eq_true, Bool.and_eq_true] at hb
    have o := ab_one_eq hy hb.1
    have z1 := of_decide_eq_true hb.2.1
    have z2 := of_decide_eq_true hb.2.2.1
    have z3 := of_decide_eq_true hb.2.2.2
    have e6 : (6 : Int32).toInt = 6 := by decide
    have ev : v = 6 := Int32.toInt_inj.mp (by rw [o, z1, e6])
    subst ev
    have a1 := hx.1
    have a2 := hx.2.1
    obtain ⟨n, hn, rfl, en⟩ := ab_nat (x := u) (by omega)
    rw [en] at a1 a2
    have hn2 : n < 1024 := by omega
    have e := of_decide_eq_true (List.all_eq_true.mp ab_shr_t n (List.mem_range.mpr hn2))
    rw [e]
    refine ab_i_mk ?_ ?_
    · rw [nI_toInt (by omega)]; show x.1 / 64 ≤ _; omega
    · rw [nI_toInt (by omega)]; show _ ≤ x.2.1 / 64; omega
theorem ab_lcmp {S : Nat → Int} {Lc : List (Option Value)} (x y : Int64) : ab_i S Lc (-1, 1, none, none) (lg_cmp x y) := by
  unfold lg_cmp
  split
  · exact ab_i_mk (by decide) (by decide)
  · split
    · exact ab_i_mk (by decide) (by decide)
    · exact ab_i_mk (by decide) (by decide)
theorem ab_call_ok {cl : List vw_C} {X : sm_X} {cc : ByteArray} {own : String} {Ts : List Cond} {rm : Room} {N Sz : Nat} {ini : Bool} {M : ab_M} (hX : sm_ok cl X cc M.1 own Ts M.2.1 rm N Sz ini) {G : ab_G} (hG : ab_Gok G) {K : dp_K} {ys : Nat → MethodName} {wss : Nat → List Cond} (hK : dp_Kok cl X.1.2.2.2 own Ts ys wss K) {CT : List ab_C} (hCT : ∀ e ∈ CT, ab_ok cl X.1 ys wss G e) (hfr : M.2.2.2.1 ≤ rm.frames) (hlo : 32 * M.2.2.2.1 ≤ rm.locals) (hN : G.2.length ≤ N) (hSz : sm_sl G.2 ≤ Sz) {ad : Nat → Nat} {μ0 : sm_M} {S : Nat → Int} {pc : Nat} {ins : Instr} {j na rc : Nat} (hC : sm_Cal cl X.1.2.2.2 cc own Ts ins (ys j) (wss j) na (dp_rcO rc)) (d : decode cc pc = .ok (ins, 3)) {A : ab_L} {st : List ab_V} {l : List ab_T} (h : ab_ca G M CT j na rc pc A st = some l) (k : ∀ a ∈ l, ab_J cl X G M ad μ0 S a) : ab_J cl X G M ad μ0 S (pc, A, st) := by
  unfold ab_ca at h
  obtain ⟨h1, ha⟩ := dp_g_ok h
  clear h
  obtain ⟨h2, hb⟩ := dp_g_ok ha
  clear ha
  obtain ⟨h3, hc⟩ := dp_g_ok hb
  clear hb
  obtain ⟨e, he, hd⟩ := dp_o_ok hc
  clear hc
  obtain ⟨h4, h5⟩ := dp_g_ok hd
  clear hd
  obtain ⟨m1, m2, m3, m4⟩ := ab_find_ok he
  intro Lc stc μ gl gs gm gf
  simp only at gs
  obtain ⟨t1, t2⟩ := ab_sv_td na gs
  have t3 := ab_sv_rev t1
  subst m2
  have hcon := hCT e m1 (stc.take na).reverse ad μ (ab_fitl_ok m4 t3) gm
  have hrc : sm_rcv G.2 (dp_rcO rc) (stc.take na).reverse := by
    cases rc with
    | zero => exact trivial
    | succ ci =>
      simp only at h2
      cases hr : (st.take na).reverse with
      | nil => rw [hr] at h2; cases h2
      | cons a0 tl =>
        rw [hr] at h2 t3
        obtain ⟨v0, u0, hu, hv0, -⟩ := ab_sv_cons t3
        cases a0 with
        | inl x => cases h2
        | inr a0 =>
          cases a0 with
          | inr x => cases h2
          | inl p =>
            simp only at h2
            have ev := ab_v_ref hv0
            subst ev
            cases hs : G.2[p]? with
            | none => rw [hs] at h2; cases h2
            | some c0 =>
              cases c0 with
              | inr x => rw [hs] at h2; cases h2
              | inl q =>
                obtain ⟨c1, fs⟩ := q
                rw [hs] at h2
                have ec := dp_beq h2
                subst ec
                exact ⟨p, u0, fs, hu, hs⟩
  have h6 := hC X _ _ _ _ _ _ rfl hX pc Lc (stc.drop na) ad G.2 μ (stc.take na).reverse _ _ (by rw [List.length_reverse, ab_sv_len t1]; exact dp_beq h1) hrc hcon (by simp only [dp_rm]; omega) (by simp only [dp_rm]; omega) (by simp only [dp_rm]; omega) (by simp only [dp_rm]; omega) (by rw [ab_sv_sum t2]; exact Nat.le_of_ble_eq_true h3) d (fun v ad' sh' μ' e1 e2 hag q => ?_)
  · rwa [List.reverse_reverse, List.take_append_drop] at h6
  · obtain ⟨q1, rfl, q3, q4⟩ := q
    rw [sm_ag_eq hag]
    refine ⟨Or.inl (by simp only [dp_rm]; omega), ?_⟩
    have gf' : ab_fr M.2.2.2.2 μ' μ0 := fun r hr => by
      have z1 := q4 r (fun z => hr (ab_sub_mem h4 z))
      have z2 := gf r hr
      exact ⟨z1.1.trans z2.1, z1.2.trans z2.2⟩
    split at h5
    · rename_i hret
      cases h5
      rw [hret] at q1
      cases v with
      | some x => exact absurd q1 (fun z => z)
      | none => exact k _ List.mem_cons_self Lc _ μ' gl t2 q3 gf'
    · rename_i a hret
      cases h5
      rw [hret] at q1
      cases v with
      | none => exact absurd q1 (fun z => z)
      | some x => exact k _ List.mem_cons_self Lc _ μ' gl ⟨ab_of_ok q1, t2⟩ q3 gf'
theorem ab_st_iadd {cl : List vw_C} {X : sm_X} {cc : ByteArray} {own : String} {Ts : List Cond} {rm : Room} {N Sz : Nat} {ini : Bool} {M : ab_M} (hX : sm_ok cl X cc M.1 own Ts M.2.1 rm N Sz ini) {G : ab_G} (hG : ab_Gok G) {K : dp_K} {ys : Nat → MethodName} {wss : Nat → List Cond} (hK : dp_Kok cl X.1.2.2.2 own Ts ys wss K) {CT : List ab_C} (hCT : ∀ e ∈ CT, ab_ok cl X.1 ys wss G e) (hfr : M.2.2.2.1 ≤ rm.frames) (hlo : 32 * M.2.2.2.1 ≤ rm.locals) (hN : G.2.length ≤ N) (hSz : sm_sl G.2 ≤ Sz) {ad : Nat → Nat} {μ0 : sm_M} {S : Nat → Int} {pc len : Nat}  (d : decode cc pc = .ok (.iadd, len)) {A : ab_L} {st : List ab_V} {l : List ab_T} (h : ab_st K G M CT pc A st .iadd len = some l) (k : ∀ a ∈ l, ab_J cl X G M ad μ0 S a) : ab_J cl X G M ad μ0 S (pc, A, st) := by
  obtain ⟨hl, hu1⟩ := dp_g_ok h
  clear h
  have hl := dp_beq hl
  subst hl
  obtain ⟨y, r, rfl, hu2⟩ := ab_1i_ok hu1
  clear hu1
  obtain ⟨x, r, rfl, hu3⟩ := ab_1i_ok hu2
  clear hu2
  cases hu3
  intro Lc stc μ gl gs gm gf
  obtain ⟨_, sys, rfl, cy, gys⟩ := ab_sv_cons gs
  clear gs
  obtain ⟨ny, rfl, iy⟩ := ab_v_int cy
  obtain ⟨_, sxs, rfl, cx, gxs⟩ := ab_sv_cons gys
  clear gys
  obtain ⟨nx, rfl, ix⟩ := ab_v_int cx
  exact sm_iadd hX d (k _ List.mem_cons_self Lc _ μ gl ⟨ab_add_ok ix iy, gxs⟩ gm gf)
theorem ab_st_isub {cl : List vw_C} {X : sm_X} {cc : ByteArray} {own : String} {Ts : List Cond} {rm : Room} {N Sz : Nat} {ini : Bool} {M : ab_M} (hX : sm_ok cl X cc M.1 own Ts M.2.1 rm N Sz ini) {G : ab_G} (hG : ab_Gok G) {K : dp_K} {ys : Nat → MethodName} {wss : Nat → List Cond} (hK : dp_Kok cl X.1.2.2.2 own Ts ys wss K) {CT : List ab_C} (hCT : ∀ e ∈ CT, ab_ok cl X.1 ys wss G e) (hfr : M.2.2.2.1 ≤ rm.frames) (hlo : 32 * M.2.2.2.1 ≤ rm.locals) (hN : G.2.length ≤ N) (hSz : sm_sl G.2 ≤ Sz) {ad : Nat → Nat} {μ0 : sm_M} {S : Nat → Int} {pc len : Nat}  (d : decode cc pc = .ok (.isub, len)) {A : ab_L} {st : List ab_V} {l : List ab_T} (h : ab_st K G M CT pc A st .isub len = some l) (k : ∀ a ∈ l, ab_J cl X G M ad μ0 S a) : ab_J cl X G M ad μ0 S (pc, A, st) := by
  obtain ⟨hl, hu1⟩ := dp_g_ok h
  clear h
  have hl := dp_beq hl
  subst hl
  obtain ⟨y, r, rfl, hu2⟩ := ab_1i_ok hu1
  clear hu1
  obtain ⟨x, r, rfl, hu3⟩ := ab_1i_ok hu2
  clear hu2
  cases hu3
  intro Lc stc μ gl gs gm gf
  obtain ⟨_, sys, rfl, cy, gys⟩ := ab_sv_cons gs
  clear gs
  obtain ⟨ny, rfl, iy⟩ := ab_v_int cy
  obtain ⟨_, sxs, rfl, cx, gxs⟩ := ab_sv_cons gys
  clear gys
  obtain ⟨nx, rfl, ix⟩ := ab_v_int cx
  exact sm_isub hX d (k _ List.mem_cons_self Lc _ μ gl ⟨ab_sub_ok ix iy, gxs⟩ gm gf)
theorem ab_st_imul {cl : List vw_C} {X : sm_X} {cc : ByteArray} {own : String} {Ts : List Cond} {rm : Room} {N Sz : Nat} {ini : Bool} {M : ab_M} (hX : sm_ok cl X cc M.1 own Ts M.2.1 rm N Sz ini) {G : ab_G} (hG : ab_Gok G) {K : dp_K} {ys : Nat → MethodName} {wss : Nat → List Cond} (hK : dp_Kok cl X.1.2.2.2 own Ts ys wss K) {CT : List ab_C} (hCT : ∀ e ∈ CT, ab_ok cl X.1 ys wss G e) (hfr : M.2.2.2.1 ≤ rm.frames) (hlo : 32 * M.2.2.2.1 ≤ rm.locals) (hN : G.2.length ≤ N) (hSz : sm_sl G.2 ≤ Sz) {ad : Nat → Nat} {μ0 : sm_M} {S : Nat → Int} {pc len : Nat}  (d : decode cc pc = .ok (.imul, len)) {A : ab_L} {st : List ab_V} {l : List ab_T} (h : ab_st K G M CT pc A st .imul len = some l) (k : ∀ a ∈ l, ab_J cl X G M ad μ0 S a) : ab_J cl X G M ad μ0 S (pc, A, st) := by
  obtain ⟨hl, hu1⟩ := dp_g_ok h
  clear h
  have hl := dp_beq hl
  subst hl
  obtain ⟨y, r, rfl, hu2⟩ := ab_1i_ok hu1
  clear hu1
  obtain ⟨x, r, rfl, hu3⟩ := ab_1i_ok hu2
  clear hu2
  cases hu3
  intro Lc stc μ gl gs gm gf
  obtain ⟨_, sys, rfl, cy, gys⟩ := ab_sv_cons gs
  clear gs
  obtain ⟨ny, rfl, iy⟩ := ab_v_int cy
  obtain ⟨_, sxs, rfl, cx, gxs⟩ := ab_sv_cons gys
  clear gys
  obtain ⟨nx, rfl, ix⟩ := ab_v_int cx
  exact sm_imul hX d (k _ List.mem_cons_self Lc _ μ gl ⟨ab_mul_ok ix iy, gxs⟩ gm gf)
theorem ab_st_iand {cl : List vw_C} {X : sm_X} {cc : ByteArray} {own : String} {Ts : List Cond} {rm : Room} {N Sz : Nat} {ini : Bool} {M : ab_M} (hX : sm_ok cl X cc M.1 own Ts M.2.1 rm N Sz ini) {G : ab_G} (hG : ab_Gok G) {K : dp_K} {ys : Nat → MethodName} {wss : Nat → List Cond} (hK : dp_Kok cl X.1.2.2.2 own Ts ys wss K) {CT : List ab_C} (hCT : ∀ e ∈ CT, ab_ok cl X.1 ys wss G e) (hfr : M.2.2.2.1 ≤ rm.frames) (hlo : 32 * M.2.2.2.1 ≤ rm.locals) (hN : G.2.length ≤ N) (hSz : sm_sl G.2 ≤ Sz) {ad : Nat → Nat} {μ0 : sm_M} {S : Nat → Int} {pc len : Nat}  (d : decode cc pc = .ok (.iand, len)) {A : ab_L} {st : List ab_V} {l : List ab_T} (h : ab_st K G M CT pc A st .iand len = some l) (k : ∀ a ∈ l, ab_J cl X G M ad μ0 S a) : ab_J cl X G M ad μ0 S (pc, A, st) := by
  obtain ⟨hl, hu1⟩ := dp_g_ok h
  clear h
  have hl := dp_beq hl
  subst hl
  obtain ⟨y, r, rfl, hu2⟩ := ab_1i_ok hu1
  clear hu1
  obtain ⟨x, r, rfl, hu3⟩ := ab_1i_ok hu2
  clear hu2
  cases hu3
  intro Lc stc μ gl gs gm gf
  obtain ⟨_, sys, rfl, cy, gys⟩ := ab_sv_cons gs
  clear gs
  obtain ⟨ny, rfl, iy⟩ := ab_v_int cy
  obtain ⟨_, sxs, rfl, cx, gxs⟩ := ab_sv_cons gys
  clear gys
  obtain ⟨nx, rfl, ix⟩ := ab_v_int cx
  exact sm_iand hX d (k _ List.mem_cons_self Lc _ μ gl ⟨ab_and_ok ix iy, gxs⟩ gm gf)
theorem ab_st_ior {cl : List vw_C} {X : sm_X} {cc : ByteArray} {own : String} {Ts : List Cond} {rm : Room} {N Sz : Nat} {ini : Bool} {M : ab_M} (hX : sm_ok cl X cc M.1 own Ts M.2.1 rm N Sz ini) {G : ab_G} (hG : ab_Gok G) {K : dp_K} {ys : Nat → MethodName} {wss : Nat → List Cond} (hK : dp_Kok cl X.1.2.2.2 own Ts ys wss K) {CT : List ab_C} (hCT : ∀ e ∈ CT, ab_ok cl X.1 ys wss G e) (hfr : M.2.2.2.1 ≤ rm.frames) (hlo : 32 * M.2.2.2.1 ≤ rm.locals) (hN : G.2.length ≤ N) (hSz : sm_sl G.2 ≤ Sz) {ad : Nat → Nat} {μ0 : sm_M} {S : Nat → Int} {pc len : Nat}  (d : decode cc pc = .ok (.ior, len)) {A : ab_L} {st : List ab_V} {l : List ab_T} (h : ab_st K G M CT pc A st .ior len = some l) (k : ∀ a ∈ l, ab_J cl X G M ad μ0 S a) : ab_J cl X G M ad μ0 S (pc, A, st) := by
  obtain ⟨hl, hu1⟩ := dp_g_ok h
  clear h
  have hl := dp_beq hl
  subst hl
  obtain ⟨y, r, rfl, hu2⟩ := ab_1i_ok hu1
  clear hu1
  obtain ⟨x, r, rfl, hu3⟩ := ab_1i_ok hu2
  clear hu2
  cases hu3
  intro Lc stc μ gl gs gm gf
  obtain ⟨_, sys, rfl, cy, gys⟩ := ab_sv_cons gs
  clear gs
  obtain ⟨ny, rfl, iy⟩ := ab_v_int cy
  obtain ⟨_, sxs, rfl, cx, gxs⟩ := ab_sv_cons gys
  clear gys
  obtain ⟨nx, rfl, ix⟩ := ab_v_int cx
  exact sm_ior hX d (k _ List.mem_cons_self Lc _ μ gl ⟨ab_or_ok ix iy, gxs⟩ gm gf)
theorem ab_st_ishr {cl : List vw_C} {X : sm_X} {cc : ByteArray} {own : String} {Ts : List Cond} {rm : Room} {N Sz : Nat} {ini : Bool} {M : ab_M} (hX : sm_ok cl X cc M.1 own Ts M.2.1 rm N Sz ini) {G : ab_G} (hG : ab_Gok G) {K : dp_K} {ys : Nat → MethodName} {wss : Nat → List Cond} (hK : dp_Kok cl X.1.2.2.2 own Ts ys wss K) {CT : List ab_C} (hCT : ∀ e ∈ CT, ab_ok cl X.1 ys wss G e) (hfr : M.2.2.2.1 ≤ rm.frames) (hlo : 32 * M.2.2.2.1 ≤ rm.locals) (hN : G.2.length ≤ N) (hSz : sm_sl G.2 ≤ Sz) {ad : Nat → Nat} {μ0 : sm_M} {S : Nat → Int} {pc len : Nat}  (d : decode cc pc = .ok (.ishr, len)) {A : ab_L} {st : List ab_V} {l : List ab_T} (h : ab_st K G M CT pc A st .ishr len = some l) (k : ∀ a ∈ l, ab_J cl X G M ad μ0 S a) : ab_J cl X G M ad μ0 S (pc, A, st) := by
  obtain ⟨hl, hu1⟩ := dp_g_ok h
  clear h
  have hl := dp_beq hl
  subst hl
  obtain ⟨y, r, rfl, hu2⟩ := ab_1i_ok hu1
  clear hu1
  obtain ⟨x, r, rfl, hu3⟩ := ab_1i_ok hu2
  clear hu2
  cases hu3
  intro Lc stc μ gl gs gm gf
  obtain ⟨_, sys, rfl, cy, gys⟩ := ab_sv_cons gs
  clear gs
  obtain ⟨ny, rfl, iy⟩ := ab_v_int cy
  obtain ⟨_, sxs, rfl, cx, gxs⟩ := ab_sv_cons gys
  clear gys
  obtain ⟨nx, rfl, ix⟩ := ab_v_int cx
  exact sm_ishr hX d (k _ List.mem_cons_self Lc _ μ gl ⟨ab_shr_ok ix iy, gxs⟩ gm gf)
theorem ab_st_ixor {cl : List vw_C} {X : sm_X} {cc : ByteArray} {own : String} {Ts : List Cond} {rm : Room} {N Sz : Nat} {ini : Bool} {M : ab_M} (hX : sm_ok cl X cc M.1 own Ts M.2.1 rm N Sz ini) {G : ab_G} (hG : ab_Gok G) {K : dp_K} {ys : Nat → MethodName} {wss : Nat → List Cond} (hK : dp_Kok cl X.1.2.2.2 own Ts ys wss K) {CT : List ab_C} (hCT : ∀ e ∈ CT, ab_ok cl X.1 ys wss G e) (hfr : M.2.2.2.1 ≤ rm.frames) (hlo : 32 * M.2.2.2.1 ≤ rm.locals) (hN : G.2.length ≤ N) (hSz : sm_sl G.2 ≤ Sz) {ad : Nat → Nat} {μ0 : sm_M} {S : Nat → Int} {pc len : Nat}  (d : decode cc pc = .ok (.ixor, len)) {A : ab_L} {st : List ab_V} {l : List ab_T} (h : ab_st K G M CT pc A st .ixor len = some l) (k : ∀ a ∈ l, ab_J cl X G M ad μ0 S a) : ab_J cl X G M ad μ0 S (pc, A, st) := by
  obtain ⟨hl, hu1⟩ := dp_g_ok h
  clear h
  have hl := dp_beq hl
  subst hl
  obtain ⟨y, r, rfl, hu2⟩ := ab_1i_ok hu1
  clear hu1
  obtain ⟨x, r, rfl, hu3⟩ := ab_1i_ok hu2
  clear hu2
  cases hu3
  intro Lc stc μ gl gs gm gf
  obtain ⟨_, sys, rfl, cy, gys⟩ := ab_sv_cons gs
  clear gs
  obtain ⟨ny, rfl, iy⟩ := ab_v_int cy
  obtain ⟨_, sxs, rfl, cx, gxs⟩ := ab_sv_cons gys
  clear gys
  obtain ⟨nx, rfl, ix⟩ := ab_v_int cx
  exact sm_ixor hX d (k _ List.mem_cons_self Lc _ μ gl ⟨ab_i_top _, gxs⟩ gm gf)
theorem ab_st_ishl {cl : List vw_C} {X : sm_X} {cc : ByteArray} {own : String} {Ts : List Cond} {rm : Room} {N Sz : Nat} {ini : Bool} {M : ab_M} (hX : sm_ok cl X cc M.1 own Ts M.2.1 rm N Sz ini) {G : ab_G} (hG : ab_Gok G) {K : dp_K} {ys : Nat → MethodName} {wss : Nat → List Cond} (hK : dp_Kok cl X.1.2.2.2 own Ts ys wss K) {CT : List ab_C} (hCT : ∀ e ∈ CT, ab_ok cl X.1 ys wss G e) (hfr : M.2.2.2.1 ≤ rm.frames) (hlo : 32 * M.2.2.2.1 ≤ rm.locals) (hN : G.2.length ≤ N) (hSz : sm_sl G.2 ≤ Sz) {ad : Nat → Nat} {μ0 : sm_M} {S : Nat → Int} {pc len : Nat}  (d : decode cc pc = .ok (.ishl, len)) {A : ab_L} {st : List ab_V} {l : List ab_T} (h : ab_st K G M CT pc A st .ishl len = some l) (k : ∀ a ∈ l, ab_J cl X G M ad μ0 S a) : ab_J cl X G M ad μ0 S (pc, A, st) := by
  obtain ⟨hl, hu1⟩ := dp_g_ok h
  clear h
  have hl := dp_beq hl
  subst hl
  obtain ⟨y, r, rfl, hu2⟩ := ab_1i_ok hu1
  clear hu1
  obtain ⟨x, r, rfl, hu3⟩ := ab_1i_ok hu2
  clear hu2
  cases hu3
  intro Lc stc μ gl gs gm gf
  obtain ⟨_, sys, rfl, cy, gys⟩ := ab_sv_cons gs
  clear gs
  obtain ⟨ny, rfl, iy⟩ := ab_v_int cy
  obtain ⟨_, sxs, rfl, cx, gxs⟩ := ab_sv_cons gys
  clear gys
  obtain ⟨nx, rfl, ix⟩ := ab_v_int cx
  exact sm_ishl hX d (k _ List.mem_cons_self Lc _ μ gl ⟨ab_i_top _, gxs⟩ gm gf)
theorem ab_st_iushr {cl : List vw_C} {X : sm_X} {cc : ByteArray} {own : String} {Ts : List Cond} {rm : Room} {N Sz : Nat} {ini : Bool} {M : ab_M} (hX : sm_ok cl X cc M.1 own Ts M.2.1 rm N Sz ini) {G : ab_G} (hG : ab_Gok G) {K : dp_K} {ys : Nat → MethodName} {wss : Nat → List Cond} (hK : dp_Kok cl X.1.2.2.2 own Ts ys wss K) {CT : List ab_C} (hCT : ∀ e ∈ CT, ab_ok cl X.1 ys wss G e) (hfr : M.2.2.2.1 ≤ rm.frames) (hlo : 32 * M.2.2.2.1 ≤ rm.locals) (hN : G.2.length ≤ N) (hSz : sm_sl G.2 ≤ Sz) {ad : Nat → Nat} {μ0 : sm_M} {S : Nat → Int} {pc len : Nat}  (d : decode cc pc = .ok (.iushr, len)) {A : ab_L} {st : List ab_V} {l : List ab_T} (h : ab_st K G M CT pc A st .iushr len = some l) (k : ∀ a ∈ l, ab_J cl X G M ad μ0 S a) : ab_J cl X G M ad μ0 S (pc, A, st) := by
  obtain ⟨hl, hu1⟩ := dp_g_ok h
  clear h
  have hl := dp_beq hl
  subst hl
  obtain ⟨y, r, rfl, hu2⟩ := ab_1i_ok hu1
  clear hu1
  obtain ⟨x, r, rfl, hu3⟩ := ab_1i_ok hu2
  clear hu2
  cases hu3
  intro Lc stc μ gl gs gm gf
  obtain ⟨_, sys, rfl, cy, gys⟩ := ab_sv_cons gs
  clear gs
  obtain ⟨ny, rfl, iy⟩ := ab_v_int cy
  obtain ⟨_, sxs, rfl, cx, gxs⟩ := ab_sv_cons gys
  clear gys
  obtain ⟨nx, rfl, ix⟩ := ab_v_int cx
  exact sm_iushr hX d (k _ List.mem_cons_self Lc _ μ gl ⟨ab_i_top _, gxs⟩ gm gf)
theorem ab_st_idiv {cl : List vw_C} {X : sm_X} {cc : ByteArray} {own : String} {Ts : List Cond} {rm : Room} {N Sz : Nat} {ini : Bool} {M : ab_M} (hX : sm_ok cl X cc M.1 own Ts M.2.1 rm N Sz ini) {G : ab_G} (hG : ab_Gok G) {K : dp_K} {ys : Nat → MethodName} {wss : Nat → List Cond} (hK : dp_Kok cl X.1.2.2.2 own Ts ys wss K) {CT : List ab_C} (hCT : ∀ e ∈ CT, ab_ok cl X.1 ys wss G e) (hfr : M.2.2.2.1 ≤ rm.frames) (hlo : 32 * M.2.2.2.1 ≤ rm.locals) (hN : G.2.length ≤ N) (hSz : sm_sl G.2 ≤ Sz) {ad : Nat → Nat} {μ0 : sm_M} {S : Nat → Int} {pc len : Nat}  (d : decode cc pc = .ok (.idiv, len)) {A : ab_L} {st : List ab_V} {l : List ab_T} (h : ab_st K G M CT pc A st .idiv len = some l) (k : ∀ a ∈ l, ab_J cl X G M ad μ0 S a) : ab_J cl X G M ad μ0 S (pc, A, st) := by
  obtain ⟨hl, hu1⟩ := dp_g_ok h
  clear h
  have hl := dp_beq hl
  subst hl
  obtain ⟨y, r, rfl, hu2⟩ := ab_1i_ok hu1
  clear hu1
  obtain ⟨x, r, rfl, hu3⟩ := ab_1i_ok hu2
  clear hu2
  obtain ⟨z, hz, hu4⟩ := dp_o_ok hu3
  clear hu3
  cases hu4
  intro Lc stc μ gl gs gm gf
  obtain ⟨_, sys, rfl, cy, gys⟩ := ab_sv_cons gs
  clear gs
  obtain ⟨ny, rfl, iy⟩ := ab_v_int cy
  obtain ⟨_, sxs, rfl, cx, gxs⟩ := ab_sv_cons gys
  clear gys
  obtain ⟨nx, rfl, ix⟩ := ab_v_int cx
  obtain ⟨ne, iz⟩ := ab_div_ok hz ix iy
  exact sm_idiv hX d ne (k _ List.mem_cons_self Lc _ μ gl ⟨iz, gxs⟩ gm gf)
theorem ab_st_irem {cl : List vw_C} {X : sm_X} {cc : ByteArray} {own : String} {Ts : List Cond} {rm : Room} {N Sz : Nat} {ini : Bool} {M : ab_M} (hX : sm_ok cl X cc M.1 own Ts M.2.1 rm N Sz ini) {G : ab_G} (hG : ab_Gok G) {K : dp_K} {ys : Nat → MethodName} {wss : Nat → List Cond} (hK : dp_Kok cl X.1.2.2.2 own Ts ys wss K) {CT : List ab_C} (hCT : ∀ e ∈ CT, ab_ok cl X.1 ys wss G e) (hfr : M.2.2.2.1 ≤ rm.frames) (hlo : 32 * M.2.2.2.1 ≤ rm.locals) (hN : G.2.length ≤ N) (hSz : sm_sl G.2 ≤ Sz) {ad : Nat → Nat} {μ0 : sm_M} {S : Nat → Int} {pc len : Nat}  (d : decode cc pc = .ok (.irem, len)) {A : ab_L} {st : List ab_V} {l : List ab_T} (h : ab_st K G M CT pc A st .irem len = some l) (k : ∀ a ∈ l, ab_J cl X G M ad μ0 S a) : ab_J cl X G M ad μ0 S (pc, A, st) := by
  obtain ⟨hl, hu1⟩ := dp_g_ok h
  clear h
  have hl := dp_beq hl
  subst hl
  obtain ⟨y, r, rfl, hu2⟩ := ab_1i_ok hu1
  clear hu1
  obtain ⟨x, r, rfl, hu3⟩ := ab_1i_ok hu2
  clear hu2
  obtain ⟨z, hz, hu4⟩ := dp_o_ok hu3
  clear hu3
  cases hu4
  intro Lc stc μ gl gs gm gf
  obtain ⟨_, sys, rfl, cy, gys⟩ := ab_sv_cons gs
  clear gs
  obtain ⟨ny, rfl, iy⟩ := ab_v_int cy
  obtain ⟨_, sxs, rfl, cx, gxs⟩ := ab_sv_cons gys
  clear gys
  obtain ⟨nx, rfl, ix⟩ := ab_v_int cx
  obtain ⟨ne, iz⟩ := ab_rem_ok hz ix iy
  exact sm_irem hX d ne (k _ List.mem_cons_self Lc _ μ gl ⟨iz, gxs⟩ gm gf)
theorem ab_st_ineg {cl : List vw_C} {X : sm_X} {cc : ByteArray} {own : String} {Ts : List Cond} {rm : Room} {N Sz : Nat} {ini : Bool} {M : ab_M} (hX : sm_ok cl X cc M.1 own Ts M.2.1 rm N Sz ini) {G : ab_G} (hG : ab_Gok G) {K : dp_K} {ys : Nat → MethodName} {wss : Nat → List Cond} (hK : dp_Kok cl X.1.2.2.2 own Ts ys wss K) {CT : List ab_C} (hCT : ∀ e ∈ CT, ab_ok cl X.1 ys wss G e) (hfr : M.2.2.2.1 ≤ rm.frames) (hlo : 32 * M.2.2.2.1 ≤ rm.locals) (hN : G.2.length ≤ N) (hSz : sm_sl G.2 ≤ Sz) {ad : Nat → Nat} {μ0 : sm_M} {S : Nat → Int} {pc len : Nat}  (d : decode cc pc = .ok (.ineg, len)) {A : ab_L} {st : List ab_V} {l : List ab_T} (h : ab_st K G M CT pc A st .ineg len = some l) (k : ∀ a ∈ l, ab_J cl X G M ad μ0 S a) : ab_J cl X G M ad μ0 S (pc, A, st) := by
  obtain ⟨hl, hu1⟩ := dp_g_ok h
  clear h
  have hl := dp_beq hl
  subst hl
  obtain ⟨x, r, rfl, hu2⟩ := ab_1i_ok hu1
  clear hu1
  cases hu2
  intro Lc stc μ gl gs gm gf
  obtain ⟨_, sxs, rfl, cx, gxs⟩ := ab_sv_cons gs
  clear gs
  obtain ⟨nx, rfl, ix⟩ := ab_v_int cx
  exact sm_ineg hX d (k _ List.mem_cons_self Lc _ μ gl ⟨ab_i_top _, gxs⟩ gm gf)
theorem ab_st_land {cl : List vw_C} {X : sm_X} {cc : ByteArray} {own : String} {Ts : List Cond} {rm : Room} {N Sz : Nat} {ini : Bool} {M : ab_M} (hX : sm_ok cl X cc M.1 own Ts M.2.1 rm N Sz ini) {G : ab_G} (hG : ab_Gok G) {K : dp_K} {ys : Nat → MethodName} {wss : Nat → List Cond} (hK : dp_Kok cl X.1.2.2.2 own Ts ys wss K) {CT : List ab_C} (hCT : ∀ e ∈ CT, ab_ok cl X.1 ys wss G e) (hfr : M.2.2.2.1 ≤ rm.frames) (hlo : 32 * M.2.2.2.1 ≤ rm.locals) (hN : G.2.length ≤ N) (hSz : sm_sl G.2 ≤ Sz) {ad : Nat → Nat} {μ0 : sm_M} {S : Nat → Int} {pc len : Nat}  (d : decode cc pc = .ok (.land, len)) {A : ab_L} {st : List ab_V} {l : List ab_T} (h : ab_st K G M CT pc A st .land len = some l) (k : ∀ a ∈ l, ab_J cl X G M ad μ0 S a) : ab_J cl X G M ad μ0 S (pc, A, st) := by
  obtain ⟨hl, hu1⟩ := dp_g_ok h
  clear h
  have hl := dp_beq hl
  subst hl
  obtain ⟨y, r, rfl, hu2⟩ := ab_1l_ok hu1
  clear hu1
  obtain ⟨x, r, rfl, hu3⟩ := ab_1l_ok hu2
  clear hu2
  cases hu3
  intro Lc stc μ gl gs gm gf
  obtain ⟨_, sys, rfl, cy, gys⟩ := ab_sv_cons gs
  clear gs
  obtain ⟨ny, rfl⟩ := ab_v_long cy
  obtain ⟨_, sxs, rfl, cx, gxs⟩ := ab_sv_cons gys
  clear gys
  obtain ⟨nx, rfl⟩ := ab_v_long cx
  exact sm_land hX d (k _ List.mem_cons_self Lc _ μ gl ⟨trivial, gxs⟩ gm gf)
theorem ab_st_lor {cl : List vw_C} {X : sm_X} {cc : ByteArray} {own : String} {Ts : List Cond} {rm : Room} {N Sz : Nat} {ini : Bool} {M : ab_M} (hX : sm_ok cl X cc M.1 own Ts M.2.1 rm N Sz ini) {G : ab_G} (hG : ab_Gok G) {K : dp_K} {ys : Nat → MethodName} {wss : Nat → List Cond} (hK : dp_Kok cl X.1.2.2.2 own Ts ys wss K) {CT : List ab_C} (hCT : ∀ e ∈ CT, ab_ok cl X.1 ys wss G e) (hfr : M.2.2.2.1 ≤ rm.frames) (hlo : 32 * M.2.2.2.1 ≤ rm.locals) (hN : G.2.length ≤ N) (hSz : sm_sl G.2 ≤ Sz) {ad : Nat → Nat} {μ0 : sm_M} {S : Nat → Int} {pc len : Nat}  (d : decode cc pc = .ok (.lor, len)) {A : ab_L} {st : List ab_V} {l : List ab_T} (h : ab_st K G M CT pc A st .lor len = some l) (k : ∀ a ∈ l, ab_J cl X G M ad μ0 S a) : ab_J cl X G M ad μ0 S (pc, A, st) := by
  obtain ⟨hl, hu1⟩ := dp_g_ok h
  clear h
  have hl := dp_beq hl
  subst hl
  obtain ⟨y, r, rfl, hu2⟩ := ab_1l_ok hu1
  clear hu1
  obtain ⟨x, r, rfl, hu3⟩ := ab_1l_ok hu2
  clear hu2
  cases hu3
  intro Lc stc μ gl gs gm gf
  obtain ⟨_, sys, rfl, cy, gys⟩ := ab_sv_cons gs
  clear gs
  obtain ⟨ny, rfl⟩ := ab_v_long cy
  obtain ⟨_, sxs, rfl, cx, gxs⟩ := ab_sv_cons gys
  clear gys
  obtain ⟨nx, rfl⟩ := ab_v_long cx
  exact sm_lor hX d (k _ List.mem_cons_self Lc _ μ gl ⟨trivial, gxs⟩ gm gf)
theorem ab_st_lxor {cl : List vw_C} {X : sm_X} {cc : ByteArray} {own : String} {Ts : List Cond} {rm : Room} {N Sz : Nat} {ini : Bool} {M : ab_M} (hX : sm_ok cl X cc M.1 own Ts M.2.1 rm N Sz ini) {G : ab_G} (hG : ab_Gok G) {K : dp_K} {ys : Nat → MethodName} {wss : Nat → List Cond} (hK : dp_Kok cl X.1.2.2.2 own Ts ys wss K) {CT : List ab_C} (hCT : ∀ e ∈ CT, ab_ok cl X.1 ys wss G e) (hfr : M.2.2.2.1 ≤ rm.frames) (hlo : 32 * M.2.2.2.1 ≤ rm.locals) (hN : G.2.length ≤ N) (hSz : sm_sl G.2 ≤ Sz) {ad : Nat → Nat} {μ0 : sm_M} {S : Nat → Int} {pc len : Nat}  (d : decode cc pc = .ok (.lxor, len)) {A : ab_L} {st : List ab_V} {l : List ab_T} (h : ab_st K G M CT pc A st .lxor len = some l) (k : ∀ a ∈ l, ab_J cl X G M ad μ0 S a) : ab_J cl X G M ad μ0 S (pc, A, st) := by
  obtain ⟨hl, hu1⟩ := dp_g_ok h
  clear h
  have hl := dp_beq hl
  subst hl
  obtain ⟨y, r, rfl, hu2⟩ := ab_1l_ok hu1
  clear hu1
  obtain ⟨x, r, rfl, hu3⟩ := ab_1l_ok hu2
  clear hu2
  cases hu3
  intro Lc stc μ gl gs gm gf
  obtain ⟨_, sys, rfl, cy, gys⟩ := ab_sv_cons gs
  clear gs
  obtain ⟨ny, rfl⟩ := ab_v_long cy
  obtain ⟨_, sxs, rfl, cx, gxs⟩ := ab_sv_cons gys
  clear gys
  obtain ⟨nx, rfl⟩ := ab_v_long cx
  exact sm_lxor hX d (k _ List.mem_cons_self Lc _ μ gl ⟨trivial, gxs⟩ gm gf)
theorem ab_st_ladd {cl : List vw_C} {X : sm_X} {cc : ByteArray} {own : String} {Ts : List Cond} {rm : Room} {N Sz : Nat} {ini : Bool} {M : ab_M} (hX : sm_ok cl X cc M.1 own Ts M.2.1 rm N Sz ini) {G : ab_G} (hG : ab_Gok G) {K : dp_K} {ys : Nat → MethodName} {wss : Nat → List Cond} (hK : dp_Kok cl X.1.2.2.2 own Ts ys wss K) {CT : List ab_C} (hCT : ∀ e ∈ CT, ab_ok cl X.1 ys wss G e) (hfr : M.2.2.2.1 ≤ rm.frames) (hlo : 32 * M.2.2.2.1 ≤ rm.locals) (hN : G.2.length ≤ N) (hSz : sm_sl G.2 ≤ Sz) {ad : Nat → Nat} {μ0 : sm_M} {S : Nat → Int} {pc len : Nat}  (d : decode cc pc = .ok (.ladd, len)) {A : ab_L} {st : List ab_V} {l : List ab_T} (h : ab_st K G M CT pc A st .ladd len = some l) (k : ∀ a ∈ l, ab_J cl X G M ad μ0 S a) : ab_J cl X G M ad μ0 S (pc, A, st) := by
  obtain ⟨hl, hu1⟩ := dp_g_ok h
  clear h
  have hl := dp_beq hl
  subst hl
  obtain ⟨y, r, rfl, hu2⟩ := ab_1l_ok hu1
  clear hu1
  obtain ⟨x, r, rfl, hu3⟩ := ab_1l_ok hu2
  clear hu2
  cases hu3
  intro Lc stc μ gl gs gm gf
  obtain ⟨_, sys, rfl, cy, gys⟩ := ab_sv_cons gs
  clear gs
  obtain ⟨ny, rfl⟩ := ab_v_long cy
  obtain ⟨_, sxs, rfl, cx, gxs⟩ := ab_sv_cons gys
  clear gys
  obtain ⟨nx, rfl⟩ := ab_v_long cx
  exact sm_ladd hX d (k _ List.mem_cons_self Lc _ μ gl ⟨trivial, gxs⟩ gm gf)
theorem ab_st_lsub {cl : List vw_C} {X : sm_X} {cc : ByteArray} {own : String} {Ts : List Cond} {rm : Room} {N Sz : Nat} {ini : Bool} {M : ab_M} (hX : sm_ok cl X cc M.1 own Ts M.2.1 rm N Sz ini) {G : ab_G} (hG : ab_Gok G) {K : dp_K} {ys : Nat → MethodName} {wss : Nat → List Cond} (hK : dp_Kok cl X.1.2.2.2 own Ts ys wss K) {CT : List ab_C} (hCT : ∀ e ∈ CT, ab_ok cl X.1 ys wss G e) (hfr : M.2.2.2.1 ≤ rm.frames) (hlo : 32 * M.2.2.2.1 ≤ rm.locals) (hN : G.2.length ≤ N) (hSz : sm_sl G.2 ≤ Sz) {ad : Nat → Nat} {μ0 : sm_M} {S : Nat → Int} {pc len : Nat}  (d : decode cc pc = .ok (.lsub, len)) {A : ab_L} {st : List ab_V} {l : List ab_T} (h : ab_st K G M CT pc A st .lsub len = some l) (k : ∀ a ∈ l, ab_J cl X G M ad μ0 S a) : ab_J cl X G M ad μ0 S (pc, A, st) := by
  obtain ⟨hl, hu1⟩ := dp_g_ok h
  clear h
  have hl := dp_beq hl
  subst hl
  obtain ⟨y, r, rfl, hu2⟩ := ab_1l_ok hu1
  clear hu1
  obtain ⟨x, r, rfl, hu3⟩ := ab_1l_ok hu2
  clear hu2
  cases hu3
  intro Lc stc μ gl gs gm gf
  obtain ⟨_, sys, rfl, cy, gys⟩ := ab_sv_cons gs
  clear gs
  obtain ⟨ny, rfl⟩ := ab_v_long cy
  obtain ⟨_, sxs, rfl, cx, gxs⟩ := ab_sv_cons gys
  clear gys
  obtain ⟨nx, rfl⟩ := ab_v_long cx
  exact sm_lsub hX d (k _ List.mem_cons_self Lc _ μ gl ⟨trivial, gxs⟩ gm gf)
theorem ab_st_lshl {cl : List vw_C} {X : sm_X} {cc : ByteArray} {own : String} {Ts : List Cond} {rm : Room} {N Sz : Nat} {ini : Bool} {M : ab_M} (hX : sm_ok cl X cc M.1 own Ts M.2.1 rm N Sz ini) {G : ab_G} (hG : ab_Gok G) {K : dp_K} {ys : Nat → MethodName} {wss : Nat → List Cond} (hK : dp_Kok cl X.1.2.2.2 own Ts ys wss K) {CT : List ab_C} (hCT : ∀ e ∈ CT, ab_ok cl X.1 ys wss G e) (hfr : M.2.2.2.1 ≤ rm.frames) (hlo : 32 * M.2.2.2.1 ≤ rm.locals) (hN : G.2.length ≤ N) (hSz : sm_sl G.2 ≤ Sz) {ad : Nat → Nat} {μ0 : sm_M} {S : Nat → Int} {pc len : Nat}  (d : decode cc pc = .ok (.lshl, len)) {A : ab_L} {st : List ab_V} {l : List ab_T} (h : ab_st K G M CT pc A st .lshl len = some l) (k : ∀ a ∈ l, ab_J cl X G M ad μ0 S a) : ab_J cl X G M ad μ0 S (pc, A, st) := by
  obtain ⟨hl, hu1⟩ := dp_g_ok h
  clear h
  have hl := dp_beq hl
  subst hl
  obtain ⟨y, r, rfl, hu2⟩ := ab_1i_ok hu1
  clear hu1
  obtain ⟨x, r, rfl, hu3⟩ := ab_1l_ok hu2
  clear hu2
  cases hu3
  intro Lc stc μ gl gs gm gf
  obtain ⟨_, sys, rfl, cy, gys⟩ := ab_sv_cons gs
  clear gs
  obtain ⟨ny, rfl, iy⟩ := ab_v_int cy
  obtain ⟨_, sxs, rfl, cx, gxs⟩ := ab_sv_cons gys
  clear gys
  obtain ⟨nx, rfl⟩ := ab_v_long cx
  exact sm_lshl hX d (k _ List.mem_cons_self Lc _ μ gl ⟨trivial, gxs⟩ gm gf)
theorem ab_st_lshr {cl : List vw_C} {X : sm_X} {cc : ByteArray} {own : String} {Ts : List Cond} {rm : Room} {N Sz : Nat} {ini : Bool} {M : ab_M} (hX : sm_ok cl X cc M.1 own Ts M.2.1 rm N Sz ini) {G : ab_G} (hG : ab_Gok G) {K : dp_K} {ys : Nat → MethodName} {wss : Nat → List Cond} (hK : dp_Kok cl X.1.2.2.2 own Ts ys wss K) {CT : List ab_C} (hCT : ∀ e ∈ CT, ab_ok cl X.1 ys wss G e) (hfr : M.2.2.2.1 ≤ rm.frames) (hlo : 32 * M.2.2.2.1 ≤ rm.locals) (hN : G.2.length ≤ N) (hSz : sm_sl G.2 ≤ Sz) {ad : Nat → Nat} {μ0 : sm_M} {S : Nat → Int} {pc len : Nat}  (d : decode cc pc = .ok (.lshr, len)) {A : ab_L} {st : List ab_V} {l : List ab_T} (h : ab_st K G M CT pc A st .lshr len = some l) (k : ∀ a ∈ l, ab_J cl X G M ad μ0 S a) : ab_J cl X G M ad μ0 S (pc, A, st) := by
  obtain ⟨hl, hu1⟩ := dp_g_ok h
  clear h
  have hl := dp_beq hl
  subst hl
  obtain ⟨y, r, rfl, hu2⟩ := ab_1i_ok hu1
  clear hu1
  obtain ⟨x, r, rfl, hu3⟩ := ab_1l_ok hu2
  clear hu2
  cases hu3
  intro Lc stc μ gl gs gm gf
  obtain ⟨_, sys, rfl, cy, gys⟩ := ab_sv_cons gs
  clear gs
  obtain ⟨ny, rfl, iy⟩ := ab_v_int cy
  obtain ⟨_, sxs, rfl, cx, gxs⟩ := ab_sv_cons gys
  clear gys
  obtain ⟨nx, rfl⟩ := ab_v_long cx
  exact sm_lshr hX d (k _ List.mem_cons_self Lc _ μ gl ⟨trivial, gxs⟩ gm gf)
theorem ab_st_lushr {cl : List vw_C} {X : sm_X} {cc : ByteArray} {own : String} {Ts : List Cond} {rm : Room} {N Sz : Nat} {ini : Bool} {M : ab_M} (hX : sm_ok cl X cc M.1 own Ts M.2.1 rm N Sz ini) {G : ab_G} (hG : ab_Gok G) {K : dp_K} {ys : Nat → MethodName} {wss : Nat → List Cond} (hK : dp_Kok cl X.1.2.2.2 own Ts ys wss K) {CT : List ab_C} (hCT : ∀ e ∈ CT, ab_ok cl X.1 ys wss G e) (hfr : M.2.2.2.1 ≤ rm.frames) (hlo : 32 * M.2.2.2.1 ≤ rm.locals) (hN : G.2.length ≤ N) (hSz : sm_sl G.2 ≤ Sz) {ad : Nat → Nat} {μ0 : sm_M} {S : Nat → Int} {pc len : Nat}  (d : decode cc pc = .ok (.lushr, len)) {A : ab_L} {st : List ab_V} {l : List ab_T} (h : ab_st K G M CT pc A st .lushr len = some l) (k : ∀ a ∈ l, ab_J cl X G M ad μ0 S a) : ab_J cl X G M ad μ0 S (pc, A, st) := by
  obtain ⟨hl, hu1⟩ := dp_g_ok h
  clear h
  have hl := dp_beq hl
  subst hl
  obtain ⟨y, r, rfl, hu2⟩ := ab_1i_ok hu1
  clear hu1
  obtain ⟨x, r, rfl, hu3⟩ := ab_1l_ok hu2
  clear hu2
  cases hu3
  intro Lc stc μ gl gs gm gf
  obtain ⟨_, sys, rfl, cy, gys⟩ := ab_sv_cons gs
  clear gs
  obtain ⟨ny, rfl, iy⟩ := ab_v_int cy
  obtain ⟨_, sxs, rfl, cx, gxs⟩ := ab_sv_cons gys
  clear gys
  obtain ⟨nx, rfl⟩ := ab_v_long cx
  exact sm_lushr hX d (k _ List.mem_cons_self Lc _ μ gl ⟨trivial, gxs⟩ gm gf)
theorem ab_st_lcmp {cl : List vw_C} {X : sm_X} {cc : ByteArray} {own : String} {Ts : List Cond} {rm : Room} {N Sz : Nat} {ini : Bool} {M : ab_M} (hX : sm_ok cl X cc M.1 own Ts M.2.1 rm N Sz ini) {G : ab_G} (hG : ab_Gok G) {K : dp_K} {ys : Nat → MethodName} {wss : Nat → List Cond} (hK : dp_Kok cl X.1.2.2.2 own Ts ys wss K) {CT : List ab_C} (hCT : ∀ e ∈ CT, ab_ok cl X.1 ys wss G e) (hfr : M.2.2.2.1 ≤ rm.frames) (hlo : 32 * M.2.2.2.1 ≤ rm.locals) (hN : G.2.length ≤ N) (hSz : sm_sl G.2 ≤ Sz) {ad : Nat → Nat} {μ0 : sm_M} {S : Nat → Int} {pc len : Nat}  (d : decode cc pc = .ok (.lcmp, len)) {A : ab_L} {st : List ab_V} {l : List ab_T} (h : ab_st K G M CT pc A st .lcmp len = some l) (k : ∀ a ∈ l, ab_J cl X G M ad μ0 S a) : ab_J cl X G M ad μ0 S (pc, A, st) := by
  obtain ⟨hl, hu1⟩ := dp_g_ok h
  clear h
  have hl := dp_beq hl
  subst hl
  obtain ⟨y, r, rfl, hu2⟩ := ab_1l_ok hu1
  clear hu1
  obtain ⟨x, r, rfl, hu3⟩ := ab_1l_ok hu2
  clear hu2
  cases hu3
  intro Lc stc μ gl gs gm gf
  obtain ⟨_, sys, rfl, cy, gys⟩ := ab_sv_cons gs
  clear gs
  obtain ⟨ny, rfl⟩ := ab_v_long cy
  obtain ⟨_, sxs, rfl, cx, gxs⟩ := ab_sv_cons gys
  clear gys
  obtain ⟨nx, rfl⟩ := ab_v_long cx
  exact sm_lcmp hX d (k _ List.mem_cons_self Lc _ μ gl ⟨ab_lcmp nx ny, gxs⟩ gm gf)
theorem ab_st_i2l {cl : List vw_C} {X : sm_X} {cc : ByteArray} {own : String} {Ts : List Cond} {rm : Room} {N Sz : Nat} {ini : Bool} {M : ab_M} (hX : sm_ok cl X cc M.1 own Ts M.2.1 rm N Sz ini) {G : ab_G} (hG : ab_Gok G) {K : dp_K} {ys : Nat → MethodName} {wss : Nat → List Cond} (hK : dp_Kok cl X.1.2.2.2 own Ts ys wss K) {CT : List ab_C} (hCT : ∀ e ∈ CT, ab_ok cl X.1 ys wss G e) (hfr : M.2.2.2.1 ≤ rm.frames) (hlo : 32 * M.2.2.2.1 ≤ rm.locals) (hN : G.2.length ≤ N) (hSz : sm_sl G.2 ≤ Sz) {ad : Nat → Nat} {μ0 : sm_M} {S : Nat → Int} {pc len : Nat}  (d : decode cc pc = .ok (.i2l, len)) {A : ab_L} {st : List ab_V} {l : List ab_T} (h : ab_st K G M CT pc A st .i2l len = some l) (k : ∀ a ∈ l, ab_J cl X G M ad μ0 S a) : ab_J cl X G M ad μ0 S (pc, A, st) := by
  obtain ⟨hl, hu1⟩ := dp_g_ok h
  clear h
  have hl := dp_beq hl
  subst hl
  obtain ⟨x, r, rfl, hu2⟩ := ab_1i_ok hu1
  clear hu1
  cases hu2
  intro Lc stc μ gl gs gm gf
  obtain ⟨_, sxs, rfl, cx, gxs⟩ := ab_sv_cons gs
  clear gs
  obtain ⟨nx, rfl, ix⟩ := ab_v_int cx
  exact sm_i2l hX d (k _ List.mem_cons_self Lc _ μ gl ⟨trivial, gxs⟩ gm gf)
theorem ab_st_l2i {cl : List vw_C} {X : sm_X} {cc : ByteArray} {own : String} {Ts : List Cond} {rm : Room} {N Sz : Nat} {ini : Bool} {M : ab_M} (hX : sm_ok cl X cc M.1 own Ts M.2.1 rm N Sz ini) {G : ab_G} (hG : ab_Gok G) {K : dp_K} {ys : Nat → MethodName} {wss : Nat → List Cond} (hK : dp_Kok cl X.1.2.2.2 own Ts ys wss K) {CT : List ab_C} (hCT : ∀ e ∈ CT, ab_ok cl X.1 ys wss G e) (hfr : M.2.2.2.1 ≤ rm.frames) (hlo : 32 * M.2.2.2.1 ≤ rm.locals) (hN : G.2.length ≤ N) (hSz : sm_sl G.2 ≤ Sz) {ad : Nat → Nat} {μ0 : sm_M} {S : Nat → Int} {pc len : Nat}  (d : decode cc pc = .ok (.l2i, len)) {A : ab_L} {st : List ab_V} {l : List ab_T} (h : ab_st K G M CT pc A st .l2i len = some l) (k : ∀ a ∈ l, ab_J cl X G M ad μ0 S a) : ab_J cl X G M ad μ0 S (pc, A, st) := by
  obtain ⟨hl, hu1⟩ := dp_g_ok h
  clear h
  have hl := dp_beq hl
  subst hl
  obtain ⟨x, r, rfl, hu2⟩ := ab_1l_ok hu1
  clear hu1
  cases hu2
  intro Lc stc μ gl gs gm gf
  obtain ⟨_, sxs, rfl, cx, gxs⟩ := ab_sv_cons gs
  clear gs
  obtain ⟨nx, rfl⟩ := ab_v_long cx
  exact sm_l2i hX d (k _ List.mem_cons_self Lc _ μ gl ⟨ab_i_top _, gxs⟩ gm gf)
theorem ab_st_iconst {cl : List vw_C} {X : sm_X} {cc : ByteArray} {own : String} {Ts : List Cond} {rm : Room} {N Sz : Nat} {ini : Bool} {M : ab_M} (hX : sm_ok cl X cc M.1 own Ts M.2.1 rm N Sz ini) {G : ab_G} (hG : ab_Gok G) {K : dp_K} {ys : Nat → MethodName} {wss : Nat → List Cond} (hK : dp_Kok cl X.1.2.2.2 own Ts ys wss K) {CT : List ab_C} (hCT : ∀ e ∈ CT, ab_ok cl X.1 ys wss G e) (hfr : M.2.2.2.1 ≤ rm.frames) (hlo : 32 * M.2.2.2.1 ≤ rm.locals) (hN : G.2.length ≤ N) (hSz : sm_sl G.2 ≤ Sz) {ad : Nat → Nat} {μ0 : sm_M} {S : Nat → Int} {pc len : Nat} (i : Int) (d : decode cc pc = .ok ((.iconst i), len)) {A : ab_L} {st : List ab_V} {l : List ab_T} (h : ab_st K G M CT pc A st (.iconst i) len = some l) (k : ∀ a ∈ l, ab_J cl X G M ad μ0 S a) : ab_J cl X G M ad μ0 S (pc, A, st) := by
  obtain ⟨hl, hu1⟩ := dp_g_ok h
  clear h
  have hl := dp_beq hl
  subst hl
  cases hu1
  intro Lc stc μ gl gs gm gf
  exact sm_iconst hX d (k _ List.mem_cons_self Lc _ μ gl ⟨ab_i_c _, gs⟩ gm gf)
theorem ab_st_bipush {cl : List vw_C} {X : sm_X} {cc : ByteArray} {own : String} {Ts : List Cond} {rm : Room} {N Sz : Nat} {ini : Bool} {M : ab_M} (hX : sm_ok cl X cc M.1 own Ts M.2.1 rm N Sz ini) {G : ab_G} (hG : ab_Gok G) {K : dp_K} {ys : Nat → MethodName} {wss : Nat → List Cond} (hK : dp_Kok cl X.1.2.2.2 own Ts ys wss K) {CT : List ab_C} (hCT : ∀ e ∈ CT, ab_ok cl X.1 ys wss G e) (hfr : M.2.2.2.1 ≤ rm.frames) (hlo : 32 * M.2.2.2.1 ≤ rm.locals) (hN : G.2.length ≤ N) (hSz : sm_sl G.2 ≤ Sz) {ad : Nat → Nat} {μ0 : sm_M} {S : Nat → Int} {pc len : Nat} (i : Int) (d : decode cc pc = .ok ((.bipush i), len)) {A : ab_L} {st : List ab_V} {l : List ab_T} (h : ab_st K G M CT pc A st (.bipush i) len = some l) (k : ∀ a ∈ l, ab_J cl X G M ad μ0 S a) : ab_J cl X G M ad μ0 S (pc, A, st) := by
  obtain ⟨hl, hu1⟩ := dp_g_ok h
  clear h
  have hl := dp_beq hl
  subst hl
  cases hu1
  intro Lc stc μ gl gs gm gf
  exact sm_bipush hX d (k _ List.mem_cons_self Lc _ μ gl ⟨ab_i_c _, gs⟩ gm gf)
theorem ab_st_sipush {cl : List vw_C} {X : sm_X} {cc : ByteArray} {own : String} {Ts : List Cond} {rm : Room} {N Sz : Nat} {ini : Bool} {M : ab_M} (hX : sm_ok cl X cc M.1 own Ts M.2.1 rm N Sz ini) {G : ab_G} (hG : ab_Gok G) {K : dp_K} {ys : Nat → MethodName} {wss : Nat → List Cond} (hK : dp_Kok cl X.1.2.2.2 own Ts ys wss K) {CT : List ab_C} (hCT : ∀ e ∈ CT, ab_ok cl X.1 ys wss G e) (hfr : M.2.2.2.1 ≤ rm.frames) (hlo : 32 * M.2.2.2.1 ≤ rm.locals) (hN : G.2.length ≤ N) (hSz : sm_sl G.2 ≤ Sz) {ad : Nat → Nat} {μ0 : sm_M} {S : Nat → Int} {pc len : Nat} (i : Int) (d : decode cc pc = .ok ((.sipush i), len)) {A : ab_L} {st : List ab_V} {l : List ab_T} (h : ab_st K G M CT pc A st (.sipush i) len = some l) (k : ∀ a ∈ l, ab_J cl X G M ad μ0 S a) : ab_J cl X G M ad μ0 S (pc, A, st) := by
  obtain ⟨hl, hu1⟩ := dp_g_ok h
  clear h
  have hl := dp_beq hl
  subst hl
  cases hu1
  intro Lc stc μ gl gs gm gf
  exact sm_sipush hX d (k _ List.mem_cons_self Lc _ μ gl ⟨ab_i_c _, gs⟩ gm gf)
theorem ab_st_lconst {cl : List vw_C} {X : sm_X} {cc : ByteArray} {own : String} {Ts : List Cond} {rm : Room} {N Sz : Nat} {ini : Bool} {M : ab_M} (hX : sm_ok cl X cc M.1 own Ts M.2.1 rm N Sz ini) {G : ab_G} (hG : ab_Gok G) {K : dp_K} {ys : Nat → MethodName} {wss : Nat → List Cond} (hK : dp_Kok cl X.1.2.2.2 own Ts ys wss K) {CT : List ab_C} (hCT : ∀ e ∈ CT, ab_ok cl X.1 ys wss G e) (hfr : M.2.2.2.1 ≤ rm.frames) (hlo : 32 * M.2.2.2.1 ≤ rm.locals) (hN : G.2.length ≤ N) (hSz : sm_sl G.2 ≤ Sz) {ad : Nat → Nat} {μ0 : sm_M} {S : Nat → Int} {pc len : Nat} (i : Fin 2) (d : decode cc pc = .ok ((.lconst i), len)) {A : ab_L} {st : List ab_V} {l : List ab_T} (h : ab_st K G M CT pc A st (.lconst i) len = some l) (k : ∀ a ∈ l, ab_J cl X G M ad μ0 S a) : ab_J cl X G M ad μ0 S (pc, A, st) := by
  obtain ⟨hl, hu1⟩ := dp_g_ok h
  clear h
  have hl := dp_beq hl
  subst hl
  cases hu1
  intro Lc stc μ gl gs gm gf
  exact sm_lconst hX d (k _ List.mem_cons_self Lc _ μ gl ⟨trivial, gs⟩ gm gf)
theorem ab_st_ldc {cl : List vw_C} {X : sm_X} {cc : ByteArray} {own : String} {Ts : List Cond} {rm : Room} {N Sz : Nat} {ini : Bool} {M : ab_M} (hX : sm_ok cl X cc M.1 own Ts M.2.1 rm N Sz ini) {G : ab_G} (hG : ab_Gok G) {K : dp_K} {ys : Nat → MethodName} {wss : Nat → List Cond} (hK : dp_Kok cl X.1.2.2.2 own Ts ys wss K) {CT : List ab_C} (hCT : ∀ e ∈ CT, ab_ok cl X.1 ys wss G e) (hfr : M.2.2.2.1 ≤ rm.frames) (hlo : 32 * M.2.2.2.1 ≤ rm.locals) (hN : G.2.length ≤ N) (hSz : sm_sl G.2 ≤ Sz) {ad : Nat → Nat} {μ0 : sm_M} {S : Nat → Int} {pc len : Nat} (i : Nat) (d : decode cc pc = .ok ((.ldc i), len)) {A : ab_L} {st : List ab_V} {l : List ab_T} (h : ab_st K G M CT pc A st (.ldc i) len = some l) (k : ∀ a ∈ l, ab_J cl X G M ad μ0 S a) : ab_J cl X G M ad μ0 S (pc, A, st) := by
  obtain ⟨hl, hu1⟩ := dp_g_ok h
  clear h
  have hl := dp_beq hl
  subst hl
  obtain ⟨v, hv, hu2⟩ := dp_o_ok hu1
  clear hu1
  cases hu2
  intro Lc stc μ gl gs gm gf
  exact sm_ldc hX d (hK.2.1 _ _ hv) (k _ List.mem_cons_self Lc _ μ gl ⟨ab_i_c _, gs⟩ gm gf)
theorem ab_st_ldc2_w {cl : List vw_C} {X : sm_X} {cc : ByteArray} {own : String} {Ts : List Cond} {rm : Room} {N Sz : Nat} {ini : Bool} {M : ab_M} (hX : sm_ok cl X cc M.1 own Ts M.2.1 rm N Sz ini) {G : ab_G} (hG : ab_Gok G) {K : dp_K} {ys : Nat → MethodName} {wss : Nat → List Cond} (hK : dp_Kok cl X.1.2.2.2 own Ts ys wss K) {CT : List ab_C} (hCT : ∀ e ∈ CT, ab_ok cl X.1 ys wss G e) (hfr : M.2.2.2.1 ≤ rm.frames) (hlo : 32 * M.2.2.2.1 ≤ rm.locals) (hN : G.2.length ≤ N) (hSz : sm_sl G.2 ≤ Sz) {ad : Nat → Nat} {μ0 : sm_M} {S : Nat → Int} {pc len : Nat} (i : Nat) (d : decode cc pc = .ok ((.ldc2_w i), len)) {A : ab_L} {st : List ab_V} {l : List ab_T} (h : ab_st K G M CT pc A st (.ldc2_w i) len = some l) (k : ∀ a ∈ l, ab_J cl X G M ad μ0 S a) : ab_J cl X G M ad μ0 S (pc, A, st) := by
  obtain ⟨hl, hu1⟩ := dp_g_ok h
  clear h
  have hl := dp_beq hl
  subst hl
  obtain ⟨v, hv, hu2⟩ := dp_o_ok hu1
  clear hu1
  cases hu2
  intro Lc stc μ gl gs gm gf
  exact sm_ldc2 hX d (hK.2.2.1 _ _ hv) (k _ List.mem_cons_self Lc _ μ gl ⟨trivial, gs⟩ gm gf)
theorem ab_st_dup {cl : List vw_C} {X : sm_X} {cc : ByteArray} {own : String} {Ts : List Cond} {rm : Room} {N Sz : Nat} {ini : Bool} {M : ab_M} (hX : sm_ok cl X cc M.1 own Ts M.2.1 rm N Sz ini) {G : ab_G} (hG : ab_Gok G) {K : dp_K} {ys : Nat → MethodName} {wss : Nat → List Cond} (hK : dp_Kok cl X.1.2.2.2 own Ts ys wss K) {CT : List ab_C} (hCT : ∀ e ∈ CT, ab_ok cl X.1 ys wss G e) (hfr : M.2.2.2.1 ≤ rm.frames) (hlo : 32 * M.2.2.2.1 ≤ rm.locals) (hN : G.2.length ≤ N) (hSz : sm_sl G.2 ≤ Sz) {ad : Nat → Nat} {μ0 : sm_M} {S : Nat → Int} {pc len : Nat}  (d : decode cc pc = .ok (.dup, len)) {A : ab_L} {st : List ab_V} {l : List ab_T} (h : ab_st K G M CT pc A st .dup len = some l) (k : ∀ a ∈ l, ab_J cl X G M ad μ0 S a) : ab_J cl X G M ad μ0 S (pc, A, st) := by
  obtain ⟨hl, hu1⟩ := dp_g_ok h
  clear h
  have hl := dp_beq hl
  subst hl
  obtain ⟨x, r, rfl, hu2⟩ := ab_1v_ok hu1
  clear hu1
  obtain ⟨h1, hu3⟩ := dp_g_ok hu2
  clear hu2
  cases hu3
  intro Lc stc μ gl gs gm gf
  obtain ⟨vx, sxs, rfl, cx, gxs⟩ := ab_sv_cons gs
  clear gs
  exact sm_dup hX d ((ab_v_cat cx).trans (dp_beq h1)) (k _ List.mem_cons_self Lc _ μ gl ⟨cx, cx, gxs⟩ gm gf)
theorem ab_st_pop {cl : List vw_C} {X : sm_X} {cc : ByteArray} {own : String} {Ts : List Cond} {rm : Room} {N Sz : Nat} {ini : Bool} {M : ab_M} (hX : sm_ok cl X cc M.1 own Ts M.2.1 rm N Sz ini) {G : ab_G} (hG : ab_Gok G) {K : dp_K} {ys : Nat → MethodName} {wss : Nat → List Cond} (hK : dp_Kok cl X.1.2.2.2 own Ts ys wss K) {CT : List ab_C} (hCT : ∀ e ∈ CT, ab_ok cl X.1 ys wss G e) (hfr : M.2.2.2.1 ≤ rm.frames) (hlo : 32 * M.2.2.2.1 ≤ rm.locals) (hN : G.2.length ≤ N) (hSz : sm_sl G.2 ≤ Sz) {ad : Nat → Nat} {μ0 : sm_M} {S : Nat → Int} {pc len : Nat}  (d : decode cc pc = .ok (.pop, len)) {A : ab_L} {st : List ab_V} {l : List ab_T} (h : ab_st K G M CT pc A st .pop len = some l) (k : ∀ a ∈ l, ab_J cl X G M ad μ0 S a) : ab_J cl X G M ad μ0 S (pc, A, st) := by
  obtain ⟨hl, hu1⟩ := dp_g_ok h
  clear h
  have hl := dp_beq hl
  subst hl
  obtain ⟨x, r, rfl, hu2⟩ := ab_1v_ok hu1
  clear hu1
  obtain ⟨h1, hu3⟩ := dp_g_ok hu2
  clear hu2
  cases hu3
  intro Lc stc μ gl gs gm gf
  obtain ⟨vx, sxs, rfl, cx, gxs⟩ := ab_sv_cons gs
  clear gs
  exact sm_pop hX d ((ab_v_cat cx).trans (dp_beq h1)) (k _ List.mem_cons_self Lc _ μ gl gxs gm gf)
theorem ab_st_dup_x1 {cl : List vw_C} {X : sm_X} {cc : ByteArray} {own : String} {Ts : List Cond} {rm : Room} {N Sz : Nat} {ini : Bool} {M : ab_M} (hX : sm_ok cl X cc M.1 own Ts M.2.1 rm N Sz ini) {G : ab_G} (hG : ab_Gok G) {K : dp_K} {ys : Nat → MethodName} {wss : Nat → List Cond} (hK : dp_Kok cl X.1.2.2.2 own Ts ys wss K) {CT : List ab_C} (hCT : ∀ e ∈ CT, ab_ok cl X.1 ys wss G e) (hfr : M.2.2.2.1 ≤ rm.frames) (hlo : 32 * M.2.2.2.1 ≤ rm.locals) (hN : G.2.length ≤ N) (hSz : sm_sl G.2 ≤ Sz) {ad : Nat → Nat} {μ0 : sm_M} {S : Nat → Int} {pc len : Nat}  (d : decode cc pc = .ok (.dup_x1, len)) {A : ab_L} {st : List ab_V} {l : List ab_T} (h : ab_st K G M CT pc A st .dup_x1 len = some l) (k : ∀ a ∈ l, ab_J cl X G M ad μ0 S a) : ab_J cl X G M ad μ0 S (pc, A, st) := by
  obtain ⟨hl, hu1⟩ := dp_g_ok h
  clear h
  have hl := dp_beq hl
  subst hl
  obtain ⟨x, r, rfl, hu2⟩ := ab_1v_ok hu1
  clear hu1
  obtain ⟨y, r, rfl, hu3⟩ := ab_1v_ok hu2
  clear hu2
  obtain ⟨h1, hu4⟩ := dp_g_ok hu3
  clear hu3
  obtain ⟨h2, hu5⟩ := dp_g_ok hu4
  clear hu4
  cases hu5
  intro Lc stc μ gl gs gm gf
  obtain ⟨vx, sxs, rfl, cx, gxs⟩ := ab_sv_cons gs
  clear gs
  obtain ⟨vy, sys, rfl, cy, gys⟩ := ab_sv_cons gxs
  clear gxs
  exact sm_dup_x1 hX d ((ab_v_cat cx).trans (dp_beq h1)) ((ab_v_cat cy).trans (dp_beq h2)) (k _ List.mem_cons_self Lc _ μ gl ⟨cx, cy, cx, gys⟩ gm gf)
theorem ab_st_dup2 {cl : List vw_C} {X : sm_X} {cc : ByteArray} {own : String} {Ts : List Cond} {rm : Room} {N Sz : Nat} {ini : Bool} {M : ab_M} (hX : sm_ok cl X cc M.1 own Ts M.2.1 rm N Sz ini) {G : ab_G} (hG : ab_Gok G) {K : dp_K} {ys : Nat → MethodName} {wss : Nat → List Cond} (hK : dp_Kok cl X.1.2.2.2 own Ts ys wss K) {CT : List ab_C} (hCT : ∀ e ∈ CT, ab_ok cl X.1 ys wss G e) (hfr : M.2.2.2.1 ≤ rm.frames) (hlo : 32 * M.2.2.2.1 ≤ rm.locals) (hN : G.2.length ≤ N) (hSz : sm_sl G.2 ≤ Sz) {ad : Nat → Nat} {μ0 : sm_M} {S : Nat → Int} {pc len : Nat}  (d : decode cc pc = .ok (.dup2, len)) {A : ab_L} {st : List ab_V} {l : List ab_T} (h : ab_st K G M CT pc A st .dup2 len = some l) (k : ∀ a ∈ l, ab_J cl X G M ad μ0 S a) : ab_J cl X G M ad μ0 S (pc, A, st) := by
  obtain ⟨hl, hu1⟩ := dp_g_ok h
  clear h
  have hl := dp_beq hl
  subst hl
  obtain ⟨x, r, rfl, hu2⟩ := ab_1v_ok hu1
  clear hu1
  obtain ⟨y, r, rfl, hu3⟩ := ab_1v_ok hu2
  clear hu2
  obtain ⟨h1, hu4⟩ := dp_g_ok hu3
  clear hu3
  obtain ⟨h2, hu5⟩ := dp_g_ok hu4
  clear hu4
  cases hu5
  intro Lc stc μ gl gs gm gf
  obtain ⟨vx, sxs, rfl, cx, gxs⟩ := ab_sv_cons gs
  clear gs
  obtain ⟨vy, sys, rfl, cy, gys⟩ := ab_sv_cons gxs
  clear gxs
  exact sm_dup2 hX d ((ab_v_cat cx).trans (dp_beq h1)) ((ab_v_cat cy).trans (dp_beq h2)) (k _ List.mem_cons_self Lc _ μ gl ⟨cx, cy, cx, cy, gys⟩ gm gf)
theorem ab_st_iload {cl : List vw_C} {X : sm_X} {cc : ByteArray} {own : String} {Ts : List Cond} {rm : Room} {N Sz : Nat} {ini : Bool} {M : ab_M} (hX : sm_ok cl X cc M.1 own Ts M.2.1 rm N Sz ini) {G : ab_G} (hG : ab_Gok G) {K : dp_K} {ys : Nat → MethodName} {wss : Nat → List Cond} (hK : dp_Kok cl X.1.2.2.2 own Ts ys wss K) {CT : List ab_C} (hCT : ∀ e ∈ CT, ab_ok cl X.1 ys wss G e) (hfr : M.2.2.2.1 ≤ rm.frames) (hlo : 32 * M.2.2.2.1 ≤ rm.locals) (hN : G.2.length ≤ N) (hSz : sm_sl G.2 ≤ Sz) {ad : Nat → Nat} {μ0 : sm_M} {S : Nat → Int} {pc len : Nat} (i : Nat) (d : decode cc pc = .ok ((.iload i), len)) {A : ab_L} {st : List ab_V} {l : List ab_T} (h : ab_st K G M CT pc A st (.iload i) len = some l) (k : ∀ a ∈ l, ab_J cl X G M ad μ0 S a) : ab_J cl X G M ad μ0 S (pc, A, st) := by
  obtain ⟨hl, hu1⟩ := dp_g_ok h
  clear h
  have hl := dp_beq hl
  subst hl
  split at hu1
  · rename_i x hx
    cases hu1
    intro Lc stc μ gl gs gm gf
    obtain ⟨v, hv, hav⟩ := gl.2.2.1 _ _ hx
    obtain ⟨n, rfl, i1⟩ := ab_v_int hav
    exact sm_iloadG hX d hv (k _ List.mem_cons_self Lc _ μ gl ⟨⟨i1.1, i1.2.1, i1.2.2.1, fun l e => by cases e; exact hv⟩, gs⟩ gm gf)
  · cases hu1
theorem ab_st_lload {cl : List vw_C} {X : sm_X} {cc : ByteArray} {own : String} {Ts : List Cond} {rm : Room} {N Sz : Nat} {ini : Bool} {M : ab_M} (hX : sm_ok cl X cc M.1 own Ts M.2.1 rm N Sz ini) {G : ab_G} (hG : ab_Gok G) {K : dp_K} {ys : Nat → MethodName} {wss : Nat → List Cond} (hK : dp_Kok cl X.1.2.2.2 own Ts ys wss K) {CT : List ab_C} (hCT : ∀ e ∈ CT, ab_ok cl X.1 ys wss G e) (hfr : M.2.2.2.1 ≤ rm.frames) (hlo : 32 * M.2.2.2.1 ≤ rm.locals) (hN : G.2.length ≤ N) (hSz : sm_sl G.2 ≤ Sz) {ad : Nat → Nat} {μ0 : sm_M} {S : Nat → Int} {pc len : Nat} (i : Nat) (d : decode cc pc = .ok ((.lload i), len)) {A : ab_L} {st : List ab_V} {l : List ab_T} (h : ab_st K G M CT pc A st (.lload i) len = some l) (k : ∀ a ∈ l, ab_J cl X G M ad μ0 S a) : ab_J cl X G M ad μ0 S (pc, A, st) := by
  obtain ⟨hl, hu1⟩ := dp_g_ok h
  clear h
  have hl := dp_beq hl
  subst hl
  split at hu1
  · rename_i u hx
    cases hu1
    intro Lc stc μ gl gs gm gf
    obtain ⟨v, hv, hav⟩ := gl.2.2.1 _ _ hx
    obtain ⟨n, rfl⟩ := ab_v_long hav
    exact sm_lloadG hX d hv (k _ List.mem_cons_self Lc _ μ gl ⟨trivial, gs⟩ gm gf)
  · cases hu1
theorem ab_st_aload {cl : List vw_C} {X : sm_X} {cc : ByteArray} {own : String} {Ts : List Cond} {rm : Room} {N Sz : Nat} {ini : Bool} {M : ab_M} (hX : sm_ok cl X cc M.1 own Ts M.2.1 rm N Sz ini) {G : ab_G} (hG : ab_Gok G) {K : dp_K} {ys : Nat → MethodName} {wss : Nat → List Cond} (hK : dp_Kok cl X.1.2.2.2 own Ts ys wss K) {CT : List ab_C} (hCT : ∀ e ∈ CT, ab_ok cl X.1 ys wss G e) (hfr : M.2.2.2.1 ≤ rm.frames) (hlo : 32 * M.2.2.2.1 ≤ rm.locals) (hN : G.2.length ≤ N) (hSz : sm_sl G.2 ≤ Sz) {ad : Nat → Nat} {μ0 : sm_M} {S : Nat → Int} {pc len : Nat} (i : Nat) (d : decode cc pc = .ok ((.aload i), len)) {A : ab_L} {st : List ab_V} {l : List ab_T} (h : ab_st K G M CT pc A st (.aload i) len = some l) (k : ∀ a ∈ l, ab_J cl X G M ad μ0 S a) : ab_J cl X G M ad μ0 S (pc, A, st) := by
  obtain ⟨hl, hu1⟩ := dp_g_ok h
  clear h
  have hl := dp_beq hl
  subst hl
  split at hu1
  · rename_i p hx
    cases hu1
    intro Lc stc μ gl gs gm gf
    obtain ⟨v, hv, hav⟩ := gl.2.2.1 _ _ hx
    have e := ab_v_ref hav
    subst e
    exact sm_aloadG hX d hv (k _ List.mem_cons_self Lc _ μ gl ⟨rfl, gs⟩ gm gf)
  · cases hu1
theorem ab_st_istore {cl : List vw_C} {X : sm_X} {cc : ByteArray} {own : String} {Ts : List Cond} {rm : Room} {N Sz : Nat} {ini : Bool} {M : ab_M} (hX : sm_ok cl X cc M.1 own Ts M.2.1 rm N Sz ini) {G : ab_G} (hG : ab_Gok G) {K : dp_K} {ys : Nat → MethodName} {wss : Nat → List Cond} (hK : dp_Kok cl X.1.2.2.2 own Ts ys wss K) {CT : List ab_C} (hCT : ∀ e ∈ CT, ab_ok cl X.1 ys wss G e) (hfr : M.2.2.2.1 ≤ rm.frames) (hlo : 32 * M.2.2.2.1 ≤ rm.locals) (hN : G.2.length ≤ N) (hSz : sm_sl G.2 ≤ Sz) {ad : Nat → Nat} {μ0 : sm_M} {S : Nat → Int} {pc len : Nat} (i : Nat) (d : decode cc pc = .ok ((.istore i), len)) {A : ab_L} {st : List ab_V} {l : List ab_T} (h : ab_st K G M CT pc A st (.istore i) len = some l) (k : ∀ a ∈ l, ab_J cl X G M ad μ0 S a) : ab_J cl X G M ad μ0 S (pc, A, st) := by
  obtain ⟨hl, hu1⟩ := dp_g_ok h
  clear h
  have hl := dp_beq hl
  subst hl
  obtain ⟨x, r, rfl, hu2⟩ := ab_1i_ok hu1
  clear hu1
  obtain ⟨h1, hu3⟩ := dp_g_ok hu2
  clear hu2
  obtain ⟨h2, hu4⟩ := dp_g_ok hu3
  clear hu3
  have h2 := Nat.le_of_ble_eq_true h2
  cases hu4
  intro Lc stc μ gl gs gm gf
  obtain ⟨_, sxs, rfl, cx, gxs⟩ := ab_sv_cons gs
  clear gs
  obtain ⟨nx, rfl, ix⟩ := ab_v_int cx
  exact sm_istoreG hX d (ab_ah_ok gl h1) (by omega) (k _ List.mem_cons_self _ _ μ (ab_lv_set (a := .inl (x.1, x.2.1, x.2.2.1, none)) gl (by omega) ⟨ix.1, ix.2.1, ix.2.2.1, fun _ e => by cases e⟩) (ab_cl_ok (fun q hq m hm => by rw [List.getElem?_set_ne (Ne.symm hq)]; exact hm) gxs) gm gf)
theorem ab_st_astore {cl : List vw_C} {X : sm_X} {cc : ByteArray} {own : String} {Ts : List Cond} {rm : Room} {N Sz : Nat} {ini : Bool} {M : ab_M} (hX : sm_ok cl X cc M.1 own Ts M.2.1 rm N Sz ini) {G : ab_G} (hG : ab_Gok G) {K : dp_K} {ys : Nat → MethodName} {wss : Nat → List Cond} (hK : dp_Kok cl X.1.2.2.2 own Ts ys wss K) {CT : List ab_C} (hCT : ∀ e ∈ CT, ab_ok cl X.1 ys wss G e) (hfr : M.2.2.2.1 ≤ rm.frames) (hlo : 32 * M.2.2.2.1 ≤ rm.locals) (hN : G.2.length ≤ N) (hSz : sm_sl G.2 ≤ Sz) {ad : Nat → Nat} {μ0 : sm_M} {S : Nat → Int} {pc len : Nat} (i : Nat) (d : decode cc pc = .ok ((.astore i), len)) {A : ab_L} {st : List ab_V} {l : List ab_T} (h : ab_st K G M CT pc A st (.astore i) len = some l) (k : ∀ a ∈ l, ab_J cl X G M ad μ0 S a) : ab_J cl X G M ad μ0 S (pc, A, st) := by
  obtain ⟨hl, hu1⟩ := dp_g_ok h
  clear h
  have hl := dp_beq hl
  subst hl
  obtain ⟨p, r, rfl, hu2⟩ := ab_1r_ok hu1
  clear hu1
  obtain ⟨h1, hu3⟩ := dp_g_ok hu2
  clear hu2
  obtain ⟨h2, hu4⟩ := dp_g_ok hu3
  clear hu3
  have h2 := Nat.le_of_ble_eq_true h2
  cases hu4
  intro Lc stc μ gl gs gm gf
  obtain ⟨_, sps, rfl, cp, gps⟩ := ab_sv_cons gs
  clear gs
  have ep := ab_v_ref cp
  subst ep
  exact sm_astoreG hX d (ab_ah_ok gl h1) (by omega) (k _ List.mem_cons_self _ _ μ (ab_lv_set (a := .inr (.inl p)) gl (by omega) rfl) (ab_cl_ok (fun q hq m hm => by rw [List.getElem?_set_ne (Ne.symm hq)]; exact hm) gps) gm gf)
theorem ab_st_lstore {cl : List vw_C} {X : sm_X} {cc : ByteArray} {own : String} {Ts : List Cond} {rm : Room} {N Sz : Nat} {ini : Bool} {M : ab_M} (hX : sm_ok cl X cc M.1 own Ts M.2.1 rm N Sz ini) {G : ab_G} (hG : ab_Gok G) {K : dp_K} {ys : Nat → MethodName} {wss : Nat → List Cond} (hK : dp_Kok cl X.1.2.2.2 own Ts ys wss K) {CT : List ab_C} (hCT : ∀ e ∈ CT, ab_ok cl X.1 ys wss G e) (hfr : M.2.2.2.1 ≤ rm.frames) (hlo : 32 * M.2.2.2.1 ≤ rm.locals) (hN : G.2.length ≤ N) (hSz : sm_sl G.2 ≤ Sz) {ad : Nat → Nat} {μ0 : sm_M} {S : Nat → Int} {pc len : Nat} (i : Nat) (d : decode cc pc = .ok ((.lstore i), len)) {A : ab_L} {st : List ab_V} {l : List ab_T} (h : ab_st K G M CT pc A st (.lstore i) len = some l) (k : ∀ a ∈ l, ab_J cl X G M ad μ0 S a) : ab_J cl X G M ad μ0 S (pc, A, st) := by
  obtain ⟨hl, hu1⟩ := dp_g_ok h
  clear h
  have hl := dp_beq hl
  subst hl
  obtain ⟨x, r, rfl, hu2⟩ := ab_1l_ok hu1
  clear hu1
  obtain ⟨h1, hu3⟩ := dp_g_ok hu2
  clear hu2
  obtain ⟨h2, hu4⟩ := dp_g_ok hu3
  clear hu3
  have h2 := Nat.le_of_ble_eq_true h2
  cases hu4
  intro Lc stc μ gl gs gm gf
  obtain ⟨_, sxs, rfl, cx, gxs⟩ := ab_sv_cons gs
  clear gs
  obtain ⟨nx, rfl⟩ := ab_v_long cx
  exact sm_lstoreG hX d (ab_ah_ok gl h1) (by omega) (k _ List.mem_cons_self _ _ μ (ab_lv_none (ab_lv_set (a := .inr (.inr ())) gl (by omega) trivial)) (ab_cl_ok (fun q hq m hm => by rw [List.getElem?_set_ne (Ne.symm hq)]; exact hm) (ab_cl_ok (fun q hq m hm => by rw [List.getElem?_set_ne (Ne.symm hq)]; exact hm) gxs)) gm gf)
theorem ab_st_iload_n {cl : List vw_C} {X : sm_X} {cc : ByteArray} {own : String} {Ts : List Cond} {rm : Room} {N Sz : Nat} {ini : Bool} {M : ab_M} (hX : sm_ok cl X cc M.1 own Ts M.2.1 rm N Sz ini) {G : ab_G} (hG : ab_Gok G) {K : dp_K} {ys : Nat → MethodName} {wss : Nat → List Cond} (hK : dp_Kok cl X.1.2.2.2 own Ts ys wss K) {CT : List ab_C} (hCT : ∀ e ∈ CT, ab_ok cl X.1 ys wss G e) (hfr : M.2.2.2.1 ≤ rm.frames) (hlo : 32 * M.2.2.2.1 ≤ rm.locals) (hN : G.2.length ≤ N) (hSz : sm_sl G.2 ≤ Sz) {ad : Nat → Nat} {μ0 : sm_M} {S : Nat → Int} {pc len : Nat} (i : Fin 4) (d : decode cc pc = .ok ((.iload_n i), len)) {A : ab_L} {st : List ab_V} {l : List ab_T} (h : ab_st K G M CT pc A st (.iload_n i) len = some l) (k : ∀ a ∈ l, ab_J cl X G M ad μ0 S a) : ab_J cl X G M ad μ0 S (pc, A, st) := by
  obtain ⟨hl, hu1⟩ := dp_g_ok h
  clear h
  have hl := dp_beq hl
  subst hl
  split at hu1
  · rename_i x hx
    cases hu1
    intro Lc stc μ gl gs gm gf
    obtain ⟨v, hv, hav⟩ := gl.2.2.1 _ _ hx
    obtain ⟨n, rfl, i1⟩ := ab_v_int hav
    exact sm_iloadN hX d hv (k _ List.mem_cons_self Lc _ μ gl ⟨⟨i1.1, i1.2.1, i1.2.2.1, fun l e => by cases e; exact hv⟩, gs⟩ gm gf)
  · cases hu1
theorem ab_st_lload_n {cl : List vw_C} {X : sm_X} {cc : ByteArray} {own : String} {Ts : List Cond} {rm : Room} {N Sz : Nat} {ini : Bool} {M : ab_M} (hX : sm_ok cl X cc M.1 own Ts M.2.1 rm N Sz ini) {G : ab_G} (hG : ab_Gok G) {K : dp_K} {ys : Nat → MethodName} {wss : Nat → List Cond} (hK : dp_Kok cl X.1.2.2.2 own Ts ys wss K) {CT : List ab_C} (hCT : ∀ e ∈ CT, ab_ok cl X.1 ys wss G e) (hfr : M.2.2.2.1 ≤ rm.frames) (hlo : 32 * M.2.2.2.1 ≤ rm.locals) (hN : G.2.length ≤ N) (hSz : sm_sl G.2 ≤ Sz) {ad : Nat → Nat} {μ0 : sm_M} {S : Nat → Int} {pc len : Nat} (i : Fin 4) (d : decode cc pc = .ok ((.lload_n i), len)) {A : ab_L} {st : List ab_V} {l : List ab_T} (h : ab_st K G M CT pc A st (.lload_n i) len = some l) (k : ∀ a ∈ l, ab_J cl X G M ad μ0 S a) : ab_J cl X G M ad μ0 S (pc, A, st) := by
  obtain ⟨hl, hu1⟩ := dp_g_ok h
  clear h
  have hl := dp_beq hl
  subst hl
  split at hu1
  · rename_i u hx
    cases hu1
    intro Lc stc μ gl gs gm gf
    obtain ⟨v, hv, hav⟩ := gl.2.2.1 _ _ hx
    obtain ⟨n, rfl⟩ := ab_v_long hav
    exact sm_lloadN hX d hv (k _ List.mem_cons_self Lc _ μ gl ⟨trivial, gs⟩ gm gf)
  · cases hu1
theorem ab_st_aload_n {cl : List vw_C} {X : sm_X} {cc : ByteArray} {own : String} {Ts : List Cond} {rm : Room} {N Sz : Nat} {ini : Bool} {M : ab_M} (hX : sm_ok cl X cc M.1 own Ts M.2.1 rm N Sz ini) {G : ab_G} (hG : ab_Gok G) {K : dp_K} {ys : Nat → MethodName} {wss : Nat → List Cond} (hK : dp_Kok cl X.1.2.2.2 own Ts ys wss K) {CT : List ab_C} (hCT : ∀ e ∈ CT, ab_ok cl X.1 ys wss G e) (hfr : M.2.2.2.1 ≤ rm.frames) (hlo : 32 * M.2.2.2.1 ≤ rm.locals) (hN : G.2.length ≤ N) (hSz : sm_sl G.2 ≤ Sz) {ad : Nat → Nat} {μ0 : sm_M} {S : Nat → Int} {pc len : Nat} (i : Fin 4) (d : decode cc pc = .ok ((.aload_n i), len)) {A : ab_L} {st : List ab_V} {l : List ab_T} (h : ab_st K G M CT pc A st (.aload_n i) len = some l) (k : ∀ a ∈ l, ab_J cl X G M ad μ0 S a) : ab_J cl X G M ad μ0 S (pc, A, st) := by
  obtain ⟨hl, hu1⟩ := dp_g_ok h
  clear h
  have hl := dp_beq hl
  subst hl
  split at hu1
  · rename_i p hx
    cases hu1
    intro Lc stc μ gl gs gm gf
    obtain ⟨v, hv, hav⟩ := gl.2.2.1 _ _ hx
    have e := ab_v_ref hav
    subst e
    exact sm_aloadN hX d hv (k _ List.mem_cons_self Lc _ μ gl ⟨rfl, gs⟩ gm gf)
  · cases hu1
theorem ab_st_istore_n {cl : List vw_C} {X : sm_X} {cc : ByteArray} {own : String} {Ts : List Cond} {rm : Room} {N Sz : Nat} {ini : Bool} {M : ab_M} (hX : sm_ok cl X cc M.1 own Ts M.2.1 rm N Sz ini) {G : ab_G} (hG : ab_Gok G) {K : dp_K} {ys : Nat → MethodName} {wss : Nat → List Cond} (hK : dp_Kok cl X.1.2.2.2 own Ts ys wss K) {CT : List ab_C} (hCT : ∀ e ∈ CT, ab_ok cl X.1 ys wss G e) (hfr : M.2.2.2.1 ≤ rm.frames) (hlo : 32 * M.2.2.2.1 ≤ rm.locals) (hN : G.2.length ≤ N) (hSz : sm_sl G.2 ≤ Sz) {ad : Nat → Nat} {μ0 : sm_M} {S : Nat → Int} {pc len : Nat} (i : Fin 4) (d : decode cc pc = .ok ((.istore_n i), len)) {A : ab_L} {st : List ab_V} {l : List ab_T} (h : ab_st K G M CT pc A st (.istore_n i) len = some l) (k : ∀ a ∈ l, ab_J cl X G M ad μ0 S a) : ab_J cl X G M ad μ0 S (pc, A, st) := by
  obtain ⟨hl, hu1⟩ := dp_g_ok h
  clear h
  have hl := dp_beq hl
  subst hl
  obtain ⟨x, r, rfl, hu2⟩ := ab_1i_ok hu1
  clear hu1
  obtain ⟨h1, hu3⟩ := dp_g_ok hu2
  clear hu2
  obtain ⟨h2, hu4⟩ := dp_g_ok hu3
  clear hu3
  have h2 := Nat.le_of_ble_eq_true h2
  cases hu4
  intro Lc stc μ gl gs gm gf
  obtain ⟨_, sxs, rfl, cx, gxs⟩ := ab_sv_cons gs
  clear gs
  obtain ⟨nx, rfl, ix⟩ := ab_v_int cx
  exact sm_istoreN hX d (ab_ah_ok gl h1) (by omega) (k _ List.mem_cons_self _ _ μ (ab_lv_set (a := .inl (x.1, x.2.1, x.2.2.1, none)) gl (by omega) ⟨ix.1, ix.2.1, ix.2.2.1, fun _ e => by cases e⟩) (ab_cl_ok (fun q hq m hm => by rw [List.getElem?_set_ne (Ne.symm hq)]; exact hm) gxs) gm gf)
theorem ab_st_astore_n {cl : List vw_C} {X : sm_X} {cc : ByteArray} {own : String} {Ts : List Cond} {rm : Room} {N Sz : Nat} {ini : Bool} {M : ab_M} (hX : sm_ok cl X cc M.1 own Ts M.2.1 rm N Sz ini) {G : ab_G} (hG : ab_Gok G) {K : dp_K} {ys : Nat → MethodName} {wss : Nat → List Cond} (hK : dp_Kok cl X.1.2.2.2 own Ts ys wss K) {CT : List ab_C} (hCT : ∀ e ∈ CT, ab_ok cl X.1 ys wss G e) (hfr : M.2.2.2.1 ≤ rm.frames) (hlo : 32 * M.2.2.2.1 ≤ rm.locals) (hN : G.2.length ≤ N) (hSz : sm_sl G.2 ≤ Sz) {ad : Nat → Nat} {μ0 : sm_M} {S : Nat → Int} {pc len : Nat} (i : Fin 4) (d : decode cc pc = .ok ((.astore_n i), len)) {A : ab_L} {st : List ab_V} {l : List ab_T} (h : ab_st K G M CT pc A st (.astore_n i) len = some l) (k : ∀ a ∈ l, ab_J cl X G M ad μ0 S a) : ab_J cl X G M ad μ0 S (pc, A, st) := by
  obtain ⟨hl, hu1⟩ := dp_g_ok h
  clear h
  have hl := dp_beq hl
  subst hl
  obtain ⟨p, r, rfl, hu2⟩ := ab_1r_ok hu1
  clear hu1
  obtain ⟨h1, hu3⟩ := dp_g_ok hu2
  clear hu2
  obtain ⟨h2, hu4⟩ := dp_g_ok hu3
  clear hu3
  have h2 := Nat.le_of_ble_eq_true h2
  cases hu4
  intro Lc stc μ gl gs gm gf
  obtain ⟨_, sps, rfl, cp, gps⟩ := ab_sv_cons gs
  clear gs
  have ep := ab_v_ref cp
  subst ep
  exact sm_astoreN hX d (ab_ah_ok gl h1) (by omega) (k _ List.mem_cons_self _ _ μ (ab_lv_set (a := .inr (.inl p)) gl (by omega) rfl) (ab_cl_ok (fun q hq m hm => by rw [List.getElem?_set_ne (Ne.symm hq)]; exact hm) gps) gm gf)
theorem ab_st_lstore_n {cl : List vw_C} {X : sm_X} {cc : ByteArray} {own : String} {Ts : List Cond} {rm : Room} {N Sz : Nat} {ini : Bool} {M : ab_M} (hX : sm_ok cl X cc M.1 own Ts M.2.1 rm N Sz ini) {G : ab_G} (hG : ab_Gok G) {K : dp_K} {ys : Nat → MethodName} {wss : Nat → List Cond} (hK : dp_Kok cl X.1.2.2.2 own Ts ys wss K) {CT : List ab_C} (hCT : ∀ e ∈ CT, ab_ok cl X.1 ys wss G e) (hfr : M.2.2.2.1 ≤ rm.frames) (hlo : 32 * M.2.2.2.1 ≤ rm.locals) (hN : G.2.length ≤ N) (hSz : sm_sl G.2 ≤ Sz) {ad : Nat → Nat} {μ0 : sm_M} {S : Nat → Int} {pc len : Nat} (i : Fin 4) (d : decode cc pc = .ok ((.lstore_n i), len)) {A : ab_L} {st : List ab_V} {l : List ab_T} (h : ab_st K G M CT pc A st (.lstore_n i) len = some l) (k : ∀ a ∈ l, ab_J cl X G M ad μ0 S a) : ab_J cl X G M ad μ0 S (pc, A, st) := by
  obtain ⟨hl, hu1⟩ := dp_g_ok h
  clear h
  have hl := dp_beq hl
  subst hl
  obtain ⟨x, r, rfl, hu2⟩ := ab_1l_ok hu1
  clear hu1
  obtain ⟨h1, hu3⟩ := dp_g_ok hu2
  clear hu2
  obtain ⟨h2, hu4⟩ := dp_g_ok hu3
  clear hu3
  have h2 := Nat.le_of_ble_eq_true h2
  cases hu4
  intro Lc stc μ gl gs gm gf
  obtain ⟨_, sxs, rfl, cx, gxs⟩ := ab_sv_cons gs
  clear gs
  obtain ⟨nx, rfl⟩ := ab_v_long cx
  exact sm_lstoreN hX d (ab_ah_ok gl h1) (by omega) (k _ List.mem_cons_self _ _ μ (ab_lv_none (ab_lv_set (a := .inr (.inr ())) gl (by omega) trivial)) (ab_cl_ok (fun q hq m hm => by rw [List.getElem?_set_ne (Ne.symm hq)]; exact hm) (ab_cl_ok (fun q hq m hm => by rw [List.getElem?_set_ne (Ne.symm hq)]; exact hm) gxs)) gm gf)
theorem ab_st_iinc {cl : List vw_C} {X : sm_X} {cc : ByteArray} {own : String} {Ts : List Cond} {rm : Room} {N Sz : Nat} {ini : Bool} {M : ab_M} (hX : sm_ok cl X cc M.1 own Ts M.2.1 rm N Sz ini) {G : ab_G} (hG : ab_Gok G) {K : dp_K} {ys : Nat → MethodName} {wss : Nat → List Cond} (hK : dp_Kok cl X.1.2.2.2 own Ts ys wss K) {CT : List ab_C} (hCT : ∀ e ∈ CT, ab_ok cl X.1 ys wss G e) (hfr : M.2.2.2.1 ≤ rm.frames) (hlo : 32 * M.2.2.2.1 ≤ rm.locals) (hN : G.2.length ≤ N) (hSz : sm_sl G.2 ≤ Sz) {ad : Nat → Nat} {μ0 : sm_M} {S : Nat → Int} {pc len : Nat} (i : Nat) (z : Int) (d : decode cc pc = .ok ((.iinc i z), len)) {A : ab_L} {st : List ab_V} {l : List ab_T} (h : ab_st K G M CT pc A st (.iinc i z) len = some l) (k : ∀ a ∈ l, ab_J cl X G M ad μ0 S a) : ab_J cl X G M ad μ0 S (pc, A, st) := by
  obtain ⟨hl, hu1⟩ := dp_g_ok h
  clear h
  have hl := dp_beq hl
  subst hl
  split at hu1
  · rename_i x hx
    obtain ⟨h1, ha⟩ := dp_g_ok hu1
    obtain ⟨h2, hb⟩ := dp_g_ok ha
    have h2 := Nat.le_of_ble_eq_true h2
    cases hb
    intro Lc stc μ gl gs gm gf
    obtain ⟨v, hv, hav⟩ := gl.2.2.1 _ _ hx
    obtain ⟨n, rfl, i1⟩ := ab_v_int hav
    have i2 := ab_add_ok (S := S) (Lc := []) i1 (ab_i_c (S := S) (Lc := []) (Int32.ofInt z))
    exact sm_iincG hX d hv (ab_ah_ok gl h1) (by omega) (k _ List.mem_cons_self _ _ μ (ab_lv_set gl (by omega) (ab_no_any (a := .inl _) i2)) (ab_cl_ok (fun q hq m hm => by rw [List.getElem?_set_ne (Ne.symm hq)]; exact hm) gs) gm gf)
  · cases hu1
theorem ab_st_goto {cl : List vw_C} {X : sm_X} {cc : ByteArray} {own : String} {Ts : List Cond} {rm : Room} {N Sz : Nat} {ini : Bool} {M : ab_M} (hX : sm_ok cl X cc M.1 own Ts M.2.1 rm N Sz ini) {G : ab_G} (hG : ab_Gok G) {K : dp_K} {ys : Nat → MethodName} {wss : Nat → List Cond} (hK : dp_Kok cl X.1.2.2.2 own Ts ys wss K) {CT : List ab_C} (hCT : ∀ e ∈ CT, ab_ok cl X.1 ys wss G e) (hfr : M.2.2.2.1 ≤ rm.frames) (hlo : 32 * M.2.2.2.1 ≤ rm.locals) (hN : G.2.length ≤ N) (hSz : sm_sl G.2 ≤ Sz) {ad : Nat → Nat} {μ0 : sm_M} {S : Nat → Int} {pc len : Nat} (off : Int) (d : decode cc pc = .ok ((.goto off), len)) {A : ab_L} {st : List ab_V} {l : List ab_T} (h : ab_st K G M CT pc A st (.goto off) len = some l) (k : ∀ a ∈ l, ab_J cl X G M ad μ0 S a) : ab_J cl X G M ad μ0 S (pc, A, st) := by
  obtain ⟨hl, hu1⟩ := dp_g_ok h
  clear h
  have hl := dp_beq hl
  subst hl
  obtain ⟨tg, ht, hu2⟩ := dp_tg_ok hu1
  clear hu1
  cases hu2
  intro Lc stc μ gl gs gm gf
  exact sm_goto hX tg d ht (k _ List.mem_cons_self Lc _ μ gl gs gm gf)
theorem ab_st_ifCond {cl : List vw_C} {X : sm_X} {cc : ByteArray} {own : String} {Ts : List Cond} {rm : Room} {N Sz : Nat} {ini : Bool} {M : ab_M} (hX : sm_ok cl X cc M.1 own Ts M.2.1 rm N Sz ini) {G : ab_G} (hG : ab_Gok G) {K : dp_K} {ys : Nat → MethodName} {wss : Nat → List Cond} (hK : dp_Kok cl X.1.2.2.2 own Ts ys wss K) {CT : List ab_C} (hCT : ∀ e ∈ CT, ab_ok cl X.1 ys wss G e) (hfr : M.2.2.2.1 ≤ rm.frames) (hlo : 32 * M.2.2.2.1 ≤ rm.locals) (hN : G.2.length ≤ N) (hSz : sm_sl G.2 ≤ Sz) {ad : Nat → Nat} {μ0 : sm_M} {S : Nat → Int} {pc len : Nat} (cn : Jvm.ClassFile.Cond) (off : Int) (d : decode cc pc = .ok ((.ifCond cn off), len)) {A : ab_L} {st : List ab_V} {l : List ab_T} (h : ab_st K G M CT pc A st (.ifCond cn off) len = some l) (k : ∀ a ∈ l, ab_J cl X G M ad μ0 S a) : ab_J cl X G M ad μ0 S (pc, A, st) := by
  obtain ⟨hl, hu1⟩ := dp_g_ok h
  clear h
  have hl := dp_beq hl
  subst hl
  obtain ⟨x, r, rfl, hu2⟩ := ab_1i_ok hu1
  clear hu1
  obtain ⟨tg, ht, hu3⟩ := dp_tg_ok hu2
  clear hu2
  intro Lc stc μ gl gs gm gf
  obtain ⟨_, sxs, rfl, cx, gxs⟩ := ab_sv_cons gs
  clear gs
  obtain ⟨nx, rfl, ix⟩ := ab_v_int cx
  have iy : ab_i S Lc (ab_c 0) 0 := ab_i_mk (by decide) (by decide)
  have hh := (Option.some.inj hu3).symm
  subst hh
  have yes : dp_c2 cn nx 0 = true → sm_E cl X tg Lc sxs ad G.2 μ := fun hc => by
    obtain ⟨z, e, z1, z2, z3, z4⟩ := ab_cmp_ok cn ix iy hc
    refine k (tg, ab_up A z.1, r) (List.mem_append_left _ ?_) Lc sxs μ (ab_up_ok gl z1) gxs gm gf
    rw [e]
    exact List.mem_cons_self
  have no : dp_c2 cn nx 0 = false → sm_E cl X (pc + 3) Lc sxs ad G.2 μ := fun hc => by
    obtain ⟨z, e, z1, z2, z3, z4⟩ := ab_cmp_ok (ab_neg cn) ix iy (ab_neg_ok hc)
    refine k (pc + 3, ab_up A z.1, r) (List.mem_append_right _ ?_) Lc sxs μ (ab_up_ok gl z1) gxs gm gf
    rw [e]
    exact List.mem_cons_self
  cases cn with
  | eq => exact sm_if_eq hX tg d ht (fun q => yes (decide_eq_true q)) (fun q => no (decide_eq_false q))
  | ne => exact sm_if_ne hX tg d ht (fun q => yes (by show (!decide _) = true; rw [decide_eq_false q]; rfl)) (fun q => no (by show (!decide _) = false; rw [decide_eq_true q]; rfl))
  | lt => exact sm_if_lt hX tg d ht (fun q => yes (decide_eq_true q)) (fun q => no (decide_eq_false q))
  | ge => exact sm_if_ge hX tg d ht (fun q => yes (decide_eq_true q)) (fun q => no (decide_eq_false q))
  | gt => exact sm_if_gt hX tg d ht (fun q => yes (decide_eq_true q)) (fun q => no (decide_eq_false q))
  | le => exact sm_if_le hX tg d ht (fun q => yes (decide_eq_true q)) (fun q => no (decide_eq_false q))
theorem ab_st_if_icmp {cl : List vw_C} {X : sm_X} {cc : ByteArray} {own : String} {Ts : List Cond} {rm : Room} {N Sz : Nat} {ini : Bool} {M : ab_M} (hX : sm_ok cl X cc M.1 own Ts M.2.1 rm N Sz ini) {G : ab_G} (hG : ab_Gok G) {K : dp_K} {ys : Nat → MethodName} {wss : Nat → List Cond} (hK : dp_Kok cl X.1.2.2.2 own Ts ys wss K) {CT : List ab_C} (hCT : ∀ e ∈ CT, ab_ok cl X.1 ys wss G e) (hfr : M.2.2.2.1 ≤ rm.frames) (hlo : 32 * M.2.2.2.1 ≤ rm.locals) (hN : G.2.length ≤ N) (hSz : sm_sl G.2 ≤ Sz) {ad : Nat → Nat} {μ0 : sm_M} {S : Nat → Int} {pc len : Nat} (cn : Jvm.ClassFile.Cond) (off : Int) (d : decode cc pc = .ok ((.if_icmp cn off), len)) {A : ab_L} {st : List ab_V} {l : List ab_T} (h : ab_st K G M CT pc A st (.if_icmp cn off) len = some l) (k : ∀ a ∈ l, ab_J cl X G M ad μ0 S a) : ab_J cl X G M ad μ0 S (pc, A, st) := by
  obtain ⟨hl, hu1⟩ := dp_g_ok h
  clear h
  have hl := dp_beq hl
  subst hl
  obtain ⟨y, r, rfl, hu2⟩ := ab_1i_ok hu1
  clear hu1
  obtain ⟨x, r, rfl, hu3⟩ := ab_1i_ok hu2
  clear hu2
  obtain ⟨tg, ht, hu4⟩ := dp_tg_ok hu3
  clear hu3
  intro Lc stc μ gl gs gm gf
  obtain ⟨_, sys, rfl, cy, gys⟩ := ab_sv_cons gs
  clear gs
  obtain ⟨ny, rfl, iy⟩ := ab_v_int cy
  obtain ⟨_, sxs, rfl, cx, gxs⟩ := ab_sv_cons gys
  clear gys
  obtain ⟨nx, rfl, ix⟩ := ab_v_int cx
  have hh := (Option.some.inj hu4).symm
  subst hh
  have yes : dp_c2 cn nx ny = true → sm_E cl X tg Lc sxs ad G.2 μ := fun hc => by
    obtain ⟨z, e, z1, z2, z3, z4⟩ := ab_cmp_ok cn ix iy hc
    refine k (tg, ab_up (ab_up A z.1) z.2, r) (List.mem_append_left _ ?_) Lc sxs μ (ab_up_ok (ab_up_ok gl z1) z2) gxs gm gf
    rw [e]
    exact List.mem_cons_self
  have no : dp_c2 cn nx ny = false → sm_E cl X (pc + 3) Lc sxs ad G.2 μ := fun hc => by
    obtain ⟨z, e, z1, z2, z3, z4⟩ := ab_cmp_ok (ab_neg cn) ix iy (ab_neg_ok hc)
    refine k (pc + 3, ab_up (ab_up A z.1) z.2, r) (List.mem_append_right _ ?_) Lc sxs μ (ab_up_ok (ab_up_ok gl z1) z2) gxs gm gf
    rw [e]
    exact List.mem_cons_self
  cases cn with
  | eq => exact sm_icmp_eq hX tg d ht (fun q => yes (decide_eq_true q)) (fun q => no (decide_eq_false q))
  | ne => exact sm_icmp_ne hX tg d ht (fun q => yes (by show (!decide _) = true; rw [decide_eq_false q]; rfl)) (fun q => no (by show (!decide _) = false; rw [decide_eq_true q]; rfl))
  | lt => exact sm_icmp_lt hX tg d ht (fun q => yes (decide_eq_true q)) (fun q => no (decide_eq_false q))
  | ge => exact sm_icmp_ge hX tg d ht (fun q => yes (decide_eq_true q)) (fun q => no (decide_eq_false q))
  | gt => exact sm_icmp_gt hX tg d ht (fun q => yes (decide_eq_true q)) (fun q => no (decide_eq_false q))
  | le => exact sm_icmp_le hX tg d ht (fun q => yes (decide_eq_true q)) (fun q => no (decide_eq_false q))
theorem ab_st_getfield {cl : List vw_C} {X : sm_X} {cc : ByteArray} {own : String} {Ts : List Cond} {rm : Room} {N Sz : Nat} {ini : Bool} {M : ab_M} (hX : sm_ok cl X cc M.1 own Ts M.2.1 rm N Sz ini) {G : ab_G} (hG : ab_Gok G) {K : dp_K} {ys : Nat → MethodName} {wss : Nat → List Cond} (hK : dp_Kok cl X.1.2.2.2 own Ts ys wss K) {CT : List ab_C} (hCT : ∀ e ∈ CT, ab_ok cl X.1 ys wss G e) (hfr : M.2.2.2.1 ≤ rm.frames) (hlo : 32 * M.2.2.2.1 ≤ rm.locals) (hN : G.2.length ≤ N) (hSz : sm_sl G.2 ≤ Sz) {ad : Nat → Nat} {μ0 : sm_M} {S : Nat → Int} {pc len : Nat} (i : Nat) (d : decode cc pc = .ok ((.getfield i), len)) {A : ab_L} {st : List ab_V} {l : List ab_T} (h : ab_st K G M CT pc A st (.getfield i) len = some l) (k : ∀ a ∈ l, ab_J cl X G M ad μ0 S a) : ab_J cl X G M ad μ0 S (pc, A, st) := by
  obtain ⟨hl, hu1⟩ := dp_g_ok h
  clear h
  have hl := dp_beq hl
  subst hl
  obtain ⟨p, r, rfl, hu2⟩ := ab_1r_ok hu1
  clear hu1
  obtain ⟨⟨ci, kf, fl⟩, hF, hu3⟩ := dp_o_ok hu2
  clear hu2
  obtain ⟨fs, hs, hu4⟩ := dp_ob_ok hu3
  clear hu3
  obtain ⟨f, hf, hu5⟩ := dp_o_ok hu4
  clear hu4
  obtain ⟨C, T, N', tt, e2, e3, e5, e7, e8, e6, -⟩ := hK.1 _ _ hF
  simp only at e2 e3 e5 e6 hs hf hu5
  intro Lc stc μ gl gs gm gf
  obtain ⟨_, sps, rfl, cp, gps⟩ := ab_sv_cons gs
  clear gs
  have ep := ab_v_ref cp
  subst ep
  have key : ∀ v : Value, (∀ q, f = some (some q) → v = .ref q) → (f = none → v = .int (μ.1 p kf)) → sm_E cl X (pc + 3) Lc (v :: sps) ad G.2 μ := by
    intro v hv1 hv2
    cases f with
    | none =>
      cases hu5
      rw [hv2 rfl]
      exact k _ List.mem_cons_self Lc _ μ gl ⟨ab_i_mk (gm p kf).1 (gm p kf).2, gps⟩ gm gf
    | some f =>
      cases f with
      | none => cases hu5
      | some q =>
        cases hu5
        rw [hv1 q rfl]
        exact k _ List.mem_cons_self Lc _ μ gl ⟨rfl, gps⟩ gm gf
  rcases e6 with e6 | ⟨host, e6⟩
  · exact sm_get hX hs e2 e3 hf e5 e6 d (fun v _ h1 h2 => key v h1 h2)
  · exact sm_getN hX hs e2 e3 hf e5 e6 d (fun v _ h1 h2 => key v h1 h2)
theorem ab_st_putfield {cl : List vw_C} {X : sm_X} {cc : ByteArray} {own : String} {Ts : List Cond} {rm : Room} {N Sz : Nat} {ini : Bool} {M : ab_M} (hX : sm_ok cl X cc M.1 own Ts M.2.1 rm N Sz ini) {G : ab_G} (hG : ab_Gok G) {K : dp_K} {ys : Nat → MethodName} {wss : Nat → List Cond} (hK : dp_Kok cl X.1.2.2.2 own Ts ys wss K) {CT : List ab_C} (hCT : ∀ e ∈ CT, ab_ok cl X.1 ys wss G e) (hfr : M.2.2.2.1 ≤ rm.frames) (hlo : 32 * M.2.2.2.1 ≤ rm.locals) (hN : G.2.length ≤ N) (hSz : sm_sl G.2 ≤ Sz) {ad : Nat → Nat} {μ0 : sm_M} {S : Nat → Int} {pc len : Nat} (i : Nat) (d : decode cc pc = .ok ((.putfield i), len)) {A : ab_L} {st : List ab_V} {l : List ab_T} (h : ab_st K G M CT pc A st (.putfield i) len = some l) (k : ∀ a ∈ l, ab_J cl X G M ad μ0 S a) : ab_J cl X G M ad μ0 S (pc, A, st) := by
  obtain ⟨hl, hu1⟩ := dp_g_ok h
  clear h
  have hl := dp_beq hl
  subst hl
  obtain ⟨x, r, rfl, hu2⟩ := ab_1i_ok hu1
  clear hu1
  obtain ⟨p, r, rfl, hu3⟩ := ab_1r_ok hu2
  clear hu2
  obtain ⟨⟨ci, kf, fl⟩, hF, hu4⟩ := dp_o_ok hu3
  clear hu3
  obtain ⟨fs, hs, hu5⟩ := dp_ob_ok hu4
  clear hu4
  obtain ⟨C, T, N', tt, e2, e3, e5, e7, e8, e6, f0, f1, f2⟩ := hK.1 _ _ hF
  simp only at e2 e3 e5 e6 f0 f1 f2 hs hu5
  intro Lc stc μ gl gs gm gf
  obtain ⟨_, sxs, rfl, cx, gxs⟩ := ab_sv_cons gs
  clear gs
  obtain ⟨nx, rfl, ix⟩ := ab_v_int cx
  obtain ⟨_, sps, rfl, cp, gps⟩ := ab_sv_cons gxs
  clear gxs
  have ep := ab_v_ref cp
  subst ep
  split at hu5
  · rename_i hf
    obtain ⟨hw, ha⟩ := dp_g_ok hu5
    rw [Bool.and_eq_true] at hw
    have wm := ab_w_mem hw.1
    have rg := ab_in_ok hw.2 ix
    have gm' := ab_mu_ui gm rg.1 rg.2
    have gf' := ab_fr_ui (i := kf) (v := nx) gf wm
    have key : ∀ ty : FieldType, sm_fp cl Ts C ci N' kf false ty T → narrow ty (.int nx) = .int nx → fits ty (.int nx) = true → sm_E cl X (pc + 3) Lc sps ad G.2 (sm_ui μ p kf nx) → sm_E cl X pc Lc (.int nx :: .ref p :: sps) ad G.2 μ := by
      intro ty g1 g2 g3 g5
      rcases e6 with e6 | ⟨host, e6⟩
      · exact sm_put hX hs hf g1 e6 g2 g3 d g5
      · exact sm_putN hX hs hf g1 e6 g2 g3 d g5
    split at ha
    · cases ha
      obtain ⟨z1, z2⟩ := f0 rfl
      exact key .int ⟨tt, e2, e3, e5, e7, e8, z1, z2⟩ rfl rfl (k _ List.mem_cons_self Lc _ _ gl gps gm' gf')
    · obtain ⟨hbt, hb⟩ := dp_g_ok ha
      cases hb
      obtain ⟨z1, z2⟩ := f1 rfl
      have bb := ab_bit_ok ix hbt
      refine key .boolean ⟨tt, e2, e3, e5, e7, e8, z1, z2⟩ ?_ ?_ (k _ List.mem_cons_self Lc _ _ gl gps gm' gf')
      · rcases ab_bits bb.1 bb.2 with rfl | rfl <;> rfl
      · rcases ab_bits bb.1 bb.2 with rfl | rfl <;> rfl
    · cases ha
  · cases hu5
theorem ab_st_iaload {cl : List vw_C} {X : sm_X} {cc : ByteArray} {own : String} {Ts : List Cond} {rm : Room} {N Sz : Nat} {ini : Bool} {M : ab_M} (hX : sm_ok cl X cc M.1 own Ts M.2.1 rm N Sz ini) {G : ab_G} (hG : ab_Gok G) {K : dp_K} {ys : Nat → MethodName} {wss : Nat → List Cond} (hK : dp_Kok cl X.1.2.2.2 own Ts ys wss K) {CT : List ab_C} (hCT : ∀ e ∈ CT, ab_ok cl X.1 ys wss G e) (hfr : M.2.2.2.1 ≤ rm.frames) (hlo : 32 * M.2.2.2.1 ≤ rm.locals) (hN : G.2.length ≤ N) (hSz : sm_sl G.2 ≤ Sz) {ad : Nat → Nat} {μ0 : sm_M} {S : Nat → Int} {pc len : Nat}  (d : decode cc pc = .ok (.iaload, len)) {A : ab_L} {st : List ab_V} {l : List ab_T} (h : ab_st K G M CT pc A st .iaload len = some l) (k : ∀ a ∈ l, ab_J cl X G M ad μ0 S a) : ab_J cl X G M ad μ0 S (pc, A, st) := by
  obtain ⟨hl, hu1⟩ := dp_g_ok h
  clear h
  have hl := dp_beq hl
  subst hl
  obtain ⟨i, r, rfl, hu2⟩ := ab_1i_ok hu1
  clear hu1
  obtain ⟨p, r, rfl, hu3⟩ := ab_1r_ok hu2
  clear hu2
  obtain ⟨n, hs, a1, a2, hu4⟩ := ab_ar_ok hu3
  clear hu3
  cases hu4
  intro Lc stc μ gl gs gm gf
  obtain ⟨_, sis, rfl, ci, gis⟩ := ab_sv_cons gs
  clear gs
  obtain ⟨ni, rfl, ii⟩ := ab_v_int ci
  obtain ⟨_, sps, rfl, cp, gps⟩ := ab_sv_cons gis
  clear gis
  have ep := ab_v_ref cp
  subst ep
  have cc0 := ab_clamp (i := ni) (n := n) (Int.le_trans a1 ii.1) (Int.lt_of_le_of_lt ii.2.1 a2)
  exact sm_iald hX hs cc0.1 d (k _ List.mem_cons_self Lc _ μ gl ⟨ab_i_mk (by rw [← hG _ _ _ hs]; exact (gm p _).1) (by rw [← hG _ _ _ hs]; exact (gm p _).2), gps⟩ gm gf)
theorem ab_st_baload {cl : List vw_C} {X : sm_X} {cc : ByteArray} {own : String} {Ts : List Cond} {rm : Room} {N Sz : Nat} {ini : Bool} {M : ab_M} (hX : sm_ok cl X cc M.1 own Ts M.2.1 rm N Sz ini) {G : ab_G} (hG : ab_Gok G) {K : dp_K} {ys : Nat → MethodName} {wss : Nat → List Cond} (hK : dp_Kok cl X.1.2.2.2 own Ts ys wss K) {CT : List ab_C} (hCT : ∀ e ∈ CT, ab_ok cl X.1 ys wss G e) (hfr : M.2.2.2.1 ≤ rm.frames) (hlo : 32 * M.2.2.2.1 ≤ rm.locals) (hN : G.2.length ≤ N) (hSz : sm_sl G.2 ≤ Sz) {ad : Nat → Nat} {μ0 : sm_M} {S : Nat → Int} {pc len : Nat}  (d : decode cc pc = .ok (.baload, len)) {A : ab_L} {st : List ab_V} {l : List ab_T} (h : ab_st K G M CT pc A st .baload len = some l) (k : ∀ a ∈ l, ab_J cl X G M ad μ0 S a) : ab_J cl X G M ad μ0 S (pc, A, st) := by
  obtain ⟨hl, hu1⟩ := dp_g_ok h
  clear h
  have hl := dp_beq hl
  subst hl
  obtain ⟨i, r, rfl, hu2⟩ := ab_1i_ok hu1
  clear hu1
  obtain ⟨p, r, rfl, hu3⟩ := ab_1r_ok hu2
  clear hu2
  obtain ⟨n, hs, a1, a2, hu4⟩ := ab_ar_ok hu3
  clear hu3
  cases hu4
  intro Lc stc μ gl gs gm gf
  obtain ⟨_, sis, rfl, ci, gis⟩ := ab_sv_cons gs
  clear gs
  obtain ⟨ni, rfl, ii⟩ := ab_v_int ci
  obtain ⟨_, sps, rfl, cp, gps⟩ := ab_sv_cons gis
  clear gis
  have ep := ab_v_ref cp
  subst ep
  have cc0 := ab_clamp (i := ni) (n := n) (Int.le_trans a1 ii.1) (Int.lt_of_le_of_lt ii.2.1 a2)
  exact sm_zald hX hs cc0.1 d (k _ List.mem_cons_self Lc _ μ gl ⟨ab_i_mk (by rw [← hG _ _ _ hs]; exact (gm p _).1) (by rw [← hG _ _ _ hs]; exact (gm p _).2), gps⟩ gm gf)
theorem ab_st_laload {cl : List vw_C} {X : sm_X} {cc : ByteArray} {own : String} {Ts : List Cond} {rm : Room} {N Sz : Nat} {ini : Bool} {M : ab_M} (hX : sm_ok cl X cc M.1 own Ts M.2.1 rm N Sz ini) {G : ab_G} (hG : ab_Gok G) {K : dp_K} {ys : Nat → MethodName} {wss : Nat → List Cond} (hK : dp_Kok cl X.1.2.2.2 own Ts ys wss K) {CT : List ab_C} (hCT : ∀ e ∈ CT, ab_ok cl X.1 ys wss G e) (hfr : M.2.2.2.1 ≤ rm.frames) (hlo : 32 * M.2.2.2.1 ≤ rm.locals) (hN : G.2.length ≤ N) (hSz : sm_sl G.2 ≤ Sz) {ad : Nat → Nat} {μ0 : sm_M} {S : Nat → Int} {pc len : Nat}  (d : decode cc pc = .ok (.laload, len)) {A : ab_L} {st : List ab_V} {l : List ab_T} (h : ab_st K G M CT pc A st .laload len = some l) (k : ∀ a ∈ l, ab_J cl X G M ad μ0 S a) : ab_J cl X G M ad μ0 S (pc, A, st) := by
  obtain ⟨hl, hu1⟩ := dp_g_ok h
  clear h
  have hl := dp_beq hl
  subst hl
  obtain ⟨i, r, rfl, hu2⟩ := ab_1i_ok hu1
  clear hu1
  obtain ⟨p, r, rfl, hu3⟩ := ab_1r_ok hu2
  clear hu2
  obtain ⟨n, hs, a1, a2, hu4⟩ := ab_ar_ok hu3
  clear hu3
  cases hu4
  intro Lc stc μ gl gs gm gf
  obtain ⟨_, sis, rfl, ci, gis⟩ := ab_sv_cons gs
  clear gs
  obtain ⟨ni, rfl, ii⟩ := ab_v_int ci
  obtain ⟨_, sps, rfl, cp, gps⟩ := ab_sv_cons gis
  clear gis
  have ep := ab_v_ref cp
  subst ep
  have cc0 := ab_clamp (i := ni) (n := n) (Int.le_trans a1 ii.1) (Int.lt_of_le_of_lt ii.2.1 a2)
  exact sm_lald hX hs cc0.1 d (k _ List.mem_cons_self Lc _ μ gl ⟨trivial, gps⟩ gm gf)
theorem ab_st_iastore {cl : List vw_C} {X : sm_X} {cc : ByteArray} {own : String} {Ts : List Cond} {rm : Room} {N Sz : Nat} {ini : Bool} {M : ab_M} (hX : sm_ok cl X cc M.1 own Ts M.2.1 rm N Sz ini) {G : ab_G} (hG : ab_Gok G) {K : dp_K} {ys : Nat → MethodName} {wss : Nat → List Cond} (hK : dp_Kok cl X.1.2.2.2 own Ts ys wss K) {CT : List ab_C} (hCT : ∀ e ∈ CT, ab_ok cl X.1 ys wss G e) (hfr : M.2.2.2.1 ≤ rm.frames) (hlo : 32 * M.2.2.2.1 ≤ rm.locals) (hN : G.2.length ≤ N) (hSz : sm_sl G.2 ≤ Sz) {ad : Nat → Nat} {μ0 : sm_M} {S : Nat → Int} {pc len : Nat}  (d : decode cc pc = .ok (.iastore, len)) {A : ab_L} {st : List ab_V} {l : List ab_T} (h : ab_st K G M CT pc A st .iastore len = some l) (k : ∀ a ∈ l, ab_J cl X G M ad μ0 S a) : ab_J cl X G M ad μ0 S (pc, A, st) := by
  obtain ⟨hl, hu1⟩ := dp_g_ok h
  clear h
  have hl := dp_beq hl
  subst hl
  obtain ⟨x, r, rfl, hu2⟩ := ab_1i_ok hu1
  clear hu1
  obtain ⟨i, r, rfl, hu3⟩ := ab_1i_ok hu2
  clear hu2
  obtain ⟨p, r, rfl, hu4⟩ := ab_1r_ok hu3
  clear hu3
  obtain ⟨n, hs, a1, a2, hu5⟩ := ab_ar_ok hu4
  clear hu4
  obtain ⟨hw, hu6⟩ := dp_g_ok hu5
  clear hu5
  cases hu6
  intro Lc stc μ gl gs gm gf
  obtain ⟨_, sxs, rfl, cx, gxs⟩ := ab_sv_cons gs
  clear gs
  obtain ⟨nx, rfl, ix⟩ := ab_v_int cx
  obtain ⟨_, sis, rfl, ci, gis⟩ := ab_sv_cons gxs
  clear gxs
  obtain ⟨ni, rfl, ii⟩ := ab_v_int ci
  obtain ⟨_, sps, rfl, cp, gps⟩ := ab_sv_cons gis
  clear gis
  have ep := ab_v_ref cp
  subst ep
  rw [Bool.and_eq_true] at hw
  have wm := ab_w_mem hw.1
  have rg := ab_in_ok hw.2 ix
  have cc0 := ab_clamp (i := ni) (n := n) (Int.le_trans a1 ii.1) (Int.lt_of_le_of_lt ii.2.1 a2)
  exact sm_iast hX hs cc0.1 d (k _ List.mem_cons_self Lc _ _ gl gps (ab_mu_ui gm (by rw [hG _ _ _ hs]; exact rg.1) (by rw [hG _ _ _ hs]; exact rg.2)) (ab_fr_ui gf wm))
theorem ab_st_bastore {cl : List vw_C} {X : sm_X} {cc : ByteArray} {own : String} {Ts : List Cond} {rm : Room} {N Sz : Nat} {ini : Bool} {M : ab_M} (hX : sm_ok cl X cc M.1 own Ts M.2.1 rm N Sz ini) {G : ab_G} (hG : ab_Gok G) {K : dp_K} {ys : Nat → MethodName} {wss : Nat → List Cond} (hK : dp_Kok cl X.1.2.2.2 own Ts ys wss K) {CT : List ab_C} (hCT : ∀ e ∈ CT, ab_ok cl X.1 ys wss G e) (hfr : M.2.2.2.1 ≤ rm.frames) (hlo : 32 * M.2.2.2.1 ≤ rm.locals) (hN : G.2.length ≤ N) (hSz : sm_sl G.2 ≤ Sz) {ad : Nat → Nat} {μ0 : sm_M} {S : Nat → Int} {pc len : Nat}  (d : decode cc pc = .ok (.bastore, len)) {A : ab_L} {st : List ab_V} {l : List ab_T} (h : ab_st K G M CT pc A st .bastore len = some l) (k : ∀ a ∈ l, ab_J cl X G M ad μ0 S a) : ab_J cl X G M ad μ0 S (pc, A, st) := by
  obtain ⟨hl, hu1⟩ := dp_g_ok h
  clear h
  have hl := dp_beq hl
  subst hl
  obtain ⟨x, r, rfl, hu2⟩ := ab_1i_ok hu1
  clear hu1
  obtain ⟨i, r, rfl, hu3⟩ := ab_1i_ok hu2
  clear hu2
  obtain ⟨p, r, rfl, hu4⟩ := ab_1r_ok hu3
  clear hu3
  obtain ⟨n, hs, a1, a2, hu5⟩ := ab_ar_ok hu4
  clear hu4
  obtain ⟨hw, hu6⟩ := dp_g_ok hu5
  clear hu5
  cases hu6
  intro Lc stc μ gl gs gm gf
  obtain ⟨_, sxs, rfl, cx, gxs⟩ := ab_sv_cons gs
  clear gs
  obtain ⟨nx, rfl, ix⟩ := ab_v_int cx
  obtain ⟨_, sis, rfl, ci, gis⟩ := ab_sv_cons gxs
  clear gxs
  obtain ⟨ni, rfl, ii⟩ := ab_v_int ci
  obtain ⟨_, sps, rfl, cp, gps⟩ := ab_sv_cons gis
  clear gis
  have ep := ab_v_ref cp
  subst ep
  rw [Bool.and_eq_true, Bool.and_eq_true] at hw
  have wm := ab_w_mem hw.1
  have bb := ab_bit_ok ix hw.2.1
  have rg := ab_in_ok hw.2.2 ix
  have en : vp_nar .boolean nx = nx := by rcases ab_bits bb.1 bb.2 with rfl | rfl <;> rfl
  have cc0 := ab_clamp (i := ni) (n := n) (Int.le_trans a1 ii.1) (Int.lt_of_le_of_lt ii.2.1 a2)
  refine sm_zast hX hs cc0.1 d ?_
  rw [en]
  exact k _ List.mem_cons_self Lc _ _ gl gps (ab_mu_ui gm (by rw [hG _ _ _ hs]; exact rg.1) (by rw [hG _ _ _ hs]; exact rg.2)) (ab_fr_ui gf wm)
theorem ab_st_lastore {cl : List vw_C} {X : sm_X} {cc : ByteArray} {own : String} {Ts : List Cond} {rm : Room} {N Sz : Nat} {ini : Bool} {M : ab_M} (hX : sm_ok cl X cc M.1 own Ts M.2.1 rm N Sz ini) {G : ab_G} (hG : ab_Gok G) {K : dp_K} {ys : Nat → MethodName} {wss : Nat → List Cond} (hK : dp_Kok cl X.1.2.2.2 own Ts ys wss K) {CT : List ab_C} (hCT : ∀ e ∈ CT, ab_ok cl X.1 ys wss G e) (hfr : M.2.2.2.1 ≤ rm.frames) (hlo : 32 * M.2.2.2.1 ≤ rm.locals) (hN : G.2.length ≤ N) (hSz : sm_sl G.2 ≤ Sz) {ad : Nat → Nat} {μ0 : sm_M} {S : Nat → Int} {pc len : Nat}  (d : decode cc pc = .ok (.lastore, len)) {A : ab_L} {st : List ab_V} {l : List ab_T} (h : ab_st K G M CT pc A st .lastore len = some l) (k : ∀ a ∈ l, ab_J cl X G M ad μ0 S a) : ab_J cl X G M ad μ0 S (pc, A, st) := by
  obtain ⟨hl, hu1⟩ := dp_g_ok h
  clear h
  have hl := dp_beq hl
  subst hl
  obtain ⟨x, r, rfl, hu2⟩ := ab_1l_ok hu1
  clear hu1
  obtain ⟨i, r, rfl, hu3⟩ := ab_1i_ok hu2
  clear hu2
  obtain ⟨p, r, rfl, hu4⟩ := ab_1r_ok hu3
  clear hu3
  obtain ⟨n, hs, a1, a2, hu5⟩ := ab_ar_ok hu4
  clear hu4
  obtain ⟨hw, hu6⟩ := dp_g_ok hu5
  clear hu5
  cases hu6
  intro Lc stc μ gl gs gm gf
  obtain ⟨_, sxs, rfl, cx, gxs⟩ := ab_sv_cons gs
  clear gs
  obtain ⟨nx, rfl⟩ := ab_v_long cx
  obtain ⟨_, sis, rfl, ci, gis⟩ := ab_sv_cons gxs
  clear gxs
  obtain ⟨ni, rfl, ii⟩ := ab_v_int ci
  obtain ⟨_, sps, rfl, cp, gps⟩ := ab_sv_cons gis
  clear gis
  have ep := ab_v_ref cp
  subst ep
  have wm := ab_w_mem hw
  have cc0 := ab_clamp (i := ni) (n := n) (Int.le_trans a1 ii.1) (Int.lt_of_le_of_lt ii.2.1 a2)
  exact sm_last hX hs cc0.1 d (k _ List.mem_cons_self Lc _ _ gl gps gm (ab_fr_ul gf wm))
theorem ab_st_arraylength {cl : List vw_C} {X : sm_X} {cc : ByteArray} {own : String} {Ts : List Cond} {rm : Room} {N Sz : Nat} {ini : Bool} {M : ab_M} (hX : sm_ok cl X cc M.1 own Ts M.2.1 rm N Sz ini) {G : ab_G} (hG : ab_Gok G) {K : dp_K} {ys : Nat → MethodName} {wss : Nat → List Cond} (hK : dp_Kok cl X.1.2.2.2 own Ts ys wss K) {CT : List ab_C} (hCT : ∀ e ∈ CT, ab_ok cl X.1 ys wss G e) (hfr : M.2.2.2.1 ≤ rm.frames) (hlo : 32 * M.2.2.2.1 ≤ rm.locals) (hN : G.2.length ≤ N) (hSz : sm_sl G.2 ≤ Sz) {ad : Nat → Nat} {μ0 : sm_M} {S : Nat → Int} {pc len : Nat}  (d : decode cc pc = .ok (.arraylength, len)) {A : ab_L} {st : List ab_V} {l : List ab_T} (h : ab_st K G M CT pc A st .arraylength len = some l) (k : ∀ a ∈ l, ab_J cl X G M ad μ0 S a) : ab_J cl X G M ad μ0 S (pc, A, st) := by
  obtain ⟨hl, hu1⟩ := dp_g_ok h
  clear h
  have hl := dp_beq hl
  subst hl
  obtain ⟨p, r, rfl, hu2⟩ := ab_1r_ok hu1
  clear hu1
  split at hu2
  · rename_i c0 n hs
    obtain ⟨h1, ha⟩ := dp_g_ok hu2
    cases ha
    rw [Bool.and_eq_true] at h1
    have q1 := Nat.le_of_ble_eq_true h1.1
    have q2 := Nat.le_of_ble_eq_true h1.2
    intro Lc stc μ gl gs gm gf
    obtain ⟨_, sps, rfl, cp, gps⟩ := ab_sv_cons gs
    clear gs
    have ep := ab_v_ref cp
    subst ep
    have en : (Int32.ofNat n).toInt = (n : Int) := nI_toInt (n := n) (by omega)
    exact sm_alen hX hs (by omega) d (k _ List.mem_cons_self Lc _ μ gl ⟨ab_i_mk (by rw [en]; exact Int.le_refl _) (by rw [en]; exact Int.le_refl _), gps⟩ gm gf)
  · cases hu2
theorem ab_st_invokestatic {cl : List vw_C} {X : sm_X} {cc : ByteArray} {own : String} {Ts : List Cond} {rm : Room} {N Sz : Nat} {ini : Bool} {M : ab_M} (hX : sm_ok cl X cc M.1 own Ts M.2.1 rm N Sz ini) {G : ab_G} (hG : ab_Gok G) {K : dp_K} {ys : Nat → MethodName} {wss : Nat → List Cond} (hK : dp_Kok cl X.1.2.2.2 own Ts ys wss K) {CT : List ab_C} (hCT : ∀ e ∈ CT, ab_ok cl X.1 ys wss G e) (hfr : M.2.2.2.1 ≤ rm.frames) (hlo : 32 * M.2.2.2.1 ≤ rm.locals) (hN : G.2.length ≤ N) (hSz : sm_sl G.2 ≤ Sz) {ad : Nat → Nat} {μ0 : sm_M} {S : Nat → Int} {pc len : Nat} (i : Nat) (d : decode cc pc = .ok ((.invokestatic i), len)) {A : ab_L} {st : List ab_V} {l : List ab_T} (h : ab_st K G M CT pc A st (.invokestatic i) len = some l) (k : ∀ a ∈ l, ab_J cl X G M ad μ0 S a) : ab_J cl X G M ad μ0 S (pc, A, st) := by
  obtain ⟨hl, hu1⟩ := dp_g_ok h
  clear h
  have hl := dp_beq hl
  subst hl
  obtain ⟨C, hC, hu2⟩ := dp_o_ok hu1
  clear hu1
  exact ab_call_ok hX hG hK hCT hfr hlo hN hSz (hK.2.2.2.1 _ _ hC cc) d hu2 k
theorem ab_st_invokevirtual {cl : List vw_C} {X : sm_X} {cc : ByteArray} {own : String} {Ts : List Cond} {rm : Room} {N Sz : Nat} {ini : Bool} {M : ab_M} (hX : sm_ok cl X cc M.1 own Ts M.2.1 rm N Sz ini) {G : ab_G} (hG : ab_Gok G) {K : dp_K} {ys : Nat → MethodName} {wss : Nat → List Cond} (hK : dp_Kok cl X.1.2.2.2 own Ts ys wss K) {CT : List ab_C} (hCT : ∀ e ∈ CT, ab_ok cl X.1 ys wss G e) (hfr : M.2.2.2.1 ≤ rm.frames) (hlo : 32 * M.2.2.2.1 ≤ rm.locals) (hN : G.2.length ≤ N) (hSz : sm_sl G.2 ≤ Sz) {ad : Nat → Nat} {μ0 : sm_M} {S : Nat → Int} {pc len : Nat} (i : Nat) (d : decode cc pc = .ok ((.invokevirtual i), len)) {A : ab_L} {st : List ab_V} {l : List ab_T} (h : ab_st K G M CT pc A st (.invokevirtual i) len = some l) (k : ∀ a ∈ l, ab_J cl X G M ad μ0 S a) : ab_J cl X G M ad μ0 S (pc, A, st) := by
  obtain ⟨hl, hu1⟩ := dp_g_ok h
  clear h
  have hl := dp_beq hl
  subst hl
  obtain ⟨C, hC, hu2⟩ := dp_o_ok hu1
  clear hu1
  exact ab_call_ok hX hG hK hCT hfr hlo hN hSz (hK.2.2.2.2.1 _ _ hC cc) d hu2 k
theorem ab_st_ok {cl : List vw_C} {X : sm_X} {cc : ByteArray} {own : String} {Ts : List Cond} {rm : Room} {N Sz : Nat} {ini : Bool} {M : ab_M} (hX : sm_ok cl X cc M.1 own Ts M.2.1 rm N Sz ini) {G : ab_G} (hG : ab_Gok G) {K : dp_K} {ys : Nat → MethodName} {wss : Nat → List Cond} (hK : dp_Kok cl X.1.2.2.2 own Ts ys wss K) {CT : List ab_C} (hCT : ∀ e ∈ CT, ab_ok cl X.1 ys wss G e) (hfr : M.2.2.2.1 ≤ rm.frames) (hlo : 32 * M.2.2.2.1 ≤ rm.locals) (hN : G.2.length ≤ N) (hSz : sm_sl G.2 ≤ Sz) {ad : Nat → Nat} {μ0 : sm_M} {S : Nat → Int} {pc len : Nat} {ins : Instr} (d : decode cc pc = .ok (ins, len)) {A : ab_L} {st : List ab_V} {l : List ab_T} (h : ab_st K G M CT pc A st ins len = some l) (k : ∀ a ∈ l, ab_J cl X G M ad μ0 S a) : ab_J cl X G M ad μ0 S (pc, A, st) := by
  cases ins with
  | iadd => exact ab_st_iadd hX hG hK hCT hfr hlo hN hSz  d h k
  | isub => exact ab_st_isub hX hG hK hCT hfr hlo hN hSz  d h k
  | imul => exact ab_st_imul hX hG hK hCT hfr hlo hN hSz  d h k
  | iand => exact ab_st_iand hX hG hK hCT hfr hlo hN hSz  d h k
  | ior => exact ab_st_ior hX hG hK hCT hfr hlo hN hSz  d h k
  | ishr => exact ab_st_ishr hX hG hK hCT hfr hlo hN hSz  d h k
  | ixor => exact ab_st_ixor hX hG hK hCT hfr hlo hN hSz  d h k
  | ishl => exact ab_st_ishl hX hG hK hCT hfr hlo hN hSz  d h k
  | iushr => exact ab_st_iushr hX hG hK hCT hfr hlo hN hSz  d h k
  | idiv => exact ab_st_idiv hX hG hK hCT hfr hlo hN hSz  d h k
  | irem => exact ab_st_irem hX hG hK hCT hfr hlo hN hSz  d h k
  | ineg => exact ab_st_ineg hX hG hK hCT hfr hlo hN hSz  d h k
  | land => exact ab_st_land hX hG hK hCT hfr hlo hN hSz  d h k
  | lor => exact ab_st_lor hX hG hK hCT hfr hlo hN hSz  d h k
  | lxor => exact ab_st_lxor hX hG hK hCT hfr hlo hN hSz  d h k
  | ladd => exact ab_st_ladd hX hG hK hCT hfr hlo hN hSz  d h k
  | lsub => exact ab_st_lsub hX hG hK hCT hfr hlo hN hSz  d h k
  | lshl => exact ab_st_lshl hX hG hK hCT hfr hlo hN hSz  d h k
  | lshr => exact ab_st_lshr hX hG hK hCT hfr hlo hN hSz  d h k
  | lushr => exact ab_st_lushr hX hG hK hCT hfr hlo hN hSz  d h k
  | lcmp => exact ab_st_lcmp hX hG hK hCT hfr hlo hN hSz  d h k
  | i2l => exact ab_st_i2l hX hG hK hCT hfr hlo hN hSz  d h k
  | l2i => exact ab_st_l2i hX hG hK hCT hfr hlo hN hSz  d h k
  | iconst i => exact ab_st_iconst hX hG hK hCT hfr hlo hN hSz i d h k
  | bipush i => exact ab_st_bipush hX hG hK hCT hfr hlo hN hSz i d h k
  | sipush i => exact ab_st_sipush hX hG hK hCT hfr hlo hN hSz i d h k
  | lconst i => exact ab_st_lconst hX hG hK hCT hfr hlo hN hSz i d h k
  | ldc i => exact ab_st_ldc hX hG hK hCT hfr hlo hN hSz i d h k
  | ldc2_w i => exact ab_st_ldc2_w hX hG hK hCT hfr hlo hN hSz i d h k
  | dup => exact ab_st_dup hX hG hK hCT hfr hlo hN hSz  d h k
  | pop => exact ab_st_pop hX hG hK hCT hfr hlo hN hSz  d h k
  | dup_x1 => exact ab_st_dup_x1 hX hG hK hCT hfr hlo hN hSz  d h k
  | dup2 => exact ab_st_dup2 hX hG hK hCT hfr hlo hN hSz  d h k
  | iload i => exact ab_st_iload hX hG hK hCT hfr hlo hN hSz i d h k
  | lload i => exact ab_st_lload hX hG hK hCT hfr hlo hN hSz i d h k
  | aload i => exact ab_st_aload hX hG hK hCT hfr hlo hN hSz i d h k
  | istore i => exact ab_st_istore hX hG hK hCT hfr hlo hN hSz i d h k
  | astore i => exact ab_st_astore hX hG hK hCT hfr hlo hN hSz i d h k
  | lstore i => exact ab_st_lstore hX hG hK hCT hfr hlo hN hSz i d h k
  | iload_n i => exact ab_st_iload_n hX hG hK hCT hfr hlo hN hSz i d h k
  | lload_n i => exact ab_st_lload_n hX hG hK hCT hfr hlo hN hSz i d h k
  | aload_n i => exact ab_st_aload_n hX hG hK hCT hfr hlo hN hSz i d h k
  | istore_n i => exact ab_st_istore_n hX hG hK hCT hfr hlo hN hSz i d h k
  | astore_n i => exact ab_st_astore_n hX hG hK hCT hfr hlo hN hSz i d h k
  | lstore_n i => exact ab_st_lstore_n hX hG hK hCT hfr hlo hN hSz i d h k
  | iinc i z => exact ab_st_iinc hX hG hK hCT hfr hlo hN hSz i z d h k
  | goto off => exact ab_st_goto hX hG hK hCT hfr hlo hN hSz off d h k
  | ifCond cn off => exact ab_st_ifCond hX hG hK hCT hfr hlo hN hSz cn off d h k
  | if_icmp cn off => exact ab_st_if_icmp hX hG hK hCT hfr hlo hN hSz cn off d h k
  | getfield i => exact ab_st_getfield hX hG hK hCT hfr hlo hN hSz i d h k
  | putfield i => exact ab_st_putfield hX hG hK hCT hfr hlo hN hSz i d h k
  | iaload => exact ab_st_iaload hX hG hK hCT hfr hlo hN hSz  d h k
  | baload => exact ab_st_baload hX hG hK hCT hfr hlo hN hSz  d h k
  | laload => exact ab_st_laload hX hG hK hCT hfr hlo hN hSz  d h k
  | iastore => exact ab_st_iastore hX hG hK hCT hfr hlo hN hSz  d h k
  | bastore => exact ab_st_bastore hX hG hK hCT hfr hlo hN hSz  d h k
  | lastore => exact ab_st_lastore hX hG hK hCT hfr hlo hN hSz  d h k
  | arraylength => exact ab_st_arraylength hX hG hK hCT hfr hlo hN hSz  d h k
  | invokestatic i => exact ab_st_invokestatic hX hG hK hCT hfr hlo hN hSz i d h k
  | invokevirtual i => exact ab_st_invokevirtual hX hG hK hCT hfr hlo hN hSz i d h k
  | _ => exact absurd h (by intro h; cases h)
end
section
/-! segments between loop heads -/
def ab_tv (S : Nat → Int) : ab_Tm → Nat
  | .inl a => a
  | .inr (l, c) => (c - S l).toNat
def ab_enc (S : Nat → Int) : List ab_Tm → Nat
  | [] => 0
  | t :: s => ab_tv S t * (4294967296 ^ s.length) + ab_enc S s
theorem ab_enc_lt {S : Nat → Int} : ∀ {s : List ab_Tm}, (∀ t ∈ s, ab_tv S t < 4294967296) → ab_enc S s < 4294967296 ^ s.length
  | [], _ => by simp [ab_enc]
  | t :: s, h => by
    have h1 := ab_enc_lt (fun x hx => h x (List.mem_cons_of_mem _ hx))
    have h2 := h t List.mem_cons_self
    unfold ab_enc
    rw [List.length_cons, Nat.pow_succ]
    generalize 4294967296 ^ s.length = B at h1 ⊢
    have h3 : ab_tv S t * B + B ≤ 4294967296 * B := by
      have : (ab_tv S t + 1) * B ≤ 4294967296 * B := Nat.mul_le_mul_right B h2
      rw [Nat.add_mul, Nat.one_mul] at this
      exact this
    rw [Nat.mul_comm B]
    omega
/-- the values that the locals have -/
def ab_val (Lc : List (Option Value)) (l : Nat) : Int := match Lc[l]? with
  | some (some (.int v)) => v.toInt
  | _ => 0
theorem ab_fall_ok {S S' : Nat → Int} {A : ab_L} {n : Nat} {Lc : List (Option Value)} (hA : ab_lv S n A Lc) (hS : ∀ l x, A[l]? = some (some (.inl x)) → S' l = ab_val Lc l) : ∀ {s t : List ab_Tm}, ab_fall A s t = true → (∀ x ∈ s, ab_tv S x < 4294967296) → (∀ x ∈ t, ab_tv S' x < 4294967296) → (∀ l c, .inr (l, c) ∈ s → S l ≤ c) → (∀ l c, .inr (l, c) ∈ t → S' l ≤ c) → ab_enc S' t < ab_enc S s ∧ t.length = s.length
  | [], _, h, _, _, _, _ => by cases h
  | .inl a :: s, [], h, _, _, _, _ => by cases h
  | .inr a :: s, [], h, _, _, _, _ => by cases h
  | .inl a :: s, .inr b :: t, h, _, _, _, _ => by cases h
  | .inr a :: s, .inl b :: t, h, _, _, _, _ => by cases h
  | .inl a :: s, .inl b :: t, h, h1, h2, h3, h4 => by
    unfold ab_fall at h
    cases hb : Nat.beq a b with
    | true =>
      rw [hb] at h
      have e := dp_beq hb
      subst e
      obtain ⟨q1, q2⟩ := ab_fall_ok hA hS h (fun x hx => h1 x (List.mem_cons_of_mem _ hx)) (fun x hx => h2 x (List.mem_cons_of_mem _ hx)) (fun l c hx => h3 l c (List.mem_cons_of_mem _ hx)) (fun l c hx => h4 l c (List.mem_cons_of_mem _ hx))
      refine ⟨?_, by rw [List.length_cons, List.length_cons, q2]⟩
      unfold ab_enc
      rw [q2]
      show a * _ + _ < a * _ + _
      omega
    | false =>
      rw [hb, cond_false, Bool.and_eq_true] at h
      have z1 := Nat.le_of_ble_eq_true h.1
      have z2 := dp_beq h.2
      refine ⟨?_, by rw [List.length_cons, List.length_cons, z2]⟩
      have lt := ab_enc_lt (fun x hx => h2 x (List.mem_cons_of_mem _ hx))
      unfold ab_enc
      rw [← z2] at lt ⊢
      show b * _ + _ < a * _ + _
      have h5 : (b + 1) * 4294967296 ^ s.length ≤ a * 4294967296 ^ s.length := Nat.mul_le_mul_right _ z1
      rw [Nat.add_mul, Nat.one_mul] at h5
      omega
  | .inr (l, c) :: s, .inr (l', c') :: t, h, h1, h2, h3, h4 => by
    unfold ab_fall at h
    rw [Bool.and_eq_true, Bool.and_eq_true] at h
    obtain ⟨e1, e2, h⟩ := h
    have e1 := dp_beq e1
    have e2 := of_decide_eq_true e2
    subst e1 e2
    split at h
    · rename_i x hx
      split at h
      · rename_i k d hr
        rw [Bool.and_eq_true] at h
        obtain ⟨ek, h⟩ := h
        have ek := dp_beq ek
        subst ek
        obtain ⟨v, hv, hav⟩ := hA.2.2.1 _ _ hx
        obtain ⟨lo, hi, r, o⟩ := x
        obtain ⟨m, rfl, i1⟩ := ab_v_int hav
        have hrel : m.toInt = S k + d := i1.2.2.1 k d hr
        have hS' : S' k = S k + d := by
          rw [hS k _ hx]
          unfold ab_val
          rw [hv]
          exact hrel
        have b3 := h3 k c List.mem_cons_self
        have b4 := h4 k c List.mem_cons_self
        cases hd : decide (d = 0) with
        | true =>
          rw [hd] at h
          have e0 := of_decide_eq_true hd
          obtain ⟨q1, q2⟩ := ab_fall_ok hA hS h (fun x hx => h1 x (List.mem_cons_of_mem _ hx)) (fun x hx => h2 x (List.mem_cons_of_mem _ hx)) (fun l c hx => h3 l c (List.mem_cons_of_mem _ hx)) (fun l c hx => h4 l c (List.mem_cons_of_mem _ hx))
          refine ⟨?_, by rw [List.length_cons, List.length_cons, q2]⟩
          unfold ab_enc
          rw [q2]
          show (c - S' k).toNat * _ + _ < (c - S k).toNat * _ + _
          have e9 : S' k = S k := by omega
          rw [e9]
          omega
        | false =>
          rw [hd, cond_false, Bool.and_eq_true] at h
          have z1 := of_decide_eq_true h.1
          have z2 := dp_beq h.2
          refine ⟨?_, by rw [List.length_cons, List.length_cons, z2]⟩
          have lt := ab_enc_lt (fun x hx => h2 x (List.mem_cons_of_mem _ hx))
          unfold ab_enc
          rw [← z2] at lt ⊢
          show (c - S' k).toNat * _ + _ < (c - S k).toNat * _ + _
          have z3 : (c - S' k).toNat + 1 ≤ (c - S k).toNat := by omega
          have h5 : ((c - S' k).toNat + 1) * 4294967296 ^ s.length ≤ (c - S k).toNat * 4294967296 ^ s.length := Nat.mul_le_mul_right _ z3
          rw [Nat.add_mul, Nat.one_mul] at h5
          omega
      · cases h
    · cases h
end
section
/-! arrival at a head -/
def ab_drop (h : ab_L) (Lc : List (Option Value)) : List (Option Value) := List.zipWith (fun a v => match a with
  | none => none
  | some _ => v) h Lc
theorem ab_leL_ok : ∀ {A h : ab_L}, ab_leL A h = true → ∀ (l : Nat) (b : ab_V), h[l]? = some (some b) → ab_leV ((A[l]?).getD none) (some b) = true
  | _, [], _, l, b, hb => by simp at hb
  | [], b0 :: t, hh, l, b, hb => by
    have hh : (ab_leV none b0 && ab_leL [] t) = true := hh
    rw [Bool.and_eq_true] at hh
    cases l with
    | zero =>
      have e : b0 = some b := by simpa using hb
      rw [← e]
      exact hh.1
    | succ l =>
      have := ab_leL_ok hh.2 l b (by simpa using hb)
      simpa using this
  | a0 :: s, b0 :: t, hh, l, b, hb => by
    have hh : (ab_leV a0 b0 && ab_leL s t) = true := hh
    rw [Bool.and_eq_true] at hh
    cases l with
    | zero =>
      have e : b0 = some b := by simpa using hb
      rw [← e]
      simpa using hh.1
    | succ l =>
      have := ab_leL_ok hh.2 l b (by simpa using hb)
      simpa using this
theorem ab_self_at : ∀ {h : ab_L} (k l : Nat), (ab_self k h)[l]? = (h[l]?).map (fun o => match o with
    | some (.inl x) => some (.inl (x.1, x.2.1, some (k + l, 0), none))
    | a => a)
  | [], k, l => by simp [ab_self]
  | o :: t, k, 0 => by
    cases o with
    | none => rfl
    | some a =>
      cases a with
      | inl x => rfl
      | inr x => rfl
  | o :: t, k, l + 1 => by
    have ih := ab_self_at (h := t) (k + 1) l
    have e : k + 1 + l = k + (l + 1) := by omega
    rw [e] at ih
    cases o with
    | none => simpa [ab_self] using ih
    | some a =>
      cases a with
      | inl x => simpa [ab_self] using ih
      | inr x => simpa [ab_self] using ih
theorem ab_self_len : ∀ {h : ab_L} (k : Nat), (ab_self k h).length = h.length
  | [], k => rfl
  | o :: t, k => by
    have ih := ab_self_len (h := t) (k + 1)
    cases o with
    | none => simpa [ab_self] using ih
    | some a =>
      cases a with
      | inl x => simpa [ab_self] using ih
      | inr x => simpa [ab_self] using ih
theorem ab_drop_at {h : ab_L} {Lc : List (Option Value)} {n : Nat} (h1 : h.length = n) (h2 : Lc.length = n) (l : Nat) : (ab_drop h Lc)[l]? = match h[l]? with
    | some (some _) => Lc[l]?
    | some none => some none
    | none => none := by
  unfold ab_drop
  rw [List.getElem?_zipWith]
  cases hh : h[l]? with
  | none => rfl
  | some o =>
    have hl : l < n := by
      have := (List.getElem?_eq_some_iff.mp hh).1
      omega
    rw [List.getElem?_eq_getElem (by omega : l < Lc.length)]
    cases o with
    | none => rfl
    | some a => rfl
/-- what stands at an arrival stands for the head, at the values that the locals have -/
theorem ab_arrive {S : Nat → Int} {n : Nat} {A h : ab_L} {Lc : List (Option Value)} (hA : ab_lv S n A Lc) (hn : h.length = n) (hle : ab_leL A h = true) : ab_lv (ab_val Lc) n (ab_self 0 h) (ab_drop h Lc) := by
  have hd := ab_drop_at (Lc := Lc) hn hA.1
  refine ⟨?_, by rw [ab_self_len]; exact hn, fun l a ha => ?_, fun l ha => ?_⟩
  · unfold ab_drop
    rw [List.length_zipWith, hn, hA.1]
    omega
  · rw [ab_self_at, Nat.zero_add] at ha
    cases hh : h[l]? with
    | none => rw [hh] at ha; cases ha
    | some o =>
      cases o with
      | none => rw [hh] at ha; cases ha
      | some b =>
        rw [hh] at ha
        have le := ab_leL_ok hle l b hh
        have dl := hd l
        rw [hh] at dl
        cases hAl : A[l]? with
        | none =>
          rw [hAl] at le
          cases b with
          | inl y => cases le
          | inr b => cases b <;> cases le
        | some o2 =>
          cases o2 with
          | none =>
            rw [hAl] at le
            cases b with
            | inl y => cases le
            | inr b => cases b <;> cases le
          | some a2 =>
            obtain ⟨v, hv, hav⟩ := hA.2.2.1 l a2 hAl
            rw [hAl] at le
            refine ⟨v, by rw [dl]; exact hv, ?_⟩
            cases b with
            | inl y =>
              cases ha
              cases a2 with
              | inr a2 => cases a2 <;> cases le
              | inl x =>
                obtain ⟨lo, hi, r, o⟩ := x
                obtain ⟨m, rfl, i1⟩ := ab_v_int hav
                have le : (decide (y.1 ≤ lo) && decide (hi ≤ y.2.1)) = true := le
                rw [Bool.and_eq_true] at le
                refine ⟨Int.le_trans (of_decide_eq_true le.1) i1.1, Int.le_trans i1.2.1 (of_decide_eq_true le.2), fun k c e => ?_, fun _ e => (by cases e)⟩
                cases e
                unfold ab_val
                rw [hv]
                show m.toInt = m.toInt + 0
                omega
            | inr b =>
              cases b with
              | inl p =>
                cases ha
                cases a2 with
                | inl x => cases le
                | inr a2 =>
                  cases a2 with
                  | inl q =>
                    have e := dp_beq le
                    subst e
                    have e2 := ab_v_ref hav
                    subst e2
                    exact rfl
                  | inr q => cases le
              | inr p =>
                cases ha
                cases a2 with
                | inl x => cases le
                | inr a2 =>
                  cases a2 with
                  | inl q => cases le
                  | inr q =>
                    obtain ⟨m, rfl⟩ := ab_v_long hav
                    exact trivial
  · rw [ab_self_at] at ha
    cases hh : h[l]? with
    | none => rw [hh] at ha; cases ha
    | some o =>
      cases o with
      | none =>
        have dl := hd l
        rw [hh] at dl
        exact dl
      | some b =>
        rw [hh] at ha
        cases b with
        | inl y => cases ha
        | inr b => cases ha
theorem ab_drop_less {h : ab_L} {Lc : List (Option Value)} {n : Nat} (h1 : h.length = n) (h2 : Lc.length = n) : ∀ (i : Nat) (v : Value), (ab_drop h Lc)[i]? = some (some v) → Lc[i]? = some (some v) := by
  intro i v hi
  rw [ab_drop_at h1 h2] at hi
  split at hi
  · exact hi
  · cases hi
  · cases hi
end
section
theorem ab_tok_ok {S : Nat → Int} {n : Nat} {h : ab_L} {Lc : List (Option Value)} (hA : ab_lv S n (ab_self 0 h) Lc) {t : ab_Tm} (ht : ab_tok h t = true) : ab_tv S t < 4294967296 ∧ ∀ l c, t = .inr (l, c) → S l ≤ c := by
  cases t with
  | inl a =>
    have ht := Nat.le_of_ble_eq_true ht
    refine ⟨?_, fun l c e => by cases e⟩
    show a < 4294967296
    omega
  | inr q =>
    obtain ⟨l, c⟩ := q
    unfold ab_tok at ht
    simp only at ht
    split at ht
    · rename_i x hx
      rw [Bool.and_eq_true, Bool.and_eq_true] at ht
      have z1 := of_decide_eq_true ht.1
      have z2 := of_decide_eq_true ht.2.1
      have z3 := of_decide_eq_true ht.2.2
      have hs : (ab_self 0 h)[l]? = some (some (.inl (x.1, x.2.1, some (l, 0), none))) := by
        rw [ab_self_at, hx, Nat.zero_add]
        rfl
      obtain ⟨v, hv, hav⟩ := hA.2.2.1 _ _ hs
      obtain ⟨m, rfl, i1⟩ := ab_v_int hav
      have hr : m.toInt = S l + 0 := i1.2.2.1 l 0 rfl
      have a1 : x.1 ≤ m.toInt := i1.1
      have a2 : m.toInt ≤ x.2.1 := i1.2.1
      refine ⟨?_, fun l' c' e => by cases e; omega⟩
      show (c - S l).toNat < 4294967296
      omega
    · cases ht
def ab_msr (m0 : Option (List ab_Tm)) (S S' : Nat → Int) (t : List ab_Tm) : Prop := match m0 with
  | none => True
  | some s => ab_enc S' t < ab_enc S s
theorem ab_ret_ok {cl : List vw_C} {X : sm_X} {cc : ByteArray} {own : String} {Ts : List Cond} {rm : Room} {N Sz : Nat} {ini : Bool} {M : ab_M} (hX : sm_ok cl X cc M.1 own Ts M.2.1 rm N Sz ini) {G : ab_G} {ad : Nat → Nat} {μ0 : sm_M} (hf : sm_fin cl X ad G.2 0 0 (fun r sh' μ' => ab_rv M.2.2.1 r ∧ sh' = G.2 ∧ ab_mu G μ' ∧ ab_fr M.2.2.2.2 μ' μ0)) {S : Nat → Int} {pc len : Nat} {ins : Instr} (d : decode cc pc = .ok (ins, len)) {A : ab_L} {st : List ab_V} (h : ab_rt M st ins len = some true) : ab_J cl X G M ad μ0 S (pc, A, st) := by
  cases ins with
  | ireturn =>
    have ha := Option.some.inj h
    clear h
    rw [Bool.and_eq_true] at ha
    obtain ⟨hl, h⟩ := ha
    have hl2 := dp_beq hl
    clear hl
    subst hl2
    split at h
    · rename_i x r e1 e2
      intro Lc stc μ gl gs gm gf
      obtain ⟨v, u, rfl, cv, g2⟩ := ab_sv_cons gs
      obtain ⟨n, rfl, i1⟩ := ab_v_int cv
      cases u with
      | cons a b => exact absurd g2 (fun z => z)
      | nil => exact sm_iret hX hf rfl rfl (fun _ _ => rfl) e2 d ⟨by rw [e1]; exact ab_in_ok h i1, rfl, gm, gf⟩
    · rename_i x r e1 e2
      rw [Bool.and_eq_true] at h
      intro Lc stc μ gl gs gm gf
      obtain ⟨v, u, rfl, cv, g2⟩ := ab_sv_cons gs
      obtain ⟨n, rfl, i1⟩ := ab_v_int cv
      have bb := ab_bit_ok i1 h.2
      cases u with
      | cons a b => exact absurd g2 (fun z => z)
      | nil => exact sm_zret hX hf rfl rfl (fun _ _ => rfl) e2 (by rcases ab_bits bb.1 bb.2 with rfl | rfl <;> rfl) d ⟨by rw [e1]; exact ab_in_ok h.1 i1, rfl, gm, gf⟩
    · cases h
  | lreturn =>
    have ha := Option.some.inj h
    clear h
    rw [Bool.and_eq_true] at ha
    obtain ⟨hl, h⟩ := ha
    have hl2 := dp_beq hl
    clear hl
    subst hl2
    split at h
    · rename_i x r e1 e2
      intro Lc stc μ gl gs gm gf
      obtain ⟨v, u, rfl, cv, g2⟩ := ab_sv_cons gs
      obtain ⟨n, rfl⟩ := ab_v_long cv
      cases u with
      | cons a b => exact absurd g2 (fun z => z)
      | nil => exact sm_lret hX hf rfl rfl (fun _ _ => rfl) e2 d ⟨by rw [e1]; exact trivial, rfl, gm, gf⟩
    · cases h
  | return_ =>
    have ha := Option.some.inj h
    clear h
    rw [Bool.and_eq_true] at ha
    obtain ⟨hl, h⟩ := ha
    have hl2 := dp_beq hl
    clear hl
    subst hl2
    split at h
    · rename_i e1 e2
      intro Lc stc μ gl gs gm gf
      cases stc with
      | cons a b => exact absurd gs (fun z => z)
      | nil => exact sm_vret hX hf rfl rfl (fun _ _ => rfl) e2 d ⟨by rw [e1]; exact trivial, rfl, gm, gf⟩
    · cases h
  | _ => exact absurd h (by intro h; cases h)
theorem ab_ex_ok {cl : List vw_C} {X : sm_X} {cc : ByteArray} {own : String} {Ts : List Cond} {rm : Room} {N Sz : Nat} {ini : Bool} {M : ab_M} (hX : sm_ok cl X cc M.1 own Ts M.2.1 rm N Sz ini) {G : ab_G} (hG : ab_Gok G) {K : dp_K} {ys : Nat → MethodName} {wss : Nat → List Cond} (hK : dp_Kok cl X.1.2.2.2 own Ts ys wss K) {CT : List ab_C} (hCT : ∀ e ∈ CT, ab_ok cl X.1 ys wss G e) (hfr : M.2.2.2.1 ≤ rm.frames) (hlo : 32 * M.2.2.2.1 ≤ rm.locals) (hN : G.2.length ≤ N) (hSz : sm_sl G.2 ≤ Sz) {ad : Nat → Nat} {μ0 : sm_M} (hf : sm_fin cl X ad G.2 0 0 (fun r sh' μ' => ab_rv M.2.2.1 r ∧ sh' = G.2 ∧ ab_mu G μ' ∧ ab_fr M.2.2.2.2 μ' μ0)) {tb : List (Nat × Instr × Nat)} (hM : ∀ e ∈ tb, decode cc e.1 = .ok e.2) {H : ab_N} (hH : ∀ pc h, ab_head pc H = some h → h.2.all (ab_tok h.1) = true) {m0 : Option (List ab_Tm)} {S : Nat → Int} (hm : ∀ s, m0 = some s → (∀ x ∈ s, ab_tv S x < 4294967296) ∧ ∀ l c, .inr (l, c) ∈ s → S l ≤ c)
    (heads : ∀ (pc : Nat) (h : ab_H), ab_head pc H = some h → ∀ (S' : Nat → Int) (Lc : List (Option Value)) (μ : sm_M), ab_lv S' M.1 (ab_self 0 h.1) Lc → ab_mu G μ → ab_fr M.2.2.2.2 μ μ0 → ab_msr m0 S S' h.2 → sm_E cl X pc Lc [] ad G.2 μ) : ∀ (n : Nat) (a : ab_T), ab_ex K G M CT tb H m0 n a = true → ab_J cl X G M ad μ0 S a
  | 0, _, h => by cases h
  | n + 1, a, h => by
    obtain ⟨pc, A, st⟩ := a
    unfold ab_ex at h
    split at h
    · cases h
    · rename_i i hi
      obtain ⟨ins, len⟩ := i
      have d := hM _ (dp_find_mem hi)
      simp only at h d
      split at h
      · rename_i b hb
        subst h
        exact ab_ret_ok hX hf d hb
      · split at h
        · cases h
        · rename_i l hl
          refine ab_st_ok hX hG hK hCT hfr hlo hN hSz d hl (fun a' ha' => ?_)
          have h1 := List.all_eq_true.mp h a' ha'
          split at h1
          · rename_i hd hhd
            obtain ⟨pc', A', st'⟩ := a'
            unfold ab_arr at h1
            rw [Bool.and_eq_true, Bool.and_eq_true, Bool.and_eq_true] at h1
            obtain ⟨k1, k2, k3, k4⟩ := h1
            have k1 : st' = [] := List.isEmpty_iff.mp k1
            subst k1
            have k3 := dp_beq k3
            simp only at k2 k4 hhd
            intro Lc stc μ gl gs gm gf
            cases stc with
            | cons a b => exact absurd gs (fun z => z)
            | nil =>
              have arr := ab_arrive gl k3 k2
              have tok := List.all_eq_true.mp (hH _ _ hhd)
              refine sm_E.less (ab_drop_less k3 gl.1) (heads pc' hd hhd (ab_val Lc) _ μ arr gm gf ?_)
              cases m0 with
              | none => exact trivial
              | some s =>
                obtain ⟨b1, b2⟩ := hm s rfl
                exact (ab_fall_ok gl (fun l x _ => rfl) k4 b1 (fun x hx => (ab_tok_ok arr (tok x hx)).1) b2 (fun l c hx => (ab_tok_ok arr (tok _ hx)).2 l c rfl)).1
          · exact ab_ex_ok hX hG hK hCT hfr hlo hN hSz hf hM hH hm heads n a' h1
end
section
/-! a contract over ranges, by computation -/
def ab_g1 (a : ab_A) : ab_L := match a with
  | .inr (.inr _) => [some (ab_of a), none]
  | _ => [some (ab_of a)]
def ab_g (args : List ab_A) : ab_L := args.flatMap ab_g1
def ab_L0 (n : Nat) (args : List ab_A) : ab_L := ab_g args ++ List.replicate (n - (ab_g args).length) none
def ab_f (av : List Value) : List (Option Value) := av.flatMap (fun v => if v.category = 2 then [some v, none] else [some v])
theorem ab_av_cat {a : ab_A} {v : Value} (h : ab_av a v) : v.category = (ab_g1 a).length := by
  cases a with
  | inl r =>
    cases v with
    | int n => rfl
    | _ => exact absurd h (fun z => z)
  | inr a =>
    cases a with
    | inl p =>
      cases v with
      | ref q => rfl
      | _ => exact absurd h (fun z => z)
    | inr p =>
      cases v with
      | long n => rfl
      | _ => exact absurd h (fun z => z)
theorem ab_f_len (av : List Value) : (lg_sl av).length = (ab_f av).length := by
  induction av with
  | nil => rfl
  | cons a t ih =>
    simp only [lg_sl, ab_f, List.flatMap_cons, List.length_append] at ih ⊢
    rw [ih]
    split <;> rfl
theorem ab_fl {S : Nat → Int} : ∀ {args : List ab_A} {As : List Value}, ab_avl args As → (ab_f As).length = (ab_g args).length ∧ (∀ (l : Nat) (a : ab_V), (ab_g args)[l]? = some (some a) → ∃ v, (ab_f As)[l]? = some (some v) ∧ ab_v S [] (ab_no a) v) ∧ ∀ l : Nat, (ab_g args)[l]? = some none → (ab_f As)[l]? = some none
  | [], [], _ => ⟨rfl, fun l a h => by simp [ab_g] at h, fun l h => by simp [ab_g] at h⟩
  | [], _ :: _, h => absurd h (fun z => z)
  | _ :: _, [], h => absurd h (fun z => z)
  | a :: t, v :: u, h => by
    obtain ⟨i1, i2, i3⟩ := ab_fl (S := S) h.2
    have hv : ab_v S [] (ab_no (ab_of a)) v := ab_no_any (ab_of_ok (S := S) (Lc := []) h.1)
    have hc := ab_av_cat h.1
    have eg : ab_g (a :: t) = ab_g1 a ++ ab_g t := rfl
    have ef : ab_f (v :: u) = (if v.category = 2 then [some v, none] else [some v]) ++ ab_f u := rfl
    rw [eg, ef]
    by_cases h2 : v.category = 2
    · have e1 : ab_g1 a = [some (ab_of a), none] := by
        cases a with
        | inl r => rw [hc] at h2; cases h2
        | inr a =>
          cases a with
          | inl p => rw [hc] at h2; cases h2
          | inr p => rfl
      rw [if_pos h2, e1]
      refine ⟨by simp [i1], fun l b hb => ?_, fun l hb => ?_⟩
      · match l, hb with
        | 0, hb =>
          have e : ab_of a = b := by simpa using hb
          rw [← e]
          exact ⟨v, rfl, hv⟩
        | 1, hb => simp at hb
        | l + 2, hb =>
          obtain ⟨w, q1, q2⟩ := i2 l b (by simpa using hb)
          exact ⟨w, by simpa using q1, q2⟩
      · match l, hb with
        | 0, hb => simp at hb
        | 1, hb => rfl
        | l + 2, hb => simpa using i3 l (by simpa using hb)
    · have e1 : ab_g1 a = [some (ab_of a)] := by
        cases a with
        | inl r => rfl
        | inr a =>
          cases a with
          | inl p => rfl
          | inr p => exact absurd hc (fun z => h2 z)
      rw [if_neg h2, e1]
      refine ⟨by simp [i1], fun l b hb => ?_, fun l hb => ?_⟩
      · match l, hb with
        | 0, hb =>
          have e : ab_of a = b := by simpa using hb
          rw [← e]
          exact ⟨v, rfl, hv⟩
        | l + 1, hb =>
          obtain ⟨w, q1, q2⟩ := i2 l b (by simpa using hb)
          exact ⟨w, by simpa using q1, q2⟩
      · match l, hb with
        | 0, hb => simp at hb
        | l + 1, hb => simpa using i3 l (by simpa using hb)
theorem ab_L0_ok {S : Nat → Int} {n : Nat} {args : List ab_A} {As : List Value} (h : ab_avl args As) (hn : (ab_g args).length ≤ n) : ab_lv S n (ab_L0 n args) (sm_L0 n As) := by
  obtain ⟨i1, i2, i3⟩ := ab_fl (S := S) h
  have e : sm_L0 n As = ab_f As ++ List.replicate (n - (ab_f As).length) none := rfl
  rw [e, i1]
  unfold ab_L0
  refine ⟨by simp [i1]; omega, by simp; omega, fun l a ha => ?_, fun l ha => ?_⟩
  · by_cases hl : l < (ab_g args).length
    · rw [List.getElem?_append_left hl] at ha
      rw [List.getElem?_append_left (by omega)]
      exact i2 l a ha
    · rw [List.getElem?_append_right (by omega)] at ha
      have := List.eq_of_mem_replicate (List.mem_of_getElem? ha)
      cases this
  · by_cases hl : l < (ab_g args).length
    · rw [List.getElem?_append_left hl] at ha
      rw [List.getElem?_append_left (by omega)]
      exact i3 l ha
    · rw [List.getElem?_append_right (by omega)] at ha ⊢
      rw [i1]
      rw [List.getElem?_replicate] at ha ⊢
      split at ha
      · rename_i hlt
        rw [if_pos hlt]
      · cases ha
def ab_chk (K : dp_K) (G : ab_G) (M : ab_M) (CT : List ab_C) (tb : List (Nat × Instr × Nat)) (H : ab_N) (args : List ab_A) : Bool :=
  Nat.ble (ab_g args).length M.1 && (H.all (fun e => Nat.beq e.2.1.length M.1 && (e.2.2.all (ab_tok e.2.1) && ab_ex K G M CT tb H (some e.2.2) 400 (e.1, ab_self 0 e.2.1, []))) && ab_ex K G M CT tb H none 400 (0, ab_L0 M.1 args, []))
theorem ab_head_mem {pc : Nat} {H : ab_N} {h : ab_H} (hh : ab_head pc H = some h) : (pc, h) ∈ H := by
  induction H with
  | nil => cases hh
  | cons a t ih =>
    obtain ⟨q, j⟩ := a
    have hh : (bif Nat.beq q pc then some j else ab_head pc t) = some h := hh
    cases hb : Nat.beq q pc with
    | false => rw [hb] at hh; exact List.mem_cons_of_mem _ (ih hh)
    | true =>
      rw [hb] at hh
      have e1 := dp_beq hb
      have e2 : j = h := Option.some.inj hh
      rw [e1, e2]
      exact List.mem_cons_self
theorem ab_meth {cl : List vw_C} {Z : sm_Z} {y : MethodName} {cc : ByteArray} {W' : List Cond} {M : ab_M} {G : ab_G} (hG : ab_Gok G) {tb : List (Nat × Instr × Nat)} (hM : ∀ e ∈ tb, decode cc e.1 = .ok e.2) {K : dp_K} {ys : Nat → MethodName} {wss : Nat → List Cond} (hK : dp_Kok cl Z.2.2.2 y.cls W' ys wss K) {CT : List ab_C} (hCT : ∀ e ∈ CT, ab_ok cl Z ys wss G e) (hy : plainName y.cls = true) {H : ab_N} {args : List ab_A} (h : ab_chk K G M CT tb H args = true) (As : List Value) (ad : Nat → Nat) (μ : sm_M) (ha : ab_avl args As) (hm : ab_mu G μ) : sm_C cl Z y (Cond.code y cc M.1 M.2.1 :: W') (dp_rm M.2.2.2.1 (32 * M.2.2.2.1) G.2 G.2) As ad G.2 μ (fun r sh' μ' => ab_rv M.2.2.1 r ∧ sh' = G.2 ∧ ab_mu G μ' ∧ ab_fr M.2.2.2.2 μ' μ) := by
  unfold ab_chk at h
  rw [Bool.and_eq_true, Bool.and_eq_true] at h
  obtain ⟨k1, k2, k3⟩ := h
  have k1 := Nat.le_of_ble_eq_true k1
  have k2 := List.all_eq_true.mp k2
  have hlen : (lg_sl As).length ≤ M.1 := by
    rw [ab_f_len, (ab_fl (S := fun _ => 0) ha).1]
    exact k1
  refine sm_enter hy hlen (fun X hXZ hX hf => ?_)
  subst hXZ
  have hf' : sm_fin cl X ad G.2 0 0 (fun r sh' μ' => ab_rv M.2.2.1 r ∧ sh' = G.2 ∧ ab_mu G μ' ∧ ab_fr M.2.2.2.2 μ' μ) := by
    have e1 : (dp_rm M.2.2.2.1 (32 * M.2.2.2.1) G.2 G.2).cells = 0 := Nat.sub_self _
    have e2 : (dp_rm M.2.2.2.1 (32 * M.2.2.2.1) G.2 G.2).slots = 0 := Nat.sub_self _
    rw [e1, e2] at hf
    exact hf
  have hH : ∀ pc h, ab_head pc H = some h → h.2.all (ab_tok h.1) = true := fun pc h hh => by
    have q := k2 _ (ab_head_mem hh)
    rw [Bool.and_eq_true, Bool.and_eq_true] at q
    exact q.2.1
  have heads : ∀ (N : Nat) (pc : Nat) (h : ab_H), ab_head pc H = some h → ∀ (S' : Nat → Int) (Lc : List (Option Value)) (μ1 : sm_M), ab_lv S' M.1 (ab_self 0 h.1) Lc → ab_mu G μ1 → ab_fr M.2.2.2.2 μ1 μ → ab_enc S' h.2 < N → sm_E cl X pc Lc [] ad G.2 μ1 := by
    intro N
    induction N with
    | zero => intro pc h hh S' Lc μ1 _ _ _ z; exact absurd z (Nat.not_lt_zero _)
    | succ N ih =>
      intro pc h hh S' Lc μ1 gl gm gf z
      have q := k2 _ (ab_head_mem hh)
      rw [Bool.and_eq_true, Bool.and_eq_true] at q
      have tok := List.all_eq_true.mp q.2.1
      exact ab_ex_ok hX hG hK hCT (Nat.le_refl _) (Nat.le_refl _) (Nat.le_add_right _ _) (Nat.le_add_right _ _) hf' hM hH (m0 := some h.2) (S := S') (fun s e => by cases e; exact ⟨fun x hx => (ab_tok_ok gl (tok x hx)).1, fun l c hx => (ab_tok_ok gl (tok _ hx)).2 l c rfl⟩) (fun pc2 h2 hh2 S2 Lc2 μ2 g1 g2 g3 g4 => ih pc2 h2 hh2 S2 Lc2 μ2 g1 g2 g3 (by have g4 : ab_enc S2 h2.2 < ab_enc S' h.2 := g4; omega)) 400 _ q.2.2 Lc [] μ1 gl trivial gm gf
  exact ab_ex_ok hX hG hK hCT (Nat.le_refl _) (Nat.le_refl _) (Nat.le_add_right _ _) (Nat.le_add_right _ _) hf' hM hH (m0 := none) (S := fun _ => 0) (fun s e => by cases e) (fun pc2 h2 hh2 S2 Lc2 μ2 g1 g2 g3 _ => heads _ pc2 h2 hh2 S2 Lc2 μ2 g1 g2 g3 (Nat.lt_succ_self _)) 400 _ k3 _ [] μ (ab_L0_ok ha k1) trivial hm (fun _ _ => ⟨rfl, rfl⟩)
end
