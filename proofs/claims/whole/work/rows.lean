section
-- ===== PART A: goes FIRST, ahead of the names: the tables' words, and 'selects' of the private methods out of them =====
/-- a private method of a class that the tables say can be made, by its rows of tables_1 -/
def lw_okq (q : MethodName × Nat) : Prop := (q.1.cls ≠ "java/lang/invoke/MethodHandle" ∧ q.1.cls ≠ "java/lang/invoke/VarHandle") ∧ Cond.instantiable q.1.cls q.2 ∈ tables_1 ∧ Cond.privateMethod q.1 ∈ tables_1 ∧ Cond.instanceMethod q.1 ∈ tables_1
theorem lw_p0 : lw_okq (⟨"PulledWires", "recorded", "(I)I"⟩, 9) := ⟨⟨by decide +kernel, by decide +kernel⟩, List.mem_of_getElem? (i := 16) (by decide +kernel), List.mem_of_getElem? (i := 257) (by decide +kernel), List.mem_of_getElem? (i := 258) (by decide +kernel)⟩
theorem lw_p1 : lw_okq (⟨"PulledWires$State", "listenerWith", "(I)LPulledWires$Listener;"⟩, 11) := ⟨⟨by decide +kernel, by decide +kernel⟩, List.mem_of_getElem? (i := 24) (by decide +kernel), List.mem_of_getElem? (i := 285) (by decide +kernel), List.mem_of_getElem? (i := 286) (by decide +kernel)⟩
theorem lw_p2 : lw_okq (⟨"PulledWires$State", "listenersWithAddress", "()I"⟩, 11) := ⟨⟨by decide +kernel, by decide +kernel⟩, List.mem_of_getElem? (i := 24) (by decide +kernel), List.mem_of_getElem? (i := 289) (by decide +kernel), List.mem_of_getElem? (i := 290) (by decide +kernel)⟩
theorem lw_p3 : lw_okq (⟨"PulledWires$State", "stuckListeners", "()I"⟩, 11) := ⟨⟨by decide +kernel, by decide +kernel⟩, List.mem_of_getElem? (i := 24) (by decide +kernel), List.mem_of_getElem? (i := 309) (by decide +kernel), List.mem_of_getElem? (i := 310) (by decide +kernel)⟩
theorem lw_p4 : lw_okq (⟨"PulledWires$State", "stuckTick", "()V"⟩, 11) := ⟨⟨by decide +kernel, by decide +kernel⟩, List.mem_of_getElem? (i := 24) (by decide +kernel), List.mem_of_getElem? (i := 351) (by decide +kernel), List.mem_of_getElem? (i := 352) (by decide +kernel)⟩
theorem lw_p5 : lw_okq (⟨"PulledWires$State", "lose", "(I)V"⟩, 11) := ⟨⟨by decide +kernel, by decide +kernel⟩, List.mem_of_getElem? (i := 24) (by decide +kernel), List.mem_of_getElem? (i := 366) (by decide +kernel), List.mem_of_getElem? (i := 367) (by decide +kernel)⟩
theorem lw_p6 : lw_okq (⟨"PulledWires$State", "endTalkIfEmpty", "()V"⟩, 11) := ⟨⟨by decide +kernel, by decide +kernel⟩, List.mem_of_getElem? (i := 24) (by decide +kernel), List.mem_of_getElem? (i := 374) (by decide +kernel), List.mem_of_getElem? (i := 375) (by decide +kernel)⟩
theorem lw_p7 : lw_okq (⟨"PulledWires$State", "sendBit", "()V"⟩, 11) := ⟨⟨by decide +kernel, by decide +kernel⟩, List.mem_of_getElem? (i := 24) (by decide +kernel), List.mem_of_getElem? (i := 385) (by decide +kernel), List.mem_of_getElem? (i := 386) (by decide +kernel)⟩
theorem lw_p8 : lw_okq (⟨"PulledWires$State", "partOfTalk", "(I)I"⟩, 11) := ⟨⟨by decide +kernel, by decide +kernel⟩, List.mem_of_getElem? (i := 24) (by decide +kernel), List.mem_of_getElem? (i := 405) (by decide +kernel), List.mem_of_getElem? (i := 406) (by decide +kernel)⟩
theorem lw_p9 : lw_okq (⟨"PulledWires$State", "awaitAnswer", "()V"⟩, 11) := ⟨⟨by decide +kernel, by decide +kernel⟩, List.mem_of_getElem? (i := 24) (by decide +kernel), List.mem_of_getElem? (i := 413) (by decide +kernel), List.mem_of_getElem? (i := 414) (by decide +kernel)⟩
theorem lw_p10 : lw_okq (⟨"PulledWires$Speaker", "removeFirst", "()V"⟩, 8) := ⟨⟨by decide +kernel, by decide +kernel⟩, List.mem_of_getElem? (i := 50) (by decide +kernel), List.mem_of_getElem? (i := 425) (by decide +kernel), List.mem_of_getElem? (i := 426) (by decide +kernel)⟩
theorem lw_p11 : lw_okq (⟨"PulledWires$State", "freeTick", "()V"⟩, 11) := ⟨⟨by decide +kernel, by decide +kernel⟩, List.mem_of_getElem? (i := 24) (by decide +kernel), List.mem_of_getElem? (i := 441) (by decide +kernel), List.mem_of_getElem? (i := 442) (by decide +kernel)⟩
theorem lw_p12 : lw_okq (⟨"PulledWires$OrderText", "readName", "()Z"⟩, 5) := ⟨⟨by decide +kernel, by decide +kernel⟩, List.mem_of_getElem? (i := 163) (by decide +kernel), List.mem_of_getElem? (i := 482) (by decide +kernel), List.mem_of_getElem? (i := 483) (by decide +kernel)⟩
theorem lw_p13 : lw_okq (⟨"PulledWires$OrderText", "sameCharacters", "(Ljava/lang/String;)I"⟩, 5) := ⟨⟨by decide +kernel, by decide +kernel⟩, List.mem_of_getElem? (i := 163) (by decide +kernel), List.mem_of_getElem? (i := 494) (by decide +kernel), List.mem_of_getElem? (i := 495) (by decide +kernel)⟩
theorem lw_p14 : lw_okq (⟨"PulledWires$OrderText", "isCharacter", "(IC)Z"⟩, 5) := ⟨⟨by decide +kernel, by decide +kernel⟩, List.mem_of_getElem? (i := 163) (by decide +kernel), List.mem_of_getElem? (i := 546) (by decide +kernel), List.mem_of_getElem? (i := 547) (by decide +kernel)⟩
theorem lw_p15 : lw_okq (⟨"PulledWires$OrderText", "readNumbers", "()Z"⟩, 5) := ⟨⟨by decide +kernel, by decide +kernel⟩, List.mem_of_getElem? (i := 163) (by decide +kernel), List.mem_of_getElem? (i := 552) (by decide +kernel), List.mem_of_getElem? (i := 553) (by decide +kernel)⟩
def lw_privs_1 : List (MethodName × Nat) := [(⟨"PulledWires", "recorded", "(I)I"⟩, 9), (⟨"PulledWires$State", "listenerWith", "(I)LPulledWires$Listener;"⟩, 11), (⟨"PulledWires$State", "listenersWithAddress", "()I"⟩, 11), (⟨"PulledWires$State", "stuckListeners", "()I"⟩, 11), (⟨"PulledWires$State", "stuckTick", "()V"⟩, 11), (⟨"PulledWires$State", "lose", "(I)V"⟩, 11), (⟨"PulledWires$State", "endTalkIfEmpty", "()V"⟩, 11), (⟨"PulledWires$State", "sendBit", "()V"⟩, 11), (⟨"PulledWires$State", "partOfTalk", "(I)I"⟩, 11), (⟨"PulledWires$State", "awaitAnswer", "()V"⟩, 11), (⟨"PulledWires$Speaker", "removeFirst", "()V"⟩, 8), (⟨"PulledWires$State", "freeTick", "()V"⟩, 11), (⟨"PulledWires$OrderText", "readName", "()Z"⟩, 5), (⟨"PulledWires$OrderText", "sameCharacters", "(Ljava/lang/String;)I"⟩, 5), (⟨"PulledWires$OrderText", "isCharacter", "(IC)Z"⟩, 5), (⟨"PulledWires$OrderText", "readNumbers", "()Z"⟩, 5)]
theorem lw_r1 : ∀ q ∈ lw_privs_1, lw_okq q := List.forall_mem_cons.mpr ⟨lw_p0, List.forall_mem_cons.mpr ⟨lw_p1, List.forall_mem_cons.mpr ⟨lw_p2, List.forall_mem_cons.mpr ⟨lw_p3, List.forall_mem_cons.mpr ⟨lw_p4, List.forall_mem_cons.mpr ⟨lw_p5, List.forall_mem_cons.mpr ⟨lw_p6, List.forall_mem_cons.mpr ⟨lw_p7, List.forall_mem_cons.mpr ⟨lw_p8, List.forall_mem_cons.mpr ⟨lw_p9, List.forall_mem_cons.mpr ⟨lw_p10, List.forall_mem_cons.mpr ⟨lw_p11, List.forall_mem_cons.mpr ⟨lw_p12, List.forall_mem_cons.mpr ⟨lw_p13, List.forall_mem_cons.mpr ⟨lw_p14, List.forall_mem_cons.mpr ⟨lw_p15, fun _ h => absurd h List.not_mem_nil⟩⟩⟩⟩⟩⟩⟩⟩⟩⟩⟩⟩⟩⟩⟩⟩
theorem lw_p16 : lw_okq (⟨"PulledWires$OrderText", "readNumber", "(I)Z"⟩, 5) := ⟨⟨by decide +kernel, by decide +kernel⟩, List.mem_of_getElem? (i := 163) (by decide +kernel), List.mem_of_getElem? (i := 556) (by decide +kernel), List.mem_of_getElem? (i := 557) (by decide +kernel)⟩
theorem lw_p17 : lw_okq (⟨"PulledWires$OrderText", "skip", "(C)Z"⟩, 5) := ⟨⟨by decide +kernel, by decide +kernel⟩, List.mem_of_getElem? (i := 163) (by decide +kernel), List.mem_of_getElem? (i := 560) (by decide +kernel), List.mem_of_getElem? (i := 561) (by decide +kernel)⟩
theorem lw_p18 : lw_okq (⟨"PulledWires$OrderText", "mostOf", "(I)I"⟩, 5) := ⟨⟨by decide +kernel, by decide +kernel⟩, List.mem_of_getElem? (i := 163) (by decide +kernel), List.mem_of_getElem? (i := 564) (by decide +kernel), List.mem_of_getElem? (i := 565) (by decide +kernel)⟩
theorem lw_p19 : lw_okq (⟨"PulledWires$OrderText", "digitHere", "()I"⟩, 5) := ⟨⟨by decide +kernel, by decide +kernel⟩, List.mem_of_getElem? (i := 163) (by decide +kernel), List.mem_of_getElem? (i := 568) (by decide +kernel), List.mem_of_getElem? (i := 569) (by decide +kernel)⟩
theorem lw_p20 : lw_okq (⟨"PulledWires$OrderText", "leastOf", "(I)I"⟩, 5) := ⟨⟨by decide +kernel, by decide +kernel⟩, List.mem_of_getElem? (i := 163) (by decide +kernel), List.mem_of_getElem? (i := 572) (by decide +kernel), List.mem_of_getElem? (i := 573) (by decide +kernel)⟩
theorem lw_p21 : lw_okq (⟨"PulledWires", "carryOutOrder", "()I"⟩, 9) := ⟨⟨by decide +kernel, by decide +kernel⟩, List.mem_of_getElem? (i := 16) (by decide +kernel), List.mem_of_getElem? (i := 583) (by decide +kernel), List.mem_of_getElem? (i := 584) (by decide +kernel)⟩
theorem lw_p22 : lw_okq (⟨"PulledWiresModel", "putAside", "()V"⟩, 17) := ⟨⟨by decide +kernel, by decide +kernel⟩, List.mem_of_getElem? (i := 672) (by decide +kernel), List.mem_of_getElem? (i := 737) (by decide +kernel), List.mem_of_getElem? (i := 738) (by decide +kernel)⟩
theorem lw_p23 : lw_okq (⟨"PulledWiresModel", "says", "(IIII)I"⟩, 17) := ⟨⟨by decide +kernel, by decide +kernel⟩, List.mem_of_getElem? (i := 672) (by decide +kernel), List.mem_of_getElem? (i := 741) (by decide +kernel), List.mem_of_getElem? (i := 742) (by decide +kernel)⟩
theorem lw_p24 : lw_okq (⟨"PulledWiresModel", "act", "(I)I"⟩, 17) := ⟨⟨by decide +kernel, by decide +kernel⟩, List.mem_of_getElem? (i := 672) (by decide +kernel), List.mem_of_getElem? (i := 754) (by decide +kernel), List.mem_of_getElem? (i := 755) (by decide +kernel)⟩
theorem lw_p25 : lw_okq (⟨"PulledWiresModel", "takesBack", "(I)I"⟩, 17) := ⟨⟨by decide +kernel, by decide +kernel⟩, List.mem_of_getElem? (i := 672) (by decide +kernel), List.mem_of_getElem? (i := 762) (by decide +kernel), List.mem_of_getElem? (i := 763) (by decide +kernel)⟩
theorem lw_p26 : lw_okq (⟨"PulledWiresModel", "isTalking", "(I)Z"⟩, 17) := ⟨⟨by decide +kernel, by decide +kernel⟩, List.mem_of_getElem? (i := 672) (by decide +kernel), List.mem_of_getElem? (i := 766) (by decide +kernel), List.mem_of_getElem? (i := 767) (by decide +kernel)⟩
theorem lw_p27 : lw_okq (⟨"PulledWiresModel", "hears", "(II)I"⟩, 17) := ⟨⟨by decide +kernel, by decide +kernel⟩, List.mem_of_getElem? (i := 672) (by decide +kernel), List.mem_of_getElem? (i := 774) (by decide +kernel), List.mem_of_getElem? (i := 775) (by decide +kernel)⟩
theorem lw_p28 : lw_okq (⟨"PulledWiresModel", "listenerOf", "(I)I"⟩, 17) := ⟨⟨by decide +kernel, by decide +kernel⟩, List.mem_of_getElem? (i := 672) (by decide +kernel), List.mem_of_getElem? (i := 778) (by decide +kernel), List.mem_of_getElem? (i := 779) (by decide +kernel)⟩
theorem lw_p29 : lw_okq (⟨"PulledWiresModel", "holds", "(II)I"⟩, 17) := ⟨⟨by decide +kernel, by decide +kernel⟩, List.mem_of_getElem? (i := 672) (by decide +kernel), List.mem_of_getElem? (i := 786) (by decide +kernel), List.mem_of_getElem? (i := 787) (by decide +kernel)⟩
theorem lw_p30 : lw_okq (⟨"PulledWiresModel", "sticks", "(II)I"⟩, 17) := ⟨⟨by decide +kernel, by decide +kernel⟩, List.mem_of_getElem? (i := 672) (by decide +kernel), List.mem_of_getElem? (i := 794) (by decide +kernel), List.mem_of_getElem? (i := 795) (by decide +kernel)⟩
theorem lw_p31 : lw_okq (⟨"PulledWiresModel", "stuck", "()I"⟩, 17) := ⟨⟨by decide +kernel, by decide +kernel⟩, List.mem_of_getElem? (i := 672) (by decide +kernel), List.mem_of_getElem? (i := 798) (by decide +kernel), List.mem_of_getElem? (i := 799) (by decide +kernel)⟩
def lw_privs_2 : List (MethodName × Nat) := [(⟨"PulledWires$OrderText", "readNumber", "(I)Z"⟩, 5), (⟨"PulledWires$OrderText", "skip", "(C)Z"⟩, 5), (⟨"PulledWires$OrderText", "mostOf", "(I)I"⟩, 5), (⟨"PulledWires$OrderText", "digitHere", "()I"⟩, 5), (⟨"PulledWires$OrderText", "leastOf", "(I)I"⟩, 5), (⟨"PulledWires", "carryOutOrder", "()I"⟩, 9), (⟨"PulledWiresModel", "putAside", "()V"⟩, 17), (⟨"PulledWiresModel", "says", "(IIII)I"⟩, 17), (⟨"PulledWiresModel", "act", "(I)I"⟩, 17), (⟨"PulledWiresModel", "takesBack", "(I)I"⟩, 17), (⟨"PulledWiresModel", "isTalking", "(I)Z"⟩, 17), (⟨"PulledWiresModel", "hears", "(II)I"⟩, 17), (⟨"PulledWiresModel", "listenerOf", "(I)I"⟩, 17), (⟨"PulledWiresModel", "holds", "(II)I"⟩, 17), (⟨"PulledWiresModel", "sticks", "(II)I"⟩, 17), (⟨"PulledWiresModel", "stuck", "()I"⟩, 17)]
theorem lw_r2 : ∀ q ∈ lw_privs_2, lw_okq q := List.forall_mem_cons.mpr ⟨lw_p16, List.forall_mem_cons.mpr ⟨lw_p17, List.forall_mem_cons.mpr ⟨lw_p18, List.forall_mem_cons.mpr ⟨lw_p19, List.forall_mem_cons.mpr ⟨lw_p20, List.forall_mem_cons.mpr ⟨lw_p21, List.forall_mem_cons.mpr ⟨lw_p22, List.forall_mem_cons.mpr ⟨lw_p23, List.forall_mem_cons.mpr ⟨lw_p24, List.forall_mem_cons.mpr ⟨lw_p25, List.forall_mem_cons.mpr ⟨lw_p26, List.forall_mem_cons.mpr ⟨lw_p27, List.forall_mem_cons.mpr ⟨lw_p28, List.forall_mem_cons.mpr ⟨lw_p29, List.forall_mem_cons.mpr ⟨lw_p30, List.forall_mem_cons.mpr ⟨lw_p31, fun _ h => absurd h List.not_mem_nil⟩⟩⟩⟩⟩⟩⟩⟩⟩⟩⟩⟩⟩⟩⟩⟩
theorem lw_p32 : lw_okq (⟨"PulledWiresModel", "sets", "(II)I"⟩, 17) := ⟨⟨by decide +kernel, by decide +kernel⟩, List.mem_of_getElem? (i := 672) (by decide +kernel), List.mem_of_getElem? (i := 806) (by decide +kernel), List.mem_of_getElem? (i := 807) (by decide +kernel)⟩
theorem lw_p33 : lw_okq (⟨"PulledWiresModel", "runs", "(I)I"⟩, 17) := ⟨⟨by decide +kernel, by decide +kernel⟩, List.mem_of_getElem? (i := 672) (by decide +kernel), List.mem_of_getElem? (i := 817) (by decide +kernel), List.mem_of_getElem? (i := 818) (by decide +kernel)⟩
theorem lw_p34 : lw_okq (⟨"PulledWiresModel", "came", "()I"⟩, 17) := ⟨⟨by decide +kernel, by decide +kernel⟩, List.mem_of_getElem? (i := 672) (by decide +kernel), List.mem_of_getElem? (i := 822) (by decide +kernel), List.mem_of_getElem? (i := 823) (by decide +kernel)⟩
theorem lw_p35 : lw_okq (⟨"PulledWiresModel", "tick", "()V"⟩, 17) := ⟨⟨by decide +kernel, by decide +kernel⟩, List.mem_of_getElem? (i := 672) (by decide +kernel), List.mem_of_getElem? (i := 826) (by decide +kernel), List.mem_of_getElem? (i := 827) (by decide +kernel)⟩
theorem lw_p36 : lw_okq (⟨"PulledWiresModel", "next", "()I"⟩, 17) := ⟨⟨by decide +kernel, by decide +kernel⟩, List.mem_of_getElem? (i := 672) (by decide +kernel), List.mem_of_getElem? (i := 830) (by decide +kernel), List.mem_of_getElem? (i := 831) (by decide +kernel)⟩
theorem lw_p37 : lw_okq (⟨"PulledWiresModel", "talking", "()I"⟩, 17) := ⟨⟨by decide +kernel, by decide +kernel⟩, List.mem_of_getElem? (i := 672) (by decide +kernel), List.mem_of_getElem? (i := 834) (by decide +kernel), List.mem_of_getElem? (i := 835) (by decide +kernel)⟩
theorem lw_p38 : lw_okq (⟨"PulledWiresModel", "tickStuck", "()V"⟩, 17) := ⟨⟨by decide +kernel, by decide +kernel⟩, List.mem_of_getElem? (i := 672) (by decide +kernel), List.mem_of_getElem? (i := 841) (by decide +kernel), List.mem_of_getElem? (i := 842) (by decide +kernel)⟩
theorem lw_p39 : lw_okq (⟨"PulledWiresModel", "lose", "()I"⟩, 17) := ⟨⟨by decide +kernel, by decide +kernel⟩, List.mem_of_getElem? (i := 672) (by decide +kernel), List.mem_of_getElem? (i := 845) (by decide +kernel), List.mem_of_getElem? (i := 846) (by decide +kernel)⟩
theorem lw_p40 : lw_okq (⟨"PulledWiresModel", "bitAt", "(II)I"⟩, 17) := ⟨⟨by decide +kernel, by decide +kernel⟩, List.mem_of_getElem? (i := 672) (by decide +kernel), List.mem_of_getElem? (i := 849) (by decide +kernel), List.mem_of_getElem? (i := 850) (by decide +kernel)⟩
theorem lw_p41 : lw_okq (⟨"PulledWiresModel", "inMessage", "(III)I"⟩, 17) := ⟨⟨by decide +kernel, by decide +kernel⟩, List.mem_of_getElem? (i := 672) (by decide +kernel), List.mem_of_getElem? (i := 853) (by decide +kernel), List.mem_of_getElem? (i := 854) (by decide +kernel)⟩
theorem lw_p42 : lw_okq (⟨"PulledWiresModel", "endsIfEmpty", "()V"⟩, 17) := ⟨⟨by decide +kernel, by decide +kernel⟩, List.mem_of_getElem? (i := 672) (by decide +kernel), List.mem_of_getElem? (i := 857) (by decide +kernel), List.mem_of_getElem? (i := 858) (by decide +kernel)⟩
theorem lw_p43 : lw_okq (⟨"PulledWiresModel", "tickBit", "()V"⟩, 17) := ⟨⟨by decide +kernel, by decide +kernel⟩, List.mem_of_getElem? (i := 672) (by decide +kernel), List.mem_of_getElem? (i := 861) (by decide +kernel), List.mem_of_getElem? (i := 862) (by decide +kernel)⟩
theorem lw_p44 : lw_okq (⟨"PulledWiresModel", "logs", "(III)V"⟩, 17) := ⟨⟨by decide +kernel, by decide +kernel⟩, List.mem_of_getElem? (i := 672) (by decide +kernel), List.mem_of_getElem? (i := 865) (by decide +kernel), List.mem_of_getElem? (i := 866) (by decide +kernel)⟩
theorem lw_p45 : lw_okq (⟨"PulledWiresModel", "firstTalking", "()I"⟩, 17) := ⟨⟨by decide +kernel, by decide +kernel⟩, List.mem_of_getElem? (i := 672) (by decide +kernel), List.mem_of_getElem? (i := 869) (by decide +kernel), List.mem_of_getElem? (i := 870) (by decide +kernel)⟩
theorem lw_p46 : lw_okq (⟨"PulledWiresModel", "tickFree", "()V"⟩, 17) := ⟨⟨by decide +kernel, by decide +kernel⟩, List.mem_of_getElem? (i := 672) (by decide +kernel), List.mem_of_getElem? (i := 873) (by decide +kernel), List.mem_of_getElem? (i := 874) (by decide +kernel)⟩
theorem lw_p47 : lw_okq (⟨"PulledWiresModel", "messages", "()I"⟩, 17) := ⟨⟨by decide +kernel, by decide +kernel⟩, List.mem_of_getElem? (i := 672) (by decide +kernel), List.mem_of_getElem? (i := 877) (by decide +kernel), List.mem_of_getElem? (i := 878) (by decide +kernel)⟩
def lw_privs_3 : List (MethodName × Nat) := [(⟨"PulledWiresModel", "sets", "(II)I"⟩, 17), (⟨"PulledWiresModel", "runs", "(I)I"⟩, 17), (⟨"PulledWiresModel", "came", "()I"⟩, 17), (⟨"PulledWiresModel", "tick", "()V"⟩, 17), (⟨"PulledWiresModel", "next", "()I"⟩, 17), (⟨"PulledWiresModel", "talking", "()I"⟩, 17), (⟨"PulledWiresModel", "tickStuck", "()V"⟩, 17), (⟨"PulledWiresModel", "lose", "()I"⟩, 17), (⟨"PulledWiresModel", "bitAt", "(II)I"⟩, 17), (⟨"PulledWiresModel", "inMessage", "(III)I"⟩, 17), (⟨"PulledWiresModel", "endsIfEmpty", "()V"⟩, 17), (⟨"PulledWiresModel", "tickBit", "()V"⟩, 17), (⟨"PulledWiresModel", "logs", "(III)V"⟩, 17), (⟨"PulledWiresModel", "firstTalking", "()I"⟩, 17), (⟨"PulledWiresModel", "tickFree", "()V"⟩, 17), (⟨"PulledWiresModel", "messages", "()I"⟩, 17)]
theorem lw_r3 : ∀ q ∈ lw_privs_3, lw_okq q := List.forall_mem_cons.mpr ⟨lw_p32, List.forall_mem_cons.mpr ⟨lw_p33, List.forall_mem_cons.mpr ⟨lw_p34, List.forall_mem_cons.mpr ⟨lw_p35, List.forall_mem_cons.mpr ⟨lw_p36, List.forall_mem_cons.mpr ⟨lw_p37, List.forall_mem_cons.mpr ⟨lw_p38, List.forall_mem_cons.mpr ⟨lw_p39, List.forall_mem_cons.mpr ⟨lw_p40, List.forall_mem_cons.mpr ⟨lw_p41, List.forall_mem_cons.mpr ⟨lw_p42, List.forall_mem_cons.mpr ⟨lw_p43, List.forall_mem_cons.mpr ⟨lw_p44, List.forall_mem_cons.mpr ⟨lw_p45, List.forall_mem_cons.mpr ⟨lw_p46, List.forall_mem_cons.mpr ⟨lw_p47, fun _ h => absurd h List.not_mem_nil⟩⟩⟩⟩⟩⟩⟩⟩⟩⟩⟩⟩⟩⟩⟩⟩
theorem lw_p48 : lw_okq (⟨"PulledWiresModel", "tickUnanswered", "()V"⟩, 17) := ⟨⟨by decide +kernel, by decide +kernel⟩, List.mem_of_getElem? (i := 672) (by decide +kernel), List.mem_of_getElem? (i := 881) (by decide +kernel), List.mem_of_getElem? (i := 882) (by decide +kernel)⟩
theorem lw_p49 : lw_okq (⟨"PulledWiresModel", "dropFirst", "(I)V"⟩, 17) := ⟨⟨by decide +kernel, by decide +kernel⟩, List.mem_of_getElem? (i := 672) (by decide +kernel), List.mem_of_getElem? (i := 885) (by decide +kernel), List.mem_of_getElem? (i := 886) (by decide +kernel)⟩
theorem lw_p50 : lw_okq (⟨"PulledWiresModel", "tickAnswered", "(I)V"⟩, 17) := ⟨⟨by decide +kernel, by decide +kernel⟩, List.mem_of_getElem? (i := 672) (by decide +kernel), List.mem_of_getElem? (i := 889) (by decide +kernel), List.mem_of_getElem? (i := 890) (by decide +kernel)⟩
theorem lw_p51 : lw_okq (⟨"PulledWiresModel", "go", "(Z)I"⟩, 17) := ⟨⟨by decide +kernel, by decide +kernel⟩, List.mem_of_getElem? (i := 672) (by decide +kernel), List.mem_of_getElem? (i := 908) (by decide +kernel), List.mem_of_getElem? (i := 909) (by decide +kernel)⟩
theorem lw_p52 : lw_okq (⟨"PulledWiresModel", "order", "()V"⟩, 17) := ⟨⟨by decide +kernel, by decide +kernel⟩, List.mem_of_getElem? (i := 672) (by decide +kernel), List.mem_of_getElem? (i := 912) (by decide +kernel), List.mem_of_getElem? (i := 913) (by decide +kernel)⟩
theorem lw_p53 : lw_okq (⟨"PulledWiresModel", "sign", "(I)V"⟩, 17) := ⟨⟨by decide +kernel, by decide +kernel⟩, List.mem_of_getElem? (i := 672) (by decide +kernel), List.mem_of_getElem? (i := 916) (by decide +kernel), List.mem_of_getElem? (i := 917) (by decide +kernel)⟩
theorem lw_p54 : lw_okq (⟨"PulledWiresModel", "number", "(II)I"⟩, 17) := ⟨⟨by decide +kernel, by decide +kernel⟩, List.mem_of_getElem? (i := 672) (by decide +kernel), List.mem_of_getElem? (i := 920) (by decide +kernel), List.mem_of_getElem? (i := 921) (by decide +kernel)⟩
theorem lw_p55 : lw_okq (⟨"PulledWiresModel", "isDigit", "()Z"⟩, 17) := ⟨⟨by decide +kernel, by decide +kernel⟩, List.mem_of_getElem? (i := 672) (by decide +kernel), List.mem_of_getElem? (i := 924) (by decide +kernel), List.mem_of_getElem? (i := 925) (by decide +kernel)⟩
theorem lw_p56 : lw_okq (⟨"PulledWiresModel", "isNext", "(I)Z"⟩, 17) := ⟨⟨by decide +kernel, by decide +kernel⟩, List.mem_of_getElem? (i := 672) (by decide +kernel), List.mem_of_getElem? (i := 928) (by decide +kernel), List.mem_of_getElem? (i := 929) (by decide +kernel)⟩
theorem lw_p57 : lw_okq (⟨"PulledWiresModel", "does", "()I"⟩, 17) := ⟨⟨by decide +kernel, by decide +kernel⟩, List.mem_of_getElem? (i := 672) (by decide +kernel), List.mem_of_getElem? (i := 932) (by decide +kernel), List.mem_of_getElem? (i := 933) (by decide +kernel)⟩
theorem lw_p58 : lw_okq (⟨"PulledWiresModel", "putBack", "()V"⟩, 17) := ⟨⟨by decide +kernel, by decide +kernel⟩, List.mem_of_getElem? (i := 672) (by decide +kernel), List.mem_of_getElem? (i := 936) (by decide +kernel), List.mem_of_getElem? (i := 937) (by decide +kernel)⟩
theorem lw_p59 : lw_okq (⟨"PulledWiresModel", "ticksOf", "(II)I"⟩, 17) := ⟨⟨by decide +kernel, by decide +kernel⟩, List.mem_of_getElem? (i := 672) (by decide +kernel), List.mem_of_getElem? (i := 964) (by decide +kernel), List.mem_of_getElem? (i := 965) (by decide +kernel)⟩
def lw_privs_4 : List (MethodName × Nat) := [(⟨"PulledWiresModel", "tickUnanswered", "()V"⟩, 17), (⟨"PulledWiresModel", "dropFirst", "(I)V"⟩, 17), (⟨"PulledWiresModel", "tickAnswered", "(I)V"⟩, 17), (⟨"PulledWiresModel", "go", "(Z)I"⟩, 17), (⟨"PulledWiresModel", "order", "()V"⟩, 17), (⟨"PulledWiresModel", "sign", "(I)V"⟩, 17), (⟨"PulledWiresModel", "number", "(II)I"⟩, 17), (⟨"PulledWiresModel", "isDigit", "()Z"⟩, 17), (⟨"PulledWiresModel", "isNext", "(I)Z"⟩, 17), (⟨"PulledWiresModel", "does", "()I"⟩, 17), (⟨"PulledWiresModel", "putBack", "()V"⟩, 17), (⟨"PulledWiresModel", "ticksOf", "(II)I"⟩, 17)]
theorem lw_r4 : ∀ q ∈ lw_privs_4, lw_okq q := List.forall_mem_cons.mpr ⟨lw_p48, List.forall_mem_cons.mpr ⟨lw_p49, List.forall_mem_cons.mpr ⟨lw_p50, List.forall_mem_cons.mpr ⟨lw_p51, List.forall_mem_cons.mpr ⟨lw_p52, List.forall_mem_cons.mpr ⟨lw_p53, List.forall_mem_cons.mpr ⟨lw_p54, List.forall_mem_cons.mpr ⟨lw_p55, List.forall_mem_cons.mpr ⟨lw_p56, List.forall_mem_cons.mpr ⟨lw_p57, List.forall_mem_cons.mpr ⟨lw_p58, List.forall_mem_cons.mpr ⟨lw_p59, fun _ h => absurd h List.not_mem_nil⟩⟩⟩⟩⟩⟩⟩⟩⟩⟩⟩⟩
def lw_privs : List (MethodName × Nat) := lw_privs_1 ++ (lw_privs_2 ++ (lw_privs_3 ++ (lw_privs_4)))
def lw_tbl : List Cond := k2_sels lw_privs ++ tables_1
theorem lw_privs_ok : ∀ q ∈ lw_privs, lw_okq q := by
  show ∀ q ∈ lw_privs_1 ++ (lw_privs_2 ++ (lw_privs_3 ++ (lw_privs_4))), lw_okq q
  exact List.forall_mem_append.mpr ⟨lw_r1, List.forall_mem_append.mpr ⟨lw_r2, List.forall_mem_append.mpr ⟨lw_r3, lw_r4⟩⟩⟩
end
section
def RX0 : String := "PulledWires$BitLog"
def TX0 : u_T := fun k => match k with
  | 0 => ("PulledWires$BitLog", "cells", "[I", true)
  | 1 => ("PulledWires$BitLog", "next", "I", false)
  | _ => ("PulledWires$BitLog", "size", "I", false)
def tyX0 : Nat → FieldType := fun k => match k with
  | 0 => .array .int
  | 1 => .int
  | _ => .int
abbrev wsX00 : List Cond := u_ws RX0 TX0 3
theorem nmX0 : ∀ a, a < 3 → ∀ b, b < 3 → a ≠ b → (TX0 a).2.1 ≠ (TX0 b).2.1 := by decide +kernel
theorem tyX0_ok : ∀ k, k < 3 → parseFieldDescriptor (TX0 k).2.2.1 = some (tyX0 k) := by decide +kernel
abbrev cX0_init : ByteArray := prog_2_method_1_code
def yX0_init : MethodName := ⟨RX0, "<init>", "()V"⟩
abbrev cX0_copyFrom : ByteArray := prog_2_method_2_code
def yX0_copyFrom : MethodName := ⟨RX0, "copyFrom", "(LPulledWires$BitLog;)V"⟩
abbrev cX0_add : ByteArray := prog_2_method_3_code
def yX0_add : MethodName := ⟨RX0, "add", "(IIII)V"⟩
abbrev cX0_tell : ByteArray := prog_2_method_4_code
def yX0_tell : MethodName := ⟨RX0, "tell", "(II)I"⟩
def RX1 : String := "PulledWires$Listener"
def TX1 : u_T := fun k => match k with
  | 0 => ("PulledWires$Listener", "address", "I", false)
  | 1 => ("PulledWires$Listener", "hold", "I", false)
  | 2 => ("PulledWires$Listener", "stuck", "I", false)
  | 3 => ("PulledWires$Listener", "wordsTaken", "I", false)
  | _ => ("PulledWires$Listener", "latestWord", "I", false)
def tyX1 : Nat → FieldType := fun k => match k with
  | 0 => .int
  | 1 => .int
  | 2 => .int
  | 3 => .int
  | _ => .int
abbrev wsX10 : List Cond := u_ws RX1 TX1 5
theorem nmX1 : ∀ a, a < 5 → ∀ b, b < 5 → a ≠ b → (TX1 a).2.1 ≠ (TX1 b).2.1 := by decide +kernel
theorem tyX1_ok : ∀ k, k < 5 → parseFieldDescriptor (TX1 k).2.2.1 = some (tyX1 k) := by decide +kernel
abbrev cX1_init : ByteArray := prog_3_method_1_code
def yX1_init : MethodName := ⟨RX1, "<init>", "()V"⟩
abbrev cX1_copyFrom : ByteArray := prog_3_method_2_code
def yX1_copyFrom : MethodName := ⟨RX1, "copyFrom", "(LPulledWires$Listener;)V"⟩
abbrev cX1_takeWord : ByteArray := prog_3_method_3_code
def yX1_takeWord : MethodName := ⟨RX1, "takeWord", "(I)V"⟩
def RX2 : String := "PulledWires$OrderText"
def TX2 : u_T := fun k => match k with
  | 0 => ("PulledWires$OrderText", "characters", "[C", true)
  | 1 => ("PulledWires$OrderText", "numbers", "[I", true)
  | 2 => ("PulledWires$OrderText", "length", "I", false)
  | 3 => ("PulledWires$OrderText", "at", "I", false)
  | _ => ("PulledWires$OrderText", "kind", "I", false)
def tyX2 : Nat → FieldType := fun k => match k with
  | 0 => .array .char
  | 1 => .array .int
  | 2 => .int
  | 3 => .int
  | _ => .int
abbrev wsX20 : List Cond := u_ws RX2 TX2 5
theorem nmX2 : ∀ a, a < 5 → ∀ b, b < 5 → a ≠ b → (TX2 a).2.1 ≠ (TX2 b).2.1 := by decide +kernel
theorem tyX2_ok : ∀ k, k < 5 → parseFieldDescriptor (TX2 k).2.2.1 = some (tyX2 k) := by decide +kernel
abbrev cX2_init : ByteArray := prog_4_method_1_code
def yX2_init : MethodName := ⟨RX2, "<init>", "()V"⟩
abbrev cX2_append : ByteArray := prog_4_method_2_code
def yX2_append : MethodName := ⟨RX2, "append", "(C)I"⟩
abbrev cX2_empty : ByteArray := prog_4_method_3_code
def yX2_empty : MethodName := ⟨RX2, "empty", "()I"⟩
abbrev cX2_rewind : ByteArray := prog_4_method_4_code
def yX2_rewind : MethodName := ⟨RX2, "rewind", "()V"⟩
abbrev cX2_number : ByteArray := prog_4_method_5_code
def yX2_number : MethodName := ⟨RX2, "number", "(I)I"⟩
abbrev cX2_countOrders : ByteArray := prog_4_method_6_code
def yX2_countOrders : MethodName := ⟨RX2, "countOrders", "()I"⟩
abbrev cX2_readOrder : ByteArray := prog_4_method_7_code
def yX2_readOrder : MethodName := ⟨RX2, "readOrder", "()Z"⟩
abbrev cX2_skipSeparator : ByteArray := prog_4_method_8_code
def yX2_skipSeparator : MethodName := ⟨RX2, "skipSeparator", "()Z"⟩
abbrev cX2_readName : ByteArray := prog_4_method_9_code
def yX2_readName : MethodName := ⟨RX2, "readName", "()Z"⟩
abbrev cX2_sameCharacters : ByteArray := prog_4_method_10_code
def yX2_sameCharacters : MethodName := ⟨RX2, "sameCharacters", "(Ljava/lang/String;)I"⟩
abbrev cX2_readNumbers : ByteArray := prog_4_method_11_code
def yX2_readNumbers : MethodName := ⟨RX2, "readNumbers", "()Z"⟩
abbrev cX2_readNumber : ByteArray := prog_4_method_12_code
def yX2_readNumber : MethodName := ⟨RX2, "readNumber", "(I)Z"⟩
abbrev cX2_skip : ByteArray := prog_4_method_13_code
def yX2_skip : MethodName := ⟨RX2, "skip", "(C)Z"⟩
abbrev cX2_isCharacter : ByteArray := prog_4_method_14_code
def yX2_isCharacter : MethodName := ⟨RX2, "isCharacter", "(IC)Z"⟩
abbrev cX2_digitHere : ByteArray := prog_4_method_15_code
def yX2_digitHere : MethodName := ⟨RX2, "digitHere", "()I"⟩
abbrev cX2_nameOf : ByteArray := prog_4_method_16_code
def yX2_nameOf : MethodName := ⟨RX2, "nameOf", "(I)Ljava/lang/String;"⟩
abbrev cX2_leastOf : ByteArray := prog_4_method_17_code
def yX2_leastOf : MethodName := ⟨RX2, "leastOf", "(I)I"⟩
abbrev cX2_mostOf : ByteArray := prog_4_method_18_code
def yX2_mostOf : MethodName := ⟨RX2, "mostOf", "(I)I"⟩
def RX3 : String := "PulledWires$Speaker"
def TX3 : u_T := fun k => match k with
  | 0 => ("PulledWires$Speaker", "parts", "[I", true)
  | 1 => ("PulledWires$Speaker", "size", "I", false)
  | 2 => ("PulledWires$Speaker", "talking", "Z", false)
  | 3 => ("PulledWires$Speaker", "came", "I", false)
  | 4 => ("PulledWires$Speaker", "lost", "I", false)
  | 5 => ("PulledWires$Speaker", "failed", "I", false)
  | 6 => ("PulledWires$Speaker", "dropped", "I", false)
  | _ => ("PulledWires$Speaker", "failuresOfFirst", "I", false)
def tyX3 : Nat → FieldType := fun k => match k with
  | 0 => .array .int
  | 1 => .int
  | 2 => .boolean
  | 3 => .int
  | 4 => .int
  | 5 => .int
  | 6 => .int
  | _ => .int
abbrev wsX30 : List Cond := u_ws RX3 TX3 8
theorem nmX3 : ∀ a, a < 8 → ∀ b, b < 8 → a ≠ b → (TX3 a).2.1 ≠ (TX3 b).2.1 := by decide +kernel
theorem tyX3_ok : ∀ k, k < 8 → parseFieldDescriptor (TX3 k).2.2.1 = some (tyX3 k) := by decide +kernel
abbrev cX3_init : ByteArray := prog_5_method_1_code
def yX3_init : MethodName := ⟨RX3, "<init>", "()V"⟩
abbrev cX3_copyFrom : ByteArray := prog_5_method_2_code
def yX3_copyFrom : MethodName := ⟨RX3, "copyFrom", "(LPulledWires$Speaker;)V"⟩
abbrev cX3_append : ByteArray := prog_5_method_3_code
def yX3_append : MethodName := ⟨RX3, "append", "(III)V"⟩
abbrev cX3_removeLast : ByteArray := prog_5_method_4_code
def yX3_removeLast : MethodName := ⟨RX3, "removeLast", "()V"⟩
abbrev cX3_removeFirst : ByteArray := prog_5_method_5_code
def yX3_removeFirst : MethodName := ⟨RX3, "removeFirst", "()V"⟩
abbrev cX3_lose : ByteArray := prog_5_method_6_code
def yX3_lose : MethodName := ⟨RX3, "lose", "()V"⟩
abbrev cX3_bringMessage : ByteArray := prog_5_method_7_code
def yX3_bringMessage : MethodName := ⟨RX3, "bringMessage", "()V"⟩
abbrev cX3_failMessage : ByteArray := prog_5_method_8_code
def yX3_failMessage : MethodName := ⟨RX3, "failMessage", "(I)V"⟩
abbrev cX3_part : ByteArray := prog_5_method_9_code
def yX3_part : MethodName := ⟨RX3, "part", "(II)I"⟩
abbrev cX3_partsAt : ByteArray := prog_5_method_10_code
def yX3_partsAt : MethodName := ⟨RX3, "partsAt", "(I)I"⟩
def RX4 : String := "PulledWires$State"
def TX4 : u_T := fun k => match k with
  | 0 => ("PulledWires$State", "speakers", "[LPulledWires$Speaker;", true)
  | 1 => ("PulledWires$State", "listeners", "[LPulledWires$Listener;", true)
  | 2 => ("PulledWires$State", "settings", "[I", true)
  | 3 => ("PulledWires$State", "log", "LPulledWires$BitLog;", true)
  | 4 => ("PulledWires$State", "clock", "I", false)
  | 5 => ("PulledWires$State", "over", "I", false)
  | 6 => ("PulledWires$State", "held", "I", false)
  | 7 => ("PulledWires$State", "free", "I", false)
  | 8 => ("PulledWires$State", "stuckInRow", "I", false)
  | 9 => ("PulledWires$State", "talks", "I", false)
  | _ => ("PulledWires$State", "shakes", "I", false)
def tyX4 : Nat → FieldType := fun k => match k with
  | 0 => .array (.object "PulledWires$Speaker")
  | 1 => .array (.object "PulledWires$Listener")
  | 2 => .array .int
  | 3 => .object "PulledWires$BitLog"
  | 4 => .int
  | 5 => .int
  | 6 => .int
  | 7 => .int
  | 8 => .int
  | 9 => .int
  | _ => .int
abbrev wsX40 : List Cond := u_ws RX4 TX4 11
theorem nmX4 : ∀ a, a < 11 → ∀ b, b < 11 → a ≠ b → (TX4 a).2.1 ≠ (TX4 b).2.1 := by decide +kernel
theorem tyX4_ok : ∀ k, k < 11 → parseFieldDescriptor (TX4 k).2.2.1 = some (tyX4 k) := by decide +kernel
abbrev cX4_init : ByteArray := prog_6_method_1_code
def yX4_init : MethodName := ⟨RX4, "<init>", "()V"⟩
abbrev cX4_copyFrom : ByteArray := prog_6_method_2_code
def yX4_copyFrom : MethodName := ⟨RX4, "copyFrom", "(LPulledWires$State;)V"⟩
abbrev cX4_addMessage : ByteArray := prog_6_method_3_code
def yX4_addMessage : MethodName := ⟨RX4, "addMessage", "(IIII)I"⟩
abbrev cX4_dropLast : ByteArray := prog_6_method_4_code
def yX4_dropLast : MethodName := ⟨RX4, "dropLast", "(I)I"⟩
abbrev cX4_giveAddress : ByteArray := prog_6_method_5_code
def yX4_giveAddress : MethodName := ⟨RX4, "giveAddress", "(II)I"⟩
abbrev cX4_giveHold : ByteArray := prog_6_method_6_code
def yX4_giveHold : MethodName := ⟨RX4, "giveHold", "(II)I"⟩
abbrev cX4_makeStuck : ByteArray := prog_6_method_7_code
def yX4_makeStuck : MethodName := ⟨RX4, "makeStuck", "(II)I"⟩
abbrev cX4_changeSetting : ByteArray := prog_6_method_8_code
def yX4_changeSetting : MethodName := ⟨RX4, "changeSetting", "(II)I"⟩
abbrev cX4_passTicks : ByteArray := prog_6_method_9_code
def yX4_passTicks : MethodName := ⟨RX4, "passTicks", "(I)I"⟩
abbrev cX4_nextTick : ByteArray := prog_6_method_10_code
def yX4_nextTick : MethodName := ⟨RX4, "nextTick", "()I"⟩
abbrev cX4_tick : ByteArray := prog_6_method_11_code
def yX4_tick : MethodName := ⟨RX4, "tick", "()V"⟩
abbrev cX4_stuckTick : ByteArray := prog_6_method_12_code
def yX4_stuckTick : MethodName := ⟨RX4, "stuckTick", "()V"⟩
abbrev cX4_sendBit : ByteArray := prog_6_method_13_code
def yX4_sendBit : MethodName := ⟨RX4, "sendBit", "()V"⟩
abbrev cX4_awaitAnswer : ByteArray := prog_6_method_14_code
def yX4_awaitAnswer : MethodName := ⟨RX4, "awaitAnswer", "()V"⟩
abbrev cX4_freeTick : ByteArray := prog_6_method_15_code
def yX4_freeTick : MethodName := ⟨RX4, "freeTick", "()V"⟩
abbrev cX4_lose : ByteArray := prog_6_method_16_code
def yX4_lose : MethodName := ⟨RX4, "lose", "(I)V"⟩
abbrev cX4_endTalkIfEmpty : ByteArray := prog_6_method_17_code
def yX4_endTalkIfEmpty : MethodName := ⟨RX4, "endTalkIfEmpty", "()V"⟩
abbrev cX4_speakerAt : ByteArray := prog_6_method_18_code
def yX4_speakerAt : MethodName := ⟨RX4, "speakerAt", "(I)LPulledWires$Speaker;"⟩
abbrev cX4_listenerAt : ByteArray := prog_6_method_19_code
def yX4_listenerAt : MethodName := ⟨RX4, "listenerAt", "(I)LPulledWires$Listener;"⟩
abbrev cX4_listenerWith : ByteArray := prog_6_method_20_code
def yX4_listenerWith : MethodName := ⟨RX4, "listenerWith", "(I)LPulledWires$Listener;"⟩
abbrev cX4_listenersWithAddress : ByteArray := prog_6_method_21_code
def yX4_listenersWithAddress : MethodName := ⟨RX4, "listenersWithAddress", "()I"⟩
abbrev cX4_stuckListeners : ByteArray := prog_6_method_22_code
def yX4_stuckListeners : MethodName := ⟨RX4, "stuckListeners", "()I"⟩
abbrev cX4_holdFor : ByteArray := prog_6_method_23_code
def yX4_holdFor : MethodName := ⟨RX4, "holdFor", "(I)I"⟩
abbrev cX4_setting : ByteArray := prog_6_method_24_code
def yX4_setting : MethodName := ⟨RX4, "setting", "(I)I"⟩
abbrev cX4_messagesInLines : ByteArray := prog_6_method_25_code
def yX4_messagesInLines : MethodName := ⟨RX4, "messagesInLines", "()I"⟩
abbrev cX4_messagesThatCame : ByteArray := prog_6_method_26_code
def yX4_messagesThatCame : MethodName := ⟨RX4, "messagesThatCame", "()I"⟩
abbrev cX4_cameFrom : ByteArray := prog_6_method_27_code
def yX4_cameFrom : MethodName := ⟨RX4, "cameFrom", "(I)I"⟩
abbrev cX4_isIn : ByteArray := prog_6_method_28_code
def yX4_isIn : MethodName := ⟨RX4, "isIn", "(II)Z"⟩
abbrev cX4_talkers : ByteArray := prog_6_method_29_code
def yX4_talkers : MethodName := ⟨RX4, "talkers", "()I"⟩
abbrev cX4_speakersWithMessage : ByteArray := prog_6_method_30_code
def yX4_speakersWithMessage : MethodName := ⟨RX4, "speakersWithMessage", "()I"⟩
abbrev cX4_sendersOf : ByteArray := prog_6_method_31_code
def yX4_sendersOf : MethodName := ⟨RX4, "sendersOf", "(III)I"⟩
abbrev cX4_endsAt : ByteArray := prog_6_method_32_code
def yX4_endsAt : MethodName := ⟨RX4, "endsAt", "(LPulledWires$Speaker;I)Z"⟩
abbrev cX4_endingAt : ByteArray := prog_6_method_33_code
def yX4_endingAt : MethodName := ⟨RX4, "endingAt", "(II)I"⟩
abbrev cX4_partOfTalk : ByteArray := prog_6_method_34_code
def yX4_partOfTalk : MethodName := ⟨RX4, "partOfTalk", "(I)I"⟩
def RX5 : String := "PulledWires"
def TX5 : u_T := fun k => match k with
  | 0 => ("PulledWires", "now", "LPulledWires$State;", true)
  | 1 => ("PulledWires", "snapshot", "LPulledWires$State;", true)
  | 2 => ("PulledWires", "history", "[LPulledWires$State;", true)
  | 3 => ("PulledWires", "text", "LPulledWires$OrderText;", true)
  | 4 => ("PulledWires", "spare", "LPulledWires$State;", false)
  | 5 => ("PulledWires", "historySize", "I", false)
  | 6 => ("PulledWires", "hasSnapshot", "Z", false)
  | 7 => ("PulledWires", "stoppedOrder", "I", false)
  | _ => ("PulledWires", "stoppedError", "I", false)
def tyX5 : Nat → FieldType := fun k => match k with
  | 0 => .object "PulledWires$State"
  | 1 => .object "PulledWires$State"
  | 2 => .array (.object "PulledWires$State")
  | 3 => .object "PulledWires$OrderText"
  | 4 => .object "PulledWires$State"
  | 5 => .int
  | 6 => .boolean
  | 7 => .int
  | _ => .int
abbrev wsX50 : List Cond := u_ws RX5 TX5 9
theorem nmX5 : ∀ a, a < 9 → ∀ b, b < 9 → a ≠ b → (TX5 a).2.1 ≠ (TX5 b).2.1 := by decide +kernel
theorem tyX5_ok : ∀ k, k < 9 → parseFieldDescriptor (TX5 k).2.2.1 = some (tyX5 k) := by decide +kernel
abbrev cX5_init : ByteArray := prog_1_method_1_code
def yX5_init : MethodName := ⟨RX5, "<init>", "()V"⟩
abbrev cX5_say : ByteArray := prog_1_method_2_code
def yX5_say : MethodName := ⟨RX5, "say", "(IIII)I"⟩
abbrev cX5_takeBack : ByteArray := prog_1_method_3_code
def yX5_takeBack : MethodName := ⟨RX5, "takeBack", "(I)I"⟩
abbrev cX5_hear : ByteArray := prog_1_method_4_code
def yX5_hear : MethodName := ⟨RX5, "hear", "(II)I"⟩
abbrev cX5_hold : ByteArray := prog_1_method_5_code
def yX5_hold : MethodName := ⟨RX5, "hold", "(II)I"⟩
abbrev cX5_stick : ByteArray := prog_1_method_6_code
def yX5_stick : MethodName := ⟨RX5, "stick", "(II)I"⟩
abbrev cX5_set : ByteArray := prog_1_method_7_code
def yX5_set : MethodName := ⟨RX5, "set", "(II)I"⟩
abbrev cX5_run : ByteArray := prog_1_method_8_code
def yX5_run : MethodName := ⟨RX5, "run", "(I)I"⟩
abbrev cX5_type : ByteArray := prog_1_method_9_code
def yX5_type : MethodName := ⟨RX5, "type", "(C)I"⟩
abbrev cX5_clearText : ByteArray := prog_1_method_10_code
def yX5_clearText : MethodName := ⟨RX5, "clearText", "()I"⟩
abbrev cX5_perform : ByteArray := prog_1_method_11_code
def yX5_perform : MethodName := ⟨RX5, "perform", "()I"⟩
abbrev cX5_stopped : ByteArray := prog_1_method_12_code
def yX5_stopped : MethodName := ⟨RX5, "stopped", "(I)I"⟩
abbrev cX5_undo : ByteArray := prog_1_method_13_code
def yX5_undo : MethodName := ⟨RX5, "undo", "()I"⟩
abbrev cX5_keep : ByteArray := prog_1_method_14_code
def yX5_keep : MethodName := ⟨RX5, "keep", "()I"⟩
abbrev cX5_restore : ByteArray := prog_1_method_15_code
def yX5_restore : MethodName := ⟨RX5, "restore", "()I"⟩
abbrev cX5_speaker : ByteArray := prog_1_method_16_code
def yX5_speaker : MethodName := ⟨RX5, "speaker", "(II)I"⟩
abbrev cX5_message : ByteArray := prog_1_method_17_code
def yX5_message : MethodName := ⟨RX5, "message", "(III)I"⟩
abbrev cX5_listener : ByteArray := prog_1_method_18_code
def yX5_listener : MethodName := ⟨RX5, "listener", "(II)I"⟩
abbrev cX5_bit : ByteArray := prog_1_method_19_code
def yX5_bit : MethodName := ⟨RX5, "bit", "(II)I"⟩
abbrev cX5_winners : ByteArray := prog_1_method_20_code
def yX5_winners : MethodName := ⟨RX5, "winners", "()I"⟩
abbrev cX5_emptyIn : ByteArray := prog_1_method_21_code
def yX5_emptyIn : MethodName := ⟨RX5, "emptyIn", "()I"⟩
abbrev cX5_ifRun : ByteArray := prog_1_method_22_code
def yX5_ifRun : MethodName := ⟨RX5, "ifRun", "(II)I"⟩
abbrev cX5_count : ByteArray := prog_1_method_23_code
def yX5_count : MethodName := ⟨RX5, "count", "(I)I"⟩
abbrev cX5_recorded : ByteArray := prog_1_method_24_code
def yX5_recorded : MethodName := ⟨RX5, "recorded", "(I)I"⟩
abbrev cX5_carryOutOrder : ByteArray := prog_1_method_25_code
def yX5_carryOutOrder : MethodName := ⟨RX5, "carryOutOrder", "()I"⟩
abbrev cX5_isIndex : ByteArray := prog_1_method_26_code
def yX5_isIndex : MethodName := ⟨RX5, "isIndex", "(II)Z"⟩
abbrev cX5_isPlace : ByteArray := prog_1_method_27_code
def yX5_isPlace : MethodName := ⟨RX5, "isPlace", "(I)Z"⟩
def RX6 : String := "PulledWiresModel"
def TX6 : u_T := fun k => match k with
  | 0 => ("PulledWiresModel", "s", "[I", true)
  | 1 => ("PulledWiresModel", "aside", "[I", true)
  | 2 => ("PulledWiresModel", "before", "[I", true)
  | 3 => ("PulledWiresModel", "known", "I", false)
  | 4 => ("PulledWiresModel", "kept", "[I", true)
  | 5 => ("PulledWiresModel", "isKept", "Z", false)
  | 6 => ("PulledWiresModel", "text", "[I", true)
  | 7 => ("PulledWiresModel", "length", "I", false)
  | 8 => ("PulledWiresModel", "stopPlace", "I", false)
  | 9 => ("PulledWiresModel", "stopError", "I", false)
  | 10 => ("PulledWiresModel", "place", "I", false)
  | 11 => ("PulledWiresModel", "isWrong", "Z", false)
  | 12 => ("PulledWiresModel", "letter", "I", false)
  | 13 => ("PulledWiresModel", "one", "I", false)
  | 14 => ("PulledWiresModel", "two", "I", false)
  | 15 => ("PulledWiresModel", "three", "I", false)
  | _ => ("PulledWiresModel", "four", "I", false)
def tyX6 : Nat → FieldType := fun k => match k with
  | 0 => .array .int
  | 1 => .array .int
  | 2 => .array .int
  | 3 => .int
  | 4 => .array .int
  | 5 => .boolean
  | 6 => .array .int
  | 7 => .int
  | 8 => .int
  | 9 => .int
  | 10 => .int
  | 11 => .boolean
  | 12 => .int
  | 13 => .int
  | 14 => .int
  | 15 => .int
  | _ => .int
abbrev wsX60 : List Cond := u_ws RX6 TX6 17
theorem nmX6 : ∀ a, a < 17 → ∀ b, b < 17 → a ≠ b → (TX6 a).2.1 ≠ (TX6 b).2.1 := by decide +kernel
theorem tyX6_ok : ∀ k, k < 17 → parseFieldDescriptor (TX6 k).2.2.1 = some (tyX6 k) := by decide +kernel
abbrev cX6_init : ByteArray := prog_8_method_1_code
def yX6_init : MethodName := ⟨RX6, "<init>", "()V"⟩
abbrev cX6_in : ByteArray := prog_8_method_3_code
def yX6_in : MethodName := ⟨RX6, "in", "(III)Z"⟩
abbrev cX6_of : ByteArray := prog_8_method_4_code
def yX6_of : MethodName := ⟨RX6, "of", "(II)I"⟩
abbrev cX6_ofListener : ByteArray := prog_8_method_5_code
def yX6_ofListener : MethodName := ⟨RX6, "ofListener", "(II)I"⟩
abbrev cX6_inMessage : ByteArray := prog_8_method_6_code
def yX6_inMessage : MethodName := ⟨RX6, "inMessage", "(III)I"⟩
abbrev cX6_isOne : ByteArray := prog_8_method_7_code
def yX6_isOne : MethodName := ⟨RX6, "isOne", "(I)Z"⟩
abbrev cX6_putAside : ByteArray := prog_8_method_8_code
def yX6_putAside : MethodName := ⟨RX6, "putAside", "()V"⟩
abbrev cX6_putBack : ByteArray := prog_8_method_9_code
def yX6_putBack : MethodName := ⟨RX6, "putBack", "()V"⟩
abbrev cX6_act : ByteArray := prog_8_method_10_code
def yX6_act : MethodName := ⟨RX6, "act", "(I)I"⟩
abbrev cX6_bitsOf : ByteArray := prog_8_method_11_code
def yX6_bitsOf : MethodName := ⟨RX6, "bitsOf", "(I)I"⟩
abbrev cX6_isAnswer : ByteArray := prog_8_method_12_code
def yX6_isAnswer : MethodName := ⟨RX6, "isAnswer", "(I)Z"⟩
abbrev cX6_bitAt : ByteArray := prog_8_method_13_code
def yX6_bitAt : MethodName := ⟨RX6, "bitAt", "(II)I"⟩
abbrev cX6_dropFirst : ByteArray := prog_8_method_14_code
def yX6_dropFirst : MethodName := ⟨RX6, "dropFirst", "(I)V"⟩
abbrev cX6_isTalking : ByteArray := prog_8_method_15_code
def yX6_isTalking : MethodName := ⟨RX6, "isTalking", "(I)Z"⟩
abbrev cX6_talking : ByteArray := prog_8_method_16_code
def yX6_talking : MethodName := ⟨RX6, "talking", "()I"⟩
abbrev cX6_firstTalking : ByteArray := prog_8_method_17_code
def yX6_firstTalking : MethodName := ⟨RX6, "firstTalking", "()I"⟩
abbrev cX6_listenerOf : ByteArray := prog_8_method_18_code
def yX6_listenerOf : MethodName := ⟨RX6, "listenerOf", "(I)I"⟩
abbrev cX6_logs : ByteArray := prog_8_method_19_code
def yX6_logs : MethodName := ⟨RX6, "logs", "(III)V"⟩
abbrev cX6_lose : ByteArray := prog_8_method_20_code
def yX6_lose : MethodName := ⟨RX6, "lose", "()I"⟩
abbrev cX6_endsIfEmpty : ByteArray := prog_8_method_21_code
def yX6_endsIfEmpty : MethodName := ⟨RX6, "endsIfEmpty", "()V"⟩
abbrev cX6_stuck : ByteArray := prog_8_method_22_code
def yX6_stuck : MethodName := ⟨RX6, "stuck", "()I"⟩
abbrev cX6_tickStuck : ByteArray := prog_8_method_23_code
def yX6_tickStuck : MethodName := ⟨RX6, "tickStuck", "()V"⟩
abbrev cX6_tickBit : ByteArray := prog_8_method_24_code
def yX6_tickBit : MethodName := ⟨RX6, "tickBit", "()V"⟩
abbrev cX6_tickAnswered : ByteArray := prog_8_method_25_code
def yX6_tickAnswered : MethodName := ⟨RX6, "tickAnswered", "(I)V"⟩
abbrev cX6_tickUnanswered : ByteArray := prog_8_method_26_code
def yX6_tickUnanswered : MethodName := ⟨RX6, "tickUnanswered", "()V"⟩
abbrev cX6_messages : ByteArray := prog_8_method_27_code
def yX6_messages : MethodName := ⟨RX6, "messages", "()I"⟩
abbrev cX6_tickFree : ByteArray := prog_8_method_28_code
def yX6_tickFree : MethodName := ⟨RX6, "tickFree", "()V"⟩
abbrev cX6_next : ByteArray := prog_8_method_29_code
def yX6_next : MethodName := ⟨RX6, "next", "()I"⟩
abbrev cX6_tick : ByteArray := prog_8_method_30_code
def yX6_tick : MethodName := ⟨RX6, "tick", "()V"⟩
abbrev cX6_came : ByteArray := prog_8_method_31_code
def yX6_came : MethodName := ⟨RX6, "came", "()I"⟩
abbrev cX6_says : ByteArray := prog_8_method_32_code
def yX6_says : MethodName := ⟨RX6, "says", "(IIII)I"⟩
abbrev cX6_hears : ByteArray := prog_8_method_33_code
def yX6_hears : MethodName := ⟨RX6, "hears", "(II)I"⟩
abbrev cX6_holds : ByteArray := prog_8_method_34_code
def yX6_holds : MethodName := ⟨RX6, "holds", "(II)I"⟩
abbrev cX6_sticks : ByteArray := prog_8_method_35_code
def yX6_sticks : MethodName := ⟨RX6, "sticks", "(II)I"⟩
abbrev cX6_runs : ByteArray := prog_8_method_36_code
def yX6_runs : MethodName := ⟨RX6, "runs", "(I)I"⟩
abbrev cX6_takesBack : ByteArray := prog_8_method_37_code
def yX6_takesBack : MethodName := ⟨RX6, "takesBack", "(I)I"⟩
abbrev cX6_most : ByteArray := prog_8_method_38_code
def yX6_most : MethodName := ⟨RX6, "most", "(I)I"⟩
abbrev cX6_sets : ByteArray := prog_8_method_39_code
def yX6_sets : MethodName := ⟨RX6, "sets", "(II)I"⟩
abbrev cX6_say : ByteArray := prog_8_method_40_code
def yX6_say : MethodName := ⟨RX6, "say", "(IIII)I"⟩
abbrev cX6_takeBack : ByteArray := prog_8_method_41_code
def yX6_takeBack : MethodName := ⟨RX6, "takeBack", "(I)I"⟩
abbrev cX6_hear : ByteArray := prog_8_method_42_code
def yX6_hear : MethodName := ⟨RX6, "hear", "(II)I"⟩
abbrev cX6_hold : ByteArray := prog_8_method_43_code
def yX6_hold : MethodName := ⟨RX6, "hold", "(II)I"⟩
abbrev cX6_stick : ByteArray := prog_8_method_44_code
def yX6_stick : MethodName := ⟨RX6, "stick", "(II)I"⟩
abbrev cX6_set : ByteArray := prog_8_method_45_code
def yX6_set : MethodName := ⟨RX6, "set", "(II)I"⟩
abbrev cX6_run : ByteArray := prog_8_method_46_code
def yX6_run : MethodName := ⟨RX6, "run", "(I)I"⟩
abbrev cX6_type : ByteArray := prog_8_method_47_code
def yX6_type : MethodName := ⟨RX6, "type", "(C)I"⟩
abbrev cX6_clearText : ByteArray := prog_8_method_48_code
def yX6_clearText : MethodName := ⟨RX6, "clearText", "()I"⟩
abbrev cX6_sign : ByteArray := prog_8_method_49_code
def yX6_sign : MethodName := ⟨RX6, "sign", "(I)V"⟩
abbrev cX6_isNext : ByteArray := prog_8_method_50_code
def yX6_isNext : MethodName := ⟨RX6, "isNext", "(I)Z"⟩
abbrev cX6_isDigit : ByteArray := prog_8_method_51_code
def yX6_isDigit : MethodName := ⟨RX6, "isDigit", "()Z"⟩
abbrev cX6_number : ByteArray := prog_8_method_52_code
def yX6_number : MethodName := ⟨RX6, "number", "(II)I"⟩
abbrev cX6_order : ByteArray := prog_8_method_53_code
def yX6_order : MethodName := ⟨RX6, "order", "()V"⟩
abbrev cX6_does : ByteArray := prog_8_method_54_code
def yX6_does : MethodName := ⟨RX6, "does", "()I"⟩
abbrev cX6_go : ByteArray := prog_8_method_55_code
def yX6_go : MethodName := ⟨RX6, "go", "(Z)I"⟩
abbrev cX6_perform : ByteArray := prog_8_method_56_code
def yX6_perform : MethodName := ⟨RX6, "perform", "()I"⟩
abbrev cX6_stopped : ByteArray := prog_8_method_57_code
def yX6_stopped : MethodName := ⟨RX6, "stopped", "(I)I"⟩
abbrev cX6_undo : ByteArray := prog_8_method_58_code
def yX6_undo : MethodName := ⟨RX6, "undo", "()I"⟩
abbrev cX6_keep : ByteArray := prog_8_method_59_code
def yX6_keep : MethodName := ⟨RX6, "keep", "()I"⟩
abbrev cX6_restore : ByteArray := prog_8_method_60_code
def yX6_restore : MethodName := ⟨RX6, "restore", "()I"⟩
abbrev cX6_speaker : ByteArray := prog_8_method_61_code
def yX6_speaker : MethodName := ⟨RX6, "speaker", "(II)I"⟩
abbrev cX6_ticksOf : ByteArray := prog_8_method_62_code
def yX6_ticksOf : MethodName := ⟨RX6, "ticksOf", "(II)I"⟩
abbrev cX6_message : ByteArray := prog_8_method_63_code
def yX6_message : MethodName := ⟨RX6, "message", "(III)I"⟩
abbrev cX6_listener : ByteArray := prog_8_method_64_code
def yX6_listener : MethodName := ⟨RX6, "listener", "(II)I"⟩
abbrev cX6_bit : ByteArray := prog_8_method_65_code
def yX6_bit : MethodName := ⟨RX6, "bit", "(II)I"⟩
abbrev cX6_winners : ByteArray := prog_8_method_66_code
def yX6_winners : MethodName := ⟨RX6, "winners", "()I"⟩
abbrev cX6_emptyIn : ByteArray := prog_8_method_67_code
def yX6_emptyIn : MethodName := ⟨RX6, "emptyIn", "()I"⟩
abbrev cX6_ifRun : ByteArray := prog_8_method_68_code
def yX6_ifRun : MethodName := ⟨RX6, "ifRun", "(II)I"⟩
abbrev cX6_count : ByteArray := prog_8_method_69_code
def yX6_count : MethodName := ⟨RX6, "count", "(I)I"⟩
def RJ6 : String := "java/lang/Integer"
def TJ6 : u_T := fun k => match k with
  | _ => ("", "", "", false)
def tyJ6 : Nat → FieldType := fun k => match k with
  | _ => .int
abbrev wsJ60 : List Cond := u_ws RJ6 TJ6 0
theorem nmJ6 : ∀ a, a < 0 → ∀ b, b < 0 → a ≠ b → (TJ6 a).2.1 ≠ (TJ6 b).2.1 := by decide +kernel
theorem tyJ6_ok : ∀ k, k < 0 → parseFieldDescriptor (TJ6 k).2.2.1 = some (tyJ6 k) := by decide +kernel
abbrev cJ6_bitCount_0f7a4 : ByteArray := prog_9_method_49_code
def yJ6_bitCount_0f7a4 : MethodName := ⟨RJ6, "bitCount", "(I)I"⟩
def RJ9 : String := "java/lang/Math"
def TJ9 : u_T := fun k => match k with
  | _ => ("", "", "", false)
def tyJ9 : Nat → FieldType := fun k => match k with
  | _ => .int
abbrev wsJ90 : List Cond := u_ws RJ9 TJ9 0
theorem nmJ9 : ∀ a, a < 0 → ∀ b, b < 0 → a ≠ b → (TJ9 a).2.1 ≠ (TJ9 b).2.1 := by decide +kernel
theorem tyJ9_ok : ∀ k, k < 0 → parseFieldDescriptor (TJ9 k).2.2.1 = some (tyJ9 k) := by decide +kernel
abbrev cJ9_floorMod_7cf53 : ByteArray := prog_10_method_50_code
def yJ9_floorMod_7cf53 : MethodName := ⟨RJ9, "floorMod", "(II)I"⟩
abbrev cJ9_max_7cf53 : ByteArray := prog_10_method_65_code
def yJ9_max_7cf53 : MethodName := ⟨RJ9, "max", "(II)I"⟩
abbrev cJ9_min_7cf53 : ByteArray := prog_10_method_69_code
def yJ9_min_7cf53 : MethodName := ⟨RJ9, "min", "(II)I"⟩
def RJ0 : String := "java/lang/String"
def TJ0 : u_T := fun k => match k with
  | _ => ("", "", "", false)
def tyJ0 : Nat → FieldType := fun k => match k with
  | _ => .int
abbrev wsJ00 : List Cond := u_ws RJ0 TJ0 0
theorem nmJ0 : ∀ a, a < 0 → ∀ b, b < 0 → a ≠ b → (TJ0 a).2.1 ≠ (TJ0 b).2.1 := by decide +kernel
theorem tyJ0_ok : ∀ k, k < 0 → parseFieldDescriptor (TJ0 k).2.2.1 = some (tyJ0 k) := by decide +kernel
abbrev cJ0_length_8abf5 : ByteArray := prog_11_method_54_code
def yJ0_length_8abf5 : MethodName := ⟨RJ0, "length", "()I"⟩
abbrev cJ0_charAt_5068e : ByteArray := prog_11_method_56_code
def yJ0_charAt_5068e : MethodName := ⟨RJ0, "charAt", "(I)C"⟩
abbrev cJ0_coder_7d493 : ByteArray := prog_11_method_152_code
def yJ0_coder_7d493 : MethodName := ⟨RJ0, "coder", "()B"⟩
abbrev cJ0_isLatin1_aae02 : ByteArray := prog_11_method_154_code
def yJ0_isLatin1_aae02 : MethodName := ⟨RJ0, "isLatin1", "()Z"⟩
abbrev cJ0_checkIndex_df160 : ByteArray := prog_11_method_155_code
def yJ0_checkIndex_df160 : MethodName := ⟨RJ0, "checkIndex", "(II)V"⟩
def RJ1 : String := "java/lang/StringLatin1"
def TJ1 : u_T := fun k => match k with
  | _ => ("", "", "", false)
def tyJ1 : Nat → FieldType := fun k => match k with
  | _ => .int
abbrev wsJ10 : List Cond := u_ws RJ1 TJ1 0
theorem nmJ1 : ∀ a, a < 0 → ∀ b, b < 0 → a ≠ b → (TJ1 a).2.1 ≠ (TJ1 b).2.1 := by decide +kernel
theorem tyJ1_ok : ∀ k, k < 0 → parseFieldDescriptor (TJ1 k).2.2.1 = some (tyJ1 k) := by decide +kernel
abbrev cJ1_charAt_3b067 : ByteArray := prog_12_method_2_code
def yJ1_charAt_3b067 : MethodName := ⟨RJ1, "charAt", "([BI)C"⟩
def RJ2 : String := "java/lang/StringUTF16"
def TJ2 : u_T := fun k => match k with
  | _ => ("", "", "", false)
def tyJ2 : Nat → FieldType := fun k => match k with
  | _ => .int
abbrev wsJ20 : List Cond := u_ws RJ2 TJ2 0
theorem nmJ2 : ∀ a, a < 0 → ∀ b, b < 0 → a ≠ b → (TJ2 a).2.1 ≠ (TJ2 b).2.1 := by decide +kernel
theorem tyJ2_ok : ∀ k, k < 0 → parseFieldDescriptor (TJ2 k).2.2.1 = some (tyJ2 k) := by decide +kernel
abbrev cJ2_getChar_3b067 : ByteArray := prog_13_method_5_code
def yJ2_getChar_3b067 : MethodName := ⟨RJ2, "getChar", "([BI)C"⟩
abbrev cJ2_length_9d52b : ByteArray := prog_13_method_6_code
def yJ2_length_9d52b : MethodName := ⟨RJ2, "length", "([B)I"⟩
abbrev cJ2_charAt_3b067 : ByteArray := prog_13_method_83_code
def yJ2_charAt_3b067 : MethodName := ⟨RJ2, "charAt", "([BI)C"⟩
abbrev cJ2_checkIndex_2214a : ByteArray := prog_13_method_91_code
def yJ2_checkIndex_2214a : MethodName := ⟨RJ2, "checkIndex", "(I[B)V"⟩
def RJ10 : String := "java/lang/System"
def TJ10 : u_T := fun k => match k with
  | _ => ("", "", "", false)
def tyJ10 : Nat → FieldType := fun k => match k with
  | _ => .int
abbrev wsJ100 : List Cond := u_ws RJ10 TJ10 0
theorem nmJ10 : ∀ a, a < 0 → ∀ b, b < 0 → a ≠ b → (TJ10 a).2.1 ≠ (TJ10 b).2.1 := by decide +kernel
theorem tyJ10_ok : ∀ k, k < 0 → parseFieldDescriptor (TJ10 k).2.2.1 = some (tyJ10 k) := by decide +kernel
def RJ3 : String := "jdk/internal/util/Preconditions"
def TJ3 : u_T := fun k => match k with
  | _ => ("", "", "", false)
def tyJ3 : Nat → FieldType := fun k => match k with
  | _ => .int
abbrev wsJ30 : List Cond := u_ws RJ3 TJ3 0
theorem nmJ3 : ∀ a, a < 0 → ∀ b, b < 0 → a ≠ b → (TJ3 a).2.1 ≠ (TJ3 b).2.1 := by decide +kernel
theorem tyJ3_ok : ∀ k, k < 0 → parseFieldDescriptor (TJ3 k).2.2.1 = some (tyJ3 k) := by decide +kernel
abbrev cJ3_checkIndex_8e157 : ByteArray := prog_15_method_11_code
def yJ3_checkIndex_8e157 : MethodName := ⟨RJ3, "checkIndex", "(IILjava/util/function/BiFunction;)I"⟩
def RL : String := "PulledWiresLaw"
abbrev cL_law : ByteArray := code
def yL_law : MethodName := ⟨RL, "law", "([I)Z"⟩
abbrev vwCl : List vw_C := [(RX0, TX0, 3), (RX1, TX1, 5), (RX2, TX2, 5), (RX3, TX3, 8), (RX4, TX4, 11), (RX5, TX5, 9), (RX6, TX6, 17)]
end
section
/-! THE FLAT MACHINE. Objects have numbers 0 .. 136 in the order in which the law makes them (numbers from 1000 on are the constants that were there before); what they hold is a number (I) or the number of another object (R). X says: from here the machine comes to a state with F. -/
abbrev MI : Type := Nat → Nat → Int32
abbrev MR : Type := Nat → Nat → Option Nat
abbrev GX : Type := (Nat × (Nat → Nat)) × va_G × (Nat → ClassId)
abbrev CX : Type := Program × Launch × Env × State × MethodId × Array Value × List Frame × Method × Code
abbrev MT : Type := MethodName × ByteArray × Nat × Option FieldType × Room × Nat
/-- kind and length of each object -/
def xkL : List (Nat × Nat) :=
  let sp : List (Nat × Nat) := [(3, 0), (8, 15)]
  let stt : List (Nat × Nat) := [(4, 0), (10, 4), (9, 4), (8, 3), (0, 0), (8, 256)] ++ sp ++ sp ++ sp ++ sp ++ [(1, 0), (1, 0), (1, 0), (1, 0)]
  [(5, 0)] ++ stt ++ stt ++ [(11, 4), (2, 0), (7, 80), (8, 4)] ++ stt ++ stt ++ stt ++ stt ++ stt ++ [(6, 0), (8, 375), (8, 375), (8, 1500), (8, 375), (8, 80)]
def xkd (i : Nat) : Nat := (xkL.getD i (99, 0)).1
def xln (i : Nat) : Nat := (xkL.getD i (99, 0)).2
/-- slot k of an object of a kind holds an object -/
def xrf (c k : Nat) : Bool := match c with
  | 0 => k == 0
  | 2 => decide (k < 2)
  | 3 => k == 0
  | 4 => decide (k < 4)
  | 5 => decide (k < 5)
  | 6 => (k == 0) || (k == 1) || (k == 2) || (k == 4) || (k == 6)
  | 9 => true
  | 10 => true
  | 11 => true
  | _ => false
def xN (c : Nat) : Nat := [3, 5, 5, 8, 11, 9, 17].getD c 0
def xad (g : GX) (i : Nat) : Nat := if i < 1000 then g.1.1 + i else g.1.2 (i - 1000)
def xv (g : GX) : Value → Value
  | .ref i => .ref (xad g i)
  | v => v
def xval (g : GX) (I : MI) (R : MR) (c i k : Nat) : Value := if xrf c k = true then va_rf ((R i k).map (xad g)) else .int (I i k)
def xat (g : GX) (I : MI) (R : MR) (H : Heap) (i : Nat) : Prop :=
  (xkd i < 7 → t_OB (xad g i) (g.2.1.1 (xkd i)) (xN (xkd i)) (g.2.1.2 (xkd i)) H (xval g I R (xkd i) i)) ∧
  (¬ xkd i < 7 → H[xad g i]? = some (arrV (g.2.2 (xkd i)) (xln i) (xval g I R (xkd i) i)))
def xRep (g : GX) (n : Nat) (I : MI) (R : MR) (H : Heap) : Prop := n ≤ 137 ∧ g.1.1 + n ≤ H.size ∧ (n < 137 → H.size = g.1.1 + n) ∧ ∀ i, i < n → xat g I R H i
/-- the words that every method may use -/
def XT : List Cond := lw_tbl.filter goodWord
/-- the words of nest mates -/
def xNW : List Cond := lw_tbl.filter (fun w => match w with
  | .methodLinkNest .. => true
  | .fieldLinkNest .. => true
  | _ => false)
/-- the array kinds' element types -/
def xTy (c : Nat) : FieldType := match c with
  | 7 => .char
  | 8 => .int
  | 9 => .object RX1
  | 10 => .object RX3
  | _ => .object RX4
def xTys (g : GX) : List (ClassId × FieldType) := [(g.2.2 7, .char), (g.2.2 8, .int), (g.2.2 9, .object RX1), (g.2.2 10, .object RX3), (g.2.2 11, .object RX4)]
def xTexts : List (Nat × String × List Int32) := [(97, "say", [115, 97, 121]), (99, "hear", [104, 101, 97, 114]), (101, "hold", [104, 111, 108, 100]), (103, "stick", [115, 116, 105, 99, 107]), (105, "run", [114, 117, 110])]
/-- what is known of the machine's tables -/
def xKV (g : GX) (U : State) : Prop := va_K g.2.1 vwCl (xTys g) U ∧ (∀ w ∈ xNW, va_Nw w U) ∧ (va_AO RX1 U ∧ va_AO RX3 U ∧ va_AO RX4 U) ∧
  (vk_R RX2 97 "say" (g.1.2 0) U ∧ vk_R RX2 99 "hear" (g.1.2 1) U ∧ vk_R RX2 101 "hold" (g.1.2 2) U ∧ vk_R RX2 103 "stick" (g.1.2 3) U ∧ vk_R RX2 105 "run" (g.1.2 4) U)
/-- what is known of the constants' cells: five texts, their bytes at 10 .. 14, MOST_SETTING at 5 -/
def xKH (g : GX) (U : State) (H : Heap) : Prop :=
  vk_S 5 [3, 4, 4, 5, 3] [[115, 97, 121], [104, 101, 97, 114], [104, 111, 108, 100], [115, 116, 105, 99, 107], [114, 117, 110]] g.1.2 (fun i => g.1.2 (10 + i)) (fun q => g.1.1 ≤ q) U H ∧
  va_Z "java/lang/String" "COMPACT_STRINGS" "Z" (.int 1) (fun q => g.1.1 ≤ q) U H ∧
  va_Z "PulledWires" "MOST_SETTING" "[I" (.ref (g.1.2 5)) (fun q => g.1.1 ≤ q) U H ∧
  va_T .int (g.1.2 5) 3 (fun j => .int (([20, 9, 99] : List Int32).getD j 0)) (fun q => g.1.1 ≤ q) U H
/-- locals: some values known -/
def xp (g : GX) (ls : List (Option Value)) : List (Nat × Value) := ls.zipIdx.filterMap (fun q => q.1.map (fun v => (q.2, xv g v)))
def XL (g : GX) (nL : Nat) (ls : List (Option Value)) (lsA : Array Slot) : Prop := lv_has lsA nL (xp g ls) ∧ ls.length = nL ∧ ∀ v, some v ∈ ls → v.category = 1
def xOk (g : GX) (cx : CX) (mt : MT) : Prop :=
  cx.1.tables.exec = Jvm.exec ∧ cx.2.2.2.2.2.2.2.2.code = mt.2.1 ∧ cx.2.2.2.2.2.2.2.1.sig.returnType = mt.2.2.2.1 ∧ cx.2.2.2.2.2.2.2.2.maxLocals = mt.2.2.1 ∧
  cx.2.2.2.1.vm.findClass mt.1.cls = some cx.2.2.2.2.1.cls ∧ cx.2.2.2.2.2.2.2.1.locks = false ∧ (∀ w ∈ XT, w.before cx.2.2.2.2.2.1 cx.2.2.2.1 = true) ∧ cx.2.2.2.2.2.2.2.1.name = mt.1.name ∧
  xKV g cx.2.2.2.1 ∧ g.1.1 ≤ cx.2.2.2.1.heap.size ∧ xKH g cx.2.2.2.1 cx.2.2.2.1.heap
def X (g : GX) (cx : CX) (mt : MT) (F : State → Prop) (cs : Nat × Nat) (pc : Nat) (ls : List (Option Value)) (st : List Value) (n : Nat) (I : MI) (R : MR) : Prop :=
  xOk g cx mt → ∀ (H : Heap) (locs : List Loc) (lsA : Array Slot), xRep g n I R H → va_S (fun q => g.1.1 ≤ q) cx.2.2.2.1.heap H locs → XL g mt.2.2.1 ls lsA →
    W cx.1 cx.2.1 cx.2.2.1 mt.2.2.2.2.1 cx.2.2.2.1 cx.2.2.2.2.1 cx.2.2.2.2.2.1 cx.2.2.2.2.2.2.1 cx.2.2.2.2.2.2.2.1 cx.2.2.2.2.2.2.2.2 H locs cs.1 cs.2 F (F0 cx.2.2.2.2.1 pc lsA (st.map (xv g)))
abbrev XQ : Type := Option Value → Nat → MI → MR → Prop
def xPc (g : GX) (av : List Value) (n : Nat) (I : MI) (R : MR) : Array Value → State → Prop := fun v U => v = (av.map (xv g)).toArray ∧ xRep g n I R U.heap ∧ xKV g U ∧ g.1.1 ≤ U.heap.size ∧ xKH g U U.heap
def xQc (g : GX) (Q : XQ) : Array Value → State → Outcome → State → Prop := fun _ st o t => ∃ (r : Option Value) (n : Nat) (I : MI) (R : MR), o = .returned (r.map (xv g)) ∧ Q r n I R ∧ xRep g n I R t.heap ∧ st.heap.size ≤ t.heap.size ∧ ∀ q : Nat, q < g.1.1 → t.heap[q]? = st.heap[q]?
def xF (g : GX) (cx : CX) (mt : MT) (Q : XQ) : State → Prop := MQ cx.2.2.2.2.2.2.1 (xQc g Q) cx.2.2.2.2.2.1 cx.2.2.2.1 mt.2.2.2.2.1.cells mt.2.2.2.2.1.slots (fun q => g.1.1 ≤ q)
/-- a method's contract: from these arguments and contents it returns, with Q -/
def Sp (mt : MT) (av : List Value) (n : Nat) (I : MI) (R : MR) (Q : XQ) : Prop := ∀ (g : GX) (l : Launch), Met l mt.1 (.code mt.1 mt.2.1 mt.2.2.1 mt.2.2.2.1 :: XT) mt.2.2.2.2.1 (xPc g av n I R) (xQc g Q) mt.2.2.2.2.1.cells mt.2.2.2.2.1.slots (fun q => g.1.1 ≤ q)
theorem xv_cat (g : GX) (v : Value) : (xv g v).category = v.category := by cases v <;> rfl
theorem xad_lo (g : GX) {i : Nat} (h : i < 1000) : xad g i = g.1.1 + i := by simp [xad, h]
theorem xad_inj (g : GX) {i j : Nat} (hi : i < 1000) (hj : j < 1000) (h : xad g i = xad g j) : i = j := by rw [xad_lo g hi, xad_lo g hj] at h; omega
theorem xp_mem {g : GX} {ls : List (Option Value)} {i : Nat} {v : Value} (h : ls[i]? = some (some v)) : (i, xv g v) ∈ xp g ls := by
  refine List.mem_filterMap.mpr ⟨(some v, i), ?_, rfl⟩
  exact List.mem_zipIdx_iff_getElem?.mpr h
theorem xp_of {g : GX} {ls : List (Option Value)} {q : Nat × Value} (h : q ∈ xp g ls) : ∃ v, ls[q.1]? = some (some v) ∧ q.2 = xv g v := by
  obtain ⟨⟨o, i⟩, h1, h2⟩ := List.mem_filterMap.mp h
  cases o with
  | none => cases h2
  | some v =>
    have h3 := List.mem_zipIdx_iff_getElem?.mp h1
    cases h2
    exact ⟨v, h3, rfl⟩
theorem XL.get {g : GX} {nL : Nat} {ls : List (Option Value)} {lsA : Array Slot} (h : XL g nL ls lsA) {i : Nat} {v : Value} (hi : ls[i]? = some (some v)) : lsA[i]? = some (.val (xv g v)) := h.1.2.2 _ (xp_mem hi)
theorem XL.put {g : GX} {nL : Nat} {ls : List (Option Value)} {lsA ls' : Array Slot} (h : XL g nL ls lsA) {i : Nat} {v : Value} (hc : v.category = 1)
    (h' : lv_has ls' nL ((i, xv g v) :: (xp g ls).filter (fun q => !(q.1 == i) && !(q.1 + 1 == i && q.2.category == 2)))) : XL g nL (ls.set i (some v)) ls' := by
  refine ⟨⟨h'.1, h'.2.1, fun q hq => ?_⟩, by rw [List.length_set]; exact h.2.1, fun w hw => ?_⟩
  · obtain ⟨w, h1, h2⟩ := xp_of hq
    by_cases hqi : q.1 = i
    · have hlt : i < ls.length := by
        have h3 := (List.getElem?_eq_some_iff.mp h1).1
        rw [List.length_set] at h3
        omega
      rw [hqi, List.getElem?_set_self hlt] at h1
      cases h1
      have h4 := h'.2.2 (i, xv g v) List.mem_cons_self
      rw [hqi, h2]
      exact h4
    · rw [List.getElem?_set_ne (Ne.symm hqi)] at h1
      have hw1 : w.category = 1 := h.2.2 w (List.mem_of_getElem? h1)
      refine h'.2.2 q (List.mem_cons_of_mem _ (List.mem_filter.mpr ⟨?_, ?_⟩))
      · have := xp_mem (g := g) h1
        rw [← h2] at this
        exact this
      · have hcat : q.2.category = 1 := by rw [h2, xv_cat]; exact hw1
        simp [hqi, hcat]
  · rcases List.mem_or_eq_of_mem_set hw with h1 | h1
    · exact h.2.2 w h1
    · cases h1; exact hc
theorem XL.weak {g : GX} {nL : Nat} {ls ls2 : List (Option Value)} {lsA : Array Slot} (h : XL g nL ls lsA) (hl : ls2.length = ls.length) (hw : ∀ (i : Nat) (v : Value), ls2[i]? = some (some v) → ls[i]? = some (some v)) : XL g nL ls2 lsA := by
  refine ⟨⟨h.1.1, h.1.2.1, fun q hq => ?_⟩, hl.trans h.2.1, fun v hv => ?_⟩
  · obtain ⟨v, h1, h2⟩ := xp_of hq
    rw [h2]
    exact h.get (hw _ _ h1)
  · obtain ⟨i, hi⟩ := List.getElem?_of_mem hv
    exact h.2.2 v (List.mem_of_getElem? (hw i v hi))
end
section
section XR
variable {g : GX} {cx : CX} {mt : MT} {F : State → Prop} {cs : Nat × Nat} {pc : Nat} {ls : List (Option Value)} {st : List Value} {n : Nat} {I : MI} {R : MR}

theorem x_iadd {x y : Int32} (hd : decode mt.2.1 pc = .ok (.iadd, 1)) (k : X g cx mt F cs (pc + 1) ls (.int (x + y) :: st) n I R) : X g cx mt F cs pc ls (.int y :: .int x :: st) n I R := fun ok H locs lsA hR hS hL => lv_iadd ok.1 ok.2.1 hd (k ok H locs lsA hR hS hL)
theorem x_isub {x y : Int32} (hd : decode mt.2.1 pc = .ok (.isub, 1)) (k : X g cx mt F cs (pc + 1) ls (.int (x - y) :: st) n I R) : X g cx mt F cs pc ls (.int y :: .int x :: st) n I R := fun ok H locs lsA hR hS hL => lv_isub ok.1 ok.2.1 hd (k ok H locs lsA hR hS hL)
theorem x_imul {x y : Int32} (hd : decode mt.2.1 pc = .ok (.imul, 1)) (k : X g cx mt F cs (pc + 1) ls (.int (x * y) :: st) n I R) : X g cx mt F cs pc ls (.int y :: .int x :: st) n I R := fun ok H locs lsA hR hS hL => lv_imul ok.1 ok.2.1 hd (k ok H locs lsA hR hS hL)
theorem x_iand {x y : Int32} (hd : decode mt.2.1 pc = .ok (.iand, 1)) (k : X g cx mt F cs (pc + 1) ls (.int (x &&& y) :: st) n I R) : X g cx mt F cs pc ls (.int y :: .int x :: st) n I R := fun ok H locs lsA hR hS hL => lv_iand ok.1 ok.2.1 hd (k ok H locs lsA hR hS hL)
theorem x_ior {x y : Int32} (hd : decode mt.2.1 pc = .ok (.ior, 1)) (k : X g cx mt F cs (pc + 1) ls (.int (x ||| y) :: st) n I R) : X g cx mt F cs pc ls (.int y :: .int x :: st) n I R := fun ok H locs lsA hR hS hL => lv_ior ok.1 ok.2.1 hd (k ok H locs lsA hR hS hL)
theorem x_ixor {x y : Int32} (hd : decode mt.2.1 pc = .ok (.ixor, 1)) (k : X g cx mt F cs (pc + 1) ls (.int (x ^^^ y) :: st) n I R) : X g cx mt F cs pc ls (.int y :: .int x :: st) n I R := fun ok H locs lsA hR hS hL => lv_ixor ok.1 ok.2.1 hd (k ok H locs lsA hR hS hL)
theorem x_ishl {x y : Int32} (hd : decode mt.2.1 pc = .ok (.ishl, 1)) (k : X g cx mt F cs (pc + 1) ls (.int (x <<< (y &&& 31)) :: st) n I R) : X g cx mt F cs pc ls (.int y :: .int x :: st) n I R := fun ok H locs lsA hR hS hL => lv_ishl ok.1 ok.2.1 hd (k ok H locs lsA hR hS hL)
theorem x_ishr {x y : Int32} (hd : decode mt.2.1 pc = .ok (.ishr, 1)) (k : X g cx mt F cs (pc + 1) ls (.int (x >>> (y &&& 31)) :: st) n I R) : X g cx mt F cs pc ls (.int y :: .int x :: st) n I R := fun ok H locs lsA hR hS hL => lv_ishr ok.1 ok.2.1 hd (k ok H locs lsA hR hS hL)
theorem x_iushr {x y : Int32} (hd : decode mt.2.1 pc = .ok (.iushr, 1)) (k : X g cx mt F cs (pc + 1) ls (.int ((x.toUInt32 >>> (y.toUInt32 &&& Int32.toUInt32 31)).toInt32) :: st) n I R) : X g cx mt F cs pc ls (.int y :: .int x :: st) n I R := fun ok H locs lsA hR hS hL => lv_iushr ok.1 ok.2.1 hd rfl (k ok H locs lsA hR hS hL)
theorem x_idiv {x y : Int32} (hd : decode mt.2.1 pc = .ok (.idiv, 1)) (hne : ¬ y = 0) (k : X g cx mt F cs (pc + 1) ls (.int (x / y) :: st) n I R) : X g cx mt F cs pc ls (.int y :: .int x :: st) n I R := fun ok H locs lsA hR hS hL => lv_idiv ok.1 ok.2.1 hd hne (k ok H locs lsA hR hS hL)
theorem x_irem {x y : Int32} (hd : decode mt.2.1 pc = .ok (.irem, 1)) (hne : ¬ y = 0) (k : X g cx mt F cs (pc + 1) ls (.int (x - x / y * y) :: st) n I R) : X g cx mt F cs pc ls (.int y :: .int x :: st) n I R := fun ok H locs lsA hR hS hL => lv_irem ok.1 ok.2.1 hd hne (k ok H locs lsA hR hS hL)
theorem x_i2c {x : Int32} (hd : decode mt.2.1 pc = .ok (.i2c, 1)) (k : X g cx mt F cs (pc + 1) ls (.int ((x.toUInt32 % 65536).toInt32) :: st) n I R) : X g cx mt F cs pc ls (.int x :: st) n I R := fun ok H locs lsA hR hS hL => lv_i2c ok.1 ok.2.1 hd rfl (k ok H locs lsA hR hS hL)
theorem x_iconst {c : Int} (v : Int32) (hd : decode mt.2.1 pc = .ok (.iconst c, 1)) (hv : Int32.ofInt c = v) (k : X g cx mt F cs (pc + 1) ls (.int v :: st) n I R) : X g cx mt F cs pc ls (st) n I R := fun ok H locs lsA hR hS hL => lv_iconst ok.1 ok.2.1 hd hv (k ok H locs lsA hR hS hL)
theorem x_bipush {c : Int} (v : Int32) (hd : decode mt.2.1 pc = .ok (.bipush c, 2)) (hv : (Int8.ofInt c).toInt32 = v) (k : X g cx mt F cs (pc + 2) ls (.int v :: st) n I R) : X g cx mt F cs pc ls (st) n I R := fun ok H locs lsA hR hS hL => lv_bipush ok.1 ok.2.1 hd hv (k ok H locs lsA hR hS hL)
theorem x_sipush {c : Int} (v : Int32) (hd : decode mt.2.1 pc = .ok (.sipush c, 3)) (hv : (Int16.ofInt c).toInt32 = v) (k : X g cx mt F cs (pc + 3) ls (.int v :: st) n I R) : X g cx mt F cs pc ls (st) n I R := fun ok H locs lsA hR hS hL => lv_sipush ok.1 ok.2.1 hd hv (k ok H locs lsA hR hS hL)
theorem x_null (hd : decode mt.2.1 pc = .ok (.aconst_null, 1)) (k : X g cx mt F cs (pc + 1) ls (.null :: st) n I R) : X g cx mt F cs pc ls (st) n I R := fun ok H locs lsA hR hS hL => lv_null ok.1 ok.2.1 hd (k ok H locs lsA hR hS hL)
theorem x_ldc {idx : Nat} (v : Int32) (hw : Cond.constant mt.1.cls idx v ∈ XT) (hd : decode mt.2.1 pc = .ok (.ldc idx, 2)) (k : X g cx mt F cs (pc + 2) ls (.int v :: st) n I R) : X g cx mt F cs pc ls (st) n I R := fun ok H locs lsA hR hS hL => lv_ldc ok.1 ok.2.1 ok.2.2.2.2.1 (ok.2.2.2.2.2.2.1 _ hw) hd (k ok H locs lsA hR hS hL)
theorem x_ldcw {idx : Nat} (v : Int32) (hw : Cond.constant mt.1.cls idx v ∈ XT) (hd : decode mt.2.1 pc = .ok (.ldc_w idx, 3)) (k : X g cx mt F cs (pc + 3) ls (.int v :: st) n I R) : X g cx mt F cs pc ls (st) n I R := fun ok H locs lsA hR hS hL => lv_ldcw ok.1 ok.2.1 ok.2.2.2.2.1 (ok.2.2.2.2.2.2.1 _ hw) hd (k ok H locs lsA hR hS hL)
theorem x_iload_n {c : Fin 4} {i : Nat} {v : Int32} (hd : decode mt.2.1 pc = .ok (.iload_n c, 1)) (hi : (c : Nat) = i) (hl : ls[i]? = some (some (.int v))) (k : X g cx mt F cs (pc + 1) ls (.int v :: st) n I R) : X g cx mt F cs pc ls (st) n I R := fun ok H locs lsA hR hS hL => lv_iload_n ok.1 ok.2.1 hd hi (hL.get hl) (k ok H locs lsA hR hS hL)
theorem x_iload {i : Nat} {v : Int32} (hd : decode mt.2.1 pc = .ok (.iload i, 2)) (hl : ls[i]? = some (some (.int v))) (k : X g cx mt F cs (pc + 2) ls (.int v :: st) n I R) : X g cx mt F cs pc ls (st) n I R := fun ok H locs lsA hR hS hL => lv_iload ok.1 ok.2.1 hd (hL.get hl) (k ok H locs lsA hR hS hL)
theorem x_aload_n {c : Fin 4} {i : Nat} {v : Nat} (hd : decode mt.2.1 pc = .ok (.aload_n c, 1)) (hi : (c : Nat) = i) (hl : ls[i]? = some (some (.ref v))) (k : X g cx mt F cs (pc + 1) ls (.ref v :: st) n I R) : X g cx mt F cs pc ls (st) n I R := fun ok H locs lsA hR hS hL => lv_aload_n ok.1 ok.2.1 hd hi (hL.get hl) (k ok H locs lsA hR hS hL)
theorem x_aload {i : Nat} {v : Nat} (hd : decode mt.2.1 pc = .ok (.aload i, 2)) (hl : ls[i]? = some (some (.ref v))) (k : X g cx mt F cs (pc + 2) ls (.ref v :: st) n I R) : X g cx mt F cs pc ls (st) n I R := fun ok H locs lsA hR hS hL => lv_aload ok.1 ok.2.1 hd (hL.get hl) (k ok H locs lsA hR hS hL)
theorem x_aload_nN {c : Fin 4} {i : Nat} (hd : decode mt.2.1 pc = .ok (.aload_n c, 1)) (hi : (c : Nat) = i) (hl : ls[i]? = some (some .null)) (k : X g cx mt F cs (pc + 1) ls (.null :: st) n I R) : X g cx mt F cs pc ls (st) n I R := fun ok H locs lsA hR hS hL => lv_aload_nN ok.1 ok.2.1 hd hi (hL.get hl) (k ok H locs lsA hR hS hL)
theorem x_aloadN {i : Nat} (hd : decode mt.2.1 pc = .ok (.aload i, 2)) (hl : ls[i]? = some (some .null)) (k : X g cx mt F cs (pc + 2) ls (.null :: st) n I R) : X g cx mt F cs pc ls (st) n I R := fun ok H locs lsA hR hS hL => lv_aloadN ok.1 ok.2.1 hd (hL.get hl) (k ok H locs lsA hR hS hL)
theorem x_istore_n {c : Fin 4} {i : Nat} {v : Int32} (hd : decode mt.2.1 pc = .ok (.istore_n c, 1)) (hi : (c : Nat) = i) (hn : i < mt.2.2.1) (k : X g cx mt F cs (pc + 1) (ls.set i (some (.int v))) (st) n I R) : X g cx mt F cs pc ls (.int v :: st) n I R := fun ok H locs lsA hR hS hL => lv_istore_n ok.1 ok.2.1 hd hi hL.1 hn rfl (fun ls2 h2 => k ok H locs ls2 hR hS (hL.put rfl h2))
theorem x_istore {i : Nat} {v : Int32} (hd : decode mt.2.1 pc = .ok (.istore i, 2)) (hn : i < mt.2.2.1) (k : X g cx mt F cs (pc + 2) (ls.set i (some (.int v))) (st) n I R) : X g cx mt F cs pc ls (.int v :: st) n I R := fun ok H locs lsA hR hS hL => lv_istore ok.1 ok.2.1 hd hL.1 hn rfl (fun ls2 h2 => k ok H locs ls2 hR hS (hL.put rfl h2))
theorem x_astore_n {c : Fin 4} {i : Nat} {v : Nat} (hd : decode mt.2.1 pc = .ok (.astore_n c, 1)) (hi : (c : Nat) = i) (hn : i < mt.2.2.1) (k : X g cx mt F cs (pc + 1) (ls.set i (some (.ref v))) (st) n I R) : X g cx mt F cs pc ls (.ref v :: st) n I R := fun ok H locs lsA hR hS hL => lv_astore_n ok.1 ok.2.1 hd hi hL.1 hn rfl (fun ls2 h2 => k ok H locs ls2 hR hS (hL.put rfl h2))
theorem x_astore {i : Nat} {v : Nat} (hd : decode mt.2.1 pc = .ok (.astore i, 2)) (hn : i < mt.2.2.1) (k : X g cx mt F cs (pc + 2) (ls.set i (some (.ref v))) (st) n I R) : X g cx mt F cs pc ls (.ref v :: st) n I R := fun ok H locs lsA hR hS hL => lv_astore ok.1 ok.2.1 hd hL.1 hn rfl (fun ls2 h2 => k ok H locs ls2 hR hS (hL.put rfl h2))
theorem x_astore_nN {c : Fin 4} {i : Nat}  (hd : decode mt.2.1 pc = .ok (.astore_n c, 1)) (hi : (c : Nat) = i) (hn : i < mt.2.2.1) (k : X g cx mt F cs (pc + 1) (ls.set i (some (.null))) (st) n I R) : X g cx mt F cs pc ls (.null :: st) n I R := fun ok H locs lsA hR hS hL => lv_astore_nN ok.1 ok.2.1 hd hi hL.1 hn rfl (fun ls2 h2 => k ok H locs ls2 hR hS (hL.put rfl h2))
theorem x_astoreN {i : Nat}  (hd : decode mt.2.1 pc = .ok (.astore i, 2)) (hn : i < mt.2.2.1) (k : X g cx mt F cs (pc + 2) (ls.set i (some (.null))) (st) n I R) : X g cx mt F cs pc ls (.null :: st) n I R := fun ok H locs lsA hR hS hL => lv_astoreN ok.1 ok.2.1 hd hL.1 hn rfl (fun ls2 h2 => k ok H locs ls2 hR hS (hL.put rfl h2))
theorem x_iinc {i : Nat} {c : Int} {x : Int32} (v : Int32) (hd : decode mt.2.1 pc = .ok (.iinc i c, 3)) (hl : ls[i]? = some (some (.int x))) (hv : x + Int32.ofInt c = v) (hn : i < mt.2.2.1) (k : X g cx mt F cs (pc + 3) (ls.set i (some (.int v))) (st) n I R) : X g cx mt F cs pc ls (st) n I R := fun ok H locs lsA hR hS hL => by
  have hm : (i, Value.int x) ∈ xp g ls := xp_mem (g := g) hl
  obtain ⟨j, hj⟩ := List.getElem?_of_mem hm
  exact lv_iinc ok.1 ok.2.1 hd hL.1 hj hv hn rfl (fun ls2 h2 => k ok H locs ls2 hR hS (hL.put rfl h2))
theorem x_dup {v : Value} (hd : decode mt.2.1 pc = .ok (.dup, 1)) (hv : v.category = 1) (k : X g cx mt F cs (pc + 1) ls (v :: v :: st) n I R) : X g cx mt F cs pc ls (v :: st) n I R := fun ok H locs lsA hR hS hL => lv_dup ok.1 ok.2.1 hd ((xv_cat g v).trans hv) (k ok H locs lsA hR hS hL)
theorem x_pop {v : Value} (hd : decode mt.2.1 pc = .ok (.pop, 1)) (hv : v.category = 1) (k : X g cx mt F cs (pc + 1) ls (st) n I R) : X g cx mt F cs pc ls (v :: st) n I R := fun ok H locs lsA hR hS hL => lv_pop ok.1 ok.2.1 hd ((xv_cat g v).trans hv) (k ok H locs lsA hR hS hL)
theorem x_dup2 {v w : Value} (hd : decode mt.2.1 pc = .ok (.dup2, 1)) (hv : v.category = 1) (hw : w.category = 1) (k : X g cx mt F cs (pc + 1) ls (v :: w :: v :: w :: st) n I R) : X g cx mt F cs pc ls (v :: w :: st) n I R := fun ok H locs lsA hR hS hL => lv_dup2_11 ok.1 ok.2.1 hd ((xv_cat g v).trans hv) ((xv_cat g w).trans hw) (k ok H locs lsA hR hS hL)
theorem x_goto {off : Int} (tgt : Nat) (hd : decode mt.2.1 pc = .ok (.goto off, 3)) (ht : (pc : Int) + off = (tgt : Int)) (k : X g cx mt F cs tgt ls (st) n I R) : X g cx mt F cs pc ls (st) n I R := fun ok H locs lsA hR hS hL => lv_goto ok.1 ok.2.1 hd ht (k ok H locs lsA hR hS hL)
theorem x_if_eq {x : Int32} {off : Int} (tgt : Nat) (hd : decode mt.2.1 pc = .ok (.ifCond .eq off, 3)) (ht : (pc : Int) + off = (tgt : Int)) (kt : x = 0 → X g cx mt F cs tgt ls (st) n I R) (kf : ¬ x = 0 → X g cx mt F cs (pc + 3) ls (st) n I R) : X g cx mt F cs pc ls (.int x :: st) n I R := fun ok H locs lsA hR hS hL => lv_if_eq ok.1 ok.2.1 hd ht (fun h => kt h ok H locs lsA hR hS hL) (fun h => kf h ok H locs lsA hR hS hL)
theorem x_if_eqT {x : Int32} {off : Int} (tgt : Nat) (hd : decode mt.2.1 pc = .ok (.ifCond .eq off, 3)) (ht : (pc : Int) + off = (tgt : Int)) (h : x = 0) (kt : X g cx mt F cs tgt ls (st) n I R) : X g cx mt F cs pc ls (.int x :: st) n I R := x_if_eq tgt hd ht (fun _ => kt) (fun q => absurd h q)
theorem x_if_eqF {x : Int32} {off : Int} (hd : decode mt.2.1 pc = .ok (.ifCond .eq off, 3)) (h : ¬ x = 0) (kf : X g cx mt F cs (pc + 3) ls (st) n I R) (tgt : Nat := ((pc : Int) + off).toNat) (ht : (pc : Int) + off = (tgt : Int) := by decide) : X g cx mt F cs pc ls (.int x :: st) n I R := x_if_eq tgt hd ht (fun q => absurd q h) (fun _ => kf)
theorem x_icmp_eq {x y : Int32} {off : Int} (tgt : Nat) (hd : decode mt.2.1 pc = .ok (.if_icmp .eq off, 3)) (ht : (pc : Int) + off = (tgt : Int)) (kt : x = y → X g cx mt F cs tgt ls (st) n I R) (kf : ¬ x = y → X g cx mt F cs (pc + 3) ls (st) n I R) : X g cx mt F cs pc ls (.int y :: .int x :: st) n I R := fun ok H locs lsA hR hS hL => lv_icmp_eq ok.1 ok.2.1 hd ht (fun h => kt h ok H locs lsA hR hS hL) (fun h => kf h ok H locs lsA hR hS hL)
theorem x_icmp_eqT {x y : Int32} {off : Int} (tgt : Nat) (hd : decode mt.2.1 pc = .ok (.if_icmp .eq off, 3)) (ht : (pc : Int) + off = (tgt : Int)) (h : x = y) (kt : X g cx mt F cs tgt ls (st) n I R) : X g cx mt F cs pc ls (.int y :: .int x :: st) n I R := x_icmp_eq tgt hd ht (fun _ => kt) (fun q => absurd h q)
theorem x_icmp_eqF {x y : Int32} {off : Int} (hd : decode mt.2.1 pc = .ok (.if_icmp .eq off, 3)) (h : ¬ x = y) (kf : X g cx mt F cs (pc + 3) ls (st) n I R) (tgt : Nat := ((pc : Int) + off).toNat) (ht : (pc : Int) + off = (tgt : Int) := by decide) : X g cx mt F cs pc ls (.int y :: .int x :: st) n I R := x_icmp_eq tgt hd ht (fun q => absurd q h) (fun _ => kf)
theorem x_if_lt {x : Int32} {off : Int} (tgt : Nat) (hd : decode mt.2.1 pc = .ok (.ifCond .lt off, 3)) (ht : (pc : Int) + off = (tgt : Int)) (kt : x < 0 → X g cx mt F cs tgt ls (st) n I R) (kf : ¬ x < 0 → X g cx mt F cs (pc + 3) ls (st) n I R) : X g cx mt F cs pc ls (.int x :: st) n I R := fun ok H locs lsA hR hS hL => lv_if_lt ok.1 ok.2.1 hd ht (fun h => kt h ok H locs lsA hR hS hL) (fun h => kf h ok H locs lsA hR hS hL)
theorem x_if_ltT {x : Int32} {off : Int} (tgt : Nat) (hd : decode mt.2.1 pc = .ok (.ifCond .lt off, 3)) (ht : (pc : Int) + off = (tgt : Int)) (h : x < 0) (kt : X g cx mt F cs tgt ls (st) n I R) : X g cx mt F cs pc ls (.int x :: st) n I R := x_if_lt tgt hd ht (fun _ => kt) (fun q => absurd h q)
theorem x_if_ltF {x : Int32} {off : Int} (hd : decode mt.2.1 pc = .ok (.ifCond .lt off, 3)) (h : ¬ x < 0) (kf : X g cx mt F cs (pc + 3) ls (st) n I R) (tgt : Nat := ((pc : Int) + off).toNat) (ht : (pc : Int) + off = (tgt : Int) := by decide) : X g cx mt F cs pc ls (.int x :: st) n I R := x_if_lt tgt hd ht (fun q => absurd q h) (fun _ => kf)
theorem x_icmp_lt {x y : Int32} {off : Int} (tgt : Nat) (hd : decode mt.2.1 pc = .ok (.if_icmp .lt off, 3)) (ht : (pc : Int) + off = (tgt : Int)) (kt : x < y → X g cx mt F cs tgt ls (st) n I R) (kf : ¬ x < y → X g cx mt F cs (pc + 3) ls (st) n I R) : X g cx mt F cs pc ls (.int y :: .int x :: st) n I R := fun ok H locs lsA hR hS hL => lv_icmp_lt ok.1 ok.2.1 hd ht (fun h => kt h ok H locs lsA hR hS hL) (fun h => kf h ok H locs lsA hR hS hL)
theorem x_icmp_ltT {x y : Int32} {off : Int} (tgt : Nat) (hd : decode mt.2.1 pc = .ok (.if_icmp .lt off, 3)) (ht : (pc : Int) + off = (tgt : Int)) (h : x < y) (kt : X g cx mt F cs tgt ls (st) n I R) : X g cx mt F cs pc ls (.int y :: .int x :: st) n I R := x_icmp_lt tgt hd ht (fun _ => kt) (fun q => absurd h q)
theorem x_icmp_ltF {x y : Int32} {off : Int} (hd : decode mt.2.1 pc = .ok (.if_icmp .lt off, 3)) (h : ¬ x < y) (kf : X g cx mt F cs (pc + 3) ls (st) n I R) (tgt : Nat := ((pc : Int) + off).toNat) (ht : (pc : Int) + off = (tgt : Int) := by decide) : X g cx mt F cs pc ls (.int y :: .int x :: st) n I R := x_icmp_lt tgt hd ht (fun q => absurd q h) (fun _ => kf)
theorem x_if_gt {x : Int32} {off : Int} (tgt : Nat) (hd : decode mt.2.1 pc = .ok (.ifCond .gt off, 3)) (ht : (pc : Int) + off = (tgt : Int)) (kt : 0 < x → X g cx mt F cs tgt ls (st) n I R) (kf : ¬ 0 < x → X g cx mt F cs (pc + 3) ls (st) n I R) : X g cx mt F cs pc ls (.int x :: st) n I R := fun ok H locs lsA hR hS hL => lv_if_gt ok.1 ok.2.1 hd ht (fun h => kt h ok H locs lsA hR hS hL) (fun h => kf h ok H locs lsA hR hS hL)
theorem x_if_gtT {x : Int32} {off : Int} (tgt : Nat) (hd : decode mt.2.1 pc = .ok (.ifCond .gt off, 3)) (ht : (pc : Int) + off = (tgt : Int)) (h : 0 < x) (kt : X g cx mt F cs tgt ls (st) n I R) : X g cx mt F cs pc ls (.int x :: st) n I R := x_if_gt tgt hd ht (fun _ => kt) (fun q => absurd h q)
theorem x_if_gtF {x : Int32} {off : Int} (hd : decode mt.2.1 pc = .ok (.ifCond .gt off, 3)) (h : ¬ 0 < x) (kf : X g cx mt F cs (pc + 3) ls (st) n I R) (tgt : Nat := ((pc : Int) + off).toNat) (ht : (pc : Int) + off = (tgt : Int) := by decide) : X g cx mt F cs pc ls (.int x :: st) n I R := x_if_gt tgt hd ht (fun q => absurd q h) (fun _ => kf)
theorem x_icmp_gt {x y : Int32} {off : Int} (tgt : Nat) (hd : decode mt.2.1 pc = .ok (.if_icmp .gt off, 3)) (ht : (pc : Int) + off = (tgt : Int)) (kt : y < x → X g cx mt F cs tgt ls (st) n I R) (kf : ¬ y < x → X g cx mt F cs (pc + 3) ls (st) n I R) : X g cx mt F cs pc ls (.int y :: .int x :: st) n I R := fun ok H locs lsA hR hS hL => lv_icmp_gt ok.1 ok.2.1 hd ht (fun h => kt h ok H locs lsA hR hS hL) (fun h => kf h ok H locs lsA hR hS hL)
theorem x_icmp_gtT {x y : Int32} {off : Int} (tgt : Nat) (hd : decode mt.2.1 pc = .ok (.if_icmp .gt off, 3)) (ht : (pc : Int) + off = (tgt : Int)) (h : y < x) (kt : X g cx mt F cs tgt ls (st) n I R) : X g cx mt F cs pc ls (.int y :: .int x :: st) n I R := x_icmp_gt tgt hd ht (fun _ => kt) (fun q => absurd h q)
theorem x_icmp_gtF {x y : Int32} {off : Int} (hd : decode mt.2.1 pc = .ok (.if_icmp .gt off, 3)) (h : ¬ y < x) (kf : X g cx mt F cs (pc + 3) ls (st) n I R) (tgt : Nat := ((pc : Int) + off).toNat) (ht : (pc : Int) + off = (tgt : Int) := by decide) : X g cx mt F cs pc ls (.int y :: .int x :: st) n I R := x_icmp_gt tgt hd ht (fun q => absurd q h) (fun _ => kf)
theorem x_if_le {x : Int32} {off : Int} (tgt : Nat) (hd : decode mt.2.1 pc = .ok (.ifCond .le off, 3)) (ht : (pc : Int) + off = (tgt : Int)) (kt : x ≤ 0 → X g cx mt F cs tgt ls (st) n I R) (kf : ¬ x ≤ 0 → X g cx mt F cs (pc + 3) ls (st) n I R) : X g cx mt F cs pc ls (.int x :: st) n I R := fun ok H locs lsA hR hS hL => lv_if_le ok.1 ok.2.1 hd ht (fun h => kt h ok H locs lsA hR hS hL) (fun h => kf h ok H locs lsA hR hS hL)
theorem x_if_leT {x : Int32} {off : Int} (tgt : Nat) (hd : decode mt.2.1 pc = .ok (.ifCond .le off, 3)) (ht : (pc : Int) + off = (tgt : Int)) (h : x ≤ 0) (kt : X g cx mt F cs tgt ls (st) n I R) : X g cx mt F cs pc ls (.int x :: st) n I R := x_if_le tgt hd ht (fun _ => kt) (fun q => absurd h q)
theorem x_if_leF {x : Int32} {off : Int} (hd : decode mt.2.1 pc = .ok (.ifCond .le off, 3)) (h : ¬ x ≤ 0) (kf : X g cx mt F cs (pc + 3) ls (st) n I R) (tgt : Nat := ((pc : Int) + off).toNat) (ht : (pc : Int) + off = (tgt : Int) := by decide) : X g cx mt F cs pc ls (.int x :: st) n I R := x_if_le tgt hd ht (fun q => absurd q h) (fun _ => kf)
theorem x_icmp_le {x y : Int32} {off : Int} (tgt : Nat) (hd : decode mt.2.1 pc = .ok (.if_icmp .le off, 3)) (ht : (pc : Int) + off = (tgt : Int)) (kt : x ≤ y → X g cx mt F cs tgt ls (st) n I R) (kf : ¬ x ≤ y → X g cx mt F cs (pc + 3) ls (st) n I R) : X g cx mt F cs pc ls (.int y :: .int x :: st) n I R := fun ok H locs lsA hR hS hL => lv_icmp_le ok.1 ok.2.1 hd ht (fun h => kt h ok H locs lsA hR hS hL) (fun h => kf h ok H locs lsA hR hS hL)
theorem x_icmp_leT {x y : Int32} {off : Int} (tgt : Nat) (hd : decode mt.2.1 pc = .ok (.if_icmp .le off, 3)) (ht : (pc : Int) + off = (tgt : Int)) (h : x ≤ y) (kt : X g cx mt F cs tgt ls (st) n I R) : X g cx mt F cs pc ls (.int y :: .int x :: st) n I R := x_icmp_le tgt hd ht (fun _ => kt) (fun q => absurd h q)
theorem x_icmp_leF {x y : Int32} {off : Int} (hd : decode mt.2.1 pc = .ok (.if_icmp .le off, 3)) (h : ¬ x ≤ y) (kf : X g cx mt F cs (pc + 3) ls (st) n I R) (tgt : Nat := ((pc : Int) + off).toNat) (ht : (pc : Int) + off = (tgt : Int) := by decide) : X g cx mt F cs pc ls (.int y :: .int x :: st) n I R := x_icmp_le tgt hd ht (fun q => absurd q h) (fun _ => kf)
theorem x_if_ge {x : Int32} {off : Int} (tgt : Nat) (hd : decode mt.2.1 pc = .ok (.ifCond .ge off, 3)) (ht : (pc : Int) + off = (tgt : Int)) (kt : 0 ≤ x → X g cx mt F cs tgt ls (st) n I R) (kf : ¬ 0 ≤ x → X g cx mt F cs (pc + 3) ls (st) n I R) : X g cx mt F cs pc ls (.int x :: st) n I R := fun ok H locs lsA hR hS hL => lv_if_ge ok.1 ok.2.1 hd ht (fun h => kt h ok H locs lsA hR hS hL) (fun h => kf h ok H locs lsA hR hS hL)
theorem x_if_geT {x : Int32} {off : Int} (tgt : Nat) (hd : decode mt.2.1 pc = .ok (.ifCond .ge off, 3)) (ht : (pc : Int) + off = (tgt : Int)) (h : 0 ≤ x) (kt : X g cx mt F cs tgt ls (st) n I R) : X g cx mt F cs pc ls (.int x :: st) n I R := x_if_ge tgt hd ht (fun _ => kt) (fun q => absurd h q)
theorem x_if_geF {x : Int32} {off : Int} (hd : decode mt.2.1 pc = .ok (.ifCond .ge off, 3)) (h : ¬ 0 ≤ x) (kf : X g cx mt F cs (pc + 3) ls (st) n I R) (tgt : Nat := ((pc : Int) + off).toNat) (ht : (pc : Int) + off = (tgt : Int) := by decide) : X g cx mt F cs pc ls (.int x :: st) n I R := x_if_ge tgt hd ht (fun q => absurd q h) (fun _ => kf)
theorem x_icmp_ge {x y : Int32} {off : Int} (tgt : Nat) (hd : decode mt.2.1 pc = .ok (.if_icmp .ge off, 3)) (ht : (pc : Int) + off = (tgt : Int)) (kt : y ≤ x → X g cx mt F cs tgt ls (st) n I R) (kf : ¬ y ≤ x → X g cx mt F cs (pc + 3) ls (st) n I R) : X g cx mt F cs pc ls (.int y :: .int x :: st) n I R := fun ok H locs lsA hR hS hL => lv_icmp_ge ok.1 ok.2.1 hd ht (fun h => kt h ok H locs lsA hR hS hL) (fun h => kf h ok H locs lsA hR hS hL)
theorem x_icmp_geT {x y : Int32} {off : Int} (tgt : Nat) (hd : decode mt.2.1 pc = .ok (.if_icmp .ge off, 3)) (ht : (pc : Int) + off = (tgt : Int)) (h : y ≤ x) (kt : X g cx mt F cs tgt ls (st) n I R) : X g cx mt F cs pc ls (.int y :: .int x :: st) n I R := x_icmp_ge tgt hd ht (fun _ => kt) (fun q => absurd h q)
theorem x_icmp_geF {x y : Int32} {off : Int} (hd : decode mt.2.1 pc = .ok (.if_icmp .ge off, 3)) (h : ¬ y ≤ x) (kf : X g cx mt F cs (pc + 3) ls (st) n I R) (tgt : Nat := ((pc : Int) + off).toNat) (ht : (pc : Int) + off = (tgt : Int) := by decide) : X g cx mt F cs pc ls (.int y :: .int x :: st) n I R := x_icmp_ge tgt hd ht (fun q => absurd q h) (fun _ => kf)
theorem x_if_ne {x : Int32} {off : Int} (tgt : Nat) (hd : decode mt.2.1 pc = .ok (.ifCond .ne off, 3)) (ht : (pc : Int) + off = (tgt : Int)) (kt : ¬ x = 0 → X g cx mt F cs tgt ls (st) n I R) (kf : x = 0 → X g cx mt F cs (pc + 3) ls (st) n I R) : X g cx mt F cs pc ls (.int x :: st) n I R := fun ok H locs lsA hR hS hL => lv_if_ne ok.1 ok.2.1 hd ht (fun h => kt h ok H locs lsA hR hS hL) (fun h => kf h ok H locs lsA hR hS hL)
theorem x_if_neT {x : Int32} {off : Int} (tgt : Nat) (hd : decode mt.2.1 pc = .ok (.ifCond .ne off, 3)) (ht : (pc : Int) + off = (tgt : Int)) (h : ¬ x = 0) (kt : X g cx mt F cs tgt ls (st) n I R) : X g cx mt F cs pc ls (.int x :: st) n I R := x_if_ne tgt hd ht (fun _ => kt) (fun q => absurd q h)
theorem x_if_neF {x : Int32} {off : Int} (hd : decode mt.2.1 pc = .ok (.ifCond .ne off, 3)) (h : x = 0) (kf : X g cx mt F cs (pc + 3) ls (st) n I R) (tgt : Nat := ((pc : Int) + off).toNat) (ht : (pc : Int) + off = (tgt : Int) := by decide) : X g cx mt F cs pc ls (.int x :: st) n I R := x_if_ne tgt hd ht (fun q => absurd h q) (fun _ => kf)
theorem x_icmp_ne {x y : Int32} {off : Int} (tgt : Nat) (hd : decode mt.2.1 pc = .ok (.if_icmp .ne off, 3)) (ht : (pc : Int) + off = (tgt : Int)) (kt : ¬ x = y → X g cx mt F cs tgt ls (st) n I R) (kf : x = y → X g cx mt F cs (pc + 3) ls (st) n I R) : X g cx mt F cs pc ls (.int y :: .int x :: st) n I R := fun ok H locs lsA hR hS hL => lv_icmp_ne ok.1 ok.2.1 hd ht (fun h => kt h ok H locs lsA hR hS hL) (fun h => kf h ok H locs lsA hR hS hL)
theorem x_icmp_neT {x y : Int32} {off : Int} (tgt : Nat) (hd : decode mt.2.1 pc = .ok (.if_icmp .ne off, 3)) (ht : (pc : Int) + off = (tgt : Int)) (h : ¬ x = y) (kt : X g cx mt F cs tgt ls (st) n I R) : X g cx mt F cs pc ls (.int y :: .int x :: st) n I R := x_icmp_ne tgt hd ht (fun _ => kt) (fun q => absurd q h)
theorem x_icmp_neF {x y : Int32} {off : Int} (hd : decode mt.2.1 pc = .ok (.if_icmp .ne off, 3)) (h : x = y) (kf : X g cx mt F cs (pc + 3) ls (st) n I R) (tgt : Nat := ((pc : Int) + off).toNat) (ht : (pc : Int) + off = (tgt : Int) := by decide) : X g cx mt F cs pc ls (.int y :: .int x :: st) n I R := x_icmp_ne tgt hd ht (fun q => absurd h q) (fun _ => kf)
theorem x_ifnonnull {j : Nat} {off : Int} (tgt : Nat) (hd : decode mt.2.1 pc = .ok (.ifnonnull off, 3)) (ht : (pc : Int) + off = (tgt : Int)) (k : X g cx mt F cs tgt ls (st) n I R) : X g cx mt F cs pc ls (.ref j :: st) n I R := fun ok H locs lsA hR hS hL => lv_ifnonnull ok.1 ok.2.1 hd ht (k ok H locs lsA hR hS hL)
theorem x_ifnonnullN {off : Int} (hd : decode mt.2.1 pc = .ok (.ifnonnull off, 3)) (k : X g cx mt F cs (pc + 3) ls (st) n I R) : X g cx mt F cs pc ls (.null :: st) n I R := fun ok H locs lsA hR hS hL => lv_ifnonnullN ok.1 ok.2.1 hd (k ok H locs lsA hR hS hL)
theorem x_ifnull {j : Nat} {off : Int} (hd : decode mt.2.1 pc = .ok (.ifnull off, 3)) (k : X g cx mt F cs (pc + 3) ls (st) n I R) : X g cx mt F cs pc ls (.ref j :: st) n I R := fun ok H locs lsA hR hS hL => lv_ifnull ok.1 ok.2.1 hd (k ok H locs lsA hR hS hL)
theorem x_ifnullN {off : Int} (tgt : Nat) (hd : decode mt.2.1 pc = .ok (.ifnull off, 3)) (ht : (pc : Int) + off = (tgt : Int)) (k : X g cx mt F cs tgt ls (st) n I R) : X g cx mt F cs pc ls (.null :: st) n I R := fun ok H locs lsA hR hS hL => lv_ifnullN ok.1 ok.2.1 hd ht (k ok H locs lsA hR hS hL)
theorem x_acmp_eqT {a : Nat} {off : Int} (tgt : Nat) (hd : decode mt.2.1 pc = .ok (.if_acmp .eq off, 3)) (ht : (pc : Int) + off = (tgt : Int)) (k : X g cx mt F cs tgt ls (st) n I R) : X g cx mt F cs pc ls (.ref a :: .ref a :: st) n I R := fun ok H locs lsA hR hS hL => lv_acmp_eq (rx := some (xad g a)) (ry := some (xad g a)) ok.1 ok.2.1 hd ht (fun _ => k ok H locs lsA hR hS hL) (fun q => absurd rfl q)
theorem x_acmp_eqF {a b : Nat} {off : Int} (tgt : Nat) (ht : (pc : Int) + off = (tgt : Int)) (hd : decode mt.2.1 pc = .ok (.if_acmp .eq off, 3)) (ha : a < 1000) (hb : b < 1000) (hne : a ≠ b) (k : X g cx mt F cs (pc + 3) ls (st) n I R) : X g cx mt F cs pc ls (.ref a :: .ref b :: st) n I R := fun ok H locs lsA hR hS hL => lv_acmp_eq (rx := some (xad g b)) (ry := some (xad g a)) ok.1 ok.2.1 hd ht (fun q => absurd (xad_inj g hb ha (Option.some.inj q)).symm hne) (fun _ => k ok H locs lsA hR hS hL)
theorem x_tableIn {dflt lo hi : Int} {offs : Array Int} {len : Nat} {x : Int32} {off : Int} (tgt : Nat) (hd : decode mt.2.1 pc = .ok (.tableswitch dflt lo hi offs, len)) (h1 : ¬ x.toInt < lo) (h2 : ¬ hi < x.toInt) (ho : offs[(x.toInt - lo).toNat]? = some off) (ht : (pc : Int) + off = (tgt : Int)) (k : X g cx mt F cs tgt ls (st) n I R) : X g cx mt F cs pc ls (.int x :: st) n I R := fun ok H locs lsA hR hS hL => lv_tableIn ok.1 ok.2.1 hd h1 h2 ho ht (k ok H locs lsA hR hS hL)
theorem x_tableOut {dflt lo hi : Int} {offs : Array Int} {len : Nat} {x : Int32} (tgt : Nat) (hd : decode mt.2.1 pc = .ok (.tableswitch dflt lo hi offs, len)) (h : x.toInt < lo ∨ hi < x.toInt) (ht : (pc : Int) + dflt = (tgt : Int)) (k : X g cx mt F cs tgt ls (st) n I R) : X g cx mt F cs pc ls (.int x :: st) n I R := fun ok H locs lsA hR hS hL => lv_tableOut ok.1 ok.2.1 hd h ht (k ok H locs lsA hR hS hL)
theorem x_lookup {dflt : Int} {ps : Array (Int × Int)} {len : Nat} {x : Int32} {off : Int} (tgt : Nat) (hd : decode mt.2.1 pc = .ok (.lookupswitch dflt ps, len)) (hp : (ps.toList.zip (ps.toList.drop 1)).all (fun (a, next) => a.1 < next.1) = true) (ho : Op.lookupswitch.offset ps.toList dflt x.toInt = off) (ht : (pc : Int) + off = (tgt : Int)) (k : X g cx mt F cs tgt ls (st) n I R) : X g cx mt F cs pc ls (.int x :: st) n I R := fun ok H locs lsA hR hS hL => lv_lookup ok.1 ok.2.1 hd hp ho ht (k ok H locs lsA hR hS hL)
theorem x_top {x : Int32} (k : ∀ y : Int32, y = x → X g cx mt F cs pc ls (.int y :: st) n I R) : X g cx mt F cs pc ls (.int x :: st) n I R := k x rfl
theorem x_weak (ls2 : List (Option Value)) (hl : ls2.length = ls.length) (hw : ∀ (i : Nat) (v : Value), ls2[i]? = some (some v) → ls[i]? = some (some v)) (k : X g cx mt F cs pc ls2 (st) n I R) : X g cx mt F cs pc ls (st) n I R := fun ok H locs lsA hR hS hL => k ok H locs lsA hR hS (hL.weak hl hw)
end XR
end
section
def xuI (I : MI) (i k : Nat) (x : Int32) : MI := fun a b => if a = i ∧ b = k then x else I a b
def xuR (R : MR) (i k : Nat) (x : Option Nat) : MR := fun a b => if a = i ∧ b = k then x else R a b
def FL (own : String) (idx c k : Nat) : Prop := ∃ (C : String) (T : u_T) (N : Nat), vwCl[c]? = some (C, T, N) ∧ k < N ∧ N = xN c ∧ c < 7 ∧ Cond.fieldLink own idx (T k).1 (T k).2.1 (T k).2.2.1 ∈ XT ∧ ∀ w ∈ u_ws C T N, w ∈ XT
def FP (c k : Nat) (fin : Bool) (ty : FieldType) : Prop := ∃ (C : String) (T : u_T) (N : Nat) (t0 : Nat → FieldType), vwCl[c]? = some (C, T, N) ∧ (∀ k, k < N → parseFieldDescriptor (T k).2.2.1 = some (t0 k)) ∧ (∀ a, a < N → ∀ b, b < N → a ≠ b → (T a).2.1 ≠ (T b).2.1) ∧ (T k).2.2.2 = fin ∧ parseFieldDescriptor (T k).2.2.1 = some ty ∧ (T k).1 = C
theorem xval_I {g : GX} {I : MI} {R : MR} {c i k : Nat} (h : xrf c k = false) : xval g I R c i k = .int (I i k) := by simp [xval, h]
theorem xval_R {g : GX} {I : MI} {R : MR} {c i k : Nat} (h : xrf c k = true) : xval g I R c i k = va_rf ((R i k).map (xad g)) := by simp [xval, h]
theorem xval_uI {g : GX} {I : MI} {R : MR} {c i k : Nat} {x : Int32} (h : xrf c k = false) : xval g (xuI I i k x) R c i = updV (xval g I R c i) k (.int x) := by
  funext j
  by_cases hj : j = k
  · subst hj
    simp [xval, xuI, updV, h]
  · simp [xval, xuI, updV, hj]
theorem xval_uR {g : GX} {I : MI} {R : MR} {c i k : Nat} {x : Option Nat} (h : xrf c k = true) : xval g I (xuR R i k x) c i = updV (xval g I R c i) k (va_rf (x.map (xad g))) := by
  funext j
  by_cases hj : j = k
  · subst hj
    simp [xval, xuR, updV, h]
  · simp [xval, xuR, updV, hj]
theorem xat.kept {g : GX} {I I' : MI} {R R' : MR} {H H' : Heap} {j : Nat} (h : xat g I R H j) (hH : H'[xad g j]? = H[xad g j]?) (hv : xval g I' R' (xkd j) j = xval g I R (xkd j) j) : xat g I' R' H' j := by
  refine ⟨fun hk => ?_, fun hk => ?_⟩
  · rw [hv]; exact (h.1 hk).kept hH
  · rw [hv, hH]; exact h.2 hk
theorem xRep.put {g : GX} {n : Nat} {I I' : MI} {R R' : MR} {H H' : Heap} {i : Nat} (h : xRep g n I R H) (hi : i < n) (hI : ∀ j, j ≠ i → I' j = I j) (hR : ∀ j, j ≠ i → R' j = R j) (hsz : H'.size = H.size) (ho : ∀ q, q ≠ xad g i → H'[q]? = H[q]?) (hat : xat g I' R' H' i) : xRep g n I' R' H' := by
  obtain ⟨h1, h2, h3, h4⟩ := h
  refine ⟨h1, by rw [hsz]; exact h2, fun hn => by rw [hsz]; exact h3 hn, fun j hj => ?_⟩
  by_cases hji : j = i
  · subst hji; exact hat
  · refine (h4 j hj).kept (ho _ fun e => hji (xad_inj g (by omega) (by omega) e)) ?_
    funext k
    simp only [xval, hI j hji, hR j hji]
theorem xuI_ne {I : MI} {i k j : Nat} {x : Int32} (h : j ≠ i) : xuI I i k x j = I j := by funext b; simp [xuI, h]
theorem xuR_ne {R : MR} {i k j : Nat} {x : Option Nat} (h : j ≠ i) : xuR R i k x j = R j := by funext b; simp [xuR, h]
theorem xS_put {g : GX} {H0 H H' : Heap} {locs : List Loc} {i k : Nat} (hi : i < 1000) (hS : va_S (fun q => g.1.1 ≤ q) H0 H locs) (e2 : H'.size = H.size) (e3 : ∀ q, q ≠ xad g i → H'[q]? = H[q]?) : va_S (fun q => g.1.1 ≤ q) H0 H' (locs ++ [⟨xad g i, k⟩]) :=
  hS.put e2 e3 (by show g.1.1 ≤ xad g i; rw [xad_lo g hi]; omega)
section XH
variable {g : GX} {cx : CX} {mt : MT} {F : State → Prop} {cs : Nat × Nat} {pc : Nat} {ls : List (Option Value)} {st : List Value} {n : Nat} {I : MI} {R : MR}
theorem xRep.obj {H : Heap} {i c : Nat} (h : xRep g n I R H) (hi : i < n) (hk : xkd i = c) (hc : c < 7) : t_OB (xad g i) (g.2.1.1 c) (xN c) (g.2.1.2 c) H (xval g I R c i) := by
  subst hk; exact (h.2.2.2 i hi).1 hc
theorem xRep.arr {H : Heap} {i c : Nat} (h : xRep g n I R H) (hi : i < n) (hk : xkd i = c) (hc : ¬ c < 7) : H[xad g i]? = some (arrV (g.2.2 c) (xln i) (xval g I R c i)) := by
  subst hk; exact (h.2.2.2 i hi).2 hc
theorem x_get {idx c k i : Nat} {v : Value} (fl : FL mt.1.cls idx c k) (hd : decode mt.2.1 pc = .ok (.getfield idx, 3)) (hk : xkd i = c) (hi : i < n) (hv : xval g I R c i k = xv g v)
    (kk : X g cx mt F cs (pc + 3) ls (v :: st) n I R) : X g cx mt F cs pc ls (.ref i :: st) n I R := by
  intro ok H locs lsA hR hS hL
  obtain ⟨C, T, N, hc, hkN, hN, hc7, hlink, hin⟩ := fl
  subst hN
  obtain ⟨cell, q1, q2, q3, q4⟩ := hR.obj hi hk hc7
  have hts := ok.2.2.2.2.2.2.1
  obtain ⟨hSl, hfc, kC, hkC, hkind⟩ := ok.2.2.2.2.2.2.2.2.1.1.1 c _ hc
  obtain ⟨cf, kf, fi, f, hf, hsl⟩ := hSl k hkN
  refine W.getf ok.1 ok.2.1 ok.2.2.2.2.1 (hts _ hlink) hf (u_facts hfc hkC (u_lays hts hin hkN) hf).1 q1 (by rw [q3]; exact fun h => by cases h) (v := xv g v) ?_ rfl rfl hd (kk ok H locs lsA hR hS hL)
  rw [hsl, q4 k hkN, hv]
theorem x_getI {idx c k i : Nat} (fl : FL mt.1.cls idx c k) (hd : decode mt.2.1 pc = .ok (.getfield idx, 3)) (hk : xkd i = c) (hi : i < n) (hr : xrf c k = false)
    (kk : X g cx mt F cs (pc + 3) ls (.int (I i k) :: st) n I R) : X g cx mt F cs pc ls (.ref i :: st) n I R := x_get (v := .int (I i k)) fl hd hk hi (xval_I hr) kk
theorem x_getR {idx c k i j : Nat} (fl : FL mt.1.cls idx c k) (hd : decode mt.2.1 pc = .ok (.getfield idx, 3)) (hk : xkd i = c) (hi : i < n) (hr : xrf c k = true) (hj : R i k = some j)
    (kk : X g cx mt F cs (pc + 3) ls (.ref j :: st) n I R) : X g cx mt F cs pc ls (.ref i :: st) n I R := x_get (v := .ref j) fl hd hk hi (by rw [xval_R hr, hj]; rfl) kk
theorem x_put {idx c k i : Nat} {v : Value} {ty : FieldType} {I' : MI} {R' : MR} (fl : FL mt.1.cls idx c k) (fp : FP c k false ty) (hd : decode mt.2.1 pc = .ok (.putfield idx, 3)) (hk : xkd i = c) (hi : i < n)
    (hn : narrow ty (xv g v) = xv g v) (hfit : fits ty (xv g v) = true) (hI : ∀ j, j ≠ i → I' j = I j) (hRR : ∀ j, j ≠ i → R' j = R j) (hu : xval g I' R' c i = updV (xval g I R c i) k (xv g v))
    (kk : X g cx mt F cs (pc + 3) ls st n I' R') : X g cx mt F cs pc ls (v :: .ref i :: st) n I R := by
  intro ok H locs lsA hR hS hL
  obtain ⟨C, T, N, hc, hkN, hN, hc7, hlink, hin⟩ := fl
  obtain ⟨C', T', N', t0, hc', hty, hnm, hfin, hdty, -⟩ := fp
  have he := Option.some.inj (hc.symm.trans hc')
  cases he
  subst hN
  have hob := hR.obj hi hk hc7
  obtain ⟨cell, q1, q2, q3, q4⟩ := hob
  have hts := ok.2.2.2.2.2.2.1
  have hap := va_apart (own := mt.1.cls) hts hin t0 hty hnm ok.2.2.2.2.2.2.2.2.1.1 hc
  obtain ⟨hSl, hfc, kC, hkC, hkind⟩ := ok.2.2.2.2.2.2.2.2.1.1.1 c _ hc
  obtain ⟨cf, kf, fi, f, hf, hsl⟩ := hSl k hkN
  have hlay := hts _ (hin _ (u_in_lay hkN))
  unfold u_lay at hlay
  rw [if_neg (by rw [hfin]; decide)] at hlay
  have hst := (u_facts hfc hkC (u_lays hts hin hkN) hf).1
  have h6 := u_store hfc hkC hkind hlay hf hdty hn hfit
  refine W.putK ok.1 ok.2.1 (f := f) ⟨ok.2.2.2.2.1, hts _ hlink, ⟨_, _, _, hf⟩, hst⟩ (by rw [q2]; exact h6) q1 q3 (by rw [hsl]; exact k2_hasslot (q4 k hkN)) rfl rfl hd fun H' e1 e2 e3 => ?_
  rw [hsl] at e1 ⊢
  have hn0 := hR.1
  refine kk ok H' _ lsA (hR.put hi hI hRR e2 e3 ⟨fun h7 => ?_, fun h7 => absurd (by rw [hk]; exact hc7) h7⟩) (xS_put (by omega) hS e2 e3) hL
  rw [hk, hu]
  exact ⟨_, e1, q2, q3, t_set q4 hap hkN _⟩
theorem x_putI {idx c k i : Nat} {x : Int32} {ty : FieldType} (fl : FL mt.1.cls idx c k) (fp : FP c k false ty) (hd : decode mt.2.1 pc = .ok (.putfield idx, 3)) (hk : xkd i = c) (hi : i < n) (hr : xrf c k = false)
    (hn : narrow ty (.int x) = .int x) (hfit : fits ty (.int x) = true)
    (kk : X g cx mt F cs (pc + 3) ls st n (xuI I i k x) R) : X g cx mt F cs pc ls (.int x :: .ref i :: st) n I R :=
  x_put (v := .int x) fl fp hd hk hi hn hfit (fun _ h => xuI_ne h) (fun _ _ => rfl) (xval_uI hr) kk
theorem x_putR {idx c k i j : Nat} {ty : FieldType} (fl : FL mt.1.cls idx c k) (fp : FP c k false ty) (hd : decode mt.2.1 pc = .ok (.putfield idx, 3)) (hk : xkd i = c) (hi : i < n) (hr : xrf c k = true)
    (hn : ∀ a, narrow ty (.ref a) = .ref a) (hfit : ∀ a, fits ty (.ref a) = true)
    (kk : X g cx mt F cs (pc + 3) ls st n I (xuR R i k (some j))) : X g cx mt F cs pc ls (.ref j :: .ref i :: st) n I R :=
  x_put (v := .ref j) fl fp hd hk hi (hn _) (hfit _) (fun _ _ => rfl) (fun _ h => xuR_ne h) (xval_uR hr) kk
theorem x_putF {idx c k i : Nat} {v : Value} {ty : FieldType} {I' : MI} {R' : MR} (fl : FL mt.1.cls idx c k) (fp : FP c k true ty) (hini : mt.1.name = "<init>") (hcls : vwCl[c]?.map (fun q => q.1) = some mt.1.cls) (hd : decode mt.2.1 pc = .ok (.putfield idx, 3)) (hk : xkd i = c) (hi : i < n)
    (hn : narrow ty (xv g v) = xv g v) (hfit : fits ty (xv g v) = true) (hI : ∀ j, j ≠ i → I' j = I j) (hRR : ∀ j, j ≠ i → R' j = R j) (hu : xval g I' R' c i = updV (xval g I R c i) k (xv g v))
    (kk : X g cx mt F cs (pc + 3) ls st n I' R') : X g cx mt F cs pc ls (v :: .ref i :: st) n I R := by
  intro ok H locs lsA hR hS hL
  obtain ⟨C, T, N, hc, hkN, hN, hc7, hlink, hin⟩ := fl
  obtain ⟨C', T', N', t0, hc', hty, hnm, hfin, hdty, hdecl⟩ := fp
  have he := Option.some.inj (hc.symm.trans hc')
  cases he
  subst hN
  have hob := hR.obj hi hk hc7
  obtain ⟨cell, q1, q2, q3, q4⟩ := hob
  have hts := ok.2.2.2.2.2.2.1
  have hap := va_apart (own := mt.1.cls) hts hin t0 hty hnm ok.2.2.2.2.2.2.2.2.1.1 hc
  obtain ⟨hSl, hfc, kC, hkC, hkind⟩ := ok.2.2.2.2.2.2.2.2.1.1.1 c _ hc
  obtain ⟨cf, kf, fi, f, hf, hsl⟩ := hSl k hkN
  have hlay := hts _ (hin _ (u_in_lay hkN))
  unfold u_lay at hlay
  rw [if_pos hfin] at hlay
  have hst := (u_facts hfc hkC (u_lays hts hin hkN) hf).1
  have hown := ok.2.2.2.2.1
  have hC : C = mt.1.cls := by rw [hc] at hcls; exact Option.some.inj hcls
  have hcf : cx.2.2.2.2.1.cls = cf := by
    obtain ⟨_, _, c', _, _, _, -, -, hf', -, -, -, hown2, -⟩ := Cond.laysFinal_spec hlay
    have e1 : c' = cf := by have := hf.symm.trans hf'; simp at this; exact this.1.symm
    rw [hdecl, hC] at hown2
    rw [← e1]; exact Option.some.inj (hown.symm.trans hown2)
  have h6 := u_fits hfc hkC hkind (Or.inr hlay) hf hdty hn hfit
  refine W.putFinK ok.1 ok.2.1 hown (hts _ hlink) hf hst hcf (ok.2.2.2.2.2.2.2.1.trans hini) (by rw [q2]; exact h6) q1 q3 (by rw [hsl]; exact k2_hasslot (q4 k hkN)) rfl rfl hd fun H' e1 e2 e3 => ?_
  rw [hsl] at e1 ⊢
  have hn0 := hR.1
  refine kk ok H' _ lsA (hR.put hi hI hRR e2 e3 ⟨fun h7 => ?_, fun h7 => absurd (by rw [hk]; exact hc7) h7⟩) (xS_put (by omega) hS e2 e3) hL
  rw [hk, hu]
  exact ⟨_, e1, q2, q3, t_set q4 hap hkN _⟩
theorem xin {x : Int32} {j N : Nat} (h0 : ¬ x < 0) (hj : x.toNatClampNeg = j) (hlt : j < N) : ¬ (x < 0 ∨ N ≤ x.toNatClampNeg) := by
  rw [hj]
  rintro (h | h)
  · exact h0 h
  · omega
theorem x_iald {i j : Nat} {x : Int32} (hd : decode mt.2.1 pc = .ok (.iaload, 1)) (hk : xkd i = 8) (hi : i < n) (h0 : ¬ x < 0) (hj : x.toNatClampNeg = j) (hlt : j < xln i)
    (kk : X g cx mt F cs (pc + 1) ls (.int (I i j) :: st) n I R) : X g cx mt F cs pc ls (.int x :: .ref i :: st) n I R := by
  intro ok H locs lsA hR hS hL
  have hc := hR.arr hi hk (by decide)
  refine W.iald (v := .int (I i j)) ok.1 ok.2.1 hc ((ok.2.2.2.2.2.2.2.2.1.1.2 1 _ rfl).1 _ _) (fun q => by cases q) (by rw [arrV_size]; exact xin h0 hj hlt) ?_ rfl rfl hd (kk ok H locs lsA hR hS hL)
  rw [hj, arrV_read _ _ hlt]; rfl
theorem x_cald {i j : Nat} {x : Int32} (hd : decode mt.2.1 pc = .ok (.caload, 1)) (hk : xkd i = 7) (hi : i < n) (h0 : ¬ x < 0) (hj : x.toNatClampNeg = j) (hlt : j < xln i)
    (kk : X g cx mt F cs (pc + 1) ls (.int (I i j) :: st) n I R) : X g cx mt F cs pc ls (.int x :: .ref i :: st) n I R := by
  intro ok H locs lsA hR hS hL
  have hc := hR.arr hi hk (by decide)
  refine W.cald (v := .int (I i j)) ok.1 ok.2.1 hc ((ok.2.2.2.2.2.2.2.2.1.1.2 0 _ rfl).1 _ _) (fun q => by cases q) (by rw [arrV_size]; exact xin h0 hj hlt) ?_ rfl rfl hd (kk ok H locs lsA hR hS hL)
  rw [hj, arrV_read _ _ hlt]; rfl
theorem x_aald {i j a c : Nat} {x : Int32} (hc : 9 ≤ c ∧ c ≤ 11) (hd : decode mt.2.1 pc = .ok (.aaload, 1)) (hk : xkd i = c) (hi : i < n) (h0 : ¬ x < 0) (hj : x.toNatClampNeg = j) (hlt : j < xln i) (ha : R i j = some a)
    (kk : X g cx mt F cs (pc + 1) ls (.ref a :: st) n I R) : X g cx mt F cs pc ls (.int x :: .ref i :: st) n I R := by
  intro ok H locs lsA hR hS hL
  have hcell := hR.arr hi hk (by omega)
  obtain ⟨ty, hty, hA⟩ : ∃ ty : FieldType, ty.isReference = true ∧ ArrOfT cx.2.2.2.1 (g.2.2 c) ty := by
    rcases (show c = 9 ∨ c = 10 ∨ c = 11 by omega) with rfl | rfl | rfl
    · exact ⟨.object RX1, rfl, (ok.2.2.2.2.2.2.2.2.1.1.2 2 _ rfl).1⟩
    · exact ⟨.object RX3, rfl, (ok.2.2.2.2.2.2.2.2.1.1.2 3 _ rfl).1⟩
    · exact ⟨.object RX4, rfl, (ok.2.2.2.2.2.2.2.2.1.1.2 4 _ rfl).1⟩
  refine W.aald (v := .ref (xad g a)) ok.1 ok.2.1 hcell (hA _ _) hty (fun q => by cases q) (by rw [arrV_size]; exact xin h0 hj hlt) ?_ rfl rfl hd (kk ok H locs lsA hR hS hL)
  have hx : xrf c j = true := by rcases (show c = 9 ∨ c = 10 ∨ c = 11 by omega) with rfl | rfl | rfl <;> rfl
  rw [hj, arrV_read _ _ hlt, xval_R hx, ha]; rfl
theorem x_iast {i j : Nat} {x y : Int32} (hd : decode mt.2.1 pc = .ok (.iastore, 1)) (hk : xkd i = 8) (hi : i < n) (h0 : ¬ x < 0) (hj : x.toNatClampNeg = j) (hlt : j < xln i)
    (kk : X g cx mt F cs (pc + 1) ls st n (xuI I i j y) R) : X g cx mt F cs pc ls (.int y :: .int x :: .ref i :: st) n I R := by
  intro ok H locs lsA hR hS hL
  have hc := hR.arr hi hk (by decide)
  have hn0 := hR.1
  refine W.iast ok.1 ok.2.1 hc ((ok.2.2.2.2.2.2.2.2.1.1.2 1 _ rfl).1 _ _) (fun q => by cases q) (by rw [arrV_size]; exact xin h0 hj hlt) rfl rfl hd fun H1 e z oq => ?_
  refine kk ok H1 _ lsA (hR.put hi (fun _ h => xuI_ne h) (fun _ _ => rfl) z oq ⟨fun h7 => absurd h7 (by rw [hk]; decide), fun h7 => ?_⟩) (xS_put (by omega) hS z oq) hL
  rw [e, hj, arrV_store, hk, xval_uI rfl]
theorem x_cast {i j : Nat} {x y : Int32} (hd : decode mt.2.1 pc = .ok (.castore, 1)) (hk : xkd i = 7) (hi : i < n) (h0 : ¬ x < 0) (hj : x.toNatClampNeg = j) (hlt : j < xln i) (hy : narrow .char (.int y) = .int y)
    (kk : X g cx mt F cs (pc + 1) ls st n (xuI I i j y) R) : X g cx mt F cs pc ls (.int y :: .int x :: .ref i :: st) n I R := by
  intro ok H locs lsA hR hS hL
  have hc := hR.arr hi hk (by decide)
  have hn0 := hR.1
  refine W.cast ok.1 ok.2.1 hc ((ok.2.2.2.2.2.2.2.2.1.1.2 0 _ rfl).1 _ _) (fun q => by cases q) (by rw [arrV_size]; exact xin h0 hj hlt) rfl rfl hd fun H1 e z oq => ?_
  refine kk ok H1 _ lsA (hR.put hi (fun _ h => xuI_ne h) (fun _ _ => rfl) z oq ⟨fun h7 => absurd h7 (by rw [hk]; decide), fun h7 => ?_⟩) (xS_put (by omega) hS z oq) hL
  rw [e, hj, hy, arrV_store, hk, xval_uI rfl]
theorem x_alen {i c : Nat} {v : Int32} (hd : decode mt.2.1 pc = .ok (.arraylength, 1)) (hk : xkd i = c) (hc : 7 ≤ c ∧ c ≤ 11) (hi : i < n) (hv : Int32.ofNat (xln i) = v)
    (kk : X g cx mt F cs (pc + 1) ls (.int v :: st) n I R) : X g cx mt F cs pc ls (.ref i :: st) n I R := by
  intro ok H locs lsA hR hS hL
  have hcell := hR.arr hi hk (by omega)
  obtain ⟨ty, hA⟩ : ∃ ty : FieldType, ArrOfT cx.2.2.2.1 (g.2.2 c) ty := by
    rcases (show c = 7 ∨ c = 8 ∨ c = 9 ∨ c = 10 ∨ c = 11 by omega) with rfl | rfl | rfl | rfl | rfl
    · exact ⟨.char, (ok.2.2.2.2.2.2.2.2.1.1.2 0 _ rfl).1⟩
    · exact ⟨.int, (ok.2.2.2.2.2.2.2.2.1.1.2 1 _ rfl).1⟩
    · exact ⟨.object RX1, (ok.2.2.2.2.2.2.2.2.1.1.2 2 _ rfl).1⟩
    · exact ⟨.object RX3, (ok.2.2.2.2.2.2.2.2.1.1.2 3 _ rfl).1⟩
    · exact ⟨.object RX4, (ok.2.2.2.2.2.2.2.2.1.1.2 4 _ rfl).1⟩
  exact W.alen (n := v) ok.1 ok.2.1 hcell (hA _ _) (by rw [arrV_size]; exact hv) rfl rfl hd (kk ok H locs lsA hR hS hL)
end XH
end
section
theorem xNW_warm {w : Cond} (hw : w ∈ xNW) {s U : State} (hW : s.WarmedH U.vm) (h : va_Nw w s) : va_Nw w U := by
  have h1 := (List.mem_filter.mp hw).2
  revert h
  split at h1
  · exact fun h => va_Nw.warmM hW h
  · exact fun h => va_Nw.warmF hW h
  · cases h1
theorem xNW_same {w : Cond} (hw : w ∈ xNW) {u U : State} (hv : u.vm = U.vm) (h : va_Nw w u) : va_Nw w U := by
  have h1 := (List.mem_filter.mp hw).2
  revert h
  split at h1
  · exact fun h => va_Nw.same rfl hv h
  · exact fun h => va_Nw.same rfl hv h
  · cases h1
theorem xKV.warm {g : GX} {s U : State} (hW : s.WarmedH U.vm) (h : xKV g s) : xKV g U :=
  ⟨va_K.moved hW.alike h.1, fun w hw => xNW_warm hw hW (h.2.1 w hw), ⟨va_AO.moved hW.alike h.2.2.1.1, va_AO.moved hW.alike h.2.2.1.2.1, va_AO.moved hW.alike h.2.2.1.2.2⟩,
   vk_R.warm hW h.2.2.2.1, vk_R.warm hW h.2.2.2.2.1, vk_R.warm hW h.2.2.2.2.2.1, vk_R.warm hW h.2.2.2.2.2.2.1, vk_R.warm hW h.2.2.2.2.2.2.2⟩
theorem x_alike {u U : State} (hv : u.vm = U.vm) : u.vm.Alike U.vm := by rw [← hv]; exact Vm.Alike.refl u.vm
theorem xKV.same {g : GX} {u U : State} (hv : u.vm = U.vm) (h : xKV g u) : xKV g U :=
  ⟨va_K.moved (x_alike hv) h.1, fun w hw => xNW_same hw hv (h.2.1 w hw), ⟨va_AO.moved (x_alike hv) h.2.2.1.1, va_AO.moved (x_alike hv) h.2.2.1.2.1, va_AO.moved (x_alike hv) h.2.2.1.2.2⟩,
   vk_R.same hv.symm h.2.2.2.1, vk_R.same hv.symm h.2.2.2.2.1, vk_R.same hv.symm h.2.2.2.2.2.1, vk_R.same hv.symm h.2.2.2.2.2.2.1, vk_R.same hv.symm h.2.2.2.2.2.2.2⟩
theorem xKH.moved {g : GX} {u U : State} {H : Heap} (hvm : u.vm.Alike U.vm) (h : xKH g u H) : xKH g U H := ⟨h.1.moved hvm, h.2.1.moved hvm, h.2.2.1.moved hvm, h.2.2.2.moved hvm⟩
theorem xKH.kept {g : GX} {U : State} {H H1 : Heap} (h : xKH g U H) (hq : ∀ a : Nat, a < H.size → ¬ g.1.1 ≤ a → H1[a]? = H[a]?) : xKH g U H1 := ⟨h.1.kept hq, h.2.1.kept hq, h.2.2.1.kept hq, h.2.2.2.kept hq⟩
theorem xPc.blind (g : GX) (av : List Value) (n : Nat) (I : MI) (R : MR) : FrameBlind (xPc g av n I R) := fun a U f mk q => ⟨q.1, q.2.1, xKV.same (u := U) (U := U.calling f mk a) rfl q.2.2.1, q.2.2.2.1, xKH.moved (u := U) (U := U.calling f mk a) (x_alike rfl) q.2.2.2.2⟩
theorem x_good : GoodIn XT XT := fun w hw => ⟨hw, good_of_word (List.mem_filter.mp hw).2⟩
theorem x_goodC {c : Cond} (hc : c ∈ XT) : GoodIn XT (c :: XT) := fun w hw => by
  rcases List.mem_cons.mp hw with rfl | h
  · exact x_good _ hc
  · exact x_good _ h
theorem lv_args_mem : ∀ (vs : List Value) (k i : Nat) (v : Value), (∀ w ∈ vs, w.category = 1) → vs[i]? = some v → (k + i, v) ∈ lv_args k vs := by
  intro vs
  induction vs with
  | nil => intro k i v _ h; simp at h
  | cons w vs ih =>
    intro k i v hc h
    have hw : w.category = 1 := hc w List.mem_cons_self
    cases i with
    | zero =>
      simp at h
      subst h
      exact List.mem_cons_self
    | succ i =>
      have h' : vs[i]? = some v := by simpa using h
      have := ih (k + 1) i v (fun z hz => hc z (List.mem_cons_of_mem _ hz)) h'
      rw [show k + (i + 1) = k + 1 + i by omega]
      show _ ∈ (k, w) :: lv_args (if w.category = 2 then k + 2 else k + 1) vs
      rw [if_neg (by omega)]
      exact List.mem_cons_of_mem _ this
theorem lg_sl1 : ∀ (vs : List Value), (∀ w ∈ vs, w.category = 1) → (lg_sl vs).length = vs.length := by
  intro vs
  induction vs with
  | nil => intro _; rfl
  | cons w vs ih =>
    intro hc
    have hw : w.category = 1 := hc w List.mem_cons_self
    have h := ih (fun z hz => hc z (List.mem_cons_of_mem _ hz))
    unfold lg_sl at h ⊢
    rw [List.flatMap_cons, List.length_append, h, if_neg (by omega)]
    simp
    omega
/-- the locals at a method's entry -/
def xEn (av : List Value) (nL : Nat) : List (Option Value) := av.map some ++ List.replicate (nL - av.length) none
theorem XL.entry (g : GX) {av : List Value} {nL : Nat} (hc : ∀ v ∈ av, v.category = 1) (hl : av.length ≤ nL) : XL g nL (xEn av nL) ((lg_sl (av.map (xv g)) ++ List.replicate (nL - (lg_sl (av.map (xv g))).length) Slot.unset).toArray) := by
  have hc' : ∀ w ∈ av.map (xv g), w.category = 1 := fun w hw => by
    obtain ⟨v, hv, rfl⟩ := List.mem_map.mp hw
    rw [xv_cat]; exact hc v hv
  have h1 := lg_sl1 _ hc'
  have h2 := lv_entry (av.map (xv g)) (n := nL) (by rw [h1, List.length_map]; exact hl)
  refine ⟨⟨h2.1, h2.2.1, fun q hq => ?_⟩, by simp [xEn]; omega, fun v hv => ?_⟩
  · obtain ⟨v, h3, h4⟩ := xp_of hq
    have h5 : av[q.1]? = some v := by
      unfold xEn at h3
      by_cases hlt : q.1 < av.length
      · rw [List.getElem?_append_left (by simpa using hlt)] at h3
        simpa using h3
      · rw [List.getElem?_append_right (by simpa using Nat.not_lt.mp hlt)] at h3
        have := List.mem_of_getElem? h3
        simp [List.mem_replicate] at this
    have h6 := lv_args_mem (av.map (xv g)) 0 q.1 (xv g v) hc' (by rw [List.getElem?_map, h5]; rfl)
    rw [Nat.zero_add] at h6
    have h7 := h2.2.2 _ h6
    rw [h4]; exact h7
  · unfold xEn at hv
    rcases List.mem_append.mp hv with h | h
    · obtain ⟨w, hw, e⟩ := List.mem_map.mp h
      cases e; exact hc _ hw
    · simp [List.mem_replicate] at h
theorem Sp.mk {mt : MT} {av : List Value} {n : Nat} {I : MI} {R : MR} {Q : XQ} (hp : plainName mt.1.cls = true) (hc : ∀ v ∈ av, v.category = 1) (hl : av.length ≤ mt.2.2.1)
    (h : ∀ (g : GX) (cx : CX), X g cx mt (xF g cx mt Q) (0, 0) 0 (xEn av mt.2.2.1) [] n I R) : Sp mt av n I R Q := by
  intro g l
  refine Met.ofW (cc := mt.2.1) (maxL := mt.2.2.1) (ret := mt.2.2.2.1) hp rfl ?_
  intro p e s m args below meth c s₁ B hml hv
  obtain ⟨rfl, hR, hKV, hb, hKH⟩ := hv
  have hts := atoms_spec (ws := Cond.code mt.1 mt.2.1 mt.2.2.1 mt.2.2.2.1 :: XT) B.pre
  rw [lg_entry_eq]
  exact h g (p, l, e, s, m, _, below, meth, c) ⟨B.exec, B.bytes, B.returns, hml, findClass_of_methodNamed B.named, B.notSynchronized, fun w hw => hts w (List.mem_cons_of_mem _ hw), (name_of_methodNamed B.named B.method).1, hKV, hb, hKH⟩ s.heap [] _ hR va_S.rf (XL.entry g hc hl)
/-- a weaker end -/
theorem Sp.imp {mt : MT} {av : List Value} {n : Nat} {I : MI} {R : MR} {Q Q' : XQ} (h : Sp mt av n I R Q) (hq : ∀ r n' I' R', Q r n' I' R' → Q' r n' I' R') : Sp mt av n I R Q' := by
  intro g l p e ha hc hk s m args below hf happ hpre hkk
  obtain ⟨k, o, h1, h2, h3, h4⟩ := h g l p e ha hc hk s m args below hf happ hpre hkk
  obtain ⟨⟨r, n', I', R', q1, q2, q3⟩, h5⟩ := h4
  exact ⟨k, o, h1, h2, h3, ⟨r, n', I', R', q1, hq _ _ _ _ q2, q3⟩, h5⟩
section XE
variable {g : GX} {cx : CX} {mt : MT} {F : State → Prop} {cs : Nat × Nat} {pc : Nat} {ls : List (Option Value)} {st : List Value} {n : Nat} {I : MI} {R : MR} {Q : XQ}
theorem xQc_of {cx : CX} {t : State} {H : Heap} {locs : List Loc} {r : Option Value} (ok : xOk g cx mt) (hR : xRep g n I R H) (hS : va_S (fun q => g.1.1 ≤ q) cx.2.2.2.1.heap H locs) (ht : t.heap = H) (hq : Q r n I R) : xQc g Q cx.2.2.2.2.2.1 cx.2.2.2.1 (.returned (r.map (xv g))) t := by
  subst ht
  exact ⟨r, n, I, R, rfl, hq, hR, hS.1, fun q h => hS.2.1 q (Nat.lt_of_lt_of_le h ok.2.2.2.2.2.2.2.2.2.1) (by omega)⟩
theorem x_iret {v : Int32} (hd : decode mt.2.1 pc = .ok (.ireturn, 1)) (hr : mt.2.2.2.1 = some .int) (hc : cs.1 ≤ mt.2.2.2.2.1.cells) (hs : cs.2 ≤ mt.2.2.2.2.1.slots) (hq : Q (some (.int v)) n I R) : X g cx mt (xF g cx mt Q) cs pc ls [.int v] n I R := by
  intro ok H locs lsA hR hS hL
  exact W.widen hc hs (W.iret (Qc := xQc g Q) ok.1 ok.2.1 (ok.2.2.1.trans hr) (fun t ht _ => xQc_of (r := some (.int v)) ok hR hS ht hq) hS.2.2 hd ok.2.2.2.2.2.1)
theorem x_zret {v : Int32} {ty : FieldType} (hd : decode mt.2.1 pc = .ok (.ireturn, 1)) (hr : mt.2.2.2.1 = some ty) (hn : narrow ty (.int v) = .int v) (hc : cs.1 ≤ mt.2.2.2.2.1.cells) (hs : cs.2 ≤ mt.2.2.2.2.1.slots) (hq : Q (some (.int v)) n I R) : X g cx mt (xF g cx mt Q) cs pc ls [.int v] n I R := by
  intro ok H locs lsA hR hS hL
  exact W.widen hc hs (W.zret (Qc := xQc g Q) ok.1 ok.2.1 (ok.2.2.1.trans hr) hn (fun t ht _ => xQc_of (r := some (.int v)) ok hR hS ht hq) hS.2.2 hd ok.2.2.2.2.2.1)
theorem x_vret (hd : decode mt.2.1 pc = .ok (.return_, 1)) (hr : mt.2.2.2.1 = none) (hc : cs.1 ≤ mt.2.2.2.2.1.cells) (hs : cs.2 ≤ mt.2.2.2.2.1.slots) (hq : Q none n I R) : X g cx mt (xF g cx mt Q) cs pc ls [] n I R := by
  intro ok H locs lsA hR hS hL
  exact W.widen hc hs (W.vret (Qc := xQc g Q) ok.1 ok.2.1 (ok.2.2.1.trans hr) (fun t ht _ => xQc_of (r := none) ok hR hS ht hq) hS.2.2 hd ok.2.2.2.2.2.1)
theorem x_aret {v : Value} {rt : FieldType} (hd : decode mt.2.1 pc = .ok (.areturn, 1)) (hr : mt.2.2.2.1 = some rt) (hrt : (∃ n, rt = .object n) ∨ ∃ t, rt = .array t) (hv : v = .null ∨ ∃ a, v = .ref a) (hc : cs.1 ≤ mt.2.2.2.2.1.cells) (hs : cs.2 ≤ mt.2.2.2.2.1.slots) (hq : Q (some v) n I R) : X g cx mt (xF g cx mt Q) cs pc ls [v] n I R := by
  intro ok H locs lsA hR hS hL
  have hv' : xv g v = .null ∨ ∃ a, xv g v = .ref a := by
    rcases hv with rfl | ⟨a, rfl⟩
    · exact Or.inl rfl
    · exact Or.inr ⟨_, rfl⟩
  exact W.widen hc hs (W.aret (Qc := xQc g Q) ok.1 ok.2.1 (ok.2.2.1.trans hr) hrt hv' (fun t ht _ => xQc_of (r := some v) ok hR hS ht hq) hS.2.2 hd ok.2.2.2.2.2.1)
/-- behind a call -/
theorem x_behind {mt' : MT} {cs' : Nat × Nat} {st0 : List Value} {Q' : XQ} {a : Array Value} (ok : xOk g cx mt) {H : Heap} {locs : List Loc} {lsA : Array Slot} (hS : va_S (fun q => g.1.1 ≤ q) cx.2.2.2.1.heap H locs) (hL : XL g mt.2.2.1 ls lsA)
    (hcs : (cs.1 + mt'.2.2.2.2.1.cells, cs.2 + mt'.2.2.2.2.1.slots) = cs')
    (hr : va_Run cx.1 cx.2.1 cx.2.2.1 mt.2.2.2.2.1 cx.2.2.2.1 cx.2.2.2.2.1 cx.2.2.2.2.2.1 cx.2.2.2.2.2.2.1 cx.2.2.2.2.2.2.2.1 cx.2.2.2.2.2.2.2.2 H locs cs.1 cs.2 mt'.2.2.2.2.1.cells mt'.2.2.2.2.1.slots (F0 cx.2.2.2.2.1 pc lsA (st0.map (xv g))) (st.map (xv g)) (xQc g Q' a) (fun q => g.1.1 ≤ q))
    (k : ∀ (r : Option Value) (n' : Nat) (I' : MI) (R' : MR), Q' r n' I' R' → X g cx mt F cs' (pc + 3) ls (r.toList ++ st) n' I' R') :
    W cx.1 cx.2.1 cx.2.2.1 mt.2.2.2.2.1 cx.2.2.2.1 cx.2.2.2.2.1 cx.2.2.2.2.2.1 cx.2.2.2.2.2.2.1 cx.2.2.2.2.2.2.2.1 cx.2.2.2.2.2.2.2.2 H locs cs.1 cs.2 F (F0 cx.2.2.2.2.1 pc lsA (st0.map (xv g))) := by
  intro T hT X0
  subst hcs
  obtain ⟨v, st₀, t, T', L, h0, X', hL', e1, e2, ⟨r, n', I', R', hv, hQ, hR', hz, hk⟩, stp⟩ := hr T hT X0
  cases hv
  rw [h0] at hz hk
  have hb := ok.2.2.2.2.2.2.2.2.2.1
  have hstk : (r.map (xv g)).toList ++ st.map (xv g) = (r.toList ++ st).map (xv g) := by cases r <;> rfl
  obtain ⟨t2, a1, b1⟩ := k r n' I' R' hQ ok T'.heap (locs ++ L) lsA (by rw [e1]; exact hR') ⟨Nat.le_trans hS.1 (by rw [e1]; exact hz), fun q h1 h2 => by
      rw [e1, hk q (Nat.not_le.mp h2)]; exact hS.2.1 q h1 h2, fun q hq => by
      rcases List.mem_append.mp hq with h | h
      · exact hS.2.2 q h
      · exact hL' q h⟩ hL T' rfl X'
  refine ⟨t2, stp t2 ?_, b1⟩
  show Steps _ _ _ (T'.setTop (F0 _ _ _ ((r.map (xv g)).toList ++ st.map (xv g)))) t2
  rw [hstk]
  exact a1
def xM (mt : MT) : Prop := Cond.code mt.1 mt.2.1 mt.2.2.1 mt.2.2.2.1 ∈ XT ∧ Cond.initialized mt.1.cls ∈ XT ∧ (mt.1.cls ≠ "java/lang/invoke/MethodHandle" ∧ mt.1.cls ≠ "java/lang/invoke/VarHandle" ∧ (parseMethodDescriptor mt.1.desc).map (fun d => d.parameters.length) = some mt.2.2.2.2.2)
def xMV (mt : MT) (c : Nat) : Prop := xM mt ∧ Cond.instanceMethod mt.1 ∈ XT ∧ Cond.selects mt.1.cls mt.1 mt.1 ∈ XT ∧ c < 7 ∧ vwCl[c]?.map (fun q => q.1) = some mt.1.cls
def xMS (mt : MT) : Prop := xM mt ∧ Cond.static mt.1 ∈ XT
def xMI (mt : MT) : Prop := xM mt ∧ Cond.instanceMethod mt.1 ∈ XT ∧ mt.1.name = "<init>" ∧ mt.2.2.2.1 = none
abbrev xRoom (mt mt' : MT) : Prop := mt'.2.2.2.2.1.frames + 1 ≤ mt.2.2.2.2.1.frames ∧ 8 + (mt'.2.2.1 + 11) + mt'.2.2.2.2.1.locals ≤ mt.2.2.2.2.1.locals
theorem xPS {cx : CX} (ok : xOk g cx mt) {H : Heap} {locs : List Loc} {av : List Value} (hR : xRep g n I R H) (hS : va_S (fun q => g.1.1 ≤ q) cx.2.2.2.1.heap H locs) : ∀ U : State, U.heap = H → cx.2.2.2.1.WarmedH U.vm → xPc g av n I R (av.map (xv g)).toArray U := by
  intro U hU hW
  subst hU
  refine ⟨rfl, hR, xKV.warm hW ok.2.2.2.2.2.2.2.2.1, by have := hR.2.1; omega, xKH.moved hW.alike (ok.2.2.2.2.2.2.2.2.2.2.kept (fun a h1 h2 => hS.2.1 a h1 h2))⟩
theorem x_cats {st : List Value} (h : (st.map fun v => v.category).sum ≤ 8) : ((st.map (xv g)).map fun v => v.category).sum ≤ 8 := by
  rw [List.map_map]
  have : (st.map ((fun v : Value => v.category) ∘ xv g)) = st.map fun v => v.category := List.map_congr_left fun v _ => xv_cat g v
  rw [this]; exact h
theorem x_recv {cx : CX} (ok : xOk g cx mt) {H : Heap} {b c : Nat} {C : String} (hR : xRep g n I R H) (hk : xkd b = c) (hb : b < n) (hc : c < 7) (hC : vwCl[c]?.map (fun q => q.1) = some C) : ∃ cellB : Cell, H[xad g b]? = some cellB ∧ cellB.vm.isStatics = false ∧ cx.2.2.2.1.vm.findClass C = some cellB.cls := by
  obtain ⟨cell, q1, q2, q3, -⟩ := hR.obj hb hk hc
  cases hq : vwCl[c]? with
  | none => rw [hq] at hC; cases hC
  | some q =>
    rw [hq] at hC
    have hK := (ok.2.2.2.2.2.2.2.2.1.1.1 c q hq).2.1
    refine ⟨cell, q1, by rw [q3]; rfl, ?_⟩
    rw [q2, ← Option.some.inj hC]
    exact hK
theorem x_callS {mt' : MT} {idx : Nat} {av : List Value} {Q' : XQ} {st0 : List Value} (hsp : Sp mt' av n I R Q') (hm : xMS mt') (hl : Cond.methodLink mt.1.cls idx mt'.1 ∈ XT) (hroom : xRoom mt mt') (hd : decode mt.2.1 pc = .ok (.invokestatic idx, 3)) (hst : st0 = av.reverse ++ st) (hn : av.length = mt'.2.2.2.2.2) (hcat : (st.map fun v => v.category).sum ≤ 8)
    (k : ∀ (r : Option Value) (n' : Nat) (I' : MI) (R' : MR), Q' r n' I' R' → X g cx mt F (cs.1 + mt'.2.2.2.2.1.cells, cs.2 + mt'.2.2.2.2.1.slots) (pc + 3) ls (r.toList ++ st) n' I' R') (hcells : cs.1 + mt'.2.2.2.2.1.cells ≤ mt.2.2.2.2.1.cells ∧ cs.2 + mt'.2.2.2.2.1.slots ≤ mt.2.2.2.2.1.slots := by decide) : X g cx mt F cs pc ls st0 n I R := by
  intro ok H locs lsA hR hS hL
  have hts := ok.2.2.2.2.2.2.1
  refine x_behind (mt' := mt') ok hS hL rfl (va_runS (Ts := XT) (nL := mt.2.2.1) (n := mt'.2.2.2.2.2) (bytes := mt'.2.1) (maxL := mt'.2.2.1) (ret := mt'.2.2.2.1) (As := av.map (xv g)) (rest := st.map (xv g)) ⟨ok.1, ok.2.1, ok.2.2.2.1, ok.2.2.2.2.1, hts⟩ (hsp g cx.2.1) ⟨callB_of _ hts (x_goodC hm.1.1) rfl rfl rfl (hts _ hm.1.2.1) (hts _ hl) hm.1.2.2 hroom, hts _ hm.2⟩ ⟨xPc.blind g av n I R, xPS ok hR hS⟩ rfl (by rw [List.length_map]; exact hn) hL.1.1 ?_ (lv_room (x_cats hcat)) hd hcells) k
  show st0.map (xv g) = _
  rw [hst, List.map_append, List.map_reverse]
theorem x_callSN {mt' : MT} {idx : Nat} {host : String} {av : List Value} {Q' : XQ} {st0 : List Value} (hsp : Sp mt' av n I R Q') (hm : xMS mt') (hl : Cond.methodLinkNest mt.1.cls idx mt'.1 host ∈ xNW) (hroom : xRoom mt mt') (hd : decode mt.2.1 pc = .ok (.invokestatic idx, 3)) (hst : st0 = av.reverse ++ st) (hn : av.length = mt'.2.2.2.2.2) (hcat : (st.map fun v => v.category).sum ≤ 8)
    (k : ∀ (r : Option Value) (n' : Nat) (I' : MI) (R' : MR), Q' r n' I' R' → X g cx mt F (cs.1 + mt'.2.2.2.2.1.cells, cs.2 + mt'.2.2.2.2.1.slots) (pc + 3) ls (r.toList ++ st) n' I' R') (hcells : cs.1 + mt'.2.2.2.2.1.cells ≤ mt.2.2.2.2.1.cells ∧ cs.2 + mt'.2.2.2.2.1.slots ≤ mt.2.2.2.2.1.slots := by decide) : X g cx mt F cs pc ls st0 n I R := by
  intro ok H locs lsA hR hS hL
  have hts := ok.2.2.2.2.2.2.1
  refine x_behind (mt' := mt') ok hS hL rfl (va_runSN (Ts := XT) (nL := mt.2.2.1) (n := mt'.2.2.2.2.2) (bytes := mt'.2.1) (maxL := mt'.2.2.1) (ret := mt'.2.2.2.1) (As := av.map (xv g)) (rest := st.map (xv g)) ⟨ok.1, ok.2.1, ok.2.2.2.1, ok.2.2.2.2.1, hts⟩ (hsp g cx.2.1) ⟨va_cnB _ hts (x_goodC hm.1.1) rfl rfl rfl (ok.2.2.2.2.2.2.2.2.1.2.1 _ hl) (hts _ hm.1.2.1) hm.1.2.2 hroom, hts _ hm.2, trivial⟩ ⟨xPc.blind g av n I R, xPS ok hR hS⟩ rfl (by rw [List.length_map]; exact hn) hL.1.1 ?_ (lv_room (x_cats hcat)) hd hcells) k
  show st0.map (xv g) = _
  rw [hst, List.map_append, List.map_reverse]
theorem x_callV {mt' : MT} {idx b c : Nat} {av : List Value} {Q' : XQ} {st0 : List Value} (hsp : Sp mt' (.ref b :: av) n I R Q') (hm : xMV mt' c) (hl : Cond.methodLink mt.1.cls idx mt'.1 ∈ XT) (hroom : xRoom mt mt') (hd : decode mt.2.1 pc = .ok (.invokevirtual idx, 3)) (hk : xkd b = c) (hb : b < n) (hst : st0 = av.reverse ++ .ref b :: st) (hn : av.length = mt'.2.2.2.2.2) (hcat : (st.map fun v => v.category).sum ≤ 8)
    (k : ∀ (r : Option Value) (n' : Nat) (I' : MI) (R' : MR), Q' r n' I' R' → X g cx mt F (cs.1 + mt'.2.2.2.2.1.cells, cs.2 + mt'.2.2.2.2.1.slots) (pc + 3) ls (r.toList ++ st) n' I' R') (hcells : cs.1 + mt'.2.2.2.2.1.cells ≤ mt.2.2.2.2.1.cells ∧ cs.2 + mt'.2.2.2.2.1.slots ≤ mt.2.2.2.2.1.slots := by decide) : X g cx mt F cs pc ls st0 n I R := by
  intro ok H locs lsA hR hS hL
  have hts := ok.2.2.2.2.2.2.1
  refine x_behind (mt' := mt') ok hS hL rfl (va_runV (Ts := XT) (C := mt'.1.cls) (b := xad g b) (nL := mt.2.2.1) (n := mt'.2.2.2.2.2) (bytes := mt'.2.1) (maxL := mt'.2.2.1) (ret := mt'.2.2.2.1) (As := av.map (xv g)) (rest := st.map (xv g)) ⟨ok.1, ok.2.1, ok.2.2.2.1, ok.2.2.2.2.1, hts⟩ (hsp g cx.2.1) ⟨callB_of _ hts (x_goodC hm.1.1) rfl rfl rfl (hts _ hm.1.2.1) (hts _ hl) hm.1.2.2 hroom, hts _ hm.2.1, hts _ hm.2.2.1⟩ ⟨xPc.blind g (.ref b :: av) n I R, x_recv ok hR hk hb hm.2.2.2.1 hm.2.2.2.2, xPS (av := .ref b :: av) ok hR hS⟩ rfl (by rw [List.length_map]; exact hn) hL.1.1 ?_ (lv_room (x_cats hcat)) hd hcells) k
  show st0.map (xv g) = _
  rw [hst, List.map_append, List.map_reverse]; rfl
theorem x_callI {mt' : MT} {idx b : Nat} {av : List Value} {Q' : XQ} {st0 : List Value} (hsp : Sp mt' (.ref b :: av) n I R Q') (hm : xMI mt') (hl : Cond.methodLink mt.1.cls idx mt'.1 ∈ XT) (hroom : xRoom mt mt') (hd : decode mt.2.1 pc = .ok (.invokespecial idx, 3)) (hst : st0 = av.reverse ++ .ref b :: st) (hn : av.length = mt'.2.2.2.2.2) (hcat : (st.map fun v => v.category).sum ≤ 8)
    (k : ∀ (r : Option Value) (n' : Nat) (I' : MI) (R' : MR), Q' r n' I' R' → X g cx mt F (cs.1 + mt'.2.2.2.2.1.cells, cs.2 + mt'.2.2.2.2.1.slots) (pc + 3) ls (r.toList ++ st) n' I' R') (hcells : cs.1 + mt'.2.2.2.2.1.cells ≤ mt.2.2.2.2.1.cells ∧ cs.2 + mt'.2.2.2.2.1.slots ≤ mt.2.2.2.2.1.slots := by decide) : X g cx mt F cs pc ls st0 n I R := by
  intro ok H locs lsA hR hS hL
  have hts := ok.2.2.2.2.2.2.1
  have hret := hm.2.2.2
  refine x_behind (mt' := mt') ok hS hL rfl (va_runI (Ts := XT) (b := xad g b) (nL := mt.2.2.1) (n := mt'.2.2.2.2.2) (bytes := mt'.2.1) (maxL := mt'.2.2.1) (As := av.map (xv g)) (rest := st.map (xv g)) ⟨ok.1, ok.2.1, ok.2.2.2.1, ok.2.2.2.2.1, hts⟩ (hsp g cx.2.1) ⟨callB_of (ret := none) _ hts (x_goodC hm.1.1) (by rw [hret]) rfl rfl (hts _ hm.1.2.1) (hts _ hl) hm.1.2.2 hroom, hm.2.2.1, hts _ hm.2.1⟩ ⟨xPc.blind g (.ref b :: av) n I R, xPS (av := .ref b :: av) ok hR hS⟩ rfl (by rw [List.length_map]; exact hn) hL.1.1 ?_ (lv_room (x_cats hcat)) hd hcells) k
  show st0.map (xv g) = _
  rw [hst, List.map_append, List.map_reverse]; rfl
theorem x_callIN {mt' : MT} {idx b : Nat} {host : String} {av : List Value} {Q' : XQ} {st0 : List Value} (hsp : Sp mt' (.ref b :: av) n I R Q') (hm : xMI mt') (hl : Cond.methodLinkNest mt.1.cls idx mt'.1 host ∈ xNW) (hroom : xRoom mt mt') (hd : decode mt.2.1 pc = .ok (.invokespecial idx, 3)) (hst : st0 = av.reverse ++ .ref b :: st) (hn : av.length = mt'.2.2.2.2.2) (hcat : (st.map fun v => v.category).sum ≤ 8)
    (k : ∀ (r : Option Value) (n' : Nat) (I' : MI) (R' : MR), Q' r n' I' R' → X g cx mt F (cs.1 + mt'.2.2.2.2.1.cells, cs.2 + mt'.2.2.2.2.1.slots) (pc + 3) ls (r.toList ++ st) n' I' R') (hcells : cs.1 + mt'.2.2.2.2.1.cells ≤ mt.2.2.2.2.1.cells ∧ cs.2 + mt'.2.2.2.2.1.slots ≤ mt.2.2.2.2.1.slots := by decide) : X g cx mt F cs pc ls st0 n I R := by
  intro ok H locs lsA hR hS hL
  have hts := ok.2.2.2.2.2.2.1
  have hret := hm.2.2.2
  refine x_behind (mt' := mt') ok hS hL rfl (va_runIN (Ts := XT) (host := host) (b := xad g b) (nL := mt.2.2.1) (n := mt'.2.2.2.2.2) (bytes := mt'.2.1) (maxL := mt'.2.2.1) (As := av.map (xv g)) (rest := st.map (xv g)) ⟨ok.1, ok.2.1, ok.2.2.2.1, ok.2.2.2.2.1, hts⟩ (hsp g cx.2.1) ⟨va_cnB (ret := none) _ hts (x_goodC hm.1.1) (by rw [hret]) rfl rfl (ok.2.2.2.2.2.2.2.2.1.2.1 _ hl) (hts _ hm.1.2.1) hm.1.2.2 hroom, hm.2.2.1, hts _ hm.2.1⟩ ⟨xPc.blind g (.ref b :: av) n I R, xPS (av := .ref b :: av) ok hR hS⟩ rfl (by rw [List.length_map]; exact hn) hL.1.1 ?_ (lv_room (x_cats hcat)) hd hcells) k
  show st0.map (xv g) = _
  rw [hst, List.map_append, List.map_reverse]; rfl
end XE
end
section
/-- what is not made yet is blank -/
def xBl (I : MI) (R : MR) (n : Nat) : Prop := ∀ k, I n k = 0 ∧ R n k = none
theorem xat.new {g : GX} {n : Nat} {I : MI} {R : MR} {H H' : Heap} (h : xRep g n I R H) (hn : n < 137) (hsz : H'.size = H.size + 1) (ho : ∀ q, q < H.size → H'[q]? = H[q]?) (hat : xat g I R H' n) : xRep g (n + 1) I R H' := by
  obtain ⟨h1, h2, h3, h4⟩ := h
  have h3' := h3 hn
  refine ⟨by omega, by omega, fun _ => by omega, fun j hj => ?_⟩
  by_cases hjn : j = n
  · subst hjn; exact hat
  · have hj' : j < n := by omega
    exact (h4 j hj').kept (ho _ (by rw [xad_lo g (by omega)]; omega)) rfl
theorem xS_new {g : GX} {H0 H H' : Heap} {locs : List Loc} (hS : va_S (fun q => g.1.1 ≤ q) H0 H locs) (hsz : H'.size = H.size + 1) (ho : ∀ q, q < H.size → H'[q]? = H[q]?) : va_S (fun q => g.1.1 ≤ q) H0 H' locs :=
  ⟨by have := hS.1; omega, fun q h1 h2 => by rw [ho q (Nat.lt_of_lt_of_le h1 hS.1)]; exact hS.2.1 q h1 h2, hS.2.2⟩
section XMK
variable {g : GX} {cx : CX} {mt : MT} {F : State → Prop} {cs : Nat × Nat} {pc : Nat} {ls : List (Option Value)} {st : List Value} {n : Nat} {I : MI} {R : MR} {Q : XQ}
theorem x_new {idx c : Nat} {C : String} {T : u_T} {N : Nat} (ty : Nat → FieldType) (hc : vwCl[c]? = some (C, T, N)) (hN : N = xN c) (hc7 : c < 7) (hty : ∀ k, k < N → parseFieldDescriptor (T k).2.2.1 = some (ty k)) (hdef : ∀ k, k < N → defaultValue (ty k) = if xrf c k = true then .null else .int 0)
    (hin : ∀ w ∈ u_ws C T N, w ∈ XT) (h1 : Cond.classLink mt.1.cls idx C ∈ XT) (h2 : Cond.instantiable C N ∈ XT) (h3 : Cond.initialized C ∈ XT) (hk : xkd n = c) (hn : n < 137) (hb : xBl I R n) (hcl : cs.1 + 1 ≤ mt.2.2.2.2.1.cells) (hsl : cs.2 + N ≤ mt.2.2.2.2.1.slots)
    (hd : decode mt.2.1 pc = .ok (.new idx, 3)) (kk : X g cx mt F (cs.1 + 1, cs.2 + N) (pc + 3) ls (.ref n :: st) (n + 1) I R) : X g cx mt F cs pc ls st n I R := by
  intro ok H locs lsA hR hS hL
  have hts := ok.2.2.2.2.2.2.1
  have hsz := hR.2.2.1 hn
  have had : xad g n = H.size := by rw [xad_lo g (by omega)]; omega
  have hKn := ok.2.2.2.2.2.2.2.2.1.1.1 c _ hc
  refine W.newcK ok.1 ok.2.1 ok.2.2.2.2.1 (hts _ h1) (hts _ h2) (hts _ h3) rfl hd hcl hsl hKn.2.1 rfl fun H1 kC hkC e1 z1 o1 => ?_
  have hob := u_born ty hts hin hKn hkC e1 hty
  have := kk ok H1 locs lsA (xat.new hR hn z1 o1 ⟨fun h7 => ?_, fun h7 => absurd (by rw [hk]; exact hc7) h7⟩) (xS_new hS z1 o1) hL
  · rw [← had]; exact this
  · rw [hk, had]
    subst hN
    refine hob.to fun k hkN => ?_
    rw [hdef k hkN]
    simp only [xval, (hb k).1, (hb k).2]
    rfl
theorem x_newaI {x : Int32} {N : Nat} (h1 : Cond.arrayClass .int ∈ XT) (hk : xkd n = 8) (hln : xln n = N) (hn : n < 137) (hb : xBl I R n) (h0 : ¬ x < 0) (hx : x.toNatClampNeg = N) (hN : N ≤ 2000) (hcl : cs.1 + 1 ≤ mt.2.2.2.2.1.cells) (hsl : cs.2 + N ≤ mt.2.2.2.2.1.slots)
    (hd : decode mt.2.1 pc = .ok (.newarray .int, 2)) (kk : X g cx mt F (cs.1 + 1, cs.2 + N) (pc + 2) ls (.ref n :: st) (n + 1) I R) : X g cx mt F cs pc ls (.int x :: st) n I R := by
  intro ok H locs lsA hR hS hL
  have hts := ok.2.2.2.2.2.2.1
  have hsz := hR.2.2.1 hn
  have had : xad g n = H.size := by rw [xad_lo g (by omega)]; omega
  refine va_newaK (atype := .int) ok.1 ok.2.1 (hts _ h1) rfl hd rfl h0 hx (by show N * 4 ≤ _; omega) hcl hsl rfl fun H1 cA e1 z1 o1 hAr hNm => ?_
  have hcA : cA = g.2.2 8 := Option.some.inj (hNm.symm.trans (ok.2.2.2.2.2.2.2.2.1.1.2 1 _ rfl).2)
  have := kk ok H1 locs lsA (xat.new hR hn z1 o1 ⟨fun h7 => absurd h7 (by rw [hk]; decide), fun h7 => ?_⟩) (xS_new hS z1 o1) hL
  · rw [← had]; exact this
  · rw [had, e1, hcA, hk, hln]
    congr 1
    congr 1
    funext k
    show Value.int 0 = xval g I R 8 n k
    rw [xval_I rfl, (hb k).1]
theorem x_newaC {x : Int32} {N : Nat} (h1 : Cond.arrayClass .char ∈ XT) (hk : xkd n = 7) (hln : xln n = N) (hn : n < 137) (hb : xBl I R n) (h0 : ¬ x < 0) (hx : x.toNatClampNeg = N) (hN : N ≤ 2000) (hcl : cs.1 + 1 ≤ mt.2.2.2.2.1.cells) (hsl : cs.2 + N ≤ mt.2.2.2.2.1.slots)
    (hd : decode mt.2.1 pc = .ok (.newarray .char, 2)) (kk : X g cx mt F (cs.1 + 1, cs.2 + N) (pc + 2) ls (.ref n :: st) (n + 1) I R) : X g cx mt F cs pc ls (.int x :: st) n I R := by
  intro ok H locs lsA hR hS hL
  have hts := ok.2.2.2.2.2.2.1
  have hsz := hR.2.2.1 hn
  have had : xad g n = H.size := by rw [xad_lo g (by omega)]; omega
  refine va_newaK (atype := .char) ok.1 ok.2.1 (hts _ h1) rfl hd rfl h0 hx (by show N * 2 ≤ _; omega) hcl hsl rfl fun H1 cA e1 z1 o1 hAr hNm => ?_
  have hcA : cA = g.2.2 7 := Option.some.inj (hNm.symm.trans (ok.2.2.2.2.2.2.2.2.1.1.2 0 _ rfl).2)
  have := kk ok H1 locs lsA (xat.new hR hn z1 o1 ⟨fun h7 => absurd h7 (by rw [hk]; decide), fun h7 => ?_⟩) (xS_new hS z1 o1) hL
  · rw [← had]; exact this
  · rw [had, e1, hcA, hk, hln]
    congr 1
    congr 1
    funext k
    show Value.int 0 = xval g I R 7 n k
    rw [xval_I rfl, (hb k).1]
/-- the array kinds of objects: kind, its element's kind and class -/
def xAk (c ci : Nat) (C : String) : Prop := (c = 9 ∧ ci = 1 ∧ C = RX1) ∨ (c = 10 ∧ ci = 3 ∧ C = RX3) ∨ (c = 11 ∧ ci = 4 ∧ C = RX4)
theorem xAk_facts {c ci : Nat} {C : String} (h : xAk c ci C) {cx : CX} (ok : xOk g cx mt) : 9 ≤ c ∧ c ≤ 11 ∧ ci < 7 ∧ (∀ k, xrf c k = true) ∧ va_AO C cx.2.2.2.1 ∧ ArrOfT cx.2.2.2.1 (g.2.2 c) (.object C) ∧ va_RA cx.2.2.2.1 (g.2.2 c) (.object C) ∧ ClassAt cx.2.2.2.1 C (g.2.1.1 ci) := by
  have hK := ok.2.2.2.2.2.2.2.2.1.1
  have hA := ok.2.2.2.2.2.2.2.2.1.2.2.1
  rcases h with ⟨rfl, rfl, rfl⟩ | ⟨rfl, rfl, rfl⟩ | ⟨rfl, rfl, rfl⟩
  · exact ⟨by omega, by omega, by omega, fun _ => rfl, hA.1, (hK.2 2 _ rfl).1, (hK.2 2 _ rfl).2, (hK.1 1 _ rfl).2⟩
  · exact ⟨by omega, by omega, by omega, fun _ => rfl, hA.2.1, (hK.2 3 _ rfl).1, (hK.2 3 _ rfl).2, (hK.1 3 _ rfl).2⟩
  · exact ⟨by omega, by omega, by omega, fun _ => rfl, hA.2.2, (hK.2 4 _ rfl).1, (hK.2 4 _ rfl).2, (hK.1 4 _ rfl).2⟩
theorem x_anewa {x : Int32} {N c ci idx : Nat} {C : String} (hak : xAk c ci C) (h1 : Cond.classLink mt.1.cls idx C ∈ XT) (hk : xkd n = c) (hln : xln n = N) (hn : n < 137) (hb : xBl I R n) (h0 : ¬ x < 0) (hx : x.toNatClampNeg = N) (hN : N ≤ 2000) (hcl : cs.1 + 1 ≤ mt.2.2.2.2.1.cells) (hsl : cs.2 + N ≤ mt.2.2.2.2.1.slots)
    (hd : decode mt.2.1 pc = .ok (.anewarray idx, 3)) (kk : X g cx mt F (cs.1 + 1, cs.2 + N) (pc + 3) ls (.ref n :: st) (n + 1) I R) : X g cx mt F cs pc ls (.int x :: st) n I R := by
  intro ok H locs lsA hR hS hL
  have hts := ok.2.2.2.2.2.2.1
  have hsz := hR.2.2.1 hn
  have had : xad g n = H.size := by rw [xad_lo g (by omega)]; omega
  obtain ⟨g1, g2, -, g4, g5, -, g7, -⟩ := xAk_facts hak ok
  obtain ⟨-, -, -, -, -, g9⟩ := g7
  subst hx
  refine W.anew ok.1 ok.2.1 ok.2.2.2.2.1 (hts _ h1) (va_AO.use g5) rfl hd rfl h0 (by omega) hcl hsl fun cA kA comp f1 f2 f3 f4 => ?_
  have hcA : cA = g.2.2 c := Option.some.inj (f1.symm.trans g9)
  generalize hH1 : H.push ({ cls := cA, slots := Array.replicate x.toNatClampNeg .null, vm := .none } : Cell) = H1
  have z1 : H1.size = H.size + 1 := by rw [← hH1, Array.size_push]
  have e1 : H1[H.size]? = some (arrV cA x.toNatClampNeg (fun _ => .null)) := by rw [← hH1, Array.getElem?_push_size, ← arrV_new]
  have o1 : ∀ q : Nat, q < H.size → H1[q]? = H[q]? := fun q hq => by rw [← hH1, Array.getElem?_push, if_neg (Nat.ne_of_lt hq)]
  have := kk ok H1 locs lsA (xat.new hR hn z1 o1 ⟨fun h7 => absurd h7 (by rw [hk]; omega), fun h7 => ?_⟩) (xS_new hS z1 o1) hL
  · rw [← had]; exact this
  · rw [had, e1, hcA, hk, hln]
    congr 1
    congr 1
    funext k
    rw [xval_R (g4 k), (hb k).2]; rfl
theorem x_aast {i j v c ci : Nat} {C : String} {x : Int32} (hak : xAk c ci C) (hd : decode mt.2.1 pc = .ok (.aastore, 1)) (hk : xkd i = c) (hi : i < n) (h0 : ¬ x < 0) (hj : x.toNatClampNeg = j) (hlt : j < xln i) (hv : xkd v = ci) (hvn : v < n)
    (kk : X g cx mt F cs (pc + 1) ls st n I (xuR R i j (some v))) : X g cx mt F cs pc ls (.ref v :: .int x :: .ref i :: st) n I R := by
  intro ok H locs lsA hR hS hL
  obtain ⟨g1, g2, g3, g4, g5, g6, g7, hcls⟩ := xAk_facts hak ok
  have hcell := hR.arr hi hk (by omega)
  obtain ⟨cellV, q1, q2, q3, -⟩ := hR.obj hvn hv g3
  obtain ⟨kA, comp, k1, k2, k3, -⟩ := g7
  have hcomp : comp = g.2.1.1 ci := Option.some.inj (k3.symm.trans hcls.1)
  subst hcomp
  obtain ⟨kC, hkC, hkind⟩ := id hcls.2
  have hn0 := hR.1
  refine W.aast ok.1 ok.2.1 hcell (fun q h => by cases h) (fun h => by cases h) k1 k2 rfl hkC ⟨h0, by rw [arrV_size, hj]; exact hlt⟩ q1 (fun q h => by rw [q3] at h; cases h) (by rw [q2]; exact hkC) (by rw [q2]; exact va_assign hcls) rfl rfl hd fun H1 e z oq => ?_
  refine kk ok H1 _ lsA (hR.put hi (fun _ _ => rfl) (fun _ h => xuR_ne h) z oq ⟨fun h7 => absurd h7 (by rw [hk]; omega), fun h7 => ?_⟩) (xS_put (by omega) hS z oq) hL
  rw [e, hj, arrV_store, hk, xval_uR (g4 j)]
  rfl
theorem x_objInit {idx b : Nat} (h1 : Cond.methodLink mt.1.cls idx Lib.objectInit ∈ XT) (h2 : Cond.instanceMethod Lib.objectInit ∈ XT) (h3 : Cond.code Lib.objectInit ⟨#[0xb1]⟩ 1 none ∈ XT) (hd : decode mt.2.1 pc = .ok (.invokespecial idx, 3)) (hf : 1 ≤ mt.2.2.2.2.1.frames) (hcat : (st.map fun v => v.category).sum ≤ 8) (hlo : 20 ≤ mt.2.2.2.2.1.locals)
    (kk : X g cx mt F cs (pc + 3) ls st n I R) : X g cx mt F cs pc ls (.ref b :: st) n I R := by
  intro ok H locs lsA hR hS hL
  have hts := ok.2.2.2.2.2.2.1
  have hc := x_cats (g := g) hcat
  exact W.objInit ok.1 ok.2.1 ok.2.2.2.2.1 (hts _ h1) (hts _ h2) (hts _ h3) rfl (by rw [ok.2.2.2.1]; exact hL.1.1) rfl hd hf (by show 2 * 0 + _ + 12 ≤ _; omega) (kk ok H locs lsA hR hS hL)
def xuC (I : MI) (a a0 sp dp m : Nat) : MI := fun x => if x = a then va_cpy (I a0) (I a) sp dp m else I x
theorem x_copy {idx a0 a jsp jdp jn : Nat} {sp dp len : Int32} (h1 : Cond.methodLink mt.1.cls idx arraycopyName ∈ XT) (h2 : Cond.native arraycopyName ∈ XT) (h3 : Cond.static arraycopyName ∈ XT) (h4 : Cond.initialized "java/lang/System" ∈ XT)
    (hk0 : xkd a0 = 8) (hk : xkd a = 8) (ha0 : a0 < n) (ha : a < n) (hsp : ¬ sp < 0) (hdp : ¬ dp < 0) (hlen : ¬ len < 0) (esp : sp.toNatClampNeg = jsp) (edp : dp.toNatClampNeg = jdp) (en : len.toNatClampNeg = jn) (b0 : jsp + jn ≤ xln a0) (b1 : jdp + jn ≤ xln a)
    (hf : 1 ≤ mt.2.2.2.2.1.frames) (hcat : (st.map fun v => v.category).sum ≤ 8) (hlo : 8 + (nativeFrameWords "java/lang/System" "arraycopy" 5 + 11) ≤ mt.2.2.2.2.1.locals) (hn : n = 137) (hd : decode mt.2.1 pc = .ok (.invokestatic idx, 3))
    (kk : X g cx mt F cs (pc + 3) ls st n (xuC I a a0 jsp jdp jn) R) : X g cx mt F cs pc ls (.int len :: .int dp :: .ref a :: .int sp :: .ref a0 :: st) n I R := by
  intro ok H locs lsA hR hS hL
  subst esp; subst edp; subst en
  have hts := ok.2.2.2.2.2.2.1
  have hc := x_cats (g := g) hcat
  have hK := ok.2.2.2.2.2.2.2.2.1.1
  -- the two arrays first, all others behind them
  have hent : ∀ i, i < n → xkd i = 8 → va_at g.2.1 vwCl (xad g i, .inl (g.2.2 8, (xln i, .inl (I i)))) H := fun i hi hki => by
    have := hR.arr hi hki (by decide)
    show H[xad g i]? = some (vp_cell _ _)
    rw [this, vp_cell_i]
    congr 1
  let ent : Nat → va_E := fun i => if xkd i < 7 then .inr (xkd i, (List.range (xN (xkd i))).map (xval g I R (xkd i) i)) else if xkd i = 8 then .inl (g.2.2 8, (xln i, .inl (I i))) else if xkd i = 7 then .inl (g.2.2 7, (xln i, .inl (I i))) else .inl (g.2.2 (xkd i), (xln i, .inr (.inr (.inr (.inr (fun k => (R i k).map (xad g)))))))
  have hkdd : ∀ i, i < 137 → xkd i ≤ 11 := by decide +kernel
  have hxN : ∀ c, c < 7 → ∃ r, vwCl[c]? = some r ∧ r.2.2 = xN c := by
    intro c hc
    rcases (show c = 0 ∨ c = 1 ∨ c = 2 ∨ c = 3 ∨ c = 4 ∨ c = 5 ∨ c = 6 by omega) with rfl | rfl | rfl | rfl | rfl | rfl | rfl <;> exact ⟨_, rfl, rfl⟩
  have hgo : ∀ (I' : MI) (H1 : Heap) (i : Nat), i < n → (va_at g.2.1 vwCl (xad g i, if xkd i < 7 then .inr (xkd i, (List.range (xN (xkd i))).map (xval g I' R (xkd i) i)) else if xkd i = 8 then .inl (g.2.2 8, (xln i, .inl (I' i))) else if xkd i = 7 then .inl (g.2.2 7, (xln i, .inl (I' i))) else .inl (g.2.2 (xkd i), (xln i, .inr (.inr (.inr (.inr (fun k => (R i k).map (xad g)))))))) H1 ↔ xat g I' R H1 i) := by
    intro I' H1 i hi
    have hkle := hkdd i (by omega)
    by_cases h7 : xkd i < 7
    · rw [if_pos h7]
      obtain ⟨r, hr1, hr2⟩ := hxN _ h7
      constructor
      · rintro ⟨r', hr', hob⟩
        refine ⟨fun _ => ?_, fun h => absurd h7 h⟩
        cases hr1.symm.trans hr'
        rw [← hr2]
        refine hob.to fun k hk => ?_
        show ((List.range (xN (xkd i))).map _).getD k Value.null = _
        rw [← hr2, List.getD_eq_getElem?_getD, List.getElem?_map, List.getElem?_range hk]
        rfl
      · intro h
        refine ⟨r, hr1, ?_⟩
        have hob := h.1 h7
        rw [← hr2] at hob
        refine hob.to fun k hk => ?_
        show _ = ((List.range (xN (xkd i))).map _).getD k Value.null
        rw [← hr2, List.getD_eq_getElem?_getD, List.getElem?_map, List.getElem?_range hk]
        rfl
    · rw [if_neg h7]
      have key : ∀ x : vp_A, vp_cell (g.2.2 (xkd i)) x = arrV (g.2.2 (xkd i)) (xln i) (xval g I' R (xkd i) i) → (va_at g.2.1 vwCl (xad g i, .inl (g.2.2 (xkd i), x)) H1 ↔ xat g I' R H1 i) := by
        intro x hx
        constructor
        · intro h
          refine ⟨fun h' => absurd h' h7, fun _ => ?_⟩
          have h' : H1[xad g i]? = some (vp_cell (g.2.2 (xkd i)) x) := h
          rw [h', hx]
        · intro h
          show H1[xad g i]? = some (vp_cell (g.2.2 (xkd i)) x)
          rw [h.2 h7, hx]
      by_cases h8 : xkd i = 8
      · rw [if_pos h8, ← h8]
        refine key _ ?_
        rw [vp_cell_i]; congr 1; funext k; rw [xval_I (by rw [h8]; rfl)]
      · rw [if_neg h8]
        by_cases h77 : xkd i = 7
        · rw [if_pos h77, ← h77]
          refine key _ ?_
          rw [vp_cell_i]; congr 1; funext k; rw [xval_I (by rw [h77]; rfl)]
        · rw [if_neg h77]
          refine key _ ?_
          rw [vp_cell_q]; congr 1; funext k; rw [xval_R]
          rcases (show xkd i = 9 ∨ xkd i = 10 ∨ xkd i = 11 by omega) with e | e | e <;> rw [e] <;> rfl
  have hP : va_P g.2.1 vwCl ((List.range n).map fun i => (xad g i, ent i)) H := fun k q hq => by
    rw [List.getElem?_map] at hq
    by_cases hk' : k < n
    · rw [List.getElem?_range hk'] at hq
      cases hq
      exact (hgo I H k hk').mpr (hR.2.2.2 k hk')
    · rw [List.getElem?_eq_none (by simpa using hk')] at hq; cases hq
  have hD : va_D (fun q => g.1.1 ≤ q) ((List.range n).map fun i => (xad g i, ent i)) := by
    refine ⟨fun i j p q hi hj hpq => ?_, fun k q hq => ?_⟩
    · rw [List.getElem?_map] at hi hj
      by_cases hi' : i < n
      · by_cases hj' : j < n
        · rw [List.getElem?_range hi'] at hi
          rw [List.getElem?_range hj'] at hj
          cases hi; cases hj
          exact xad_inj g (by omega) (by omega) hpq
        · rw [List.getElem?_eq_none (by simpa using hj')] at hj; cases hj
      · rw [List.getElem?_eq_none (by simpa using hi')] at hi; cases hi
    · rw [List.getElem?_map] at hq
      by_cases hk' : k < n
      · rw [List.getElem?_range hk'] at hq
        cases hq
        show g.1.1 ≤ xad g k
        rw [xad_lo g (by omega)]; omega
      · rw [List.getElem?_eq_none (by simpa using hk')] at hq; cases hq
  have hat : ∀ i, i < n → xkd i = 8 → ((List.range n).map fun i => (xad g i, ent i))[i]? = some (xad g i, .inl (g.2.2 8, (xln i, .inl (I i)))) := fun i hi h8 => by
    rw [List.getElem?_map, List.getElem?_range hi]
    show some (xad g i, ent i) = _
    simp only [ent]
    rw [if_neg (by omega), if_pos h8]
  refine va_copyi (A := fun q => g.1.1 ≤ q) (D := g.2.1) (cl := vwCl) (tys := xTys g) ok.1 ok.2.1 (by rw [ok.2.2.2.1]; exact hL.1.1.symm) ok.2.2.2.2.1 (hts _ h1) (hts _ h2) (hts _ h3) (hts _ h4) hK hP hD hS a0 a 1 1 (hat a0 ha0 hk0) (hat a ha hk) rfl rfl rfl hsp hdp hlen b0 b1 (fun _ _ => rfl) hf (by omega) hd (fun H1 locs1 hP1 hD1 hS1 => ?_)
  refine kk ok H1 locs1 lsA ⟨hR.1, ?_, fun h => by omega, fun i hi => ?_⟩ hS1 hL
  · -- the heap has not become smaller
    have h136 : g.1.1 + 136 < H1.size := by
      have hq : ((((List.range n).map fun i => (xad g i, ent i))).set a (xad g a, .inl (g.2.2 8, (xln a, .inl (va_cpy (I a0) (I a) sp.toNatClampNeg dp.toNatClampNeg len.toNatClampNeg)))))[136]? = some (xad g 136, ent 136) ∨ a = 136 := by
        by_cases h : a = 136
        · exact Or.inr h
        · left
          rw [List.getElem?_set_ne h, List.getElem?_map, List.getElem?_range (by omega)]; rfl
      rcases hq with hq | hq
      · have := (hP1 136 _ hq).lt
        rw [show ((xad g 136, ent 136) : Nat × va_E).1 = xad g 136 from rfl, xad_lo g (by omega)] at this
        exact this
      · have hq2 : ((((List.range n).map fun i => (xad g i, ent i))).set a (xad g a, .inl (g.2.2 8, (xln a, .inl (va_cpy (I a0) (I a) sp.toNatClampNeg dp.toNatClampNeg len.toNatClampNeg)))))[a]? = some (xad g a, .inl (g.2.2 8, (xln a, .inl (va_cpy (I a0) (I a) sp.toNatClampNeg dp.toNatClampNeg len.toNatClampNeg)))) := by
          rw [List.getElem?_set_self (by simp; omega)]
        have := (hP1 a _ hq2).lt
        rw [show ((xad g a, Sum.inl (g.2.2 8, (xln a, Sum.inl (va_cpy (I a0) (I a) sp.toNatClampNeg dp.toNatClampNeg len.toNatClampNeg)))) : Nat × va_E).1 = xad g a from rfl, xad_lo g (by omega), hq] at this
        exact this
    omega
  · refine (hgo _ H1 i hi).mp ?_
    by_cases hia : i = a
    · subst hia
      have hq2 := hP1 i _ (List.getElem?_set_self (by simp; omega))
      rw [if_neg (by omega), if_pos hk]
      simp only [xuC]
      exact hq2
    · have hq := hP1 i (xad g i, ent i) (by rw [List.getElem?_set_ne (Ne.symm hia), List.getElem?_map, List.getElem?_range hi]; rfl)
      have hval : xval g (xuC I a a0 sp.toNatClampNeg dp.toNatClampNeg len.toNatClampNeg) R (xkd i) i = xval g I R (xkd i) i := by
        funext k
        simp only [xval, xuC, if_neg hia]
      rw [hval]
      simp only [xuC, if_neg hia]
      exact hq
end XMK
end
section
/-! the words, by names -/
theorem wz_L : Cond.initialized "PulledWiresLaw" ∈ XT := List.mem_filter.mpr ⟨(List.mem_append_right _ (List.mem_append_left _ (List.mem_of_getElem? (i := 0) (by decide +kernel)))), by decide +kernel⟩
theorem wz_X5 : Cond.initialized "PulledWires" ∈ XT := List.mem_filter.mpr ⟨(List.mem_append_right _ (List.mem_append_left _ (List.mem_of_getElem? (i := 1) (by decide +kernel)))), by decide +kernel⟩
theorem wz_X4 : Cond.initialized "PulledWires$State" ∈ XT := List.mem_filter.mpr ⟨(List.mem_append_right _ (List.mem_append_left _ (List.mem_of_getElem? (i := 2) (by decide +kernel)))), by decide +kernel⟩
theorem wz_X0 : Cond.initialized "PulledWires$BitLog" ∈ XT := List.mem_filter.mpr ⟨(List.mem_append_right _ (List.mem_append_left _ (List.mem_of_getElem? (i := 3) (by decide +kernel)))), by decide +kernel⟩
theorem wz_X3 : Cond.initialized "PulledWires$Speaker" ∈ XT := List.mem_filter.mpr ⟨(List.mem_append_right _ (List.mem_append_left _ (List.mem_of_getElem? (i := 4) (by decide +kernel)))), by decide +kernel⟩
theorem wz_X1 : Cond.initialized "PulledWires$Listener" ∈ XT := List.mem_filter.mpr ⟨(List.mem_append_right _ (List.mem_append_left _ (List.mem_of_getElem? (i := 5) (by decide +kernel)))), by decide +kernel⟩
theorem wz_X2 : Cond.initialized "PulledWires$OrderText" ∈ XT := List.mem_filter.mpr ⟨(List.mem_append_right _ (List.mem_append_left _ (List.mem_of_getElem? (i := 6) (by decide +kernel)))), by decide +kernel⟩
theorem wz_X6 : Cond.initialized "PulledWiresModel" ∈ XT := List.mem_filter.mpr ⟨(List.mem_append_right _ (List.mem_append_left _ (List.mem_of_getElem? (i := 7) (by decide +kernel)))), by decide +kernel⟩
theorem wz_J10 : Cond.initialized "java/lang/System" ∈ XT := List.mem_filter.mpr ⟨(List.mem_append_right _ (List.mem_append_left _ (List.mem_of_getElem? (i := 8) (by decide +kernel)))), by decide +kernel⟩
theorem wz_J9 : Cond.initialized "java/lang/Math" ∈ XT := List.mem_filter.mpr ⟨(List.mem_append_right _ (List.mem_append_left _ (List.mem_of_getElem? (i := 9) (by decide +kernel)))), by decide +kernel⟩
theorem wz_J6 : Cond.initialized "java/lang/Integer" ∈ XT := List.mem_filter.mpr ⟨(List.mem_append_right _ (List.mem_append_left _ (List.mem_of_getElem? (i := 10) (by decide +kernel)))), by decide +kernel⟩
theorem wz_J0 : Cond.initialized "java/lang/String" ∈ XT := List.mem_filter.mpr ⟨(List.mem_append_right _ (List.mem_append_left _ (List.mem_of_getElem? (i := 11) (by decide +kernel)))), by decide +kernel⟩
theorem wz_J1 : Cond.initialized "java/lang/StringLatin1" ∈ XT := List.mem_filter.mpr ⟨(List.mem_append_right _ (List.mem_append_left _ (List.mem_of_getElem? (i := 12) (by decide +kernel)))), by decide +kernel⟩
theorem wz_J3 : Cond.initialized "jdk/internal/util/Preconditions" ∈ XT := List.mem_filter.mpr ⟨(List.mem_append_right _ (List.mem_append_left _ (List.mem_of_getElem? (i := 13) (by decide +kernel)))), by decide +kernel⟩
theorem wz_J2 : Cond.initialized "java/lang/StringUTF16" ∈ XT := List.mem_filter.mpr ⟨(List.mem_append_right _ (List.mem_append_left _ (List.mem_of_getElem? (i := 14) (by decide +kernel)))), by decide +kernel⟩
theorem wk_L_7 : Cond.classLink RL 7 RX5 ∈ XT := List.mem_filter.mpr ⟨(List.mem_append_right _ (List.mem_append_left _ (List.mem_of_getElem? (i := 15) (by decide +kernel)))), by decide +kernel⟩
theorem wq_X5 : Cond.instantiable RX5 9 ∈ XT := List.mem_filter.mpr ⟨(List.mem_append_right _ (List.mem_append_left _ (List.mem_of_getElem? (i := 16) (by decide +kernel)))), by decide +kernel⟩
theorem wl_L_9 : Cond.methodLink RL 9 yX5_init ∈ XT := List.mem_filter.mpr ⟨(List.mem_append_right _ (List.mem_append_left _ (List.mem_of_getElem? (i := 17) (by decide +kernel)))), by decide +kernel⟩
theorem wi_X5_init : Cond.instanceMethod yX5_init ∈ XT := List.mem_filter.mpr ⟨(List.mem_append_right _ (List.mem_append_left _ (List.mem_of_getElem? (i := 18) (by decide +kernel)))), by decide +kernel⟩
theorem wc_X5_init : Cond.code yX5_init cX5_init 2 (none) ∈ XT := List.mem_filter.mpr ⟨(List.mem_append_right _ (List.mem_append_left _ (List.mem_of_getElem? (i := 19) (by decide +kernel)))), by decide +kernel⟩
theorem wl_X5_1 : Cond.methodLink RX5 1 Lib.objectInit ∈ XT := List.mem_filter.mpr ⟨(List.mem_append_right _ (List.mem_append_left _ (List.mem_of_getElem? (i := 20) (by decide +kernel)))), by decide +kernel⟩
theorem wi_OBJ : Cond.instanceMethod Lib.objectInit ∈ XT := List.mem_filter.mpr ⟨(List.mem_append_right _ (List.mem_append_left _ (List.mem_of_getElem? (i := 21) (by decide +kernel)))), by decide +kernel⟩
theorem wc_OBJ : Cond.code Lib.objectInit ⟨#[0xb1]⟩ 1 (none) ∈ XT := List.mem_filter.mpr ⟨(List.mem_append_right _ (List.mem_append_left _ (List.mem_of_getElem? (i := 22) (by decide +kernel)))), by decide +kernel⟩
theorem wk_X5_7 : Cond.classLink RX5 7 RX4 ∈ XT := List.mem_filter.mpr ⟨(List.mem_append_right _ (List.mem_append_left _ (List.mem_of_getElem? (i := 23) (by decide +kernel)))), by decide +kernel⟩
theorem wq_X4 : Cond.instantiable RX4 11 ∈ XT := List.mem_filter.mpr ⟨(List.mem_append_right _ (List.mem_append_left _ (List.mem_of_getElem? (i := 24) (by decide +kernel)))), by decide +kernel⟩
theorem wl_X5_9 : Cond.methodLink RX5 9 yX4_init ∈ XT := List.mem_filter.mpr ⟨(List.mem_append_right _ (List.mem_append_left _ (List.mem_of_getElem? (i := 25) (by decide +kernel)))), by decide +kernel⟩
theorem wi_X4_init : Cond.instanceMethod yX4_init ∈ XT := List.mem_filter.mpr ⟨(List.mem_append_right _ (List.mem_append_left _ (List.mem_of_getElem? (i := 26) (by decide +kernel)))), by decide +kernel⟩
theorem wc_X4_init : Cond.code yX4_init cX4_init 2 (none) ∈ XT := List.mem_filter.mpr ⟨(List.mem_append_right _ (List.mem_append_left _ (List.mem_of_getElem? (i := 27) (by decide +kernel)))), by decide +kernel⟩
theorem wl_X4_3 : Cond.methodLink RX4 3 Lib.objectInit ∈ XT := List.mem_filter.mpr ⟨(List.mem_append_right _ (List.mem_append_left _ (List.mem_of_getElem? (i := 28) (by decide +kernel)))), by decide +kernel⟩
theorem wk_X4_9 : Cond.classLink RX4 9 RX3 ∈ XT := List.mem_filter.mpr ⟨(List.mem_append_right _ (List.mem_append_left _ (List.mem_of_getElem? (i := 29) (by decide +kernel)))), by decide +kernel⟩
theorem wk_X4_17 : Cond.classLink RX4 17 RX1 ∈ XT := List.mem_filter.mpr ⟨(List.mem_append_right _ (List.mem_append_left _ (List.mem_of_getElem? (i := 31) (by decide +kernel)))), by decide +kernel⟩
theorem wk_X4_27 : Cond.classLink RX4 27 RX0 ∈ XT := List.mem_filter.mpr ⟨(List.mem_append_right _ (List.mem_append_left _ (List.mem_of_getElem? (i := 33) (by decide +kernel)))), by decide +kernel⟩
theorem wq_X0 : Cond.instantiable RX0 3 ∈ XT := List.mem_filter.mpr ⟨(List.mem_append_right _ (List.mem_append_left _ (List.mem_of_getElem? (i := 34) (by decide +kernel)))), by decide +kernel⟩
theorem wl_X4_29 : Cond.methodLinkNest RX4 29 yX0_init "PulledWires" ∈ xNW := List.mem_filter.mpr ⟨(List.mem_append_right _ (List.mem_append_left _ (List.mem_of_getElem? (i := 35) (by decide +kernel)))), rfl⟩
theorem wi_X0_init : Cond.instanceMethod yX0_init ∈ XT := List.mem_filter.mpr ⟨(List.mem_append_right _ (List.mem_append_left _ (List.mem_of_getElem? (i := 36) (by decide +kernel)))), by decide +kernel⟩
theorem wc_X0_init : Cond.code yX0_init cX0_init 1 (none) ∈ XT := List.mem_filter.mpr ⟨(List.mem_append_right _ (List.mem_append_left _ (List.mem_of_getElem? (i := 37) (by decide +kernel)))), by decide +kernel⟩
theorem wl_X0_3 : Cond.methodLink RX0 3 Lib.objectInit ∈ XT := List.mem_filter.mpr ⟨(List.mem_append_right _ (List.mem_append_left _ (List.mem_of_getElem? (i := 38) (by decide +kernel)))), by decide +kernel⟩
theorem wf_X0_11 : Cond.fieldLink RX0 11 "PulledWires$BitLog" "cells" "[I" ∈ XT := List.mem_filter.mpr ⟨(List.mem_append_right _ (List.mem_append_left _ (List.mem_of_getElem? (i := 39) (by decide +kernel)))), by decide +kernel⟩
theorem wf_X0_21 : Cond.fieldLink RX0 21 "PulledWires$BitLog" "next" "I" ∈ XT := List.mem_filter.mpr ⟨(List.mem_append_right _ (List.mem_append_left _ (List.mem_of_getElem? (i := 40) (by decide +kernel)))), by decide +kernel⟩
theorem wf_X0_25 : Cond.fieldLink RX0 25 "PulledWires$BitLog" "size" "I" ∈ XT := List.mem_filter.mpr ⟨(List.mem_append_right _ (List.mem_append_left _ (List.mem_of_getElem? (i := 41) (by decide +kernel)))), by decide +kernel⟩
theorem wa_int : Cond.arrayClass FieldType.int ∈ XT := List.mem_filter.mpr ⟨(List.mem_append_right _ (List.mem_append_left _ (List.mem_of_getElem? (i := 49) (by decide +kernel)))), by decide +kernel⟩
theorem wq_X3 : Cond.instantiable RX3 8 ∈ XT := List.mem_filter.mpr ⟨(List.mem_append_right _ (List.mem_append_left _ (List.mem_of_getElem? (i := 50) (by decide +kernel)))), by decide +kernel⟩
theorem wl_X4_34 : Cond.methodLinkNest RX4 34 yX3_init "PulledWires" ∈ xNW := List.mem_filter.mpr ⟨(List.mem_append_right _ (List.mem_append_left _ (List.mem_of_getElem? (i := 51) (by decide +kernel)))), rfl⟩
theorem wi_X3_init : Cond.instanceMethod yX3_init ∈ XT := List.mem_filter.mpr ⟨(List.mem_append_right _ (List.mem_append_left _ (List.mem_of_getElem? (i := 52) (by decide +kernel)))), by decide +kernel⟩
theorem wc_X3_init : Cond.code yX3_init cX3_init 1 (none) ∈ XT := List.mem_filter.mpr ⟨(List.mem_append_right _ (List.mem_append_left _ (List.mem_of_getElem? (i := 53) (by decide +kernel)))), by decide +kernel⟩
theorem wl_X3_3 : Cond.methodLink RX3 3 Lib.objectInit ∈ XT := List.mem_filter.mpr ⟨(List.mem_append_right _ (List.mem_append_left _ (List.mem_of_getElem? (i := 54) (by decide +kernel)))), by decide +kernel⟩
theorem wf_X3_9 : Cond.fieldLink RX3 9 "PulledWires$Speaker" "parts" "[I" ∈ XT := List.mem_filter.mpr ⟨(List.mem_append_right _ (List.mem_append_left _ (List.mem_of_getElem? (i := 55) (by decide +kernel)))), by decide +kernel⟩
theorem wf_X3_21 : Cond.fieldLink RX3 21 "PulledWires$Speaker" "size" "I" ∈ XT := List.mem_filter.mpr ⟨(List.mem_append_right _ (List.mem_append_left _ (List.mem_of_getElem? (i := 56) (by decide +kernel)))), by decide +kernel⟩
theorem wf_X4_82 : Cond.fieldLink RX4 82 "PulledWires$Speaker" "size" "I" ∈ XT := List.mem_filter.mpr ⟨(List.mem_append_right _ (List.mem_append_left _ (List.mem_of_getElem? (i := 57) (by decide +kernel)))), by decide +kernel⟩
theorem wf_X5_109 : Cond.fieldLink RX5 109 "PulledWires$Speaker" "size" "I" ∈ XT := List.mem_filter.mpr ⟨(List.mem_append_right _ (List.mem_append_left _ (List.mem_of_getElem? (i := 58) (by decide +kernel)))), by decide +kernel⟩
theorem wf_X3_25 : Cond.fieldLink RX3 25 "PulledWires$Speaker" "talking" "Z" ∈ XT := List.mem_filter.mpr ⟨(List.mem_append_right _ (List.mem_append_left _ (List.mem_of_getElem? (i := 59) (by decide +kernel)))), by decide +kernel⟩
theorem wf_X4_89 : Cond.fieldLink RX4 89 "PulledWires$Speaker" "talking" "Z" ∈ XT := List.mem_filter.mpr ⟨(List.mem_append_right _ (List.mem_append_left _ (List.mem_of_getElem? (i := 60) (by decide +kernel)))), by decide +kernel⟩
theorem wf_X5_114 : Cond.fieldLink RX5 114 "PulledWires$Speaker" "talking" "Z" ∈ XT := List.mem_filter.mpr ⟨(List.mem_append_right _ (List.mem_append_left _ (List.mem_of_getElem? (i := 61) (by decide +kernel)))), by decide +kernel⟩
theorem wf_X3_29 : Cond.fieldLink RX3 29 "PulledWires$Speaker" "came" "I" ∈ XT := List.mem_filter.mpr ⟨(List.mem_append_right _ (List.mem_append_left _ (List.mem_of_getElem? (i := 62) (by decide +kernel)))), by decide +kernel⟩
theorem wf_X5_117 : Cond.fieldLink RX5 117 "PulledWires$Speaker" "came" "I" ∈ XT := List.mem_filter.mpr ⟨(List.mem_append_right _ (List.mem_append_left _ (List.mem_of_getElem? (i := 63) (by decide +kernel)))), by decide +kernel⟩
theorem wf_X4_208 : Cond.fieldLink RX4 208 "PulledWires$Speaker" "came" "I" ∈ XT := List.mem_filter.mpr ⟨(List.mem_append_right _ (List.mem_append_left _ (List.mem_of_getElem? (i := 64) (by decide +kernel)))), by decide +kernel⟩
theorem wf_X3_32 : Cond.fieldLink RX3 32 "PulledWires$Speaker" "lost" "I" ∈ XT := List.mem_filter.mpr ⟨(List.mem_append_right _ (List.mem_append_left _ (List.mem_of_getElem? (i := 65) (by decide +kernel)))), by decide +kernel⟩
theorem wf_X5_120 : Cond.fieldLink RX5 120 "PulledWires$Speaker" "lost" "I" ∈ XT := List.mem_filter.mpr ⟨(List.mem_append_right _ (List.mem_append_left _ (List.mem_of_getElem? (i := 66) (by decide +kernel)))), by decide +kernel⟩
theorem wf_X3_35 : Cond.fieldLink RX3 35 "PulledWires$Speaker" "failed" "I" ∈ XT := List.mem_filter.mpr ⟨(List.mem_append_right _ (List.mem_append_left _ (List.mem_of_getElem? (i := 67) (by decide +kernel)))), by decide +kernel⟩
theorem wf_X5_123 : Cond.fieldLink RX5 123 "PulledWires$Speaker" "failed" "I" ∈ XT := List.mem_filter.mpr ⟨(List.mem_append_right _ (List.mem_append_left _ (List.mem_of_getElem? (i := 68) (by decide +kernel)))), by decide +kernel⟩
theorem wf_X3_38 : Cond.fieldLink RX3 38 "PulledWires$Speaker" "dropped" "I" ∈ XT := List.mem_filter.mpr ⟨(List.mem_append_right _ (List.mem_append_left _ (List.mem_of_getElem? (i := 69) (by decide +kernel)))), by decide +kernel⟩
theorem wf_X5_126 : Cond.fieldLink RX5 126 "PulledWires$Speaker" "dropped" "I" ∈ XT := List.mem_filter.mpr ⟨(List.mem_append_right _ (List.mem_append_left _ (List.mem_of_getElem? (i := 70) (by decide +kernel)))), by decide +kernel⟩
theorem wf_X3_41 : Cond.fieldLink RX3 41 "PulledWires$Speaker" "failuresOfFirst" "I" ∈ XT := List.mem_filter.mpr ⟨(List.mem_append_right _ (List.mem_append_left _ (List.mem_of_getElem? (i := 71) (by decide +kernel)))), by decide +kernel⟩
theorem wf_X5_129 : Cond.fieldLink RX5 129 "PulledWires$Speaker" "failuresOfFirst" "I" ∈ XT := List.mem_filter.mpr ⟨(List.mem_append_right _ (List.mem_append_left _ (List.mem_of_getElem? (i := 72) (by decide +kernel)))), by decide +kernel⟩
theorem wq_X1 : Cond.instantiable RX1 5 ∈ XT := List.mem_filter.mpr ⟨(List.mem_append_right _ (List.mem_append_left _ (List.mem_of_getElem? (i := 90) (by decide +kernel)))), by decide +kernel⟩
theorem wl_X4_35 : Cond.methodLinkNest RX4 35 yX1_init "PulledWires" ∈ xNW := List.mem_filter.mpr ⟨(List.mem_append_right _ (List.mem_append_left _ (List.mem_of_getElem? (i := 91) (by decide +kernel)))), rfl⟩
theorem wi_X1_init : Cond.instanceMethod yX1_init ∈ XT := List.mem_filter.mpr ⟨(List.mem_append_right _ (List.mem_append_left _ (List.mem_of_getElem? (i := 92) (by decide +kernel)))), by decide +kernel⟩
theorem wc_X1_init : Cond.code yX1_init cX1_init 1 (none) ∈ XT := List.mem_filter.mpr ⟨(List.mem_append_right _ (List.mem_append_left _ (List.mem_of_getElem? (i := 93) (by decide +kernel)))), by decide +kernel⟩
theorem wl_X1_3 : Cond.methodLink RX1 3 Lib.objectInit ∈ XT := List.mem_filter.mpr ⟨(List.mem_append_right _ (List.mem_append_left _ (List.mem_of_getElem? (i := 94) (by decide +kernel)))), by decide +kernel⟩
theorem wf_X1_9 : Cond.fieldLink RX1 9 "PulledWires$Listener" "address" "I" ∈ XT := List.mem_filter.mpr ⟨(List.mem_append_right _ (List.mem_append_left _ (List.mem_of_getElem? (i := 95) (by decide +kernel)))), by decide +kernel⟩
theorem wf_X4_103 : Cond.fieldLink RX4 103 "PulledWires$Listener" "address" "I" ∈ XT := List.mem_filter.mpr ⟨(List.mem_append_right _ (List.mem_append_left _ (List.mem_of_getElem? (i := 96) (by decide +kernel)))), by decide +kernel⟩
theorem wf_X5_149 : Cond.fieldLink RX5 149 "PulledWires$Listener" "address" "I" ∈ XT := List.mem_filter.mpr ⟨(List.mem_append_right _ (List.mem_append_left _ (List.mem_of_getElem? (i := 97) (by decide +kernel)))), by decide +kernel⟩
theorem wf_X1_18 : Cond.fieldLink RX1 18 "PulledWires$Listener" "hold" "I" ∈ XT := List.mem_filter.mpr ⟨(List.mem_append_right _ (List.mem_append_left _ (List.mem_of_getElem? (i := 98) (by decide +kernel)))), by decide +kernel⟩
theorem wf_X4_110 : Cond.fieldLink RX4 110 "PulledWires$Listener" "hold" "I" ∈ XT := List.mem_filter.mpr ⟨(List.mem_append_right _ (List.mem_append_left _ (List.mem_of_getElem? (i := 99) (by decide +kernel)))), by decide +kernel⟩
theorem wf_X5_154 : Cond.fieldLink RX5 154 "PulledWires$Listener" "hold" "I" ∈ XT := List.mem_filter.mpr ⟨(List.mem_append_right _ (List.mem_append_left _ (List.mem_of_getElem? (i := 100) (by decide +kernel)))), by decide +kernel⟩
theorem wf_X1_21 : Cond.fieldLink RX1 21 "PulledWires$Listener" "stuck" "I" ∈ XT := List.mem_filter.mpr ⟨(List.mem_append_right _ (List.mem_append_left _ (List.mem_of_getElem? (i := 101) (by decide +kernel)))), by decide +kernel⟩
theorem wf_X4_113 : Cond.fieldLink RX4 113 "PulledWires$Listener" "stuck" "I" ∈ XT := List.mem_filter.mpr ⟨(List.mem_append_right _ (List.mem_append_left _ (List.mem_of_getElem? (i := 102) (by decide +kernel)))), by decide +kernel⟩
theorem wf_X5_157 : Cond.fieldLink RX5 157 "PulledWires$Listener" "stuck" "I" ∈ XT := List.mem_filter.mpr ⟨(List.mem_append_right _ (List.mem_append_left _ (List.mem_of_getElem? (i := 103) (by decide +kernel)))), by decide +kernel⟩
theorem wf_X1_24 : Cond.fieldLink RX1 24 "PulledWires$Listener" "wordsTaken" "I" ∈ XT := List.mem_filter.mpr ⟨(List.mem_append_right _ (List.mem_append_left _ (List.mem_of_getElem? (i := 104) (by decide +kernel)))), by decide +kernel⟩
theorem wf_X5_160 : Cond.fieldLink RX5 160 "PulledWires$Listener" "wordsTaken" "I" ∈ XT := List.mem_filter.mpr ⟨(List.mem_append_right _ (List.mem_append_left _ (List.mem_of_getElem? (i := 105) (by decide +kernel)))), by decide +kernel⟩
theorem wf_X1_15 : Cond.fieldLink RX1 15 "PulledWires$Listener" "latestWord" "I" ∈ XT := List.mem_filter.mpr ⟨(List.mem_append_right _ (List.mem_append_left _ (List.mem_of_getElem? (i := 106) (by decide +kernel)))), by decide +kernel⟩
theorem wf_X5_163 : Cond.fieldLink RX5 163 "PulledWires$Listener" "latestWord" "I" ∈ XT := List.mem_filter.mpr ⟨(List.mem_append_right _ (List.mem_append_left _ (List.mem_of_getElem? (i := 107) (by decide +kernel)))), by decide +kernel⟩
theorem wf_X4_11 : Cond.fieldLink RX4 11 "PulledWires$State" "speakers" "[LPulledWires$Speaker;" ∈ XT := List.mem_filter.mpr ⟨(List.mem_append_right _ (List.mem_append_left _ (List.mem_of_getElem? (i := 119) (by decide +kernel)))), by decide +kernel⟩
theorem wf_X4_19 : Cond.fieldLink RX4 19 "PulledWires$State" "listeners" "[LPulledWires$Listener;" ∈ XT := List.mem_filter.mpr ⟨(List.mem_append_right _ (List.mem_append_left _ (List.mem_of_getElem? (i := 120) (by decide +kernel)))), by decide +kernel⟩
theorem wf_X4_23 : Cond.fieldLink RX4 23 "PulledWires$State" "settings" "[I" ∈ XT := List.mem_filter.mpr ⟨(List.mem_append_right _ (List.mem_append_left _ (List.mem_of_getElem? (i := 121) (by decide +kernel)))), by decide +kernel⟩
theorem wf_X4_30 : Cond.fieldLink RX4 30 "PulledWires$State" "log" "LPulledWires$BitLog;" ∈ XT := List.mem_filter.mpr ⟨(List.mem_append_right _ (List.mem_append_left _ (List.mem_of_getElem? (i := 122) (by decide +kernel)))), by decide +kernel⟩
theorem wf_X5_166 : Cond.fieldLink RX5 166 "PulledWires$State" "log" "LPulledWires$BitLog;" ∈ XT := List.mem_filter.mpr ⟨(List.mem_append_right _ (List.mem_append_left _ (List.mem_of_getElem? (i := 123) (by decide +kernel)))), by decide +kernel⟩
theorem wf_X4_52 : Cond.fieldLink RX4 52 "PulledWires$State" "clock" "I" ∈ XT := List.mem_filter.mpr ⟨(List.mem_append_right _ (List.mem_append_left _ (List.mem_of_getElem? (i := 124) (by decide +kernel)))), by decide +kernel⟩
theorem wf_X5_102 : Cond.fieldLink RX5 102 "PulledWires$State" "clock" "I" ∈ XT := List.mem_filter.mpr ⟨(List.mem_append_right _ (List.mem_append_left _ (List.mem_of_getElem? (i := 125) (by decide +kernel)))), by decide +kernel⟩
theorem wf_X4_56 : Cond.fieldLink RX4 56 "PulledWires$State" "over" "I" ∈ XT := List.mem_filter.mpr ⟨(List.mem_append_right _ (List.mem_append_left _ (List.mem_of_getElem? (i := 126) (by decide +kernel)))), by decide +kernel⟩
theorem wf_X5_218 : Cond.fieldLink RX5 218 "PulledWires$State" "over" "I" ∈ XT := List.mem_filter.mpr ⟨(List.mem_append_right _ (List.mem_append_left _ (List.mem_of_getElem? (i := 127) (by decide +kernel)))), by decide +kernel⟩
theorem wf_X4_59 : Cond.fieldLink RX4 59 "PulledWires$State" "held" "I" ∈ XT := List.mem_filter.mpr ⟨(List.mem_append_right _ (List.mem_append_left _ (List.mem_of_getElem? (i := 128) (by decide +kernel)))), by decide +kernel⟩
theorem wf_X5_209 : Cond.fieldLink RX5 209 "PulledWires$State" "held" "I" ∈ XT := List.mem_filter.mpr ⟨(List.mem_append_right _ (List.mem_append_left _ (List.mem_of_getElem? (i := 129) (by decide +kernel)))), by decide +kernel⟩
theorem wf_X4_62 : Cond.fieldLink RX4 62 "PulledWires$State" "free" "I" ∈ XT := List.mem_filter.mpr ⟨(List.mem_append_right _ (List.mem_append_left _ (List.mem_of_getElem? (i := 130) (by decide +kernel)))), by decide +kernel⟩
theorem wf_X5_212 : Cond.fieldLink RX5 212 "PulledWires$State" "free" "I" ∈ XT := List.mem_filter.mpr ⟨(List.mem_append_right _ (List.mem_append_left _ (List.mem_of_getElem? (i := 131) (by decide +kernel)))), by decide +kernel⟩
theorem wf_X4_65 : Cond.fieldLink RX4 65 "PulledWires$State" "stuckInRow" "I" ∈ XT := List.mem_filter.mpr ⟨(List.mem_append_right _ (List.mem_append_left _ (List.mem_of_getElem? (i := 132) (by decide +kernel)))), by decide +kernel⟩
theorem wf_X5_215 : Cond.fieldLink RX5 215 "PulledWires$State" "stuckInRow" "I" ∈ XT := List.mem_filter.mpr ⟨(List.mem_append_right _ (List.mem_append_left _ (List.mem_of_getElem? (i := 133) (by decide +kernel)))), by decide +kernel⟩
theorem wf_X4_68 : Cond.fieldLink RX4 68 "PulledWires$State" "talks" "I" ∈ XT := List.mem_filter.mpr ⟨(List.mem_append_right _ (List.mem_append_left _ (List.mem_of_getElem? (i := 134) (by decide +kernel)))), by decide +kernel⟩
theorem wf_X5_224 : Cond.fieldLink RX5 224 "PulledWires$State" "talks" "I" ∈ XT := List.mem_filter.mpr ⟨(List.mem_append_right _ (List.mem_append_left _ (List.mem_of_getElem? (i := 135) (by decide +kernel)))), by decide +kernel⟩
theorem wf_X4_71 : Cond.fieldLink RX4 71 "PulledWires$State" "shakes" "I" ∈ XT := List.mem_filter.mpr ⟨(List.mem_append_right _ (List.mem_append_left _ (List.mem_of_getElem? (i := 136) (by decide +kernel)))), by decide +kernel⟩
theorem wf_X5_227 : Cond.fieldLink RX5 227 "PulledWires$State" "shakes" "I" ∈ XT := List.mem_filter.mpr ⟨(List.mem_append_right _ (List.mem_append_left _ (List.mem_of_getElem? (i := 137) (by decide +kernel)))), by decide +kernel⟩
theorem wk_X5_23 : Cond.classLink RX5 23 RX2 ∈ XT := List.mem_filter.mpr ⟨(List.mem_append_right _ (List.mem_append_left _ (List.mem_of_getElem? (i := 162) (by decide +kernel)))), by decide +kernel⟩
theorem wq_X2 : Cond.instantiable RX2 5 ∈ XT := List.mem_filter.mpr ⟨(List.mem_append_right _ (List.mem_append_left _ (List.mem_of_getElem? (i := 163) (by decide +kernel)))), by decide +kernel⟩
theorem wl_X5_25 : Cond.methodLinkNest RX5 25 yX2_init "PulledWires" ∈ xNW := List.mem_filter.mpr ⟨(List.mem_append_right _ (List.mem_append_left _ (List.mem_of_getElem? (i := 164) (by decide +kernel)))), rfl⟩
theorem wi_X2_init : Cond.instanceMethod yX2_init ∈ XT := List.mem_filter.mpr ⟨(List.mem_append_right _ (List.mem_append_left _ (List.mem_of_getElem? (i := 165) (by decide +kernel)))), by decide +kernel⟩
theorem wc_X2_init : Cond.code yX2_init cX2_init 1 (none) ∈ XT := List.mem_filter.mpr ⟨(List.mem_append_right _ (List.mem_append_left _ (List.mem_of_getElem? (i := 166) (by decide +kernel)))), by decide +kernel⟩
theorem wl_X2_3 : Cond.methodLink RX2 3 Lib.objectInit ∈ XT := List.mem_filter.mpr ⟨(List.mem_append_right _ (List.mem_append_left _ (List.mem_of_getElem? (i := 167) (by decide +kernel)))), by decide +kernel⟩
theorem wf_X2_11 : Cond.fieldLink RX2 11 "PulledWires$OrderText" "characters" "[C" ∈ XT := List.mem_filter.mpr ⟨(List.mem_append_right _ (List.mem_append_left _ (List.mem_of_getElem? (i := 168) (by decide +kernel)))), by decide +kernel⟩
theorem wf_X2_15 : Cond.fieldLink RX2 15 "PulledWires$OrderText" "numbers" "[I" ∈ XT := List.mem_filter.mpr ⟨(List.mem_append_right _ (List.mem_append_left _ (List.mem_of_getElem? (i := 169) (by decide +kernel)))), by decide +kernel⟩
theorem wf_X2_23 : Cond.fieldLink RX2 23 "PulledWires$OrderText" "length" "I" ∈ XT := List.mem_filter.mpr ⟨(List.mem_append_right _ (List.mem_append_left _ (List.mem_of_getElem? (i := 170) (by decide +kernel)))), by decide +kernel⟩
theorem wf_X5_233 : Cond.fieldLink RX5 233 "PulledWires$OrderText" "length" "I" ∈ XT := List.mem_filter.mpr ⟨(List.mem_append_right _ (List.mem_append_left _ (List.mem_of_getElem? (i := 171) (by decide +kernel)))), by decide +kernel⟩
theorem wf_X2_30 : Cond.fieldLink RX2 30 "PulledWires$OrderText" "at" "I" ∈ XT := List.mem_filter.mpr ⟨(List.mem_append_right _ (List.mem_append_left _ (List.mem_of_getElem? (i := 172) (by decide +kernel)))), by decide +kernel⟩
theorem wf_X2_19 : Cond.fieldLink RX2 19 "PulledWires$OrderText" "kind" "I" ∈ XT := List.mem_filter.mpr ⟨(List.mem_append_right _ (List.mem_append_left _ (List.mem_of_getElem? (i := 173) (by decide +kernel)))), by decide +kernel⟩
theorem wf_X5_239 : Cond.fieldLink RX5 239 "PulledWires$OrderText" "kind" "I" ∈ XT := List.mem_filter.mpr ⟨(List.mem_append_right _ (List.mem_append_left _ (List.mem_of_getElem? (i := 174) (by decide +kernel)))), by decide +kernel⟩
theorem wa_char : Cond.arrayClass FieldType.char ∈ XT := List.mem_filter.mpr ⟨(List.mem_append_right _ (List.mem_append_left _ (List.mem_of_getElem? (i := 186) (by decide +kernel)))), by decide +kernel⟩
theorem wf_X5_10 : Cond.fieldLink RX5 10 "PulledWires" "now" "LPulledWires$State;" ∈ XT := List.mem_filter.mpr ⟨(List.mem_append_right _ (List.mem_append_left _ (List.mem_of_getElem? (i := 187) (by decide +kernel)))), by decide +kernel⟩
theorem wf_X5_16 : Cond.fieldLink RX5 16 "PulledWires" "snapshot" "LPulledWires$State;" ∈ XT := List.mem_filter.mpr ⟨(List.mem_append_right _ (List.mem_append_left _ (List.mem_of_getElem? (i := 188) (by decide +kernel)))), by decide +kernel⟩
theorem wf_X5_19 : Cond.fieldLink RX5 19 "PulledWires" "history" "[LPulledWires$State;" ∈ XT := List.mem_filter.mpr ⟨(List.mem_append_right _ (List.mem_append_left _ (List.mem_of_getElem? (i := 189) (by decide +kernel)))), by decide +kernel⟩
theorem wf_X5_26 : Cond.fieldLink RX5 26 "PulledWires" "text" "LPulledWires$OrderText;" ∈ XT := List.mem_filter.mpr ⟨(List.mem_append_right _ (List.mem_append_left _ (List.mem_of_getElem? (i := 190) (by decide +kernel)))), by decide +kernel⟩
theorem wf_X5_30 : Cond.fieldLink RX5 30 "PulledWires" "spare" "LPulledWires$State;" ∈ XT := List.mem_filter.mpr ⟨(List.mem_append_right _ (List.mem_append_left _ (List.mem_of_getElem? (i := 191) (by decide +kernel)))), by decide +kernel⟩
theorem wf_X5_95 : Cond.fieldLink RX5 95 "PulledWires" "historySize" "I" ∈ XT := List.mem_filter.mpr ⟨(List.mem_append_right _ (List.mem_append_left _ (List.mem_of_getElem? (i := 192) (by decide +kernel)))), by decide +kernel⟩
theorem wf_X5_98 : Cond.fieldLink RX5 98 "PulledWires" "hasSnapshot" "Z" ∈ XT := List.mem_filter.mpr ⟨(List.mem_append_right _ (List.mem_append_left _ (List.mem_of_getElem? (i := 193) (by decide +kernel)))), by decide +kernel⟩
theorem wf_X5_33 : Cond.fieldLink RX5 33 "PulledWires" "stoppedOrder" "I" ∈ XT := List.mem_filter.mpr ⟨(List.mem_append_right _ (List.mem_append_left _ (List.mem_of_getElem? (i := 194) (by decide +kernel)))), by decide +kernel⟩
theorem wf_X5_37 : Cond.fieldLink RX5 37 "PulledWires" "stoppedError" "I" ∈ XT := List.mem_filter.mpr ⟨(List.mem_append_right _ (List.mem_append_left _ (List.mem_of_getElem? (i := 195) (by decide +kernel)))), by decide +kernel⟩
theorem wl_L_13 : Cond.methodLink RL 13 yX5_say ∈ XT := List.mem_filter.mpr ⟨(List.mem_append_right _ (List.mem_append_left _ (List.mem_of_getElem? (i := 215) (by decide +kernel)))), by decide +kernel⟩
theorem wi_X5_say : Cond.instanceMethod yX5_say ∈ XT := List.mem_filter.mpr ⟨(List.mem_append_right _ (List.mem_append_left _ (List.mem_of_getElem? (i := 216) (by decide +kernel)))), by decide +kernel⟩
theorem ws_X5_say : Cond.selects RX5 yX5_say yX5_say ∈ XT := List.mem_filter.mpr ⟨(List.mem_append_right _ (List.mem_append_left _ (List.mem_of_getElem? (i := 217) (by decide +kernel)))), by decide +kernel⟩
theorem wc_X5_say : Cond.code yX5_say cX5_say 5 (some FieldType.int) ∈ XT := List.mem_filter.mpr ⟨(List.mem_append_right _ (List.mem_append_left _ (List.mem_of_getElem? (i := 218) (by decide +kernel)))), by decide +kernel⟩
theorem wl_X5_40 : Cond.methodLink RX5 40 yX4_copyFrom ∈ XT := List.mem_filter.mpr ⟨(List.mem_append_right _ (List.mem_append_left _ (List.mem_of_getElem? (i := 219) (by decide +kernel)))), by decide +kernel⟩
theorem wi_X4_copyFrom : Cond.instanceMethod yX4_copyFrom ∈ XT := List.mem_filter.mpr ⟨(List.mem_append_right _ (List.mem_append_left _ (List.mem_of_getElem? (i := 220) (by decide +kernel)))), by decide +kernel⟩
theorem ws_X4_copyFrom : Cond.selects RX4 yX4_copyFrom yX4_copyFrom ∈ XT := List.mem_filter.mpr ⟨(List.mem_append_right _ (List.mem_append_left _ (List.mem_of_getElem? (i := 221) (by decide +kernel)))), by decide +kernel⟩
theorem wc_X4_copyFrom : Cond.code yX4_copyFrom cX4_copyFrom 3 (none) ∈ XT := List.mem_filter.mpr ⟨(List.mem_append_right _ (List.mem_append_left _ (List.mem_of_getElem? (i := 222) (by decide +kernel)))), by decide +kernel⟩
theorem wl_X4_36 : Cond.methodLink RX4 36 yX3_copyFrom ∈ XT := List.mem_filter.mpr ⟨(List.mem_append_right _ (List.mem_append_left _ (List.mem_of_getElem? (i := 223) (by decide +kernel)))), by decide +kernel⟩
theorem wi_X3_copyFrom : Cond.instanceMethod yX3_copyFrom ∈ XT := List.mem_filter.mpr ⟨(List.mem_append_right _ (List.mem_append_left _ (List.mem_of_getElem? (i := 224) (by decide +kernel)))), by decide +kernel⟩
theorem ws_X3_copyFrom : Cond.selects RX3 yX3_copyFrom yX3_copyFrom ∈ XT := List.mem_filter.mpr ⟨(List.mem_append_right _ (List.mem_append_left _ (List.mem_of_getElem? (i := 225) (by decide +kernel)))), by decide +kernel⟩
theorem wc_X3_copyFrom : Cond.code yX3_copyFrom cX3_copyFrom 2 (none) ∈ XT := List.mem_filter.mpr ⟨(List.mem_append_right _ (List.mem_append_left _ (List.mem_of_getElem? (i := 226) (by decide +kernel)))), by decide +kernel⟩
theorem wl_X3_15 : Cond.methodLink RX3 15 arraycopyName ∈ XT := List.mem_filter.mpr ⟨(List.mem_append_right _ (List.mem_append_left _ (List.mem_of_getElem? (i := 227) (by decide +kernel)))), by decide +kernel⟩
theorem wt_ACP : Cond.static arraycopyName ∈ XT := List.mem_filter.mpr ⟨(List.mem_append_right _ (List.mem_append_left _ (List.mem_of_getElem? (i := 228) (by decide +kernel)))), by decide +kernel⟩
theorem wv_ACP : Cond.native arraycopyName ∈ XT := List.mem_filter.mpr ⟨(List.mem_append_right _ (List.mem_append_left _ (List.mem_of_getElem? (i := 229) (by decide +kernel)))), by decide +kernel⟩
theorem wl_X4_40 : Cond.methodLink RX4 40 yX1_copyFrom ∈ XT := List.mem_filter.mpr ⟨(List.mem_append_right _ (List.mem_append_left _ (List.mem_of_getElem? (i := 230) (by decide +kernel)))), by decide +kernel⟩
theorem wi_X1_copyFrom : Cond.instanceMethod yX1_copyFrom ∈ XT := List.mem_filter.mpr ⟨(List.mem_append_right _ (List.mem_append_left _ (List.mem_of_getElem? (i := 231) (by decide +kernel)))), by decide +kernel⟩
theorem ws_X1_copyFrom : Cond.selects RX1 yX1_copyFrom yX1_copyFrom ∈ XT := List.mem_filter.mpr ⟨(List.mem_append_right _ (List.mem_append_left _ (List.mem_of_getElem? (i := 232) (by decide +kernel)))), by decide +kernel⟩
theorem wc_X1_copyFrom : Cond.code yX1_copyFrom cX1_copyFrom 2 (none) ∈ XT := List.mem_filter.mpr ⟨(List.mem_append_right _ (List.mem_append_left _ (List.mem_of_getElem? (i := 233) (by decide +kernel)))), by decide +kernel⟩
theorem wl_X4_43 : Cond.methodLink RX4 43 arraycopyName ∈ XT := List.mem_filter.mpr ⟨(List.mem_append_right _ (List.mem_append_left _ (List.mem_of_getElem? (i := 234) (by decide +kernel)))), by decide +kernel⟩
theorem wl_X4_49 : Cond.methodLink RX4 49 yX0_copyFrom ∈ XT := List.mem_filter.mpr ⟨(List.mem_append_right _ (List.mem_append_left _ (List.mem_of_getElem? (i := 235) (by decide +kernel)))), by decide +kernel⟩
theorem wi_X0_copyFrom : Cond.instanceMethod yX0_copyFrom ∈ XT := List.mem_filter.mpr ⟨(List.mem_append_right _ (List.mem_append_left _ (List.mem_of_getElem? (i := 236) (by decide +kernel)))), by decide +kernel⟩
theorem ws_X0_copyFrom : Cond.selects RX0 yX0_copyFrom yX0_copyFrom ∈ XT := List.mem_filter.mpr ⟨(List.mem_append_right _ (List.mem_append_left _ (List.mem_of_getElem? (i := 237) (by decide +kernel)))), by decide +kernel⟩
theorem wc_X0_copyFrom : Cond.code yX0_copyFrom cX0_copyFrom 2 (none) ∈ XT := List.mem_filter.mpr ⟨(List.mem_append_right _ (List.mem_append_left _ (List.mem_of_getElem? (i := 238) (by decide +kernel)))), by decide +kernel⟩
theorem wl_X0_15 : Cond.methodLink RX0 15 arraycopyName ∈ XT := List.mem_filter.mpr ⟨(List.mem_append_right _ (List.mem_append_left _ (List.mem_of_getElem? (i := 239) (by decide +kernel)))), by decide +kernel⟩
theorem wl_X5_44 : Cond.methodLink RX5 44 yX4_addMessage ∈ XT := List.mem_filter.mpr ⟨(List.mem_append_right _ (List.mem_append_right _ (List.mem_append_left _ (List.mem_of_getElem? (i := 0) (by decide +kernel))))), by decide +kernel⟩
theorem wi_X4_addMessage : Cond.instanceMethod yX4_addMessage ∈ XT := List.mem_filter.mpr ⟨(List.mem_append_right _ (List.mem_append_right _ (List.mem_append_left _ (List.mem_of_getElem? (i := 1) (by decide +kernel))))), by decide +kernel⟩
theorem ws_X4_addMessage : Cond.selects RX4 yX4_addMessage yX4_addMessage ∈ XT := List.mem_filter.mpr ⟨(List.mem_append_right _ (List.mem_append_right _ (List.mem_append_left _ (List.mem_of_getElem? (i := 2) (by decide +kernel))))), by decide +kernel⟩
theorem wc_X4_addMessage : Cond.code yX4_addMessage cX4_addMessage 6 (some FieldType.int) ∈ XT := List.mem_filter.mpr ⟨(List.mem_append_right _ (List.mem_append_right _ (List.mem_append_left _ (List.mem_of_getElem? (i := 3) (by decide +kernel))))), by decide +kernel⟩
theorem wl_X4_74 : Cond.methodLink RX4 74 yX4_speakerAt ∈ XT := List.mem_filter.mpr ⟨(List.mem_append_right _ (List.mem_append_right _ (List.mem_append_left _ (List.mem_of_getElem? (i := 4) (by decide +kernel))))), by decide +kernel⟩
theorem wi_X4_speakerAt : Cond.instanceMethod yX4_speakerAt ∈ XT := List.mem_filter.mpr ⟨(List.mem_append_right _ (List.mem_append_right _ (List.mem_append_left _ (List.mem_of_getElem? (i := 5) (by decide +kernel))))), by decide +kernel⟩
theorem ws_X4_speakerAt : Cond.selects RX4 yX4_speakerAt yX4_speakerAt ∈ XT := List.mem_filter.mpr ⟨(List.mem_append_right _ (List.mem_append_right _ (List.mem_append_left _ (List.mem_of_getElem? (i := 6) (by decide +kernel))))), by decide +kernel⟩
theorem wc_X4_speakerAt : Cond.code yX4_speakerAt cX4_speakerAt 2 (some (FieldType.object "PulledWires$Speaker")) ∈ XT := List.mem_filter.mpr ⟨(List.mem_append_right _ (List.mem_append_right _ (List.mem_append_left _ (List.mem_of_getElem? (i := 7) (by decide +kernel))))), by decide +kernel⟩
theorem wl_X4_78 : Cond.methodLinkNest RX4 78 yX5_isIndex "PulledWires" ∈ xNW := List.mem_filter.mpr ⟨(List.mem_append_right _ (List.mem_append_right _ (List.mem_append_left _ (List.mem_of_getElem? (i := 8) (by decide +kernel))))), rfl⟩
theorem wt_X5_isIndex : Cond.static yX5_isIndex ∈ XT := List.mem_filter.mpr ⟨(List.mem_append_right _ (List.mem_append_right _ (List.mem_append_left _ (List.mem_of_getElem? (i := 9) (by decide +kernel))))), by decide +kernel⟩
theorem wc_X5_isIndex : Cond.code yX5_isIndex cX5_isIndex 2 (some FieldType.boolean) ∈ XT := List.mem_filter.mpr ⟨(List.mem_append_right _ (List.mem_append_right _ (List.mem_append_left _ (List.mem_of_getElem? (i := 10) (by decide +kernel))))), by decide +kernel⟩
theorem wl_X4_85 : Cond.methodLink RX4 85 yX3_append ∈ XT := List.mem_filter.mpr ⟨(List.mem_append_right _ (List.mem_append_right _ (List.mem_append_left _ (List.mem_of_getElem? (i := 11) (by decide +kernel))))), by decide +kernel⟩
theorem wi_X3_append : Cond.instanceMethod yX3_append ∈ XT := List.mem_filter.mpr ⟨(List.mem_append_right _ (List.mem_append_right _ (List.mem_append_left _ (List.mem_of_getElem? (i := 12) (by decide +kernel))))), by decide +kernel⟩
theorem ws_X3_append : Cond.selects RX3 yX3_append yX3_append ∈ XT := List.mem_filter.mpr ⟨(List.mem_append_right _ (List.mem_append_right _ (List.mem_append_left _ (List.mem_of_getElem? (i := 13) (by decide +kernel))))), by decide +kernel⟩
theorem wc_X3_append : Cond.code yX3_append cX3_append 4 (none) ∈ XT := List.mem_filter.mpr ⟨(List.mem_append_right _ (List.mem_append_right _ (List.mem_append_left _ (List.mem_of_getElem? (i := 14) (by decide +kernel))))), by decide +kernel⟩
theorem wl_X3_44 : Cond.methodLinkNest RX3 44 yX5_isIndex "PulledWires" ∈ xNW := List.mem_filter.mpr ⟨(List.mem_append_right _ (List.mem_append_right _ (List.mem_append_left _ (List.mem_of_getElem? (i := 15) (by decide +kernel))))), rfl⟩
theorem wl_X5_48 : Cond.methodLink RX5 48 yX5_recorded ∈ XT := List.mem_filter.mpr ⟨(List.mem_append_right _ (List.mem_append_right _ (List.mem_append_left _ (List.mem_of_getElem? (i := 16) (by decide +kernel))))), by decide +kernel⟩
theorem wi_X5_recorded : Cond.instanceMethod yX5_recorded ∈ XT := List.mem_filter.mpr ⟨(List.mem_append_right _ (List.mem_append_right _ (List.mem_append_left _ (List.mem_of_getElem? (i := 18) (by decide +kernel))))), by decide +kernel⟩
theorem wc_X5_recorded : Cond.code yX5_recorded cX5_recorded 4 (some FieldType.int) ∈ XT := List.mem_filter.mpr ⟨(List.mem_append_right _ (List.mem_append_right _ (List.mem_append_left _ (List.mem_of_getElem? (i := 19) (by decide +kernel))))), by decide +kernel⟩
theorem wl_L_18 : Cond.methodLink RL 18 yX5_takeBack ∈ XT := List.mem_filter.mpr ⟨(List.mem_append_right _ (List.mem_append_right _ (List.mem_append_left _ (List.mem_of_getElem? (i := 20) (by decide +kernel))))), by decide +kernel⟩
theorem wi_X5_takeBack : Cond.instanceMethod yX5_takeBack ∈ XT := List.mem_filter.mpr ⟨(List.mem_append_right _ (List.mem_append_right _ (List.mem_append_left _ (List.mem_of_getElem? (i := 21) (by decide +kernel))))), by decide +kernel⟩
theorem ws_X5_takeBack : Cond.selects RX5 yX5_takeBack yX5_takeBack ∈ XT := List.mem_filter.mpr ⟨(List.mem_append_right _ (List.mem_append_right _ (List.mem_append_left _ (List.mem_of_getElem? (i := 22) (by decide +kernel))))), by decide +kernel⟩
theorem wc_X5_takeBack : Cond.code yX5_takeBack cX5_takeBack 2 (some FieldType.int) ∈ XT := List.mem_filter.mpr ⟨(List.mem_append_right _ (List.mem_append_right _ (List.mem_append_left _ (List.mem_of_getElem? (i := 23) (by decide +kernel))))), by decide +kernel⟩
theorem wl_X5_52 : Cond.methodLink RX5 52 yX4_dropLast ∈ XT := List.mem_filter.mpr ⟨(List.mem_append_right _ (List.mem_append_right _ (List.mem_append_left _ (List.mem_of_getElem? (i := 24) (by decide +kernel))))), by decide +kernel⟩
theorem wi_X4_dropLast : Cond.instanceMethod yX4_dropLast ∈ XT := List.mem_filter.mpr ⟨(List.mem_append_right _ (List.mem_append_right _ (List.mem_append_left _ (List.mem_of_getElem? (i := 25) (by decide +kernel))))), by decide +kernel⟩
theorem ws_X4_dropLast : Cond.selects RX4 yX4_dropLast yX4_dropLast ∈ XT := List.mem_filter.mpr ⟨(List.mem_append_right _ (List.mem_append_right _ (List.mem_append_left _ (List.mem_of_getElem? (i := 26) (by decide +kernel))))), by decide +kernel⟩
theorem wc_X4_dropLast : Cond.code yX4_dropLast cX4_dropLast 3 (some FieldType.int) ∈ XT := List.mem_filter.mpr ⟨(List.mem_append_right _ (List.mem_append_right _ (List.mem_append_left _ (List.mem_of_getElem? (i := 27) (by decide +kernel))))), by decide +kernel⟩
theorem wl_X4_93 : Cond.methodLink RX4 93 yX3_removeLast ∈ XT := List.mem_filter.mpr ⟨(List.mem_append_right _ (List.mem_append_right _ (List.mem_append_left _ (List.mem_of_getElem? (i := 28) (by decide +kernel))))), by decide +kernel⟩
theorem wi_X3_removeLast : Cond.instanceMethod yX3_removeLast ∈ XT := List.mem_filter.mpr ⟨(List.mem_append_right _ (List.mem_append_right _ (List.mem_append_left _ (List.mem_of_getElem? (i := 29) (by decide +kernel))))), by decide +kernel⟩
theorem ws_X3_removeLast : Cond.selects RX3 yX3_removeLast yX3_removeLast ∈ XT := List.mem_filter.mpr ⟨(List.mem_append_right _ (List.mem_append_right _ (List.mem_append_left _ (List.mem_of_getElem? (i := 30) (by decide +kernel))))), by decide +kernel⟩
theorem wc_X3_removeLast : Cond.code yX3_removeLast cX3_removeLast 1 (none) ∈ XT := List.mem_filter.mpr ⟨(List.mem_append_right _ (List.mem_append_right _ (List.mem_append_left _ (List.mem_of_getElem? (i := 31) (by decide +kernel))))), by decide +kernel⟩
theorem wl_L_23 : Cond.methodLink RL 23 yX5_hear ∈ XT := List.mem_filter.mpr ⟨(List.mem_append_right _ (List.mem_append_right _ (List.mem_append_left _ (List.mem_of_getElem? (i := 32) (by decide +kernel))))), by decide +kernel⟩
theorem wi_X5_hear : Cond.instanceMethod yX5_hear ∈ XT := List.mem_filter.mpr ⟨(List.mem_append_right _ (List.mem_append_right _ (List.mem_append_left _ (List.mem_of_getElem? (i := 33) (by decide +kernel))))), by decide +kernel⟩
theorem ws_X5_hear : Cond.selects RX5 yX5_hear yX5_hear ∈ XT := List.mem_filter.mpr ⟨(List.mem_append_right _ (List.mem_append_right _ (List.mem_append_left _ (List.mem_of_getElem? (i := 34) (by decide +kernel))))), by decide +kernel⟩
theorem wc_X5_hear : Cond.code yX5_hear cX5_hear 3 (some FieldType.int) ∈ XT := List.mem_filter.mpr ⟨(List.mem_append_right _ (List.mem_append_right _ (List.mem_append_left _ (List.mem_of_getElem? (i := 35) (by decide +kernel))))), by decide +kernel⟩
theorem wl_X5_55 : Cond.methodLink RX5 55 yX4_giveAddress ∈ XT := List.mem_filter.mpr ⟨(List.mem_append_right _ (List.mem_append_right _ (List.mem_append_left _ (List.mem_of_getElem? (i := 36) (by decide +kernel))))), by decide +kernel⟩
theorem wi_X4_giveAddress : Cond.instanceMethod yX4_giveAddress ∈ XT := List.mem_filter.mpr ⟨(List.mem_append_right _ (List.mem_append_right _ (List.mem_append_left _ (List.mem_of_getElem? (i := 37) (by decide +kernel))))), by decide +kernel⟩
theorem ws_X4_giveAddress : Cond.selects RX4 yX4_giveAddress yX4_giveAddress ∈ XT := List.mem_filter.mpr ⟨(List.mem_append_right _ (List.mem_append_right _ (List.mem_append_left _ (List.mem_of_getElem? (i := 38) (by decide +kernel))))), by decide +kernel⟩
theorem wc_X4_giveAddress : Cond.code yX4_giveAddress cX4_giveAddress 5 (some FieldType.int) ∈ XT := List.mem_filter.mpr ⟨(List.mem_append_right _ (List.mem_append_right _ (List.mem_append_left _ (List.mem_of_getElem? (i := 39) (by decide +kernel))))), by decide +kernel⟩
theorem wl_X4_96 : Cond.methodLink RX4 96 yX4_listenerAt ∈ XT := List.mem_filter.mpr ⟨(List.mem_append_right _ (List.mem_append_right _ (List.mem_append_left _ (List.mem_of_getElem? (i := 40) (by decide +kernel))))), by decide +kernel⟩
theorem wi_X4_listenerAt : Cond.instanceMethod yX4_listenerAt ∈ XT := List.mem_filter.mpr ⟨(List.mem_append_right _ (List.mem_append_right _ (List.mem_append_left _ (List.mem_of_getElem? (i := 41) (by decide +kernel))))), by decide +kernel⟩
theorem ws_X4_listenerAt : Cond.selects RX4 yX4_listenerAt yX4_listenerAt ∈ XT := List.mem_filter.mpr ⟨(List.mem_append_right _ (List.mem_append_right _ (List.mem_append_left _ (List.mem_of_getElem? (i := 42) (by decide +kernel))))), by decide +kernel⟩
theorem wc_X4_listenerAt : Cond.code yX4_listenerAt cX4_listenerAt 2 (some (FieldType.object "PulledWires$Listener")) ∈ XT := List.mem_filter.mpr ⟨(List.mem_append_right _ (List.mem_append_right _ (List.mem_append_left _ (List.mem_of_getElem? (i := 43) (by decide +kernel))))), by decide +kernel⟩
theorem wl_X4_100 : Cond.methodLink RX4 100 yX4_listenerWith ∈ XT := List.mem_filter.mpr ⟨(List.mem_append_right _ (List.mem_append_right _ (List.mem_append_left _ (List.mem_of_getElem? (i := 44) (by decide +kernel))))), by decide +kernel⟩
theorem wi_X4_listenerWith : Cond.instanceMethod yX4_listenerWith ∈ XT := List.mem_filter.mpr ⟨(List.mem_append_right _ (List.mem_append_right _ (List.mem_append_left _ (List.mem_of_getElem? (i := 46) (by decide +kernel))))), by decide +kernel⟩
theorem wc_X4_listenerWith : Cond.code yX4_listenerWith cX4_listenerWith 6 (some (FieldType.object "PulledWires$Listener")) ∈ XT := List.mem_filter.mpr ⟨(List.mem_append_right _ (List.mem_append_right _ (List.mem_append_left _ (List.mem_of_getElem? (i := 47) (by decide +kernel))))), by decide +kernel⟩
theorem wl_X4_106 : Cond.methodLink RX4 106 yX4_listenersWithAddress ∈ XT := List.mem_filter.mpr ⟨(List.mem_append_right _ (List.mem_append_right _ (List.mem_append_left _ (List.mem_of_getElem? (i := 48) (by decide +kernel))))), by decide +kernel⟩
theorem wi_X4_listenersWithAddress : Cond.instanceMethod yX4_listenersWithAddress ∈ XT := List.mem_filter.mpr ⟨(List.mem_append_right _ (List.mem_append_right _ (List.mem_append_left _ (List.mem_of_getElem? (i := 50) (by decide +kernel))))), by decide +kernel⟩
theorem wc_X4_listenersWithAddress : Cond.code yX4_listenersWithAddress cX4_listenersWithAddress 6 (some FieldType.int) ∈ XT := List.mem_filter.mpr ⟨(List.mem_append_right _ (List.mem_append_right _ (List.mem_append_left _ (List.mem_of_getElem? (i := 51) (by decide +kernel))))), by decide +kernel⟩
theorem wl_L_28 : Cond.methodLink RL 28 yX5_hold ∈ XT := List.mem_filter.mpr ⟨(List.mem_append_right _ (List.mem_append_right _ (List.mem_append_left _ (List.mem_of_getElem? (i := 52) (by decide +kernel))))), by decide +kernel⟩
theorem wi_X5_hold : Cond.instanceMethod yX5_hold ∈ XT := List.mem_filter.mpr ⟨(List.mem_append_right _ (List.mem_append_right _ (List.mem_append_left _ (List.mem_of_getElem? (i := 53) (by decide +kernel))))), by decide +kernel⟩
theorem ws_X5_hold : Cond.selects RX5 yX5_hold yX5_hold ∈ XT := List.mem_filter.mpr ⟨(List.mem_append_right _ (List.mem_append_right _ (List.mem_append_left _ (List.mem_of_getElem? (i := 54) (by decide +kernel))))), by decide +kernel⟩
theorem wc_X5_hold : Cond.code yX5_hold cX5_hold 3 (some FieldType.int) ∈ XT := List.mem_filter.mpr ⟨(List.mem_append_right _ (List.mem_append_right _ (List.mem_append_left _ (List.mem_of_getElem? (i := 55) (by decide +kernel))))), by decide +kernel⟩
theorem wl_X5_59 : Cond.methodLink RX5 59 yX4_giveHold ∈ XT := List.mem_filter.mpr ⟨(List.mem_append_right _ (List.mem_append_right _ (List.mem_append_left _ (List.mem_of_getElem? (i := 56) (by decide +kernel))))), by decide +kernel⟩
theorem wi_X4_giveHold : Cond.instanceMethod yX4_giveHold ∈ XT := List.mem_filter.mpr ⟨(List.mem_append_right _ (List.mem_append_right _ (List.mem_append_left _ (List.mem_of_getElem? (i := 57) (by decide +kernel))))), by decide +kernel⟩
theorem ws_X4_giveHold : Cond.selects RX4 yX4_giveHold yX4_giveHold ∈ XT := List.mem_filter.mpr ⟨(List.mem_append_right _ (List.mem_append_right _ (List.mem_append_left _ (List.mem_of_getElem? (i := 58) (by decide +kernel))))), by decide +kernel⟩
theorem wc_X4_giveHold : Cond.code yX4_giveHold cX4_giveHold 5 (some FieldType.int) ∈ XT := List.mem_filter.mpr ⟨(List.mem_append_right _ (List.mem_append_right _ (List.mem_append_left _ (List.mem_of_getElem? (i := 59) (by decide +kernel))))), by decide +kernel⟩
theorem wl_L_32 : Cond.methodLink RL 32 yX5_stick ∈ XT := List.mem_filter.mpr ⟨(List.mem_append_right _ (List.mem_append_right _ (List.mem_append_left _ (List.mem_of_getElem? (i := 60) (by decide +kernel))))), by decide +kernel⟩
theorem wi_X5_stick : Cond.instanceMethod yX5_stick ∈ XT := List.mem_filter.mpr ⟨(List.mem_append_right _ (List.mem_append_right _ (List.mem_append_left _ (List.mem_of_getElem? (i := 61) (by decide +kernel))))), by decide +kernel⟩
theorem ws_X5_stick : Cond.selects RX5 yX5_stick yX5_stick ∈ XT := List.mem_filter.mpr ⟨(List.mem_append_right _ (List.mem_append_right _ (List.mem_append_left _ (List.mem_of_getElem? (i := 62) (by decide +kernel))))), by decide +kernel⟩
theorem wc_X5_stick : Cond.code yX5_stick cX5_stick 3 (some FieldType.int) ∈ XT := List.mem_filter.mpr ⟨(List.mem_append_right _ (List.mem_append_right _ (List.mem_append_left _ (List.mem_of_getElem? (i := 63) (by decide +kernel))))), by decide +kernel⟩
theorem wl_X5_62 : Cond.methodLink RX5 62 yX4_makeStuck ∈ XT := List.mem_filter.mpr ⟨(List.mem_append_right _ (List.mem_append_right _ (List.mem_append_left _ (List.mem_of_getElem? (i := 64) (by decide +kernel))))), by decide +kernel⟩
theorem wi_X4_makeStuck : Cond.instanceMethod yX4_makeStuck ∈ XT := List.mem_filter.mpr ⟨(List.mem_append_right _ (List.mem_append_right _ (List.mem_append_left _ (List.mem_of_getElem? (i := 65) (by decide +kernel))))), by decide +kernel⟩
theorem ws_X4_makeStuck : Cond.selects RX4 yX4_makeStuck yX4_makeStuck ∈ XT := List.mem_filter.mpr ⟨(List.mem_append_right _ (List.mem_append_right _ (List.mem_append_left _ (List.mem_of_getElem? (i := 66) (by decide +kernel))))), by decide +kernel⟩
theorem wc_X4_makeStuck : Cond.code yX4_makeStuck cX4_makeStuck 4 (some FieldType.int) ∈ XT := List.mem_filter.mpr ⟨(List.mem_append_right _ (List.mem_append_right _ (List.mem_append_left _ (List.mem_of_getElem? (i := 67) (by decide +kernel))))), by decide +kernel⟩
theorem wl_X4_116 : Cond.methodLink RX4 116 yX4_stuckListeners ∈ XT := List.mem_filter.mpr ⟨(List.mem_append_right _ (List.mem_append_right _ (List.mem_append_left _ (List.mem_of_getElem? (i := 68) (by decide +kernel))))), by decide +kernel⟩
theorem wi_X4_stuckListeners : Cond.instanceMethod yX4_stuckListeners ∈ XT := List.mem_filter.mpr ⟨(List.mem_append_right _ (List.mem_append_right _ (List.mem_append_left _ (List.mem_of_getElem? (i := 70) (by decide +kernel))))), by decide +kernel⟩
theorem wc_X4_stuckListeners : Cond.code yX4_stuckListeners cX4_stuckListeners 6 (some FieldType.int) ∈ XT := List.mem_filter.mpr ⟨(List.mem_append_right _ (List.mem_append_right _ (List.mem_append_left _ (List.mem_of_getElem? (i := 71) (by decide +kernel))))), by decide +kernel⟩
theorem wl_L_36 : Cond.methodLink RL 36 yX5_set ∈ XT := List.mem_filter.mpr ⟨(List.mem_append_right _ (List.mem_append_right _ (List.mem_append_left _ (List.mem_of_getElem? (i := 72) (by decide +kernel))))), by decide +kernel⟩
theorem wi_X5_set : Cond.instanceMethod yX5_set ∈ XT := List.mem_filter.mpr ⟨(List.mem_append_right _ (List.mem_append_right _ (List.mem_append_left _ (List.mem_of_getElem? (i := 73) (by decide +kernel))))), by decide +kernel⟩
theorem ws_X5_set : Cond.selects RX5 yX5_set yX5_set ∈ XT := List.mem_filter.mpr ⟨(List.mem_append_right _ (List.mem_append_right _ (List.mem_append_left _ (List.mem_of_getElem? (i := 74) (by decide +kernel))))), by decide +kernel⟩
theorem wc_X5_set : Cond.code yX5_set cX5_set 3 (some FieldType.int) ∈ XT := List.mem_filter.mpr ⟨(List.mem_append_right _ (List.mem_append_right _ (List.mem_append_left _ (List.mem_of_getElem? (i := 75) (by decide +kernel))))), by decide +kernel⟩
theorem wl_X5_65 : Cond.methodLink RX5 65 yX4_changeSetting ∈ XT := List.mem_filter.mpr ⟨(List.mem_append_right _ (List.mem_append_right _ (List.mem_append_left _ (List.mem_of_getElem? (i := 76) (by decide +kernel))))), by decide +kernel⟩
theorem wi_X4_changeSetting : Cond.instanceMethod yX4_changeSetting ∈ XT := List.mem_filter.mpr ⟨(List.mem_append_right _ (List.mem_append_right _ (List.mem_append_left _ (List.mem_of_getElem? (i := 77) (by decide +kernel))))), by decide +kernel⟩
theorem ws_X4_changeSetting : Cond.selects RX4 yX4_changeSetting yX4_changeSetting ∈ XT := List.mem_filter.mpr ⟨(List.mem_append_right _ (List.mem_append_right _ (List.mem_append_left _ (List.mem_of_getElem? (i := 78) (by decide +kernel))))), by decide +kernel⟩
theorem wc_X4_changeSetting : Cond.code yX4_changeSetting cX4_changeSetting 4 (some FieldType.int) ∈ XT := List.mem_filter.mpr ⟨(List.mem_append_right _ (List.mem_append_right _ (List.mem_append_left _ (List.mem_of_getElem? (i := 79) (by decide +kernel))))), by decide +kernel⟩
theorem wn_X4_119 : Cond.fieldLinkNest RX4 119 "PulledWires" "MOST_SETTING" "[I" "PulledWires" ∈ xNW := List.mem_filter.mpr ⟨(List.mem_append_right _ (List.mem_append_right _ (List.mem_append_left _ (List.mem_of_getElem? (i := 80) (by decide +kernel))))), rfl⟩
theorem wl_L_40 : Cond.methodLink RL 40 yX5_run ∈ XT := List.mem_filter.mpr ⟨(List.mem_append_right _ (List.mem_append_right _ (List.mem_append_left _ (List.mem_of_getElem? (i := 82) (by decide +kernel))))), by decide +kernel⟩
theorem wi_X5_run : Cond.instanceMethod yX5_run ∈ XT := List.mem_filter.mpr ⟨(List.mem_append_right _ (List.mem_append_right _ (List.mem_append_left _ (List.mem_of_getElem? (i := 83) (by decide +kernel))))), by decide +kernel⟩
theorem ws_X5_run : Cond.selects RX5 yX5_run yX5_run ∈ XT := List.mem_filter.mpr ⟨(List.mem_append_right _ (List.mem_append_right _ (List.mem_append_left _ (List.mem_of_getElem? (i := 84) (by decide +kernel))))), by decide +kernel⟩
theorem wc_X5_run : Cond.code yX5_run cX5_run 2 (some FieldType.int) ∈ XT := List.mem_filter.mpr ⟨(List.mem_append_right _ (List.mem_append_right _ (List.mem_append_left _ (List.mem_of_getElem? (i := 85) (by decide +kernel))))), by decide +kernel⟩
theorem wl_X5_68 : Cond.methodLink RX5 68 yX4_passTicks ∈ XT := List.mem_filter.mpr ⟨(List.mem_append_right _ (List.mem_append_right _ (List.mem_append_left _ (List.mem_of_getElem? (i := 86) (by decide +kernel))))), by decide +kernel⟩
theorem wi_X4_passTicks : Cond.instanceMethod yX4_passTicks ∈ XT := List.mem_filter.mpr ⟨(List.mem_append_right _ (List.mem_append_right _ (List.mem_append_left _ (List.mem_of_getElem? (i := 87) (by decide +kernel))))), by decide +kernel⟩
theorem ws_X4_passTicks : Cond.selects RX4 yX4_passTicks yX4_passTicks ∈ XT := List.mem_filter.mpr ⟨(List.mem_append_right _ (List.mem_append_right _ (List.mem_append_left _ (List.mem_of_getElem? (i := 88) (by decide +kernel))))), by decide +kernel⟩
theorem wc_X4_passTicks : Cond.code yX4_passTicks cX4_passTicks 4 (some FieldType.int) ∈ XT := List.mem_filter.mpr ⟨(List.mem_append_right _ (List.mem_append_right _ (List.mem_append_left _ (List.mem_of_getElem? (i := 89) (by decide +kernel))))), by decide +kernel⟩
theorem wx_X4_122 : Cond.constant RX4 122 (99999 : Int32) ∈ XT := List.mem_filter.mpr ⟨(List.mem_append_right _ (List.mem_append_right _ (List.mem_append_left _ (List.mem_of_getElem? (i := 90) (by decide +kernel))))), by decide +kernel⟩
theorem wl_X4_123 : Cond.methodLink RX4 123 yX4_messagesThatCame ∈ XT := List.mem_filter.mpr ⟨(List.mem_append_right _ (List.mem_append_right _ (List.mem_append_left _ (List.mem_of_getElem? (i := 91) (by decide +kernel))))), by decide +kernel⟩
theorem wi_X4_messagesThatCame : Cond.instanceMethod yX4_messagesThatCame ∈ XT := List.mem_filter.mpr ⟨(List.mem_append_right _ (List.mem_append_right _ (List.mem_append_left _ (List.mem_of_getElem? (i := 92) (by decide +kernel))))), by decide +kernel⟩
theorem ws_X4_messagesThatCame : Cond.selects RX4 yX4_messagesThatCame yX4_messagesThatCame ∈ XT := List.mem_filter.mpr ⟨(List.mem_append_right _ (List.mem_append_right _ (List.mem_append_left _ (List.mem_of_getElem? (i := 93) (by decide +kernel))))), by decide +kernel⟩
theorem wc_X4_messagesThatCame : Cond.code yX4_messagesThatCame cX4_messagesThatCame 6 (some FieldType.int) ∈ XT := List.mem_filter.mpr ⟨(List.mem_append_right _ (List.mem_append_right _ (List.mem_append_left _ (List.mem_of_getElem? (i := 94) (by decide +kernel))))), by decide +kernel⟩
theorem wl_X4_126 : Cond.methodLink RX4 126 yX4_tick ∈ XT := List.mem_filter.mpr ⟨(List.mem_append_right _ (List.mem_append_right _ (List.mem_append_left _ (List.mem_of_getElem? (i := 95) (by decide +kernel))))), by decide +kernel⟩
theorem wi_X4_tick : Cond.instanceMethod yX4_tick ∈ XT := List.mem_filter.mpr ⟨(List.mem_append_right _ (List.mem_append_right _ (List.mem_append_left _ (List.mem_of_getElem? (i := 96) (by decide +kernel))))), by decide +kernel⟩
theorem ws_X4_tick : Cond.selects RX4 yX4_tick yX4_tick ∈ XT := List.mem_filter.mpr ⟨(List.mem_append_right _ (List.mem_append_right _ (List.mem_append_left _ (List.mem_of_getElem? (i := 97) (by decide +kernel))))), by decide +kernel⟩
theorem wc_X4_tick : Cond.code yX4_tick cX4_tick 2 (none) ∈ XT := List.mem_filter.mpr ⟨(List.mem_append_right _ (List.mem_append_right _ (List.mem_append_left _ (List.mem_of_getElem? (i := 98) (by decide +kernel))))), by decide +kernel⟩
theorem wl_X4_136 : Cond.methodLink RX4 136 yX4_nextTick ∈ XT := List.mem_filter.mpr ⟨(List.mem_append_right _ (List.mem_append_right _ (List.mem_append_left _ (List.mem_of_getElem? (i := 99) (by decide +kernel))))), by decide +kernel⟩
theorem wi_X4_nextTick : Cond.instanceMethod yX4_nextTick ∈ XT := List.mem_filter.mpr ⟨(List.mem_append_right _ (List.mem_append_right _ (List.mem_append_left _ (List.mem_of_getElem? (i := 100) (by decide +kernel))))), by decide +kernel⟩
theorem ws_X4_nextTick : Cond.selects RX4 yX4_nextTick yX4_nextTick ∈ XT := List.mem_filter.mpr ⟨(List.mem_append_right _ (List.mem_append_right _ (List.mem_append_left _ (List.mem_of_getElem? (i := 101) (by decide +kernel))))), by decide +kernel⟩
theorem wc_X4_nextTick : Cond.code yX4_nextTick cX4_nextTick 1 (some FieldType.int) ∈ XT := List.mem_filter.mpr ⟨(List.mem_append_right _ (List.mem_append_right _ (List.mem_append_left _ (List.mem_of_getElem? (i := 102) (by decide +kernel))))), by decide +kernel⟩
theorem wl_X4_129 : Cond.methodLink RX4 129 yX4_talkers ∈ XT := List.mem_filter.mpr ⟨(List.mem_append_right _ (List.mem_append_right _ (List.mem_append_left _ (List.mem_of_getElem? (i := 103) (by decide +kernel))))), by decide +kernel⟩
theorem wi_X4_talkers : Cond.instanceMethod yX4_talkers ∈ XT := List.mem_filter.mpr ⟨(List.mem_append_right _ (List.mem_append_right _ (List.mem_append_left _ (List.mem_of_getElem? (i := 104) (by decide +kernel))))), by decide +kernel⟩
theorem ws_X4_talkers : Cond.selects RX4 yX4_talkers yX4_talkers ∈ XT := List.mem_filter.mpr ⟨(List.mem_append_right _ (List.mem_append_right _ (List.mem_append_left _ (List.mem_of_getElem? (i := 105) (by decide +kernel))))), by decide +kernel⟩
theorem wc_X4_talkers : Cond.code yX4_talkers cX4_talkers 3 (some FieldType.int) ∈ XT := List.mem_filter.mpr ⟨(List.mem_append_right _ (List.mem_append_right _ (List.mem_append_left _ (List.mem_of_getElem? (i := 106) (by decide +kernel))))), by decide +kernel⟩
theorem wl_X4_132 : Cond.methodLinkNest RX4 132 yX5_isPlace "PulledWires" ∈ xNW := List.mem_filter.mpr ⟨(List.mem_append_right _ (List.mem_append_right _ (List.mem_append_left _ (List.mem_of_getElem? (i := 107) (by decide +kernel))))), rfl⟩
theorem wt_X5_isPlace : Cond.static yX5_isPlace ∈ XT := List.mem_filter.mpr ⟨(List.mem_append_right _ (List.mem_append_right _ (List.mem_append_left _ (List.mem_of_getElem? (i := 108) (by decide +kernel))))), by decide +kernel⟩
theorem wc_X5_isPlace : Cond.code yX5_isPlace cX5_isPlace 1 (some FieldType.boolean) ∈ XT := List.mem_filter.mpr ⟨(List.mem_append_right _ (List.mem_append_right _ (List.mem_append_left _ (List.mem_of_getElem? (i := 109) (by decide +kernel))))), by decide +kernel⟩
theorem wl_X4_139 : Cond.methodLink RX4 139 yX4_stuckTick ∈ XT := List.mem_filter.mpr ⟨(List.mem_append_right _ (List.mem_append_right _ (List.mem_append_left _ (List.mem_of_getElem? (i := 110) (by decide +kernel))))), by decide +kernel⟩
theorem wi_X4_stuckTick : Cond.instanceMethod yX4_stuckTick ∈ XT := List.mem_filter.mpr ⟨(List.mem_append_right _ (List.mem_append_right _ (List.mem_append_left _ (List.mem_of_getElem? (i := 112) (by decide +kernel))))), by decide +kernel⟩
theorem wc_X4_stuckTick : Cond.code yX4_stuckTick cX4_stuckTick 6 (none) ∈ XT := List.mem_filter.mpr ⟨(List.mem_append_right _ (List.mem_append_right _ (List.mem_append_left _ (List.mem_of_getElem? (i := 113) (by decide +kernel))))), by decide +kernel⟩
theorem wl_X4_151 : Cond.methodLink RX4 151 yX4_sendersOf ∈ XT := List.mem_filter.mpr ⟨(List.mem_append_right _ (List.mem_append_right _ (List.mem_append_left _ (List.mem_of_getElem? (i := 114) (by decide +kernel))))), by decide +kernel⟩
theorem wi_X4_sendersOf : Cond.instanceMethod yX4_sendersOf ∈ XT := List.mem_filter.mpr ⟨(List.mem_append_right _ (List.mem_append_right _ (List.mem_append_left _ (List.mem_of_getElem? (i := 115) (by decide +kernel))))), by decide +kernel⟩
theorem ws_X4_sendersOf : Cond.selects RX4 yX4_sendersOf yX4_sendersOf ∈ XT := List.mem_filter.mpr ⟨(List.mem_append_right _ (List.mem_append_right _ (List.mem_append_left _ (List.mem_of_getElem? (i := 116) (by decide +kernel))))), by decide +kernel⟩
theorem wc_X4_sendersOf : Cond.code yX4_sendersOf cX4_sendersOf 9 (some FieldType.int) ∈ XT := List.mem_filter.mpr ⟨(List.mem_append_right _ (List.mem_append_right _ (List.mem_append_left _ (List.mem_of_getElem? (i := 117) (by decide +kernel))))), by decide +kernel⟩
theorem wl_X4_211 : Cond.methodLink RX4 211 yX3_part ∈ XT := List.mem_filter.mpr ⟨(List.mem_append_right _ (List.mem_append_right _ (List.mem_append_left _ (List.mem_of_getElem? (i := 118) (by decide +kernel))))), by decide +kernel⟩
theorem wi_X3_part : Cond.instanceMethod yX3_part ∈ XT := List.mem_filter.mpr ⟨(List.mem_append_right _ (List.mem_append_right _ (List.mem_append_left _ (List.mem_of_getElem? (i := 119) (by decide +kernel))))), by decide +kernel⟩
theorem ws_X3_part : Cond.selects RX3 yX3_part yX3_part ∈ XT := List.mem_filter.mpr ⟨(List.mem_append_right _ (List.mem_append_right _ (List.mem_append_left _ (List.mem_of_getElem? (i := 120) (by decide +kernel))))), by decide +kernel⟩
theorem wc_X3_part : Cond.code yX3_part cX3_part 4 (some FieldType.int) ∈ XT := List.mem_filter.mpr ⟨(List.mem_append_right _ (List.mem_append_right _ (List.mem_append_left _ (List.mem_of_getElem? (i := 121) (by decide +kernel))))), by decide +kernel⟩
theorem wl_X4_203 : Cond.methodLink RX4 203 yX4_isIn ∈ XT := List.mem_filter.mpr ⟨(List.mem_append_right _ (List.mem_append_right _ (List.mem_append_left _ (List.mem_of_getElem? (i := 122) (by decide +kernel))))), by decide +kernel⟩
theorem wt_X4_isIn : Cond.static yX4_isIn ∈ XT := List.mem_filter.mpr ⟨(List.mem_append_right _ (List.mem_append_right _ (List.mem_append_left _ (List.mem_of_getElem? (i := 123) (by decide +kernel))))), by decide +kernel⟩
theorem wc_X4_isIn : Cond.code yX4_isIn cX4_isIn 2 (some FieldType.boolean) ∈ XT := List.mem_filter.mpr ⟨(List.mem_append_right _ (List.mem_append_right _ (List.mem_append_left _ (List.mem_of_getElem? (i := 124) (by decide +kernel))))), by decide +kernel⟩
theorem wl_X4_155 : Cond.methodLink RX4 155 yX4_lose ∈ XT := List.mem_filter.mpr ⟨(List.mem_append_right _ (List.mem_append_right _ (List.mem_append_left _ (List.mem_of_getElem? (i := 125) (by decide +kernel))))), by decide +kernel⟩
theorem wi_X4_lose : Cond.instanceMethod yX4_lose ∈ XT := List.mem_filter.mpr ⟨(List.mem_append_right _ (List.mem_append_right _ (List.mem_append_left _ (List.mem_of_getElem? (i := 127) (by decide +kernel))))), by decide +kernel⟩
theorem wc_X4_lose : Cond.code yX4_lose cX4_lose 3 (none) ∈ XT := List.mem_filter.mpr ⟨(List.mem_append_right _ (List.mem_append_right _ (List.mem_append_left _ (List.mem_of_getElem? (i := 128) (by decide +kernel))))), by decide +kernel⟩
theorem wl_X4_206 : Cond.methodLink RX4 206 yX3_lose ∈ XT := List.mem_filter.mpr ⟨(List.mem_append_right _ (List.mem_append_right _ (List.mem_append_left _ (List.mem_of_getElem? (i := 129) (by decide +kernel))))), by decide +kernel⟩
theorem wi_X3_lose : Cond.instanceMethod yX3_lose ∈ XT := List.mem_filter.mpr ⟨(List.mem_append_right _ (List.mem_append_right _ (List.mem_append_left _ (List.mem_of_getElem? (i := 130) (by decide +kernel))))), by decide +kernel⟩
theorem ws_X3_lose : Cond.selects RX3 yX3_lose yX3_lose ∈ XT := List.mem_filter.mpr ⟨(List.mem_append_right _ (List.mem_append_right _ (List.mem_append_left _ (List.mem_of_getElem? (i := 131) (by decide +kernel))))), by decide +kernel⟩
theorem wc_X3_lose : Cond.code yX3_lose cX3_lose 1 (none) ∈ XT := List.mem_filter.mpr ⟨(List.mem_append_right _ (List.mem_append_right _ (List.mem_append_left _ (List.mem_of_getElem? (i := 132) (by decide +kernel))))), by decide +kernel⟩
theorem wl_X4_159 : Cond.methodLink RX4 159 yX4_endTalkIfEmpty ∈ XT := List.mem_filter.mpr ⟨(List.mem_append_right _ (List.mem_append_right _ (List.mem_append_left _ (List.mem_of_getElem? (i := 133) (by decide +kernel))))), by decide +kernel⟩
theorem wi_X4_endTalkIfEmpty : Cond.instanceMethod yX4_endTalkIfEmpty ∈ XT := List.mem_filter.mpr ⟨(List.mem_append_right _ (List.mem_append_right _ (List.mem_append_left _ (List.mem_of_getElem? (i := 135) (by decide +kernel))))), by decide +kernel⟩
theorem wc_X4_endTalkIfEmpty : Cond.code yX4_endTalkIfEmpty cX4_endTalkIfEmpty 1 (none) ∈ XT := List.mem_filter.mpr ⟨(List.mem_append_right _ (List.mem_append_right _ (List.mem_append_left _ (List.mem_of_getElem? (i := 136) (by decide +kernel))))), by decide +kernel⟩
theorem wl_X4_162 : Cond.methodLink RX4 162 yX4_setting ∈ XT := List.mem_filter.mpr ⟨(List.mem_append_right _ (List.mem_append_right _ (List.mem_append_left _ (List.mem_of_getElem? (i := 137) (by decide +kernel))))), by decide +kernel⟩
theorem wi_X4_setting : Cond.instanceMethod yX4_setting ∈ XT := List.mem_filter.mpr ⟨(List.mem_append_right _ (List.mem_append_right _ (List.mem_append_left _ (List.mem_of_getElem? (i := 138) (by decide +kernel))))), by decide +kernel⟩
theorem ws_X4_setting : Cond.selects RX4 yX4_setting yX4_setting ∈ XT := List.mem_filter.mpr ⟨(List.mem_append_right _ (List.mem_append_right _ (List.mem_append_left _ (List.mem_of_getElem? (i := 139) (by decide +kernel))))), by decide +kernel⟩
theorem wc_X4_setting : Cond.code yX4_setting cX4_setting 2 (some FieldType.int) ∈ XT := List.mem_filter.mpr ⟨(List.mem_append_right _ (List.mem_append_right _ (List.mem_append_left _ (List.mem_of_getElem? (i := 140) (by decide +kernel))))), by decide +kernel⟩
theorem wl_X4_166 : Cond.methodLink RX4 166 yJ9_max_7cf53 ∈ XT := List.mem_filter.mpr ⟨(List.mem_append_right _ (List.mem_append_right _ (List.mem_append_left _ (List.mem_of_getElem? (i := 141) (by decide +kernel))))), by decide +kernel⟩
theorem wt_J9_max_7cf53 : Cond.static yJ9_max_7cf53 ∈ XT := List.mem_filter.mpr ⟨(List.mem_append_right _ (List.mem_append_right _ (List.mem_append_left _ (List.mem_of_getElem? (i := 142) (by decide +kernel))))), by decide +kernel⟩
theorem wc_J9_max_7cf53 : Cond.code yJ9_max_7cf53 cJ9_max_7cf53 2 (some FieldType.int) ∈ XT := List.mem_filter.mpr ⟨(List.mem_append_right _ (List.mem_append_right _ (List.mem_append_left _ (List.mem_of_getElem? (i := 143) (by decide +kernel))))), by decide +kernel⟩
theorem wl_X4_142 : Cond.methodLink RX4 142 yX4_sendBit ∈ XT := List.mem_filter.mpr ⟨(List.mem_append_right _ (List.mem_append_right _ (List.mem_append_left _ (List.mem_of_getElem? (i := 144) (by decide +kernel))))), by decide +kernel⟩
theorem wi_X4_sendBit : Cond.instanceMethod yX4_sendBit ∈ XT := List.mem_filter.mpr ⟨(List.mem_append_right _ (List.mem_append_right _ (List.mem_append_left _ (List.mem_of_getElem? (i := 146) (by decide +kernel))))), by decide +kernel⟩
theorem wc_X4_sendBit : Cond.code yX4_sendBit cX4_sendBit 4 (none) ∈ XT := List.mem_filter.mpr ⟨(List.mem_append_right _ (List.mem_append_right _ (List.mem_append_left _ (List.mem_of_getElem? (i := 147) (by decide +kernel))))), by decide +kernel⟩
theorem wl_X4_172 : Cond.methodLink RX4 172 yJ6_bitCount_0f7a4 ∈ XT := List.mem_filter.mpr ⟨(List.mem_append_right _ (List.mem_append_right _ (List.mem_append_left _ (List.mem_of_getElem? (i := 148) (by decide +kernel))))), by decide +kernel⟩
theorem wt_J6_bitCount_0f7a4 : Cond.static yJ6_bitCount_0f7a4 ∈ XT := List.mem_filter.mpr ⟨(List.mem_append_right _ (List.mem_append_right _ (List.mem_append_left _ (List.mem_of_getElem? (i := 149) (by decide +kernel))))), by decide +kernel⟩
theorem wc_J6_bitCount_0f7a4 : Cond.code yJ6_bitCount_0f7a4 cJ6_bitCount_0f7a4 1 (some FieldType.int) ∈ XT := List.mem_filter.mpr ⟨(List.mem_append_right _ (List.mem_append_right _ (List.mem_append_left _ (List.mem_of_getElem? (i := 150) (by decide +kernel))))), by decide +kernel⟩
theorem wx_J6_265 : Cond.constant RJ6 265 (1431655765 : Int32) ∈ XT := List.mem_filter.mpr ⟨(List.mem_append_right _ (List.mem_append_right _ (List.mem_append_left _ (List.mem_of_getElem? (i := 151) (by decide +kernel))))), by decide +kernel⟩
theorem wx_J6_266 : Cond.constant RJ6 266 (858993459 : Int32) ∈ XT := List.mem_filter.mpr ⟨(List.mem_append_right _ (List.mem_append_right _ (List.mem_append_left _ (List.mem_of_getElem? (i := 152) (by decide +kernel))))), by decide +kernel⟩
theorem wx_J6_267 : Cond.constant RJ6 267 (252645135 : Int32) ∈ XT := List.mem_filter.mpr ⟨(List.mem_append_right _ (List.mem_append_right _ (List.mem_append_left _ (List.mem_of_getElem? (i := 153) (by decide +kernel))))), by decide +kernel⟩
theorem wl_X4_177 : Cond.methodLink RX4 177 yX0_add ∈ XT := List.mem_filter.mpr ⟨(List.mem_append_right _ (List.mem_append_right _ (List.mem_append_left _ (List.mem_of_getElem? (i := 154) (by decide +kernel))))), by decide +kernel⟩
theorem wi_X0_add : Cond.instanceMethod yX0_add ∈ XT := List.mem_filter.mpr ⟨(List.mem_append_right _ (List.mem_append_right _ (List.mem_append_left _ (List.mem_of_getElem? (i := 155) (by decide +kernel))))), by decide +kernel⟩
theorem ws_X0_add : Cond.selects RX0 yX0_add yX0_add ∈ XT := List.mem_filter.mpr ⟨(List.mem_append_right _ (List.mem_append_right _ (List.mem_append_left _ (List.mem_of_getElem? (i := 156) (by decide +kernel))))), by decide +kernel⟩
theorem wc_X0_add : Cond.code yX0_add cX0_add 6 (none) ∈ XT := List.mem_filter.mpr ⟨(List.mem_append_right _ (List.mem_append_right _ (List.mem_append_left _ (List.mem_of_getElem? (i := 157) (by decide +kernel))))), by decide +kernel⟩
theorem wl_X0_28 : Cond.methodLink RX0 28 yJ9_floorMod_7cf53 ∈ XT := List.mem_filter.mpr ⟨(List.mem_append_right _ (List.mem_append_right _ (List.mem_append_left _ (List.mem_of_getElem? (i := 158) (by decide +kernel))))), by decide +kernel⟩
theorem wt_J9_floorMod_7cf53 : Cond.static yJ9_floorMod_7cf53 ∈ XT := List.mem_filter.mpr ⟨(List.mem_append_right _ (List.mem_append_right _ (List.mem_append_left _ (List.mem_of_getElem? (i := 159) (by decide +kernel))))), by decide +kernel⟩
theorem wc_J9_floorMod_7cf53 : Cond.code yJ9_floorMod_7cf53 cJ9_floorMod_7cf53 3 (some FieldType.int) ∈ XT := List.mem_filter.mpr ⟨(List.mem_append_right _ (List.mem_append_right _ (List.mem_append_left _ (List.mem_of_getElem? (i := 160) (by decide +kernel))))), by decide +kernel⟩
theorem wl_X0_34 : Cond.methodLink RX0 34 yJ9_min_7cf53 ∈ XT := List.mem_filter.mpr ⟨(List.mem_append_right _ (List.mem_append_right _ (List.mem_append_left _ (List.mem_of_getElem? (i := 161) (by decide +kernel))))), by decide +kernel⟩
theorem wt_J9_min_7cf53 : Cond.static yJ9_min_7cf53 ∈ XT := List.mem_filter.mpr ⟨(List.mem_append_right _ (List.mem_append_right _ (List.mem_append_left _ (List.mem_of_getElem? (i := 162) (by decide +kernel))))), by decide +kernel⟩
theorem wc_J9_min_7cf53 : Cond.code yJ9_min_7cf53 cJ9_min_7cf53 2 (some FieldType.int) ∈ XT := List.mem_filter.mpr ⟨(List.mem_append_right _ (List.mem_append_right _ (List.mem_append_left _ (List.mem_of_getElem? (i := 163) (by decide +kernel))))), by decide +kernel⟩
theorem wl_X4_181 : Cond.methodLink RX4 181 yX4_partOfTalk ∈ XT := List.mem_filter.mpr ⟨(List.mem_append_right _ (List.mem_append_right _ (List.mem_append_left _ (List.mem_of_getElem? (i := 164) (by decide +kernel))))), by decide +kernel⟩
theorem wi_X4_partOfTalk : Cond.instanceMethod yX4_partOfTalk ∈ XT := List.mem_filter.mpr ⟨(List.mem_append_right _ (List.mem_append_right _ (List.mem_append_left _ (List.mem_of_getElem? (i := 166) (by decide +kernel))))), by decide +kernel⟩
theorem wc_X4_partOfTalk : Cond.code yX4_partOfTalk cX4_partOfTalk 6 (some FieldType.int) ∈ XT := List.mem_filter.mpr ⟨(List.mem_append_right _ (List.mem_append_right _ (List.mem_append_left _ (List.mem_of_getElem? (i := 167) (by decide +kernel))))), by decide +kernel⟩
theorem wl_X4_184 : Cond.methodLink RX4 184 yX4_holdFor ∈ XT := List.mem_filter.mpr ⟨(List.mem_append_right _ (List.mem_append_right _ (List.mem_append_left _ (List.mem_of_getElem? (i := 168) (by decide +kernel))))), by decide +kernel⟩
theorem wi_X4_holdFor : Cond.instanceMethod yX4_holdFor ∈ XT := List.mem_filter.mpr ⟨(List.mem_append_right _ (List.mem_append_right _ (List.mem_append_left _ (List.mem_of_getElem? (i := 169) (by decide +kernel))))), by decide +kernel⟩
theorem ws_X4_holdFor : Cond.selects RX4 yX4_holdFor yX4_holdFor ∈ XT := List.mem_filter.mpr ⟨(List.mem_append_right _ (List.mem_append_right _ (List.mem_append_left _ (List.mem_of_getElem? (i := 170) (by decide +kernel))))), by decide +kernel⟩
theorem wc_X4_holdFor : Cond.code yX4_holdFor cX4_holdFor 3 (some FieldType.int) ∈ XT := List.mem_filter.mpr ⟨(List.mem_append_right _ (List.mem_append_right _ (List.mem_append_left _ (List.mem_of_getElem? (i := 171) (by decide +kernel))))), by decide +kernel⟩
theorem wl_X4_145 : Cond.methodLink RX4 145 yX4_awaitAnswer ∈ XT := List.mem_filter.mpr ⟨(List.mem_append_right _ (List.mem_append_right _ (List.mem_append_left _ (List.mem_of_getElem? (i := 172) (by decide +kernel))))), by decide +kernel⟩
theorem wi_X4_awaitAnswer : Cond.instanceMethod yX4_awaitAnswer ∈ XT := List.mem_filter.mpr ⟨(List.mem_append_right _ (List.mem_append_right _ (List.mem_append_left _ (List.mem_of_getElem? (i := 174) (by decide +kernel))))), by decide +kernel⟩
theorem wc_X4_awaitAnswer : Cond.code yX4_awaitAnswer cX4_awaitAnswer 6 (none) ∈ XT := List.mem_filter.mpr ⟨(List.mem_append_right _ (List.mem_append_right _ (List.mem_append_left _ (List.mem_of_getElem? (i := 175) (by decide +kernel))))), by decide +kernel⟩
theorem wl_X4_187 : Cond.methodLink RX4 187 yX1_takeWord ∈ XT := List.mem_filter.mpr ⟨(List.mem_append_right _ (List.mem_append_right _ (List.mem_append_left _ (List.mem_of_getElem? (i := 176) (by decide +kernel))))), by decide +kernel⟩
theorem wi_X1_takeWord : Cond.instanceMethod yX1_takeWord ∈ XT := List.mem_filter.mpr ⟨(List.mem_append_right _ (List.mem_append_right _ (List.mem_append_left _ (List.mem_of_getElem? (i := 177) (by decide +kernel))))), by decide +kernel⟩
theorem ws_X1_takeWord : Cond.selects RX1 yX1_takeWord yX1_takeWord ∈ XT := List.mem_filter.mpr ⟨(List.mem_append_right _ (List.mem_append_right _ (List.mem_append_left _ (List.mem_of_getElem? (i := 178) (by decide +kernel))))), by decide +kernel⟩
theorem wc_X1_takeWord : Cond.code yX1_takeWord cX1_takeWord 2 (none) ∈ XT := List.mem_filter.mpr ⟨(List.mem_append_right _ (List.mem_append_right _ (List.mem_append_left _ (List.mem_of_getElem? (i := 179) (by decide +kernel))))), by decide +kernel⟩
theorem wl_X4_190 : Cond.methodLink RX4 190 yX3_failMessage ∈ XT := List.mem_filter.mpr ⟨(List.mem_append_right _ (List.mem_append_right _ (List.mem_append_left _ (List.mem_of_getElem? (i := 180) (by decide +kernel))))), by decide +kernel⟩
theorem wi_X3_failMessage : Cond.instanceMethod yX3_failMessage ∈ XT := List.mem_filter.mpr ⟨(List.mem_append_right _ (List.mem_append_right _ (List.mem_append_left _ (List.mem_of_getElem? (i := 181) (by decide +kernel))))), by decide +kernel⟩
theorem ws_X3_failMessage : Cond.selects RX3 yX3_failMessage yX3_failMessage ∈ XT := List.mem_filter.mpr ⟨(List.mem_append_right _ (List.mem_append_right _ (List.mem_append_left _ (List.mem_of_getElem? (i := 182) (by decide +kernel))))), by decide +kernel⟩
theorem wc_X3_failMessage : Cond.code yX3_failMessage cX3_failMessage 2 (none) ∈ XT := List.mem_filter.mpr ⟨(List.mem_append_right _ (List.mem_append_right _ (List.mem_append_left _ (List.mem_of_getElem? (i := 183) (by decide +kernel))))), by decide +kernel⟩
theorem wl_X3_48 : Cond.methodLink RX3 48 yX3_removeFirst ∈ XT := List.mem_filter.mpr ⟨(List.mem_append_right _ (List.mem_append_right _ (List.mem_append_left _ (List.mem_of_getElem? (i := 184) (by decide +kernel))))), by decide +kernel⟩
theorem wi_X3_removeFirst : Cond.instanceMethod yX3_removeFirst ∈ XT := List.mem_filter.mpr ⟨(List.mem_append_right _ (List.mem_append_right _ (List.mem_append_left _ (List.mem_of_getElem? (i := 186) (by decide +kernel))))), by decide +kernel⟩
theorem wc_X3_removeFirst : Cond.code yX3_removeFirst cX3_removeFirst 1 (none) ∈ XT := List.mem_filter.mpr ⟨(List.mem_append_right _ (List.mem_append_right _ (List.mem_append_left _ (List.mem_of_getElem? (i := 187) (by decide +kernel))))), by decide +kernel⟩
theorem wl_X4_193 : Cond.methodLink RX4 193 yX4_endsAt ∈ XT := List.mem_filter.mpr ⟨(List.mem_append_right _ (List.mem_append_right _ (List.mem_append_left _ (List.mem_of_getElem? (i := 188) (by decide +kernel))))), by decide +kernel⟩
theorem wt_X4_endsAt : Cond.static yX4_endsAt ∈ XT := List.mem_filter.mpr ⟨(List.mem_append_right _ (List.mem_append_right _ (List.mem_append_left _ (List.mem_of_getElem? (i := 189) (by decide +kernel))))), by decide +kernel⟩
theorem wc_X4_endsAt : Cond.code yX4_endsAt cX4_endsAt 2 (some FieldType.boolean) ∈ XT := List.mem_filter.mpr ⟨(List.mem_append_right _ (List.mem_append_right _ (List.mem_append_left _ (List.mem_of_getElem? (i := 190) (by decide +kernel))))), by decide +kernel⟩
theorem wl_X4_214 : Cond.methodLink RX4 214 yX3_partsAt ∈ XT := List.mem_filter.mpr ⟨(List.mem_append_right _ (List.mem_append_right _ (List.mem_append_left _ (List.mem_of_getElem? (i := 191) (by decide +kernel))))), by decide +kernel⟩
theorem wi_X3_partsAt : Cond.instanceMethod yX3_partsAt ∈ XT := List.mem_filter.mpr ⟨(List.mem_append_right _ (List.mem_append_right _ (List.mem_append_left _ (List.mem_of_getElem? (i := 192) (by decide +kernel))))), by decide +kernel⟩
theorem ws_X3_partsAt : Cond.selects RX3 yX3_partsAt yX3_partsAt ∈ XT := List.mem_filter.mpr ⟨(List.mem_append_right _ (List.mem_append_right _ (List.mem_append_left _ (List.mem_of_getElem? (i := 193) (by decide +kernel))))), by decide +kernel⟩
theorem wc_X3_partsAt : Cond.code yX3_partsAt cX3_partsAt 2 (some FieldType.int) ∈ XT := List.mem_filter.mpr ⟨(List.mem_append_right _ (List.mem_append_right _ (List.mem_append_left _ (List.mem_of_getElem? (i := 194) (by decide +kernel))))), by decide +kernel⟩
theorem wl_X3_51 : Cond.methodLink RX3 51 yX3_part ∈ XT := List.mem_filter.mpr ⟨(List.mem_append_right _ (List.mem_append_right _ (List.mem_append_left _ (List.mem_of_getElem? (i := 195) (by decide +kernel))))), by decide +kernel⟩
theorem wl_X4_197 : Cond.methodLink RX4 197 yX3_bringMessage ∈ XT := List.mem_filter.mpr ⟨(List.mem_append_right _ (List.mem_append_right _ (List.mem_append_left _ (List.mem_of_getElem? (i := 196) (by decide +kernel))))), by decide +kernel⟩
theorem wi_X3_bringMessage : Cond.instanceMethod yX3_bringMessage ∈ XT := List.mem_filter.mpr ⟨(List.mem_append_right _ (List.mem_append_right _ (List.mem_append_left _ (List.mem_of_getElem? (i := 197) (by decide +kernel))))), by decide +kernel⟩
theorem ws_X3_bringMessage : Cond.selects RX3 yX3_bringMessage yX3_bringMessage ∈ XT := List.mem_filter.mpr ⟨(List.mem_append_right _ (List.mem_append_right _ (List.mem_append_left _ (List.mem_of_getElem? (i := 198) (by decide +kernel))))), by decide +kernel⟩
theorem wc_X3_bringMessage : Cond.code yX3_bringMessage cX3_bringMessage 1 (none) ∈ XT := List.mem_filter.mpr ⟨(List.mem_append_right _ (List.mem_append_right _ (List.mem_append_left _ (List.mem_of_getElem? (i := 199) (by decide +kernel))))), by decide +kernel⟩
theorem wl_X4_148 : Cond.methodLink RX4 148 yX4_freeTick ∈ XT := List.mem_filter.mpr ⟨(List.mem_append_right _ (List.mem_append_right _ (List.mem_append_left _ (List.mem_of_getElem? (i := 200) (by decide +kernel))))), by decide +kernel⟩
theorem wi_X4_freeTick : Cond.instanceMethod yX4_freeTick ∈ XT := List.mem_filter.mpr ⟨(List.mem_append_right _ (List.mem_append_right _ (List.mem_append_left _ (List.mem_of_getElem? (i := 202) (by decide +kernel))))), by decide +kernel⟩
theorem wc_X4_freeTick : Cond.code yX4_freeTick cX4_freeTick 3 (none) ∈ XT := List.mem_filter.mpr ⟨(List.mem_append_right _ (List.mem_append_right _ (List.mem_append_left _ (List.mem_of_getElem? (i := 203) (by decide +kernel))))), by decide +kernel⟩
theorem wl_X4_200 : Cond.methodLink RX4 200 yX4_speakersWithMessage ∈ XT := List.mem_filter.mpr ⟨(List.mem_append_right _ (List.mem_append_right _ (List.mem_append_left _ (List.mem_of_getElem? (i := 204) (by decide +kernel))))), by decide +kernel⟩
theorem wi_X4_speakersWithMessage : Cond.instanceMethod yX4_speakersWithMessage ∈ XT := List.mem_filter.mpr ⟨(List.mem_append_right _ (List.mem_append_right _ (List.mem_append_left _ (List.mem_of_getElem? (i := 205) (by decide +kernel))))), by decide +kernel⟩
theorem ws_X4_speakersWithMessage : Cond.selects RX4 yX4_speakersWithMessage yX4_speakersWithMessage ∈ XT := List.mem_filter.mpr ⟨(List.mem_append_right _ (List.mem_append_right _ (List.mem_append_left _ (List.mem_of_getElem? (i := 206) (by decide +kernel))))), by decide +kernel⟩
theorem wc_X4_speakersWithMessage : Cond.code yX4_speakersWithMessage cX4_speakersWithMessage 3 (some FieldType.int) ∈ XT := List.mem_filter.mpr ⟨(List.mem_append_right _ (List.mem_append_right _ (List.mem_append_left _ (List.mem_of_getElem? (i := 207) (by decide +kernel))))), by decide +kernel⟩
theorem wl_L_44 : Cond.methodLink RL 44 yX5_type ∈ XT := List.mem_filter.mpr ⟨(List.mem_append_right _ (List.mem_append_right _ (List.mem_append_left _ (List.mem_of_getElem? (i := 208) (by decide +kernel))))), by decide +kernel⟩
theorem wi_X5_type : Cond.instanceMethod yX5_type ∈ XT := List.mem_filter.mpr ⟨(List.mem_append_right _ (List.mem_append_right _ (List.mem_append_left _ (List.mem_of_getElem? (i := 209) (by decide +kernel))))), by decide +kernel⟩
theorem ws_X5_type : Cond.selects RX5 yX5_type yX5_type ∈ XT := List.mem_filter.mpr ⟨(List.mem_append_right _ (List.mem_append_right _ (List.mem_append_left _ (List.mem_of_getElem? (i := 210) (by decide +kernel))))), by decide +kernel⟩
theorem wc_X5_type : Cond.code yX5_type cX5_type 2 (some FieldType.int) ∈ XT := List.mem_filter.mpr ⟨(List.mem_append_right _ (List.mem_append_right _ (List.mem_append_left _ (List.mem_of_getElem? (i := 211) (by decide +kernel))))), by decide +kernel⟩
theorem wl_X5_71 : Cond.methodLink RX5 71 yX2_append ∈ XT := List.mem_filter.mpr ⟨(List.mem_append_right _ (List.mem_append_right _ (List.mem_append_left _ (List.mem_of_getElem? (i := 212) (by decide +kernel))))), by decide +kernel⟩
theorem wi_X2_append : Cond.instanceMethod yX2_append ∈ XT := List.mem_filter.mpr ⟨(List.mem_append_right _ (List.mem_append_right _ (List.mem_append_left _ (List.mem_of_getElem? (i := 213) (by decide +kernel))))), by decide +kernel⟩
theorem ws_X2_append : Cond.selects RX2 yX2_append yX2_append ∈ XT := List.mem_filter.mpr ⟨(List.mem_append_right _ (List.mem_append_right _ (List.mem_append_left _ (List.mem_of_getElem? (i := 214) (by decide +kernel))))), by decide +kernel⟩
theorem wc_X2_append : Cond.code yX2_append cX2_append 2 (some FieldType.int) ∈ XT := List.mem_filter.mpr ⟨(List.mem_append_right _ (List.mem_append_right _ (List.mem_append_left _ (List.mem_of_getElem? (i := 215) (by decide +kernel))))), by decide +kernel⟩
theorem wl_X2_26 : Cond.methodLinkNest RX2 26 yX5_isIndex "PulledWires" ∈ xNW := List.mem_filter.mpr ⟨(List.mem_append_right _ (List.mem_append_right _ (List.mem_append_left _ (List.mem_of_getElem? (i := 216) (by decide +kernel))))), rfl⟩
theorem wl_L_49 : Cond.methodLink RL 49 yX5_clearText ∈ XT := List.mem_filter.mpr ⟨(List.mem_append_right _ (List.mem_append_right _ (List.mem_append_left _ (List.mem_of_getElem? (i := 217) (by decide +kernel))))), by decide +kernel⟩
theorem wi_X5_clearText : Cond.instanceMethod yX5_clearText ∈ XT := List.mem_filter.mpr ⟨(List.mem_append_right _ (List.mem_append_right _ (List.mem_append_left _ (List.mem_of_getElem? (i := 218) (by decide +kernel))))), by decide +kernel⟩
theorem ws_X5_clearText : Cond.selects RX5 yX5_clearText yX5_clearText ∈ XT := List.mem_filter.mpr ⟨(List.mem_append_right _ (List.mem_append_right _ (List.mem_append_left _ (List.mem_of_getElem? (i := 219) (by decide +kernel))))), by decide +kernel⟩
theorem wc_X5_clearText : Cond.code yX5_clearText cX5_clearText 1 (some FieldType.int) ∈ XT := List.mem_filter.mpr ⟨(List.mem_append_right _ (List.mem_append_right _ (List.mem_append_left _ (List.mem_of_getElem? (i := 220) (by decide +kernel))))), by decide +kernel⟩
theorem wl_X5_75 : Cond.methodLink RX5 75 yX2_empty ∈ XT := List.mem_filter.mpr ⟨(List.mem_append_right _ (List.mem_append_right _ (List.mem_append_left _ (List.mem_of_getElem? (i := 221) (by decide +kernel))))), by decide +kernel⟩
theorem wi_X2_empty : Cond.instanceMethod yX2_empty ∈ XT := List.mem_filter.mpr ⟨(List.mem_append_right _ (List.mem_append_right _ (List.mem_append_left _ (List.mem_of_getElem? (i := 222) (by decide +kernel))))), by decide +kernel⟩
theorem ws_X2_empty : Cond.selects RX2 yX2_empty yX2_empty ∈ XT := List.mem_filter.mpr ⟨(List.mem_append_right _ (List.mem_append_right _ (List.mem_append_left _ (List.mem_of_getElem? (i := 223) (by decide +kernel))))), by decide +kernel⟩
theorem wc_X2_empty : Cond.code yX2_empty cX2_empty 2 (some FieldType.int) ∈ XT := List.mem_filter.mpr ⟨(List.mem_append_right _ (List.mem_append_right _ (List.mem_append_left _ (List.mem_of_getElem? (i := 224) (by decide +kernel))))), by decide +kernel⟩
theorem wl_L_54 : Cond.methodLink RL 54 yX5_perform ∈ XT := List.mem_filter.mpr ⟨(List.mem_append_right _ (List.mem_append_right _ (List.mem_append_left _ (List.mem_of_getElem? (i := 225) (by decide +kernel))))), by decide +kernel⟩
theorem wi_X5_perform : Cond.instanceMethod yX5_perform ∈ XT := List.mem_filter.mpr ⟨(List.mem_append_right _ (List.mem_append_right _ (List.mem_append_left _ (List.mem_of_getElem? (i := 226) (by decide +kernel))))), by decide +kernel⟩
theorem ws_X5_perform : Cond.selects RX5 yX5_perform yX5_perform ∈ XT := List.mem_filter.mpr ⟨(List.mem_append_right _ (List.mem_append_right _ (List.mem_append_left _ (List.mem_of_getElem? (i := 227) (by decide +kernel))))), by decide +kernel⟩
theorem wc_X5_perform : Cond.code yX5_perform cX5_perform 4 (some FieldType.int) ∈ XT := List.mem_filter.mpr ⟨(List.mem_append_right _ (List.mem_append_right _ (List.mem_append_left _ (List.mem_of_getElem? (i := 228) (by decide +kernel))))), by decide +kernel⟩
theorem wl_X5_79 : Cond.methodLink RX5 79 yX2_countOrders ∈ XT := List.mem_filter.mpr ⟨(List.mem_append_right _ (List.mem_append_right _ (List.mem_append_left _ (List.mem_of_getElem? (i := 229) (by decide +kernel))))), by decide +kernel⟩
theorem wi_X2_countOrders : Cond.instanceMethod yX2_countOrders ∈ XT := List.mem_filter.mpr ⟨(List.mem_append_right _ (List.mem_append_right _ (List.mem_append_left _ (List.mem_of_getElem? (i := 230) (by decide +kernel))))), by decide +kernel⟩
theorem ws_X2_countOrders : Cond.selects RX2 yX2_countOrders yX2_countOrders ∈ XT := List.mem_filter.mpr ⟨(List.mem_append_right _ (List.mem_append_right _ (List.mem_append_left _ (List.mem_of_getElem? (i := 231) (by decide +kernel))))), by decide +kernel⟩
theorem wc_X2_countOrders : Cond.code yX2_countOrders cX2_countOrders 2 (some FieldType.int) ∈ XT := List.mem_filter.mpr ⟨(List.mem_append_right _ (List.mem_append_right _ (List.mem_append_left _ (List.mem_of_getElem? (i := 232) (by decide +kernel))))), by decide +kernel⟩
theorem wl_X2_33 : Cond.methodLink RX2 33 yX2_rewind ∈ XT := List.mem_filter.mpr ⟨(List.mem_append_right _ (List.mem_append_right _ (List.mem_append_left _ (List.mem_of_getElem? (i := 233) (by decide +kernel))))), by decide +kernel⟩
theorem wi_X2_rewind : Cond.instanceMethod yX2_rewind ∈ XT := List.mem_filter.mpr ⟨(List.mem_append_right _ (List.mem_append_right _ (List.mem_append_left _ (List.mem_of_getElem? (i := 234) (by decide +kernel))))), by decide +kernel⟩
theorem ws_X2_rewind : Cond.selects RX2 yX2_rewind yX2_rewind ∈ XT := List.mem_filter.mpr ⟨(List.mem_append_right _ (List.mem_append_right _ (List.mem_append_left _ (List.mem_of_getElem? (i := 235) (by decide +kernel))))), by decide +kernel⟩
theorem wc_X2_rewind : Cond.code yX2_rewind cX2_rewind 1 (none) ∈ XT := List.mem_filter.mpr ⟨(List.mem_append_right _ (List.mem_append_right _ (List.mem_append_left _ (List.mem_of_getElem? (i := 236) (by decide +kernel))))), by decide +kernel⟩
theorem wl_X2_36 : Cond.methodLink RX2 36 yX2_readOrder ∈ XT := List.mem_filter.mpr ⟨(List.mem_append_right _ (List.mem_append_right _ (List.mem_append_left _ (List.mem_of_getElem? (i := 237) (by decide +kernel))))), by decide +kernel⟩
theorem wi_X2_readOrder : Cond.instanceMethod yX2_readOrder ∈ XT := List.mem_filter.mpr ⟨(List.mem_append_right _ (List.mem_append_right _ (List.mem_append_left _ (List.mem_of_getElem? (i := 238) (by decide +kernel))))), by decide +kernel⟩
theorem ws_X2_readOrder : Cond.selects RX2 yX2_readOrder yX2_readOrder ∈ XT := List.mem_filter.mpr ⟨(List.mem_append_right _ (List.mem_append_right _ (List.mem_append_left _ (List.mem_of_getElem? (i := 239) (by decide +kernel))))), by decide +kernel⟩
theorem wc_X2_readOrder : Cond.code yX2_readOrder cX2_readOrder 1 (some FieldType.boolean) ∈ XT := List.mem_filter.mpr ⟨(List.mem_append_right _ (List.mem_append_right _ (List.mem_append_right _ (List.mem_append_left _ (List.mem_of_getElem? (i := 0) (by decide +kernel)))))), by decide +kernel⟩
theorem wl_X2_43 : Cond.methodLink RX2 43 yX2_readName ∈ XT := List.mem_filter.mpr ⟨(List.mem_append_right _ (List.mem_append_right _ (List.mem_append_right _ (List.mem_append_left _ (List.mem_of_getElem? (i := 1) (by decide +kernel)))))), by decide +kernel⟩
theorem wi_X2_readName : Cond.instanceMethod yX2_readName ∈ XT := List.mem_filter.mpr ⟨(List.mem_append_right _ (List.mem_append_right _ (List.mem_append_right _ (List.mem_append_left _ (List.mem_of_getElem? (i := 3) (by decide +kernel)))))), by decide +kernel⟩
theorem wc_X2_readName : Cond.code yX2_readName cX2_readName 5 (some FieldType.boolean) ∈ XT := List.mem_filter.mpr ⟨(List.mem_append_right _ (List.mem_append_right _ (List.mem_append_right _ (List.mem_append_left _ (List.mem_of_getElem? (i := 4) (by decide +kernel)))))), by decide +kernel⟩
theorem wl_X2_53 : Cond.methodLink RX2 53 yX2_nameOf ∈ XT := List.mem_filter.mpr ⟨(List.mem_append_right _ (List.mem_append_right _ (List.mem_append_right _ (List.mem_append_left _ (List.mem_of_getElem? (i := 5) (by decide +kernel)))))), by decide +kernel⟩
theorem wt_X2_nameOf : Cond.static yX2_nameOf ∈ XT := List.mem_filter.mpr ⟨(List.mem_append_right _ (List.mem_append_right _ (List.mem_append_right _ (List.mem_append_left _ (List.mem_of_getElem? (i := 6) (by decide +kernel)))))), by decide +kernel⟩
theorem wc_X2_nameOf : Cond.code yX2_nameOf cX2_nameOf 1 (some (FieldType.object "java/lang/String")) ∈ XT := List.mem_filter.mpr ⟨(List.mem_append_right _ (List.mem_append_right _ (List.mem_append_right _ (List.mem_append_left _ (List.mem_of_getElem? (i := 7) (by decide +kernel)))))), by decide +kernel⟩
theorem wl_X2_57 : Cond.methodLink RX2 57 yX2_sameCharacters ∈ XT := List.mem_filter.mpr ⟨(List.mem_append_right _ (List.mem_append_right _ (List.mem_append_right _ (List.mem_append_left _ (List.mem_of_getElem? (i := 13) (by decide +kernel)))))), by decide +kernel⟩
theorem wi_X2_sameCharacters : Cond.instanceMethod yX2_sameCharacters ∈ XT := List.mem_filter.mpr ⟨(List.mem_append_right _ (List.mem_append_right _ (List.mem_append_right _ (List.mem_append_left _ (List.mem_of_getElem? (i := 15) (by decide +kernel)))))), by decide +kernel⟩
theorem wc_X2_sameCharacters : Cond.code yX2_sameCharacters cX2_sameCharacters 3 (some FieldType.int) ∈ XT := List.mem_filter.mpr ⟨(List.mem_append_right _ (List.mem_append_right _ (List.mem_append_right _ (List.mem_append_left _ (List.mem_of_getElem? (i := 16) (by decide +kernel)))))), by decide +kernel⟩
theorem wl_X2_67 : Cond.methodLink RX2 67 yJ0_length_8abf5 ∈ XT := List.mem_filter.mpr ⟨(List.mem_append_right _ (List.mem_append_right _ (List.mem_append_right _ (List.mem_append_left _ (List.mem_of_getElem? (i := 17) (by decide +kernel)))))), by decide +kernel⟩
theorem wi_J0_length_8abf5 : Cond.instanceMethod yJ0_length_8abf5 ∈ XT := List.mem_filter.mpr ⟨(List.mem_append_right _ (List.mem_append_right _ (List.mem_append_right _ (List.mem_append_left _ (List.mem_of_getElem? (i := 18) (by decide +kernel)))))), by decide +kernel⟩
theorem ws_J0_length_8abf5 : Cond.selects RJ0 yJ0_length_8abf5 yJ0_length_8abf5 ∈ XT := List.mem_filter.mpr ⟨(List.mem_append_right _ (List.mem_append_right _ (List.mem_append_right _ (List.mem_append_left _ (List.mem_of_getElem? (i := 19) (by decide +kernel)))))), by decide +kernel⟩
theorem wc_J0_length_8abf5 : Cond.code yJ0_length_8abf5 cJ0_length_8abf5 1 (some FieldType.int) ∈ XT := List.mem_filter.mpr ⟨(List.mem_append_right _ (List.mem_append_right _ (List.mem_append_right _ (List.mem_append_left _ (List.mem_of_getElem? (i := 20) (by decide +kernel)))))), by decide +kernel⟩
theorem wl_J0_335 : Cond.methodLink RJ0 335 yJ0_coder_7d493 ∈ XT := List.mem_filter.mpr ⟨(List.mem_append_right _ (List.mem_append_right _ (List.mem_append_right _ (List.mem_append_left _ (List.mem_of_getElem? (i := 21) (by decide +kernel)))))), by decide +kernel⟩
theorem wi_J0_coder_7d493 : Cond.instanceMethod yJ0_coder_7d493 ∈ XT := List.mem_filter.mpr ⟨(List.mem_append_right _ (List.mem_append_right _ (List.mem_append_right _ (List.mem_append_left _ (List.mem_of_getElem? (i := 22) (by decide +kernel)))))), by decide +kernel⟩
theorem ws_J0_coder_7d493 : Cond.selects RJ0 yJ0_coder_7d493 yJ0_coder_7d493 ∈ XT := List.mem_filter.mpr ⟨(List.mem_append_right _ (List.mem_append_right _ (List.mem_append_right _ (List.mem_append_left _ (List.mem_of_getElem? (i := 23) (by decide +kernel)))))), by decide +kernel⟩
theorem wc_J0_coder_7d493 : Cond.code yJ0_coder_7d493 cJ0_coder_7d493 1 (some FieldType.byte) ∈ XT := List.mem_filter.mpr ⟨(List.mem_append_right _ (List.mem_append_right _ (List.mem_append_right _ (List.mem_append_left _ (List.mem_of_getElem? (i := 24) (by decide +kernel)))))), by decide +kernel⟩
theorem wf_J0_38 : Cond.fieldLink RJ0 38 "java/lang/String" "COMPACT_STRINGS" "Z" ∈ XT := List.mem_filter.mpr ⟨(List.mem_append_right _ (List.mem_append_right _ (List.mem_append_right _ (List.mem_append_left _ (List.mem_of_getElem? (i := 25) (by decide +kernel)))))), by decide +kernel⟩
theorem wl_X2_72 : Cond.methodLink RX2 72 yJ0_charAt_5068e ∈ XT := List.mem_filter.mpr ⟨(List.mem_append_right _ (List.mem_append_right _ (List.mem_append_right _ (List.mem_append_left _ (List.mem_of_getElem? (i := 27) (by decide +kernel)))))), by decide +kernel⟩
theorem wi_J0_charAt_5068e : Cond.instanceMethod yJ0_charAt_5068e ∈ XT := List.mem_filter.mpr ⟨(List.mem_append_right _ (List.mem_append_right _ (List.mem_append_right _ (List.mem_append_left _ (List.mem_of_getElem? (i := 28) (by decide +kernel)))))), by decide +kernel⟩
theorem ws_J0_charAt_5068e : Cond.selects RJ0 yJ0_charAt_5068e yJ0_charAt_5068e ∈ XT := List.mem_filter.mpr ⟨(List.mem_append_right _ (List.mem_append_right _ (List.mem_append_right _ (List.mem_append_left _ (List.mem_of_getElem? (i := 29) (by decide +kernel)))))), by decide +kernel⟩
theorem wc_J0_charAt_5068e : Cond.code yJ0_charAt_5068e cJ0_charAt_5068e 2 (some FieldType.char) ∈ XT := List.mem_filter.mpr ⟨(List.mem_append_right _ (List.mem_append_right _ (List.mem_append_right _ (List.mem_append_left _ (List.mem_of_getElem? (i := 30) (by decide +kernel)))))), by decide +kernel⟩
theorem wl_J0_492 : Cond.methodLink RJ0 492 yJ0_isLatin1_aae02 ∈ XT := List.mem_filter.mpr ⟨(List.mem_append_right _ (List.mem_append_right _ (List.mem_append_right _ (List.mem_append_left _ (List.mem_of_getElem? (i := 31) (by decide +kernel)))))), by decide +kernel⟩
theorem wi_J0_isLatin1_aae02 : Cond.instanceMethod yJ0_isLatin1_aae02 ∈ XT := List.mem_filter.mpr ⟨(List.mem_append_right _ (List.mem_append_right _ (List.mem_append_right _ (List.mem_append_left _ (List.mem_of_getElem? (i := 32) (by decide +kernel)))))), by decide +kernel⟩
theorem ws_J0_isLatin1_aae02 : Cond.selects RJ0 yJ0_isLatin1_aae02 yJ0_isLatin1_aae02 ∈ XT := List.mem_filter.mpr ⟨(List.mem_append_right _ (List.mem_append_right _ (List.mem_append_right _ (List.mem_append_left _ (List.mem_of_getElem? (i := 33) (by decide +kernel)))))), by decide +kernel⟩
theorem wc_J0_isLatin1_aae02 : Cond.code yJ0_isLatin1_aae02 cJ0_isLatin1_aae02 1 (some FieldType.boolean) ∈ XT := List.mem_filter.mpr ⟨(List.mem_append_right _ (List.mem_append_right _ (List.mem_append_right _ (List.mem_append_left _ (List.mem_of_getElem? (i := 34) (by decide +kernel)))))), by decide +kernel⟩
theorem wl_J0_495 : Cond.methodLink RJ0 495 yJ1_charAt_3b067 ∈ XT := List.mem_filter.mpr ⟨(List.mem_append_right _ (List.mem_append_right _ (List.mem_append_right _ (List.mem_append_left _ (List.mem_of_getElem? (i := 35) (by decide +kernel)))))), by decide +kernel⟩
theorem wt_J1_charAt_3b067 : Cond.static yJ1_charAt_3b067 ∈ XT := List.mem_filter.mpr ⟨(List.mem_append_right _ (List.mem_append_right _ (List.mem_append_right _ (List.mem_append_left _ (List.mem_of_getElem? (i := 36) (by decide +kernel)))))), by decide +kernel⟩
theorem wc_J1_charAt_3b067 : Cond.code yJ1_charAt_3b067 cJ1_charAt_3b067 2 (some FieldType.char) ∈ XT := List.mem_filter.mpr ⟨(List.mem_append_right _ (List.mem_append_right _ (List.mem_append_right _ (List.mem_append_left _ (List.mem_of_getElem? (i := 37) (by decide +kernel)))))), by decide +kernel⟩
theorem wl_J1_9 : Cond.methodLink RJ1 9 yJ0_checkIndex_df160 ∈ XT := List.mem_filter.mpr ⟨(List.mem_append_right _ (List.mem_append_right _ (List.mem_append_right _ (List.mem_append_left _ (List.mem_of_getElem? (i := 38) (by decide +kernel)))))), by decide +kernel⟩
theorem wt_J0_checkIndex_df160 : Cond.static yJ0_checkIndex_df160 ∈ XT := List.mem_filter.mpr ⟨(List.mem_append_right _ (List.mem_append_right _ (List.mem_append_right _ (List.mem_append_left _ (List.mem_of_getElem? (i := 39) (by decide +kernel)))))), by decide +kernel⟩
theorem wc_J0_checkIndex_df160 : Cond.code yJ0_checkIndex_df160 cJ0_checkIndex_df160 2 (none) ∈ XT := List.mem_filter.mpr ⟨(List.mem_append_right _ (List.mem_append_right _ (List.mem_append_right _ (List.mem_append_left _ (List.mem_of_getElem? (i := 40) (by decide +kernel)))))), by decide +kernel⟩
theorem wf_J0_1053 : Cond.fieldLink RJ0 1053 "jdk/internal/util/Preconditions" "SIOOBE_FORMATTER" "Ljava/util/function/BiFunction;" ∈ XT := List.mem_filter.mpr ⟨(List.mem_append_right _ (List.mem_append_right _ (List.mem_append_right _ (List.mem_append_left _ (List.mem_of_getElem? (i := 41) (by decide +kernel)))))), by decide +kernel⟩
theorem wl_J0_1059 : Cond.methodLink RJ0 1059 yJ3_checkIndex_8e157 ∈ XT := List.mem_filter.mpr ⟨(List.mem_append_right _ (List.mem_append_right _ (List.mem_append_right _ (List.mem_append_left _ (List.mem_of_getElem? (i := 43) (by decide +kernel)))))), by decide +kernel⟩
theorem wt_J3_checkIndex_8e157 : Cond.static yJ3_checkIndex_8e157 ∈ XT := List.mem_filter.mpr ⟨(List.mem_append_right _ (List.mem_append_right _ (List.mem_append_right _ (List.mem_append_left _ (List.mem_of_getElem? (i := 44) (by decide +kernel)))))), by decide +kernel⟩
theorem wc_J3_checkIndex_8e157 : Cond.code yJ3_checkIndex_8e157 cJ3_checkIndex_8e157 3 (some FieldType.int) ∈ XT := List.mem_filter.mpr ⟨(List.mem_append_right _ (List.mem_append_right _ (List.mem_append_right _ (List.mem_append_left _ (List.mem_of_getElem? (i := 45) (by decide +kernel)))))), by decide +kernel⟩
theorem wl_J0_498 : Cond.methodLink RJ0 498 yJ2_charAt_3b067 ∈ XT := List.mem_filter.mpr ⟨(List.mem_append_right _ (List.mem_append_right _ (List.mem_append_right _ (List.mem_append_left _ (List.mem_of_getElem? (i := 46) (by decide +kernel)))))), by decide +kernel⟩
theorem wt_J2_charAt_3b067 : Cond.static yJ2_charAt_3b067 ∈ XT := List.mem_filter.mpr ⟨(List.mem_append_right _ (List.mem_append_right _ (List.mem_append_right _ (List.mem_append_left _ (List.mem_of_getElem? (i := 47) (by decide +kernel)))))), by decide +kernel⟩
theorem wc_J2_charAt_3b067 : Cond.code yJ2_charAt_3b067 cJ2_charAt_3b067 2 (some FieldType.char) ∈ XT := List.mem_filter.mpr ⟨(List.mem_append_right _ (List.mem_append_right _ (List.mem_append_right _ (List.mem_append_left _ (List.mem_of_getElem? (i := 48) (by decide +kernel)))))), by decide +kernel⟩
theorem wl_J2_67 : Cond.methodLink RJ2 67 yJ2_checkIndex_2214a ∈ XT := List.mem_filter.mpr ⟨(List.mem_append_right _ (List.mem_append_right _ (List.mem_append_right _ (List.mem_append_left _ (List.mem_of_getElem? (i := 49) (by decide +kernel)))))), by decide +kernel⟩
theorem wt_J2_checkIndex_2214a : Cond.static yJ2_checkIndex_2214a ∈ XT := List.mem_filter.mpr ⟨(List.mem_append_right _ (List.mem_append_right _ (List.mem_append_right _ (List.mem_append_left _ (List.mem_of_getElem? (i := 50) (by decide +kernel)))))), by decide +kernel⟩
theorem wc_J2_checkIndex_2214a : Cond.code yJ2_checkIndex_2214a cJ2_checkIndex_2214a 2 (none) ∈ XT := List.mem_filter.mpr ⟨(List.mem_append_right _ (List.mem_append_right _ (List.mem_append_right _ (List.mem_append_left _ (List.mem_of_getElem? (i := 51) (by decide +kernel)))))), by decide +kernel⟩
theorem wl_J2_48 : Cond.methodLink RJ2 48 yJ2_length_9d52b ∈ XT := List.mem_filter.mpr ⟨(List.mem_append_right _ (List.mem_append_right _ (List.mem_append_right _ (List.mem_append_left _ (List.mem_of_getElem? (i := 52) (by decide +kernel)))))), by decide +kernel⟩
theorem wt_J2_length_9d52b : Cond.static yJ2_length_9d52b ∈ XT := List.mem_filter.mpr ⟨(List.mem_append_right _ (List.mem_append_right _ (List.mem_append_right _ (List.mem_append_left _ (List.mem_of_getElem? (i := 53) (by decide +kernel)))))), by decide +kernel⟩
theorem wc_J2_length_9d52b : Cond.code yJ2_length_9d52b cJ2_length_9d52b 1 (some FieldType.int) ∈ XT := List.mem_filter.mpr ⟨(List.mem_append_right _ (List.mem_append_right _ (List.mem_append_right _ (List.mem_append_left _ (List.mem_of_getElem? (i := 54) (by decide +kernel)))))), by decide +kernel⟩
theorem wl_J2_414 : Cond.methodLink RJ2 414 yJ0_checkIndex_df160 ∈ XT := List.mem_filter.mpr ⟨(List.mem_append_right _ (List.mem_append_right _ (List.mem_append_right _ (List.mem_append_left _ (List.mem_of_getElem? (i := 55) (by decide +kernel)))))), by decide +kernel⟩
theorem wl_J2_71 : Cond.methodLink RJ2 71 yJ2_getChar_3b067 ∈ XT := List.mem_filter.mpr ⟨(List.mem_append_right _ (List.mem_append_right _ (List.mem_append_right _ (List.mem_append_left _ (List.mem_of_getElem? (i := 56) (by decide +kernel)))))), by decide +kernel⟩
theorem wt_J2_getChar_3b067 : Cond.static yJ2_getChar_3b067 ∈ XT := List.mem_filter.mpr ⟨(List.mem_append_right _ (List.mem_append_right _ (List.mem_append_right _ (List.mem_append_left _ (List.mem_of_getElem? (i := 57) (by decide +kernel)))))), by decide +kernel⟩
theorem wc_J2_getChar_3b067 : Cond.code yJ2_getChar_3b067 cJ2_getChar_3b067 2 (some FieldType.char) ∈ XT := List.mem_filter.mpr ⟨(List.mem_append_right _ (List.mem_append_right _ (List.mem_append_right _ (List.mem_append_left _ (List.mem_of_getElem? (i := 58) (by decide +kernel)))))), by decide +kernel⟩
theorem wf_J2_44 : Cond.fieldLink RJ2 44 "java/lang/StringUTF16" "$assertionsDisabled" "Z" ∈ XT := List.mem_filter.mpr ⟨(List.mem_append_right _ (List.mem_append_right _ (List.mem_append_right _ (List.mem_append_left _ (List.mem_of_getElem? (i := 59) (by decide +kernel)))))), by decide +kernel⟩
theorem wf_J2_59 : Cond.fieldLink RJ2 59 "java/lang/StringUTF16" "HI_BYTE_SHIFT" "I" ∈ XT := List.mem_filter.mpr ⟨(List.mem_append_right _ (List.mem_append_right _ (List.mem_append_right _ (List.mem_append_left _ (List.mem_of_getElem? (i := 61) (by decide +kernel)))))), by decide +kernel⟩
theorem wf_J2_63 : Cond.fieldLink RJ2 63 "java/lang/StringUTF16" "LO_BYTE_SHIFT" "I" ∈ XT := List.mem_filter.mpr ⟨(List.mem_append_right _ (List.mem_append_right _ (List.mem_append_right _ (List.mem_append_left _ (List.mem_of_getElem? (i := 63) (by decide +kernel)))))), by decide +kernel⟩
theorem wl_X2_76 : Cond.methodLink RX2 76 yX2_isCharacter ∈ XT := List.mem_filter.mpr ⟨(List.mem_append_right _ (List.mem_append_right _ (List.mem_append_right _ (List.mem_append_left _ (List.mem_of_getElem? (i := 65) (by decide +kernel)))))), by decide +kernel⟩
theorem wi_X2_isCharacter : Cond.instanceMethod yX2_isCharacter ∈ XT := List.mem_filter.mpr ⟨(List.mem_append_right _ (List.mem_append_right _ (List.mem_append_right _ (List.mem_append_left _ (List.mem_of_getElem? (i := 67) (by decide +kernel)))))), by decide +kernel⟩
theorem wc_X2_isCharacter : Cond.code yX2_isCharacter cX2_isCharacter 3 (some FieldType.boolean) ∈ XT := List.mem_filter.mpr ⟨(List.mem_append_right _ (List.mem_append_right _ (List.mem_append_right _ (List.mem_append_left _ (List.mem_of_getElem? (i := 68) (by decide +kernel)))))), by decide +kernel⟩
theorem wl_X2_94 : Cond.methodLink RX2 94 yJ9_min_7cf53 ∈ XT := List.mem_filter.mpr ⟨(List.mem_append_right _ (List.mem_append_right _ (List.mem_append_right _ (List.mem_append_left _ (List.mem_of_getElem? (i := 69) (by decide +kernel)))))), by decide +kernel⟩
theorem wl_X2_61 : Cond.methodLink RX2 61 yJ9_max_7cf53 ∈ XT := List.mem_filter.mpr ⟨(List.mem_append_right _ (List.mem_append_right _ (List.mem_append_right _ (List.mem_append_left _ (List.mem_of_getElem? (i := 70) (by decide +kernel)))))), by decide +kernel⟩
theorem wl_X2_46 : Cond.methodLink RX2 46 yX2_readNumbers ∈ XT := List.mem_filter.mpr ⟨(List.mem_append_right _ (List.mem_append_right _ (List.mem_append_right _ (List.mem_append_left _ (List.mem_of_getElem? (i := 71) (by decide +kernel)))))), by decide +kernel⟩
theorem wi_X2_readNumbers : Cond.instanceMethod yX2_readNumbers ∈ XT := List.mem_filter.mpr ⟨(List.mem_append_right _ (List.mem_append_right _ (List.mem_append_right _ (List.mem_append_left _ (List.mem_of_getElem? (i := 73) (by decide +kernel)))))), by decide +kernel⟩
theorem wc_X2_readNumbers : Cond.code yX2_readNumbers cX2_readNumbers 3 (some FieldType.boolean) ∈ XT := List.mem_filter.mpr ⟨(List.mem_append_right _ (List.mem_append_right _ (List.mem_append_right _ (List.mem_append_left _ (List.mem_of_getElem? (i := 74) (by decide +kernel)))))), by decide +kernel⟩
theorem wl_X2_80 : Cond.methodLink RX2 80 yX2_readNumber ∈ XT := List.mem_filter.mpr ⟨(List.mem_append_right _ (List.mem_append_right _ (List.mem_append_right _ (List.mem_append_left _ (List.mem_of_getElem? (i := 75) (by decide +kernel)))))), by decide +kernel⟩
theorem wi_X2_readNumber : Cond.instanceMethod yX2_readNumber ∈ XT := List.mem_filter.mpr ⟨(List.mem_append_right _ (List.mem_append_right _ (List.mem_append_right _ (List.mem_append_left _ (List.mem_of_getElem? (i := 77) (by decide +kernel)))))), by decide +kernel⟩
theorem wc_X2_readNumber : Cond.code yX2_readNumber cX2_readNumber 6 (some FieldType.boolean) ∈ XT := List.mem_filter.mpr ⟨(List.mem_append_right _ (List.mem_append_right _ (List.mem_append_right _ (List.mem_append_left _ (List.mem_of_getElem? (i := 78) (by decide +kernel)))))), by decide +kernel⟩
theorem wl_X2_49 : Cond.methodLink RX2 49 yX2_skip ∈ XT := List.mem_filter.mpr ⟨(List.mem_append_right _ (List.mem_append_right _ (List.mem_append_right _ (List.mem_append_left _ (List.mem_of_getElem? (i := 79) (by decide +kernel)))))), by decide +kernel⟩
theorem wi_X2_skip : Cond.instanceMethod yX2_skip ∈ XT := List.mem_filter.mpr ⟨(List.mem_append_right _ (List.mem_append_right _ (List.mem_append_right _ (List.mem_append_left _ (List.mem_of_getElem? (i := 81) (by decide +kernel)))))), by decide +kernel⟩
theorem wc_X2_skip : Cond.code yX2_skip cX2_skip 2 (some FieldType.boolean) ∈ XT := List.mem_filter.mpr ⟨(List.mem_append_right _ (List.mem_append_right _ (List.mem_append_right _ (List.mem_append_left _ (List.mem_of_getElem? (i := 82) (by decide +kernel)))))), by decide +kernel⟩
theorem wl_X2_84 : Cond.methodLink RX2 84 yX2_mostOf ∈ XT := List.mem_filter.mpr ⟨(List.mem_append_right _ (List.mem_append_right _ (List.mem_append_right _ (List.mem_append_left _ (List.mem_of_getElem? (i := 83) (by decide +kernel)))))), by decide +kernel⟩
theorem wi_X2_mostOf : Cond.instanceMethod yX2_mostOf ∈ XT := List.mem_filter.mpr ⟨(List.mem_append_right _ (List.mem_append_right _ (List.mem_append_right _ (List.mem_append_left _ (List.mem_of_getElem? (i := 85) (by decide +kernel)))))), by decide +kernel⟩
theorem wc_X2_mostOf : Cond.code yX2_mostOf cX2_mostOf 2 (some FieldType.int) ∈ XT := List.mem_filter.mpr ⟨(List.mem_append_right _ (List.mem_append_right _ (List.mem_append_right _ (List.mem_append_left _ (List.mem_of_getElem? (i := 86) (by decide +kernel)))))), by decide +kernel⟩
theorem wl_X2_88 : Cond.methodLink RX2 88 yX2_digitHere ∈ XT := List.mem_filter.mpr ⟨(List.mem_append_right _ (List.mem_append_right _ (List.mem_append_right _ (List.mem_append_left _ (List.mem_of_getElem? (i := 87) (by decide +kernel)))))), by decide +kernel⟩
theorem wi_X2_digitHere : Cond.instanceMethod yX2_digitHere ∈ XT := List.mem_filter.mpr ⟨(List.mem_append_right _ (List.mem_append_right _ (List.mem_append_right _ (List.mem_append_left _ (List.mem_of_getElem? (i := 89) (by decide +kernel)))))), by decide +kernel⟩
theorem wc_X2_digitHere : Cond.code yX2_digitHere cX2_digitHere 1 (some FieldType.int) ∈ XT := List.mem_filter.mpr ⟨(List.mem_append_right _ (List.mem_append_right _ (List.mem_append_right _ (List.mem_append_left _ (List.mem_of_getElem? (i := 90) (by decide +kernel)))))), by decide +kernel⟩
theorem wl_X2_91 : Cond.methodLink RX2 91 yX2_leastOf ∈ XT := List.mem_filter.mpr ⟨(List.mem_append_right _ (List.mem_append_right _ (List.mem_append_right _ (List.mem_append_left _ (List.mem_of_getElem? (i := 91) (by decide +kernel)))))), by decide +kernel⟩
theorem wi_X2_leastOf : Cond.instanceMethod yX2_leastOf ∈ XT := List.mem_filter.mpr ⟨(List.mem_append_right _ (List.mem_append_right _ (List.mem_append_right _ (List.mem_append_left _ (List.mem_of_getElem? (i := 93) (by decide +kernel)))))), by decide +kernel⟩
theorem wc_X2_leastOf : Cond.code yX2_leastOf cX2_leastOf 3 (some FieldType.int) ∈ XT := List.mem_filter.mpr ⟨(List.mem_append_right _ (List.mem_append_right _ (List.mem_append_right _ (List.mem_append_left _ (List.mem_of_getElem? (i := 94) (by decide +kernel)))))), by decide +kernel⟩
theorem wl_X2_40 : Cond.methodLink RX2 40 yX2_skipSeparator ∈ XT := List.mem_filter.mpr ⟨(List.mem_append_right _ (List.mem_append_right _ (List.mem_append_right _ (List.mem_append_left _ (List.mem_of_getElem? (i := 95) (by decide +kernel)))))), by decide +kernel⟩
theorem wi_X2_skipSeparator : Cond.instanceMethod yX2_skipSeparator ∈ XT := List.mem_filter.mpr ⟨(List.mem_append_right _ (List.mem_append_right _ (List.mem_append_right _ (List.mem_append_left _ (List.mem_of_getElem? (i := 96) (by decide +kernel)))))), by decide +kernel⟩
theorem ws_X2_skipSeparator : Cond.selects RX2 yX2_skipSeparator yX2_skipSeparator ∈ XT := List.mem_filter.mpr ⟨(List.mem_append_right _ (List.mem_append_right _ (List.mem_append_right _ (List.mem_append_left _ (List.mem_of_getElem? (i := 97) (by decide +kernel)))))), by decide +kernel⟩
theorem wc_X2_skipSeparator : Cond.code yX2_skipSeparator cX2_skipSeparator 1 (some FieldType.boolean) ∈ XT := List.mem_filter.mpr ⟨(List.mem_append_right _ (List.mem_append_right _ (List.mem_append_right _ (List.mem_append_left _ (List.mem_of_getElem? (i := 98) (by decide +kernel)))))), by decide +kernel⟩
theorem wl_X5_82 : Cond.methodLink RX5 82 yX2_rewind ∈ XT := List.mem_filter.mpr ⟨(List.mem_append_right _ (List.mem_append_right _ (List.mem_append_right _ (List.mem_append_left _ (List.mem_of_getElem? (i := 99) (by decide +kernel)))))), by decide +kernel⟩
theorem wl_X5_85 : Cond.methodLink RX5 85 yX2_readOrder ∈ XT := List.mem_filter.mpr ⟨(List.mem_append_right _ (List.mem_append_right _ (List.mem_append_right _ (List.mem_append_left _ (List.mem_of_getElem? (i := 100) (by decide +kernel)))))), by decide +kernel⟩
theorem wl_X5_89 : Cond.methodLink RX5 89 yX2_skipSeparator ∈ XT := List.mem_filter.mpr ⟨(List.mem_append_right _ (List.mem_append_right _ (List.mem_append_right _ (List.mem_append_left _ (List.mem_of_getElem? (i := 101) (by decide +kernel)))))), by decide +kernel⟩
theorem wl_X5_92 : Cond.methodLink RX5 92 yX5_carryOutOrder ∈ XT := List.mem_filter.mpr ⟨(List.mem_append_right _ (List.mem_append_right _ (List.mem_append_right _ (List.mem_append_left _ (List.mem_of_getElem? (i := 102) (by decide +kernel)))))), by decide +kernel⟩
theorem wi_X5_carryOutOrder : Cond.instanceMethod yX5_carryOutOrder ∈ XT := List.mem_filter.mpr ⟨(List.mem_append_right _ (List.mem_append_right _ (List.mem_append_right _ (List.mem_append_left _ (List.mem_of_getElem? (i := 104) (by decide +kernel)))))), by decide +kernel⟩
theorem wc_X5_carryOutOrder : Cond.code yX5_carryOutOrder cX5_carryOutOrder 3 (some FieldType.int) ∈ XT := List.mem_filter.mpr ⟨(List.mem_append_right _ (List.mem_append_right _ (List.mem_append_right _ (List.mem_append_left _ (List.mem_of_getElem? (i := 105) (by decide +kernel)))))), by decide +kernel⟩
theorem wl_X5_236 : Cond.methodLink RX5 236 yX2_number ∈ XT := List.mem_filter.mpr ⟨(List.mem_append_right _ (List.mem_append_right _ (List.mem_append_right _ (List.mem_append_left _ (List.mem_of_getElem? (i := 106) (by decide +kernel)))))), by decide +kernel⟩
theorem wi_X2_number : Cond.instanceMethod yX2_number ∈ XT := List.mem_filter.mpr ⟨(List.mem_append_right _ (List.mem_append_right _ (List.mem_append_right _ (List.mem_append_left _ (List.mem_of_getElem? (i := 107) (by decide +kernel)))))), by decide +kernel⟩
theorem ws_X2_number : Cond.selects RX2 yX2_number yX2_number ∈ XT := List.mem_filter.mpr ⟨(List.mem_append_right _ (List.mem_append_right _ (List.mem_append_right _ (List.mem_append_left _ (List.mem_of_getElem? (i := 108) (by decide +kernel)))))), by decide +kernel⟩
theorem wc_X2_number : Cond.code yX2_number cX2_number 2 (some FieldType.int) ∈ XT := List.mem_filter.mpr ⟨(List.mem_append_right _ (List.mem_append_right _ (List.mem_append_right _ (List.mem_append_left _ (List.mem_of_getElem? (i := 109) (by decide +kernel)))))), by decide +kernel⟩
theorem wa_byte : Cond.arrayClass FieldType.byte ∈ XT := List.mem_filter.mpr ⟨(List.mem_append_right _ (List.mem_append_right _ (List.mem_append_right _ (List.mem_append_left _ (List.mem_of_getElem? (i := 110) (by decide +kernel)))))), by decide +kernel⟩
theorem wl_L_58 : Cond.methodLink RL 58 yX5_stopped ∈ XT := List.mem_filter.mpr ⟨(List.mem_append_right _ (List.mem_append_right _ (List.mem_append_right _ (List.mem_append_left _ (List.mem_of_getElem? (i := 111) (by decide +kernel)))))), by decide +kernel⟩
theorem wi_X5_stopped : Cond.instanceMethod yX5_stopped ∈ XT := List.mem_filter.mpr ⟨(List.mem_append_right _ (List.mem_append_right _ (List.mem_append_right _ (List.mem_append_left _ (List.mem_of_getElem? (i := 112) (by decide +kernel)))))), by decide +kernel⟩
theorem ws_X5_stopped : Cond.selects RX5 yX5_stopped yX5_stopped ∈ XT := List.mem_filter.mpr ⟨(List.mem_append_right _ (List.mem_append_right _ (List.mem_append_right _ (List.mem_append_left _ (List.mem_of_getElem? (i := 113) (by decide +kernel)))))), by decide +kernel⟩
theorem wc_X5_stopped : Cond.code yX5_stopped cX5_stopped 2 (some FieldType.int) ∈ XT := List.mem_filter.mpr ⟨(List.mem_append_right _ (List.mem_append_right _ (List.mem_append_right _ (List.mem_append_left _ (List.mem_of_getElem? (i := 114) (by decide +kernel)))))), by decide +kernel⟩
theorem wl_L_62 : Cond.methodLink RL 62 yX5_undo ∈ XT := List.mem_filter.mpr ⟨(List.mem_append_right _ (List.mem_append_right _ (List.mem_append_right _ (List.mem_append_left _ (List.mem_of_getElem? (i := 115) (by decide +kernel)))))), by decide +kernel⟩
theorem wi_X5_undo : Cond.instanceMethod yX5_undo ∈ XT := List.mem_filter.mpr ⟨(List.mem_append_right _ (List.mem_append_right _ (List.mem_append_right _ (List.mem_append_left _ (List.mem_of_getElem? (i := 116) (by decide +kernel)))))), by decide +kernel⟩
theorem ws_X5_undo : Cond.selects RX5 yX5_undo yX5_undo ∈ XT := List.mem_filter.mpr ⟨(List.mem_append_right _ (List.mem_append_right _ (List.mem_append_right _ (List.mem_append_left _ (List.mem_of_getElem? (i := 117) (by decide +kernel)))))), by decide +kernel⟩
theorem wc_X5_undo : Cond.code yX5_undo cX5_undo 1 (some FieldType.int) ∈ XT := List.mem_filter.mpr ⟨(List.mem_append_right _ (List.mem_append_right _ (List.mem_append_right _ (List.mem_append_left _ (List.mem_of_getElem? (i := 118) (by decide +kernel)))))), by decide +kernel⟩
theorem wl_L_66 : Cond.methodLink RL 66 yX5_keep ∈ XT := List.mem_filter.mpr ⟨(List.mem_append_right _ (List.mem_append_right _ (List.mem_append_right _ (List.mem_append_left _ (List.mem_of_getElem? (i := 119) (by decide +kernel)))))), by decide +kernel⟩
theorem wi_X5_keep : Cond.instanceMethod yX5_keep ∈ XT := List.mem_filter.mpr ⟨(List.mem_append_right _ (List.mem_append_right _ (List.mem_append_right _ (List.mem_append_left _ (List.mem_of_getElem? (i := 120) (by decide +kernel)))))), by decide +kernel⟩
theorem ws_X5_keep : Cond.selects RX5 yX5_keep yX5_keep ∈ XT := List.mem_filter.mpr ⟨(List.mem_append_right _ (List.mem_append_right _ (List.mem_append_right _ (List.mem_append_left _ (List.mem_of_getElem? (i := 121) (by decide +kernel)))))), by decide +kernel⟩
theorem wc_X5_keep : Cond.code yX5_keep cX5_keep 1 (some FieldType.int) ∈ XT := List.mem_filter.mpr ⟨(List.mem_append_right _ (List.mem_append_right _ (List.mem_append_right _ (List.mem_append_left _ (List.mem_of_getElem? (i := 122) (by decide +kernel)))))), by decide +kernel⟩
theorem wl_L_70 : Cond.methodLink RL 70 yX5_restore ∈ XT := List.mem_filter.mpr ⟨(List.mem_append_right _ (List.mem_append_right _ (List.mem_append_right _ (List.mem_append_left _ (List.mem_of_getElem? (i := 123) (by decide +kernel)))))), by decide +kernel⟩
theorem wi_X5_restore : Cond.instanceMethod yX5_restore ∈ XT := List.mem_filter.mpr ⟨(List.mem_append_right _ (List.mem_append_right _ (List.mem_append_right _ (List.mem_append_left _ (List.mem_of_getElem? (i := 124) (by decide +kernel)))))), by decide +kernel⟩
theorem ws_X5_restore : Cond.selects RX5 yX5_restore yX5_restore ∈ XT := List.mem_filter.mpr ⟨(List.mem_append_right _ (List.mem_append_right _ (List.mem_append_right _ (List.mem_append_left _ (List.mem_of_getElem? (i := 125) (by decide +kernel)))))), by decide +kernel⟩
theorem wc_X5_restore : Cond.code yX5_restore cX5_restore 1 (some FieldType.int) ∈ XT := List.mem_filter.mpr ⟨(List.mem_append_right _ (List.mem_append_right _ (List.mem_append_right _ (List.mem_append_left _ (List.mem_of_getElem? (i := 126) (by decide +kernel)))))), by decide +kernel⟩
theorem wl_L_74 : Cond.methodLink RL 74 yX5_speaker ∈ XT := List.mem_filter.mpr ⟨(List.mem_append_right _ (List.mem_append_right _ (List.mem_append_right _ (List.mem_append_left _ (List.mem_of_getElem? (i := 127) (by decide +kernel)))))), by decide +kernel⟩
theorem wi_X5_speaker : Cond.instanceMethod yX5_speaker ∈ XT := List.mem_filter.mpr ⟨(List.mem_append_right _ (List.mem_append_right _ (List.mem_append_right _ (List.mem_append_left _ (List.mem_of_getElem? (i := 128) (by decide +kernel)))))), by decide +kernel⟩
theorem ws_X5_speaker : Cond.selects RX5 yX5_speaker yX5_speaker ∈ XT := List.mem_filter.mpr ⟨(List.mem_append_right _ (List.mem_append_right _ (List.mem_append_right _ (List.mem_append_left _ (List.mem_of_getElem? (i := 129) (by decide +kernel)))))), by decide +kernel⟩
theorem wc_X5_speaker : Cond.code yX5_speaker cX5_speaker 4 (some FieldType.int) ∈ XT := List.mem_filter.mpr ⟨(List.mem_append_right _ (List.mem_append_right _ (List.mem_append_right _ (List.mem_append_left _ (List.mem_of_getElem? (i := 130) (by decide +kernel)))))), by decide +kernel⟩
theorem wl_X5_105 : Cond.methodLink RX5 105 yX4_speakerAt ∈ XT := List.mem_filter.mpr ⟨(List.mem_append_right _ (List.mem_append_right _ (List.mem_append_right _ (List.mem_append_left _ (List.mem_of_getElem? (i := 131) (by decide +kernel)))))), by decide +kernel⟩
theorem wl_L_78 : Cond.methodLink RL 78 yX5_message ∈ XT := List.mem_filter.mpr ⟨(List.mem_append_right _ (List.mem_append_right _ (List.mem_append_right _ (List.mem_append_left _ (List.mem_of_getElem? (i := 132) (by decide +kernel)))))), by decide +kernel⟩
theorem wi_X5_message : Cond.instanceMethod yX5_message ∈ XT := List.mem_filter.mpr ⟨(List.mem_append_right _ (List.mem_append_right _ (List.mem_append_right _ (List.mem_append_left _ (List.mem_of_getElem? (i := 133) (by decide +kernel)))))), by decide +kernel⟩
theorem ws_X5_message : Cond.selects RX5 yX5_message yX5_message ∈ XT := List.mem_filter.mpr ⟨(List.mem_append_right _ (List.mem_append_right _ (List.mem_append_right _ (List.mem_append_left _ (List.mem_of_getElem? (i := 134) (by decide +kernel)))))), by decide +kernel⟩
theorem wc_X5_message : Cond.code yX5_message cX5_message 5 (some FieldType.int) ∈ XT := List.mem_filter.mpr ⟨(List.mem_append_right _ (List.mem_append_right _ (List.mem_append_right _ (List.mem_append_left _ (List.mem_of_getElem? (i := 135) (by decide +kernel)))))), by decide +kernel⟩
theorem wl_X5_132 : Cond.methodLink RX5 132 yX5_isIndex ∈ XT := List.mem_filter.mpr ⟨(List.mem_append_right _ (List.mem_append_right _ (List.mem_append_right _ (List.mem_append_left _ (List.mem_of_getElem? (i := 136) (by decide +kernel)))))), by decide +kernel⟩
theorem wl_X5_136 : Cond.methodLink RX5 136 yX3_part ∈ XT := List.mem_filter.mpr ⟨(List.mem_append_right _ (List.mem_append_right _ (List.mem_append_right _ (List.mem_append_left _ (List.mem_of_getElem? (i := 137) (by decide +kernel)))))), by decide +kernel⟩
theorem wl_X5_139 : Cond.methodLink RX5 139 yX3_partsAt ∈ XT := List.mem_filter.mpr ⟨(List.mem_append_right _ (List.mem_append_right _ (List.mem_append_right _ (List.mem_append_left _ (List.mem_of_getElem? (i := 138) (by decide +kernel)))))), by decide +kernel⟩
theorem wl_X5_142 : Cond.methodLink RX5 142 yX4_holdFor ∈ XT := List.mem_filter.mpr ⟨(List.mem_append_right _ (List.mem_append_right _ (List.mem_append_right _ (List.mem_append_left _ (List.mem_of_getElem? (i := 139) (by decide +kernel)))))), by decide +kernel⟩
theorem wl_L_83 : Cond.methodLink RL 83 yX5_listener ∈ XT := List.mem_filter.mpr ⟨(List.mem_append_right _ (List.mem_append_right _ (List.mem_append_right _ (List.mem_append_left _ (List.mem_of_getElem? (i := 140) (by decide +kernel)))))), by decide +kernel⟩
theorem wi_X5_listener : Cond.instanceMethod yX5_listener ∈ XT := List.mem_filter.mpr ⟨(List.mem_append_right _ (List.mem_append_right _ (List.mem_append_right _ (List.mem_append_left _ (List.mem_of_getElem? (i := 141) (by decide +kernel)))))), by decide +kernel⟩
theorem ws_X5_listener : Cond.selects RX5 yX5_listener yX5_listener ∈ XT := List.mem_filter.mpr ⟨(List.mem_append_right _ (List.mem_append_right _ (List.mem_append_right _ (List.mem_append_left _ (List.mem_of_getElem? (i := 142) (by decide +kernel)))))), by decide +kernel⟩
theorem wc_X5_listener : Cond.code yX5_listener cX5_listener 4 (some FieldType.int) ∈ XT := List.mem_filter.mpr ⟨(List.mem_append_right _ (List.mem_append_right _ (List.mem_append_right _ (List.mem_append_left _ (List.mem_of_getElem? (i := 143) (by decide +kernel)))))), by decide +kernel⟩
theorem wl_X5_145 : Cond.methodLink RX5 145 yX4_listenerAt ∈ XT := List.mem_filter.mpr ⟨(List.mem_append_right _ (List.mem_append_right _ (List.mem_append_right _ (List.mem_append_left _ (List.mem_of_getElem? (i := 144) (by decide +kernel)))))), by decide +kernel⟩
theorem wl_L_87 : Cond.methodLink RL 87 yX5_bit ∈ XT := List.mem_filter.mpr ⟨(List.mem_append_right _ (List.mem_append_right _ (List.mem_append_right _ (List.mem_append_left _ (List.mem_of_getElem? (i := 145) (by decide +kernel)))))), by decide +kernel⟩
theorem wi_X5_bit : Cond.instanceMethod yX5_bit ∈ XT := List.mem_filter.mpr ⟨(List.mem_append_right _ (List.mem_append_right _ (List.mem_append_right _ (List.mem_append_left _ (List.mem_of_getElem? (i := 146) (by decide +kernel)))))), by decide +kernel⟩
theorem ws_X5_bit : Cond.selects RX5 yX5_bit yX5_bit ∈ XT := List.mem_filter.mpr ⟨(List.mem_append_right _ (List.mem_append_right _ (List.mem_append_right _ (List.mem_append_left _ (List.mem_of_getElem? (i := 147) (by decide +kernel)))))), by decide +kernel⟩
theorem wc_X5_bit : Cond.code yX5_bit cX5_bit 3 (some FieldType.int) ∈ XT := List.mem_filter.mpr ⟨(List.mem_append_right _ (List.mem_append_right _ (List.mem_append_right _ (List.mem_append_left _ (List.mem_of_getElem? (i := 148) (by decide +kernel)))))), by decide +kernel⟩
theorem wl_X5_170 : Cond.methodLink RX5 170 yX0_tell ∈ XT := List.mem_filter.mpr ⟨(List.mem_append_right _ (List.mem_append_right _ (List.mem_append_right _ (List.mem_append_left _ (List.mem_of_getElem? (i := 149) (by decide +kernel)))))), by decide +kernel⟩
theorem wi_X0_tell : Cond.instanceMethod yX0_tell ∈ XT := List.mem_filter.mpr ⟨(List.mem_append_right _ (List.mem_append_right _ (List.mem_append_right _ (List.mem_append_left _ (List.mem_of_getElem? (i := 150) (by decide +kernel)))))), by decide +kernel⟩
theorem ws_X0_tell : Cond.selects RX0 yX0_tell yX0_tell ∈ XT := List.mem_filter.mpr ⟨(List.mem_append_right _ (List.mem_append_right _ (List.mem_append_right _ (List.mem_append_left _ (List.mem_of_getElem? (i := 151) (by decide +kernel)))))), by decide +kernel⟩
theorem wc_X0_tell : Cond.code yX0_tell cX0_tell 3 (some FieldType.int) ∈ XT := List.mem_filter.mpr ⟨(List.mem_append_right _ (List.mem_append_right _ (List.mem_append_right _ (List.mem_append_left _ (List.mem_of_getElem? (i := 152) (by decide +kernel)))))), by decide +kernel⟩
theorem wl_X0_37 : Cond.methodLinkNest RX0 37 yX5_isIndex "PulledWires" ∈ xNW := List.mem_filter.mpr ⟨(List.mem_append_right _ (List.mem_append_right _ (List.mem_append_right _ (List.mem_append_left _ (List.mem_of_getElem? (i := 153) (by decide +kernel)))))), rfl⟩
theorem wl_L_91 : Cond.methodLink RL 91 yX5_winners ∈ XT := List.mem_filter.mpr ⟨(List.mem_append_right _ (List.mem_append_right _ (List.mem_append_right _ (List.mem_append_left _ (List.mem_of_getElem? (i := 154) (by decide +kernel)))))), by decide +kernel⟩
theorem wi_X5_winners : Cond.instanceMethod yX5_winners ∈ XT := List.mem_filter.mpr ⟨(List.mem_append_right _ (List.mem_append_right _ (List.mem_append_right _ (List.mem_append_left _ (List.mem_of_getElem? (i := 155) (by decide +kernel)))))), by decide +kernel⟩
theorem ws_X5_winners : Cond.selects RX5 yX5_winners yX5_winners ∈ XT := List.mem_filter.mpr ⟨(List.mem_append_right _ (List.mem_append_right _ (List.mem_append_right _ (List.mem_append_left _ (List.mem_of_getElem? (i := 156) (by decide +kernel)))))), by decide +kernel⟩
theorem wc_X5_winners : Cond.code yX5_winners cX5_winners 5 (some FieldType.int) ∈ XT := List.mem_filter.mpr ⟨(List.mem_append_right _ (List.mem_append_right _ (List.mem_append_right _ (List.mem_append_left _ (List.mem_of_getElem? (i := 157) (by decide +kernel)))))), by decide +kernel⟩
theorem wl_X5_175 : Cond.methodLink RX5 175 yX4_speakersWithMessage ∈ XT := List.mem_filter.mpr ⟨(List.mem_append_right _ (List.mem_append_right _ (List.mem_append_right _ (List.mem_append_left _ (List.mem_of_getElem? (i := 158) (by decide +kernel)))))), by decide +kernel⟩
theorem wl_X5_178 : Cond.methodLink RX5 178 yX5_isPlace ∈ XT := List.mem_filter.mpr ⟨(List.mem_append_right _ (List.mem_append_right _ (List.mem_append_right _ (List.mem_append_left _ (List.mem_of_getElem? (i := 159) (by decide +kernel)))))), by decide +kernel⟩
theorem wl_X5_182 : Cond.methodLink RX5 182 yX4_endingAt ∈ XT := List.mem_filter.mpr ⟨(List.mem_append_right _ (List.mem_append_right _ (List.mem_append_right _ (List.mem_append_left _ (List.mem_of_getElem? (i := 160) (by decide +kernel)))))), by decide +kernel⟩
theorem wi_X4_endingAt : Cond.instanceMethod yX4_endingAt ∈ XT := List.mem_filter.mpr ⟨(List.mem_append_right _ (List.mem_append_right _ (List.mem_append_right _ (List.mem_append_left _ (List.mem_of_getElem? (i := 161) (by decide +kernel)))))), by decide +kernel⟩
theorem ws_X4_endingAt : Cond.selects RX4 yX4_endingAt yX4_endingAt ∈ XT := List.mem_filter.mpr ⟨(List.mem_append_right _ (List.mem_append_right _ (List.mem_append_right _ (List.mem_append_left _ (List.mem_of_getElem? (i := 162) (by decide +kernel)))))), by decide +kernel⟩
theorem wc_X4_endingAt : Cond.code yX4_endingAt cX4_endingAt 5 (some FieldType.int) ∈ XT := List.mem_filter.mpr ⟨(List.mem_append_right _ (List.mem_append_right _ (List.mem_append_right _ (List.mem_append_left _ (List.mem_of_getElem? (i := 163) (by decide +kernel)))))), by decide +kernel⟩
theorem wl_X5_185 : Cond.methodLink RX5 185 yX4_sendersOf ∈ XT := List.mem_filter.mpr ⟨(List.mem_append_right _ (List.mem_append_right _ (List.mem_append_right _ (List.mem_append_left _ (List.mem_of_getElem? (i := 164) (by decide +kernel)))))), by decide +kernel⟩
theorem wl_L_95 : Cond.methodLink RL 95 yX5_emptyIn ∈ XT := List.mem_filter.mpr ⟨(List.mem_append_right _ (List.mem_append_right _ (List.mem_append_right _ (List.mem_append_left _ (List.mem_of_getElem? (i := 165) (by decide +kernel)))))), by decide +kernel⟩
theorem wi_X5_emptyIn : Cond.instanceMethod yX5_emptyIn ∈ XT := List.mem_filter.mpr ⟨(List.mem_append_right _ (List.mem_append_right _ (List.mem_append_right _ (List.mem_append_left _ (List.mem_of_getElem? (i := 166) (by decide +kernel)))))), by decide +kernel⟩
theorem ws_X5_emptyIn : Cond.selects RX5 yX5_emptyIn yX5_emptyIn ∈ XT := List.mem_filter.mpr ⟨(List.mem_append_right _ (List.mem_append_right _ (List.mem_append_right _ (List.mem_append_left _ (List.mem_of_getElem? (i := 167) (by decide +kernel)))))), by decide +kernel⟩
theorem wc_X5_emptyIn : Cond.code yX5_emptyIn cX5_emptyIn 2 (some FieldType.int) ∈ XT := List.mem_filter.mpr ⟨(List.mem_append_right _ (List.mem_append_right _ (List.mem_append_right _ (List.mem_append_left _ (List.mem_of_getElem? (i := 168) (by decide +kernel)))))), by decide +kernel⟩
theorem wl_X5_189 : Cond.methodLink RX5 189 yX4_messagesInLines ∈ XT := List.mem_filter.mpr ⟨(List.mem_append_right _ (List.mem_append_right _ (List.mem_append_right _ (List.mem_append_left _ (List.mem_of_getElem? (i := 169) (by decide +kernel)))))), by decide +kernel⟩
theorem wi_X4_messagesInLines : Cond.instanceMethod yX4_messagesInLines ∈ XT := List.mem_filter.mpr ⟨(List.mem_append_right _ (List.mem_append_right _ (List.mem_append_right _ (List.mem_append_left _ (List.mem_of_getElem? (i := 170) (by decide +kernel)))))), by decide +kernel⟩
theorem ws_X4_messagesInLines : Cond.selects RX4 yX4_messagesInLines yX4_messagesInLines ∈ XT := List.mem_filter.mpr ⟨(List.mem_append_right _ (List.mem_append_right _ (List.mem_append_right _ (List.mem_append_left _ (List.mem_of_getElem? (i := 171) (by decide +kernel)))))), by decide +kernel⟩
theorem wc_X4_messagesInLines : Cond.code yX4_messagesInLines cX4_messagesInLines 6 (some FieldType.int) ∈ XT := List.mem_filter.mpr ⟨(List.mem_append_right _ (List.mem_append_right _ (List.mem_append_right _ (List.mem_append_left _ (List.mem_of_getElem? (i := 172) (by decide +kernel)))))), by decide +kernel⟩
theorem wl_X5_192 : Cond.methodLink RX5 192 yX4_tick ∈ XT := List.mem_filter.mpr ⟨(List.mem_append_right _ (List.mem_append_right _ (List.mem_append_right _ (List.mem_append_left _ (List.mem_of_getElem? (i := 173) (by decide +kernel)))))), by decide +kernel⟩
theorem wl_L_99 : Cond.methodLink RL 99 yX5_ifRun ∈ XT := List.mem_filter.mpr ⟨(List.mem_append_right _ (List.mem_append_right _ (List.mem_append_right _ (List.mem_append_left _ (List.mem_of_getElem? (i := 174) (by decide +kernel)))))), by decide +kernel⟩
theorem wi_X5_ifRun : Cond.instanceMethod yX5_ifRun ∈ XT := List.mem_filter.mpr ⟨(List.mem_append_right _ (List.mem_append_right _ (List.mem_append_right _ (List.mem_append_left _ (List.mem_of_getElem? (i := 175) (by decide +kernel)))))), by decide +kernel⟩
theorem ws_X5_ifRun : Cond.selects RX5 yX5_ifRun yX5_ifRun ∈ XT := List.mem_filter.mpr ⟨(List.mem_append_right _ (List.mem_append_right _ (List.mem_append_right _ (List.mem_append_left _ (List.mem_of_getElem? (i := 176) (by decide +kernel)))))), by decide +kernel⟩
theorem wc_X5_ifRun : Cond.code yX5_ifRun cX5_ifRun 5 (some FieldType.int) ∈ XT := List.mem_filter.mpr ⟨(List.mem_append_right _ (List.mem_append_right _ (List.mem_append_right _ (List.mem_append_left _ (List.mem_of_getElem? (i := 177) (by decide +kernel)))))), by decide +kernel⟩
theorem wl_X5_195 : Cond.methodLink RX5 195 yX4_cameFrom ∈ XT := List.mem_filter.mpr ⟨(List.mem_append_right _ (List.mem_append_right _ (List.mem_append_right _ (List.mem_append_left _ (List.mem_of_getElem? (i := 178) (by decide +kernel)))))), by decide +kernel⟩
theorem wi_X4_cameFrom : Cond.instanceMethod yX4_cameFrom ∈ XT := List.mem_filter.mpr ⟨(List.mem_append_right _ (List.mem_append_right _ (List.mem_append_right _ (List.mem_append_left _ (List.mem_of_getElem? (i := 179) (by decide +kernel)))))), by decide +kernel⟩
theorem ws_X4_cameFrom : Cond.selects RX4 yX4_cameFrom yX4_cameFrom ∈ XT := List.mem_filter.mpr ⟨(List.mem_append_right _ (List.mem_append_right _ (List.mem_append_right _ (List.mem_append_left _ (List.mem_of_getElem? (i := 180) (by decide +kernel)))))), by decide +kernel⟩
theorem wc_X4_cameFrom : Cond.code yX4_cameFrom cX4_cameFrom 2 (some FieldType.int) ∈ XT := List.mem_filter.mpr ⟨(List.mem_append_right _ (List.mem_append_right _ (List.mem_append_right _ (List.mem_append_left _ (List.mem_of_getElem? (i := 181) (by decide +kernel)))))), by decide +kernel⟩
theorem wl_L_103 : Cond.methodLink RL 103 yX5_count ∈ XT := List.mem_filter.mpr ⟨(List.mem_append_right _ (List.mem_append_right _ (List.mem_append_right _ (List.mem_append_left _ (List.mem_of_getElem? (i := 182) (by decide +kernel)))))), by decide +kernel⟩
theorem wi_X5_count : Cond.instanceMethod yX5_count ∈ XT := List.mem_filter.mpr ⟨(List.mem_append_right _ (List.mem_append_right _ (List.mem_append_right _ (List.mem_append_left _ (List.mem_of_getElem? (i := 183) (by decide +kernel)))))), by decide +kernel⟩
theorem ws_X5_count : Cond.selects RX5 yX5_count yX5_count ∈ XT := List.mem_filter.mpr ⟨(List.mem_append_right _ (List.mem_append_right _ (List.mem_append_right _ (List.mem_append_left _ (List.mem_of_getElem? (i := 184) (by decide +kernel)))))), by decide +kernel⟩
theorem wc_X5_count : Cond.code yX5_count cX5_count 2 (some FieldType.int) ∈ XT := List.mem_filter.mpr ⟨(List.mem_append_right _ (List.mem_append_right _ (List.mem_append_right _ (List.mem_append_left _ (List.mem_of_getElem? (i := 185) (by decide +kernel)))))), by decide +kernel⟩
theorem wl_X5_198 : Cond.methodLink RX5 198 yX4_talkers ∈ XT := List.mem_filter.mpr ⟨(List.mem_append_right _ (List.mem_append_right _ (List.mem_append_right _ (List.mem_append_left _ (List.mem_of_getElem? (i := 186) (by decide +kernel)))))), by decide +kernel⟩
theorem wl_X5_201 : Cond.methodLink RX5 201 yJ6_bitCount_0f7a4 ∈ XT := List.mem_filter.mpr ⟨(List.mem_append_right _ (List.mem_append_right _ (List.mem_append_right _ (List.mem_append_left _ (List.mem_of_getElem? (i := 187) (by decide +kernel)))))), by decide +kernel⟩
theorem wl_X5_206 : Cond.methodLink RX5 206 yX4_nextTick ∈ XT := List.mem_filter.mpr ⟨(List.mem_append_right _ (List.mem_append_right _ (List.mem_append_right _ (List.mem_append_left _ (List.mem_of_getElem? (i := 188) (by decide +kernel)))))), by decide +kernel⟩
theorem wl_X5_221 : Cond.methodLink RX5 221 yX4_messagesThatCame ∈ XT := List.mem_filter.mpr ⟨(List.mem_append_right _ (List.mem_append_right _ (List.mem_append_right _ (List.mem_append_left _ (List.mem_of_getElem? (i := 189) (by decide +kernel)))))), by decide +kernel⟩
theorem wl_X5_230 : Cond.methodLink RX5 230 yX4_setting ∈ XT := List.mem_filter.mpr ⟨(List.mem_append_right _ (List.mem_append_right _ (List.mem_append_right _ (List.mem_append_left _ (List.mem_of_getElem? (i := 190) (by decide +kernel)))))), by decide +kernel⟩
theorem wk_L_10 : Cond.classLink RL 10 RX6 ∈ XT := List.mem_filter.mpr ⟨(List.mem_append_right _ (List.mem_append_right _ (List.mem_append_right _ (List.mem_append_left _ (List.mem_of_getElem? (i := 191) (by decide +kernel)))))), by decide +kernel⟩
theorem wq_X6 : Cond.instantiable RX6 17 ∈ XT := List.mem_filter.mpr ⟨(List.mem_append_right _ (List.mem_append_right _ (List.mem_append_right _ (List.mem_append_left _ (List.mem_of_getElem? (i := 192) (by decide +kernel)))))), by decide +kernel⟩
theorem wl_L_12 : Cond.methodLink RL 12 yX6_init ∈ XT := List.mem_filter.mpr ⟨(List.mem_append_right _ (List.mem_append_right _ (List.mem_append_right _ (List.mem_append_left _ (List.mem_of_getElem? (i := 193) (by decide +kernel)))))), by decide +kernel⟩
theorem wi_X6_init : Cond.instanceMethod yX6_init ∈ XT := List.mem_filter.mpr ⟨(List.mem_append_right _ (List.mem_append_right _ (List.mem_append_right _ (List.mem_append_left _ (List.mem_of_getElem? (i := 194) (by decide +kernel)))))), by decide +kernel⟩
theorem wc_X6_init : Cond.code yX6_init cX6_init 2 (none) ∈ XT := List.mem_filter.mpr ⟨(List.mem_append_right _ (List.mem_append_right _ (List.mem_append_right _ (List.mem_append_left _ (List.mem_of_getElem? (i := 195) (by decide +kernel)))))), by decide +kernel⟩
theorem wl_X6_1 : Cond.methodLink RX6 1 Lib.objectInit ∈ XT := List.mem_filter.mpr ⟨(List.mem_append_right _ (List.mem_append_right _ (List.mem_append_right _ (List.mem_append_left _ (List.mem_of_getElem? (i := 196) (by decide +kernel)))))), by decide +kernel⟩
theorem wl_X6_29 : Cond.methodLink RX6 29 yX6_ofListener ∈ XT := List.mem_filter.mpr ⟨(List.mem_append_right _ (List.mem_append_right _ (List.mem_append_right _ (List.mem_append_left _ (List.mem_of_getElem? (i := 197) (by decide +kernel)))))), by decide +kernel⟩
theorem wt_X6_ofListener : Cond.static yX6_ofListener ∈ XT := List.mem_filter.mpr ⟨(List.mem_append_right _ (List.mem_append_right _ (List.mem_append_right _ (List.mem_append_left _ (List.mem_of_getElem? (i := 198) (by decide +kernel)))))), by decide +kernel⟩
theorem wc_X6_ofListener : Cond.code yX6_ofListener cX6_ofListener 2 (some FieldType.int) ∈ XT := List.mem_filter.mpr ⟨(List.mem_append_right _ (List.mem_append_right _ (List.mem_append_right _ (List.mem_append_left _ (List.mem_of_getElem? (i := 199) (by decide +kernel)))))), by decide +kernel⟩
theorem wf_X6_7 : Cond.fieldLink RX6 7 "PulledWiresModel" "s" "[I" ∈ XT := List.mem_filter.mpr ⟨(List.mem_append_right _ (List.mem_append_right _ (List.mem_append_right _ (List.mem_append_left _ (List.mem_of_getElem? (i := 200) (by decide +kernel)))))), by decide +kernel⟩
theorem wf_X6_13 : Cond.fieldLink RX6 13 "PulledWiresModel" "aside" "[I" ∈ XT := List.mem_filter.mpr ⟨(List.mem_append_right _ (List.mem_append_right _ (List.mem_append_right _ (List.mem_append_left _ (List.mem_of_getElem? (i := 201) (by decide +kernel)))))), by decide +kernel⟩
theorem wf_X6_16 : Cond.fieldLink RX6 16 "PulledWiresModel" "before" "[I" ∈ XT := List.mem_filter.mpr ⟨(List.mem_append_right _ (List.mem_append_right _ (List.mem_append_right _ (List.mem_append_left _ (List.mem_of_getElem? (i := 202) (by decide +kernel)))))), by decide +kernel⟩
theorem wf_X6_40 : Cond.fieldLink RX6 40 "PulledWiresModel" "known" "I" ∈ XT := List.mem_filter.mpr ⟨(List.mem_append_right _ (List.mem_append_right _ (List.mem_append_right _ (List.mem_append_left _ (List.mem_of_getElem? (i := 203) (by decide +kernel)))))), by decide +kernel⟩
theorem wf_X6_19 : Cond.fieldLink RX6 19 "PulledWiresModel" "kept" "[I" ∈ XT := List.mem_filter.mpr ⟨(List.mem_append_right _ (List.mem_append_right _ (List.mem_append_right _ (List.mem_append_left _ (List.mem_of_getElem? (i := 204) (by decide +kernel)))))), by decide +kernel⟩
theorem wf_X6_204 : Cond.fieldLink RX6 204 "PulledWiresModel" "isKept" "Z" ∈ XT := List.mem_filter.mpr ⟨(List.mem_append_right _ (List.mem_append_right _ (List.mem_append_right _ (List.mem_append_left _ (List.mem_of_getElem? (i := 205) (by decide +kernel)))))), by decide +kernel⟩
theorem wf_X6_22 : Cond.fieldLink RX6 22 "PulledWiresModel" "text" "[I" ∈ XT := List.mem_filter.mpr ⟨(List.mem_append_right _ (List.mem_append_right _ (List.mem_append_right _ (List.mem_append_left _ (List.mem_of_getElem? (i := 206) (by decide +kernel)))))), by decide +kernel⟩
theorem wf_X6_150 : Cond.fieldLink RX6 150 "PulledWiresModel" "length" "I" ∈ XT := List.mem_filter.mpr ⟨(List.mem_append_right _ (List.mem_append_right _ (List.mem_append_right _ (List.mem_append_left _ (List.mem_of_getElem? (i := 207) (by decide +kernel)))))), by decide +kernel⟩
theorem wf_X6_25 : Cond.fieldLink RX6 25 "PulledWiresModel" "stopPlace" "I" ∈ XT := List.mem_filter.mpr ⟨(List.mem_append_right _ (List.mem_append_right _ (List.mem_append_right _ (List.mem_append_left _ (List.mem_of_getElem? (i := 208) (by decide +kernel)))))), by decide +kernel⟩
theorem wf_X6_194 : Cond.fieldLink RX6 194 "PulledWiresModel" "stopError" "I" ∈ XT := List.mem_filter.mpr ⟨(List.mem_append_right _ (List.mem_append_right _ (List.mem_append_right _ (List.mem_append_left _ (List.mem_of_getElem? (i := 209) (by decide +kernel)))))), by decide +kernel⟩
theorem wf_X6_157 : Cond.fieldLink RX6 157 "PulledWiresModel" "place" "I" ∈ XT := List.mem_filter.mpr ⟨(List.mem_append_right _ (List.mem_append_right _ (List.mem_append_right _ (List.mem_append_left _ (List.mem_of_getElem? (i := 210) (by decide +kernel)))))), by decide +kernel⟩
theorem wf_X6_153 : Cond.fieldLink RX6 153 "PulledWiresModel" "isWrong" "Z" ∈ XT := List.mem_filter.mpr ⟨(List.mem_append_right _ (List.mem_append_right _ (List.mem_append_right _ (List.mem_append_left _ (List.mem_of_getElem? (i := 211) (by decide +kernel)))))), by decide +kernel⟩
theorem wf_X6_167 : Cond.fieldLink RX6 167 "PulledWiresModel" "letter" "I" ∈ XT := List.mem_filter.mpr ⟨(List.mem_append_right _ (List.mem_append_right _ (List.mem_append_right _ (List.mem_append_left _ (List.mem_of_getElem? (i := 212) (by decide +kernel)))))), by decide +kernel⟩
theorem wf_X6_176 : Cond.fieldLink RX6 176 "PulledWiresModel" "one" "I" ∈ XT := List.mem_filter.mpr ⟨(List.mem_append_right _ (List.mem_append_right _ (List.mem_append_right _ (List.mem_append_left _ (List.mem_of_getElem? (i := 213) (by decide +kernel)))))), by decide +kernel⟩
theorem wf_X6_182 : Cond.fieldLink RX6 182 "PulledWiresModel" "two" "I" ∈ XT := List.mem_filter.mpr ⟨(List.mem_append_right _ (List.mem_append_right _ (List.mem_append_right _ (List.mem_append_left _ (List.mem_of_getElem? (i := 214) (by decide +kernel)))))), by decide +kernel⟩
theorem wf_X6_185 : Cond.fieldLink RX6 185 "PulledWiresModel" "three" "I" ∈ XT := List.mem_filter.mpr ⟨(List.mem_append_right _ (List.mem_append_right _ (List.mem_append_right _ (List.mem_append_left _ (List.mem_of_getElem? (i := 215) (by decide +kernel)))))), by decide +kernel⟩
theorem wf_X6_170 : Cond.fieldLink RX6 170 "PulledWiresModel" "four" "I" ∈ XT := List.mem_filter.mpr ⟨(List.mem_append_right _ (List.mem_append_right _ (List.mem_append_right _ (List.mem_append_left _ (List.mem_of_getElem? (i := 216) (by decide +kernel)))))), by decide +kernel⟩
theorem wl_L_17 : Cond.methodLink RL 17 yX6_say ∈ XT := List.mem_filter.mpr ⟨(List.mem_append_right _ (List.mem_append_right _ (List.mem_append_right _ (List.mem_append_right _ (List.mem_append_left _ (List.mem_of_getElem? (i := 12) (by decide +kernel))))))), by decide +kernel⟩
theorem wi_X6_say : Cond.instanceMethod yX6_say ∈ XT := List.mem_filter.mpr ⟨(List.mem_append_right _ (List.mem_append_right _ (List.mem_append_right _ (List.mem_append_right _ (List.mem_append_left _ (List.mem_of_getElem? (i := 13) (by decide +kernel))))))), by decide +kernel⟩
theorem ws_X6_say : Cond.selects RX6 yX6_say yX6_say ∈ XT := List.mem_filter.mpr ⟨(List.mem_append_right _ (List.mem_append_right _ (List.mem_append_right _ (List.mem_append_right _ (List.mem_append_left _ (List.mem_of_getElem? (i := 14) (by decide +kernel))))))), by decide +kernel⟩
theorem wc_X6_say : Cond.code yX6_say cX6_say 5 (some FieldType.int) ∈ XT := List.mem_filter.mpr ⟨(List.mem_append_right _ (List.mem_append_right _ (List.mem_append_right _ (List.mem_append_right _ (List.mem_append_left _ (List.mem_of_getElem? (i := 15) (by decide +kernel))))))), by decide +kernel⟩
theorem wl_X6_122 : Cond.methodLink RX6 122 yX6_putAside ∈ XT := List.mem_filter.mpr ⟨(List.mem_append_right _ (List.mem_append_right _ (List.mem_append_right _ (List.mem_append_right _ (List.mem_append_left _ (List.mem_of_getElem? (i := 16) (by decide +kernel))))))), by decide +kernel⟩
theorem wi_X6_putAside : Cond.instanceMethod yX6_putAside ∈ XT := List.mem_filter.mpr ⟨(List.mem_append_right _ (List.mem_append_right _ (List.mem_append_right _ (List.mem_append_right _ (List.mem_append_left _ (List.mem_of_getElem? (i := 18) (by decide +kernel))))))), by decide +kernel⟩
theorem wc_X6_putAside : Cond.code yX6_putAside cX6_putAside 2 (none) ∈ XT := List.mem_filter.mpr ⟨(List.mem_append_right _ (List.mem_append_right _ (List.mem_append_right _ (List.mem_append_right _ (List.mem_append_left _ (List.mem_of_getElem? (i := 19) (by decide +kernel))))))), by decide +kernel⟩
theorem wl_X6_125 : Cond.methodLink RX6 125 yX6_says ∈ XT := List.mem_filter.mpr ⟨(List.mem_append_right _ (List.mem_append_right _ (List.mem_append_right _ (List.mem_append_right _ (List.mem_append_left _ (List.mem_of_getElem? (i := 20) (by decide +kernel))))))), by decide +kernel⟩
theorem wi_X6_says : Cond.instanceMethod yX6_says ∈ XT := List.mem_filter.mpr ⟨(List.mem_append_right _ (List.mem_append_right _ (List.mem_append_right _ (List.mem_append_right _ (List.mem_append_left _ (List.mem_of_getElem? (i := 22) (by decide +kernel))))))), by decide +kernel⟩
theorem wc_X6_says : Cond.code yX6_says cX6_says 6 (some FieldType.int) ∈ XT := List.mem_filter.mpr ⟨(List.mem_append_right _ (List.mem_append_right _ (List.mem_append_right _ (List.mem_append_right _ (List.mem_append_left _ (List.mem_of_getElem? (i := 23) (by decide +kernel))))))), by decide +kernel⟩
theorem wl_X6_109 : Cond.methodLink RX6 109 yX6_isOne ∈ XT := List.mem_filter.mpr ⟨(List.mem_append_right _ (List.mem_append_right _ (List.mem_append_right _ (List.mem_append_right _ (List.mem_append_left _ (List.mem_of_getElem? (i := 24) (by decide +kernel))))))), by decide +kernel⟩
theorem wt_X6_isOne : Cond.static yX6_isOne ∈ XT := List.mem_filter.mpr ⟨(List.mem_append_right _ (List.mem_append_right _ (List.mem_append_right _ (List.mem_append_right _ (List.mem_append_left _ (List.mem_of_getElem? (i := 25) (by decide +kernel))))))), by decide +kernel⟩
theorem wc_X6_isOne : Cond.code yX6_isOne cX6_isOne 1 (some FieldType.boolean) ∈ XT := List.mem_filter.mpr ⟨(List.mem_append_right _ (List.mem_append_right _ (List.mem_append_right _ (List.mem_append_right _ (List.mem_append_left _ (List.mem_of_getElem? (i := 26) (by decide +kernel))))))), by decide +kernel⟩
theorem wl_X6_36 : Cond.methodLink RX6 36 yX6_in ∈ XT := List.mem_filter.mpr ⟨(List.mem_append_right _ (List.mem_append_right _ (List.mem_append_right _ (List.mem_append_right _ (List.mem_append_left _ (List.mem_of_getElem? (i := 27) (by decide +kernel))))))), by decide +kernel⟩
theorem wt_X6_in : Cond.static yX6_in ∈ XT := List.mem_filter.mpr ⟨(List.mem_append_right _ (List.mem_append_right _ (List.mem_append_right _ (List.mem_append_right _ (List.mem_append_left _ (List.mem_of_getElem? (i := 28) (by decide +kernel))))))), by decide +kernel⟩
theorem wc_X6_in : Cond.code yX6_in cX6_in 3 (some FieldType.boolean) ∈ XT := List.mem_filter.mpr ⟨(List.mem_append_right _ (List.mem_append_right _ (List.mem_append_right _ (List.mem_append_right _ (List.mem_append_left _ (List.mem_of_getElem? (i := 29) (by decide +kernel))))))), by decide +kernel⟩
theorem wl_X6_33 : Cond.methodLink RX6 33 yX6_of ∈ XT := List.mem_filter.mpr ⟨(List.mem_append_right _ (List.mem_append_right _ (List.mem_append_right _ (List.mem_append_right _ (List.mem_append_left _ (List.mem_of_getElem? (i := 30) (by decide +kernel))))))), by decide +kernel⟩
theorem wt_X6_of : Cond.static yX6_of ∈ XT := List.mem_filter.mpr ⟨(List.mem_append_right _ (List.mem_append_right _ (List.mem_append_right _ (List.mem_append_right _ (List.mem_append_left _ (List.mem_of_getElem? (i := 31) (by decide +kernel))))))), by decide +kernel⟩
theorem wc_X6_of : Cond.code yX6_of cX6_of 2 (some FieldType.int) ∈ XT := List.mem_filter.mpr ⟨(List.mem_append_right _ (List.mem_append_right _ (List.mem_append_right _ (List.mem_append_right _ (List.mem_append_left _ (List.mem_of_getElem? (i := 32) (by decide +kernel))))))), by decide +kernel⟩
theorem wl_X6_129 : Cond.methodLink RX6 129 yX6_act ∈ XT := List.mem_filter.mpr ⟨(List.mem_append_right _ (List.mem_append_right _ (List.mem_append_right _ (List.mem_append_right _ (List.mem_append_left _ (List.mem_of_getElem? (i := 33) (by decide +kernel))))))), by decide +kernel⟩
theorem wi_X6_act : Cond.instanceMethod yX6_act ∈ XT := List.mem_filter.mpr ⟨(List.mem_append_right _ (List.mem_append_right _ (List.mem_append_right _ (List.mem_append_right _ (List.mem_append_left _ (List.mem_of_getElem? (i := 35) (by decide +kernel))))))), by decide +kernel⟩
theorem wc_X6_act : Cond.code yX6_act cX6_act 3 (some FieldType.int) ∈ XT := List.mem_filter.mpr ⟨(List.mem_append_right _ (List.mem_append_right _ (List.mem_append_right _ (List.mem_append_right _ (List.mem_append_left _ (List.mem_of_getElem? (i := 36) (by decide +kernel))))))), by decide +kernel⟩
theorem wl_L_22 : Cond.methodLink RL 22 yX6_takeBack ∈ XT := List.mem_filter.mpr ⟨(List.mem_append_right _ (List.mem_append_right _ (List.mem_append_right _ (List.mem_append_right _ (List.mem_append_left _ (List.mem_of_getElem? (i := 37) (by decide +kernel))))))), by decide +kernel⟩
theorem wi_X6_takeBack : Cond.instanceMethod yX6_takeBack ∈ XT := List.mem_filter.mpr ⟨(List.mem_append_right _ (List.mem_append_right _ (List.mem_append_right _ (List.mem_append_right _ (List.mem_append_left _ (List.mem_of_getElem? (i := 38) (by decide +kernel))))))), by decide +kernel⟩
theorem ws_X6_takeBack : Cond.selects RX6 yX6_takeBack yX6_takeBack ∈ XT := List.mem_filter.mpr ⟨(List.mem_append_right _ (List.mem_append_right _ (List.mem_append_right _ (List.mem_append_right _ (List.mem_append_left _ (List.mem_of_getElem? (i := 39) (by decide +kernel))))))), by decide +kernel⟩
theorem wc_X6_takeBack : Cond.code yX6_takeBack cX6_takeBack 2 (some FieldType.int) ∈ XT := List.mem_filter.mpr ⟨(List.mem_append_right _ (List.mem_append_right _ (List.mem_append_right _ (List.mem_append_right _ (List.mem_append_left _ (List.mem_of_getElem? (i := 40) (by decide +kernel))))))), by decide +kernel⟩
theorem wl_X6_132 : Cond.methodLink RX6 132 yX6_takesBack ∈ XT := List.mem_filter.mpr ⟨(List.mem_append_right _ (List.mem_append_right _ (List.mem_append_right _ (List.mem_append_right _ (List.mem_append_left _ (List.mem_of_getElem? (i := 41) (by decide +kernel))))))), by decide +kernel⟩
theorem wi_X6_takesBack : Cond.instanceMethod yX6_takesBack ∈ XT := List.mem_filter.mpr ⟨(List.mem_append_right _ (List.mem_append_right _ (List.mem_append_right _ (List.mem_append_right _ (List.mem_append_left _ (List.mem_of_getElem? (i := 43) (by decide +kernel))))))), by decide +kernel⟩
theorem wc_X6_takesBack : Cond.code yX6_takesBack cX6_takesBack 3 (some FieldType.int) ∈ XT := List.mem_filter.mpr ⟨(List.mem_append_right _ (List.mem_append_right _ (List.mem_append_right _ (List.mem_append_right _ (List.mem_append_left _ (List.mem_of_getElem? (i := 44) (by decide +kernel))))))), by decide +kernel⟩
theorem wl_X6_47 : Cond.methodLink RX6 47 yX6_isTalking ∈ XT := List.mem_filter.mpr ⟨(List.mem_append_right _ (List.mem_append_right _ (List.mem_append_right _ (List.mem_append_right _ (List.mem_append_left _ (List.mem_of_getElem? (i := 45) (by decide +kernel))))))), by decide +kernel⟩
theorem wi_X6_isTalking : Cond.instanceMethod yX6_isTalking ∈ XT := List.mem_filter.mpr ⟨(List.mem_append_right _ (List.mem_append_right _ (List.mem_append_right _ (List.mem_append_right _ (List.mem_append_left _ (List.mem_of_getElem? (i := 47) (by decide +kernel))))))), by decide +kernel⟩
theorem wc_X6_isTalking : Cond.code yX6_isTalking cX6_isTalking 2 (some FieldType.boolean) ∈ XT := List.mem_filter.mpr ⟨(List.mem_append_right _ (List.mem_append_right _ (List.mem_append_right _ (List.mem_append_right _ (List.mem_append_left _ (List.mem_of_getElem? (i := 48) (by decide +kernel))))))), by decide +kernel⟩
theorem wl_L_27 : Cond.methodLink RL 27 yX6_hear ∈ XT := List.mem_filter.mpr ⟨(List.mem_append_right _ (List.mem_append_right _ (List.mem_append_right _ (List.mem_append_right _ (List.mem_append_left _ (List.mem_of_getElem? (i := 49) (by decide +kernel))))))), by decide +kernel⟩
theorem wi_X6_hear : Cond.instanceMethod yX6_hear ∈ XT := List.mem_filter.mpr ⟨(List.mem_append_right _ (List.mem_append_right _ (List.mem_append_right _ (List.mem_append_right _ (List.mem_append_left _ (List.mem_of_getElem? (i := 50) (by decide +kernel))))))), by decide +kernel⟩
theorem ws_X6_hear : Cond.selects RX6 yX6_hear yX6_hear ∈ XT := List.mem_filter.mpr ⟨(List.mem_append_right _ (List.mem_append_right _ (List.mem_append_right _ (List.mem_append_right _ (List.mem_append_left _ (List.mem_of_getElem? (i := 51) (by decide +kernel))))))), by decide +kernel⟩
theorem wc_X6_hear : Cond.code yX6_hear cX6_hear 3 (some FieldType.int) ∈ XT := List.mem_filter.mpr ⟨(List.mem_append_right _ (List.mem_append_right _ (List.mem_append_right _ (List.mem_append_right _ (List.mem_append_left _ (List.mem_of_getElem? (i := 52) (by decide +kernel))))))), by decide +kernel⟩
theorem wl_X6_135 : Cond.methodLink RX6 135 yX6_hears ∈ XT := List.mem_filter.mpr ⟨(List.mem_append_right _ (List.mem_append_right _ (List.mem_append_right _ (List.mem_append_right _ (List.mem_append_left _ (List.mem_of_getElem? (i := 53) (by decide +kernel))))))), by decide +kernel⟩
theorem wi_X6_hears : Cond.instanceMethod yX6_hears ∈ XT := List.mem_filter.mpr ⟨(List.mem_append_right _ (List.mem_append_right _ (List.mem_append_right _ (List.mem_append_right _ (List.mem_append_left _ (List.mem_of_getElem? (i := 55) (by decide +kernel))))))), by decide +kernel⟩
theorem wc_X6_hears : Cond.code yX6_hears cX6_hears 6 (some FieldType.int) ∈ XT := List.mem_filter.mpr ⟨(List.mem_append_right _ (List.mem_append_right _ (List.mem_append_right _ (List.mem_append_right _ (List.mem_append_left _ (List.mem_of_getElem? (i := 56) (by decide +kernel))))))), by decide +kernel⟩
theorem wl_X6_74 : Cond.methodLink RX6 74 yX6_listenerOf ∈ XT := List.mem_filter.mpr ⟨(List.mem_append_right _ (List.mem_append_right _ (List.mem_append_right _ (List.mem_append_right _ (List.mem_append_left _ (List.mem_of_getElem? (i := 57) (by decide +kernel))))))), by decide +kernel⟩
theorem wi_X6_listenerOf : Cond.instanceMethod yX6_listenerOf ∈ XT := List.mem_filter.mpr ⟨(List.mem_append_right _ (List.mem_append_right _ (List.mem_append_right _ (List.mem_append_right _ (List.mem_append_left _ (List.mem_of_getElem? (i := 59) (by decide +kernel))))))), by decide +kernel⟩
theorem wc_X6_listenerOf : Cond.code yX6_listenerOf cX6_listenerOf 3 (some FieldType.int) ∈ XT := List.mem_filter.mpr ⟨(List.mem_append_right _ (List.mem_append_right _ (List.mem_append_right _ (List.mem_append_right _ (List.mem_append_left _ (List.mem_of_getElem? (i := 60) (by decide +kernel))))))), by decide +kernel⟩
theorem wl_L_31 : Cond.methodLink RL 31 yX6_hold ∈ XT := List.mem_filter.mpr ⟨(List.mem_append_right _ (List.mem_append_right _ (List.mem_append_right _ (List.mem_append_right _ (List.mem_append_left _ (List.mem_of_getElem? (i := 61) (by decide +kernel))))))), by decide +kernel⟩
theorem wi_X6_hold : Cond.instanceMethod yX6_hold ∈ XT := List.mem_filter.mpr ⟨(List.mem_append_right _ (List.mem_append_right _ (List.mem_append_right _ (List.mem_append_right _ (List.mem_append_left _ (List.mem_of_getElem? (i := 62) (by decide +kernel))))))), by decide +kernel⟩
theorem ws_X6_hold : Cond.selects RX6 yX6_hold yX6_hold ∈ XT := List.mem_filter.mpr ⟨(List.mem_append_right _ (List.mem_append_right _ (List.mem_append_right _ (List.mem_append_right _ (List.mem_append_left _ (List.mem_of_getElem? (i := 63) (by decide +kernel))))))), by decide +kernel⟩
theorem wc_X6_hold : Cond.code yX6_hold cX6_hold 3 (some FieldType.int) ∈ XT := List.mem_filter.mpr ⟨(List.mem_append_right _ (List.mem_append_right _ (List.mem_append_right _ (List.mem_append_right _ (List.mem_append_left _ (List.mem_of_getElem? (i := 64) (by decide +kernel))))))), by decide +kernel⟩
theorem wl_X6_138 : Cond.methodLink RX6 138 yX6_holds ∈ XT := List.mem_filter.mpr ⟨(List.mem_append_right _ (List.mem_append_right _ (List.mem_append_right _ (List.mem_append_right _ (List.mem_append_left _ (List.mem_of_getElem? (i := 65) (by decide +kernel))))))), by decide +kernel⟩
theorem wi_X6_holds : Cond.instanceMethod yX6_holds ∈ XT := List.mem_filter.mpr ⟨(List.mem_append_right _ (List.mem_append_right _ (List.mem_append_right _ (List.mem_append_right _ (List.mem_append_left _ (List.mem_of_getElem? (i := 67) (by decide +kernel))))))), by decide +kernel⟩
theorem wc_X6_holds : Cond.code yX6_holds cX6_holds 4 (some FieldType.int) ∈ XT := List.mem_filter.mpr ⟨(List.mem_append_right _ (List.mem_append_right _ (List.mem_append_right _ (List.mem_append_right _ (List.mem_append_left _ (List.mem_of_getElem? (i := 68) (by decide +kernel))))))), by decide +kernel⟩
theorem wl_L_35 : Cond.methodLink RL 35 yX6_stick ∈ XT := List.mem_filter.mpr ⟨(List.mem_append_right _ (List.mem_append_right _ (List.mem_append_right _ (List.mem_append_right _ (List.mem_append_left _ (List.mem_of_getElem? (i := 69) (by decide +kernel))))))), by decide +kernel⟩
theorem wi_X6_stick : Cond.instanceMethod yX6_stick ∈ XT := List.mem_filter.mpr ⟨(List.mem_append_right _ (List.mem_append_right _ (List.mem_append_right _ (List.mem_append_right _ (List.mem_append_left _ (List.mem_of_getElem? (i := 70) (by decide +kernel))))))), by decide +kernel⟩
theorem ws_X6_stick : Cond.selects RX6 yX6_stick yX6_stick ∈ XT := List.mem_filter.mpr ⟨(List.mem_append_right _ (List.mem_append_right _ (List.mem_append_right _ (List.mem_append_right _ (List.mem_append_left _ (List.mem_of_getElem? (i := 71) (by decide +kernel))))))), by decide +kernel⟩
theorem wc_X6_stick : Cond.code yX6_stick cX6_stick 3 (some FieldType.int) ∈ XT := List.mem_filter.mpr ⟨(List.mem_append_right _ (List.mem_append_right _ (List.mem_append_right _ (List.mem_append_right _ (List.mem_append_left _ (List.mem_of_getElem? (i := 72) (by decide +kernel))))))), by decide +kernel⟩
theorem wl_X6_141 : Cond.methodLink RX6 141 yX6_sticks ∈ XT := List.mem_filter.mpr ⟨(List.mem_append_right _ (List.mem_append_right _ (List.mem_append_right _ (List.mem_append_right _ (List.mem_append_left _ (List.mem_of_getElem? (i := 73) (by decide +kernel))))))), by decide +kernel⟩
theorem wi_X6_sticks : Cond.instanceMethod yX6_sticks ∈ XT := List.mem_filter.mpr ⟨(List.mem_append_right _ (List.mem_append_right _ (List.mem_append_right _ (List.mem_append_right _ (List.mem_append_left _ (List.mem_of_getElem? (i := 75) (by decide +kernel))))))), by decide +kernel⟩
theorem wc_X6_sticks : Cond.code yX6_sticks cX6_sticks 3 (some FieldType.int) ∈ XT := List.mem_filter.mpr ⟨(List.mem_append_right _ (List.mem_append_right _ (List.mem_append_right _ (List.mem_append_right _ (List.mem_append_left _ (List.mem_of_getElem? (i := 76) (by decide +kernel))))))), by decide +kernel⟩
theorem wl_X6_88 : Cond.methodLink RX6 88 yX6_stuck ∈ XT := List.mem_filter.mpr ⟨(List.mem_append_right _ (List.mem_append_right _ (List.mem_append_right _ (List.mem_append_right _ (List.mem_append_left _ (List.mem_of_getElem? (i := 77) (by decide +kernel))))))), by decide +kernel⟩
theorem wi_X6_stuck : Cond.instanceMethod yX6_stuck ∈ XT := List.mem_filter.mpr ⟨(List.mem_append_right _ (List.mem_append_right _ (List.mem_append_right _ (List.mem_append_right _ (List.mem_append_left _ (List.mem_of_getElem? (i := 79) (by decide +kernel))))))), by decide +kernel⟩
theorem wc_X6_stuck : Cond.code yX6_stuck cX6_stuck 3 (some FieldType.int) ∈ XT := List.mem_filter.mpr ⟨(List.mem_append_right _ (List.mem_append_right _ (List.mem_append_right _ (List.mem_append_right _ (List.mem_append_left _ (List.mem_of_getElem? (i := 80) (by decide +kernel))))))), by decide +kernel⟩
theorem wl_L_39 : Cond.methodLink RL 39 yX6_set ∈ XT := List.mem_filter.mpr ⟨(List.mem_append_right _ (List.mem_append_right _ (List.mem_append_right _ (List.mem_append_right _ (List.mem_append_left _ (List.mem_of_getElem? (i := 81) (by decide +kernel))))))), by decide +kernel⟩
theorem wi_X6_set : Cond.instanceMethod yX6_set ∈ XT := List.mem_filter.mpr ⟨(List.mem_append_right _ (List.mem_append_right _ (List.mem_append_right _ (List.mem_append_right _ (List.mem_append_left _ (List.mem_of_getElem? (i := 82) (by decide +kernel))))))), by decide +kernel⟩
theorem ws_X6_set : Cond.selects RX6 yX6_set yX6_set ∈ XT := List.mem_filter.mpr ⟨(List.mem_append_right _ (List.mem_append_right _ (List.mem_append_right _ (List.mem_append_right _ (List.mem_append_left _ (List.mem_of_getElem? (i := 83) (by decide +kernel))))))), by decide +kernel⟩
theorem wc_X6_set : Cond.code yX6_set cX6_set 3 (some FieldType.int) ∈ XT := List.mem_filter.mpr ⟨(List.mem_append_right _ (List.mem_append_right _ (List.mem_append_right _ (List.mem_append_right _ (List.mem_append_left _ (List.mem_of_getElem? (i := 84) (by decide +kernel))))))), by decide +kernel⟩
theorem wl_X6_144 : Cond.methodLink RX6 144 yX6_sets ∈ XT := List.mem_filter.mpr ⟨(List.mem_append_right _ (List.mem_append_right _ (List.mem_append_right _ (List.mem_append_right _ (List.mem_append_left _ (List.mem_of_getElem? (i := 85) (by decide +kernel))))))), by decide +kernel⟩
theorem wi_X6_sets : Cond.instanceMethod yX6_sets ∈ XT := List.mem_filter.mpr ⟨(List.mem_append_right _ (List.mem_append_right _ (List.mem_append_right _ (List.mem_append_right _ (List.mem_append_left _ (List.mem_of_getElem? (i := 87) (by decide +kernel))))))), by decide +kernel⟩
theorem wc_X6_sets : Cond.code yX6_sets cX6_sets 4 (some FieldType.int) ∈ XT := List.mem_filter.mpr ⟨(List.mem_append_right _ (List.mem_append_right _ (List.mem_append_right _ (List.mem_append_right _ (List.mem_append_left _ (List.mem_of_getElem? (i := 88) (by decide +kernel))))))), by decide +kernel⟩
theorem wl_X6_119 : Cond.methodLink RX6 119 yX6_most ∈ XT := List.mem_filter.mpr ⟨(List.mem_append_right _ (List.mem_append_right _ (List.mem_append_right _ (List.mem_append_right _ (List.mem_append_left _ (List.mem_of_getElem? (i := 89) (by decide +kernel))))))), by decide +kernel⟩
theorem wt_X6_most : Cond.static yX6_most ∈ XT := List.mem_filter.mpr ⟨(List.mem_append_right _ (List.mem_append_right _ (List.mem_append_right _ (List.mem_append_right _ (List.mem_append_left _ (List.mem_of_getElem? (i := 90) (by decide +kernel))))))), by decide +kernel⟩
theorem wc_X6_most : Cond.code yX6_most cX6_most 1 (some FieldType.int) ∈ XT := List.mem_filter.mpr ⟨(List.mem_append_right _ (List.mem_append_right _ (List.mem_append_right _ (List.mem_append_right _ (List.mem_append_left _ (List.mem_of_getElem? (i := 91) (by decide +kernel))))))), by decide +kernel⟩
theorem wl_L_43 : Cond.methodLink RL 43 yX6_run ∈ XT := List.mem_filter.mpr ⟨(List.mem_append_right _ (List.mem_append_right _ (List.mem_append_right _ (List.mem_append_right _ (List.mem_append_left _ (List.mem_of_getElem? (i := 92) (by decide +kernel))))))), by decide +kernel⟩
theorem wi_X6_run : Cond.instanceMethod yX6_run ∈ XT := List.mem_filter.mpr ⟨(List.mem_append_right _ (List.mem_append_right _ (List.mem_append_right _ (List.mem_append_right _ (List.mem_append_left _ (List.mem_of_getElem? (i := 93) (by decide +kernel))))))), by decide +kernel⟩
theorem ws_X6_run : Cond.selects RX6 yX6_run yX6_run ∈ XT := List.mem_filter.mpr ⟨(List.mem_append_right _ (List.mem_append_right _ (List.mem_append_right _ (List.mem_append_right _ (List.mem_append_left _ (List.mem_of_getElem? (i := 94) (by decide +kernel))))))), by decide +kernel⟩
theorem wc_X6_run : Cond.code yX6_run cX6_run 2 (some FieldType.int) ∈ XT := List.mem_filter.mpr ⟨(List.mem_append_right _ (List.mem_append_right _ (List.mem_append_right _ (List.mem_append_right _ (List.mem_append_left _ (List.mem_of_getElem? (i := 95) (by decide +kernel))))))), by decide +kernel⟩
theorem wl_X6_147 : Cond.methodLink RX6 147 yX6_runs ∈ XT := List.mem_filter.mpr ⟨(List.mem_append_right _ (List.mem_append_right _ (List.mem_append_right _ (List.mem_append_right _ (List.mem_append_left _ (List.mem_of_getElem? (i := 96) (by decide +kernel))))))), by decide +kernel⟩
theorem wi_X6_runs : Cond.instanceMethod yX6_runs ∈ XT := List.mem_filter.mpr ⟨(List.mem_append_right _ (List.mem_append_right _ (List.mem_append_right _ (List.mem_append_right _ (List.mem_append_left _ (List.mem_of_getElem? (i := 98) (by decide +kernel))))))), by decide +kernel⟩
theorem wc_X6_runs : Cond.code yX6_runs cX6_runs 4 (some FieldType.int) ∈ XT := List.mem_filter.mpr ⟨(List.mem_append_right _ (List.mem_append_right _ (List.mem_append_right _ (List.mem_append_right _ (List.mem_append_left _ (List.mem_of_getElem? (i := 99) (by decide +kernel))))))), by decide +kernel⟩
theorem wx_X6_112 : Cond.constant RX6 112 (99999 : Int32) ∈ XT := List.mem_filter.mpr ⟨(List.mem_append_right _ (List.mem_append_right _ (List.mem_append_right _ (List.mem_append_right _ (List.mem_append_left _ (List.mem_of_getElem? (i := 100) (by decide +kernel))))))), by decide +kernel⟩
theorem wl_X6_113 : Cond.methodLink RX6 113 yX6_came ∈ XT := List.mem_filter.mpr ⟨(List.mem_append_right _ (List.mem_append_right _ (List.mem_append_right _ (List.mem_append_right _ (List.mem_append_left _ (List.mem_of_getElem? (i := 101) (by decide +kernel))))))), by decide +kernel⟩
theorem wi_X6_came : Cond.instanceMethod yX6_came ∈ XT := List.mem_filter.mpr ⟨(List.mem_append_right _ (List.mem_append_right _ (List.mem_append_right _ (List.mem_append_right _ (List.mem_append_left _ (List.mem_of_getElem? (i := 103) (by decide +kernel))))))), by decide +kernel⟩
theorem wc_X6_came : Cond.code yX6_came cX6_came 3 (some FieldType.int) ∈ XT := List.mem_filter.mpr ⟨(List.mem_append_right _ (List.mem_append_right _ (List.mem_append_right _ (List.mem_append_right _ (List.mem_append_left _ (List.mem_of_getElem? (i := 104) (by decide +kernel))))))), by decide +kernel⟩
theorem wl_X6_116 : Cond.methodLink RX6 116 yX6_tick ∈ XT := List.mem_filter.mpr ⟨(List.mem_append_right _ (List.mem_append_right _ (List.mem_append_right _ (List.mem_append_right _ (List.mem_append_left _ (List.mem_of_getElem? (i := 105) (by decide +kernel))))))), by decide +kernel⟩
theorem wi_X6_tick : Cond.instanceMethod yX6_tick ∈ XT := List.mem_filter.mpr ⟨(List.mem_append_right _ (List.mem_append_right _ (List.mem_append_right _ (List.mem_append_right _ (List.mem_append_left _ (List.mem_of_getElem? (i := 107) (by decide +kernel))))))), by decide +kernel⟩
theorem wc_X6_tick : Cond.code yX6_tick cX6_tick 3 (none) ∈ XT := List.mem_filter.mpr ⟨(List.mem_append_right _ (List.mem_append_right _ (List.mem_append_right _ (List.mem_append_right _ (List.mem_append_left _ (List.mem_of_getElem? (i := 108) (by decide +kernel))))))), by decide +kernel⟩
theorem wl_X6_91 : Cond.methodLink RX6 91 yX6_next ∈ XT := List.mem_filter.mpr ⟨(List.mem_append_right _ (List.mem_append_right _ (List.mem_append_right _ (List.mem_append_right _ (List.mem_append_left _ (List.mem_of_getElem? (i := 109) (by decide +kernel))))))), by decide +kernel⟩
theorem wi_X6_next : Cond.instanceMethod yX6_next ∈ XT := List.mem_filter.mpr ⟨(List.mem_append_right _ (List.mem_append_right _ (List.mem_append_right _ (List.mem_append_right _ (List.mem_append_left _ (List.mem_of_getElem? (i := 111) (by decide +kernel))))))), by decide +kernel⟩
theorem wc_X6_next : Cond.code yX6_next cX6_next 1 (some FieldType.int) ∈ XT := List.mem_filter.mpr ⟨(List.mem_append_right _ (List.mem_append_right _ (List.mem_append_right _ (List.mem_append_right _ (List.mem_append_left _ (List.mem_of_getElem? (i := 112) (by decide +kernel))))))), by decide +kernel⟩
theorem wl_X6_54 : Cond.methodLink RX6 54 yX6_talking ∈ XT := List.mem_filter.mpr ⟨(List.mem_append_right _ (List.mem_append_right _ (List.mem_append_right _ (List.mem_append_right _ (List.mem_append_left _ (List.mem_of_getElem? (i := 113) (by decide +kernel))))))), by decide +kernel⟩
theorem wi_X6_talking : Cond.instanceMethod yX6_talking ∈ XT := List.mem_filter.mpr ⟨(List.mem_append_right _ (List.mem_append_right _ (List.mem_append_right _ (List.mem_append_right _ (List.mem_append_left _ (List.mem_of_getElem? (i := 115) (by decide +kernel))))))), by decide +kernel⟩
theorem wc_X6_talking : Cond.code yX6_talking cX6_talking 3 (some FieldType.int) ∈ XT := List.mem_filter.mpr ⟨(List.mem_append_right _ (List.mem_append_right _ (List.mem_append_right _ (List.mem_append_right _ (List.mem_append_left _ (List.mem_of_getElem? (i := 116) (by decide +kernel))))))), by decide +kernel⟩
theorem wl_X6_58 : Cond.methodLink RX6 58 yX6_isAnswer ∈ XT := List.mem_filter.mpr ⟨(List.mem_append_right _ (List.mem_append_right _ (List.mem_append_right _ (List.mem_append_right _ (List.mem_append_left _ (List.mem_of_getElem? (i := 117) (by decide +kernel))))))), by decide +kernel⟩
theorem wt_X6_isAnswer : Cond.static yX6_isAnswer ∈ XT := List.mem_filter.mpr ⟨(List.mem_append_right _ (List.mem_append_right _ (List.mem_append_right _ (List.mem_append_right _ (List.mem_append_left _ (List.mem_of_getElem? (i := 118) (by decide +kernel))))))), by decide +kernel⟩
theorem wc_X6_isAnswer : Cond.code yX6_isAnswer cX6_isAnswer 1 (some FieldType.boolean) ∈ XT := List.mem_filter.mpr ⟨(List.mem_append_right _ (List.mem_append_right _ (List.mem_append_right _ (List.mem_append_right _ (List.mem_append_left _ (List.mem_of_getElem? (i := 119) (by decide +kernel))))))), by decide +kernel⟩
theorem wl_X6_94 : Cond.methodLink RX6 94 yX6_tickStuck ∈ XT := List.mem_filter.mpr ⟨(List.mem_append_right _ (List.mem_append_right _ (List.mem_append_right _ (List.mem_append_right _ (List.mem_append_left _ (List.mem_of_getElem? (i := 120) (by decide +kernel))))))), by decide +kernel⟩
theorem wi_X6_tickStuck : Cond.instanceMethod yX6_tickStuck ∈ XT := List.mem_filter.mpr ⟨(List.mem_append_right _ (List.mem_append_right _ (List.mem_append_right _ (List.mem_append_right _ (List.mem_append_left _ (List.mem_of_getElem? (i := 122) (by decide +kernel))))))), by decide +kernel⟩
theorem wc_X6_tickStuck : Cond.code yX6_tickStuck cX6_tickStuck 4 (none) ∈ XT := List.mem_filter.mpr ⟨(List.mem_append_right _ (List.mem_append_right _ (List.mem_append_right _ (List.mem_append_right _ (List.mem_append_left _ (List.mem_of_getElem? (i := 123) (by decide +kernel))))))), by decide +kernel⟩
theorem wl_X6_61 : Cond.methodLink RX6 61 yX6_lose ∈ XT := List.mem_filter.mpr ⟨(List.mem_append_right _ (List.mem_append_right _ (List.mem_append_right _ (List.mem_append_right _ (List.mem_append_left _ (List.mem_of_getElem? (i := 124) (by decide +kernel))))))), by decide +kernel⟩
theorem wi_X6_lose : Cond.instanceMethod yX6_lose ∈ XT := List.mem_filter.mpr ⟨(List.mem_append_right _ (List.mem_append_right _ (List.mem_append_right _ (List.mem_append_right _ (List.mem_append_left _ (List.mem_of_getElem? (i := 126) (by decide +kernel))))))), by decide +kernel⟩
theorem wc_X6_lose : Cond.code yX6_lose cX6_lose 3 (some FieldType.int) ∈ XT := List.mem_filter.mpr ⟨(List.mem_append_right _ (List.mem_append_right _ (List.mem_append_right _ (List.mem_append_right _ (List.mem_append_left _ (List.mem_of_getElem? (i := 127) (by decide +kernel))))))), by decide +kernel⟩
theorem wl_X6_51 : Cond.methodLink RX6 51 yX6_bitAt ∈ XT := List.mem_filter.mpr ⟨(List.mem_append_right _ (List.mem_append_right _ (List.mem_append_right _ (List.mem_append_right _ (List.mem_append_left _ (List.mem_of_getElem? (i := 128) (by decide +kernel))))))), by decide +kernel⟩
theorem wi_X6_bitAt : Cond.instanceMethod yX6_bitAt ∈ XT := List.mem_filter.mpr ⟨(List.mem_append_right _ (List.mem_append_right _ (List.mem_append_right _ (List.mem_append_right _ (List.mem_append_left _ (List.mem_of_getElem? (i := 130) (by decide +kernel))))))), by decide +kernel⟩
theorem wc_X6_bitAt : Cond.code yX6_bitAt cX6_bitAt 5 (some FieldType.int) ∈ XT := List.mem_filter.mpr ⟨(List.mem_append_right _ (List.mem_append_right _ (List.mem_append_right _ (List.mem_append_right _ (List.mem_append_left _ (List.mem_of_getElem? (i := 131) (by decide +kernel))))))), by decide +kernel⟩
theorem wl_X6_43 : Cond.methodLink RX6 43 yX6_inMessage ∈ XT := List.mem_filter.mpr ⟨(List.mem_append_right _ (List.mem_append_right _ (List.mem_append_right _ (List.mem_append_right _ (List.mem_append_left _ (List.mem_of_getElem? (i := 132) (by decide +kernel))))))), by decide +kernel⟩
theorem wi_X6_inMessage : Cond.instanceMethod yX6_inMessage ∈ XT := List.mem_filter.mpr ⟨(List.mem_append_right _ (List.mem_append_right _ (List.mem_append_right _ (List.mem_append_right _ (List.mem_append_left _ (List.mem_of_getElem? (i := 134) (by decide +kernel))))))), by decide +kernel⟩
theorem wc_X6_inMessage : Cond.code yX6_inMessage cX6_inMessage 4 (some FieldType.int) ∈ XT := List.mem_filter.mpr ⟨(List.mem_append_right _ (List.mem_append_right _ (List.mem_append_right _ (List.mem_append_right _ (List.mem_append_left _ (List.mem_of_getElem? (i := 135) (by decide +kernel))))))), by decide +kernel⟩
theorem wl_X6_64 : Cond.methodLink RX6 64 yX6_endsIfEmpty ∈ XT := List.mem_filter.mpr ⟨(List.mem_append_right _ (List.mem_append_right _ (List.mem_append_right _ (List.mem_append_right _ (List.mem_append_left _ (List.mem_of_getElem? (i := 136) (by decide +kernel))))))), by decide +kernel⟩
theorem wi_X6_endsIfEmpty : Cond.instanceMethod yX6_endsIfEmpty ∈ XT := List.mem_filter.mpr ⟨(List.mem_append_right _ (List.mem_append_right _ (List.mem_append_right _ (List.mem_append_right _ (List.mem_append_left _ (List.mem_of_getElem? (i := 138) (by decide +kernel))))))), by decide +kernel⟩
theorem wc_X6_endsIfEmpty : Cond.code yX6_endsIfEmpty cX6_endsIfEmpty 1 (none) ∈ XT := List.mem_filter.mpr ⟨(List.mem_append_right _ (List.mem_append_right _ (List.mem_append_right _ (List.mem_append_right _ (List.mem_append_left _ (List.mem_of_getElem? (i := 139) (by decide +kernel))))))), by decide +kernel⟩
theorem wl_X6_97 : Cond.methodLink RX6 97 yX6_tickBit ∈ XT := List.mem_filter.mpr ⟨(List.mem_append_right _ (List.mem_append_right _ (List.mem_append_right _ (List.mem_append_right _ (List.mem_append_left _ (List.mem_of_getElem? (i := 140) (by decide +kernel))))))), by decide +kernel⟩
theorem wi_X6_tickBit : Cond.instanceMethod yX6_tickBit ∈ XT := List.mem_filter.mpr ⟨(List.mem_append_right _ (List.mem_append_right _ (List.mem_append_right _ (List.mem_append_right _ (List.mem_append_left _ (List.mem_of_getElem? (i := 142) (by decide +kernel))))))), by decide +kernel⟩
theorem wc_X6_tickBit : Cond.code yX6_tickBit cX6_tickBit 4 (none) ∈ XT := List.mem_filter.mpr ⟨(List.mem_append_right _ (List.mem_append_right _ (List.mem_append_right _ (List.mem_append_right _ (List.mem_append_left _ (List.mem_of_getElem? (i := 143) (by decide +kernel))))))), by decide +kernel⟩
theorem wl_X6_67 : Cond.methodLink RX6 67 yX6_logs ∈ XT := List.mem_filter.mpr ⟨(List.mem_append_right _ (List.mem_append_right _ (List.mem_append_right _ (List.mem_append_right _ (List.mem_append_left _ (List.mem_of_getElem? (i := 144) (by decide +kernel))))))), by decide +kernel⟩
theorem wi_X6_logs : Cond.instanceMethod yX6_logs ∈ XT := List.mem_filter.mpr ⟨(List.mem_append_right _ (List.mem_append_right _ (List.mem_append_right _ (List.mem_append_right _ (List.mem_append_left _ (List.mem_of_getElem? (i := 146) (by decide +kernel))))))), by decide +kernel⟩
theorem wc_X6_logs : Cond.code yX6_logs cX6_logs 5 (none) ∈ XT := List.mem_filter.mpr ⟨(List.mem_append_right _ (List.mem_append_right _ (List.mem_append_right _ (List.mem_append_right _ (List.mem_append_left _ (List.mem_of_getElem? (i := 147) (by decide +kernel))))))), by decide +kernel⟩
theorem wl_X6_71 : Cond.methodLink RX6 71 yX6_firstTalking ∈ XT := List.mem_filter.mpr ⟨(List.mem_append_right _ (List.mem_append_right _ (List.mem_append_right _ (List.mem_append_right _ (List.mem_append_left _ (List.mem_of_getElem? (i := 148) (by decide +kernel))))))), by decide +kernel⟩
theorem wi_X6_firstTalking : Cond.instanceMethod yX6_firstTalking ∈ XT := List.mem_filter.mpr ⟨(List.mem_append_right _ (List.mem_append_right _ (List.mem_append_right _ (List.mem_append_right _ (List.mem_append_left _ (List.mem_of_getElem? (i := 150) (by decide +kernel))))))), by decide +kernel⟩
theorem wc_X6_firstTalking : Cond.code yX6_firstTalking cX6_firstTalking 2 (some FieldType.int) ∈ XT := List.mem_filter.mpr ⟨(List.mem_append_right _ (List.mem_append_right _ (List.mem_append_right _ (List.mem_append_right _ (List.mem_append_left _ (List.mem_of_getElem? (i := 151) (by decide +kernel))))))), by decide +kernel⟩
theorem wl_X6_100 : Cond.methodLink RX6 100 yX6_tickFree ∈ XT := List.mem_filter.mpr ⟨(List.mem_append_right _ (List.mem_append_right _ (List.mem_append_right _ (List.mem_append_right _ (List.mem_append_left _ (List.mem_of_getElem? (i := 152) (by decide +kernel))))))), by decide +kernel⟩
theorem wi_X6_tickFree : Cond.instanceMethod yX6_tickFree ∈ XT := List.mem_filter.mpr ⟨(List.mem_append_right _ (List.mem_append_right _ (List.mem_append_right _ (List.mem_append_right _ (List.mem_append_left _ (List.mem_of_getElem? (i := 154) (by decide +kernel))))))), by decide +kernel⟩
theorem wc_X6_tickFree : Cond.code yX6_tickFree cX6_tickFree 2 (none) ∈ XT := List.mem_filter.mpr ⟨(List.mem_append_right _ (List.mem_append_right _ (List.mem_append_right _ (List.mem_append_right _ (List.mem_append_left _ (List.mem_of_getElem? (i := 155) (by decide +kernel))))))), by decide +kernel⟩
theorem wl_X6_85 : Cond.methodLink RX6 85 yX6_messages ∈ XT := List.mem_filter.mpr ⟨(List.mem_append_right _ (List.mem_append_right _ (List.mem_append_right _ (List.mem_append_right _ (List.mem_append_left _ (List.mem_of_getElem? (i := 156) (by decide +kernel))))))), by decide +kernel⟩
theorem wi_X6_messages : Cond.instanceMethod yX6_messages ∈ XT := List.mem_filter.mpr ⟨(List.mem_append_right _ (List.mem_append_right _ (List.mem_append_right _ (List.mem_append_right _ (List.mem_append_left _ (List.mem_of_getElem? (i := 158) (by decide +kernel))))))), by decide +kernel⟩
theorem wc_X6_messages : Cond.code yX6_messages cX6_messages 3 (some FieldType.int) ∈ XT := List.mem_filter.mpr ⟨(List.mem_append_right _ (List.mem_append_right _ (List.mem_append_right _ (List.mem_append_right _ (List.mem_append_left _ (List.mem_of_getElem? (i := 159) (by decide +kernel))))))), by decide +kernel⟩
theorem wl_X6_103 : Cond.methodLink RX6 103 yX6_tickUnanswered ∈ XT := List.mem_filter.mpr ⟨(List.mem_append_right _ (List.mem_append_right _ (List.mem_append_right _ (List.mem_append_right _ (List.mem_append_left _ (List.mem_of_getElem? (i := 160) (by decide +kernel))))))), by decide +kernel⟩
theorem wi_X6_tickUnanswered : Cond.instanceMethod yX6_tickUnanswered ∈ XT := List.mem_filter.mpr ⟨(List.mem_append_right _ (List.mem_append_right _ (List.mem_append_right _ (List.mem_append_right _ (List.mem_append_left _ (List.mem_of_getElem? (i := 162) (by decide +kernel))))))), by decide +kernel⟩
theorem wc_X6_tickUnanswered : Cond.code yX6_tickUnanswered cX6_tickUnanswered 2 (none) ∈ XT := List.mem_filter.mpr ⟨(List.mem_append_right _ (List.mem_append_right _ (List.mem_append_right _ (List.mem_append_right _ (List.mem_append_left _ (List.mem_of_getElem? (i := 163) (by decide +kernel))))))), by decide +kernel⟩
theorem wl_X6_81 : Cond.methodLink RX6 81 yX6_dropFirst ∈ XT := List.mem_filter.mpr ⟨(List.mem_append_right _ (List.mem_append_right _ (List.mem_append_right _ (List.mem_append_right _ (List.mem_append_left _ (List.mem_of_getElem? (i := 164) (by decide +kernel))))))), by decide +kernel⟩
theorem wi_X6_dropFirst : Cond.instanceMethod yX6_dropFirst ∈ XT := List.mem_filter.mpr ⟨(List.mem_append_right _ (List.mem_append_right _ (List.mem_append_right _ (List.mem_append_right _ (List.mem_append_left _ (List.mem_of_getElem? (i := 166) (by decide +kernel))))))), by decide +kernel⟩
theorem wc_X6_dropFirst : Cond.code yX6_dropFirst cX6_dropFirst 3 (none) ∈ XT := List.mem_filter.mpr ⟨(List.mem_append_right _ (List.mem_append_right _ (List.mem_append_right _ (List.mem_append_right _ (List.mem_append_left _ (List.mem_of_getElem? (i := 167) (by decide +kernel))))))), by decide +kernel⟩
theorem wl_X6_106 : Cond.methodLink RX6 106 yX6_tickAnswered ∈ XT := List.mem_filter.mpr ⟨(List.mem_append_right _ (List.mem_append_right _ (List.mem_append_right _ (List.mem_append_right _ (List.mem_append_left _ (List.mem_of_getElem? (i := 168) (by decide +kernel))))))), by decide +kernel⟩
theorem wi_X6_tickAnswered : Cond.instanceMethod yX6_tickAnswered ∈ XT := List.mem_filter.mpr ⟨(List.mem_append_right _ (List.mem_append_right _ (List.mem_append_right _ (List.mem_append_right _ (List.mem_append_left _ (List.mem_of_getElem? (i := 170) (by decide +kernel))))))), by decide +kernel⟩
theorem wc_X6_tickAnswered : Cond.code yX6_tickAnswered cX6_tickAnswered 4 (none) ∈ XT := List.mem_filter.mpr ⟨(List.mem_append_right _ (List.mem_append_right _ (List.mem_append_right _ (List.mem_append_right _ (List.mem_append_left _ (List.mem_of_getElem? (i := 171) (by decide +kernel))))))), by decide +kernel⟩
theorem wl_X6_78 : Cond.methodLink RX6 78 yX6_bitsOf ∈ XT := List.mem_filter.mpr ⟨(List.mem_append_right _ (List.mem_append_right _ (List.mem_append_right _ (List.mem_append_right _ (List.mem_append_left _ (List.mem_of_getElem? (i := 172) (by decide +kernel))))))), by decide +kernel⟩
theorem wt_X6_bitsOf : Cond.static yX6_bitsOf ∈ XT := List.mem_filter.mpr ⟨(List.mem_append_right _ (List.mem_append_right _ (List.mem_append_right _ (List.mem_append_right _ (List.mem_append_left _ (List.mem_of_getElem? (i := 173) (by decide +kernel))))))), by decide +kernel⟩
theorem wc_X6_bitsOf : Cond.code yX6_bitsOf cX6_bitsOf 1 (some FieldType.int) ∈ XT := List.mem_filter.mpr ⟨(List.mem_append_right _ (List.mem_append_right _ (List.mem_append_right _ (List.mem_append_right _ (List.mem_append_left _ (List.mem_of_getElem? (i := 174) (by decide +kernel))))))), by decide +kernel⟩
theorem wl_L_48 : Cond.methodLink RL 48 yX6_type ∈ XT := List.mem_filter.mpr ⟨(List.mem_append_right _ (List.mem_append_right _ (List.mem_append_right _ (List.mem_append_right _ (List.mem_append_left _ (List.mem_of_getElem? (i := 175) (by decide +kernel))))))), by decide +kernel⟩
theorem wi_X6_type : Cond.instanceMethod yX6_type ∈ XT := List.mem_filter.mpr ⟨(List.mem_append_right _ (List.mem_append_right _ (List.mem_append_right _ (List.mem_append_right _ (List.mem_append_left _ (List.mem_of_getElem? (i := 176) (by decide +kernel))))))), by decide +kernel⟩
theorem ws_X6_type : Cond.selects RX6 yX6_type yX6_type ∈ XT := List.mem_filter.mpr ⟨(List.mem_append_right _ (List.mem_append_right _ (List.mem_append_right _ (List.mem_append_right _ (List.mem_append_left _ (List.mem_of_getElem? (i := 177) (by decide +kernel))))))), by decide +kernel⟩
theorem wc_X6_type : Cond.code yX6_type cX6_type 2 (some FieldType.int) ∈ XT := List.mem_filter.mpr ⟨(List.mem_append_right _ (List.mem_append_right _ (List.mem_append_right _ (List.mem_append_right _ (List.mem_append_left _ (List.mem_of_getElem? (i := 178) (by decide +kernel))))))), by decide +kernel⟩
theorem wl_L_53 : Cond.methodLink RL 53 yX6_clearText ∈ XT := List.mem_filter.mpr ⟨(List.mem_append_right _ (List.mem_append_right _ (List.mem_append_right _ (List.mem_append_right _ (List.mem_append_left _ (List.mem_of_getElem? (i := 179) (by decide +kernel))))))), by decide +kernel⟩
theorem wi_X6_clearText : Cond.instanceMethod yX6_clearText ∈ XT := List.mem_filter.mpr ⟨(List.mem_append_right _ (List.mem_append_right _ (List.mem_append_right _ (List.mem_append_right _ (List.mem_append_left _ (List.mem_of_getElem? (i := 180) (by decide +kernel))))))), by decide +kernel⟩
theorem ws_X6_clearText : Cond.selects RX6 yX6_clearText yX6_clearText ∈ XT := List.mem_filter.mpr ⟨(List.mem_append_right _ (List.mem_append_right _ (List.mem_append_right _ (List.mem_append_right _ (List.mem_append_left _ (List.mem_of_getElem? (i := 181) (by decide +kernel))))))), by decide +kernel⟩
theorem wc_X6_clearText : Cond.code yX6_clearText cX6_clearText 2 (some FieldType.int) ∈ XT := List.mem_filter.mpr ⟨(List.mem_append_right _ (List.mem_append_right _ (List.mem_append_right _ (List.mem_append_right _ (List.mem_append_left _ (List.mem_of_getElem? (i := 182) (by decide +kernel))))))), by decide +kernel⟩
theorem wl_L_57 : Cond.methodLink RL 57 yX6_perform ∈ XT := List.mem_filter.mpr ⟨(List.mem_append_right _ (List.mem_append_right _ (List.mem_append_right _ (List.mem_append_right _ (List.mem_append_left _ (List.mem_of_getElem? (i := 183) (by decide +kernel))))))), by decide +kernel⟩
theorem wi_X6_perform : Cond.instanceMethod yX6_perform ∈ XT := List.mem_filter.mpr ⟨(List.mem_append_right _ (List.mem_append_right _ (List.mem_append_right _ (List.mem_append_right _ (List.mem_append_left _ (List.mem_of_getElem? (i := 184) (by decide +kernel))))))), by decide +kernel⟩
theorem ws_X6_perform : Cond.selects RX6 yX6_perform yX6_perform ∈ XT := List.mem_filter.mpr ⟨(List.mem_append_right _ (List.mem_append_right _ (List.mem_append_right _ (List.mem_append_right _ (List.mem_append_left _ (List.mem_of_getElem? (i := 185) (by decide +kernel))))))), by decide +kernel⟩
theorem wc_X6_perform : Cond.code yX6_perform cX6_perform 3 (some FieldType.int) ∈ XT := List.mem_filter.mpr ⟨(List.mem_append_right _ (List.mem_append_right _ (List.mem_append_right _ (List.mem_append_right _ (List.mem_append_left _ (List.mem_of_getElem? (i := 186) (by decide +kernel))))))), by decide +kernel⟩
theorem wl_X6_197 : Cond.methodLink RX6 197 yX6_go ∈ XT := List.mem_filter.mpr ⟨(List.mem_append_right _ (List.mem_append_right _ (List.mem_append_right _ (List.mem_append_right _ (List.mem_append_left _ (List.mem_of_getElem? (i := 187) (by decide +kernel))))))), by decide +kernel⟩
theorem wi_X6_go : Cond.instanceMethod yX6_go ∈ XT := List.mem_filter.mpr ⟨(List.mem_append_right _ (List.mem_append_right _ (List.mem_append_right _ (List.mem_append_right _ (List.mem_append_left _ (List.mem_of_getElem? (i := 189) (by decide +kernel))))))), by decide +kernel⟩
theorem wc_X6_go : Cond.code yX6_go cX6_go 6 (some FieldType.int) ∈ XT := List.mem_filter.mpr ⟨(List.mem_append_right _ (List.mem_append_right _ (List.mem_append_right _ (List.mem_append_right _ (List.mem_append_left _ (List.mem_of_getElem? (i := 190) (by decide +kernel))))))), by decide +kernel⟩
theorem wl_X6_188 : Cond.methodLink RX6 188 yX6_order ∈ XT := List.mem_filter.mpr ⟨(List.mem_append_right _ (List.mem_append_right _ (List.mem_append_right _ (List.mem_append_right _ (List.mem_append_left _ (List.mem_of_getElem? (i := 191) (by decide +kernel))))))), by decide +kernel⟩
theorem wi_X6_order : Cond.instanceMethod yX6_order ∈ XT := List.mem_filter.mpr ⟨(List.mem_append_right _ (List.mem_append_right _ (List.mem_append_right _ (List.mem_append_right _ (List.mem_append_left _ (List.mem_of_getElem? (i := 193) (by decide +kernel))))))), by decide +kernel⟩
theorem wc_X6_order : Cond.code yX6_order cX6_order 1 (none) ∈ XT := List.mem_filter.mpr ⟨(List.mem_append_right _ (List.mem_append_right _ (List.mem_append_right _ (List.mem_append_right _ (List.mem_append_left _ (List.mem_of_getElem? (i := 194) (by decide +kernel))))))), by decide +kernel⟩
theorem wl_X6_160 : Cond.methodLink RX6 160 yX6_sign ∈ XT := List.mem_filter.mpr ⟨(List.mem_append_right _ (List.mem_append_right _ (List.mem_append_right _ (List.mem_append_right _ (List.mem_append_left _ (List.mem_of_getElem? (i := 195) (by decide +kernel))))))), by decide +kernel⟩
theorem wi_X6_sign : Cond.instanceMethod yX6_sign ∈ XT := List.mem_filter.mpr ⟨(List.mem_append_right _ (List.mem_append_right _ (List.mem_append_right _ (List.mem_append_right _ (List.mem_append_left _ (List.mem_of_getElem? (i := 197) (by decide +kernel))))))), by decide +kernel⟩
theorem wc_X6_sign : Cond.code yX6_sign cX6_sign 2 (none) ∈ XT := List.mem_filter.mpr ⟨(List.mem_append_right _ (List.mem_append_right _ (List.mem_append_right _ (List.mem_append_right _ (List.mem_append_left _ (List.mem_of_getElem? (i := 198) (by decide +kernel))))))), by decide +kernel⟩
theorem wl_X6_173 : Cond.methodLink RX6 173 yX6_number ∈ XT := List.mem_filter.mpr ⟨(List.mem_append_right _ (List.mem_append_right _ (List.mem_append_right _ (List.mem_append_right _ (List.mem_append_left _ (List.mem_of_getElem? (i := 199) (by decide +kernel))))))), by decide +kernel⟩
theorem wi_X6_number : Cond.instanceMethod yX6_number ∈ XT := List.mem_filter.mpr ⟨(List.mem_append_right _ (List.mem_append_right _ (List.mem_append_right _ (List.mem_append_right _ (List.mem_append_left _ (List.mem_of_getElem? (i := 201) (by decide +kernel))))))), by decide +kernel⟩
theorem wc_X6_number : Cond.code yX6_number cX6_number 4 (some FieldType.int) ∈ XT := List.mem_filter.mpr ⟨(List.mem_append_right _ (List.mem_append_right _ (List.mem_append_right _ (List.mem_append_right _ (List.mem_append_left _ (List.mem_of_getElem? (i := 202) (by decide +kernel))))))), by decide +kernel⟩
theorem wl_X6_163 : Cond.methodLink RX6 163 yX6_isDigit ∈ XT := List.mem_filter.mpr ⟨(List.mem_append_right _ (List.mem_append_right _ (List.mem_append_right _ (List.mem_append_right _ (List.mem_append_left _ (List.mem_of_getElem? (i := 203) (by decide +kernel))))))), by decide +kernel⟩
theorem wi_X6_isDigit : Cond.instanceMethod yX6_isDigit ∈ XT := List.mem_filter.mpr ⟨(List.mem_append_right _ (List.mem_append_right _ (List.mem_append_right _ (List.mem_append_right _ (List.mem_append_left _ (List.mem_of_getElem? (i := 205) (by decide +kernel))))))), by decide +kernel⟩
theorem wc_X6_isDigit : Cond.code yX6_isDigit cX6_isDigit 1 (some FieldType.boolean) ∈ XT := List.mem_filter.mpr ⟨(List.mem_append_right _ (List.mem_append_right _ (List.mem_append_right _ (List.mem_append_right _ (List.mem_append_left _ (List.mem_of_getElem? (i := 206) (by decide +kernel))))))), by decide +kernel⟩
theorem wl_X6_179 : Cond.methodLink RX6 179 yX6_isNext ∈ XT := List.mem_filter.mpr ⟨(List.mem_append_right _ (List.mem_append_right _ (List.mem_append_right _ (List.mem_append_right _ (List.mem_append_left _ (List.mem_of_getElem? (i := 207) (by decide +kernel))))))), by decide +kernel⟩
theorem wi_X6_isNext : Cond.instanceMethod yX6_isNext ∈ XT := List.mem_filter.mpr ⟨(List.mem_append_right _ (List.mem_append_right _ (List.mem_append_right _ (List.mem_append_right _ (List.mem_append_left _ (List.mem_of_getElem? (i := 209) (by decide +kernel))))))), by decide +kernel⟩
theorem wc_X6_isNext : Cond.code yX6_isNext cX6_isNext 2 (some FieldType.boolean) ∈ XT := List.mem_filter.mpr ⟨(List.mem_append_right _ (List.mem_append_right _ (List.mem_append_right _ (List.mem_append_right _ (List.mem_append_left _ (List.mem_of_getElem? (i := 210) (by decide +kernel))))))), by decide +kernel⟩
theorem wl_X6_191 : Cond.methodLink RX6 191 yX6_does ∈ XT := List.mem_filter.mpr ⟨(List.mem_append_right _ (List.mem_append_right _ (List.mem_append_right _ (List.mem_append_right _ (List.mem_append_left _ (List.mem_of_getElem? (i := 211) (by decide +kernel))))))), by decide +kernel⟩
theorem wi_X6_does : Cond.instanceMethod yX6_does ∈ XT := List.mem_filter.mpr ⟨(List.mem_append_right _ (List.mem_append_right _ (List.mem_append_right _ (List.mem_append_right _ (List.mem_append_left _ (List.mem_of_getElem? (i := 213) (by decide +kernel))))))), by decide +kernel⟩
theorem wc_X6_does : Cond.code yX6_does cX6_does 1 (some FieldType.int) ∈ XT := List.mem_filter.mpr ⟨(List.mem_append_right _ (List.mem_append_right _ (List.mem_append_right _ (List.mem_append_right _ (List.mem_append_left _ (List.mem_of_getElem? (i := 214) (by decide +kernel))))))), by decide +kernel⟩
theorem wl_X6_201 : Cond.methodLink RX6 201 yX6_putBack ∈ XT := List.mem_filter.mpr ⟨(List.mem_append_right _ (List.mem_append_right _ (List.mem_append_right _ (List.mem_append_right _ (List.mem_append_left _ (List.mem_of_getElem? (i := 215) (by decide +kernel))))))), by decide +kernel⟩
theorem wi_X6_putBack : Cond.instanceMethod yX6_putBack ∈ XT := List.mem_filter.mpr ⟨(List.mem_append_right _ (List.mem_append_right _ (List.mem_append_right _ (List.mem_append_right _ (List.mem_append_left _ (List.mem_of_getElem? (i := 217) (by decide +kernel))))))), by decide +kernel⟩
theorem wc_X6_putBack : Cond.code yX6_putBack cX6_putBack 2 (none) ∈ XT := List.mem_filter.mpr ⟨(List.mem_append_right _ (List.mem_append_right _ (List.mem_append_right _ (List.mem_append_right _ (List.mem_append_left _ (List.mem_of_getElem? (i := 218) (by decide +kernel))))))), by decide +kernel⟩
theorem wl_L_61 : Cond.methodLink RL 61 yX6_stopped ∈ XT := List.mem_filter.mpr ⟨(List.mem_append_right _ (List.mem_append_right _ (List.mem_append_right _ (List.mem_append_right _ (List.mem_append_left _ (List.mem_of_getElem? (i := 219) (by decide +kernel))))))), by decide +kernel⟩
theorem wi_X6_stopped : Cond.instanceMethod yX6_stopped ∈ XT := List.mem_filter.mpr ⟨(List.mem_append_right _ (List.mem_append_right _ (List.mem_append_right _ (List.mem_append_right _ (List.mem_append_left _ (List.mem_of_getElem? (i := 220) (by decide +kernel))))))), by decide +kernel⟩
theorem ws_X6_stopped : Cond.selects RX6 yX6_stopped yX6_stopped ∈ XT := List.mem_filter.mpr ⟨(List.mem_append_right _ (List.mem_append_right _ (List.mem_append_right _ (List.mem_append_right _ (List.mem_append_left _ (List.mem_of_getElem? (i := 221) (by decide +kernel))))))), by decide +kernel⟩
theorem wc_X6_stopped : Cond.code yX6_stopped cX6_stopped 2 (some FieldType.int) ∈ XT := List.mem_filter.mpr ⟨(List.mem_append_right _ (List.mem_append_right _ (List.mem_append_right _ (List.mem_append_right _ (List.mem_append_left _ (List.mem_of_getElem? (i := 222) (by decide +kernel))))))), by decide +kernel⟩
theorem wl_L_65 : Cond.methodLink RL 65 yX6_undo ∈ XT := List.mem_filter.mpr ⟨(List.mem_append_right _ (List.mem_append_right _ (List.mem_append_right _ (List.mem_append_right _ (List.mem_append_left _ (List.mem_of_getElem? (i := 223) (by decide +kernel))))))), by decide +kernel⟩
theorem wi_X6_undo : Cond.instanceMethod yX6_undo ∈ XT := List.mem_filter.mpr ⟨(List.mem_append_right _ (List.mem_append_right _ (List.mem_append_right _ (List.mem_append_right _ (List.mem_append_left _ (List.mem_of_getElem? (i := 224) (by decide +kernel))))))), by decide +kernel⟩
theorem ws_X6_undo : Cond.selects RX6 yX6_undo yX6_undo ∈ XT := List.mem_filter.mpr ⟨(List.mem_append_right _ (List.mem_append_right _ (List.mem_append_right _ (List.mem_append_right _ (List.mem_append_left _ (List.mem_of_getElem? (i := 225) (by decide +kernel))))))), by decide +kernel⟩
theorem wc_X6_undo : Cond.code yX6_undo cX6_undo 2 (some FieldType.int) ∈ XT := List.mem_filter.mpr ⟨(List.mem_append_right _ (List.mem_append_right _ (List.mem_append_right _ (List.mem_append_right _ (List.mem_append_left _ (List.mem_of_getElem? (i := 226) (by decide +kernel))))))), by decide +kernel⟩
theorem wl_L_69 : Cond.methodLink RL 69 yX6_keep ∈ XT := List.mem_filter.mpr ⟨(List.mem_append_right _ (List.mem_append_right _ (List.mem_append_right _ (List.mem_append_right _ (List.mem_append_left _ (List.mem_of_getElem? (i := 227) (by decide +kernel))))))), by decide +kernel⟩
theorem wi_X6_keep : Cond.instanceMethod yX6_keep ∈ XT := List.mem_filter.mpr ⟨(List.mem_append_right _ (List.mem_append_right _ (List.mem_append_right _ (List.mem_append_right _ (List.mem_append_left _ (List.mem_of_getElem? (i := 228) (by decide +kernel))))))), by decide +kernel⟩
theorem ws_X6_keep : Cond.selects RX6 yX6_keep yX6_keep ∈ XT := List.mem_filter.mpr ⟨(List.mem_append_right _ (List.mem_append_right _ (List.mem_append_right _ (List.mem_append_right _ (List.mem_append_left _ (List.mem_of_getElem? (i := 229) (by decide +kernel))))))), by decide +kernel⟩
theorem wc_X6_keep : Cond.code yX6_keep cX6_keep 2 (some FieldType.int) ∈ XT := List.mem_filter.mpr ⟨(List.mem_append_right _ (List.mem_append_right _ (List.mem_append_right _ (List.mem_append_right _ (List.mem_append_left _ (List.mem_of_getElem? (i := 230) (by decide +kernel))))))), by decide +kernel⟩
theorem wl_L_73 : Cond.methodLink RL 73 yX6_restore ∈ XT := List.mem_filter.mpr ⟨(List.mem_append_right _ (List.mem_append_right _ (List.mem_append_right _ (List.mem_append_right _ (List.mem_append_left _ (List.mem_of_getElem? (i := 231) (by decide +kernel))))))), by decide +kernel⟩
theorem wi_X6_restore : Cond.instanceMethod yX6_restore ∈ XT := List.mem_filter.mpr ⟨(List.mem_append_right _ (List.mem_append_right _ (List.mem_append_right _ (List.mem_append_right _ (List.mem_append_left _ (List.mem_of_getElem? (i := 232) (by decide +kernel))))))), by decide +kernel⟩
theorem ws_X6_restore : Cond.selects RX6 yX6_restore yX6_restore ∈ XT := List.mem_filter.mpr ⟨(List.mem_append_right _ (List.mem_append_right _ (List.mem_append_right _ (List.mem_append_right _ (List.mem_append_left _ (List.mem_of_getElem? (i := 233) (by decide +kernel))))))), by decide +kernel⟩
theorem wc_X6_restore : Cond.code yX6_restore cX6_restore 2 (some FieldType.int) ∈ XT := List.mem_filter.mpr ⟨(List.mem_append_right _ (List.mem_append_right _ (List.mem_append_right _ (List.mem_append_right _ (List.mem_append_left _ (List.mem_of_getElem? (i := 234) (by decide +kernel))))))), by decide +kernel⟩
theorem wl_L_77 : Cond.methodLink RL 77 yX6_speaker ∈ XT := List.mem_filter.mpr ⟨(List.mem_append_right _ (List.mem_append_right _ (List.mem_append_right _ (List.mem_append_right _ (List.mem_append_left _ (List.mem_of_getElem? (i := 235) (by decide +kernel))))))), by decide +kernel⟩
theorem wi_X6_speaker : Cond.instanceMethod yX6_speaker ∈ XT := List.mem_filter.mpr ⟨(List.mem_append_right _ (List.mem_append_right _ (List.mem_append_right _ (List.mem_append_right _ (List.mem_append_left _ (List.mem_of_getElem? (i := 236) (by decide +kernel))))))), by decide +kernel⟩
theorem ws_X6_speaker : Cond.selects RX6 yX6_speaker yX6_speaker ∈ XT := List.mem_filter.mpr ⟨(List.mem_append_right _ (List.mem_append_right _ (List.mem_append_right _ (List.mem_append_right _ (List.mem_append_left _ (List.mem_of_getElem? (i := 237) (by decide +kernel))))))), by decide +kernel⟩
theorem wc_X6_speaker : Cond.code yX6_speaker cX6_speaker 3 (some FieldType.int) ∈ XT := List.mem_filter.mpr ⟨(List.mem_append_right _ (List.mem_append_right _ (List.mem_append_right _ (List.mem_append_right _ (List.mem_append_left _ (List.mem_of_getElem? (i := 238) (by decide +kernel))))))), by decide +kernel⟩
theorem wl_L_82 : Cond.methodLink RL 82 yX6_message ∈ XT := List.mem_filter.mpr ⟨(List.mem_append_right _ (List.mem_append_right _ (List.mem_append_right _ (List.mem_append_right _ (List.mem_append_left _ (List.mem_of_getElem? (i := 239) (by decide +kernel))))))), by decide +kernel⟩
theorem wi_X6_message : Cond.instanceMethod yX6_message ∈ XT := List.mem_filter.mpr ⟨(List.mem_append_right _ (List.mem_append_right _ (List.mem_append_right _ (List.mem_append_right _ (List.mem_append_right _ (List.mem_of_getElem? (i := 0) (by decide +kernel))))))), by decide +kernel⟩
theorem ws_X6_message : Cond.selects RX6 yX6_message yX6_message ∈ XT := List.mem_filter.mpr ⟨(List.mem_append_right _ (List.mem_append_right _ (List.mem_append_right _ (List.mem_append_right _ (List.mem_append_right _ (List.mem_of_getElem? (i := 1) (by decide +kernel))))))), by decide +kernel⟩
theorem wc_X6_message : Cond.code yX6_message cX6_message 4 (some FieldType.int) ∈ XT := List.mem_filter.mpr ⟨(List.mem_append_right _ (List.mem_append_right _ (List.mem_append_right _ (List.mem_append_right _ (List.mem_append_right _ (List.mem_of_getElem? (i := 2) (by decide +kernel))))))), by decide +kernel⟩
theorem wl_X6_207 : Cond.methodLink RX6 207 yX6_ticksOf ∈ XT := List.mem_filter.mpr ⟨(List.mem_append_right _ (List.mem_append_right _ (List.mem_append_right _ (List.mem_append_right _ (List.mem_append_right _ (List.mem_of_getElem? (i := 3) (by decide +kernel))))))), by decide +kernel⟩
theorem wi_X6_ticksOf : Cond.instanceMethod yX6_ticksOf ∈ XT := List.mem_filter.mpr ⟨(List.mem_append_right _ (List.mem_append_right _ (List.mem_append_right _ (List.mem_append_right _ (List.mem_append_right _ (List.mem_of_getElem? (i := 5) (by decide +kernel))))))), by decide +kernel⟩
theorem wc_X6_ticksOf : Cond.code yX6_ticksOf cX6_ticksOf 5 (some FieldType.int) ∈ XT := List.mem_filter.mpr ⟨(List.mem_append_right _ (List.mem_append_right _ (List.mem_append_right _ (List.mem_append_right _ (List.mem_append_right _ (List.mem_of_getElem? (i := 6) (by decide +kernel))))))), by decide +kernel⟩
theorem wl_L_86 : Cond.methodLink RL 86 yX6_listener ∈ XT := List.mem_filter.mpr ⟨(List.mem_append_right _ (List.mem_append_right _ (List.mem_append_right _ (List.mem_append_right _ (List.mem_append_right _ (List.mem_of_getElem? (i := 7) (by decide +kernel))))))), by decide +kernel⟩
theorem wi_X6_listener : Cond.instanceMethod yX6_listener ∈ XT := List.mem_filter.mpr ⟨(List.mem_append_right _ (List.mem_append_right _ (List.mem_append_right _ (List.mem_append_right _ (List.mem_append_right _ (List.mem_of_getElem? (i := 8) (by decide +kernel))))))), by decide +kernel⟩
theorem ws_X6_listener : Cond.selects RX6 yX6_listener yX6_listener ∈ XT := List.mem_filter.mpr ⟨(List.mem_append_right _ (List.mem_append_right _ (List.mem_append_right _ (List.mem_append_right _ (List.mem_append_right _ (List.mem_of_getElem? (i := 9) (by decide +kernel))))))), by decide +kernel⟩
theorem wc_X6_listener : Cond.code yX6_listener cX6_listener 3 (some FieldType.int) ∈ XT := List.mem_filter.mpr ⟨(List.mem_append_right _ (List.mem_append_right _ (List.mem_append_right _ (List.mem_append_right _ (List.mem_append_right _ (List.mem_of_getElem? (i := 10) (by decide +kernel))))))), by decide +kernel⟩
theorem wl_L_90 : Cond.methodLink RL 90 yX6_bit ∈ XT := List.mem_filter.mpr ⟨(List.mem_append_right _ (List.mem_append_right _ (List.mem_append_right _ (List.mem_append_right _ (List.mem_append_right _ (List.mem_of_getElem? (i := 11) (by decide +kernel))))))), by decide +kernel⟩
theorem wi_X6_bit : Cond.instanceMethod yX6_bit ∈ XT := List.mem_filter.mpr ⟨(List.mem_append_right _ (List.mem_append_right _ (List.mem_append_right _ (List.mem_append_right _ (List.mem_append_right _ (List.mem_of_getElem? (i := 12) (by decide +kernel))))))), by decide +kernel⟩
theorem ws_X6_bit : Cond.selects RX6 yX6_bit yX6_bit ∈ XT := List.mem_filter.mpr ⟨(List.mem_append_right _ (List.mem_append_right _ (List.mem_append_right _ (List.mem_append_right _ (List.mem_append_right _ (List.mem_of_getElem? (i := 13) (by decide +kernel))))))), by decide +kernel⟩
theorem wc_X6_bit : Cond.code yX6_bit cX6_bit 3 (some FieldType.int) ∈ XT := List.mem_filter.mpr ⟨(List.mem_append_right _ (List.mem_append_right _ (List.mem_append_right _ (List.mem_append_right _ (List.mem_append_right _ (List.mem_of_getElem? (i := 14) (by decide +kernel))))))), by decide +kernel⟩
theorem wl_L_94 : Cond.methodLink RL 94 yX6_winners ∈ XT := List.mem_filter.mpr ⟨(List.mem_append_right _ (List.mem_append_right _ (List.mem_append_right _ (List.mem_append_right _ (List.mem_append_right _ (List.mem_of_getElem? (i := 15) (by decide +kernel))))))), by decide +kernel⟩
theorem wi_X6_winners : Cond.instanceMethod yX6_winners ∈ XT := List.mem_filter.mpr ⟨(List.mem_append_right _ (List.mem_append_right _ (List.mem_append_right _ (List.mem_append_right _ (List.mem_append_right _ (List.mem_of_getElem? (i := 16) (by decide +kernel))))))), by decide +kernel⟩
theorem ws_X6_winners : Cond.selects RX6 yX6_winners yX6_winners ∈ XT := List.mem_filter.mpr ⟨(List.mem_append_right _ (List.mem_append_right _ (List.mem_append_right _ (List.mem_append_right _ (List.mem_append_right _ (List.mem_of_getElem? (i := 17) (by decide +kernel))))))), by decide +kernel⟩
theorem wc_X6_winners : Cond.code yX6_winners cX6_winners 7 (some FieldType.int) ∈ XT := List.mem_filter.mpr ⟨(List.mem_append_right _ (List.mem_append_right _ (List.mem_append_right _ (List.mem_append_right _ (List.mem_append_right _ (List.mem_of_getElem? (i := 18) (by decide +kernel))))))), by decide +kernel⟩
theorem wl_L_98 : Cond.methodLink RL 98 yX6_emptyIn ∈ XT := List.mem_filter.mpr ⟨(List.mem_append_right _ (List.mem_append_right _ (List.mem_append_right _ (List.mem_append_right _ (List.mem_append_right _ (List.mem_of_getElem? (i := 19) (by decide +kernel))))))), by decide +kernel⟩
theorem wi_X6_emptyIn : Cond.instanceMethod yX6_emptyIn ∈ XT := List.mem_filter.mpr ⟨(List.mem_append_right _ (List.mem_append_right _ (List.mem_append_right _ (List.mem_append_right _ (List.mem_append_right _ (List.mem_of_getElem? (i := 20) (by decide +kernel))))))), by decide +kernel⟩
theorem ws_X6_emptyIn : Cond.selects RX6 yX6_emptyIn yX6_emptyIn ∈ XT := List.mem_filter.mpr ⟨(List.mem_append_right _ (List.mem_append_right _ (List.mem_append_right _ (List.mem_append_right _ (List.mem_append_right _ (List.mem_of_getElem? (i := 21) (by decide +kernel))))))), by decide +kernel⟩
theorem wc_X6_emptyIn : Cond.code yX6_emptyIn cX6_emptyIn 3 (some FieldType.int) ∈ XT := List.mem_filter.mpr ⟨(List.mem_append_right _ (List.mem_append_right _ (List.mem_append_right _ (List.mem_append_right _ (List.mem_append_right _ (List.mem_of_getElem? (i := 22) (by decide +kernel))))))), by decide +kernel⟩
theorem wl_L_102 : Cond.methodLink RL 102 yX6_ifRun ∈ XT := List.mem_filter.mpr ⟨(List.mem_append_right _ (List.mem_append_right _ (List.mem_append_right _ (List.mem_append_right _ (List.mem_append_right _ (List.mem_of_getElem? (i := 23) (by decide +kernel))))))), by decide +kernel⟩
theorem wi_X6_ifRun : Cond.instanceMethod yX6_ifRun ∈ XT := List.mem_filter.mpr ⟨(List.mem_append_right _ (List.mem_append_right _ (List.mem_append_right _ (List.mem_append_right _ (List.mem_append_right _ (List.mem_of_getElem? (i := 24) (by decide +kernel))))))), by decide +kernel⟩
theorem ws_X6_ifRun : Cond.selects RX6 yX6_ifRun yX6_ifRun ∈ XT := List.mem_filter.mpr ⟨(List.mem_append_right _ (List.mem_append_right _ (List.mem_append_right _ (List.mem_append_right _ (List.mem_append_right _ (List.mem_of_getElem? (i := 25) (by decide +kernel))))))), by decide +kernel⟩
theorem wc_X6_ifRun : Cond.code yX6_ifRun cX6_ifRun 5 (some FieldType.int) ∈ XT := List.mem_filter.mpr ⟨(List.mem_append_right _ (List.mem_append_right _ (List.mem_append_right _ (List.mem_append_right _ (List.mem_append_right _ (List.mem_of_getElem? (i := 26) (by decide +kernel))))))), by decide +kernel⟩
theorem wl_L_106 : Cond.methodLink RL 106 yX6_count ∈ XT := List.mem_filter.mpr ⟨(List.mem_append_right _ (List.mem_append_right _ (List.mem_append_right _ (List.mem_append_right _ (List.mem_append_right _ (List.mem_of_getElem? (i := 27) (by decide +kernel))))))), by decide +kernel⟩
theorem wi_X6_count : Cond.instanceMethod yX6_count ∈ XT := List.mem_filter.mpr ⟨(List.mem_append_right _ (List.mem_append_right _ (List.mem_append_right _ (List.mem_append_right _ (List.mem_append_right _ (List.mem_of_getElem? (i := 28) (by decide +kernel))))))), by decide +kernel⟩
theorem ws_X6_count : Cond.selects RX6 yX6_count yX6_count ∈ XT := List.mem_filter.mpr ⟨(List.mem_append_right _ (List.mem_append_right _ (List.mem_append_right _ (List.mem_append_right _ (List.mem_append_right _ (List.mem_of_getElem? (i := 29) (by decide +kernel))))))), by decide +kernel⟩
theorem wc_X6_count : Cond.code yX6_count cX6_count 2 (some FieldType.int) ∈ XT := List.mem_filter.mpr ⟨(List.mem_append_right _ (List.mem_append_right _ (List.mem_append_right _ (List.mem_append_right _ (List.mem_append_right _ (List.mem_of_getElem? (i := 30) (by decide +kernel))))))), by decide +kernel⟩
theorem wf_J0_9 : Cond.fieldLink RJ0 9 "java/lang/String" "value" "[B" ∈ XT := List.mem_filter.mpr ⟨(List.mem_append_right _ (List.mem_append_right _ (List.mem_append_right _ (List.mem_append_right _ (List.mem_append_right _ (List.mem_of_getElem? (i := 31) (by decide +kernel))))))), by decide +kernel⟩
theorem wf_J0_15 : Cond.fieldLink RJ0 15 "java/lang/String" "coder" "B" ∈ XT := List.mem_filter.mpr ⟨(List.mem_append_right _ (List.mem_append_right _ (List.mem_append_right _ (List.mem_append_right _ (List.mem_append_right _ (List.mem_of_getElem? (i := 32) (by decide +kernel))))))), by decide +kernel⟩
theorem ws_X5_recorded : Cond.selects RX5 yX5_recorded yX5_recorded ∈ XT := List.mem_filter.mpr ⟨(List.mem_append_left _ (List.mem_of_getElem? (i := 0) (by decide +kernel))), by decide +kernel⟩
theorem ws_X4_listenerWith : Cond.selects RX4 yX4_listenerWith yX4_listenerWith ∈ XT := List.mem_filter.mpr ⟨(List.mem_append_left _ (List.mem_of_getElem? (i := 1) (by decide +kernel))), by decide +kernel⟩
theorem ws_X4_listenersWithAddress : Cond.selects RX4 yX4_listenersWithAddress yX4_listenersWithAddress ∈ XT := List.mem_filter.mpr ⟨(List.mem_append_left _ (List.mem_of_getElem? (i := 2) (by decide +kernel))), by decide +kernel⟩
theorem ws_X4_stuckListeners : Cond.selects RX4 yX4_stuckListeners yX4_stuckListeners ∈ XT := List.mem_filter.mpr ⟨(List.mem_append_left _ (List.mem_of_getElem? (i := 3) (by decide +kernel))), by decide +kernel⟩
theorem ws_X4_stuckTick : Cond.selects RX4 yX4_stuckTick yX4_stuckTick ∈ XT := List.mem_filter.mpr ⟨(List.mem_append_left _ (List.mem_of_getElem? (i := 4) (by decide +kernel))), by decide +kernel⟩
theorem ws_X4_lose : Cond.selects RX4 yX4_lose yX4_lose ∈ XT := List.mem_filter.mpr ⟨(List.mem_append_left _ (List.mem_of_getElem? (i := 5) (by decide +kernel))), by decide +kernel⟩
theorem ws_X4_endTalkIfEmpty : Cond.selects RX4 yX4_endTalkIfEmpty yX4_endTalkIfEmpty ∈ XT := List.mem_filter.mpr ⟨(List.mem_append_left _ (List.mem_of_getElem? (i := 6) (by decide +kernel))), by decide +kernel⟩
theorem ws_X4_sendBit : Cond.selects RX4 yX4_sendBit yX4_sendBit ∈ XT := List.mem_filter.mpr ⟨(List.mem_append_left _ (List.mem_of_getElem? (i := 7) (by decide +kernel))), by decide +kernel⟩
theorem ws_X4_partOfTalk : Cond.selects RX4 yX4_partOfTalk yX4_partOfTalk ∈ XT := List.mem_filter.mpr ⟨(List.mem_append_left _ (List.mem_of_getElem? (i := 8) (by decide +kernel))), by decide +kernel⟩
theorem ws_X4_awaitAnswer : Cond.selects RX4 yX4_awaitAnswer yX4_awaitAnswer ∈ XT := List.mem_filter.mpr ⟨(List.mem_append_left _ (List.mem_of_getElem? (i := 9) (by decide +kernel))), by decide +kernel⟩
theorem ws_X3_removeFirst : Cond.selects RX3 yX3_removeFirst yX3_removeFirst ∈ XT := List.mem_filter.mpr ⟨(List.mem_append_left _ (List.mem_of_getElem? (i := 10) (by decide +kernel))), by decide +kernel⟩
theorem ws_X4_freeTick : Cond.selects RX4 yX4_freeTick yX4_freeTick ∈ XT := List.mem_filter.mpr ⟨(List.mem_append_left _ (List.mem_of_getElem? (i := 11) (by decide +kernel))), by decide +kernel⟩
theorem ws_X2_readName : Cond.selects RX2 yX2_readName yX2_readName ∈ XT := List.mem_filter.mpr ⟨(List.mem_append_left _ (List.mem_of_getElem? (i := 12) (by decide +kernel))), by decide +kernel⟩
theorem ws_X2_sameCharacters : Cond.selects RX2 yX2_sameCharacters yX2_sameCharacters ∈ XT := List.mem_filter.mpr ⟨(List.mem_append_left _ (List.mem_of_getElem? (i := 13) (by decide +kernel))), by decide +kernel⟩
theorem ws_X2_isCharacter : Cond.selects RX2 yX2_isCharacter yX2_isCharacter ∈ XT := List.mem_filter.mpr ⟨(List.mem_append_left _ (List.mem_of_getElem? (i := 14) (by decide +kernel))), by decide +kernel⟩
theorem ws_X2_readNumbers : Cond.selects RX2 yX2_readNumbers yX2_readNumbers ∈ XT := List.mem_filter.mpr ⟨(List.mem_append_left _ (List.mem_of_getElem? (i := 15) (by decide +kernel))), by decide +kernel⟩
theorem ws_X2_readNumber : Cond.selects RX2 yX2_readNumber yX2_readNumber ∈ XT := List.mem_filter.mpr ⟨(List.mem_append_left _ (List.mem_of_getElem? (i := 16) (by decide +kernel))), by decide +kernel⟩
theorem ws_X2_skip : Cond.selects RX2 yX2_skip yX2_skip ∈ XT := List.mem_filter.mpr ⟨(List.mem_append_left _ (List.mem_of_getElem? (i := 17) (by decide +kernel))), by decide +kernel⟩
theorem ws_X2_mostOf : Cond.selects RX2 yX2_mostOf yX2_mostOf ∈ XT := List.mem_filter.mpr ⟨(List.mem_append_left _ (List.mem_of_getElem? (i := 18) (by decide +kernel))), by decide +kernel⟩
theorem ws_X2_digitHere : Cond.selects RX2 yX2_digitHere yX2_digitHere ∈ XT := List.mem_filter.mpr ⟨(List.mem_append_left _ (List.mem_of_getElem? (i := 19) (by decide +kernel))), by decide +kernel⟩
theorem ws_X2_leastOf : Cond.selects RX2 yX2_leastOf yX2_leastOf ∈ XT := List.mem_filter.mpr ⟨(List.mem_append_left _ (List.mem_of_getElem? (i := 20) (by decide +kernel))), by decide +kernel⟩
theorem ws_X5_carryOutOrder : Cond.selects RX5 yX5_carryOutOrder yX5_carryOutOrder ∈ XT := List.mem_filter.mpr ⟨(List.mem_append_left _ (List.mem_of_getElem? (i := 21) (by decide +kernel))), by decide +kernel⟩
theorem ws_X6_putAside : Cond.selects RX6 yX6_putAside yX6_putAside ∈ XT := List.mem_filter.mpr ⟨(List.mem_append_left _ (List.mem_of_getElem? (i := 22) (by decide +kernel))), by decide +kernel⟩
theorem ws_X6_says : Cond.selects RX6 yX6_says yX6_says ∈ XT := List.mem_filter.mpr ⟨(List.mem_append_left _ (List.mem_of_getElem? (i := 23) (by decide +kernel))), by decide +kernel⟩
theorem ws_X6_act : Cond.selects RX6 yX6_act yX6_act ∈ XT := List.mem_filter.mpr ⟨(List.mem_append_left _ (List.mem_of_getElem? (i := 24) (by decide +kernel))), by decide +kernel⟩
theorem ws_X6_takesBack : Cond.selects RX6 yX6_takesBack yX6_takesBack ∈ XT := List.mem_filter.mpr ⟨(List.mem_append_left _ (List.mem_of_getElem? (i := 25) (by decide +kernel))), by decide +kernel⟩
theorem ws_X6_isTalking : Cond.selects RX6 yX6_isTalking yX6_isTalking ∈ XT := List.mem_filter.mpr ⟨(List.mem_append_left _ (List.mem_of_getElem? (i := 26) (by decide +kernel))), by decide +kernel⟩
theorem ws_X6_hears : Cond.selects RX6 yX6_hears yX6_hears ∈ XT := List.mem_filter.mpr ⟨(List.mem_append_left _ (List.mem_of_getElem? (i := 27) (by decide +kernel))), by decide +kernel⟩
theorem ws_X6_listenerOf : Cond.selects RX6 yX6_listenerOf yX6_listenerOf ∈ XT := List.mem_filter.mpr ⟨(List.mem_append_left _ (List.mem_of_getElem? (i := 28) (by decide +kernel))), by decide +kernel⟩
theorem ws_X6_holds : Cond.selects RX6 yX6_holds yX6_holds ∈ XT := List.mem_filter.mpr ⟨(List.mem_append_left _ (List.mem_of_getElem? (i := 29) (by decide +kernel))), by decide +kernel⟩
theorem ws_X6_sticks : Cond.selects RX6 yX6_sticks yX6_sticks ∈ XT := List.mem_filter.mpr ⟨(List.mem_append_left _ (List.mem_of_getElem? (i := 30) (by decide +kernel))), by decide +kernel⟩
theorem ws_X6_stuck : Cond.selects RX6 yX6_stuck yX6_stuck ∈ XT := List.mem_filter.mpr ⟨(List.mem_append_left _ (List.mem_of_getElem? (i := 31) (by decide +kernel))), by decide +kernel⟩
theorem ws_X6_sets : Cond.selects RX6 yX6_sets yX6_sets ∈ XT := List.mem_filter.mpr ⟨(List.mem_append_left _ (List.mem_of_getElem? (i := 32) (by decide +kernel))), by decide +kernel⟩
theorem ws_X6_runs : Cond.selects RX6 yX6_runs yX6_runs ∈ XT := List.mem_filter.mpr ⟨(List.mem_append_left _ (List.mem_of_getElem? (i := 33) (by decide +kernel))), by decide +kernel⟩
theorem ws_X6_came : Cond.selects RX6 yX6_came yX6_came ∈ XT := List.mem_filter.mpr ⟨(List.mem_append_left _ (List.mem_of_getElem? (i := 34) (by decide +kernel))), by decide +kernel⟩
theorem ws_X6_tick : Cond.selects RX6 yX6_tick yX6_tick ∈ XT := List.mem_filter.mpr ⟨(List.mem_append_left _ (List.mem_of_getElem? (i := 35) (by decide +kernel))), by decide +kernel⟩
theorem ws_X6_next : Cond.selects RX6 yX6_next yX6_next ∈ XT := List.mem_filter.mpr ⟨(List.mem_append_left _ (List.mem_of_getElem? (i := 36) (by decide +kernel))), by decide +kernel⟩
theorem ws_X6_talking : Cond.selects RX6 yX6_talking yX6_talking ∈ XT := List.mem_filter.mpr ⟨(List.mem_append_left _ (List.mem_of_getElem? (i := 37) (by decide +kernel))), by decide +kernel⟩
theorem ws_X6_tickStuck : Cond.selects RX6 yX6_tickStuck yX6_tickStuck ∈ XT := List.mem_filter.mpr ⟨(List.mem_append_left _ (List.mem_of_getElem? (i := 38) (by decide +kernel))), by decide +kernel⟩
theorem ws_X6_lose : Cond.selects RX6 yX6_lose yX6_lose ∈ XT := List.mem_filter.mpr ⟨(List.mem_append_left _ (List.mem_of_getElem? (i := 39) (by decide +kernel))), by decide +kernel⟩
theorem ws_X6_bitAt : Cond.selects RX6 yX6_bitAt yX6_bitAt ∈ XT := List.mem_filter.mpr ⟨(List.mem_append_left _ (List.mem_of_getElem? (i := 40) (by decide +kernel))), by decide +kernel⟩
theorem ws_X6_inMessage : Cond.selects RX6 yX6_inMessage yX6_inMessage ∈ XT := List.mem_filter.mpr ⟨(List.mem_append_left _ (List.mem_of_getElem? (i := 41) (by decide +kernel))), by decide +kernel⟩
theorem ws_X6_endsIfEmpty : Cond.selects RX6 yX6_endsIfEmpty yX6_endsIfEmpty ∈ XT := List.mem_filter.mpr ⟨(List.mem_append_left _ (List.mem_of_getElem? (i := 42) (by decide +kernel))), by decide +kernel⟩
theorem ws_X6_tickBit : Cond.selects RX6 yX6_tickBit yX6_tickBit ∈ XT := List.mem_filter.mpr ⟨(List.mem_append_left _ (List.mem_of_getElem? (i := 43) (by decide +kernel))), by decide +kernel⟩
theorem ws_X6_logs : Cond.selects RX6 yX6_logs yX6_logs ∈ XT := List.mem_filter.mpr ⟨(List.mem_append_left _ (List.mem_of_getElem? (i := 44) (by decide +kernel))), by decide +kernel⟩
theorem ws_X6_firstTalking : Cond.selects RX6 yX6_firstTalking yX6_firstTalking ∈ XT := List.mem_filter.mpr ⟨(List.mem_append_left _ (List.mem_of_getElem? (i := 45) (by decide +kernel))), by decide +kernel⟩
theorem ws_X6_tickFree : Cond.selects RX6 yX6_tickFree yX6_tickFree ∈ XT := List.mem_filter.mpr ⟨(List.mem_append_left _ (List.mem_of_getElem? (i := 46) (by decide +kernel))), by decide +kernel⟩
theorem ws_X6_messages : Cond.selects RX6 yX6_messages yX6_messages ∈ XT := List.mem_filter.mpr ⟨(List.mem_append_left _ (List.mem_of_getElem? (i := 47) (by decide +kernel))), by decide +kernel⟩
theorem ws_X6_tickUnanswered : Cond.selects RX6 yX6_tickUnanswered yX6_tickUnanswered ∈ XT := List.mem_filter.mpr ⟨(List.mem_append_left _ (List.mem_of_getElem? (i := 48) (by decide +kernel))), by decide +kernel⟩
theorem ws_X6_dropFirst : Cond.selects RX6 yX6_dropFirst yX6_dropFirst ∈ XT := List.mem_filter.mpr ⟨(List.mem_append_left _ (List.mem_of_getElem? (i := 49) (by decide +kernel))), by decide +kernel⟩
theorem ws_X6_tickAnswered : Cond.selects RX6 yX6_tickAnswered yX6_tickAnswered ∈ XT := List.mem_filter.mpr ⟨(List.mem_append_left _ (List.mem_of_getElem? (i := 50) (by decide +kernel))), by decide +kernel⟩
theorem ws_X6_go : Cond.selects RX6 yX6_go yX6_go ∈ XT := List.mem_filter.mpr ⟨(List.mem_append_left _ (List.mem_of_getElem? (i := 51) (by decide +kernel))), by decide +kernel⟩
theorem ws_X6_order : Cond.selects RX6 yX6_order yX6_order ∈ XT := List.mem_filter.mpr ⟨(List.mem_append_left _ (List.mem_of_getElem? (i := 52) (by decide +kernel))), by decide +kernel⟩
theorem ws_X6_sign : Cond.selects RX6 yX6_sign yX6_sign ∈ XT := List.mem_filter.mpr ⟨(List.mem_append_left _ (List.mem_of_getElem? (i := 53) (by decide +kernel))), by decide +kernel⟩
theorem ws_X6_number : Cond.selects RX6 yX6_number yX6_number ∈ XT := List.mem_filter.mpr ⟨(List.mem_append_left _ (List.mem_of_getElem? (i := 54) (by decide +kernel))), by decide +kernel⟩
theorem ws_X6_isDigit : Cond.selects RX6 yX6_isDigit yX6_isDigit ∈ XT := List.mem_filter.mpr ⟨(List.mem_append_left _ (List.mem_of_getElem? (i := 55) (by decide +kernel))), by decide +kernel⟩
theorem ws_X6_isNext : Cond.selects RX6 yX6_isNext yX6_isNext ∈ XT := List.mem_filter.mpr ⟨(List.mem_append_left _ (List.mem_of_getElem? (i := 56) (by decide +kernel))), by decide +kernel⟩
theorem ws_X6_does : Cond.selects RX6 yX6_does yX6_does ∈ XT := List.mem_filter.mpr ⟨(List.mem_append_left _ (List.mem_of_getElem? (i := 57) (by decide +kernel))), by decide +kernel⟩
theorem ws_X6_putBack : Cond.selects RX6 yX6_putBack yX6_putBack ∈ XT := List.mem_filter.mpr ⟨(List.mem_append_left _ (List.mem_of_getElem? (i := 58) (by decide +kernel))), by decide +kernel⟩
theorem ws_X6_ticksOf : Cond.selects RX6 yX6_ticksOf yX6_ticksOf ∈ XT := List.mem_filter.mpr ⟨(List.mem_append_left _ (List.mem_of_getElem? (i := 59) (by decide +kernel))), by decide +kernel⟩
theorem wu_0 : ∀ w ∈ u_ws RX0 TX0 3, w ∈ XT := by decide +kernel
theorem wu_1 : ∀ w ∈ u_ws RX1 TX1 5, w ∈ XT := by decide +kernel
theorem wu_2 : ∀ w ∈ u_ws RX2 TX2 5, w ∈ XT := by decide +kernel
theorem wu_3 : ∀ w ∈ u_ws RX3 TX3 8, w ∈ XT := by decide +kernel
theorem wu_4 : ∀ w ∈ u_ws RX4 TX4 11, w ∈ XT := by decide +kernel
theorem wu_5 : ∀ w ∈ u_ws RX5 TX5 9, w ∈ XT := by decide +kernel
theorem wu_6 : ∀ w ∈ u_ws RX6 TX6 17, w ∈ XT := by decide +kernel
theorem fl_X0_11 : FL RX0 11 0 0 := ⟨RX0, TX0, 3, rfl, by decide, rfl, by decide, wf_X0_11, wu_0⟩
theorem fl_X0_21 : FL RX0 21 0 1 := ⟨RX0, TX0, 3, rfl, by decide, rfl, by decide, wf_X0_21, wu_0⟩
theorem fl_X0_25 : FL RX0 25 0 2 := ⟨RX0, TX0, 3, rfl, by decide, rfl, by decide, wf_X0_25, wu_0⟩
theorem fl_X1_15 : FL RX1 15 1 4 := ⟨RX1, TX1, 5, rfl, by decide, rfl, by decide, wf_X1_15, wu_1⟩
theorem fl_X1_18 : FL RX1 18 1 1 := ⟨RX1, TX1, 5, rfl, by decide, rfl, by decide, wf_X1_18, wu_1⟩
theorem fl_X1_21 : FL RX1 21 1 2 := ⟨RX1, TX1, 5, rfl, by decide, rfl, by decide, wf_X1_21, wu_1⟩
theorem fl_X1_24 : FL RX1 24 1 3 := ⟨RX1, TX1, 5, rfl, by decide, rfl, by decide, wf_X1_24, wu_1⟩
theorem fl_X1_9 : FL RX1 9 1 0 := ⟨RX1, TX1, 5, rfl, by decide, rfl, by decide, wf_X1_9, wu_1⟩
theorem fl_X2_11 : FL RX2 11 2 0 := ⟨RX2, TX2, 5, rfl, by decide, rfl, by decide, wf_X2_11, wu_2⟩
theorem fl_X2_15 : FL RX2 15 2 1 := ⟨RX2, TX2, 5, rfl, by decide, rfl, by decide, wf_X2_15, wu_2⟩
theorem fl_X2_19 : FL RX2 19 2 4 := ⟨RX2, TX2, 5, rfl, by decide, rfl, by decide, wf_X2_19, wu_2⟩
theorem fl_X2_23 : FL RX2 23 2 2 := ⟨RX2, TX2, 5, rfl, by decide, rfl, by decide, wf_X2_23, wu_2⟩
theorem fl_X2_30 : FL RX2 30 2 3 := ⟨RX2, TX2, 5, rfl, by decide, rfl, by decide, wf_X2_30, wu_2⟩
theorem fl_X3_21 : FL RX3 21 3 1 := ⟨RX3, TX3, 8, rfl, by decide, rfl, by decide, wf_X3_21, wu_3⟩
theorem fl_X3_25 : FL RX3 25 3 2 := ⟨RX3, TX3, 8, rfl, by decide, rfl, by decide, wf_X3_25, wu_3⟩
theorem fl_X3_29 : FL RX3 29 3 3 := ⟨RX3, TX3, 8, rfl, by decide, rfl, by decide, wf_X3_29, wu_3⟩
theorem fl_X3_32 : FL RX3 32 3 4 := ⟨RX3, TX3, 8, rfl, by decide, rfl, by decide, wf_X3_32, wu_3⟩
theorem fl_X3_35 : FL RX3 35 3 5 := ⟨RX3, TX3, 8, rfl, by decide, rfl, by decide, wf_X3_35, wu_3⟩
theorem fl_X3_38 : FL RX3 38 3 6 := ⟨RX3, TX3, 8, rfl, by decide, rfl, by decide, wf_X3_38, wu_3⟩
theorem fl_X3_41 : FL RX3 41 3 7 := ⟨RX3, TX3, 8, rfl, by decide, rfl, by decide, wf_X3_41, wu_3⟩
theorem fl_X3_9 : FL RX3 9 3 0 := ⟨RX3, TX3, 8, rfl, by decide, rfl, by decide, wf_X3_9, wu_3⟩
theorem fl_X4_103 : FL RX4 103 1 0 := ⟨RX1, TX1, 5, rfl, by decide, rfl, by decide, wf_X4_103, wu_1⟩
theorem fl_X4_11 : FL RX4 11 4 0 := ⟨RX4, TX4, 11, rfl, by decide, rfl, by decide, wf_X4_11, wu_4⟩
theorem fl_X4_110 : FL RX4 110 1 1 := ⟨RX1, TX1, 5, rfl, by decide, rfl, by decide, wf_X4_110, wu_1⟩
theorem fl_X4_113 : FL RX4 113 1 2 := ⟨RX1, TX1, 5, rfl, by decide, rfl, by decide, wf_X4_113, wu_1⟩
theorem fl_X4_19 : FL RX4 19 4 1 := ⟨RX4, TX4, 11, rfl, by decide, rfl, by decide, wf_X4_19, wu_4⟩
theorem fl_X4_208 : FL RX4 208 3 3 := ⟨RX3, TX3, 8, rfl, by decide, rfl, by decide, wf_X4_208, wu_3⟩
theorem fl_X4_23 : FL RX4 23 4 2 := ⟨RX4, TX4, 11, rfl, by decide, rfl, by decide, wf_X4_23, wu_4⟩
theorem fl_X4_30 : FL RX4 30 4 3 := ⟨RX4, TX4, 11, rfl, by decide, rfl, by decide, wf_X4_30, wu_4⟩
theorem fl_X4_52 : FL RX4 52 4 4 := ⟨RX4, TX4, 11, rfl, by decide, rfl, by decide, wf_X4_52, wu_4⟩
theorem fl_X4_56 : FL RX4 56 4 5 := ⟨RX4, TX4, 11, rfl, by decide, rfl, by decide, wf_X4_56, wu_4⟩
theorem fl_X4_59 : FL RX4 59 4 6 := ⟨RX4, TX4, 11, rfl, by decide, rfl, by decide, wf_X4_59, wu_4⟩
theorem fl_X4_62 : FL RX4 62 4 7 := ⟨RX4, TX4, 11, rfl, by decide, rfl, by decide, wf_X4_62, wu_4⟩
theorem fl_X4_65 : FL RX4 65 4 8 := ⟨RX4, TX4, 11, rfl, by decide, rfl, by decide, wf_X4_65, wu_4⟩
theorem fl_X4_68 : FL RX4 68 4 9 := ⟨RX4, TX4, 11, rfl, by decide, rfl, by decide, wf_X4_68, wu_4⟩
theorem fl_X4_71 : FL RX4 71 4 10 := ⟨RX4, TX4, 11, rfl, by decide, rfl, by decide, wf_X4_71, wu_4⟩
theorem fl_X4_82 : FL RX4 82 3 1 := ⟨RX3, TX3, 8, rfl, by decide, rfl, by decide, wf_X4_82, wu_3⟩
theorem fl_X4_89 : FL RX4 89 3 2 := ⟨RX3, TX3, 8, rfl, by decide, rfl, by decide, wf_X4_89, wu_3⟩
theorem fl_X5_10 : FL RX5 10 5 0 := ⟨RX5, TX5, 9, rfl, by decide, rfl, by decide, wf_X5_10, wu_5⟩
theorem fl_X5_102 : FL RX5 102 4 4 := ⟨RX4, TX4, 11, rfl, by decide, rfl, by decide, wf_X5_102, wu_4⟩
theorem fl_X5_109 : FL RX5 109 3 1 := ⟨RX3, TX3, 8, rfl, by decide, rfl, by decide, wf_X5_109, wu_3⟩
theorem fl_X5_114 : FL RX5 114 3 2 := ⟨RX3, TX3, 8, rfl, by decide, rfl, by decide, wf_X5_114, wu_3⟩
theorem fl_X5_117 : FL RX5 117 3 3 := ⟨RX3, TX3, 8, rfl, by decide, rfl, by decide, wf_X5_117, wu_3⟩
theorem fl_X5_120 : FL RX5 120 3 4 := ⟨RX3, TX3, 8, rfl, by decide, rfl, by decide, wf_X5_120, wu_3⟩
theorem fl_X5_123 : FL RX5 123 3 5 := ⟨RX3, TX3, 8, rfl, by decide, rfl, by decide, wf_X5_123, wu_3⟩
theorem fl_X5_126 : FL RX5 126 3 6 := ⟨RX3, TX3, 8, rfl, by decide, rfl, by decide, wf_X5_126, wu_3⟩
theorem fl_X5_129 : FL RX5 129 3 7 := ⟨RX3, TX3, 8, rfl, by decide, rfl, by decide, wf_X5_129, wu_3⟩
theorem fl_X5_149 : FL RX5 149 1 0 := ⟨RX1, TX1, 5, rfl, by decide, rfl, by decide, wf_X5_149, wu_1⟩
theorem fl_X5_154 : FL RX5 154 1 1 := ⟨RX1, TX1, 5, rfl, by decide, rfl, by decide, wf_X5_154, wu_1⟩
theorem fl_X5_157 : FL RX5 157 1 2 := ⟨RX1, TX1, 5, rfl, by decide, rfl, by decide, wf_X5_157, wu_1⟩
theorem fl_X5_16 : FL RX5 16 5 1 := ⟨RX5, TX5, 9, rfl, by decide, rfl, by decide, wf_X5_16, wu_5⟩
theorem fl_X5_160 : FL RX5 160 1 3 := ⟨RX1, TX1, 5, rfl, by decide, rfl, by decide, wf_X5_160, wu_1⟩
theorem fl_X5_163 : FL RX5 163 1 4 := ⟨RX1, TX1, 5, rfl, by decide, rfl, by decide, wf_X5_163, wu_1⟩
theorem fl_X5_166 : FL RX5 166 4 3 := ⟨RX4, TX4, 11, rfl, by decide, rfl, by decide, wf_X5_166, wu_4⟩
theorem fl_X5_19 : FL RX5 19 5 2 := ⟨RX5, TX5, 9, rfl, by decide, rfl, by decide, wf_X5_19, wu_5⟩
theorem fl_X5_209 : FL RX5 209 4 6 := ⟨RX4, TX4, 11, rfl, by decide, rfl, by decide, wf_X5_209, wu_4⟩
theorem fl_X5_212 : FL RX5 212 4 7 := ⟨RX4, TX4, 11, rfl, by decide, rfl, by decide, wf_X5_212, wu_4⟩
theorem fl_X5_215 : FL RX5 215 4 8 := ⟨RX4, TX4, 11, rfl, by decide, rfl, by decide, wf_X5_215, wu_4⟩
theorem fl_X5_218 : FL RX5 218 4 5 := ⟨RX4, TX4, 11, rfl, by decide, rfl, by decide, wf_X5_218, wu_4⟩
theorem fl_X5_224 : FL RX5 224 4 9 := ⟨RX4, TX4, 11, rfl, by decide, rfl, by decide, wf_X5_224, wu_4⟩
theorem fl_X5_227 : FL RX5 227 4 10 := ⟨RX4, TX4, 11, rfl, by decide, rfl, by decide, wf_X5_227, wu_4⟩
theorem fl_X5_233 : FL RX5 233 2 2 := ⟨RX2, TX2, 5, rfl, by decide, rfl, by decide, wf_X5_233, wu_2⟩
theorem fl_X5_239 : FL RX5 239 2 4 := ⟨RX2, TX2, 5, rfl, by decide, rfl, by decide, wf_X5_239, wu_2⟩
theorem fl_X5_26 : FL RX5 26 5 3 := ⟨RX5, TX5, 9, rfl, by decide, rfl, by decide, wf_X5_26, wu_5⟩
theorem fl_X5_30 : FL RX5 30 5 4 := ⟨RX5, TX5, 9, rfl, by decide, rfl, by decide, wf_X5_30, wu_5⟩
theorem fl_X5_33 : FL RX5 33 5 7 := ⟨RX5, TX5, 9, rfl, by decide, rfl, by decide, wf_X5_33, wu_5⟩
theorem fl_X5_37 : FL RX5 37 5 8 := ⟨RX5, TX5, 9, rfl, by decide, rfl, by decide, wf_X5_37, wu_5⟩
theorem fl_X5_95 : FL RX5 95 5 5 := ⟨RX5, TX5, 9, rfl, by decide, rfl, by decide, wf_X5_95, wu_5⟩
theorem fl_X5_98 : FL RX5 98 5 6 := ⟨RX5, TX5, 9, rfl, by decide, rfl, by decide, wf_X5_98, wu_5⟩
theorem fl_X6_13 : FL RX6 13 6 1 := ⟨RX6, TX6, 17, rfl, by decide, rfl, by decide, wf_X6_13, wu_6⟩
theorem fl_X6_150 : FL RX6 150 6 7 := ⟨RX6, TX6, 17, rfl, by decide, rfl, by decide, wf_X6_150, wu_6⟩
theorem fl_X6_153 : FL RX6 153 6 11 := ⟨RX6, TX6, 17, rfl, by decide, rfl, by decide, wf_X6_153, wu_6⟩
theorem fl_X6_157 : FL RX6 157 6 10 := ⟨RX6, TX6, 17, rfl, by decide, rfl, by decide, wf_X6_157, wu_6⟩
theorem fl_X6_16 : FL RX6 16 6 2 := ⟨RX6, TX6, 17, rfl, by decide, rfl, by decide, wf_X6_16, wu_6⟩
theorem fl_X6_167 : FL RX6 167 6 12 := ⟨RX6, TX6, 17, rfl, by decide, rfl, by decide, wf_X6_167, wu_6⟩
theorem fl_X6_170 : FL RX6 170 6 16 := ⟨RX6, TX6, 17, rfl, by decide, rfl, by decide, wf_X6_170, wu_6⟩
theorem fl_X6_176 : FL RX6 176 6 13 := ⟨RX6, TX6, 17, rfl, by decide, rfl, by decide, wf_X6_176, wu_6⟩
theorem fl_X6_182 : FL RX6 182 6 14 := ⟨RX6, TX6, 17, rfl, by decide, rfl, by decide, wf_X6_182, wu_6⟩
theorem fl_X6_185 : FL RX6 185 6 15 := ⟨RX6, TX6, 17, rfl, by decide, rfl, by decide, wf_X6_185, wu_6⟩
theorem fl_X6_19 : FL RX6 19 6 4 := ⟨RX6, TX6, 17, rfl, by decide, rfl, by decide, wf_X6_19, wu_6⟩
theorem fl_X6_194 : FL RX6 194 6 9 := ⟨RX6, TX6, 17, rfl, by decide, rfl, by decide, wf_X6_194, wu_6⟩
theorem fl_X6_204 : FL RX6 204 6 5 := ⟨RX6, TX6, 17, rfl, by decide, rfl, by decide, wf_X6_204, wu_6⟩
theorem fl_X6_22 : FL RX6 22 6 6 := ⟨RX6, TX6, 17, rfl, by decide, rfl, by decide, wf_X6_22, wu_6⟩
theorem fl_X6_25 : FL RX6 25 6 8 := ⟨RX6, TX6, 17, rfl, by decide, rfl, by decide, wf_X6_25, wu_6⟩
theorem fl_X6_40 : FL RX6 40 6 3 := ⟨RX6, TX6, 17, rfl, by decide, rfl, by decide, wf_X6_40, wu_6⟩
theorem fl_X6_7 : FL RX6 7 6 0 := ⟨RX6, TX6, 17, rfl, by decide, rfl, by decide, wf_X6_7, wu_6⟩
theorem fp_0_0 : FP 0 0 true (.array .int) := ⟨RX0, TX0, 3, tyX0, rfl, tyX0_ok, nmX0, rfl, by decide +kernel, rfl⟩
theorem fp_0_1 : FP 0 1 false (.int) := ⟨RX0, TX0, 3, tyX0, rfl, tyX0_ok, nmX0, rfl, by decide +kernel, rfl⟩
theorem fp_0_2 : FP 0 2 false (.int) := ⟨RX0, TX0, 3, tyX0, rfl, tyX0_ok, nmX0, rfl, by decide +kernel, rfl⟩
theorem fp_1_0 : FP 1 0 false (.int) := ⟨RX1, TX1, 5, tyX1, rfl, tyX1_ok, nmX1, rfl, by decide +kernel, rfl⟩
theorem fp_1_1 : FP 1 1 false (.int) := ⟨RX1, TX1, 5, tyX1, rfl, tyX1_ok, nmX1, rfl, by decide +kernel, rfl⟩
theorem fp_1_2 : FP 1 2 false (.int) := ⟨RX1, TX1, 5, tyX1, rfl, tyX1_ok, nmX1, rfl, by decide +kernel, rfl⟩
theorem fp_1_3 : FP 1 3 false (.int) := ⟨RX1, TX1, 5, tyX1, rfl, tyX1_ok, nmX1, rfl, by decide +kernel, rfl⟩
theorem fp_1_4 : FP 1 4 false (.int) := ⟨RX1, TX1, 5, tyX1, rfl, tyX1_ok, nmX1, rfl, by decide +kernel, rfl⟩
theorem fp_2_0 : FP 2 0 true (.array .char) := ⟨RX2, TX2, 5, tyX2, rfl, tyX2_ok, nmX2, rfl, by decide +kernel, rfl⟩
theorem fp_2_1 : FP 2 1 true (.array .int) := ⟨RX2, TX2, 5, tyX2, rfl, tyX2_ok, nmX2, rfl, by decide +kernel, rfl⟩
theorem fp_2_2 : FP 2 2 false (.int) := ⟨RX2, TX2, 5, tyX2, rfl, tyX2_ok, nmX2, rfl, by decide +kernel, rfl⟩
theorem fp_2_3 : FP 2 3 false (.int) := ⟨RX2, TX2, 5, tyX2, rfl, tyX2_ok, nmX2, rfl, by decide +kernel, rfl⟩
theorem fp_2_4 : FP 2 4 false (.int) := ⟨RX2, TX2, 5, tyX2, rfl, tyX2_ok, nmX2, rfl, by decide +kernel, rfl⟩
theorem fp_3_0 : FP 3 0 true (.array .int) := ⟨RX3, TX3, 8, tyX3, rfl, tyX3_ok, nmX3, rfl, by decide +kernel, rfl⟩
theorem fp_3_1 : FP 3 1 false (.int) := ⟨RX3, TX3, 8, tyX3, rfl, tyX3_ok, nmX3, rfl, by decide +kernel, rfl⟩
theorem fp_3_2 : FP 3 2 false (.boolean) := ⟨RX3, TX3, 8, tyX3, rfl, tyX3_ok, nmX3, rfl, by decide +kernel, rfl⟩
theorem fp_3_3 : FP 3 3 false (.int) := ⟨RX3, TX3, 8, tyX3, rfl, tyX3_ok, nmX3, rfl, by decide +kernel, rfl⟩
theorem fp_3_4 : FP 3 4 false (.int) := ⟨RX3, TX3, 8, tyX3, rfl, tyX3_ok, nmX3, rfl, by decide +kernel, rfl⟩
theorem fp_3_5 : FP 3 5 false (.int) := ⟨RX3, TX3, 8, tyX3, rfl, tyX3_ok, nmX3, rfl, by decide +kernel, rfl⟩
theorem fp_3_6 : FP 3 6 false (.int) := ⟨RX3, TX3, 8, tyX3, rfl, tyX3_ok, nmX3, rfl, by decide +kernel, rfl⟩
theorem fp_3_7 : FP 3 7 false (.int) := ⟨RX3, TX3, 8, tyX3, rfl, tyX3_ok, nmX3, rfl, by decide +kernel, rfl⟩
theorem fp_4_0 : FP 4 0 true (.array (.object "PulledWires$Speaker")) := ⟨RX4, TX4, 11, tyX4, rfl, tyX4_ok, nmX4, rfl, by decide +kernel, rfl⟩
theorem fp_4_1 : FP 4 1 true (.array (.object "PulledWires$Listener")) := ⟨RX4, TX4, 11, tyX4, rfl, tyX4_ok, nmX4, rfl, by decide +kernel, rfl⟩
theorem fp_4_2 : FP 4 2 true (.array .int) := ⟨RX4, TX4, 11, tyX4, rfl, tyX4_ok, nmX4, rfl, by decide +kernel, rfl⟩
theorem fp_4_3 : FP 4 3 true (.object "PulledWires$BitLog") := ⟨RX4, TX4, 11, tyX4, rfl, tyX4_ok, nmX4, rfl, by decide +kernel, rfl⟩
theorem fp_4_4 : FP 4 4 false (.int) := ⟨RX4, TX4, 11, tyX4, rfl, tyX4_ok, nmX4, rfl, by decide +kernel, rfl⟩
theorem fp_4_5 : FP 4 5 false (.int) := ⟨RX4, TX4, 11, tyX4, rfl, tyX4_ok, nmX4, rfl, by decide +kernel, rfl⟩
theorem fp_4_6 : FP 4 6 false (.int) := ⟨RX4, TX4, 11, tyX4, rfl, tyX4_ok, nmX4, rfl, by decide +kernel, rfl⟩
theorem fp_4_7 : FP 4 7 false (.int) := ⟨RX4, TX4, 11, tyX4, rfl, tyX4_ok, nmX4, rfl, by decide +kernel, rfl⟩
theorem fp_4_8 : FP 4 8 false (.int) := ⟨RX4, TX4, 11, tyX4, rfl, tyX4_ok, nmX4, rfl, by decide +kernel, rfl⟩
theorem fp_4_9 : FP 4 9 false (.int) := ⟨RX4, TX4, 11, tyX4, rfl, tyX4_ok, nmX4, rfl, by decide +kernel, rfl⟩
theorem fp_4_10 : FP 4 10 false (.int) := ⟨RX4, TX4, 11, tyX4, rfl, tyX4_ok, nmX4, rfl, by decide +kernel, rfl⟩
theorem fp_5_0 : FP 5 0 true (.object "PulledWires$State") := ⟨RX5, TX5, 9, tyX5, rfl, tyX5_ok, nmX5, rfl, by decide +kernel, rfl⟩
theorem fp_5_1 : FP 5 1 true (.object "PulledWires$State") := ⟨RX5, TX5, 9, tyX5, rfl, tyX5_ok, nmX5, rfl, by decide +kernel, rfl⟩
theorem fp_5_2 : FP 5 2 true (.array (.object "PulledWires$State")) := ⟨RX5, TX5, 9, tyX5, rfl, tyX5_ok, nmX5, rfl, by decide +kernel, rfl⟩
theorem fp_5_3 : FP 5 3 true (.object "PulledWires$OrderText") := ⟨RX5, TX5, 9, tyX5, rfl, tyX5_ok, nmX5, rfl, by decide +kernel, rfl⟩
theorem fp_5_4 : FP 5 4 false (.object "PulledWires$State") := ⟨RX5, TX5, 9, tyX5, rfl, tyX5_ok, nmX5, rfl, by decide +kernel, rfl⟩
theorem fp_5_5 : FP 5 5 false (.int) := ⟨RX5, TX5, 9, tyX5, rfl, tyX5_ok, nmX5, rfl, by decide +kernel, rfl⟩
theorem fp_5_6 : FP 5 6 false (.boolean) := ⟨RX5, TX5, 9, tyX5, rfl, tyX5_ok, nmX5, rfl, by decide +kernel, rfl⟩
theorem fp_5_7 : FP 5 7 false (.int) := ⟨RX5, TX5, 9, tyX5, rfl, tyX5_ok, nmX5, rfl, by decide +kernel, rfl⟩
theorem fp_5_8 : FP 5 8 false (.int) := ⟨RX5, TX5, 9, tyX5, rfl, tyX5_ok, nmX5, rfl, by decide +kernel, rfl⟩
theorem fp_6_0 : FP 6 0 true (.array .int) := ⟨RX6, TX6, 17, tyX6, rfl, tyX6_ok, nmX6, rfl, by decide +kernel, rfl⟩
theorem fp_6_1 : FP 6 1 true (.array .int) := ⟨RX6, TX6, 17, tyX6, rfl, tyX6_ok, nmX6, rfl, by decide +kernel, rfl⟩
theorem fp_6_2 : FP 6 2 true (.array .int) := ⟨RX6, TX6, 17, tyX6, rfl, tyX6_ok, nmX6, rfl, by decide +kernel, rfl⟩
theorem fp_6_3 : FP 6 3 false (.int) := ⟨RX6, TX6, 17, tyX6, rfl, tyX6_ok, nmX6, rfl, by decide +kernel, rfl⟩
theorem fp_6_4 : FP 6 4 true (.array .int) := ⟨RX6, TX6, 17, tyX6, rfl, tyX6_ok, nmX6, rfl, by decide +kernel, rfl⟩
theorem fp_6_5 : FP 6 5 false (.boolean) := ⟨RX6, TX6, 17, tyX6, rfl, tyX6_ok, nmX6, rfl, by decide +kernel, rfl⟩
theorem fp_6_6 : FP 6 6 true (.array .int) := ⟨RX6, TX6, 17, tyX6, rfl, tyX6_ok, nmX6, rfl, by decide +kernel, rfl⟩
theorem fp_6_7 : FP 6 7 false (.int) := ⟨RX6, TX6, 17, tyX6, rfl, tyX6_ok, nmX6, rfl, by decide +kernel, rfl⟩
theorem fp_6_8 : FP 6 8 false (.int) := ⟨RX6, TX6, 17, tyX6, rfl, tyX6_ok, nmX6, rfl, by decide +kernel, rfl⟩
theorem fp_6_9 : FP 6 9 false (.int) := ⟨RX6, TX6, 17, tyX6, rfl, tyX6_ok, nmX6, rfl, by decide +kernel, rfl⟩
theorem fp_6_10 : FP 6 10 false (.int) := ⟨RX6, TX6, 17, tyX6, rfl, tyX6_ok, nmX6, rfl, by decide +kernel, rfl⟩
theorem fp_6_11 : FP 6 11 false (.boolean) := ⟨RX6, TX6, 17, tyX6, rfl, tyX6_ok, nmX6, rfl, by decide +kernel, rfl⟩
theorem fp_6_12 : FP 6 12 false (.int) := ⟨RX6, TX6, 17, tyX6, rfl, tyX6_ok, nmX6, rfl, by decide +kernel, rfl⟩
theorem fp_6_13 : FP 6 13 false (.int) := ⟨RX6, TX6, 17, tyX6, rfl, tyX6_ok, nmX6, rfl, by decide +kernel, rfl⟩
theorem fp_6_14 : FP 6 14 false (.int) := ⟨RX6, TX6, 17, tyX6, rfl, tyX6_ok, nmX6, rfl, by decide +kernel, rfl⟩
theorem fp_6_15 : FP 6 15 false (.int) := ⟨RX6, TX6, 17, tyX6, rfl, tyX6_ok, nmX6, rfl, by decide +kernel, rfl⟩
theorem fp_6_16 : FP 6 16 false (.int) := ⟨RX6, TX6, 17, tyX6, rfl, tyX6_ok, nmX6, rfl, by decide +kernel, rfl⟩
abbrev mX0_init : MT := (yX0_init, cX0_init, 1, none, { frames := 1, cells := 0, slots := 0, locals := 20 }, 0)
theorem kX0_init : xM mX0_init := ⟨wc_X0_init, wz_X0, by decide +kernel, by decide +kernel, by decide +kernel⟩
theorem kiX0_init : xMI mX0_init := ⟨kX0_init, wi_X0_init, rfl, rfl⟩
abbrev mX0_copyFrom : MT := (yX0_copyFrom, cX0_copyFrom, 2, none, { frames := 1, cells := 0, slots := 0, locals := 60 }, 1)
theorem kX0_copyFrom : xM mX0_copyFrom := ⟨wc_X0_copyFrom, wz_X0, by decide +kernel, by decide +kernel, by decide +kernel⟩
theorem kvX0_copyFrom : xMV mX0_copyFrom 0 := ⟨kX0_copyFrom, wi_X0_copyFrom, ws_X0_copyFrom, by decide, rfl⟩
abbrev mX0_add : MT := (yX0_add, cX0_add, 6, none, { frames := 1, cells := 0, slots := 0, locals := 22 }, 4)
theorem kX0_add : xM mX0_add := ⟨wc_X0_add, wz_X0, by decide +kernel, by decide +kernel, by decide +kernel⟩
theorem kvX0_add : xMV mX0_add 0 := ⟨kX0_add, wi_X0_add, ws_X0_add, by decide, rfl⟩
abbrev mX0_tell : MT := (yX0_tell, cX0_tell, 3, some FieldType.int, { frames := 1, cells := 0, slots := 0, locals := 22 }, 2)
theorem kX0_tell : xM mX0_tell := ⟨wc_X0_tell, wz_X0, by decide +kernel, by decide +kernel, by decide +kernel⟩
theorem kvX0_tell : xMV mX0_tell 0 := ⟨kX0_tell, wi_X0_tell, ws_X0_tell, by decide, rfl⟩
abbrev mX1_init : MT := (yX1_init, cX1_init, 1, none, { frames := 1, cells := 0, slots := 0, locals := 20 }, 0)
theorem kX1_init : xM mX1_init := ⟨wc_X1_init, wz_X1, by decide +kernel, by decide +kernel, by decide +kernel⟩
theorem kiX1_init : xMI mX1_init := ⟨kX1_init, wi_X1_init, rfl, rfl⟩
abbrev mX1_copyFrom : MT := (yX1_copyFrom, cX1_copyFrom, 2, none, { frames := 0, cells := 0, slots := 0, locals := 0 }, 1)
theorem kX1_copyFrom : xM mX1_copyFrom := ⟨wc_X1_copyFrom, wz_X1, by decide +kernel, by decide +kernel, by decide +kernel⟩
theorem kvX1_copyFrom : xMV mX1_copyFrom 1 := ⟨kX1_copyFrom, wi_X1_copyFrom, ws_X1_copyFrom, by decide, rfl⟩
abbrev mX1_takeWord : MT := (yX1_takeWord, cX1_takeWord, 2, none, { frames := 0, cells := 0, slots := 0, locals := 0 }, 1)
theorem kX1_takeWord : xM mX1_takeWord := ⟨wc_X1_takeWord, wz_X1, by decide +kernel, by decide +kernel, by decide +kernel⟩
theorem kvX1_takeWord : xMV mX1_takeWord 1 := ⟨kX1_takeWord, wi_X1_takeWord, ws_X1_takeWord, by decide, rfl⟩
abbrev mX2_init : MT := (yX2_init, cX2_init, 1, none, { frames := 1, cells := 0, slots := 0, locals := 20 }, 0)
theorem kX2_init : xM mX2_init := ⟨wc_X2_init, wz_X2, by decide +kernel, by decide +kernel, by decide +kernel⟩
theorem kiX2_init : xMI mX2_init := ⟨kX2_init, wi_X2_init, rfl, rfl⟩
abbrev mX2_append : MT := (yX2_append, cX2_append, 2, some FieldType.int, { frames := 1, cells := 0, slots := 0, locals := 21 }, 1)
theorem kX2_append : xM mX2_append := ⟨wc_X2_append, wz_X2, by decide +kernel, by decide +kernel, by decide +kernel⟩
theorem kvX2_append : xMV mX2_append 2 := ⟨kX2_append, wi_X2_append, ws_X2_append, by decide, rfl⟩
abbrev mX2_empty : MT := (yX2_empty, cX2_empty, 2, some FieldType.int, { frames := 0, cells := 0, slots := 0, locals := 0 }, 0)
theorem kX2_empty : xM mX2_empty := ⟨wc_X2_empty, wz_X2, by decide +kernel, by decide +kernel, by decide +kernel⟩
theorem kvX2_empty : xMV mX2_empty 2 := ⟨kX2_empty, wi_X2_empty, ws_X2_empty, by decide, rfl⟩
abbrev mX2_rewind : MT := (yX2_rewind, cX2_rewind, 1, none, { frames := 0, cells := 0, slots := 0, locals := 0 }, 0)
theorem kX2_rewind : xM mX2_rewind := ⟨wc_X2_rewind, wz_X2, by decide +kernel, by decide +kernel, by decide +kernel⟩
theorem kvX2_rewind : xMV mX2_rewind 2 := ⟨kX2_rewind, wi_X2_rewind, ws_X2_rewind, by decide, rfl⟩
abbrev mX2_number : MT := (yX2_number, cX2_number, 2, some FieldType.int, { frames := 1, cells := 0, slots := 0, locals := 21 }, 1)
theorem kX2_number : xM mX2_number := ⟨wc_X2_number, wz_X2, by decide +kernel, by decide +kernel, by decide +kernel⟩
theorem kvX2_number : xMV mX2_number 2 := ⟨kX2_number, wi_X2_number, ws_X2_number, by decide, rfl⟩
abbrev mX2_countOrders : MT := (yX2_countOrders, cX2_countOrders, 2, some FieldType.int, { frames := 8, cells := 0, slots := 0, locals := 172 }, 0)
theorem kX2_countOrders : xM mX2_countOrders := ⟨wc_X2_countOrders, wz_X2, by decide +kernel, by decide +kernel, by decide +kernel⟩
theorem kvX2_countOrders : xMV mX2_countOrders 2 := ⟨kX2_countOrders, wi_X2_countOrders, ws_X2_countOrders, by decide, rfl⟩
abbrev mX2_readOrder : MT := (yX2_readOrder, cX2_readOrder, 1, some FieldType.boolean, { frames := 7, cells := 0, slots := 0, locals := 152 }, 0)
theorem kX2_readOrder : xM mX2_readOrder := ⟨wc_X2_readOrder, wz_X2, by decide +kernel, by decide +kernel, by decide +kernel⟩
theorem kvX2_readOrder : xMV mX2_readOrder 2 := ⟨kX2_readOrder, wi_X2_readOrder, ws_X2_readOrder, by decide, rfl⟩
abbrev mX2_skipSeparator : MT := (yX2_skipSeparator, cX2_skipSeparator, 1, some FieldType.boolean, { frames := 3, cells := 0, slots := 0, locals := 64 }, 0)
theorem kX2_skipSeparator : xM mX2_skipSeparator := ⟨wc_X2_skipSeparator, wz_X2, by decide +kernel, by decide +kernel, by decide +kernel⟩
theorem kvX2_skipSeparator : xMV mX2_skipSeparator 2 := ⟨kX2_skipSeparator, wi_X2_skipSeparator, ws_X2_skipSeparator, by decide, rfl⟩
abbrev mX2_readName : MT := (yX2_readName, cX2_readName, 5, some FieldType.boolean, { frames := 6, cells := 0, slots := 0, locals := 128 }, 0)
theorem kX2_readName : xM mX2_readName := ⟨wc_X2_readName, wz_X2, by decide +kernel, by decide +kernel, by decide +kernel⟩
theorem kvX2_readName : xMV mX2_readName 2 := ⟨kX2_readName, wi_X2_readName, ws_X2_readName, by decide, rfl⟩
abbrev mX2_sameCharacters : MT := (yX2_sameCharacters, cX2_sameCharacters, 3, some FieldType.int, { frames := 5, cells := 0, slots := 0, locals := 106 }, 1)
theorem kX2_sameCharacters : xM mX2_sameCharacters := ⟨wc_X2_sameCharacters, wz_X2, by decide +kernel, by decide +kernel, by decide +kernel⟩
theorem kvX2_sameCharacters : xMV mX2_sameCharacters 2 := ⟨kX2_sameCharacters, wi_X2_sameCharacters, ws_X2_sameCharacters, by decide, rfl⟩
abbrev mX2_readNumbers : MT := (yX2_readNumbers, cX2_readNumbers, 3, some FieldType.boolean, { frames := 4, cells := 0, slots := 0, locals := 89 }, 0)
theorem kX2_readNumbers : xM mX2_readNumbers := ⟨wc_X2_readNumbers, wz_X2, by decide +kernel, by decide +kernel, by decide +kernel⟩
theorem kvX2_readNumbers : xMV mX2_readNumbers 2 := ⟨kX2_readNumbers, wi_X2_readNumbers, ws_X2_readNumbers, by decide, rfl⟩
abbrev mX2_readNumber : MT := (yX2_readNumber, cX2_readNumber, 6, some FieldType.boolean, { frames := 3, cells := 0, slots := 0, locals := 64 }, 1)
theorem kX2_readNumber : xM mX2_readNumber := ⟨wc_X2_readNumber, wz_X2, by decide +kernel, by decide +kernel, by decide +kernel⟩
theorem kvX2_readNumber : xMV mX2_readNumber 2 := ⟨kX2_readNumber, wi_X2_readNumber, ws_X2_readNumber, by decide, rfl⟩
abbrev mX2_skip : MT := (yX2_skip, cX2_skip, 2, some FieldType.boolean, { frames := 2, cells := 0, slots := 0, locals := 43 }, 1)
theorem kX2_skip : xM mX2_skip := ⟨wc_X2_skip, wz_X2, by decide +kernel, by decide +kernel, by decide +kernel⟩
theorem kvX2_skip : xMV mX2_skip 2 := ⟨kX2_skip, wi_X2_skip, ws_X2_skip, by decide, rfl⟩
abbrev mX2_isCharacter : MT := (yX2_isCharacter, cX2_isCharacter, 3, some FieldType.boolean, { frames := 1, cells := 0, slots := 0, locals := 21 }, 2)
theorem kX2_isCharacter : xM mX2_isCharacter := ⟨wc_X2_isCharacter, wz_X2, by decide +kernel, by decide +kernel, by decide +kernel⟩
theorem kvX2_isCharacter : xMV mX2_isCharacter 2 := ⟨kX2_isCharacter, wi_X2_isCharacter, ws_X2_isCharacter, by decide, rfl⟩
abbrev mX2_digitHere : MT := (yX2_digitHere, cX2_digitHere, 1, some FieldType.int, { frames := 1, cells := 0, slots := 0, locals := 21 }, 0)
theorem kX2_digitHere : xM mX2_digitHere := ⟨wc_X2_digitHere, wz_X2, by decide +kernel, by decide +kernel, by decide +kernel⟩
theorem kvX2_digitHere : xMV mX2_digitHere 2 := ⟨kX2_digitHere, wi_X2_digitHere, ws_X2_digitHere, by decide, rfl⟩
abbrev mX2_nameOf : MT := (yX2_nameOf, cX2_nameOf, 1, some (FieldType.object "java/lang/String"), { frames := 0, cells := 0, slots := 0, locals := 0 }, 1)
theorem kX2_nameOf : xM mX2_nameOf := ⟨wc_X2_nameOf, wz_X2, by decide +kernel, by decide +kernel, by decide +kernel⟩
theorem ktX2_nameOf : xMS mX2_nameOf := ⟨kX2_nameOf, wt_X2_nameOf⟩
abbrev mX2_leastOf : MT := (yX2_leastOf, cX2_leastOf, 3, some FieldType.int, { frames := 0, cells := 0, slots := 0, locals := 0 }, 1)
theorem kX2_leastOf : xM mX2_leastOf := ⟨wc_X2_leastOf, wz_X2, by decide +kernel, by decide +kernel, by decide +kernel⟩
theorem kvX2_leastOf : xMV mX2_leastOf 2 := ⟨kX2_leastOf, wi_X2_leastOf, ws_X2_leastOf, by decide, rfl⟩
abbrev mX2_mostOf : MT := (yX2_mostOf, cX2_mostOf, 2, some FieldType.int, { frames := 0, cells := 0, slots := 0, locals := 0 }, 1)
theorem kX2_mostOf : xM mX2_mostOf := ⟨wc_X2_mostOf, wz_X2, by decide +kernel, by decide +kernel, by decide +kernel⟩
theorem kvX2_mostOf : xMV mX2_mostOf 2 := ⟨kX2_mostOf, wi_X2_mostOf, ws_X2_mostOf, by decide, rfl⟩
abbrev mX3_init : MT := (yX3_init, cX3_init, 1, none, { frames := 1, cells := 0, slots := 0, locals := 20 }, 0)
theorem kX3_init : xM mX3_init := ⟨wc_X3_init, wz_X3, by decide +kernel, by decide +kernel, by decide +kernel⟩
theorem kiX3_init : xMI mX3_init := ⟨kX3_init, wi_X3_init, rfl, rfl⟩
abbrev mX3_copyFrom : MT := (yX3_copyFrom, cX3_copyFrom, 2, none, { frames := 1, cells := 0, slots := 0, locals := 60 }, 1)
theorem kX3_copyFrom : xM mX3_copyFrom := ⟨wc_X3_copyFrom, wz_X3, by decide +kernel, by decide +kernel, by decide +kernel⟩
theorem kvX3_copyFrom : xMV mX3_copyFrom 3 := ⟨kX3_copyFrom, wi_X3_copyFrom, ws_X3_copyFrom, by decide, rfl⟩
abbrev mX3_append : MT := (yX3_append, cX3_append, 4, none, { frames := 1, cells := 0, slots := 0, locals := 21 }, 3)
theorem kX3_append : xM mX3_append := ⟨wc_X3_append, wz_X3, by decide +kernel, by decide +kernel, by decide +kernel⟩
theorem kvX3_append : xMV mX3_append 3 := ⟨kX3_append, wi_X3_append, ws_X3_append, by decide, rfl⟩
abbrev mX3_removeLast : MT := (yX3_removeLast, cX3_removeLast, 1, none, { frames := 0, cells := 0, slots := 0, locals := 0 }, 0)
theorem kX3_removeLast : xM mX3_removeLast := ⟨wc_X3_removeLast, wz_X3, by decide +kernel, by decide +kernel, by decide +kernel⟩
theorem kvX3_removeLast : xMV mX3_removeLast 3 := ⟨kX3_removeLast, wi_X3_removeLast, ws_X3_removeLast, by decide, rfl⟩
abbrev mX3_removeFirst : MT := (yX3_removeFirst, cX3_removeFirst, 1, none, { frames := 1, cells := 0, slots := 0, locals := 60 }, 0)
theorem kX3_removeFirst : xM mX3_removeFirst := ⟨wc_X3_removeFirst, wz_X3, by decide +kernel, by decide +kernel, by decide +kernel⟩
theorem kvX3_removeFirst : xMV mX3_removeFirst 3 := ⟨kX3_removeFirst, wi_X3_removeFirst, ws_X3_removeFirst, by decide, rfl⟩
abbrev mX3_lose : MT := (yX3_lose, cX3_lose, 1, none, { frames := 0, cells := 0, slots := 0, locals := 0 }, 0)
theorem kX3_lose : xM mX3_lose := ⟨wc_X3_lose, wz_X3, by decide +kernel, by decide +kernel, by decide +kernel⟩
theorem kvX3_lose : xMV mX3_lose 3 := ⟨kX3_lose, wi_X3_lose, ws_X3_lose, by decide, rfl⟩
abbrev mX3_bringMessage : MT := (yX3_bringMessage, cX3_bringMessage, 1, none, { frames := 2, cells := 0, slots := 0, locals := 80 }, 0)
theorem kX3_bringMessage : xM mX3_bringMessage := ⟨wc_X3_bringMessage, wz_X3, by decide +kernel, by decide +kernel, by decide +kernel⟩
theorem kvX3_bringMessage : xMV mX3_bringMessage 3 := ⟨kX3_bringMessage, wi_X3_bringMessage, ws_X3_bringMessage, by decide, rfl⟩
abbrev mX3_failMessage : MT := (yX3_failMessage, cX3_failMessage, 2, none, { frames := 2, cells := 0, slots := 0, locals := 80 }, 1)
theorem kX3_failMessage : xM mX3_failMessage := ⟨wc_X3_failMessage, wz_X3, by decide +kernel, by decide +kernel, by decide +kernel⟩
theorem kvX3_failMessage : xMV mX3_failMessage 3 := ⟨kX3_failMessage, wi_X3_failMessage, ws_X3_failMessage, by decide, rfl⟩
abbrev mX3_part : MT := (yX3_part, cX3_part, 4, some FieldType.int, { frames := 0, cells := 0, slots := 0, locals := 0 }, 2)
theorem kX3_part : xM mX3_part := ⟨wc_X3_part, wz_X3, by decide +kernel, by decide +kernel, by decide +kernel⟩
theorem kvX3_part : xMV mX3_part 3 := ⟨kX3_part, wi_X3_part, ws_X3_part, by decide, rfl⟩
abbrev mX3_partsAt : MT := (yX3_partsAt, cX3_partsAt, 2, some FieldType.int, { frames := 1, cells := 0, slots := 0, locals := 23 }, 1)
theorem kX3_partsAt : xM mX3_partsAt := ⟨wc_X3_partsAt, wz_X3, by decide +kernel, by decide +kernel, by decide +kernel⟩
theorem kvX3_partsAt : xMV mX3_partsAt 3 := ⟨kX3_partsAt, wi_X3_partsAt, ws_X3_partsAt, by decide, rfl⟩
abbrev mX4_init : MT := (yX4_init, cX4_init, 2, none, { frames := 2, cells := 0, slots := 0, locals := 40 }, 0)
theorem kX4_init : xM mX4_init := ⟨wc_X4_init, wz_X4, by decide +kernel, by decide +kernel, by decide +kernel⟩
theorem kiX4_init : xMI mX4_init := ⟨kX4_init, wi_X4_init, rfl, rfl⟩
abbrev mX4_copyFrom : MT := (yX4_copyFrom, cX4_copyFrom, 3, none, { frames := 2, cells := 0, slots := 0, locals := 81 }, 1)
theorem kX4_copyFrom : xM mX4_copyFrom := ⟨wc_X4_copyFrom, wz_X4, by decide +kernel, by decide +kernel, by decide +kernel⟩
theorem kvX4_copyFrom : xMV mX4_copyFrom 4 := ⟨kX4_copyFrom, wi_X4_copyFrom, ws_X4_copyFrom, by decide, rfl⟩
abbrev mX4_addMessage : MT := (yX4_addMessage, cX4_addMessage, 6, some FieldType.int, { frames := 2, cells := 0, slots := 0, locals := 44 }, 4)
theorem kX4_addMessage : xM mX4_addMessage := ⟨wc_X4_addMessage, wz_X4, by decide +kernel, by decide +kernel, by decide +kernel⟩
theorem kvX4_addMessage : xMV mX4_addMessage 4 := ⟨kX4_addMessage, wi_X4_addMessage, ws_X4_addMessage, by decide, rfl⟩
abbrev mX4_dropLast : MT := (yX4_dropLast, cX4_dropLast, 3, some FieldType.int, { frames := 2, cells := 0, slots := 0, locals := 42 }, 1)
theorem kX4_dropLast : xM mX4_dropLast := ⟨wc_X4_dropLast, wz_X4, by decide +kernel, by decide +kernel, by decide +kernel⟩
theorem kvX4_dropLast : xMV mX4_dropLast 4 := ⟨kX4_dropLast, wi_X4_dropLast, ws_X4_dropLast, by decide, rfl⟩
abbrev mX4_giveAddress : MT := (yX4_giveAddress, cX4_giveAddress, 5, some FieldType.int, { frames := 2, cells := 0, slots := 0, locals := 42 }, 2)
theorem kX4_giveAddress : xM mX4_giveAddress := ⟨wc_X4_giveAddress, wz_X4, by decide +kernel, by decide +kernel, by decide +kernel⟩
theorem kvX4_giveAddress : xMV mX4_giveAddress 4 := ⟨kX4_giveAddress, wi_X4_giveAddress, ws_X4_giveAddress, by decide, rfl⟩
abbrev mX4_giveHold : MT := (yX4_giveHold, cX4_giveHold, 5, some FieldType.int, { frames := 2, cells := 0, slots := 0, locals := 42 }, 2)
theorem kX4_giveHold : xM mX4_giveHold := ⟨wc_X4_giveHold, wz_X4, by decide +kernel, by decide +kernel, by decide +kernel⟩
theorem kvX4_giveHold : xMV mX4_giveHold 4 := ⟨kX4_giveHold, wi_X4_giveHold, ws_X4_giveHold, by decide, rfl⟩
abbrev mX4_makeStuck : MT := (yX4_makeStuck, cX4_makeStuck, 4, some FieldType.int, { frames := 2, cells := 0, slots := 0, locals := 42 }, 2)
theorem kX4_makeStuck : xM mX4_makeStuck := ⟨wc_X4_makeStuck, wz_X4, by decide +kernel, by decide +kernel, by decide +kernel⟩
theorem kvX4_makeStuck : xMV mX4_makeStuck 4 := ⟨kX4_makeStuck, wi_X4_makeStuck, ws_X4_makeStuck, by decide, rfl⟩
abbrev mX4_changeSetting : MT := (yX4_changeSetting, cX4_changeSetting, 4, some FieldType.int, { frames := 1, cells := 0, slots := 0, locals := 21 }, 2)
theorem kX4_changeSetting : xM mX4_changeSetting := ⟨wc_X4_changeSetting, wz_X4, by decide +kernel, by decide +kernel, by decide +kernel⟩
theorem kvX4_changeSetting : xMV mX4_changeSetting 4 := ⟨kX4_changeSetting, wi_X4_changeSetting, ws_X4_changeSetting, by decide, rfl⟩
abbrev mX4_passTicks : MT := (yX4_passTicks, cX4_passTicks, 4, some FieldType.int, { frames := 5, cells := 0, slots := 0, locals := 147 }, 1)
theorem kX4_passTicks : xM mX4_passTicks := ⟨wc_X4_passTicks, wz_X4, by decide +kernel, by decide +kernel, by decide +kernel⟩
theorem kvX4_passTicks : xMV mX4_passTicks 4 := ⟨kX4_passTicks, wi_X4_passTicks, ws_X4_passTicks, by decide, rfl⟩
abbrev mX4_nextTick : MT := (yX4_nextTick, cX4_nextTick, 1, some FieldType.int, { frames := 1, cells := 0, slots := 0, locals := 25 }, 0)
theorem kX4_nextTick : xM mX4_nextTick := ⟨wc_X4_nextTick, wz_X4, by decide +kernel, by decide +kernel, by decide +kernel⟩
theorem kvX4_nextTick : xMV mX4_nextTick 4 := ⟨kX4_nextTick, wi_X4_nextTick, ws_X4_nextTick, by decide, rfl⟩
abbrev mX4_tick : MT := (yX4_tick, cX4_tick, 2, none, { frames := 4, cells := 0, slots := 0, locals := 126 }, 0)
theorem kX4_tick : xM mX4_tick := ⟨wc_X4_tick, wz_X4, by decide +kernel, by decide +kernel, by decide +kernel⟩
theorem kvX4_tick : xMV mX4_tick 4 := ⟨kX4_tick, wi_X4_tick, ws_X4_tick, by decide, rfl⟩
abbrev mX4_stuckTick : MT := (yX4_stuckTick, cX4_stuckTick, 6, none, { frames := 2, cells := 0, slots := 0, locals := 51 }, 0)
theorem kX4_stuckTick : xM mX4_stuckTick := ⟨wc_X4_stuckTick, wz_X4, by decide +kernel, by decide +kernel, by decide +kernel⟩
theorem kvX4_stuckTick : xMV mX4_stuckTick 4 := ⟨kX4_stuckTick, wi_X4_stuckTick, ws_X4_stuckTick, by decide, rfl⟩
abbrev mX4_sendBit : MT := (yX4_sendBit, cX4_sendBit, 4, none, { frames := 2, cells := 0, slots := 0, locals := 51 }, 0)
theorem kX4_sendBit : xM mX4_sendBit := ⟨wc_X4_sendBit, wz_X4, by decide +kernel, by decide +kernel, by decide +kernel⟩
theorem kvX4_sendBit : xMV mX4_sendBit 4 := ⟨kX4_sendBit, wi_X4_sendBit, ws_X4_sendBit, by decide, rfl⟩
abbrev mX4_awaitAnswer : MT := (yX4_awaitAnswer, cX4_awaitAnswer, 6, none, { frames := 3, cells := 0, slots := 0, locals := 101 }, 0)
theorem kX4_awaitAnswer : xM mX4_awaitAnswer := ⟨wc_X4_awaitAnswer, wz_X4, by decide +kernel, by decide +kernel, by decide +kernel⟩
theorem kvX4_awaitAnswer : xMV mX4_awaitAnswer 4 := ⟨kX4_awaitAnswer, wi_X4_awaitAnswer, ws_X4_awaitAnswer, by decide, rfl⟩
abbrev mX4_freeTick : MT := (yX4_freeTick, cX4_freeTick, 3, none, { frames := 2, cells := 0, slots := 0, locals := 42 }, 0)
theorem kX4_freeTick : xM mX4_freeTick := ⟨wc_X4_freeTick, wz_X4, by decide +kernel, by decide +kernel, by decide +kernel⟩
theorem kvX4_freeTick : xMV mX4_freeTick 4 := ⟨kX4_freeTick, wi_X4_freeTick, ws_X4_freeTick, by decide, rfl⟩
abbrev mX4_lose : MT := (yX4_lose, cX4_lose, 3, none, { frames := 1, cells := 0, slots := 0, locals := 21 }, 1)
theorem kX4_lose : xM mX4_lose := ⟨wc_X4_lose, wz_X4, by decide +kernel, by decide +kernel, by decide +kernel⟩
theorem kvX4_lose : xMV mX4_lose 4 := ⟨kX4_lose, wi_X4_lose, ws_X4_lose, by decide, rfl⟩
abbrev mX4_endTalkIfEmpty : MT := (yX4_endTalkIfEmpty, cX4_endTalkIfEmpty, 1, none, { frames := 1, cells := 0, slots := 0, locals := 22 }, 0)
theorem kX4_endTalkIfEmpty : xM mX4_endTalkIfEmpty := ⟨wc_X4_endTalkIfEmpty, wz_X4, by decide +kernel, by decide +kernel, by decide +kernel⟩
theorem kvX4_endTalkIfEmpty : xMV mX4_endTalkIfEmpty 4 := ⟨kX4_endTalkIfEmpty, wi_X4_endTalkIfEmpty, ws_X4_endTalkIfEmpty, by decide, rfl⟩
abbrev mX4_speakerAt : MT := (yX4_speakerAt, cX4_speakerAt, 2, some (FieldType.object "PulledWires$Speaker"), { frames := 1, cells := 0, slots := 0, locals := 21 }, 1)
theorem kX4_speakerAt : xM mX4_speakerAt := ⟨wc_X4_speakerAt, wz_X4, by decide +kernel, by decide +kernel, by decide +kernel⟩
theorem kvX4_speakerAt : xMV mX4_speakerAt 4 := ⟨kX4_speakerAt, wi_X4_speakerAt, ws_X4_speakerAt, by decide, rfl⟩
abbrev mX4_listenerAt : MT := (yX4_listenerAt, cX4_listenerAt, 2, some (FieldType.object "PulledWires$Listener"), { frames := 1, cells := 0, slots := 0, locals := 21 }, 1)
theorem kX4_listenerAt : xM mX4_listenerAt := ⟨wc_X4_listenerAt, wz_X4, by decide +kernel, by decide +kernel, by decide +kernel⟩
theorem kvX4_listenerAt : xMV mX4_listenerAt 4 := ⟨kX4_listenerAt, wi_X4_listenerAt, ws_X4_listenerAt, by decide, rfl⟩
abbrev mX4_listenerWith : MT := (yX4_listenerWith, cX4_listenerWith, 6, some (FieldType.object "PulledWires$Listener"), { frames := 0, cells := 0, slots := 0, locals := 0 }, 1)
theorem kX4_listenerWith : xM mX4_listenerWith := ⟨wc_X4_listenerWith, wz_X4, by decide +kernel, by decide +kernel, by decide +kernel⟩
theorem kvX4_listenerWith : xMV mX4_listenerWith 4 := ⟨kX4_listenerWith, wi_X4_listenerWith, ws_X4_listenerWith, by decide, rfl⟩
abbrev mX4_listenersWithAddress : MT := (yX4_listenersWithAddress, cX4_listenersWithAddress, 6, some FieldType.int, { frames := 0, cells := 0, slots := 0, locals := 0 }, 0)
theorem kX4_listenersWithAddress : xM mX4_listenersWithAddress := ⟨wc_X4_listenersWithAddress, wz_X4, by decide +kernel, by decide +kernel, by decide +kernel⟩
theorem kvX4_listenersWithAddress : xMV mX4_listenersWithAddress 4 := ⟨kX4_listenersWithAddress, wi_X4_listenersWithAddress, ws_X4_listenersWithAddress, by decide, rfl⟩
abbrev mX4_stuckListeners : MT := (yX4_stuckListeners, cX4_stuckListeners, 6, some FieldType.int, { frames := 0, cells := 0, slots := 0, locals := 0 }, 0)
theorem kX4_stuckListeners : xM mX4_stuckListeners := ⟨wc_X4_stuckListeners, wz_X4, by decide +kernel, by decide +kernel, by decide +kernel⟩
theorem kvX4_stuckListeners : xMV mX4_stuckListeners 4 := ⟨kX4_stuckListeners, wi_X4_stuckListeners, ws_X4_stuckListeners, by decide, rfl⟩
abbrev mX4_holdFor : MT := (yX4_holdFor, cX4_holdFor, 3, some FieldType.int, { frames := 1, cells := 0, slots := 0, locals := 25 }, 1)
theorem kX4_holdFor : xM mX4_holdFor := ⟨wc_X4_holdFor, wz_X4, by decide +kernel, by decide +kernel, by decide +kernel⟩
theorem kvX4_holdFor : xMV mX4_holdFor 4 := ⟨kX4_holdFor, wi_X4_holdFor, ws_X4_holdFor, by decide, rfl⟩
abbrev mX4_setting : MT := (yX4_setting, cX4_setting, 2, some FieldType.int, { frames := 1, cells := 0, slots := 0, locals := 21 }, 1)
theorem kX4_setting : xM mX4_setting := ⟨wc_X4_setting, wz_X4, by decide +kernel, by decide +kernel, by decide +kernel⟩
theorem kvX4_setting : xMV mX4_setting 4 := ⟨kX4_setting, wi_X4_setting, ws_X4_setting, by decide, rfl⟩
abbrev mX4_messagesInLines : MT := (yX4_messagesInLines, cX4_messagesInLines, 6, some FieldType.int, { frames := 0, cells := 0, slots := 0, locals := 0 }, 0)
theorem kX4_messagesInLines : xM mX4_messagesInLines := ⟨wc_X4_messagesInLines, wz_X4, by decide +kernel, by decide +kernel, by decide +kernel⟩
theorem kvX4_messagesInLines : xMV mX4_messagesInLines 4 := ⟨kX4_messagesInLines, wi_X4_messagesInLines, ws_X4_messagesInLines, by decide, rfl⟩
abbrev mX4_messagesThatCame : MT := (yX4_messagesThatCame, cX4_messagesThatCame, 6, some FieldType.int, { frames := 0, cells := 0, slots := 0, locals := 0 }, 0)
theorem kX4_messagesThatCame : xM mX4_messagesThatCame := ⟨wc_X4_messagesThatCame, wz_X4, by decide +kernel, by decide +kernel, by decide +kernel⟩
theorem kvX4_messagesThatCame : xMV mX4_messagesThatCame 4 := ⟨kX4_messagesThatCame, wi_X4_messagesThatCame, ws_X4_messagesThatCame, by decide, rfl⟩
abbrev mX4_cameFrom : MT := (yX4_cameFrom, cX4_cameFrom, 2, some FieldType.int, { frames := 1, cells := 0, slots := 0, locals := 21 }, 1)
theorem kX4_cameFrom : xM mX4_cameFrom := ⟨wc_X4_cameFrom, wz_X4, by decide +kernel, by decide +kernel, by decide +kernel⟩
theorem kvX4_cameFrom : xMV mX4_cameFrom 4 := ⟨kX4_cameFrom, wi_X4_cameFrom, ws_X4_cameFrom, by decide, rfl⟩
abbrev mX4_isIn : MT := (yX4_isIn, cX4_isIn, 2, some FieldType.boolean, { frames := 0, cells := 0, slots := 0, locals := 0 }, 2)
theorem kX4_isIn : xM mX4_isIn := ⟨wc_X4_isIn, wz_X4, by decide +kernel, by decide +kernel, by decide +kernel⟩
theorem ktX4_isIn : xMS mX4_isIn := ⟨kX4_isIn, wt_X4_isIn⟩
abbrev mX4_talkers : MT := (yX4_talkers, cX4_talkers, 3, some FieldType.int, { frames := 0, cells := 0, slots := 0, locals := 0 }, 0)
theorem kX4_talkers : xM mX4_talkers := ⟨wc_X4_talkers, wz_X4, by decide +kernel, by decide +kernel, by decide +kernel⟩
theorem kvX4_talkers : xMV mX4_talkers 4 := ⟨kX4_talkers, wi_X4_talkers, ws_X4_talkers, by decide, rfl⟩
abbrev mX4_speakersWithMessage : MT := (yX4_speakersWithMessage, cX4_speakersWithMessage, 3, some FieldType.int, { frames := 0, cells := 0, slots := 0, locals := 0 }, 0)
theorem kX4_speakersWithMessage : xM mX4_speakersWithMessage := ⟨wc_X4_speakersWithMessage, wz_X4, by decide +kernel, by decide +kernel, by decide +kernel⟩
theorem kvX4_speakersWithMessage : xMV mX4_speakersWithMessage 4 := ⟨kX4_speakersWithMessage, wi_X4_speakersWithMessage, ws_X4_speakersWithMessage, by decide, rfl⟩
abbrev mX4_sendersOf : MT := (yX4_sendersOf, cX4_sendersOf, 9, some FieldType.int, { frames := 1, cells := 0, slots := 0, locals := 23 }, 3)
theorem kX4_sendersOf : xM mX4_sendersOf := ⟨wc_X4_sendersOf, wz_X4, by decide +kernel, by decide +kernel, by decide +kernel⟩
theorem kvX4_sendersOf : xMV mX4_sendersOf 4 := ⟨kX4_sendersOf, wi_X4_sendersOf, ws_X4_sendersOf, by decide, rfl⟩
abbrev mX4_endsAt : MT := (yX4_endsAt, cX4_endsAt, 2, some FieldType.boolean, { frames := 2, cells := 0, slots := 0, locals := 44 }, 2)
theorem kX4_endsAt : xM mX4_endsAt := ⟨wc_X4_endsAt, wz_X4, by decide +kernel, by decide +kernel, by decide +kernel⟩
theorem ktX4_endsAt : xMS mX4_endsAt := ⟨kX4_endsAt, wt_X4_endsAt⟩
abbrev mX4_endingAt : MT := (yX4_endingAt, cX4_endingAt, 5, some FieldType.int, { frames := 3, cells := 0, slots := 0, locals := 65 }, 2)
theorem kX4_endingAt : xM mX4_endingAt := ⟨wc_X4_endingAt, wz_X4, by decide +kernel, by decide +kernel, by decide +kernel⟩
theorem kvX4_endingAt : xMV mX4_endingAt 4 := ⟨kX4_endingAt, wi_X4_endingAt, ws_X4_endingAt, by decide, rfl⟩
abbrev mX4_partOfTalk : MT := (yX4_partOfTalk, cX4_partOfTalk, 6, some FieldType.int, { frames := 1, cells := 0, slots := 0, locals := 23 }, 1)
theorem kX4_partOfTalk : xM mX4_partOfTalk := ⟨wc_X4_partOfTalk, wz_X4, by decide +kernel, by decide +kernel, by decide +kernel⟩
theorem kvX4_partOfTalk : xMV mX4_partOfTalk 4 := ⟨kX4_partOfTalk, wi_X4_partOfTalk, ws_X4_partOfTalk, by decide, rfl⟩
abbrev mX5_init : MT := (yX5_init, cX5_init, 2, none, { frames := 3, cells := 0, slots := 0, locals := 61 }, 0)
theorem kX5_init : xM mX5_init := ⟨wc_X5_init, wz_X5, by decide +kernel, by decide +kernel, by decide +kernel⟩
theorem kiX5_init : xMI mX5_init := ⟨kX5_init, wi_X5_init, rfl, rfl⟩
abbrev mX5_say : MT := (yX5_say, cX5_say, 5, some FieldType.int, { frames := 3, cells := 0, slots := 0, locals := 103 }, 4)
theorem kX5_say : xM mX5_say := ⟨wc_X5_say, wz_X5, by decide +kernel, by decide +kernel, by decide +kernel⟩
theorem kvX5_say : xMV mX5_say 5 := ⟨kX5_say, wi_X5_say, ws_X5_say, by decide, rfl⟩
abbrev mX5_takeBack : MT := (yX5_takeBack, cX5_takeBack, 2, some FieldType.int, { frames := 3, cells := 0, slots := 0, locals := 103 }, 1)
theorem kX5_takeBack : xM mX5_takeBack := ⟨wc_X5_takeBack, wz_X5, by decide +kernel, by decide +kernel, by decide +kernel⟩
theorem kvX5_takeBack : xMV mX5_takeBack 5 := ⟨kX5_takeBack, wi_X5_takeBack, ws_X5_takeBack, by decide, rfl⟩
abbrev mX5_hear : MT := (yX5_hear, cX5_hear, 3, some FieldType.int, { frames := 3, cells := 0, slots := 0, locals := 103 }, 2)
theorem kX5_hear : xM mX5_hear := ⟨wc_X5_hear, wz_X5, by decide +kernel, by decide +kernel, by decide +kernel⟩
theorem kvX5_hear : xMV mX5_hear 5 := ⟨kX5_hear, wi_X5_hear, ws_X5_hear, by decide, rfl⟩
abbrev mX5_hold : MT := (yX5_hold, cX5_hold, 3, some FieldType.int, { frames := 3, cells := 0, slots := 0, locals := 103 }, 2)
theorem kX5_hold : xM mX5_hold := ⟨wc_X5_hold, wz_X5, by decide +kernel, by decide +kernel, by decide +kernel⟩
theorem kvX5_hold : xMV mX5_hold 5 := ⟨kX5_hold, wi_X5_hold, ws_X5_hold, by decide, rfl⟩
abbrev mX5_stick : MT := (yX5_stick, cX5_stick, 3, some FieldType.int, { frames := 3, cells := 0, slots := 0, locals := 103 }, 2)
theorem kX5_stick : xM mX5_stick := ⟨wc_X5_stick, wz_X5, by decide +kernel, by decide +kernel, by decide +kernel⟩
theorem kvX5_stick : xMV mX5_stick 5 := ⟨kX5_stick, wi_X5_stick, ws_X5_stick, by decide, rfl⟩
abbrev mX5_set : MT := (yX5_set, cX5_set, 3, some FieldType.int, { frames := 3, cells := 0, slots := 0, locals := 103 }, 2)
theorem kX5_set : xM mX5_set := ⟨wc_X5_set, wz_X5, by decide +kernel, by decide +kernel, by decide +kernel⟩
theorem kvX5_set : xMV mX5_set 5 := ⟨kX5_set, wi_X5_set, ws_X5_set, by decide, rfl⟩
abbrev mX5_run : MT := (yX5_run, cX5_run, 2, some FieldType.int, { frames := 6, cells := 0, slots := 0, locals := 170 }, 1)
theorem kX5_run : xM mX5_run := ⟨wc_X5_run, wz_X5, by decide +kernel, by decide +kernel, by decide +kernel⟩
theorem kvX5_run : xMV mX5_run 5 := ⟨kX5_run, wi_X5_run, ws_X5_run, by decide, rfl⟩
abbrev mX5_type : MT := (yX5_type, cX5_type, 2, some FieldType.int, { frames := 2, cells := 0, slots := 0, locals := 42 }, 1)
theorem kX5_type : xM mX5_type := ⟨wc_X5_type, wz_X5, by decide +kernel, by decide +kernel, by decide +kernel⟩
theorem kvX5_type : xMV mX5_type 5 := ⟨kX5_type, wi_X5_type, ws_X5_type, by decide, rfl⟩
abbrev mX5_clearText : MT := (yX5_clearText, cX5_clearText, 1, some FieldType.int, { frames := 1, cells := 0, slots := 0, locals := 21 }, 0)
theorem kX5_clearText : xM mX5_clearText := ⟨wc_X5_clearText, wz_X5, by decide +kernel, by decide +kernel, by decide +kernel⟩
theorem kvX5_clearText : xMV mX5_clearText 5 := ⟨kX5_clearText, wi_X5_clearText, ws_X5_clearText, by decide, rfl⟩
abbrev mX5_perform : MT := (yX5_perform, cX5_perform, 4, some FieldType.int, { frames := 9, cells := 0, slots := 0, locals := 193 }, 0)
theorem kX5_perform : xM mX5_perform := ⟨wc_X5_perform, wz_X5, by decide +kernel, by decide +kernel, by decide +kernel⟩
theorem kvX5_perform : xMV mX5_perform 5 := ⟨kX5_perform, wi_X5_perform, ws_X5_perform, by decide, rfl⟩
abbrev mX5_stopped : MT := (yX5_stopped, cX5_stopped, 2, some FieldType.int, { frames := 0, cells := 0, slots := 0, locals := 0 }, 1)
theorem kX5_stopped : xM mX5_stopped := ⟨wc_X5_stopped, wz_X5, by decide +kernel, by decide +kernel, by decide +kernel⟩
theorem kvX5_stopped : xMV mX5_stopped 5 := ⟨kX5_stopped, wi_X5_stopped, ws_X5_stopped, by decide, rfl⟩
abbrev mX5_undo : MT := (yX5_undo, cX5_undo, 1, some FieldType.int, { frames := 3, cells := 0, slots := 0, locals := 103 }, 0)
theorem kX5_undo : xM mX5_undo := ⟨wc_X5_undo, wz_X5, by decide +kernel, by decide +kernel, by decide +kernel⟩
theorem kvX5_undo : xMV mX5_undo 5 := ⟨kX5_undo, wi_X5_undo, ws_X5_undo, by decide, rfl⟩
abbrev mX5_keep : MT := (yX5_keep, cX5_keep, 1, some FieldType.int, { frames := 3, cells := 0, slots := 0, locals := 103 }, 0)
theorem kX5_keep : xM mX5_keep := ⟨wc_X5_keep, wz_X5, by decide +kernel, by decide +kernel, by decide +kernel⟩
theorem kvX5_keep : xMV mX5_keep 5 := ⟨kX5_keep, wi_X5_keep, ws_X5_keep, by decide, rfl⟩
abbrev mX5_restore : MT := (yX5_restore, cX5_restore, 1, some FieldType.int, { frames := 3, cells := 0, slots := 0, locals := 103 }, 0)
theorem kX5_restore : xM mX5_restore := ⟨wc_X5_restore, wz_X5, by decide +kernel, by decide +kernel, by decide +kernel⟩
theorem kvX5_restore : xMV mX5_restore 5 := ⟨kX5_restore, wi_X5_restore, ws_X5_restore, by decide, rfl⟩
abbrev mX5_speaker : MT := (yX5_speaker, cX5_speaker, 4, some FieldType.int, { frames := 2, cells := 0, slots := 0, locals := 42 }, 2)
theorem kX5_speaker : xM mX5_speaker := ⟨wc_X5_speaker, wz_X5, by decide +kernel, by decide +kernel, by decide +kernel⟩
theorem kvX5_speaker : xMV mX5_speaker 5 := ⟨kX5_speaker, wi_X5_speaker, ws_X5_speaker, by decide, rfl⟩
abbrev mX5_message : MT := (yX5_message, cX5_message, 5, some FieldType.int, { frames := 2, cells := 0, slots := 0, locals := 47 }, 3)
theorem kX5_message : xM mX5_message := ⟨wc_X5_message, wz_X5, by decide +kernel, by decide +kernel, by decide +kernel⟩
theorem kvX5_message : xMV mX5_message 5 := ⟨kX5_message, wi_X5_message, ws_X5_message, by decide, rfl⟩
abbrev mX5_listener : MT := (yX5_listener, cX5_listener, 4, some FieldType.int, { frames := 2, cells := 0, slots := 0, locals := 42 }, 2)
theorem kX5_listener : xM mX5_listener := ⟨wc_X5_listener, wz_X5, by decide +kernel, by decide +kernel, by decide +kernel⟩
theorem kvX5_listener : xMV mX5_listener 5 := ⟨kX5_listener, wi_X5_listener, ws_X5_listener, by decide, rfl⟩
abbrev mX5_bit : MT := (yX5_bit, cX5_bit, 3, some FieldType.int, { frames := 2, cells := 0, slots := 0, locals := 44 }, 2)
theorem kX5_bit : xM mX5_bit := ⟨wc_X5_bit, wz_X5, by decide +kernel, by decide +kernel, by decide +kernel⟩
theorem kvX5_bit : xMV mX5_bit 5 := ⟨kX5_bit, wi_X5_bit, ws_X5_bit, by decide, rfl⟩
abbrev mX5_winners : MT := (yX5_winners, cX5_winners, 5, some FieldType.int, { frames := 4, cells := 0, slots := 0, locals := 89 }, 0)
theorem kX5_winners : xM mX5_winners := ⟨wc_X5_winners, wz_X5, by decide +kernel, by decide +kernel, by decide +kernel⟩
theorem kvX5_winners : xMV mX5_winners 5 := ⟨kX5_winners, wi_X5_winners, ws_X5_winners, by decide, rfl⟩
abbrev mX5_emptyIn : MT := (yX5_emptyIn, cX5_emptyIn, 2, some FieldType.int, { frames := 5, cells := 0, slots := 0, locals := 147 }, 0)
theorem kX5_emptyIn : xM mX5_emptyIn := ⟨wc_X5_emptyIn, wz_X5, by decide +kernel, by decide +kernel, by decide +kernel⟩
theorem kvX5_emptyIn : xMV mX5_emptyIn 5 := ⟨kX5_emptyIn, wi_X5_emptyIn, ws_X5_emptyIn, by decide, rfl⟩
abbrev mX5_ifRun : MT := (yX5_ifRun, cX5_ifRun, 5, some FieldType.int, { frames := 5, cells := 0, slots := 0, locals := 147 }, 2)
theorem kX5_ifRun : xM mX5_ifRun := ⟨wc_X5_ifRun, wz_X5, by decide +kernel, by decide +kernel, by decide +kernel⟩
theorem kvX5_ifRun : xMV mX5_ifRun 5 := ⟨kX5_ifRun, wi_X5_ifRun, ws_X5_ifRun, by decide, rfl⟩
abbrev mX5_count : MT := (yX5_count, cX5_count, 2, some FieldType.int, { frames := 2, cells := 0, slots := 0, locals := 45 }, 1)
theorem kX5_count : xM mX5_count := ⟨wc_X5_count, wz_X5, by decide +kernel, by decide +kernel, by decide +kernel⟩
theorem kvX5_count : xMV mX5_count 5 := ⟨kX5_count, wi_X5_count, ws_X5_count, by decide, rfl⟩
abbrev mX5_recorded : MT := (yX5_recorded, cX5_recorded, 4, some FieldType.int, { frames := 0, cells := 0, slots := 0, locals := 0 }, 1)
theorem kX5_recorded : xM mX5_recorded := ⟨wc_X5_recorded, wz_X5, by decide +kernel, by decide +kernel, by decide +kernel⟩
theorem kvX5_recorded : xMV mX5_recorded 5 := ⟨kX5_recorded, wi_X5_recorded, ws_X5_recorded, by decide, rfl⟩
abbrev mX5_carryOutOrder : MT := (yX5_carryOutOrder, cX5_carryOutOrder, 3, some FieldType.int, { frames := 6, cells := 0, slots := 0, locals := 170 }, 0)
theorem kX5_carryOutOrder : xM mX5_carryOutOrder := ⟨wc_X5_carryOutOrder, wz_X5, by decide +kernel, by decide +kernel, by decide +kernel⟩
theorem kvX5_carryOutOrder : xMV mX5_carryOutOrder 5 := ⟨kX5_carryOutOrder, wi_X5_carryOutOrder, ws_X5_carryOutOrder, by decide, rfl⟩
abbrev mX5_isIndex : MT := (yX5_isIndex, cX5_isIndex, 2, some FieldType.boolean, { frames := 0, cells := 0, slots := 0, locals := 0 }, 2)
theorem kX5_isIndex : xM mX5_isIndex := ⟨wc_X5_isIndex, wz_X5, by decide +kernel, by decide +kernel, by decide +kernel⟩
theorem ktX5_isIndex : xMS mX5_isIndex := ⟨kX5_isIndex, wt_X5_isIndex⟩
abbrev mX5_isPlace : MT := (yX5_isPlace, cX5_isPlace, 1, some FieldType.boolean, { frames := 0, cells := 0, slots := 0, locals := 0 }, 1)
theorem kX5_isPlace : xM mX5_isPlace := ⟨wc_X5_isPlace, wz_X5, by decide +kernel, by decide +kernel, by decide +kernel⟩
theorem ktX5_isPlace : xMS mX5_isPlace := ⟨kX5_isPlace, wt_X5_isPlace⟩
abbrev mX6_init : MT := (yX6_init, cX6_init, 2, none, { frames := 1, cells := 0, slots := 0, locals := 21 }, 0)
theorem kX6_init : xM mX6_init := ⟨wc_X6_init, wz_X6, by decide +kernel, by decide +kernel, by decide +kernel⟩
theorem kiX6_init : xMI mX6_init := ⟨kX6_init, wi_X6_init, rfl, rfl⟩
abbrev mX6_in : MT := (yX6_in, cX6_in, 3, some FieldType.boolean, { frames := 0, cells := 0, slots := 0, locals := 0 }, 3)
theorem kX6_in : xM mX6_in := ⟨wc_X6_in, wz_X6, by decide +kernel, by decide +kernel, by decide +kernel⟩
theorem ktX6_in : xMS mX6_in := ⟨kX6_in, wt_X6_in⟩
abbrev mX6_of : MT := (yX6_of, cX6_of, 2, some FieldType.int, { frames := 0, cells := 0, slots := 0, locals := 0 }, 2)
theorem kX6_of : xM mX6_of := ⟨wc_X6_of, wz_X6, by decide +kernel, by decide +kernel, by decide +kernel⟩
theorem ktX6_of : xMS mX6_of := ⟨kX6_of, wt_X6_of⟩
abbrev mX6_ofListener : MT := (yX6_ofListener, cX6_ofListener, 2, some FieldType.int, { frames := 0, cells := 0, slots := 0, locals := 0 }, 2)
theorem kX6_ofListener : xM mX6_ofListener := ⟨wc_X6_ofListener, wz_X6, by decide +kernel, by decide +kernel, by decide +kernel⟩
theorem ktX6_ofListener : xMS mX6_ofListener := ⟨kX6_ofListener, wt_X6_ofListener⟩
abbrev mX6_inMessage : MT := (yX6_inMessage, cX6_inMessage, 4, some FieldType.int, { frames := 1, cells := 0, slots := 0, locals := 21 }, 3)
theorem kX6_inMessage : xM mX6_inMessage := ⟨wc_X6_inMessage, wz_X6, by decide +kernel, by decide +kernel, by decide +kernel⟩
theorem kvX6_inMessage : xMV mX6_inMessage 6 := ⟨kX6_inMessage, wi_X6_inMessage, ws_X6_inMessage, by decide, rfl⟩
abbrev mX6_isOne : MT := (yX6_isOne, cX6_isOne, 1, some FieldType.boolean, { frames := 1, cells := 0, slots := 0, locals := 22 }, 1)
theorem kX6_isOne : xM mX6_isOne := ⟨wc_X6_isOne, wz_X6, by decide +kernel, by decide +kernel, by decide +kernel⟩
theorem ktX6_isOne : xMS mX6_isOne := ⟨kX6_isOne, wt_X6_isOne⟩
abbrev mX6_putAside : MT := (yX6_putAside, cX6_putAside, 2, none, { frames := 0, cells := 0, slots := 0, locals := 0 }, 0)
theorem kX6_putAside : xM mX6_putAside := ⟨wc_X6_putAside, wz_X6, by decide +kernel, by decide +kernel, by decide +kernel⟩
theorem kvX6_putAside : xMV mX6_putAside 6 := ⟨kX6_putAside, wi_X6_putAside, ws_X6_putAside, by decide, rfl⟩
abbrev mX6_putBack : MT := (yX6_putBack, cX6_putBack, 2, none, { frames := 0, cells := 0, slots := 0, locals := 0 }, 0)
theorem kX6_putBack : xM mX6_putBack := ⟨wc_X6_putBack, wz_X6, by decide +kernel, by decide +kernel, by decide +kernel⟩
theorem kvX6_putBack : xMV mX6_putBack 6 := ⟨kX6_putBack, wi_X6_putBack, ws_X6_putBack, by decide, rfl⟩
abbrev mX6_act : MT := (yX6_act, cX6_act, 3, some FieldType.int, { frames := 0, cells := 0, slots := 0, locals := 0 }, 1)
theorem kX6_act : xM mX6_act := ⟨wc_X6_act, wz_X6, by decide +kernel, by decide +kernel, by decide +kernel⟩
theorem kvX6_act : xMV mX6_act 6 := ⟨kX6_act, wi_X6_act, ws_X6_act, by decide, rfl⟩
abbrev mX6_bitsOf : MT := (yX6_bitsOf, cX6_bitsOf, 1, some FieldType.int, { frames := 0, cells := 0, slots := 0, locals := 0 }, 1)
theorem kX6_bitsOf : xM mX6_bitsOf := ⟨wc_X6_bitsOf, wz_X6, by decide +kernel, by decide +kernel, by decide +kernel⟩
theorem ktX6_bitsOf : xMS mX6_bitsOf := ⟨kX6_bitsOf, wt_X6_bitsOf⟩
abbrev mX6_isAnswer : MT := (yX6_isAnswer, cX6_isAnswer, 1, some FieldType.boolean, { frames := 0, cells := 0, slots := 0, locals := 0 }, 1)
theorem kX6_isAnswer : xM mX6_isAnswer := ⟨wc_X6_isAnswer, wz_X6, by decide +kernel, by decide +kernel, by decide +kernel⟩
theorem ktX6_isAnswer : xMS mX6_isAnswer := ⟨kX6_isAnswer, wt_X6_isAnswer⟩
abbrev mX6_bitAt : MT := (yX6_bitAt, cX6_bitAt, 5, some FieldType.int, { frames := 2, cells := 0, slots := 0, locals := 44 }, 2)
theorem kX6_bitAt : xM mX6_bitAt := ⟨wc_X6_bitAt, wz_X6, by decide +kernel, by decide +kernel, by decide +kernel⟩
theorem kvX6_bitAt : xMV mX6_bitAt 6 := ⟨kX6_bitAt, wi_X6_bitAt, ws_X6_bitAt, by decide, rfl⟩
abbrev mX6_dropFirst : MT := (yX6_dropFirst, cX6_dropFirst, 3, none, { frames := 1, cells := 0, slots := 0, locals := 21 }, 1)
theorem kX6_dropFirst : xM mX6_dropFirst := ⟨wc_X6_dropFirst, wz_X6, by decide +kernel, by decide +kernel, by decide +kernel⟩
theorem kvX6_dropFirst : xMV mX6_dropFirst 6 := ⟨kX6_dropFirst, wi_X6_dropFirst, ws_X6_dropFirst, by decide, rfl⟩
abbrev mX6_isTalking : MT := (yX6_isTalking, cX6_isTalking, 2, some FieldType.boolean, { frames := 1, cells := 0, slots := 0, locals := 21 }, 1)
theorem kX6_isTalking : xM mX6_isTalking := ⟨wc_X6_isTalking, wz_X6, by decide +kernel, by decide +kernel, by decide +kernel⟩
theorem kvX6_isTalking : xMV mX6_isTalking 6 := ⟨kX6_isTalking, wi_X6_isTalking, ws_X6_isTalking, by decide, rfl⟩
abbrev mX6_talking : MT := (yX6_talking, cX6_talking, 3, some FieldType.int, { frames := 2, cells := 0, slots := 0, locals := 42 }, 0)
theorem kX6_talking : xM mX6_talking := ⟨wc_X6_talking, wz_X6, by decide +kernel, by decide +kernel, by decide +kernel⟩
theorem kvX6_talking : xMV mX6_talking 6 := ⟨kX6_talking, wi_X6_talking, ws_X6_talking, by decide, rfl⟩
abbrev mX6_firstTalking : MT := (yX6_firstTalking, cX6_firstTalking, 2, some FieldType.int, { frames := 2, cells := 0, slots := 0, locals := 42 }, 0)
theorem kX6_firstTalking : xM mX6_firstTalking := ⟨wc_X6_firstTalking, wz_X6, by decide +kernel, by decide +kernel, by decide +kernel⟩
theorem kvX6_firstTalking : xMV mX6_firstTalking 6 := ⟨kX6_firstTalking, wi_X6_firstTalking, ws_X6_firstTalking, by decide, rfl⟩
abbrev mX6_listenerOf : MT := (yX6_listenerOf, cX6_listenerOf, 3, some FieldType.int, { frames := 1, cells := 0, slots := 0, locals := 21 }, 1)
theorem kX6_listenerOf : xM mX6_listenerOf := ⟨wc_X6_listenerOf, wz_X6, by decide +kernel, by decide +kernel, by decide +kernel⟩
theorem kvX6_listenerOf : xMV mX6_listenerOf 6 := ⟨kX6_listenerOf, wi_X6_listenerOf, ws_X6_listenerOf, by decide, rfl⟩
abbrev mX6_logs : MT := (yX6_logs, cX6_logs, 5, none, { frames := 0, cells := 0, slots := 0, locals := 0 }, 3)
theorem kX6_logs : xM mX6_logs := ⟨wc_X6_logs, wz_X6, by decide +kernel, by decide +kernel, by decide +kernel⟩
theorem kvX6_logs : xMV mX6_logs 6 := ⟨kX6_logs, wi_X6_logs, ws_X6_logs, by decide, rfl⟩
abbrev mX6_lose : MT := (yX6_lose, cX6_lose, 3, some FieldType.int, { frames := 3, cells := 0, slots := 0, locals := 68 }, 0)
theorem kX6_lose : xM mX6_lose := ⟨wc_X6_lose, wz_X6, by decide +kernel, by decide +kernel, by decide +kernel⟩
theorem kvX6_lose : xMV mX6_lose 6 := ⟨kX6_lose, wi_X6_lose, ws_X6_lose, by decide, rfl⟩
abbrev mX6_endsIfEmpty : MT := (yX6_endsIfEmpty, cX6_endsIfEmpty, 1, none, { frames := 3, cells := 0, slots := 0, locals := 64 }, 0)
theorem kX6_endsIfEmpty : xM mX6_endsIfEmpty := ⟨wc_X6_endsIfEmpty, wz_X6, by decide +kernel, by decide +kernel, by decide +kernel⟩
theorem kvX6_endsIfEmpty : xMV mX6_endsIfEmpty 6 := ⟨kX6_endsIfEmpty, wi_X6_endsIfEmpty, ws_X6_endsIfEmpty, by decide, rfl⟩
abbrev mX6_stuck : MT := (yX6_stuck, cX6_stuck, 3, some FieldType.int, { frames := 1, cells := 0, slots := 0, locals := 21 }, 0)
theorem kX6_stuck : xM mX6_stuck := ⟨wc_X6_stuck, wz_X6, by decide +kernel, by decide +kernel, by decide +kernel⟩
theorem kvX6_stuck : xMV mX6_stuck 6 := ⟨kX6_stuck, wi_X6_stuck, ws_X6_stuck, by decide, rfl⟩
abbrev mX6_tickStuck : MT := (yX6_tickStuck, cX6_tickStuck, 4, none, { frames := 4, cells := 0, slots := 0, locals := 90 }, 0)
theorem kX6_tickStuck : xM mX6_tickStuck := ⟨wc_X6_tickStuck, wz_X6, by decide +kernel, by decide +kernel, by decide +kernel⟩
theorem kvX6_tickStuck : xMV mX6_tickStuck 6 := ⟨kX6_tickStuck, wi_X6_tickStuck, ws_X6_tickStuck, by decide, rfl⟩
abbrev mX6_tickBit : MT := (yX6_tickBit, cX6_tickBit, 4, none, { frames := 4, cells := 0, slots := 0, locals := 90 }, 0)
theorem kX6_tickBit : xM mX6_tickBit := ⟨wc_X6_tickBit, wz_X6, by decide +kernel, by decide +kernel, by decide +kernel⟩
theorem kvX6_tickBit : xMV mX6_tickBit 6 := ⟨kX6_tickBit, wi_X6_tickBit, ws_X6_tickBit, by decide, rfl⟩
abbrev mX6_tickAnswered : MT := (yX6_tickAnswered, cX6_tickAnswered, 4, none, { frames := 4, cells := 0, slots := 0, locals := 84 }, 1)
theorem kX6_tickAnswered : xM mX6_tickAnswered := ⟨wc_X6_tickAnswered, wz_X6, by decide +kernel, by decide +kernel, by decide +kernel⟩
theorem kvX6_tickAnswered : xMV mX6_tickAnswered 6 := ⟨kX6_tickAnswered, wi_X6_tickAnswered, ws_X6_tickAnswered, by decide, rfl⟩
abbrev mX6_tickUnanswered : MT := (yX6_tickUnanswered, cX6_tickUnanswered, 2, none, { frames := 4, cells := 0, slots := 0, locals := 84 }, 0)
theorem kX6_tickUnanswered : xM mX6_tickUnanswered := ⟨wc_X6_tickUnanswered, wz_X6, by decide +kernel, by decide +kernel, by decide +kernel⟩
theorem kvX6_tickUnanswered : xMV mX6_tickUnanswered 6 := ⟨kX6_tickUnanswered, wi_X6_tickUnanswered, ws_X6_tickUnanswered, by decide, rfl⟩
abbrev mX6_messages : MT := (yX6_messages, cX6_messages, 3, some FieldType.int, { frames := 1, cells := 0, slots := 0, locals := 21 }, 0)
theorem kX6_messages : xM mX6_messages := ⟨wc_X6_messages, wz_X6, by decide +kernel, by decide +kernel, by decide +kernel⟩
theorem kvX6_messages : xMV mX6_messages 6 := ⟨kX6_messages, wi_X6_messages, ws_X6_messages, by decide, rfl⟩
abbrev mX6_tickFree : MT := (yX6_tickFree, cX6_tickFree, 2, none, { frames := 2, cells := 0, slots := 0, locals := 43 }, 0)
theorem kX6_tickFree : xM mX6_tickFree := ⟨wc_X6_tickFree, wz_X6, by decide +kernel, by decide +kernel, by decide +kernel⟩
theorem kvX6_tickFree : xMV mX6_tickFree 6 := ⟨kX6_tickFree, wi_X6_tickFree, ws_X6_tickFree, by decide, rfl⟩
abbrev mX6_next : MT := (yX6_next, cX6_next, 1, some FieldType.int, { frames := 3, cells := 0, slots := 0, locals := 64 }, 0)
theorem kX6_next : xM mX6_next := ⟨wc_X6_next, wz_X6, by decide +kernel, by decide +kernel, by decide +kernel⟩
theorem kvX6_next : xMV mX6_next 6 := ⟨kX6_next, wi_X6_next, ws_X6_next, by decide, rfl⟩
abbrev mX6_tick : MT := (yX6_tick, cX6_tick, 3, none, { frames := 5, cells := 0, slots := 0, locals := 113 }, 0)
theorem kX6_tick : xM mX6_tick := ⟨wc_X6_tick, wz_X6, by decide +kernel, by decide +kernel, by decide +kernel⟩
theorem kvX6_tick : xMV mX6_tick 6 := ⟨kX6_tick, wi_X6_tick, ws_X6_tick, by decide, rfl⟩
abbrev mX6_came : MT := (yX6_came, cX6_came, 3, some FieldType.int, { frames := 1, cells := 0, slots := 0, locals := 21 }, 0)
theorem kX6_came : xM mX6_came := ⟨wc_X6_came, wz_X6, by decide +kernel, by decide +kernel, by decide +kernel⟩
theorem kvX6_came : xMV mX6_came 6 := ⟨kX6_came, wi_X6_came, ws_X6_came, by decide, rfl⟩
abbrev mX6_says : MT := (yX6_says, cX6_says, 6, some FieldType.int, { frames := 2, cells := 0, slots := 0, locals := 42 }, 4)
theorem kX6_says : xM mX6_says := ⟨wc_X6_says, wz_X6, by decide +kernel, by decide +kernel, by decide +kernel⟩
theorem kvX6_says : xMV mX6_says 6 := ⟨kX6_says, wi_X6_says, ws_X6_says, by decide, rfl⟩
abbrev mX6_hears : MT := (yX6_hears, cX6_hears, 6, some FieldType.int, { frames := 2, cells := 0, slots := 0, locals := 43 }, 2)
theorem kX6_hears : xM mX6_hears := ⟨wc_X6_hears, wz_X6, by decide +kernel, by decide +kernel, by decide +kernel⟩
theorem kvX6_hears : xMV mX6_hears 6 := ⟨kX6_hears, wi_X6_hears, ws_X6_hears, by decide, rfl⟩
abbrev mX6_holds : MT := (yX6_holds, cX6_holds, 4, some FieldType.int, { frames := 2, cells := 0, slots := 0, locals := 42 }, 2)
theorem kX6_holds : xM mX6_holds := ⟨wc_X6_holds, wz_X6, by decide +kernel, by decide +kernel, by decide +kernel⟩
theorem kvX6_holds : xMV mX6_holds 6 := ⟨kX6_holds, wi_X6_holds, ws_X6_holds, by decide, rfl⟩
abbrev mX6_sticks : MT := (yX6_sticks, cX6_sticks, 3, some FieldType.int, { frames := 2, cells := 0, slots := 0, locals := 43 }, 2)
theorem kX6_sticks : xM mX6_sticks := ⟨wc_X6_sticks, wz_X6, by decide +kernel, by decide +kernel, by decide +kernel⟩
theorem kvX6_sticks : xMV mX6_sticks 6 := ⟨kX6_sticks, wi_X6_sticks, ws_X6_sticks, by decide, rfl⟩
abbrev mX6_runs : MT := (yX6_runs, cX6_runs, 4, some FieldType.int, { frames := 6, cells := 0, slots := 0, locals := 135 }, 1)
theorem kX6_runs : xM mX6_runs := ⟨wc_X6_runs, wz_X6, by decide +kernel, by decide +kernel, by decide +kernel⟩
theorem kvX6_runs : xMV mX6_runs 6 := ⟨kX6_runs, wi_X6_runs, ws_X6_runs, by decide, rfl⟩
abbrev mX6_takesBack : MT := (yX6_takesBack, cX6_takesBack, 3, some FieldType.int, { frames := 2, cells := 0, slots := 0, locals := 42 }, 1)
theorem kX6_takesBack : xM mX6_takesBack := ⟨wc_X6_takesBack, wz_X6, by decide +kernel, by decide +kernel, by decide +kernel⟩
theorem kvX6_takesBack : xMV mX6_takesBack 6 := ⟨kX6_takesBack, wi_X6_takesBack, ws_X6_takesBack, by decide, rfl⟩
abbrev mX6_most : MT := (yX6_most, cX6_most, 1, some FieldType.int, { frames := 0, cells := 0, slots := 0, locals := 0 }, 1)
theorem kX6_most : xM mX6_most := ⟨wc_X6_most, wz_X6, by decide +kernel, by decide +kernel, by decide +kernel⟩
theorem ktX6_most : xMS mX6_most := ⟨kX6_most, wt_X6_most⟩
abbrev mX6_sets : MT := (yX6_sets, cX6_sets, 4, some FieldType.int, { frames := 1, cells := 0, slots := 0, locals := 22 }, 2)
theorem kX6_sets : xM mX6_sets := ⟨wc_X6_sets, wz_X6, by decide +kernel, by decide +kernel, by decide +kernel⟩
theorem kvX6_sets : xMV mX6_sets 6 := ⟨kX6_sets, wi_X6_sets, ws_X6_sets, by decide, rfl⟩
abbrev mX6_say : MT := (yX6_say, cX6_say, 5, some FieldType.int, { frames := 3, cells := 0, slots := 0, locals := 67 }, 4)
theorem kX6_say : xM mX6_say := ⟨wc_X6_say, wz_X6, by decide +kernel, by decide +kernel, by decide +kernel⟩
theorem kvX6_say : xMV mX6_say 6 := ⟨kX6_say, wi_X6_say, ws_X6_say, by decide, rfl⟩
abbrev mX6_takeBack : MT := (yX6_takeBack, cX6_takeBack, 2, some FieldType.int, { frames := 3, cells := 0, slots := 0, locals := 64 }, 1)
theorem kX6_takeBack : xM mX6_takeBack := ⟨wc_X6_takeBack, wz_X6, by decide +kernel, by decide +kernel, by decide +kernel⟩
theorem kvX6_takeBack : xMV mX6_takeBack 6 := ⟨kX6_takeBack, wi_X6_takeBack, ws_X6_takeBack, by decide, rfl⟩
abbrev mX6_hear : MT := (yX6_hear, cX6_hear, 3, some FieldType.int, { frames := 3, cells := 0, slots := 0, locals := 68 }, 2)
theorem kX6_hear : xM mX6_hear := ⟨wc_X6_hear, wz_X6, by decide +kernel, by decide +kernel, by decide +kernel⟩
theorem kvX6_hear : xMV mX6_hear 6 := ⟨kX6_hear, wi_X6_hear, ws_X6_hear, by decide, rfl⟩
abbrev mX6_hold : MT := (yX6_hold, cX6_hold, 3, some FieldType.int, { frames := 3, cells := 0, slots := 0, locals := 65 }, 2)
theorem kX6_hold : xM mX6_hold := ⟨wc_X6_hold, wz_X6, by decide +kernel, by decide +kernel, by decide +kernel⟩
theorem kvX6_hold : xMV mX6_hold 6 := ⟨kX6_hold, wi_X6_hold, ws_X6_hold, by decide, rfl⟩
abbrev mX6_stick : MT := (yX6_stick, cX6_stick, 3, some FieldType.int, { frames := 3, cells := 0, slots := 0, locals := 65 }, 2)
theorem kX6_stick : xM mX6_stick := ⟨wc_X6_stick, wz_X6, by decide +kernel, by decide +kernel, by decide +kernel⟩
theorem kvX6_stick : xMV mX6_stick 6 := ⟨kX6_stick, wi_X6_stick, ws_X6_stick, by decide, rfl⟩
abbrev mX6_set : MT := (yX6_set, cX6_set, 3, some FieldType.int, { frames := 2, cells := 0, slots := 0, locals := 45 }, 2)
theorem kX6_set : xM mX6_set := ⟨wc_X6_set, wz_X6, by decide +kernel, by decide +kernel, by decide +kernel⟩
theorem kvX6_set : xMV mX6_set 6 := ⟨kX6_set, wi_X6_set, ws_X6_set, by decide, rfl⟩
abbrev mX6_run : MT := (yX6_run, cX6_run, 2, some FieldType.int, { frames := 7, cells := 0, slots := 0, locals := 158 }, 1)
theorem kX6_run : xM mX6_run := ⟨wc_X6_run, wz_X6, by decide +kernel, by decide +kernel, by decide +kernel⟩
theorem kvX6_run : xMV mX6_run 6 := ⟨kX6_run, wi_X6_run, ws_X6_run, by decide, rfl⟩
abbrev mX6_type : MT := (yX6_type, cX6_type, 2, some FieldType.int, { frames := 0, cells := 0, slots := 0, locals := 0 }, 1)
theorem kX6_type : xM mX6_type := ⟨wc_X6_type, wz_X6, by decide +kernel, by decide +kernel, by decide +kernel⟩
theorem kvX6_type : xMV mX6_type 6 := ⟨kX6_type, wi_X6_type, ws_X6_type, by decide, rfl⟩
abbrev mX6_clearText : MT := (yX6_clearText, cX6_clearText, 2, some FieldType.int, { frames := 0, cells := 0, slots := 0, locals := 0 }, 0)
theorem kX6_clearText : xM mX6_clearText := ⟨wc_X6_clearText, wz_X6, by decide +kernel, by decide +kernel, by decide +kernel⟩
theorem kvX6_clearText : xMV mX6_clearText 6 := ⟨kX6_clearText, wi_X6_clearText, ws_X6_clearText, by decide, rfl⟩
abbrev mX6_sign : MT := (yX6_sign, cX6_sign, 2, none, { frames := 0, cells := 0, slots := 0, locals := 0 }, 1)
theorem kX6_sign : xM mX6_sign := ⟨wc_X6_sign, wz_X6, by decide +kernel, by decide +kernel, by decide +kernel⟩
theorem kvX6_sign : xMV mX6_sign 6 := ⟨kX6_sign, wi_X6_sign, ws_X6_sign, by decide, rfl⟩
abbrev mX6_isNext : MT := (yX6_isNext, cX6_isNext, 2, some FieldType.boolean, { frames := 0, cells := 0, slots := 0, locals := 0 }, 1)
theorem kX6_isNext : xM mX6_isNext := ⟨wc_X6_isNext, wz_X6, by decide +kernel, by decide +kernel, by decide +kernel⟩
theorem kvX6_isNext : xMV mX6_isNext 6 := ⟨kX6_isNext, wi_X6_isNext, ws_X6_isNext, by decide, rfl⟩
abbrev mX6_isDigit : MT := (yX6_isDigit, cX6_isDigit, 1, some FieldType.boolean, { frames := 1, cells := 0, slots := 0, locals := 22 }, 0)
theorem kX6_isDigit : xM mX6_isDigit := ⟨wc_X6_isDigit, wz_X6, by decide +kernel, by decide +kernel, by decide +kernel⟩
theorem kvX6_isDigit : xMV mX6_isDigit 6 := ⟨kX6_isDigit, wi_X6_isDigit, ws_X6_isDigit, by decide, rfl⟩
abbrev mX6_number : MT := (yX6_number, cX6_number, 4, some FieldType.int, { frames := 2, cells := 0, slots := 0, locals := 42 }, 2)
theorem kX6_number : xM mX6_number := ⟨wc_X6_number, wz_X6, by decide +kernel, by decide +kernel, by decide +kernel⟩
theorem kvX6_number : xMV mX6_number 6 := ⟨kX6_number, wi_X6_number, ws_X6_number, by decide, rfl⟩
abbrev mX6_order : MT := (yX6_order, cX6_order, 1, none, { frames := 3, cells := 0, slots := 0, locals := 65 }, 0)
theorem kX6_order : xM mX6_order := ⟨wc_X6_order, wz_X6, by decide +kernel, by decide +kernel, by decide +kernel⟩
theorem kvX6_order : xMV mX6_order 6 := ⟨kX6_order, wi_X6_order, ws_X6_order, by decide, rfl⟩
abbrev mX6_does : MT := (yX6_does, cX6_does, 1, some FieldType.int, { frames := 7, cells := 0, slots := 0, locals := 158 }, 0)
theorem kX6_does : xM mX6_does := ⟨wc_X6_does, wz_X6, by decide +kernel, by decide +kernel, by decide +kernel⟩
theorem kvX6_does : xMV mX6_does 6 := ⟨kX6_does, wi_X6_does, ws_X6_does, by decide, rfl⟩
abbrev mX6_go : MT := (yX6_go, cX6_go, 6, some FieldType.int, { frames := 8, cells := 0, slots := 0, locals := 178 }, 1)
theorem kX6_go : xM mX6_go := ⟨wc_X6_go, wz_X6, by decide +kernel, by decide +kernel, by decide +kernel⟩
theorem kvX6_go : xMV mX6_go 6 := ⟨kX6_go, wi_X6_go, ws_X6_go, by decide, rfl⟩
abbrev mX6_perform : MT := (yX6_perform, cX6_perform, 3, some FieldType.int, { frames := 9, cells := 0, slots := 0, locals := 203 }, 0)
theorem kX6_perform : xM mX6_perform := ⟨wc_X6_perform, wz_X6, by decide +kernel, by decide +kernel, by decide +kernel⟩
theorem kvX6_perform : xMV mX6_perform 6 := ⟨kX6_perform, wi_X6_perform, ws_X6_perform, by decide, rfl⟩
abbrev mX6_stopped : MT := (yX6_stopped, cX6_stopped, 2, some FieldType.int, { frames := 1, cells := 0, slots := 0, locals := 22 }, 1)
theorem kX6_stopped : xM mX6_stopped := ⟨wc_X6_stopped, wz_X6, by decide +kernel, by decide +kernel, by decide +kernel⟩
theorem kvX6_stopped : xMV mX6_stopped 6 := ⟨kX6_stopped, wi_X6_stopped, ws_X6_stopped, by decide, rfl⟩
abbrev mX6_undo : MT := (yX6_undo, cX6_undo, 2, some FieldType.int, { frames := 0, cells := 0, slots := 0, locals := 0 }, 0)
theorem kX6_undo : xM mX6_undo := ⟨wc_X6_undo, wz_X6, by decide +kernel, by decide +kernel, by decide +kernel⟩
theorem kvX6_undo : xMV mX6_undo 6 := ⟨kX6_undo, wi_X6_undo, ws_X6_undo, by decide, rfl⟩
abbrev mX6_keep : MT := (yX6_keep, cX6_keep, 2, some FieldType.int, { frames := 0, cells := 0, slots := 0, locals := 0 }, 0)
theorem kX6_keep : xM mX6_keep := ⟨wc_X6_keep, wz_X6, by decide +kernel, by decide +kernel, by decide +kernel⟩
theorem kvX6_keep : xMV mX6_keep 6 := ⟨kX6_keep, wi_X6_keep, ws_X6_keep, by decide, rfl⟩
abbrev mX6_restore : MT := (yX6_restore, cX6_restore, 2, some FieldType.int, { frames := 1, cells := 0, slots := 0, locals := 22 }, 0)
theorem kX6_restore : xM mX6_restore := ⟨wc_X6_restore, wz_X6, by decide +kernel, by decide +kernel, by decide +kernel⟩
theorem kvX6_restore : xMV mX6_restore 6 := ⟨kX6_restore, wi_X6_restore, ws_X6_restore, by decide, rfl⟩
abbrev mX6_speaker : MT := (yX6_speaker, cX6_speaker, 3, some FieldType.int, { frames := 2, cells := 0, slots := 0, locals := 42 }, 2)
theorem kX6_speaker : xM mX6_speaker := ⟨wc_X6_speaker, wz_X6, by decide +kernel, by decide +kernel, by decide +kernel⟩
theorem kvX6_speaker : xMV mX6_speaker 6 := ⟨kX6_speaker, wi_X6_speaker, ws_X6_speaker, by decide, rfl⟩
abbrev mX6_ticksOf : MT := (yX6_ticksOf, cX6_ticksOf, 5, some FieldType.int, { frames := 2, cells := 0, slots := 0, locals := 44 }, 2)
theorem kX6_ticksOf : xM mX6_ticksOf := ⟨wc_X6_ticksOf, wz_X6, by decide +kernel, by decide +kernel, by decide +kernel⟩
theorem kvX6_ticksOf : xMV mX6_ticksOf 6 := ⟨kX6_ticksOf, wi_X6_ticksOf, ws_X6_ticksOf, by decide, rfl⟩
abbrev mX6_message : MT := (yX6_message, cX6_message, 4, some FieldType.int, { frames := 3, cells := 0, slots := 0, locals := 68 }, 3)
theorem kX6_message : xM mX6_message := ⟨wc_X6_message, wz_X6, by decide +kernel, by decide +kernel, by decide +kernel⟩
theorem kvX6_message : xMV mX6_message 6 := ⟨kX6_message, wi_X6_message, ws_X6_message, by decide, rfl⟩
abbrev mX6_listener : MT := (yX6_listener, cX6_listener, 3, some FieldType.int, { frames := 2, cells := 0, slots := 0, locals := 42 }, 2)
theorem kX6_listener : xM mX6_listener := ⟨wc_X6_listener, wz_X6, by decide +kernel, by decide +kernel, by decide +kernel⟩
theorem kvX6_listener : xMV mX6_listener 6 := ⟨kX6_listener, wi_X6_listener, ws_X6_listener, by decide, rfl⟩
abbrev mX6_bit : MT := (yX6_bit, cX6_bit, 3, some FieldType.int, { frames := 1, cells := 0, slots := 0, locals := 22 }, 2)
theorem kX6_bit : xM mX6_bit := ⟨wc_X6_bit, wz_X6, by decide +kernel, by decide +kernel, by decide +kernel⟩
theorem kvX6_bit : xMV mX6_bit 6 := ⟨kX6_bit, wi_X6_bit, ws_X6_bit, by decide, rfl⟩
abbrev mX6_winners : MT := (yX6_winners, cX6_winners, 7, some FieldType.int, { frames := 3, cells := 0, slots := 0, locals := 68 }, 0)
theorem kX6_winners : xM mX6_winners := ⟨wc_X6_winners, wz_X6, by decide +kernel, by decide +kernel, by decide +kernel⟩
theorem kvX6_winners : xMV mX6_winners 6 := ⟨kX6_winners, wi_X6_winners, ws_X6_winners, by decide, rfl⟩
abbrev mX6_emptyIn : MT := (yX6_emptyIn, cX6_emptyIn, 3, some FieldType.int, { frames := 6, cells := 0, slots := 0, locals := 135 }, 0)
theorem kX6_emptyIn : xM mX6_emptyIn := ⟨wc_X6_emptyIn, wz_X6, by decide +kernel, by decide +kernel, by decide +kernel⟩
theorem kvX6_emptyIn : xMV mX6_emptyIn 6 := ⟨kX6_emptyIn, wi_X6_emptyIn, ws_X6_emptyIn, by decide, rfl⟩
abbrev mX6_ifRun : MT := (yX6_ifRun, cX6_ifRun, 5, some FieldType.int, { frames := 6, cells := 0, slots := 0, locals := 135 }, 2)
theorem kX6_ifRun : xM mX6_ifRun := ⟨wc_X6_ifRun, wz_X6, by decide +kernel, by decide +kernel, by decide +kernel⟩
theorem kvX6_ifRun : xMV mX6_ifRun 6 := ⟨kX6_ifRun, wi_X6_ifRun, ws_X6_ifRun, by decide, rfl⟩
abbrev mX6_count : MT := (yX6_count, cX6_count, 2, some FieldType.int, { frames := 4, cells := 0, slots := 0, locals := 84 }, 1)
theorem kX6_count : xM mX6_count := ⟨wc_X6_count, wz_X6, by decide +kernel, by decide +kernel, by decide +kernel⟩
theorem kvX6_count : xMV mX6_count 6 := ⟨kX6_count, wi_X6_count, ws_X6_count, by decide, rfl⟩
abbrev mJ6_bitCount_0f7a4 : MT := (yJ6_bitCount_0f7a4, cJ6_bitCount_0f7a4, 1, some FieldType.int, { frames := 0, cells := 0, slots := 0, locals := 0 }, 1)
theorem kJ6_bitCount_0f7a4 : xM mJ6_bitCount_0f7a4 := ⟨wc_J6_bitCount_0f7a4, wz_J6, by decide +kernel, by decide +kernel, by decide +kernel⟩
theorem ktJ6_bitCount_0f7a4 : xMS mJ6_bitCount_0f7a4 := ⟨kJ6_bitCount_0f7a4, wt_J6_bitCount_0f7a4⟩
abbrev mJ9_floorMod_7cf53 : MT := (yJ9_floorMod_7cf53, cJ9_floorMod_7cf53, 3, some FieldType.int, { frames := 0, cells := 0, slots := 0, locals := 0 }, 2)
theorem kJ9_floorMod_7cf53 : xM mJ9_floorMod_7cf53 := ⟨wc_J9_floorMod_7cf53, wz_J9, by decide +kernel, by decide +kernel, by decide +kernel⟩
theorem ktJ9_floorMod_7cf53 : xMS mJ9_floorMod_7cf53 := ⟨kJ9_floorMod_7cf53, wt_J9_floorMod_7cf53⟩
abbrev mJ9_max_7cf53 : MT := (yJ9_max_7cf53, cJ9_max_7cf53, 2, some FieldType.int, { frames := 0, cells := 0, slots := 0, locals := 0 }, 2)
theorem kJ9_max_7cf53 : xM mJ9_max_7cf53 := ⟨wc_J9_max_7cf53, wz_J9, by decide +kernel, by decide +kernel, by decide +kernel⟩
theorem ktJ9_max_7cf53 : xMS mJ9_max_7cf53 := ⟨kJ9_max_7cf53, wt_J9_max_7cf53⟩
abbrev mJ9_min_7cf53 : MT := (yJ9_min_7cf53, cJ9_min_7cf53, 2, some FieldType.int, { frames := 0, cells := 0, slots := 0, locals := 0 }, 2)
theorem kJ9_min_7cf53 : xM mJ9_min_7cf53 := ⟨wc_J9_min_7cf53, wz_J9, by decide +kernel, by decide +kernel, by decide +kernel⟩
theorem ktJ9_min_7cf53 : xMS mJ9_min_7cf53 := ⟨kJ9_min_7cf53, wt_J9_min_7cf53⟩
abbrev mJ0_length_8abf5 : MT := (yJ0_length_8abf5, cJ0_length_8abf5, 1, some FieldType.int, { frames := 1, cells := 0, slots := 0, locals := 20 }, 0)
theorem kJ0_length_8abf5 : xM mJ0_length_8abf5 := ⟨wc_J0_length_8abf5, wz_J0, by decide +kernel, by decide +kernel, by decide +kernel⟩
abbrev mJ0_charAt_5068e : MT := (yJ0_charAt_5068e, cJ0_charAt_5068e, 2, some FieldType.char, { frames := 4, cells := 0, slots := 0, locals := 85 }, 1)
theorem kJ0_charAt_5068e : xM mJ0_charAt_5068e := ⟨wc_J0_charAt_5068e, wz_J0, by decide +kernel, by decide +kernel, by decide +kernel⟩
abbrev mJ0_coder_7d493 : MT := (yJ0_coder_7d493, cJ0_coder_7d493, 1, some FieldType.byte, { frames := 0, cells := 0, slots := 0, locals := 0 }, 0)
theorem kJ0_coder_7d493 : xM mJ0_coder_7d493 := ⟨wc_J0_coder_7d493, wz_J0, by decide +kernel, by decide +kernel, by decide +kernel⟩
abbrev mJ0_isLatin1_aae02 : MT := (yJ0_isLatin1_aae02, cJ0_isLatin1_aae02, 1, some FieldType.boolean, { frames := 0, cells := 0, slots := 0, locals := 0 }, 0)
theorem kJ0_isLatin1_aae02 : xM mJ0_isLatin1_aae02 := ⟨wc_J0_isLatin1_aae02, wz_J0, by decide +kernel, by decide +kernel, by decide +kernel⟩
abbrev mJ0_checkIndex_df160 : MT := (yJ0_checkIndex_df160, cJ0_checkIndex_df160, 2, none, { frames := 1, cells := 0, slots := 0, locals := 22 }, 2)
theorem kJ0_checkIndex_df160 : xM mJ0_checkIndex_df160 := ⟨wc_J0_checkIndex_df160, wz_J0, by decide +kernel, by decide +kernel, by decide +kernel⟩
theorem ktJ0_checkIndex_df160 : xMS mJ0_checkIndex_df160 := ⟨kJ0_checkIndex_df160, wt_J0_checkIndex_df160⟩
abbrev mJ1_charAt_3b067 : MT := (yJ1_charAt_3b067, cJ1_charAt_3b067, 2, some FieldType.char, { frames := 2, cells := 0, slots := 0, locals := 43 }, 2)
theorem kJ1_charAt_3b067 : xM mJ1_charAt_3b067 := ⟨wc_J1_charAt_3b067, wz_J1, by decide +kernel, by decide +kernel, by decide +kernel⟩
theorem ktJ1_charAt_3b067 : xMS mJ1_charAt_3b067 := ⟨kJ1_charAt_3b067, wt_J1_charAt_3b067⟩
abbrev mJ2_getChar_3b067 : MT := (yJ2_getChar_3b067, cJ2_getChar_3b067, 2, some FieldType.char, { frames := 1, cells := 0, slots := 0, locals := 20 }, 2)
theorem kJ2_getChar_3b067 : xM mJ2_getChar_3b067 := ⟨wc_J2_getChar_3b067, wz_J2, by decide +kernel, by decide +kernel, by decide +kernel⟩
theorem ktJ2_getChar_3b067 : xMS mJ2_getChar_3b067 := ⟨kJ2_getChar_3b067, wt_J2_getChar_3b067⟩
abbrev mJ2_length_9d52b : MT := (yJ2_length_9d52b, cJ2_length_9d52b, 1, some FieldType.int, { frames := 0, cells := 0, slots := 0, locals := 0 }, 1)
theorem kJ2_length_9d52b : xM mJ2_length_9d52b := ⟨wc_J2_length_9d52b, wz_J2, by decide +kernel, by decide +kernel, by decide +kernel⟩
theorem ktJ2_length_9d52b : xMS mJ2_length_9d52b := ⟨kJ2_length_9d52b, wt_J2_length_9d52b⟩
abbrev mJ2_charAt_3b067 : MT := (yJ2_charAt_3b067, cJ2_charAt_3b067, 2, some FieldType.char, { frames := 3, cells := 0, slots := 0, locals := 64 }, 2)
theorem kJ2_charAt_3b067 : xM mJ2_charAt_3b067 := ⟨wc_J2_charAt_3b067, wz_J2, by decide +kernel, by decide +kernel, by decide +kernel⟩
theorem ktJ2_charAt_3b067 : xMS mJ2_charAt_3b067 := ⟨kJ2_charAt_3b067, wt_J2_charAt_3b067⟩
abbrev mJ2_checkIndex_2214a : MT := (yJ2_checkIndex_2214a, cJ2_checkIndex_2214a, 2, none, { frames := 2, cells := 0, slots := 0, locals := 43 }, 2)
theorem kJ2_checkIndex_2214a : xM mJ2_checkIndex_2214a := ⟨wc_J2_checkIndex_2214a, wz_J2, by decide +kernel, by decide +kernel, by decide +kernel⟩
theorem ktJ2_checkIndex_2214a : xMS mJ2_checkIndex_2214a := ⟨kJ2_checkIndex_2214a, wt_J2_checkIndex_2214a⟩
abbrev mJ3_checkIndex_8e157 : MT := (yJ3_checkIndex_8e157, cJ3_checkIndex_8e157, 3, some FieldType.int, { frames := 0, cells := 0, slots := 0, locals := 0 }, 3)
theorem kJ3_checkIndex_8e157 : xM mJ3_checkIndex_8e157 := ⟨wc_J3_checkIndex_8e157, wz_J3, by decide +kernel, by decide +kernel, by decide +kernel⟩
theorem ktJ3_checkIndex_8e157 : xMS mJ3_checkIndex_8e157 := ⟨kJ3_checkIndex_8e157, wt_J3_checkIndex_8e157⟩
end
section
theorem dJ6_bitCount_0f7a4_0 : decode cJ6_bitCount_0f7a4 0 = .ok (.iload_n 0, 1) := by decide +kernel
theorem dJ6_bitCount_0f7a4_1 : decode cJ6_bitCount_0f7a4 1 = .ok (.iload_n 0, 1) := by decide +kernel
theorem dJ6_bitCount_0f7a4_2 : decode cJ6_bitCount_0f7a4 2 = .ok (.iconst 1, 1) := by decide +kernel
theorem dJ6_bitCount_0f7a4_3 : decode cJ6_bitCount_0f7a4 3 = .ok (.iushr, 1) := by decide +kernel
theorem dJ6_bitCount_0f7a4_4 : decode cJ6_bitCount_0f7a4 4 = .ok (.ldc_w 265, 3) := by decide +kernel
theorem dJ6_bitCount_0f7a4_7 : decode cJ6_bitCount_0f7a4 7 = .ok (.iand, 1) := by decide +kernel
theorem dJ6_bitCount_0f7a4_8 : decode cJ6_bitCount_0f7a4 8 = .ok (.isub, 1) := by decide +kernel
theorem dJ6_bitCount_0f7a4_9 : decode cJ6_bitCount_0f7a4 9 = .ok (.istore_n 0, 1) := by decide +kernel
theorem dJ6_bitCount_0f7a4_10 : decode cJ6_bitCount_0f7a4 10 = .ok (.iload_n 0, 1) := by decide +kernel
theorem dJ6_bitCount_0f7a4_11 : decode cJ6_bitCount_0f7a4 11 = .ok (.ldc_w 266, 3) := by decide +kernel
theorem dJ6_bitCount_0f7a4_14 : decode cJ6_bitCount_0f7a4 14 = .ok (.iand, 1) := by decide +kernel
theorem dJ6_bitCount_0f7a4_15 : decode cJ6_bitCount_0f7a4 15 = .ok (.iload_n 0, 1) := by decide +kernel
theorem dJ6_bitCount_0f7a4_16 : decode cJ6_bitCount_0f7a4 16 = .ok (.iconst 2, 1) := by decide +kernel
theorem dJ6_bitCount_0f7a4_17 : decode cJ6_bitCount_0f7a4 17 = .ok (.iushr, 1) := by decide +kernel
theorem dJ6_bitCount_0f7a4_18 : decode cJ6_bitCount_0f7a4 18 = .ok (.ldc_w 266, 3) := by decide +kernel
theorem dJ6_bitCount_0f7a4_21 : decode cJ6_bitCount_0f7a4 21 = .ok (.iand, 1) := by decide +kernel
theorem dJ6_bitCount_0f7a4_22 : decode cJ6_bitCount_0f7a4 22 = .ok (.iadd, 1) := by decide +kernel
theorem dJ6_bitCount_0f7a4_23 : decode cJ6_bitCount_0f7a4 23 = .ok (.istore_n 0, 1) := by decide +kernel
theorem dJ6_bitCount_0f7a4_24 : decode cJ6_bitCount_0f7a4 24 = .ok (.iload_n 0, 1) := by decide +kernel
theorem dJ6_bitCount_0f7a4_25 : decode cJ6_bitCount_0f7a4 25 = .ok (.iload_n 0, 1) := by decide +kernel
theorem dJ6_bitCount_0f7a4_26 : decode cJ6_bitCount_0f7a4 26 = .ok (.iconst 4, 1) := by decide +kernel
theorem dJ6_bitCount_0f7a4_27 : decode cJ6_bitCount_0f7a4 27 = .ok (.iushr, 1) := by decide +kernel
theorem dJ6_bitCount_0f7a4_28 : decode cJ6_bitCount_0f7a4 28 = .ok (.iadd, 1) := by decide +kernel
theorem dJ6_bitCount_0f7a4_29 : decode cJ6_bitCount_0f7a4 29 = .ok (.ldc_w 267, 3) := by decide +kernel
theorem dJ6_bitCount_0f7a4_32 : decode cJ6_bitCount_0f7a4 32 = .ok (.iand, 1) := by decide +kernel
theorem dJ6_bitCount_0f7a4_33 : decode cJ6_bitCount_0f7a4 33 = .ok (.istore_n 0, 1) := by decide +kernel
theorem dJ6_bitCount_0f7a4_34 : decode cJ6_bitCount_0f7a4 34 = .ok (.iload_n 0, 1) := by decide +kernel
theorem dJ6_bitCount_0f7a4_35 : decode cJ6_bitCount_0f7a4 35 = .ok (.iload_n 0, 1) := by decide +kernel
theorem dJ6_bitCount_0f7a4_36 : decode cJ6_bitCount_0f7a4 36 = .ok (.bipush 8, 2) := by decide +kernel
theorem dJ6_bitCount_0f7a4_38 : decode cJ6_bitCount_0f7a4 38 = .ok (.iushr, 1) := by decide +kernel
theorem dJ6_bitCount_0f7a4_39 : decode cJ6_bitCount_0f7a4 39 = .ok (.iadd, 1) := by decide +kernel
theorem dJ6_bitCount_0f7a4_40 : decode cJ6_bitCount_0f7a4 40 = .ok (.istore_n 0, 1) := by decide +kernel
theorem dJ6_bitCount_0f7a4_41 : decode cJ6_bitCount_0f7a4 41 = .ok (.iload_n 0, 1) := by decide +kernel
theorem dJ6_bitCount_0f7a4_42 : decode cJ6_bitCount_0f7a4 42 = .ok (.iload_n 0, 1) := by decide +kernel
theorem dJ6_bitCount_0f7a4_43 : decode cJ6_bitCount_0f7a4 43 = .ok (.bipush 16, 2) := by decide +kernel
theorem dJ6_bitCount_0f7a4_45 : decode cJ6_bitCount_0f7a4 45 = .ok (.iushr, 1) := by decide +kernel
theorem dJ6_bitCount_0f7a4_46 : decode cJ6_bitCount_0f7a4 46 = .ok (.iadd, 1) := by decide +kernel
theorem dJ6_bitCount_0f7a4_47 : decode cJ6_bitCount_0f7a4 47 = .ok (.istore_n 0, 1) := by decide +kernel
theorem dJ6_bitCount_0f7a4_48 : decode cJ6_bitCount_0f7a4 48 = .ok (.iload_n 0, 1) := by decide +kernel
theorem dJ6_bitCount_0f7a4_49 : decode cJ6_bitCount_0f7a4 49 = .ok (.bipush 63, 2) := by decide +kernel
theorem dJ6_bitCount_0f7a4_51 : decode cJ6_bitCount_0f7a4 51 = .ok (.iand, 1) := by decide +kernel
theorem dJ6_bitCount_0f7a4_52 : decode cJ6_bitCount_0f7a4 52 = .ok (.ireturn, 1) := by decide +kernel
theorem dJ9_floorMod_7cf53_0 : decode cJ9_floorMod_7cf53 0 = .ok (.iload_n 0, 1) := by decide +kernel
theorem dJ9_floorMod_7cf53_1 : decode cJ9_floorMod_7cf53 1 = .ok (.iload_n 1, 1) := by decide +kernel
theorem dJ9_floorMod_7cf53_2 : decode cJ9_floorMod_7cf53 2 = .ok (.irem, 1) := by decide +kernel
theorem dJ9_floorMod_7cf53_3 : decode cJ9_floorMod_7cf53 3 = .ok (.istore_n 2, 1) := by decide +kernel
theorem dJ9_floorMod_7cf53_4 : decode cJ9_floorMod_7cf53 4 = .ok (.iload_n 0, 1) := by decide +kernel
theorem dJ9_floorMod_7cf53_5 : decode cJ9_floorMod_7cf53 5 = .ok (.iload_n 1, 1) := by decide +kernel
theorem dJ9_floorMod_7cf53_6 : decode cJ9_floorMod_7cf53 6 = .ok (.ixor, 1) := by decide +kernel
theorem dJ9_floorMod_7cf53_7 : decode cJ9_floorMod_7cf53 7 = .ok (.ifCond .ge 11, 3) := by decide +kernel
theorem dJ9_floorMod_7cf53_10 : decode cJ9_floorMod_7cf53 10 = .ok (.iload_n 2, 1) := by decide +kernel
theorem dJ9_floorMod_7cf53_11 : decode cJ9_floorMod_7cf53 11 = .ok (.ifCond .eq 7, 3) := by decide +kernel
theorem dJ9_floorMod_7cf53_14 : decode cJ9_floorMod_7cf53 14 = .ok (.iload_n 2, 1) := by decide +kernel
theorem dJ9_floorMod_7cf53_15 : decode cJ9_floorMod_7cf53 15 = .ok (.iload_n 1, 1) := by decide +kernel
theorem dJ9_floorMod_7cf53_16 : decode cJ9_floorMod_7cf53 16 = .ok (.iadd, 1) := by decide +kernel
theorem dJ9_floorMod_7cf53_17 : decode cJ9_floorMod_7cf53 17 = .ok (.ireturn, 1) := by decide +kernel
theorem dJ9_floorMod_7cf53_18 : decode cJ9_floorMod_7cf53 18 = .ok (.iload_n 2, 1) := by decide +kernel
theorem dJ9_floorMod_7cf53_19 : decode cJ9_floorMod_7cf53 19 = .ok (.ireturn, 1) := by decide +kernel
theorem dJ9_max_7cf53_0 : decode cJ9_max_7cf53 0 = .ok (.iload_n 0, 1) := by decide +kernel
theorem dJ9_max_7cf53_1 : decode cJ9_max_7cf53 1 = .ok (.iload_n 1, 1) := by decide +kernel
theorem dJ9_max_7cf53_2 : decode cJ9_max_7cf53 2 = .ok (.if_icmp .lt 7, 3) := by decide +kernel
theorem dJ9_max_7cf53_5 : decode cJ9_max_7cf53 5 = .ok (.iload_n 0, 1) := by decide +kernel
theorem dJ9_max_7cf53_6 : decode cJ9_max_7cf53 6 = .ok (.goto 4, 3) := by decide +kernel
theorem dJ9_max_7cf53_9 : decode cJ9_max_7cf53 9 = .ok (.iload_n 1, 1) := by decide +kernel
theorem dJ9_max_7cf53_10 : decode cJ9_max_7cf53 10 = .ok (.ireturn, 1) := by decide +kernel
theorem dJ9_min_7cf53_0 : decode cJ9_min_7cf53 0 = .ok (.iload_n 0, 1) := by decide +kernel
theorem dJ9_min_7cf53_1 : decode cJ9_min_7cf53 1 = .ok (.iload_n 1, 1) := by decide +kernel
theorem dJ9_min_7cf53_2 : decode cJ9_min_7cf53 2 = .ok (.if_icmp .gt 7, 3) := by decide +kernel
theorem dJ9_min_7cf53_5 : decode cJ9_min_7cf53 5 = .ok (.iload_n 0, 1) := by decide +kernel
theorem dJ9_min_7cf53_6 : decode cJ9_min_7cf53 6 = .ok (.goto 4, 3) := by decide +kernel
theorem dJ9_min_7cf53_9 : decode cJ9_min_7cf53 9 = .ok (.iload_n 1, 1) := by decide +kernel
theorem dJ9_min_7cf53_10 : decode cJ9_min_7cf53 10 = .ok (.ireturn, 1) := by decide +kernel
theorem dJ0_length_8abf5_0 : decode cJ0_length_8abf5 0 = .ok (.aload_n 0, 1) := by decide +kernel
theorem dJ0_length_8abf5_1 : decode cJ0_length_8abf5 1 = .ok (.getfield 9, 3) := by decide +kernel
theorem dJ0_length_8abf5_4 : decode cJ0_length_8abf5 4 = .ok (.arraylength, 1) := by decide +kernel
theorem dJ0_length_8abf5_5 : decode cJ0_length_8abf5 5 = .ok (.aload_n 0, 1) := by decide +kernel
theorem dJ0_length_8abf5_6 : decode cJ0_length_8abf5 6 = .ok (.invokevirtual 335, 3) := by decide +kernel
theorem dJ0_length_8abf5_9 : decode cJ0_length_8abf5 9 = .ok (.ishr, 1) := by decide +kernel
theorem dJ0_length_8abf5_10 : decode cJ0_length_8abf5 10 = .ok (.ireturn, 1) := by decide +kernel
theorem dJ0_charAt_5068e_0 : decode cJ0_charAt_5068e 0 = .ok (.aload_n 0, 1) := by decide +kernel
theorem dJ0_charAt_5068e_1 : decode cJ0_charAt_5068e 1 = .ok (.invokevirtual 492, 3) := by decide +kernel
theorem dJ0_charAt_5068e_4 : decode cJ0_charAt_5068e 4 = .ok (.ifCond .eq 12, 3) := by decide +kernel
theorem dJ0_charAt_5068e_7 : decode cJ0_charAt_5068e 7 = .ok (.aload_n 0, 1) := by decide +kernel
theorem dJ0_charAt_5068e_8 : decode cJ0_charAt_5068e 8 = .ok (.getfield 9, 3) := by decide +kernel
theorem dJ0_charAt_5068e_11 : decode cJ0_charAt_5068e 11 = .ok (.iload_n 1, 1) := by decide +kernel
theorem dJ0_charAt_5068e_12 : decode cJ0_charAt_5068e 12 = .ok (.invokestatic 495, 3) := by decide +kernel
theorem dJ0_charAt_5068e_15 : decode cJ0_charAt_5068e 15 = .ok (.ireturn, 1) := by decide +kernel
theorem dJ0_charAt_5068e_16 : decode cJ0_charAt_5068e 16 = .ok (.aload_n 0, 1) := by decide +kernel
theorem dJ0_charAt_5068e_17 : decode cJ0_charAt_5068e 17 = .ok (.getfield 9, 3) := by decide +kernel
theorem dJ0_charAt_5068e_20 : decode cJ0_charAt_5068e 20 = .ok (.iload_n 1, 1) := by decide +kernel
theorem dJ0_charAt_5068e_21 : decode cJ0_charAt_5068e 21 = .ok (.invokestatic 498, 3) := by decide +kernel
theorem dJ0_charAt_5068e_24 : decode cJ0_charAt_5068e 24 = .ok (.ireturn, 1) := by decide +kernel
theorem dJ0_coder_7d493_0 : decode cJ0_coder_7d493 0 = .ok (.getstatic 38, 3) := by decide +kernel
theorem dJ0_coder_7d493_3 : decode cJ0_coder_7d493 3 = .ok (.ifCond .eq 10, 3) := by decide +kernel
theorem dJ0_coder_7d493_6 : decode cJ0_coder_7d493 6 = .ok (.aload_n 0, 1) := by decide +kernel
theorem dJ0_coder_7d493_7 : decode cJ0_coder_7d493 7 = .ok (.getfield 15, 3) := by decide +kernel
theorem dJ0_coder_7d493_10 : decode cJ0_coder_7d493 10 = .ok (.goto 4, 3) := by decide +kernel
theorem dJ0_coder_7d493_13 : decode cJ0_coder_7d493 13 = .ok (.iconst 1, 1) := by decide +kernel
theorem dJ0_coder_7d493_14 : decode cJ0_coder_7d493 14 = .ok (.ireturn, 1) := by decide +kernel
theorem dJ0_isLatin1_aae02_0 : decode cJ0_isLatin1_aae02 0 = .ok (.getstatic 38, 3) := by decide +kernel
theorem dJ0_isLatin1_aae02_3 : decode cJ0_isLatin1_aae02 3 = .ok (.ifCond .eq 14, 3) := by decide +kernel
theorem dJ0_isLatin1_aae02_6 : decode cJ0_isLatin1_aae02 6 = .ok (.aload_n 0, 1) := by decide +kernel
theorem dJ0_isLatin1_aae02_7 : decode cJ0_isLatin1_aae02 7 = .ok (.getfield 15, 3) := by decide +kernel
theorem dJ0_isLatin1_aae02_10 : decode cJ0_isLatin1_aae02 10 = .ok (.ifCond .ne 7, 3) := by decide +kernel
theorem dJ0_isLatin1_aae02_13 : decode cJ0_isLatin1_aae02 13 = .ok (.iconst 1, 1) := by decide +kernel
theorem dJ0_isLatin1_aae02_14 : decode cJ0_isLatin1_aae02 14 = .ok (.goto 4, 3) := by decide +kernel
theorem dJ0_isLatin1_aae02_17 : decode cJ0_isLatin1_aae02 17 = .ok (.iconst 0, 1) := by decide +kernel
theorem dJ0_isLatin1_aae02_18 : decode cJ0_isLatin1_aae02 18 = .ok (.ireturn, 1) := by decide +kernel
theorem dJ0_checkIndex_df160_0 : decode cJ0_checkIndex_df160 0 = .ok (.iload_n 0, 1) := by decide +kernel
theorem dJ0_checkIndex_df160_1 : decode cJ0_checkIndex_df160 1 = .ok (.iload_n 1, 1) := by decide +kernel
theorem dJ0_checkIndex_df160_2 : decode cJ0_checkIndex_df160 2 = .ok (.getstatic 1053, 3) := by decide +kernel
theorem dJ0_checkIndex_df160_5 : decode cJ0_checkIndex_df160 5 = .ok (.invokestatic 1059, 3) := by decide +kernel
theorem dJ0_checkIndex_df160_8 : decode cJ0_checkIndex_df160 8 = .ok (.pop, 1) := by decide +kernel
theorem dJ0_checkIndex_df160_9 : decode cJ0_checkIndex_df160 9 = .ok (.return_, 1) := by decide +kernel
theorem dJ1_charAt_3b067_0 : decode cJ1_charAt_3b067 0 = .ok (.iload_n 1, 1) := by decide +kernel
theorem dJ1_charAt_3b067_1 : decode cJ1_charAt_3b067 1 = .ok (.aload_n 0, 1) := by decide +kernel
theorem dJ1_charAt_3b067_2 : decode cJ1_charAt_3b067 2 = .ok (.arraylength, 1) := by decide +kernel
theorem dJ1_charAt_3b067_3 : decode cJ1_charAt_3b067 3 = .ok (.invokestatic 9, 3) := by decide +kernel
theorem dJ1_charAt_3b067_6 : decode cJ1_charAt_3b067 6 = .ok (.aload_n 0, 1) := by decide +kernel
theorem dJ1_charAt_3b067_7 : decode cJ1_charAt_3b067 7 = .ok (.iload_n 1, 1) := by decide +kernel
theorem dJ1_charAt_3b067_8 : decode cJ1_charAt_3b067 8 = .ok (.baload, 1) := by decide +kernel
theorem dJ1_charAt_3b067_9 : decode cJ1_charAt_3b067 9 = .ok (.sipush 255, 3) := by decide +kernel
theorem dJ1_charAt_3b067_12 : decode cJ1_charAt_3b067 12 = .ok (.iand, 1) := by decide +kernel
theorem dJ1_charAt_3b067_13 : decode cJ1_charAt_3b067 13 = .ok (.i2c, 1) := by decide +kernel
theorem dJ1_charAt_3b067_14 : decode cJ1_charAt_3b067 14 = .ok (.ireturn, 1) := by decide +kernel
theorem dJ2_getChar_3b067_0 : decode cJ2_getChar_3b067 0 = .ok (.getstatic 44, 3) := by decide +kernel
theorem dJ2_getChar_3b067_3 : decode cJ2_getChar_3b067 3 = .ok (.ifCond .ne 25, 3) := by decide +kernel
theorem dJ2_getChar_3b067_6 : decode cJ2_getChar_3b067 6 = .ok (.iload_n 1, 1) := by decide +kernel
theorem dJ2_getChar_3b067_7 : decode cJ2_getChar_3b067 7 = .ok (.ifCond .lt 11, 3) := by decide +kernel
theorem dJ2_getChar_3b067_10 : decode cJ2_getChar_3b067 10 = .ok (.iload_n 1, 1) := by decide +kernel
theorem dJ2_getChar_3b067_11 : decode cJ2_getChar_3b067 11 = .ok (.aload_n 0, 1) := by decide +kernel
theorem dJ2_getChar_3b067_12 : decode cJ2_getChar_3b067 12 = .ok (.invokestatic 48, 3) := by decide +kernel
theorem dJ2_getChar_3b067_15 : decode cJ2_getChar_3b067 15 = .ok (.if_icmp .lt 13, 3) := by decide +kernel
theorem dJ2_getChar_3b067_18 : decode cJ2_getChar_3b067 18 = .ok (.new 52, 3) := by decide +kernel
theorem dJ2_getChar_3b067_21 : decode cJ2_getChar_3b067 21 = .ok (.dup, 1) := by decide +kernel
theorem dJ2_getChar_3b067_22 : decode cJ2_getChar_3b067 22 = .ok (.ldc 54, 2) := by decide +kernel
theorem dJ2_getChar_3b067_24 : decode cJ2_getChar_3b067 24 = .ok (.invokespecial 56, 3) := by decide +kernel
theorem dJ2_getChar_3b067_27 : decode cJ2_getChar_3b067 27 = .ok (.athrow, 1) := by decide +kernel
theorem dJ2_getChar_3b067_28 : decode cJ2_getChar_3b067 28 = .ok (.iload_n 1, 1) := by decide +kernel
theorem dJ2_getChar_3b067_29 : decode cJ2_getChar_3b067 29 = .ok (.iconst 1, 1) := by decide +kernel
theorem dJ2_getChar_3b067_30 : decode cJ2_getChar_3b067 30 = .ok (.ishl, 1) := by decide +kernel
theorem dJ2_getChar_3b067_31 : decode cJ2_getChar_3b067 31 = .ok (.istore_n 1, 1) := by decide +kernel
theorem dJ2_getChar_3b067_32 : decode cJ2_getChar_3b067 32 = .ok (.aload_n 0, 1) := by decide +kernel
theorem dJ2_getChar_3b067_33 : decode cJ2_getChar_3b067 33 = .ok (.iload_n 1, 1) := by decide +kernel
theorem dJ2_getChar_3b067_34 : decode cJ2_getChar_3b067 34 = .ok (.iinc 1 1, 3) := by decide +kernel
theorem dJ2_getChar_3b067_37 : decode cJ2_getChar_3b067 37 = .ok (.baload, 1) := by decide +kernel
theorem dJ2_getChar_3b067_38 : decode cJ2_getChar_3b067 38 = .ok (.sipush 255, 3) := by decide +kernel
theorem dJ2_getChar_3b067_41 : decode cJ2_getChar_3b067 41 = .ok (.iand, 1) := by decide +kernel
theorem dJ2_getChar_3b067_42 : decode cJ2_getChar_3b067 42 = .ok (.getstatic 59, 3) := by decide +kernel
theorem dJ2_getChar_3b067_45 : decode cJ2_getChar_3b067 45 = .ok (.ishl, 1) := by decide +kernel
theorem dJ2_getChar_3b067_46 : decode cJ2_getChar_3b067 46 = .ok (.aload_n 0, 1) := by decide +kernel
theorem dJ2_getChar_3b067_47 : decode cJ2_getChar_3b067 47 = .ok (.iload_n 1, 1) := by decide +kernel
theorem dJ2_getChar_3b067_48 : decode cJ2_getChar_3b067 48 = .ok (.baload, 1) := by decide +kernel
theorem dJ2_getChar_3b067_49 : decode cJ2_getChar_3b067 49 = .ok (.sipush 255, 3) := by decide +kernel
theorem dJ2_getChar_3b067_52 : decode cJ2_getChar_3b067 52 = .ok (.iand, 1) := by decide +kernel
theorem dJ2_getChar_3b067_53 : decode cJ2_getChar_3b067 53 = .ok (.getstatic 63, 3) := by decide +kernel
theorem dJ2_getChar_3b067_56 : decode cJ2_getChar_3b067 56 = .ok (.ishl, 1) := by decide +kernel
theorem dJ2_getChar_3b067_57 : decode cJ2_getChar_3b067 57 = .ok (.ior, 1) := by decide +kernel
theorem dJ2_getChar_3b067_58 : decode cJ2_getChar_3b067 58 = .ok (.i2c, 1) := by decide +kernel
theorem dJ2_getChar_3b067_59 : decode cJ2_getChar_3b067 59 = .ok (.ireturn, 1) := by decide +kernel
theorem dJ2_length_9d52b_0 : decode cJ2_length_9d52b 0 = .ok (.aload_n 0, 1) := by decide +kernel
theorem dJ2_length_9d52b_1 : decode cJ2_length_9d52b 1 = .ok (.arraylength, 1) := by decide +kernel
theorem dJ2_length_9d52b_2 : decode cJ2_length_9d52b 2 = .ok (.iconst 1, 1) := by decide +kernel
theorem dJ2_length_9d52b_3 : decode cJ2_length_9d52b 3 = .ok (.ishr, 1) := by decide +kernel
theorem dJ2_length_9d52b_4 : decode cJ2_length_9d52b 4 = .ok (.ireturn, 1) := by decide +kernel
theorem dJ2_charAt_3b067_0 : decode cJ2_charAt_3b067 0 = .ok (.iload_n 1, 1) := by decide +kernel
theorem dJ2_charAt_3b067_1 : decode cJ2_charAt_3b067 1 = .ok (.aload_n 0, 1) := by decide +kernel
theorem dJ2_charAt_3b067_2 : decode cJ2_charAt_3b067 2 = .ok (.invokestatic 67, 3) := by decide +kernel
theorem dJ2_charAt_3b067_5 : decode cJ2_charAt_3b067 5 = .ok (.aload_n 0, 1) := by decide +kernel
theorem dJ2_charAt_3b067_6 : decode cJ2_charAt_3b067 6 = .ok (.iload_n 1, 1) := by decide +kernel
theorem dJ2_charAt_3b067_7 : decode cJ2_charAt_3b067 7 = .ok (.invokestatic 71, 3) := by decide +kernel
theorem dJ2_charAt_3b067_10 : decode cJ2_charAt_3b067 10 = .ok (.ireturn, 1) := by decide +kernel
theorem dJ2_checkIndex_2214a_0 : decode cJ2_checkIndex_2214a 0 = .ok (.iload_n 0, 1) := by decide +kernel
theorem dJ2_checkIndex_2214a_1 : decode cJ2_checkIndex_2214a 1 = .ok (.aload_n 1, 1) := by decide +kernel
theorem dJ2_checkIndex_2214a_2 : decode cJ2_checkIndex_2214a 2 = .ok (.invokestatic 48, 3) := by decide +kernel
theorem dJ2_checkIndex_2214a_5 : decode cJ2_checkIndex_2214a 5 = .ok (.invokestatic 414, 3) := by decide +kernel
theorem dJ2_checkIndex_2214a_8 : decode cJ2_checkIndex_2214a 8 = .ok (.return_, 1) := by decide +kernel
theorem dJ3_checkIndex_8e157_0 : decode cJ3_checkIndex_8e157 0 = .ok (.iload_n 0, 1) := by decide +kernel
theorem dJ3_checkIndex_8e157_1 : decode cJ3_checkIndex_8e157 1 = .ok (.ifCond .lt 8, 3) := by decide +kernel
theorem dJ3_checkIndex_8e157_4 : decode cJ3_checkIndex_8e157 4 = .ok (.iload_n 0, 1) := by decide +kernel
theorem dJ3_checkIndex_8e157_5 : decode cJ3_checkIndex_8e157 5 = .ok (.iload_n 1, 1) := by decide +kernel
theorem dJ3_checkIndex_8e157_6 : decode cJ3_checkIndex_8e157 6 = .ok (.if_icmp .lt 10, 3) := by decide +kernel
theorem dJ3_checkIndex_8e157_9 : decode cJ3_checkIndex_8e157 9 = .ok (.aload_n 2, 1) := by decide +kernel
theorem dJ3_checkIndex_8e157_10 : decode cJ3_checkIndex_8e157 10 = .ok (.iload_n 0, 1) := by decide +kernel
theorem dJ3_checkIndex_8e157_11 : decode cJ3_checkIndex_8e157 11 = .ok (.iload_n 1, 1) := by decide +kernel
theorem dJ3_checkIndex_8e157_12 : decode cJ3_checkIndex_8e157 12 = .ok (.invokestatic 95, 3) := by decide +kernel
theorem dJ3_checkIndex_8e157_15 : decode cJ3_checkIndex_8e157 15 = .ok (.athrow, 1) := by decide +kernel
theorem dJ3_checkIndex_8e157_16 : decode cJ3_checkIndex_8e157 16 = .ok (.iload_n 0, 1) := by decide +kernel
theorem dJ3_checkIndex_8e157_17 : decode cJ3_checkIndex_8e157 17 = .ok (.ireturn, 1) := by decide +kernel
theorem dX0_init_0 : decode cX0_init 0 = .ok (.aload_n 0, 1) := by decide +kernel
theorem dX0_init_1 : decode cX0_init 1 = .ok (.invokespecial 3, 3) := by decide +kernel
theorem dX0_init_4 : decode cX0_init 4 = .ok (.aload_n 0, 1) := by decide +kernel
theorem dX0_init_5 : decode cX0_init 5 = .ok (.sipush 256, 3) := by decide +kernel
theorem dX0_init_8 : decode cX0_init 8 = .ok (.newarray .int, 2) := by decide +kernel
theorem dX0_init_10 : decode cX0_init 10 = .ok (.putfield 11, 3) := by decide +kernel
theorem dX0_init_13 : decode cX0_init 13 = .ok (.return_, 1) := by decide +kernel
theorem dX0_copyFrom_0 : decode cX0_copyFrom 0 = .ok (.aload_n 1, 1) := by decide +kernel
theorem dX0_copyFrom_1 : decode cX0_copyFrom 1 = .ok (.getfield 11, 3) := by decide +kernel
theorem dX0_copyFrom_4 : decode cX0_copyFrom 4 = .ok (.iconst 0, 1) := by decide +kernel
theorem dX0_copyFrom_5 : decode cX0_copyFrom 5 = .ok (.aload_n 0, 1) := by decide +kernel
theorem dX0_copyFrom_6 : decode cX0_copyFrom 6 = .ok (.getfield 11, 3) := by decide +kernel
theorem dX0_copyFrom_9 : decode cX0_copyFrom 9 = .ok (.iconst 0, 1) := by decide +kernel
theorem dX0_copyFrom_10 : decode cX0_copyFrom 10 = .ok (.sipush 256, 3) := by decide +kernel
theorem dX0_copyFrom_13 : decode cX0_copyFrom 13 = .ok (.invokestatic 15, 3) := by decide +kernel
theorem dX0_copyFrom_16 : decode cX0_copyFrom 16 = .ok (.aload_n 0, 1) := by decide +kernel
theorem dX0_copyFrom_17 : decode cX0_copyFrom 17 = .ok (.aload_n 1, 1) := by decide +kernel
theorem dX0_copyFrom_18 : decode cX0_copyFrom 18 = .ok (.getfield 21, 3) := by decide +kernel
theorem dX0_copyFrom_21 : decode cX0_copyFrom 21 = .ok (.putfield 21, 3) := by decide +kernel
theorem dX0_copyFrom_24 : decode cX0_copyFrom 24 = .ok (.aload_n 0, 1) := by decide +kernel
theorem dX0_copyFrom_25 : decode cX0_copyFrom 25 = .ok (.aload_n 1, 1) := by decide +kernel
theorem dX0_copyFrom_26 : decode cX0_copyFrom 26 = .ok (.getfield 25, 3) := by decide +kernel
theorem dX0_copyFrom_29 : decode cX0_copyFrom 29 = .ok (.putfield 25, 3) := by decide +kernel
theorem dX0_copyFrom_32 : decode cX0_copyFrom 32 = .ok (.return_, 1) := by decide +kernel
theorem dX0_add_0 : decode cX0_add 0 = .ok (.aload_n 0, 1) := by decide +kernel
theorem dX0_add_1 : decode cX0_add 1 = .ok (.getfield 21, 3) := by decide +kernel
theorem dX0_add_4 : decode cX0_add 4 = .ok (.bipush 64, 2) := by decide +kernel
theorem dX0_add_6 : decode cX0_add 6 = .ok (.invokestatic 28, 3) := by decide +kernel
theorem dX0_add_9 : decode cX0_add 9 = .ok (.iconst 4, 1) := by decide +kernel
theorem dX0_add_10 : decode cX0_add 10 = .ok (.imul, 1) := by decide +kernel
theorem dX0_add_11 : decode cX0_add 11 = .ok (.istore 5, 2) := by decide +kernel
theorem dX0_add_13 : decode cX0_add 13 = .ok (.aload_n 0, 1) := by decide +kernel
theorem dX0_add_14 : decode cX0_add 14 = .ok (.getfield 11, 3) := by decide +kernel
theorem dX0_add_17 : decode cX0_add 17 = .ok (.iload 5, 2) := by decide +kernel
theorem dX0_add_19 : decode cX0_add 19 = .ok (.iload_n 1, 1) := by decide +kernel
theorem dX0_add_20 : decode cX0_add 20 = .ok (.iastore, 1) := by decide +kernel
theorem dX0_add_21 : decode cX0_add 21 = .ok (.aload_n 0, 1) := by decide +kernel
theorem dX0_add_22 : decode cX0_add 22 = .ok (.getfield 11, 3) := by decide +kernel
theorem dX0_add_25 : decode cX0_add 25 = .ok (.iload 5, 2) := by decide +kernel
theorem dX0_add_27 : decode cX0_add 27 = .ok (.iconst 1, 1) := by decide +kernel
theorem dX0_add_28 : decode cX0_add 28 = .ok (.iadd, 1) := by decide +kernel
theorem dX0_add_29 : decode cX0_add 29 = .ok (.iload_n 2, 1) := by decide +kernel
theorem dX0_add_30 : decode cX0_add 30 = .ok (.iastore, 1) := by decide +kernel
theorem dX0_add_31 : decode cX0_add 31 = .ok (.aload_n 0, 1) := by decide +kernel
theorem dX0_add_32 : decode cX0_add 32 = .ok (.getfield 11, 3) := by decide +kernel
theorem dX0_add_35 : decode cX0_add 35 = .ok (.iload 5, 2) := by decide +kernel
theorem dX0_add_37 : decode cX0_add 37 = .ok (.iconst 2, 1) := by decide +kernel
theorem dX0_add_38 : decode cX0_add 38 = .ok (.iadd, 1) := by decide +kernel
theorem dX0_add_39 : decode cX0_add 39 = .ok (.iload_n 3, 1) := by decide +kernel
theorem dX0_add_40 : decode cX0_add 40 = .ok (.iastore, 1) := by decide +kernel
theorem dX0_add_41 : decode cX0_add 41 = .ok (.aload_n 0, 1) := by decide +kernel
theorem dX0_add_42 : decode cX0_add 42 = .ok (.getfield 11, 3) := by decide +kernel
theorem dX0_add_45 : decode cX0_add 45 = .ok (.iload 5, 2) := by decide +kernel
theorem dX0_add_47 : decode cX0_add 47 = .ok (.iconst 3, 1) := by decide +kernel
theorem dX0_add_48 : decode cX0_add 48 = .ok (.iadd, 1) := by decide +kernel
theorem dX0_add_49 : decode cX0_add 49 = .ok (.iload 4, 2) := by decide +kernel
theorem dX0_add_51 : decode cX0_add 51 = .ok (.iastore, 1) := by decide +kernel
theorem dX0_add_52 : decode cX0_add 52 = .ok (.aload_n 0, 1) := by decide +kernel
theorem dX0_add_53 : decode cX0_add 53 = .ok (.aload_n 0, 1) := by decide +kernel
theorem dX0_add_54 : decode cX0_add 54 = .ok (.getfield 21, 3) := by decide +kernel
theorem dX0_add_57 : decode cX0_add 57 = .ok (.iconst 1, 1) := by decide +kernel
theorem dX0_add_58 : decode cX0_add 58 = .ok (.iadd, 1) := by decide +kernel
theorem dX0_add_59 : decode cX0_add 59 = .ok (.bipush 64, 2) := by decide +kernel
theorem dX0_add_61 : decode cX0_add 61 = .ok (.invokestatic 28, 3) := by decide +kernel
theorem dX0_add_64 : decode cX0_add 64 = .ok (.putfield 21, 3) := by decide +kernel
theorem dX0_add_67 : decode cX0_add 67 = .ok (.aload_n 0, 1) := by decide +kernel
theorem dX0_add_68 : decode cX0_add 68 = .ok (.aload_n 0, 1) := by decide +kernel
theorem dX0_add_69 : decode cX0_add 69 = .ok (.getfield 25, 3) := by decide +kernel
theorem dX0_add_72 : decode cX0_add 72 = .ok (.iconst 1, 1) := by decide +kernel
theorem dX0_add_73 : decode cX0_add 73 = .ok (.iadd, 1) := by decide +kernel
theorem dX0_add_74 : decode cX0_add 74 = .ok (.bipush 64, 2) := by decide +kernel
theorem dX0_add_76 : decode cX0_add 76 = .ok (.invokestatic 34, 3) := by decide +kernel
theorem dX0_add_79 : decode cX0_add 79 = .ok (.putfield 25, 3) := by decide +kernel
theorem dX0_add_82 : decode cX0_add 82 = .ok (.return_, 1) := by decide +kernel
theorem dX0_tell_0 : decode cX0_tell 0 = .ok (.iload_n 1, 1) := by decide +kernel
theorem dX0_tell_1 : decode cX0_tell 1 = .ok (.ifCond .lt 11, 3) := by decide +kernel
theorem dX0_tell_4 : decode cX0_tell 4 = .ok (.iload_n 2, 1) := by decide +kernel
theorem dX0_tell_5 : decode cX0_tell 5 = .ok (.iconst 4, 1) := by decide +kernel
theorem dX0_tell_6 : decode cX0_tell 6 = .ok (.invokestatic 37, 3) := by decide +kernel
theorem dX0_tell_9 : decode cX0_tell 9 = .ok (.ifCond .ne 6, 3) := by decide +kernel
theorem dX0_tell_12 : decode cX0_tell 12 = .ok (.bipush (-2), 2) := by decide +kernel
theorem dX0_tell_14 : decode cX0_tell 14 = .ok (.ireturn, 1) := by decide +kernel
theorem dX0_tell_15 : decode cX0_tell 15 = .ok (.iload_n 1, 1) := by decide +kernel
theorem dX0_tell_16 : decode cX0_tell 16 = .ok (.aload_n 0, 1) := by decide +kernel
theorem dX0_tell_17 : decode cX0_tell 17 = .ok (.getfield 25, 3) := by decide +kernel
theorem dX0_tell_20 : decode cX0_tell 20 = .ok (.if_icmp .lt 6, 3) := by decide +kernel
theorem dX0_tell_23 : decode cX0_tell 23 = .ok (.bipush (-5), 2) := by decide +kernel
theorem dX0_tell_25 : decode cX0_tell 25 = .ok (.ireturn, 1) := by decide +kernel
theorem dX0_tell_26 : decode cX0_tell 26 = .ok (.aload_n 0, 1) := by decide +kernel
theorem dX0_tell_27 : decode cX0_tell 27 = .ok (.getfield 11, 3) := by decide +kernel
theorem dX0_tell_30 : decode cX0_tell 30 = .ok (.aload_n 0, 1) := by decide +kernel
theorem dX0_tell_31 : decode cX0_tell 31 = .ok (.getfield 21, 3) := by decide +kernel
theorem dX0_tell_34 : decode cX0_tell 34 = .ok (.iconst 1, 1) := by decide +kernel
theorem dX0_tell_35 : decode cX0_tell 35 = .ok (.isub, 1) := by decide +kernel
theorem dX0_tell_36 : decode cX0_tell 36 = .ok (.iload_n 1, 1) := by decide +kernel
theorem dX0_tell_37 : decode cX0_tell 37 = .ok (.isub, 1) := by decide +kernel
theorem dX0_tell_38 : decode cX0_tell 38 = .ok (.bipush 64, 2) := by decide +kernel
theorem dX0_tell_40 : decode cX0_tell 40 = .ok (.invokestatic 28, 3) := by decide +kernel
theorem dX0_tell_43 : decode cX0_tell 43 = .ok (.iconst 4, 1) := by decide +kernel
theorem dX0_tell_44 : decode cX0_tell 44 = .ok (.imul, 1) := by decide +kernel
theorem dX0_tell_45 : decode cX0_tell 45 = .ok (.iload_n 2, 1) := by decide +kernel
theorem dX0_tell_46 : decode cX0_tell 46 = .ok (.iadd, 1) := by decide +kernel
theorem dX0_tell_47 : decode cX0_tell 47 = .ok (.iaload, 1) := by decide +kernel
theorem dX0_tell_48 : decode cX0_tell 48 = .ok (.ireturn, 1) := by decide +kernel
theorem dX1_init_0 : decode cX1_init 0 = .ok (.aload_n 0, 1) := by decide +kernel
theorem dX1_init_1 : decode cX1_init 1 = .ok (.invokespecial 3, 3) := by decide +kernel
theorem dX1_init_4 : decode cX1_init 4 = .ok (.aload_n 0, 1) := by decide +kernel
theorem dX1_init_5 : decode cX1_init 5 = .ok (.bipush (-5), 2) := by decide +kernel
theorem dX1_init_7 : decode cX1_init 7 = .ok (.putfield 9, 3) := by decide +kernel
theorem dX1_init_10 : decode cX1_init 10 = .ok (.aload_n 0, 1) := by decide +kernel
theorem dX1_init_11 : decode cX1_init 11 = .ok (.bipush (-5), 2) := by decide +kernel
theorem dX1_init_13 : decode cX1_init 13 = .ok (.putfield 15, 3) := by decide +kernel
theorem dX1_init_16 : decode cX1_init 16 = .ok (.return_, 1) := by decide +kernel
theorem dX1_copyFrom_0 : decode cX1_copyFrom 0 = .ok (.aload_n 0, 1) := by decide +kernel
theorem dX1_copyFrom_1 : decode cX1_copyFrom 1 = .ok (.aload_n 1, 1) := by decide +kernel
theorem dX1_copyFrom_2 : decode cX1_copyFrom 2 = .ok (.getfield 9, 3) := by decide +kernel
theorem dX1_copyFrom_5 : decode cX1_copyFrom 5 = .ok (.putfield 9, 3) := by decide +kernel
theorem dX1_copyFrom_8 : decode cX1_copyFrom 8 = .ok (.aload_n 0, 1) := by decide +kernel
theorem dX1_copyFrom_9 : decode cX1_copyFrom 9 = .ok (.aload_n 1, 1) := by decide +kernel
theorem dX1_copyFrom_10 : decode cX1_copyFrom 10 = .ok (.getfield 18, 3) := by decide +kernel
theorem dX1_copyFrom_13 : decode cX1_copyFrom 13 = .ok (.putfield 18, 3) := by decide +kernel
theorem dX1_copyFrom_16 : decode cX1_copyFrom 16 = .ok (.aload_n 0, 1) := by decide +kernel
theorem dX1_copyFrom_17 : decode cX1_copyFrom 17 = .ok (.aload_n 1, 1) := by decide +kernel
theorem dX1_copyFrom_18 : decode cX1_copyFrom 18 = .ok (.getfield 21, 3) := by decide +kernel
theorem dX1_copyFrom_21 : decode cX1_copyFrom 21 = .ok (.putfield 21, 3) := by decide +kernel
theorem dX1_copyFrom_24 : decode cX1_copyFrom 24 = .ok (.aload_n 0, 1) := by decide +kernel
theorem dX1_copyFrom_25 : decode cX1_copyFrom 25 = .ok (.aload_n 1, 1) := by decide +kernel
theorem dX1_copyFrom_26 : decode cX1_copyFrom 26 = .ok (.getfield 24, 3) := by decide +kernel
theorem dX1_copyFrom_29 : decode cX1_copyFrom 29 = .ok (.putfield 24, 3) := by decide +kernel
theorem dX1_copyFrom_32 : decode cX1_copyFrom 32 = .ok (.aload_n 0, 1) := by decide +kernel
theorem dX1_copyFrom_33 : decode cX1_copyFrom 33 = .ok (.aload_n 1, 1) := by decide +kernel
theorem dX1_copyFrom_34 : decode cX1_copyFrom 34 = .ok (.getfield 15, 3) := by decide +kernel
theorem dX1_copyFrom_37 : decode cX1_copyFrom 37 = .ok (.putfield 15, 3) := by decide +kernel
theorem dX1_copyFrom_40 : decode cX1_copyFrom 40 = .ok (.return_, 1) := by decide +kernel
theorem dX1_takeWord_0 : decode cX1_takeWord 0 = .ok (.aload_n 0, 1) := by decide +kernel
theorem dX1_takeWord_1 : decode cX1_takeWord 1 = .ok (.dup, 1) := by decide +kernel
theorem dX1_takeWord_2 : decode cX1_takeWord 2 = .ok (.getfield 24, 3) := by decide +kernel
theorem dX1_takeWord_5 : decode cX1_takeWord 5 = .ok (.iconst 1, 1) := by decide +kernel
theorem dX1_takeWord_6 : decode cX1_takeWord 6 = .ok (.iadd, 1) := by decide +kernel
theorem dX1_takeWord_7 : decode cX1_takeWord 7 = .ok (.putfield 24, 3) := by decide +kernel
theorem dX1_takeWord_10 : decode cX1_takeWord 10 = .ok (.aload_n 0, 1) := by decide +kernel
theorem dX1_takeWord_11 : decode cX1_takeWord 11 = .ok (.iload_n 1, 1) := by decide +kernel
theorem dX1_takeWord_12 : decode cX1_takeWord 12 = .ok (.putfield 15, 3) := by decide +kernel
theorem dX1_takeWord_15 : decode cX1_takeWord 15 = .ok (.return_, 1) := by decide +kernel
theorem dX2_init_0 : decode cX2_init 0 = .ok (.aload_n 0, 1) := by decide +kernel
theorem dX2_init_1 : decode cX2_init 1 = .ok (.invokespecial 3, 3) := by decide +kernel
theorem dX2_init_4 : decode cX2_init 4 = .ok (.aload_n 0, 1) := by decide +kernel
theorem dX2_init_5 : decode cX2_init 5 = .ok (.bipush 80, 2) := by decide +kernel
theorem dX2_init_7 : decode cX2_init 7 = .ok (.newarray .char, 2) := by decide +kernel
theorem dX2_init_9 : decode cX2_init 9 = .ok (.putfield 11, 3) := by decide +kernel
theorem dX2_init_12 : decode cX2_init 12 = .ok (.aload_n 0, 1) := by decide +kernel
theorem dX2_init_13 : decode cX2_init 13 = .ok (.iconst 4, 1) := by decide +kernel
theorem dX2_init_14 : decode cX2_init 14 = .ok (.newarray .int, 2) := by decide +kernel
theorem dX2_init_16 : decode cX2_init 16 = .ok (.putfield 15, 3) := by decide +kernel
theorem dX2_init_19 : decode cX2_init 19 = .ok (.aload_n 0, 1) := by decide +kernel
theorem dX2_init_20 : decode cX2_init 20 = .ok (.iconst (-1), 1) := by decide +kernel
theorem dX2_init_21 : decode cX2_init 21 = .ok (.putfield 19, 3) := by decide +kernel
theorem dX2_init_24 : decode cX2_init 24 = .ok (.return_, 1) := by decide +kernel
theorem dX2_append_0 : decode cX2_append 0 = .ok (.aload_n 0, 1) := by decide +kernel
theorem dX2_append_1 : decode cX2_append 1 = .ok (.getfield 23, 3) := by decide +kernel
theorem dX2_append_4 : decode cX2_append 4 = .ok (.bipush 80, 2) := by decide +kernel
theorem dX2_append_6 : decode cX2_append 6 = .ok (.invokestatic 26, 3) := by decide +kernel
theorem dX2_append_9 : decode cX2_append 9 = .ok (.ifCond .ne 6, 3) := by decide +kernel
theorem dX2_append_12 : decode cX2_append 12 = .ok (.bipush (-3), 2) := by decide +kernel
theorem dX2_append_14 : decode cX2_append 14 = .ok (.ireturn, 1) := by decide +kernel
theorem dX2_append_15 : decode cX2_append 15 = .ok (.aload_n 0, 1) := by decide +kernel
theorem dX2_append_16 : decode cX2_append 16 = .ok (.getfield 11, 3) := by decide +kernel
theorem dX2_append_19 : decode cX2_append 19 = .ok (.aload_n 0, 1) := by decide +kernel
theorem dX2_append_20 : decode cX2_append 20 = .ok (.getfield 23, 3) := by decide +kernel
theorem dX2_append_23 : decode cX2_append 23 = .ok (.iload_n 1, 1) := by decide +kernel
theorem dX2_append_24 : decode cX2_append 24 = .ok (.castore, 1) := by decide +kernel
theorem dX2_append_25 : decode cX2_append 25 = .ok (.aload_n 0, 1) := by decide +kernel
theorem dX2_append_26 : decode cX2_append 26 = .ok (.dup, 1) := by decide +kernel
theorem dX2_append_27 : decode cX2_append 27 = .ok (.getfield 23, 3) := by decide +kernel
theorem dX2_append_30 : decode cX2_append 30 = .ok (.iconst 1, 1) := by decide +kernel
theorem dX2_append_31 : decode cX2_append 31 = .ok (.iadd, 1) := by decide +kernel
theorem dX2_append_32 : decode cX2_append 32 = .ok (.putfield 23, 3) := by decide +kernel
theorem dX2_append_35 : decode cX2_append 35 = .ok (.aload_n 0, 1) := by decide +kernel
theorem dX2_append_36 : decode cX2_append 36 = .ok (.getfield 23, 3) := by decide +kernel
theorem dX2_append_39 : decode cX2_append 39 = .ok (.ireturn, 1) := by decide +kernel
theorem dX2_empty_0 : decode cX2_empty 0 = .ok (.aload_n 0, 1) := by decide +kernel
theorem dX2_empty_1 : decode cX2_empty 1 = .ok (.getfield 23, 3) := by decide +kernel
theorem dX2_empty_4 : decode cX2_empty 4 = .ok (.istore_n 1, 1) := by decide +kernel
theorem dX2_empty_5 : decode cX2_empty 5 = .ok (.aload_n 0, 1) := by decide +kernel
theorem dX2_empty_6 : decode cX2_empty 6 = .ok (.iconst 0, 1) := by decide +kernel
theorem dX2_empty_7 : decode cX2_empty 7 = .ok (.putfield 23, 3) := by decide +kernel
theorem dX2_empty_10 : decode cX2_empty 10 = .ok (.iload_n 1, 1) := by decide +kernel
theorem dX2_empty_11 : decode cX2_empty 11 = .ok (.ireturn, 1) := by decide +kernel
theorem dX2_rewind_0 : decode cX2_rewind 0 = .ok (.aload_n 0, 1) := by decide +kernel
theorem dX2_rewind_1 : decode cX2_rewind 1 = .ok (.iconst 0, 1) := by decide +kernel
theorem dX2_rewind_2 : decode cX2_rewind 2 = .ok (.putfield 30, 3) := by decide +kernel
theorem dX2_rewind_5 : decode cX2_rewind 5 = .ok (.return_, 1) := by decide +kernel
theorem dX2_number_0 : decode cX2_number 0 = .ok (.iload_n 1, 1) := by decide +kernel
theorem dX2_number_1 : decode cX2_number 1 = .ok (.iconst 4, 1) := by decide +kernel
theorem dX2_number_2 : decode cX2_number 2 = .ok (.invokestatic 26, 3) := by decide +kernel
theorem dX2_number_5 : decode cX2_number 5 = .ok (.ifCond .eq 12, 3) := by decide +kernel
theorem dX2_number_8 : decode cX2_number 8 = .ok (.aload_n 0, 1) := by decide +kernel
theorem dX2_number_9 : decode cX2_number 9 = .ok (.getfield 15, 3) := by decide +kernel
theorem dX2_number_12 : decode cX2_number 12 = .ok (.iload_n 1, 1) := by decide +kernel
theorem dX2_number_13 : decode cX2_number 13 = .ok (.iaload, 1) := by decide +kernel
theorem dX2_number_14 : decode cX2_number 14 = .ok (.goto 5, 3) := by decide +kernel
theorem dX2_number_17 : decode cX2_number 17 = .ok (.bipush (-5), 2) := by decide +kernel
theorem dX2_number_19 : decode cX2_number 19 = .ok (.ireturn, 1) := by decide +kernel
theorem dX2_countOrders_0 : decode cX2_countOrders 0 = .ok (.aload_n 0, 1) := by decide +kernel
theorem dX2_countOrders_1 : decode cX2_countOrders 1 = .ok (.invokevirtual 33, 3) := by decide +kernel
theorem dX2_countOrders_4 : decode cX2_countOrders 4 = .ok (.iconst 1, 1) := by decide +kernel
theorem dX2_countOrders_5 : decode cX2_countOrders 5 = .ok (.istore_n 1, 1) := by decide +kernel
theorem dX2_countOrders_6 : decode cX2_countOrders 6 = .ok (.iload_n 1, 1) := by decide +kernel
theorem dX2_countOrders_7 : decode cX2_countOrders 7 = .ok (.bipush 80, 2) := by decide +kernel
theorem dX2_countOrders_9 : decode cX2_countOrders 9 = .ok (.if_icmp .gt 42, 3) := by decide +kernel
theorem dX2_countOrders_12 : decode cX2_countOrders 12 = .ok (.aload_n 0, 1) := by decide +kernel
theorem dX2_countOrders_13 : decode cX2_countOrders 13 = .ok (.invokevirtual 36, 3) := by decide +kernel
theorem dX2_countOrders_16 : decode cX2_countOrders 16 = .ok (.ifCond .ne 6, 3) := by decide +kernel
theorem dX2_countOrders_19 : decode cX2_countOrders 19 = .ok (.goto 32, 3) := by decide +kernel
theorem dX2_countOrders_22 : decode cX2_countOrders 22 = .ok (.aload_n 0, 1) := by decide +kernel
theorem dX2_countOrders_23 : decode cX2_countOrders 23 = .ok (.getfield 30, 3) := by decide +kernel
theorem dX2_countOrders_26 : decode cX2_countOrders 26 = .ok (.aload_n 0, 1) := by decide +kernel
theorem dX2_countOrders_27 : decode cX2_countOrders 27 = .ok (.getfield 23, 3) := by decide +kernel
theorem dX2_countOrders_30 : decode cX2_countOrders 30 = .ok (.if_icmp .ne 5, 3) := by decide +kernel
theorem dX2_countOrders_33 : decode cX2_countOrders 33 = .ok (.iload_n 1, 1) := by decide +kernel
theorem dX2_countOrders_34 : decode cX2_countOrders 34 = .ok (.ireturn, 1) := by decide +kernel
theorem dX2_countOrders_35 : decode cX2_countOrders 35 = .ok (.aload_n 0, 1) := by decide +kernel
theorem dX2_countOrders_36 : decode cX2_countOrders 36 = .ok (.invokevirtual 40, 3) := by decide +kernel
theorem dX2_countOrders_39 : decode cX2_countOrders 39 = .ok (.ifCond .ne 6, 3) := by decide +kernel
theorem dX2_countOrders_42 : decode cX2_countOrders 42 = .ok (.goto 9, 3) := by decide +kernel
theorem dX2_countOrders_45 : decode cX2_countOrders 45 = .ok (.iinc 1 1, 3) := by decide +kernel
theorem dX2_countOrders_48 : decode cX2_countOrders 48 = .ok (.goto (-42), 3) := by decide +kernel
theorem dX2_countOrders_51 : decode cX2_countOrders 51 = .ok (.bipush (-100), 2) := by decide +kernel
theorem dX2_countOrders_53 : decode cX2_countOrders 53 = .ok (.aload_n 0, 1) := by decide +kernel
theorem dX2_countOrders_54 : decode cX2_countOrders 54 = .ok (.getfield 30, 3) := by decide +kernel
theorem dX2_countOrders_57 : decode cX2_countOrders 57 = .ok (.isub, 1) := by decide +kernel
theorem dX2_countOrders_58 : decode cX2_countOrders 58 = .ok (.ireturn, 1) := by decide +kernel
theorem dX2_readOrder_0 : decode cX2_readOrder 0 = .ok (.aload_n 0, 1) := by decide +kernel
theorem dX2_readOrder_1 : decode cX2_readOrder 1 = .ok (.invokevirtual 43, 3) := by decide +kernel
theorem dX2_readOrder_4 : decode cX2_readOrder 4 = .ok (.ifCond .eq 14, 3) := by decide +kernel
theorem dX2_readOrder_7 : decode cX2_readOrder 7 = .ok (.aload_n 0, 1) := by decide +kernel
theorem dX2_readOrder_8 : decode cX2_readOrder 8 = .ok (.invokevirtual 46, 3) := by decide +kernel
theorem dX2_readOrder_11 : decode cX2_readOrder 11 = .ok (.ifCond .eq 7, 3) := by decide +kernel
theorem dX2_readOrder_14 : decode cX2_readOrder 14 = .ok (.iconst 1, 1) := by decide +kernel
theorem dX2_readOrder_15 : decode cX2_readOrder 15 = .ok (.goto 4, 3) := by decide +kernel
theorem dX2_readOrder_18 : decode cX2_readOrder 18 = .ok (.iconst 0, 1) := by decide +kernel
theorem dX2_readOrder_19 : decode cX2_readOrder 19 = .ok (.ireturn, 1) := by decide +kernel
theorem dX2_skipSeparator_0 : decode cX2_skipSeparator 0 = .ok (.aload_n 0, 1) := by decide +kernel
theorem dX2_skipSeparator_1 : decode cX2_skipSeparator 1 = .ok (.bipush 59, 2) := by decide +kernel
theorem dX2_skipSeparator_3 : decode cX2_skipSeparator 3 = .ok (.invokevirtual 49, 3) := by decide +kernel
theorem dX2_skipSeparator_6 : decode cX2_skipSeparator 6 = .ok (.ireturn, 1) := by decide +kernel
theorem dX2_readName_0 : decode cX2_readName 0 = .ok (.iconst 0, 1) := by decide +kernel
theorem dX2_readName_1 : decode cX2_readName 1 = .ok (.istore_n 1, 1) := by decide +kernel
theorem dX2_readName_2 : decode cX2_readName 2 = .ok (.aload_n 0, 1) := by decide +kernel
theorem dX2_readName_3 : decode cX2_readName 3 = .ok (.iconst (-1), 1) := by decide +kernel
theorem dX2_readName_4 : decode cX2_readName 4 = .ok (.putfield 19, 3) := by decide +kernel
theorem dX2_readName_7 : decode cX2_readName 7 = .ok (.iconst 0, 1) := by decide +kernel
theorem dX2_readName_8 : decode cX2_readName 8 = .ok (.istore_n 2, 1) := by decide +kernel
theorem dX2_readName_9 : decode cX2_readName 9 = .ok (.iload_n 2, 1) := by decide +kernel
theorem dX2_readName_10 : decode cX2_readName 10 = .ok (.iconst 5, 1) := by decide +kernel
theorem dX2_readName_11 : decode cX2_readName 11 = .ok (.if_icmp .ge 42, 3) := by decide +kernel
theorem dX2_readName_14 : decode cX2_readName 14 = .ok (.iload_n 2, 1) := by decide +kernel
theorem dX2_readName_15 : decode cX2_readName 15 = .ok (.invokestatic 53, 3) := by decide +kernel
theorem dX2_readName_18 : decode cX2_readName 18 = .ok (.astore_n 3, 1) := by decide +kernel
theorem dX2_readName_19 : decode cX2_readName 19 = .ok (.aload_n 0, 1) := by decide +kernel
theorem dX2_readName_20 : decode cX2_readName 20 = .ok (.aload_n 3, 1) := by decide +kernel
theorem dX2_readName_21 : decode cX2_readName 21 = .ok (.invokevirtual 57, 3) := by decide +kernel
theorem dX2_readName_24 : decode cX2_readName 24 = .ok (.istore 4, 2) := by decide +kernel
theorem dX2_readName_26 : decode cX2_readName 26 = .ok (.iload_n 1, 1) := by decide +kernel
theorem dX2_readName_27 : decode cX2_readName 27 = .ok (.iload 4, 2) := by decide +kernel
theorem dX2_readName_29 : decode cX2_readName 29 = .ok (.invokestatic 61, 3) := by decide +kernel
theorem dX2_readName_32 : decode cX2_readName 32 = .ok (.istore_n 1, 1) := by decide +kernel
theorem dX2_readName_33 : decode cX2_readName 33 = .ok (.iload 4, 2) := by decide +kernel
theorem dX2_readName_35 : decode cX2_readName 35 = .ok (.aload_n 3, 1) := by decide +kernel
theorem dX2_readName_36 : decode cX2_readName 36 = .ok (.invokevirtual 67, 3) := by decide +kernel
theorem dX2_readName_39 : decode cX2_readName 39 = .ok (.if_icmp .ne 8, 3) := by decide +kernel
theorem dX2_readName_42 : decode cX2_readName 42 = .ok (.aload_n 0, 1) := by decide +kernel
theorem dX2_readName_43 : decode cX2_readName 43 = .ok (.iload_n 2, 1) := by decide +kernel
theorem dX2_readName_44 : decode cX2_readName 44 = .ok (.putfield 19, 3) := by decide +kernel
theorem dX2_readName_47 : decode cX2_readName 47 = .ok (.iinc 2 1, 3) := by decide +kernel
theorem dX2_readName_50 : decode cX2_readName 50 = .ok (.goto (-41), 3) := by decide +kernel
theorem dX2_readName_53 : decode cX2_readName 53 = .ok (.aload_n 0, 1) := by decide +kernel
theorem dX2_readName_54 : decode cX2_readName 54 = .ok (.dup, 1) := by decide +kernel
theorem dX2_readName_55 : decode cX2_readName 55 = .ok (.getfield 30, 3) := by decide +kernel
theorem dX2_readName_58 : decode cX2_readName 58 = .ok (.iload_n 1, 1) := by decide +kernel
theorem dX2_readName_59 : decode cX2_readName 59 = .ok (.iadd, 1) := by decide +kernel
theorem dX2_readName_60 : decode cX2_readName 60 = .ok (.putfield 30, 3) := by decide +kernel
theorem dX2_readName_63 : decode cX2_readName 63 = .ok (.aload_n 0, 1) := by decide +kernel
theorem dX2_readName_64 : decode cX2_readName 64 = .ok (.getfield 19, 3) := by decide +kernel
theorem dX2_readName_67 : decode cX2_readName 67 = .ok (.iconst (-1), 1) := by decide +kernel
theorem dX2_readName_68 : decode cX2_readName 68 = .ok (.if_icmp .eq 7, 3) := by decide +kernel
theorem dX2_readName_71 : decode cX2_readName 71 = .ok (.iconst 1, 1) := by decide +kernel
theorem dX2_readName_72 : decode cX2_readName 72 = .ok (.goto 4, 3) := by decide +kernel
theorem dX2_readName_75 : decode cX2_readName 75 = .ok (.iconst 0, 1) := by decide +kernel
theorem dX2_readName_76 : decode cX2_readName 76 = .ok (.ireturn, 1) := by decide +kernel
theorem dX2_sameCharacters_0 : decode cX2_sameCharacters 0 = .ok (.iconst 0, 1) := by decide +kernel
theorem dX2_sameCharacters_1 : decode cX2_sameCharacters 1 = .ok (.istore_n 2, 1) := by decide +kernel
theorem dX2_sameCharacters_2 : decode cX2_sameCharacters 2 = .ok (.iload_n 2, 1) := by decide +kernel
theorem dX2_sameCharacters_3 : decode cX2_sameCharacters 3 = .ok (.aload_n 1, 1) := by decide +kernel
theorem dX2_sameCharacters_4 : decode cX2_sameCharacters 4 = .ok (.invokevirtual 67, 3) := by decide +kernel
theorem dX2_sameCharacters_7 : decode cX2_sameCharacters 7 = .ok (.if_icmp .ge 27, 3) := by decide +kernel
theorem dX2_sameCharacters_10 : decode cX2_sameCharacters 10 = .ok (.aload_n 0, 1) := by decide +kernel
theorem dX2_sameCharacters_11 : decode cX2_sameCharacters 11 = .ok (.aload_n 0, 1) := by decide +kernel
theorem dX2_sameCharacters_12 : decode cX2_sameCharacters 12 = .ok (.getfield 30, 3) := by decide +kernel
theorem dX2_sameCharacters_15 : decode cX2_sameCharacters 15 = .ok (.iload_n 2, 1) := by decide +kernel
theorem dX2_sameCharacters_16 : decode cX2_sameCharacters 16 = .ok (.iadd, 1) := by decide +kernel
theorem dX2_sameCharacters_17 : decode cX2_sameCharacters 17 = .ok (.aload_n 1, 1) := by decide +kernel
theorem dX2_sameCharacters_18 : decode cX2_sameCharacters 18 = .ok (.iload_n 2, 1) := by decide +kernel
theorem dX2_sameCharacters_19 : decode cX2_sameCharacters 19 = .ok (.invokevirtual 72, 3) := by decide +kernel
theorem dX2_sameCharacters_22 : decode cX2_sameCharacters 22 = .ok (.invokevirtual 76, 3) := by decide +kernel
theorem dX2_sameCharacters_25 : decode cX2_sameCharacters 25 = .ok (.ifCond .eq 9, 3) := by decide +kernel
theorem dX2_sameCharacters_28 : decode cX2_sameCharacters 28 = .ok (.iinc 2 1, 3) := by decide +kernel
theorem dX2_sameCharacters_31 : decode cX2_sameCharacters 31 = .ok (.goto (-29), 3) := by decide +kernel
theorem dX2_sameCharacters_34 : decode cX2_sameCharacters 34 = .ok (.iload_n 2, 1) := by decide +kernel
theorem dX2_sameCharacters_35 : decode cX2_sameCharacters 35 = .ok (.ireturn, 1) := by decide +kernel
theorem dX2_readNumbers_0 : decode cX2_readNumbers 0 = .ok (.aload_n 0, 1) := by decide +kernel
theorem dX2_readNumbers_1 : decode cX2_readNumbers 1 = .ok (.getfield 19, 3) := by decide +kernel
theorem dX2_readNumbers_4 : decode cX2_readNumbers 4 = .ok (.ifCond .ne 7, 3) := by decide +kernel
theorem dX2_readNumbers_7 : decode cX2_readNumbers 7 = .ok (.iconst 3, 1) := by decide +kernel
theorem dX2_readNumbers_8 : decode cX2_readNumbers 8 = .ok (.goto 16, 3) := by decide +kernel
theorem dX2_readNumbers_11 : decode cX2_readNumbers 11 = .ok (.aload_n 0, 1) := by decide +kernel
theorem dX2_readNumbers_12 : decode cX2_readNumbers 12 = .ok (.getfield 19, 3) := by decide +kernel
theorem dX2_readNumbers_15 : decode cX2_readNumbers 15 = .ok (.iconst 4, 1) := by decide +kernel
theorem dX2_readNumbers_16 : decode cX2_readNumbers 16 = .ok (.if_icmp .ne 7, 3) := by decide +kernel
theorem dX2_readNumbers_19 : decode cX2_readNumbers 19 = .ok (.iconst 1, 1) := by decide +kernel
theorem dX2_readNumbers_20 : decode cX2_readNumbers 20 = .ok (.goto 4, 3) := by decide +kernel
theorem dX2_readNumbers_23 : decode cX2_readNumbers 23 = .ok (.iconst 2, 1) := by decide +kernel
theorem dX2_readNumbers_24 : decode cX2_readNumbers 24 = .ok (.istore_n 1, 1) := by decide +kernel
theorem dX2_readNumbers_25 : decode cX2_readNumbers 25 = .ok (.iconst 0, 1) := by decide +kernel
theorem dX2_readNumbers_26 : decode cX2_readNumbers 26 = .ok (.istore_n 2, 1) := by decide +kernel
theorem dX2_readNumbers_27 : decode cX2_readNumbers 27 = .ok (.iload_n 2, 1) := by decide +kernel
theorem dX2_readNumbers_28 : decode cX2_readNumbers 28 = .ok (.iconst 4, 1) := by decide +kernel
theorem dX2_readNumbers_29 : decode cX2_readNumbers 29 = .ok (.if_icmp .ge 17, 3) := by decide +kernel
theorem dX2_readNumbers_32 : decode cX2_readNumbers 32 = .ok (.aload_n 0, 1) := by decide +kernel
theorem dX2_readNumbers_33 : decode cX2_readNumbers 33 = .ok (.getfield 15, 3) := by decide +kernel
theorem dX2_readNumbers_36 : decode cX2_readNumbers 36 = .ok (.iload_n 2, 1) := by decide +kernel
theorem dX2_readNumbers_37 : decode cX2_readNumbers 37 = .ok (.bipush (-5), 2) := by decide +kernel
theorem dX2_readNumbers_39 : decode cX2_readNumbers 39 = .ok (.iastore, 1) := by decide +kernel
theorem dX2_readNumbers_40 : decode cX2_readNumbers 40 = .ok (.iinc 2 1, 3) := by decide +kernel
theorem dX2_readNumbers_43 : decode cX2_readNumbers 43 = .ok (.goto (-16), 3) := by decide +kernel
theorem dX2_readNumbers_46 : decode cX2_readNumbers 46 = .ok (.iconst 0, 1) := by decide +kernel
theorem dX2_readNumbers_47 : decode cX2_readNumbers 47 = .ok (.istore_n 2, 1) := by decide +kernel
theorem dX2_readNumbers_48 : decode cX2_readNumbers 48 = .ok (.iload_n 2, 1) := by decide +kernel
theorem dX2_readNumbers_49 : decode cX2_readNumbers 49 = .ok (.iload_n 1, 1) := by decide +kernel
theorem dX2_readNumbers_50 : decode cX2_readNumbers 50 = .ok (.if_icmp .ge 19, 3) := by decide +kernel
theorem dX2_readNumbers_53 : decode cX2_readNumbers 53 = .ok (.aload_n 0, 1) := by decide +kernel
theorem dX2_readNumbers_54 : decode cX2_readNumbers 54 = .ok (.iload_n 2, 1) := by decide +kernel
theorem dX2_readNumbers_55 : decode cX2_readNumbers 55 = .ok (.invokevirtual 80, 3) := by decide +kernel
theorem dX2_readNumbers_58 : decode cX2_readNumbers 58 = .ok (.ifCond .ne 5, 3) := by decide +kernel
theorem dX2_readNumbers_61 : decode cX2_readNumbers 61 = .ok (.iconst 0, 1) := by decide +kernel
theorem dX2_readNumbers_62 : decode cX2_readNumbers 62 = .ok (.ireturn, 1) := by decide +kernel
theorem dX2_readNumbers_63 : decode cX2_readNumbers 63 = .ok (.iinc 2 1, 3) := by decide +kernel
theorem dX2_readNumbers_66 : decode cX2_readNumbers 66 = .ok (.goto (-18), 3) := by decide +kernel
theorem dX2_readNumbers_69 : decode cX2_readNumbers 69 = .ok (.aload_n 0, 1) := by decide +kernel
theorem dX2_readNumbers_70 : decode cX2_readNumbers 70 = .ok (.getfield 19, 3) := by decide +kernel
theorem dX2_readNumbers_73 : decode cX2_readNumbers 73 = .ok (.ifCond .ne 20, 3) := by decide +kernel
theorem dX2_readNumbers_76 : decode cX2_readNumbers 76 = .ok (.aload_n 0, 1) := by decide +kernel
theorem dX2_readNumbers_77 : decode cX2_readNumbers 77 = .ok (.aload_n 0, 1) := by decide +kernel
theorem dX2_readNumbers_78 : decode cX2_readNumbers 78 = .ok (.getfield 30, 3) := by decide +kernel
theorem dX2_readNumbers_81 : decode cX2_readNumbers 81 = .ok (.bipush 32, 2) := by decide +kernel
theorem dX2_readNumbers_83 : decode cX2_readNumbers 83 = .ok (.invokevirtual 76, 3) := by decide +kernel
theorem dX2_readNumbers_86 : decode cX2_readNumbers 86 = .ok (.ifCond .eq 7, 3) := by decide +kernel
theorem dX2_readNumbers_89 : decode cX2_readNumbers 89 = .ok (.iconst 1, 1) := by decide +kernel
theorem dX2_readNumbers_90 : decode cX2_readNumbers 90 = .ok (.goto 4, 3) := by decide +kernel
theorem dX2_readNumbers_93 : decode cX2_readNumbers 93 = .ok (.iconst 0, 1) := by decide +kernel
theorem dX2_readNumbers_94 : decode cX2_readNumbers 94 = .ok (.istore_n 2, 1) := by decide +kernel
theorem dX2_readNumbers_95 : decode cX2_readNumbers 95 = .ok (.iload_n 2, 1) := by decide +kernel
theorem dX2_readNumbers_96 : decode cX2_readNumbers 96 = .ok (.ifCond .eq 11, 3) := by decide +kernel
theorem dX2_readNumbers_99 : decode cX2_readNumbers 99 = .ok (.aload_n 0, 1) := by decide +kernel
theorem dX2_readNumbers_100 : decode cX2_readNumbers 100 = .ok (.iload_n 1, 1) := by decide +kernel
theorem dX2_readNumbers_101 : decode cX2_readNumbers 101 = .ok (.invokevirtual 80, 3) := by decide +kernel
theorem dX2_readNumbers_104 : decode cX2_readNumbers 104 = .ok (.ifCond .eq 7, 3) := by decide +kernel
theorem dX2_readNumbers_107 : decode cX2_readNumbers 107 = .ok (.iconst 1, 1) := by decide +kernel
theorem dX2_readNumbers_108 : decode cX2_readNumbers 108 = .ok (.goto 4, 3) := by decide +kernel
theorem dX2_readNumbers_111 : decode cX2_readNumbers 111 = .ok (.iconst 0, 1) := by decide +kernel
theorem dX2_readNumbers_112 : decode cX2_readNumbers 112 = .ok (.ireturn, 1) := by decide +kernel
theorem dX2_readNumber_0 : decode cX2_readNumber 0 = .ok (.aload_n 0, 1) := by decide +kernel
theorem dX2_readNumber_1 : decode cX2_readNumber 1 = .ok (.bipush 32, 2) := by decide +kernel
theorem dX2_readNumber_3 : decode cX2_readNumber 3 = .ok (.invokevirtual 49, 3) := by decide +kernel
theorem dX2_readNumber_6 : decode cX2_readNumber 6 = .ok (.ifCond .ne 5, 3) := by decide +kernel
theorem dX2_readNumber_9 : decode cX2_readNumber 9 = .ok (.iconst 0, 1) := by decide +kernel
theorem dX2_readNumber_10 : decode cX2_readNumber 10 = .ok (.ireturn, 1) := by decide +kernel
theorem dX2_readNumber_11 : decode cX2_readNumber 11 = .ok (.aload_n 0, 1) := by decide +kernel
theorem dX2_readNumber_12 : decode cX2_readNumber 12 = .ok (.iload_n 1, 1) := by decide +kernel
theorem dX2_readNumber_13 : decode cX2_readNumber 13 = .ok (.invokevirtual 84, 3) := by decide +kernel
theorem dX2_readNumber_16 : decode cX2_readNumber 16 = .ok (.istore_n 2, 1) := by decide +kernel
theorem dX2_readNumber_17 : decode cX2_readNumber 17 = .ok (.aload_n 0, 1) := by decide +kernel
theorem dX2_readNumber_18 : decode cX2_readNumber 18 = .ok (.invokevirtual 88, 3) := by decide +kernel
theorem dX2_readNumber_21 : decode cX2_readNumber 21 = .ok (.istore_n 3, 1) := by decide +kernel
theorem dX2_readNumber_22 : decode cX2_readNumber 22 = .ok (.iload_n 3, 1) := by decide +kernel
theorem dX2_readNumber_23 : decode cX2_readNumber 23 = .ok (.aload_n 0, 1) := by decide +kernel
theorem dX2_readNumber_24 : decode cX2_readNumber 24 = .ok (.iload_n 1, 1) := by decide +kernel
theorem dX2_readNumber_25 : decode cX2_readNumber 25 = .ok (.invokevirtual 91, 3) := by decide +kernel
theorem dX2_readNumber_28 : decode cX2_readNumber 28 = .ok (.if_icmp .lt 8, 3) := by decide +kernel
theorem dX2_readNumber_31 : decode cX2_readNumber 31 = .ok (.iload_n 3, 1) := by decide +kernel
theorem dX2_readNumber_32 : decode cX2_readNumber 32 = .ok (.iload_n 2, 1) := by decide +kernel
theorem dX2_readNumber_33 : decode cX2_readNumber 33 = .ok (.if_icmp .le 5, 3) := by decide +kernel
theorem dX2_readNumber_36 : decode cX2_readNumber 36 = .ok (.iconst 0, 1) := by decide +kernel
theorem dX2_readNumber_37 : decode cX2_readNumber 37 = .ok (.ireturn, 1) := by decide +kernel
theorem dX2_readNumber_38 : decode cX2_readNumber 38 = .ok (.aload_n 0, 1) := by decide +kernel
theorem dX2_readNumber_39 : decode cX2_readNumber 39 = .ok (.dup, 1) := by decide +kernel
theorem dX2_readNumber_40 : decode cX2_readNumber 40 = .ok (.getfield 30, 3) := by decide +kernel
theorem dX2_readNumber_43 : decode cX2_readNumber 43 = .ok (.iconst 1, 1) := by decide +kernel
theorem dX2_readNumber_44 : decode cX2_readNumber 44 = .ok (.iadd, 1) := by decide +kernel
theorem dX2_readNumber_45 : decode cX2_readNumber 45 = .ok (.putfield 30, 3) := by decide +kernel
theorem dX2_readNumber_48 : decode cX2_readNumber 48 = .ok (.iconst 1, 1) := by decide +kernel
theorem dX2_readNumber_49 : decode cX2_readNumber 49 = .ok (.istore 4, 2) := by decide +kernel
theorem dX2_readNumber_51 : decode cX2_readNumber 51 = .ok (.iload 4, 2) := by decide +kernel
theorem dX2_readNumber_53 : decode cX2_readNumber 53 = .ok (.iconst 3, 1) := by decide +kernel
theorem dX2_readNumber_54 : decode cX2_readNumber 54 = .ok (.if_icmp .ge 56, 3) := by decide +kernel
theorem dX2_readNumber_57 : decode cX2_readNumber 57 = .ok (.iload_n 3, 1) := by decide +kernel
theorem dX2_readNumber_58 : decode cX2_readNumber 58 = .ok (.ifCond .le 52, 3) := by decide +kernel
theorem dX2_readNumber_61 : decode cX2_readNumber 61 = .ok (.aload_n 0, 1) := by decide +kernel
theorem dX2_readNumber_62 : decode cX2_readNumber 62 = .ok (.invokevirtual 88, 3) := by decide +kernel
theorem dX2_readNumber_65 : decode cX2_readNumber 65 = .ok (.istore 5, 2) := by decide +kernel
theorem dX2_readNumber_67 : decode cX2_readNumber 67 = .ok (.iload 5, 2) := by decide +kernel
theorem dX2_readNumber_69 : decode cX2_readNumber 69 = .ok (.ifCond .lt 41, 3) := by decide +kernel
theorem dX2_readNumber_72 : decode cX2_readNumber 72 = .ok (.iload_n 3, 1) := by decide +kernel
theorem dX2_readNumber_73 : decode cX2_readNumber 73 = .ok (.bipush 10, 2) := by decide +kernel
theorem dX2_readNumber_75 : decode cX2_readNumber 75 = .ok (.imul, 1) := by decide +kernel
theorem dX2_readNumber_76 : decode cX2_readNumber 76 = .ok (.iload 5, 2) := by decide +kernel
theorem dX2_readNumber_78 : decode cX2_readNumber 78 = .ok (.iadd, 1) := by decide +kernel
theorem dX2_readNumber_79 : decode cX2_readNumber 79 = .ok (.iload_n 2, 1) := by decide +kernel
theorem dX2_readNumber_80 : decode cX2_readNumber 80 = .ok (.if_icmp .le 6, 3) := by decide +kernel
theorem dX2_readNumber_83 : decode cX2_readNumber 83 = .ok (.goto 27, 3) := by decide +kernel
theorem dX2_readNumber_86 : decode cX2_readNumber 86 = .ok (.iload_n 3, 1) := by decide +kernel
theorem dX2_readNumber_87 : decode cX2_readNumber 87 = .ok (.bipush 10, 2) := by decide +kernel
theorem dX2_readNumber_89 : decode cX2_readNumber 89 = .ok (.imul, 1) := by decide +kernel
theorem dX2_readNumber_90 : decode cX2_readNumber 90 = .ok (.iload 5, 2) := by decide +kernel
theorem dX2_readNumber_92 : decode cX2_readNumber 92 = .ok (.iadd, 1) := by decide +kernel
theorem dX2_readNumber_93 : decode cX2_readNumber 93 = .ok (.istore_n 3, 1) := by decide +kernel
theorem dX2_readNumber_94 : decode cX2_readNumber 94 = .ok (.aload_n 0, 1) := by decide +kernel
theorem dX2_readNumber_95 : decode cX2_readNumber 95 = .ok (.dup, 1) := by decide +kernel
theorem dX2_readNumber_96 : decode cX2_readNumber 96 = .ok (.getfield 30, 3) := by decide +kernel
theorem dX2_readNumber_99 : decode cX2_readNumber 99 = .ok (.iconst 1, 1) := by decide +kernel
theorem dX2_readNumber_100 : decode cX2_readNumber 100 = .ok (.iadd, 1) := by decide +kernel
theorem dX2_readNumber_101 : decode cX2_readNumber 101 = .ok (.putfield 30, 3) := by decide +kernel
theorem dX2_readNumber_104 : decode cX2_readNumber 104 = .ok (.iinc 4 1, 3) := by decide +kernel
theorem dX2_readNumber_107 : decode cX2_readNumber 107 = .ok (.goto (-56), 3) := by decide +kernel
theorem dX2_readNumber_110 : decode cX2_readNumber 110 = .ok (.iload_n 1, 1) := by decide +kernel
theorem dX2_readNumber_111 : decode cX2_readNumber 111 = .ok (.iconst 4, 1) := by decide +kernel
theorem dX2_readNumber_112 : decode cX2_readNumber 112 = .ok (.invokestatic 26, 3) := by decide +kernel
theorem dX2_readNumber_115 : decode cX2_readNumber 115 = .ok (.ifCond .eq 10, 3) := by decide +kernel
theorem dX2_readNumber_118 : decode cX2_readNumber 118 = .ok (.aload_n 0, 1) := by decide +kernel
theorem dX2_readNumber_119 : decode cX2_readNumber 119 = .ok (.getfield 15, 3) := by decide +kernel
theorem dX2_readNumber_122 : decode cX2_readNumber 122 = .ok (.iload_n 1, 1) := by decide +kernel
theorem dX2_readNumber_123 : decode cX2_readNumber 123 = .ok (.iload_n 3, 1) := by decide +kernel
theorem dX2_readNumber_124 : decode cX2_readNumber 124 = .ok (.iastore, 1) := by decide +kernel
theorem dX2_readNumber_125 : decode cX2_readNumber 125 = .ok (.iconst 1, 1) := by decide +kernel
theorem dX2_readNumber_126 : decode cX2_readNumber 126 = .ok (.ireturn, 1) := by decide +kernel
theorem dX2_skip_0 : decode cX2_skip 0 = .ok (.aload_n 0, 1) := by decide +kernel
theorem dX2_skip_1 : decode cX2_skip 1 = .ok (.aload_n 0, 1) := by decide +kernel
theorem dX2_skip_2 : decode cX2_skip 2 = .ok (.getfield 30, 3) := by decide +kernel
theorem dX2_skip_5 : decode cX2_skip 5 = .ok (.iload_n 1, 1) := by decide +kernel
theorem dX2_skip_6 : decode cX2_skip 6 = .ok (.invokevirtual 76, 3) := by decide +kernel
theorem dX2_skip_9 : decode cX2_skip 9 = .ok (.ifCond .ne 5, 3) := by decide +kernel
theorem dX2_skip_12 : decode cX2_skip 12 = .ok (.iconst 0, 1) := by decide +kernel
theorem dX2_skip_13 : decode cX2_skip 13 = .ok (.ireturn, 1) := by decide +kernel
theorem dX2_skip_14 : decode cX2_skip 14 = .ok (.aload_n 0, 1) := by decide +kernel
theorem dX2_skip_15 : decode cX2_skip 15 = .ok (.dup, 1) := by decide +kernel
theorem dX2_skip_16 : decode cX2_skip 16 = .ok (.getfield 30, 3) := by decide +kernel
theorem dX2_skip_19 : decode cX2_skip 19 = .ok (.iconst 1, 1) := by decide +kernel
theorem dX2_skip_20 : decode cX2_skip 20 = .ok (.iadd, 1) := by decide +kernel
theorem dX2_skip_21 : decode cX2_skip 21 = .ok (.putfield 30, 3) := by decide +kernel
theorem dX2_skip_24 : decode cX2_skip 24 = .ok (.iconst 1, 1) := by decide +kernel
theorem dX2_skip_25 : decode cX2_skip 25 = .ok (.ireturn, 1) := by decide +kernel
theorem dX2_isCharacter_0 : decode cX2_isCharacter 0 = .ok (.iload_n 1, 1) := by decide +kernel
theorem dX2_isCharacter_1 : decode cX2_isCharacter 1 = .ok (.aload_n 0, 1) := by decide +kernel
theorem dX2_isCharacter_2 : decode cX2_isCharacter 2 = .ok (.getfield 23, 3) := by decide +kernel
theorem dX2_isCharacter_5 : decode cX2_isCharacter 5 = .ok (.bipush 80, 2) := by decide +kernel
theorem dX2_isCharacter_7 : decode cX2_isCharacter 7 = .ok (.invokestatic 94, 3) := by decide +kernel
theorem dX2_isCharacter_10 : decode cX2_isCharacter 10 = .ok (.invokestatic 26, 3) := by decide +kernel
theorem dX2_isCharacter_13 : decode cX2_isCharacter 13 = .ok (.ifCond .eq 17, 3) := by decide +kernel
theorem dX2_isCharacter_16 : decode cX2_isCharacter 16 = .ok (.aload_n 0, 1) := by decide +kernel
theorem dX2_isCharacter_17 : decode cX2_isCharacter 17 = .ok (.getfield 11, 3) := by decide +kernel
theorem dX2_isCharacter_20 : decode cX2_isCharacter 20 = .ok (.iload_n 1, 1) := by decide +kernel
theorem dX2_isCharacter_21 : decode cX2_isCharacter 21 = .ok (.caload, 1) := by decide +kernel
theorem dX2_isCharacter_22 : decode cX2_isCharacter 22 = .ok (.iload_n 2, 1) := by decide +kernel
theorem dX2_isCharacter_23 : decode cX2_isCharacter 23 = .ok (.if_icmp .ne 7, 3) := by decide +kernel
theorem dX2_isCharacter_26 : decode cX2_isCharacter 26 = .ok (.iconst 1, 1) := by decide +kernel
theorem dX2_isCharacter_27 : decode cX2_isCharacter 27 = .ok (.goto 4, 3) := by decide +kernel
theorem dX2_isCharacter_30 : decode cX2_isCharacter 30 = .ok (.iconst 0, 1) := by decide +kernel
theorem dX2_isCharacter_31 : decode cX2_isCharacter 31 = .ok (.ireturn, 1) := by decide +kernel
theorem dX2_digitHere_0 : decode cX2_digitHere 0 = .ok (.aload_n 0, 1) := by decide +kernel
theorem dX2_digitHere_1 : decode cX2_digitHere 1 = .ok (.getfield 30, 3) := by decide +kernel
theorem dX2_digitHere_4 : decode cX2_digitHere 4 = .ok (.aload_n 0, 1) := by decide +kernel
theorem dX2_digitHere_5 : decode cX2_digitHere 5 = .ok (.getfield 23, 3) := by decide +kernel
theorem dX2_digitHere_8 : decode cX2_digitHere 8 = .ok (.bipush 80, 2) := by decide +kernel
theorem dX2_digitHere_10 : decode cX2_digitHere 10 = .ok (.invokestatic 94, 3) := by decide +kernel
theorem dX2_digitHere_13 : decode cX2_digitHere 13 = .ok (.invokestatic 26, 3) := by decide +kernel
theorem dX2_digitHere_16 : decode cX2_digitHere 16 = .ok (.ifCond .eq 31, 3) := by decide +kernel
theorem dX2_digitHere_19 : decode cX2_digitHere 19 = .ok (.aload_n 0, 1) := by decide +kernel
theorem dX2_digitHere_20 : decode cX2_digitHere 20 = .ok (.getfield 11, 3) := by decide +kernel
theorem dX2_digitHere_23 : decode cX2_digitHere 23 = .ok (.aload_n 0, 1) := by decide +kernel
theorem dX2_digitHere_24 : decode cX2_digitHere 24 = .ok (.getfield 30, 3) := by decide +kernel
theorem dX2_digitHere_27 : decode cX2_digitHere 27 = .ok (.caload, 1) := by decide +kernel
theorem dX2_digitHere_28 : decode cX2_digitHere 28 = .ok (.bipush 48, 2) := by decide +kernel
theorem dX2_digitHere_30 : decode cX2_digitHere 30 = .ok (.if_icmp .lt 17, 3) := by decide +kernel
theorem dX2_digitHere_33 : decode cX2_digitHere 33 = .ok (.aload_n 0, 1) := by decide +kernel
theorem dX2_digitHere_34 : decode cX2_digitHere 34 = .ok (.getfield 11, 3) := by decide +kernel
theorem dX2_digitHere_37 : decode cX2_digitHere 37 = .ok (.aload_n 0, 1) := by decide +kernel
theorem dX2_digitHere_38 : decode cX2_digitHere 38 = .ok (.getfield 30, 3) := by decide +kernel
theorem dX2_digitHere_41 : decode cX2_digitHere 41 = .ok (.caload, 1) := by decide +kernel
theorem dX2_digitHere_42 : decode cX2_digitHere 42 = .ok (.bipush 57, 2) := by decide +kernel
theorem dX2_digitHere_44 : decode cX2_digitHere 44 = .ok (.if_icmp .le 5, 3) := by decide +kernel
theorem dX2_digitHere_47 : decode cX2_digitHere 47 = .ok (.iconst (-1), 1) := by decide +kernel
theorem dX2_digitHere_48 : decode cX2_digitHere 48 = .ok (.ireturn, 1) := by decide +kernel
theorem dX2_digitHere_49 : decode cX2_digitHere 49 = .ok (.aload_n 0, 1) := by decide +kernel
theorem dX2_digitHere_50 : decode cX2_digitHere 50 = .ok (.getfield 11, 3) := by decide +kernel
theorem dX2_digitHere_53 : decode cX2_digitHere 53 = .ok (.aload_n 0, 1) := by decide +kernel
theorem dX2_digitHere_54 : decode cX2_digitHere 54 = .ok (.getfield 30, 3) := by decide +kernel
theorem dX2_digitHere_57 : decode cX2_digitHere 57 = .ok (.caload, 1) := by decide +kernel
theorem dX2_digitHere_58 : decode cX2_digitHere 58 = .ok (.bipush 48, 2) := by decide +kernel
theorem dX2_digitHere_60 : decode cX2_digitHere 60 = .ok (.isub, 1) := by decide +kernel
theorem dX2_digitHere_61 : decode cX2_digitHere 61 = .ok (.ireturn, 1) := by decide +kernel
theorem dX2_nameOf_0 : decode cX2_nameOf 0 = .ok (.iload_n 0, 1) := by decide +kernel
theorem dX2_nameOf_1 : decode cX2_nameOf 1 = .ok (.tableswitch 43 0 3 #[31, 34, 37, 40], 31) := by decide +kernel
theorem dX2_nameOf_32 : decode cX2_nameOf 32 = .ok (.ldc 97, 2) := by decide +kernel
theorem dX2_nameOf_34 : decode cX2_nameOf 34 = .ok (.areturn, 1) := by decide +kernel
theorem dX2_nameOf_35 : decode cX2_nameOf 35 = .ok (.ldc 99, 2) := by decide +kernel
theorem dX2_nameOf_37 : decode cX2_nameOf 37 = .ok (.areturn, 1) := by decide +kernel
theorem dX2_nameOf_38 : decode cX2_nameOf 38 = .ok (.ldc 101, 2) := by decide +kernel
theorem dX2_nameOf_40 : decode cX2_nameOf 40 = .ok (.areturn, 1) := by decide +kernel
theorem dX2_nameOf_41 : decode cX2_nameOf 41 = .ok (.ldc 103, 2) := by decide +kernel
theorem dX2_nameOf_43 : decode cX2_nameOf 43 = .ok (.areturn, 1) := by decide +kernel
theorem dX2_nameOf_44 : decode cX2_nameOf 44 = .ok (.ldc 105, 2) := by decide +kernel
theorem dX2_nameOf_46 : decode cX2_nameOf 46 = .ok (.areturn, 1) := by decide +kernel
theorem dX2_leastOf_0 : decode cX2_leastOf 0 = .ok (.aload_n 0, 1) := by decide +kernel
theorem dX2_leastOf_1 : decode cX2_leastOf 1 = .ok (.getfield 19, 3) := by decide +kernel
theorem dX2_leastOf_4 : decode cX2_leastOf 4 = .ok (.iconst 3, 1) := by decide +kernel
theorem dX2_leastOf_5 : decode cX2_leastOf 5 = .ok (.if_icmp .ne 12, 3) := by decide +kernel
theorem dX2_leastOf_8 : decode cX2_leastOf 8 = .ok (.iload_n 1, 1) := by decide +kernel
theorem dX2_leastOf_9 : decode cX2_leastOf 9 = .ok (.iconst 1, 1) := by decide +kernel
theorem dX2_leastOf_10 : decode cX2_leastOf 10 = .ok (.if_icmp .ne 7, 3) := by decide +kernel
theorem dX2_leastOf_13 : decode cX2_leastOf 13 = .ok (.iconst 1, 1) := by decide +kernel
theorem dX2_leastOf_14 : decode cX2_leastOf 14 = .ok (.goto 4, 3) := by decide +kernel
theorem dX2_leastOf_17 : decode cX2_leastOf 17 = .ok (.iconst 0, 1) := by decide +kernel
theorem dX2_leastOf_18 : decode cX2_leastOf 18 = .ok (.istore_n 2, 1) := by decide +kernel
theorem dX2_leastOf_19 : decode cX2_leastOf 19 = .ok (.iload_n 2, 1) := by decide +kernel
theorem dX2_leastOf_20 : decode cX2_leastOf 20 = .ok (.ifCond .ne 11, 3) := by decide +kernel
theorem dX2_leastOf_23 : decode cX2_leastOf 23 = .ok (.aload_n 0, 1) := by decide +kernel
theorem dX2_leastOf_24 : decode cX2_leastOf 24 = .ok (.getfield 19, 3) := by decide +kernel
theorem dX2_leastOf_27 : decode cX2_leastOf 27 = .ok (.iconst 4, 1) := by decide +kernel
theorem dX2_leastOf_28 : decode cX2_leastOf 28 = .ok (.if_icmp .ne 7, 3) := by decide +kernel
theorem dX2_leastOf_31 : decode cX2_leastOf 31 = .ok (.iconst 1, 1) := by decide +kernel
theorem dX2_leastOf_32 : decode cX2_leastOf 32 = .ok (.goto 4, 3) := by decide +kernel
theorem dX2_leastOf_35 : decode cX2_leastOf 35 = .ok (.iconst 0, 1) := by decide +kernel
theorem dX2_leastOf_36 : decode cX2_leastOf 36 = .ok (.ireturn, 1) := by decide +kernel
theorem dX2_mostOf_0 : decode cX2_mostOf 0 = .ok (.aload_n 0, 1) := by decide +kernel
theorem dX2_mostOf_1 : decode cX2_mostOf 1 = .ok (.getfield 19, 3) := by decide +kernel
theorem dX2_mostOf_4 : decode cX2_mostOf 4 = .ok (.iconst 4, 1) := by decide +kernel
theorem dX2_mostOf_5 : decode cX2_mostOf 5 = .ok (.if_icmp .ne 6, 3) := by decide +kernel
theorem dX2_mostOf_8 : decode cX2_mostOf 8 = .ok (.bipush 99, 2) := by decide +kernel
theorem dX2_mostOf_10 : decode cX2_mostOf 10 = .ok (.ireturn, 1) := by decide +kernel
theorem dX2_mostOf_11 : decode cX2_mostOf 11 = .ok (.iload_n 1, 1) := by decide +kernel
theorem dX2_mostOf_12 : decode cX2_mostOf 12 = .ok (.ifCond .ne 16, 3) := by decide +kernel
theorem dX2_mostOf_15 : decode cX2_mostOf 15 = .ok (.aload_n 0, 1) := by decide +kernel
theorem dX2_mostOf_16 : decode cX2_mostOf 16 = .ok (.getfield 19, 3) := by decide +kernel
theorem dX2_mostOf_19 : decode cX2_mostOf 19 = .ok (.ifCond .ne 7, 3) := by decide +kernel
theorem dX2_mostOf_22 : decode cX2_mostOf 22 = .ok (.iconst 3, 1) := by decide +kernel
theorem dX2_mostOf_23 : decode cX2_mostOf 23 = .ok (.goto 4, 3) := by decide +kernel
theorem dX2_mostOf_26 : decode cX2_mostOf 26 = .ok (.iconst 3, 1) := by decide +kernel
theorem dX2_mostOf_27 : decode cX2_mostOf 27 = .ok (.ireturn, 1) := by decide +kernel
theorem dX2_mostOf_28 : decode cX2_mostOf 28 = .ok (.aload_n 0, 1) := by decide +kernel
theorem dX2_mostOf_29 : decode cX2_mostOf 29 = .ok (.getfield 19, 3) := by decide +kernel
theorem dX2_mostOf_32 : decode cX2_mostOf 32 = .ok (.tableswitch 48 0 2 #[28, 42, 45], 28) := by decide +kernel
theorem dX2_mostOf_60 : decode cX2_mostOf 60 = .ok (.iload_n 1, 1) := by decide +kernel
theorem dX2_mostOf_61 : decode cX2_mostOf 61 = .ok (.iconst 1, 1) := by decide +kernel
theorem dX2_mostOf_62 : decode cX2_mostOf 62 = .ok (.if_icmp .ne 8, 3) := by decide +kernel
theorem dX2_mostOf_65 : decode cX2_mostOf 65 = .ok (.bipush 127, 2) := by decide +kernel
theorem dX2_mostOf_67 : decode cX2_mostOf 67 = .ok (.goto 6, 3) := by decide +kernel
theorem dX2_mostOf_70 : decode cX2_mostOf 70 = .ok (.sipush 255, 3) := by decide +kernel
theorem dX2_mostOf_73 : decode cX2_mostOf 73 = .ok (.ireturn, 1) := by decide +kernel
theorem dX2_mostOf_74 : decode cX2_mostOf 74 = .ok (.bipush 127, 2) := by decide +kernel
theorem dX2_mostOf_76 : decode cX2_mostOf 76 = .ok (.ireturn, 1) := by decide +kernel
theorem dX2_mostOf_77 : decode cX2_mostOf 77 = .ok (.bipush 9, 2) := by decide +kernel
theorem dX2_mostOf_79 : decode cX2_mostOf 79 = .ok (.ireturn, 1) := by decide +kernel
theorem dX2_mostOf_80 : decode cX2_mostOf 80 = .ok (.bipush 99, 2) := by decide +kernel
theorem dX2_mostOf_82 : decode cX2_mostOf 82 = .ok (.ireturn, 1) := by decide +kernel
theorem dX3_init_0 : decode cX3_init 0 = .ok (.aload_n 0, 1) := by decide +kernel
theorem dX3_init_1 : decode cX3_init 1 = .ok (.invokespecial 3, 3) := by decide +kernel
theorem dX3_init_4 : decode cX3_init 4 = .ok (.aload_n 0, 1) := by decide +kernel
theorem dX3_init_5 : decode cX3_init 5 = .ok (.bipush 15, 2) := by decide +kernel
theorem dX3_init_7 : decode cX3_init 7 = .ok (.newarray .int, 2) := by decide +kernel
theorem dX3_init_9 : decode cX3_init 9 = .ok (.putfield 9, 3) := by decide +kernel
theorem dX3_init_12 : decode cX3_init 12 = .ok (.return_, 1) := by decide +kernel
theorem dX3_copyFrom_0 : decode cX3_copyFrom 0 = .ok (.aload_n 1, 1) := by decide +kernel
theorem dX3_copyFrom_1 : decode cX3_copyFrom 1 = .ok (.getfield 9, 3) := by decide +kernel
theorem dX3_copyFrom_4 : decode cX3_copyFrom 4 = .ok (.iconst 0, 1) := by decide +kernel
theorem dX3_copyFrom_5 : decode cX3_copyFrom 5 = .ok (.aload_n 0, 1) := by decide +kernel
theorem dX3_copyFrom_6 : decode cX3_copyFrom 6 = .ok (.getfield 9, 3) := by decide +kernel
theorem dX3_copyFrom_9 : decode cX3_copyFrom 9 = .ok (.iconst 0, 1) := by decide +kernel
theorem dX3_copyFrom_10 : decode cX3_copyFrom 10 = .ok (.bipush 15, 2) := by decide +kernel
theorem dX3_copyFrom_12 : decode cX3_copyFrom 12 = .ok (.invokestatic 15, 3) := by decide +kernel
theorem dX3_copyFrom_15 : decode cX3_copyFrom 15 = .ok (.aload_n 0, 1) := by decide +kernel
theorem dX3_copyFrom_16 : decode cX3_copyFrom 16 = .ok (.aload_n 1, 1) := by decide +kernel
theorem dX3_copyFrom_17 : decode cX3_copyFrom 17 = .ok (.getfield 21, 3) := by decide +kernel
theorem dX3_copyFrom_20 : decode cX3_copyFrom 20 = .ok (.putfield 21, 3) := by decide +kernel
theorem dX3_copyFrom_23 : decode cX3_copyFrom 23 = .ok (.aload_n 0, 1) := by decide +kernel
theorem dX3_copyFrom_24 : decode cX3_copyFrom 24 = .ok (.aload_n 1, 1) := by decide +kernel
theorem dX3_copyFrom_25 : decode cX3_copyFrom 25 = .ok (.getfield 25, 3) := by decide +kernel
theorem dX3_copyFrom_28 : decode cX3_copyFrom 28 = .ok (.putfield 25, 3) := by decide +kernel
theorem dX3_copyFrom_31 : decode cX3_copyFrom 31 = .ok (.aload_n 0, 1) := by decide +kernel
theorem dX3_copyFrom_32 : decode cX3_copyFrom 32 = .ok (.aload_n 1, 1) := by decide +kernel
theorem dX3_copyFrom_33 : decode cX3_copyFrom 33 = .ok (.getfield 29, 3) := by decide +kernel
theorem dX3_copyFrom_36 : decode cX3_copyFrom 36 = .ok (.putfield 29, 3) := by decide +kernel
theorem dX3_copyFrom_39 : decode cX3_copyFrom 39 = .ok (.aload_n 0, 1) := by decide +kernel
theorem dX3_copyFrom_40 : decode cX3_copyFrom 40 = .ok (.aload_n 1, 1) := by decide +kernel
theorem dX3_copyFrom_41 : decode cX3_copyFrom 41 = .ok (.getfield 32, 3) := by decide +kernel
theorem dX3_copyFrom_44 : decode cX3_copyFrom 44 = .ok (.putfield 32, 3) := by decide +kernel
theorem dX3_copyFrom_47 : decode cX3_copyFrom 47 = .ok (.aload_n 0, 1) := by decide +kernel
theorem dX3_copyFrom_48 : decode cX3_copyFrom 48 = .ok (.aload_n 1, 1) := by decide +kernel
theorem dX3_copyFrom_49 : decode cX3_copyFrom 49 = .ok (.getfield 35, 3) := by decide +kernel
theorem dX3_copyFrom_52 : decode cX3_copyFrom 52 = .ok (.putfield 35, 3) := by decide +kernel
theorem dX3_copyFrom_55 : decode cX3_copyFrom 55 = .ok (.aload_n 0, 1) := by decide +kernel
theorem dX3_copyFrom_56 : decode cX3_copyFrom 56 = .ok (.aload_n 1, 1) := by decide +kernel
theorem dX3_copyFrom_57 : decode cX3_copyFrom 57 = .ok (.getfield 38, 3) := by decide +kernel
theorem dX3_copyFrom_60 : decode cX3_copyFrom 60 = .ok (.putfield 38, 3) := by decide +kernel
theorem dX3_copyFrom_63 : decode cX3_copyFrom 63 = .ok (.aload_n 0, 1) := by decide +kernel
theorem dX3_copyFrom_64 : decode cX3_copyFrom 64 = .ok (.aload_n 1, 1) := by decide +kernel
theorem dX3_copyFrom_65 : decode cX3_copyFrom 65 = .ok (.getfield 41, 3) := by decide +kernel
theorem dX3_copyFrom_68 : decode cX3_copyFrom 68 = .ok (.putfield 41, 3) := by decide +kernel
theorem dX3_copyFrom_71 : decode cX3_copyFrom 71 = .ok (.return_, 1) := by decide +kernel
theorem dX3_append_0 : decode cX3_append 0 = .ok (.aload_n 0, 1) := by decide +kernel
theorem dX3_append_1 : decode cX3_append 1 = .ok (.getfield 21, 3) := by decide +kernel
theorem dX3_append_4 : decode cX3_append 4 = .ok (.iconst 5, 1) := by decide +kernel
theorem dX3_append_5 : decode cX3_append 5 = .ok (.invokestatic 44, 3) := by decide +kernel
theorem dX3_append_8 : decode cX3_append 8 = .ok (.ifCond .eq 55, 3) := by decide +kernel
theorem dX3_append_11 : decode cX3_append 11 = .ok (.aload_n 0, 1) := by decide +kernel
theorem dX3_append_12 : decode cX3_append 12 = .ok (.getfield 9, 3) := by decide +kernel
theorem dX3_append_15 : decode cX3_append 15 = .ok (.aload_n 0, 1) := by decide +kernel
theorem dX3_append_16 : decode cX3_append 16 = .ok (.getfield 21, 3) := by decide +kernel
theorem dX3_append_19 : decode cX3_append 19 = .ok (.iconst 3, 1) := by decide +kernel
theorem dX3_append_20 : decode cX3_append 20 = .ok (.imul, 1) := by decide +kernel
theorem dX3_append_21 : decode cX3_append 21 = .ok (.iload_n 1, 1) := by decide +kernel
theorem dX3_append_22 : decode cX3_append 22 = .ok (.iconst 1, 1) := by decide +kernel
theorem dX3_append_23 : decode cX3_append 23 = .ok (.ishl, 1) := by decide +kernel
theorem dX3_append_24 : decode cX3_append 24 = .ok (.iastore, 1) := by decide +kernel
theorem dX3_append_25 : decode cX3_append 25 = .ok (.aload_n 0, 1) := by decide +kernel
theorem dX3_append_26 : decode cX3_append 26 = .ok (.getfield 9, 3) := by decide +kernel
theorem dX3_append_29 : decode cX3_append 29 = .ok (.aload_n 0, 1) := by decide +kernel
theorem dX3_append_30 : decode cX3_append 30 = .ok (.getfield 21, 3) := by decide +kernel
theorem dX3_append_33 : decode cX3_append 33 = .ok (.iconst 3, 1) := by decide +kernel
theorem dX3_append_34 : decode cX3_append 34 = .ok (.imul, 1) := by decide +kernel
theorem dX3_append_35 : decode cX3_append 35 = .ok (.iconst 1, 1) := by decide +kernel
theorem dX3_append_36 : decode cX3_append 36 = .ok (.iadd, 1) := by decide +kernel
theorem dX3_append_37 : decode cX3_append 37 = .ok (.iload_n 2, 1) := by decide +kernel
theorem dX3_append_38 : decode cX3_append 38 = .ok (.iastore, 1) := by decide +kernel
theorem dX3_append_39 : decode cX3_append 39 = .ok (.aload_n 0, 1) := by decide +kernel
theorem dX3_append_40 : decode cX3_append 40 = .ok (.getfield 9, 3) := by decide +kernel
theorem dX3_append_43 : decode cX3_append 43 = .ok (.aload_n 0, 1) := by decide +kernel
theorem dX3_append_44 : decode cX3_append 44 = .ok (.getfield 21, 3) := by decide +kernel
theorem dX3_append_47 : decode cX3_append 47 = .ok (.iconst 3, 1) := by decide +kernel
theorem dX3_append_48 : decode cX3_append 48 = .ok (.imul, 1) := by decide +kernel
theorem dX3_append_49 : decode cX3_append 49 = .ok (.iconst 2, 1) := by decide +kernel
theorem dX3_append_50 : decode cX3_append 50 = .ok (.iadd, 1) := by decide +kernel
theorem dX3_append_51 : decode cX3_append 51 = .ok (.iload_n 3, 1) := by decide +kernel
theorem dX3_append_52 : decode cX3_append 52 = .ok (.iastore, 1) := by decide +kernel
theorem dX3_append_53 : decode cX3_append 53 = .ok (.aload_n 0, 1) := by decide +kernel
theorem dX3_append_54 : decode cX3_append 54 = .ok (.dup, 1) := by decide +kernel
theorem dX3_append_55 : decode cX3_append 55 = .ok (.getfield 21, 3) := by decide +kernel
theorem dX3_append_58 : decode cX3_append 58 = .ok (.iconst 1, 1) := by decide +kernel
theorem dX3_append_59 : decode cX3_append 59 = .ok (.iadd, 1) := by decide +kernel
theorem dX3_append_60 : decode cX3_append 60 = .ok (.putfield 21, 3) := by decide +kernel
theorem dX3_append_63 : decode cX3_append 63 = .ok (.return_, 1) := by decide +kernel
theorem dX3_removeLast_0 : decode cX3_removeLast 0 = .ok (.aload_n 0, 1) := by decide +kernel
theorem dX3_removeLast_1 : decode cX3_removeLast 1 = .ok (.getfield 21, 3) := by decide +kernel
theorem dX3_removeLast_4 : decode cX3_removeLast 4 = .ok (.ifCond .le 13, 3) := by decide +kernel
theorem dX3_removeLast_7 : decode cX3_removeLast 7 = .ok (.aload_n 0, 1) := by decide +kernel
theorem dX3_removeLast_8 : decode cX3_removeLast 8 = .ok (.dup, 1) := by decide +kernel
theorem dX3_removeLast_9 : decode cX3_removeLast 9 = .ok (.getfield 21, 3) := by decide +kernel
theorem dX3_removeLast_12 : decode cX3_removeLast 12 = .ok (.iconst 1, 1) := by decide +kernel
theorem dX3_removeLast_13 : decode cX3_removeLast 13 = .ok (.isub, 1) := by decide +kernel
theorem dX3_removeLast_14 : decode cX3_removeLast 14 = .ok (.putfield 21, 3) := by decide +kernel
theorem dX3_removeLast_17 : decode cX3_removeLast 17 = .ok (.aload_n 0, 1) := by decide +kernel
theorem dX3_removeLast_18 : decode cX3_removeLast 18 = .ok (.getfield 21, 3) := by decide +kernel
theorem dX3_removeLast_21 : decode cX3_removeLast 21 = .ok (.ifCond .ne 8, 3) := by decide +kernel
theorem dX3_removeLast_24 : decode cX3_removeLast 24 = .ok (.aload_n 0, 1) := by decide +kernel
theorem dX3_removeLast_25 : decode cX3_removeLast 25 = .ok (.iconst 0, 1) := by decide +kernel
theorem dX3_removeLast_26 : decode cX3_removeLast 26 = .ok (.putfield 41, 3) := by decide +kernel
theorem dX3_removeLast_29 : decode cX3_removeLast 29 = .ok (.return_, 1) := by decide +kernel
theorem dX3_removeFirst_0 : decode cX3_removeFirst 0 = .ok (.aload_n 0, 1) := by decide +kernel
theorem dX3_removeFirst_1 : decode cX3_removeFirst 1 = .ok (.getfield 9, 3) := by decide +kernel
theorem dX3_removeFirst_4 : decode cX3_removeFirst 4 = .ok (.iconst 3, 1) := by decide +kernel
theorem dX3_removeFirst_5 : decode cX3_removeFirst 5 = .ok (.aload_n 0, 1) := by decide +kernel
theorem dX3_removeFirst_6 : decode cX3_removeFirst 6 = .ok (.getfield 9, 3) := by decide +kernel
theorem dX3_removeFirst_9 : decode cX3_removeFirst 9 = .ok (.iconst 0, 1) := by decide +kernel
theorem dX3_removeFirst_10 : decode cX3_removeFirst 10 = .ok (.bipush 12, 2) := by decide +kernel
theorem dX3_removeFirst_12 : decode cX3_removeFirst 12 = .ok (.invokestatic 15, 3) := by decide +kernel
theorem dX3_removeFirst_15 : decode cX3_removeFirst 15 = .ok (.aload_n 0, 1) := by decide +kernel
theorem dX3_removeFirst_16 : decode cX3_removeFirst 16 = .ok (.getfield 21, 3) := by decide +kernel
theorem dX3_removeFirst_19 : decode cX3_removeFirst 19 = .ok (.ifCond .le 13, 3) := by decide +kernel
theorem dX3_removeFirst_22 : decode cX3_removeFirst 22 = .ok (.aload_n 0, 1) := by decide +kernel
theorem dX3_removeFirst_23 : decode cX3_removeFirst 23 = .ok (.dup, 1) := by decide +kernel
theorem dX3_removeFirst_24 : decode cX3_removeFirst 24 = .ok (.getfield 21, 3) := by decide +kernel
theorem dX3_removeFirst_27 : decode cX3_removeFirst 27 = .ok (.iconst 1, 1) := by decide +kernel
theorem dX3_removeFirst_28 : decode cX3_removeFirst 28 = .ok (.isub, 1) := by decide +kernel
theorem dX3_removeFirst_29 : decode cX3_removeFirst 29 = .ok (.putfield 21, 3) := by decide +kernel
theorem dX3_removeFirst_32 : decode cX3_removeFirst 32 = .ok (.aload_n 0, 1) := by decide +kernel
theorem dX3_removeFirst_33 : decode cX3_removeFirst 33 = .ok (.iconst 0, 1) := by decide +kernel
theorem dX3_removeFirst_34 : decode cX3_removeFirst 34 = .ok (.putfield 41, 3) := by decide +kernel
theorem dX3_removeFirst_37 : decode cX3_removeFirst 37 = .ok (.return_, 1) := by decide +kernel
theorem dX3_lose_0 : decode cX3_lose 0 = .ok (.aload_n 0, 1) := by decide +kernel
theorem dX3_lose_1 : decode cX3_lose 1 = .ok (.iconst 0, 1) := by decide +kernel
theorem dX3_lose_2 : decode cX3_lose 2 = .ok (.putfield 25, 3) := by decide +kernel
theorem dX3_lose_5 : decode cX3_lose 5 = .ok (.aload_n 0, 1) := by decide +kernel
theorem dX3_lose_6 : decode cX3_lose 6 = .ok (.dup, 1) := by decide +kernel
theorem dX3_lose_7 : decode cX3_lose 7 = .ok (.getfield 32, 3) := by decide +kernel
theorem dX3_lose_10 : decode cX3_lose 10 = .ok (.iconst 1, 1) := by decide +kernel
theorem dX3_lose_11 : decode cX3_lose 11 = .ok (.iadd, 1) := by decide +kernel
theorem dX3_lose_12 : decode cX3_lose 12 = .ok (.putfield 32, 3) := by decide +kernel
theorem dX3_lose_15 : decode cX3_lose 15 = .ok (.return_, 1) := by decide +kernel
theorem dX3_bringMessage_0 : decode cX3_bringMessage 0 = .ok (.aload_n 0, 1) := by decide +kernel
theorem dX3_bringMessage_1 : decode cX3_bringMessage 1 = .ok (.iconst 0, 1) := by decide +kernel
theorem dX3_bringMessage_2 : decode cX3_bringMessage 2 = .ok (.putfield 25, 3) := by decide +kernel
theorem dX3_bringMessage_5 : decode cX3_bringMessage 5 = .ok (.aload_n 0, 1) := by decide +kernel
end
section
theorem dX3_bringMessage_6 : decode cX3_bringMessage 6 = .ok (.dup, 1) := by decide +kernel
theorem dX3_bringMessage_7 : decode cX3_bringMessage 7 = .ok (.getfield 29, 3) := by decide +kernel
theorem dX3_bringMessage_10 : decode cX3_bringMessage 10 = .ok (.iconst 1, 1) := by decide +kernel
theorem dX3_bringMessage_11 : decode cX3_bringMessage 11 = .ok (.iadd, 1) := by decide +kernel
theorem dX3_bringMessage_12 : decode cX3_bringMessage 12 = .ok (.putfield 29, 3) := by decide +kernel
theorem dX3_bringMessage_15 : decode cX3_bringMessage 15 = .ok (.aload_n 0, 1) := by decide +kernel
theorem dX3_bringMessage_16 : decode cX3_bringMessage 16 = .ok (.invokevirtual 48, 3) := by decide +kernel
theorem dX3_bringMessage_19 : decode cX3_bringMessage 19 = .ok (.return_, 1) := by decide +kernel
theorem dX3_failMessage_0 : decode cX3_failMessage 0 = .ok (.aload_n 0, 1) := by decide +kernel
theorem dX3_failMessage_1 : decode cX3_failMessage 1 = .ok (.iconst 0, 1) := by decide +kernel
theorem dX3_failMessage_2 : decode cX3_failMessage 2 = .ok (.putfield 25, 3) := by decide +kernel
theorem dX3_failMessage_5 : decode cX3_failMessage 5 = .ok (.aload_n 0, 1) := by decide +kernel
theorem dX3_failMessage_6 : decode cX3_failMessage 6 = .ok (.dup, 1) := by decide +kernel
theorem dX3_failMessage_7 : decode cX3_failMessage 7 = .ok (.getfield 35, 3) := by decide +kernel
theorem dX3_failMessage_10 : decode cX3_failMessage 10 = .ok (.iconst 1, 1) := by decide +kernel
theorem dX3_failMessage_11 : decode cX3_failMessage 11 = .ok (.iadd, 1) := by decide +kernel
theorem dX3_failMessage_12 : decode cX3_failMessage 12 = .ok (.putfield 35, 3) := by decide +kernel
theorem dX3_failMessage_15 : decode cX3_failMessage 15 = .ok (.aload_n 0, 1) := by decide +kernel
theorem dX3_failMessage_16 : decode cX3_failMessage 16 = .ok (.dup, 1) := by decide +kernel
theorem dX3_failMessage_17 : decode cX3_failMessage 17 = .ok (.getfield 41, 3) := by decide +kernel
theorem dX3_failMessage_20 : decode cX3_failMessage 20 = .ok (.iconst 1, 1) := by decide +kernel
theorem dX3_failMessage_21 : decode cX3_failMessage 21 = .ok (.iadd, 1) := by decide +kernel
theorem dX3_failMessage_22 : decode cX3_failMessage 22 = .ok (.putfield 41, 3) := by decide +kernel
theorem dX3_failMessage_25 : decode cX3_failMessage 25 = .ok (.aload_n 0, 1) := by decide +kernel
theorem dX3_failMessage_26 : decode cX3_failMessage 26 = .ok (.getfield 41, 3) := by decide +kernel
theorem dX3_failMessage_29 : decode cX3_failMessage 29 = .ok (.iload_n 1, 1) := by decide +kernel
theorem dX3_failMessage_30 : decode cX3_failMessage 30 = .ok (.if_icmp .lt 17, 3) := by decide +kernel
theorem dX3_failMessage_33 : decode cX3_failMessage 33 = .ok (.aload_n 0, 1) := by decide +kernel
theorem dX3_failMessage_34 : decode cX3_failMessage 34 = .ok (.dup, 1) := by decide +kernel
theorem dX3_failMessage_35 : decode cX3_failMessage 35 = .ok (.getfield 38, 3) := by decide +kernel
theorem dX3_failMessage_38 : decode cX3_failMessage 38 = .ok (.iconst 1, 1) := by decide +kernel
theorem dX3_failMessage_39 : decode cX3_failMessage 39 = .ok (.iadd, 1) := by decide +kernel
theorem dX3_failMessage_40 : decode cX3_failMessage 40 = .ok (.putfield 38, 3) := by decide +kernel
theorem dX3_failMessage_43 : decode cX3_failMessage 43 = .ok (.aload_n 0, 1) := by decide +kernel
theorem dX3_failMessage_44 : decode cX3_failMessage 44 = .ok (.invokevirtual 48, 3) := by decide +kernel
theorem dX3_failMessage_47 : decode cX3_failMessage 47 = .ok (.return_, 1) := by decide +kernel
theorem dX3_part_0 : decode cX3_part 0 = .ok (.iload_n 1, 1) := by decide +kernel
theorem dX3_part_1 : decode cX3_part 1 = .ok (.ifCond .lt 21, 3) := by decide +kernel
theorem dX3_part_4 : decode cX3_part 4 = .ok (.iload_n 1, 1) := by decide +kernel
theorem dX3_part_5 : decode cX3_part 5 = .ok (.iconst 5, 1) := by decide +kernel
theorem dX3_part_6 : decode cX3_part 6 = .ok (.if_icmp .ge 16, 3) := by decide +kernel
theorem dX3_part_9 : decode cX3_part 9 = .ok (.iload_n 2, 1) := by decide +kernel
theorem dX3_part_10 : decode cX3_part 10 = .ok (.ifCond .lt 12, 3) := by decide +kernel
theorem dX3_part_13 : decode cX3_part 13 = .ok (.iload_n 2, 1) := by decide +kernel
theorem dX3_part_14 : decode cX3_part 14 = .ok (.iconst 3, 1) := by decide +kernel
theorem dX3_part_15 : decode cX3_part 15 = .ok (.if_icmp .ge 7, 3) := by decide +kernel
theorem dX3_part_18 : decode cX3_part 18 = .ok (.iconst 1, 1) := by decide +kernel
theorem dX3_part_19 : decode cX3_part 19 = .ok (.goto 4, 3) := by decide +kernel
theorem dX3_part_22 : decode cX3_part 22 = .ok (.iconst 0, 1) := by decide +kernel
theorem dX3_part_23 : decode cX3_part 23 = .ok (.istore_n 3, 1) := by decide +kernel
theorem dX3_part_24 : decode cX3_part 24 = .ok (.iload_n 3, 1) := by decide +kernel
theorem dX3_part_25 : decode cX3_part 25 = .ok (.ifCond .eq 16, 3) := by decide +kernel
theorem dX3_part_28 : decode cX3_part 28 = .ok (.aload_n 0, 1) := by decide +kernel
theorem dX3_part_29 : decode cX3_part 29 = .ok (.getfield 9, 3) := by decide +kernel
theorem dX3_part_32 : decode cX3_part 32 = .ok (.iload_n 1, 1) := by decide +kernel
theorem dX3_part_33 : decode cX3_part 33 = .ok (.iconst 3, 1) := by decide +kernel
theorem dX3_part_34 : decode cX3_part 34 = .ok (.imul, 1) := by decide +kernel
theorem dX3_part_35 : decode cX3_part 35 = .ok (.iload_n 2, 1) := by decide +kernel
theorem dX3_part_36 : decode cX3_part 36 = .ok (.iadd, 1) := by decide +kernel
theorem dX3_part_37 : decode cX3_part 37 = .ok (.iaload, 1) := by decide +kernel
theorem dX3_part_38 : decode cX3_part 38 = .ok (.goto 5, 3) := by decide +kernel
theorem dX3_part_41 : decode cX3_part 41 = .ok (.bipush (-5), 2) := by decide +kernel
theorem dX3_part_43 : decode cX3_part 43 = .ok (.ireturn, 1) := by decide +kernel
theorem dX3_partsAt_0 : decode cX3_partsAt 0 = .ok (.aload_n 0, 1) := by decide +kernel
theorem dX3_partsAt_1 : decode cX3_partsAt 1 = .ok (.iload_n 1, 1) := by decide +kernel
theorem dX3_partsAt_2 : decode cX3_partsAt 2 = .ok (.iconst 2, 1) := by decide +kernel
theorem dX3_partsAt_3 : decode cX3_partsAt 3 = .ok (.invokevirtual 51, 3) := by decide +kernel
theorem dX3_partsAt_6 : decode cX3_partsAt 6 = .ok (.bipush (-5), 2) := by decide +kernel
theorem dX3_partsAt_8 : decode cX3_partsAt 8 = .ok (.if_icmp .ne 7, 3) := by decide +kernel
theorem dX3_partsAt_11 : decode cX3_partsAt 11 = .ok (.iconst 2, 1) := by decide +kernel
theorem dX3_partsAt_12 : decode cX3_partsAt 12 = .ok (.goto 4, 3) := by decide +kernel
theorem dX3_partsAt_15 : decode cX3_partsAt 15 = .ok (.iconst 3, 1) := by decide +kernel
theorem dX3_partsAt_16 : decode cX3_partsAt 16 = .ok (.ireturn, 1) := by decide +kernel
theorem dX4_init_0 : decode cX4_init 0 = .ok (.aload_n 0, 1) := by decide +kernel
theorem dX4_init_1 : decode cX4_init 1 = .ok (.invokespecial 3, 3) := by decide +kernel
theorem dX4_init_4 : decode cX4_init 4 = .ok (.aload_n 0, 1) := by decide +kernel
theorem dX4_init_5 : decode cX4_init 5 = .ok (.iconst 4, 1) := by decide +kernel
theorem dX4_init_6 : decode cX4_init 6 = .ok (.anewarray 9, 3) := by decide +kernel
theorem dX4_init_9 : decode cX4_init 9 = .ok (.putfield 11, 3) := by decide +kernel
theorem dX4_init_12 : decode cX4_init 12 = .ok (.aload_n 0, 1) := by decide +kernel
theorem dX4_init_13 : decode cX4_init 13 = .ok (.iconst 4, 1) := by decide +kernel
theorem dX4_init_14 : decode cX4_init 14 = .ok (.anewarray 17, 3) := by decide +kernel
theorem dX4_init_17 : decode cX4_init 17 = .ok (.putfield 19, 3) := by decide +kernel
theorem dX4_init_20 : decode cX4_init 20 = .ok (.aload_n 0, 1) := by decide +kernel
theorem dX4_init_21 : decode cX4_init 21 = .ok (.iconst 3, 1) := by decide +kernel
theorem dX4_init_22 : decode cX4_init 22 = .ok (.newarray .int, 2) := by decide +kernel
theorem dX4_init_24 : decode cX4_init 24 = .ok (.dup, 1) := by decide +kernel
theorem dX4_init_25 : decode cX4_init 25 = .ok (.iconst 0, 1) := by decide +kernel
theorem dX4_init_26 : decode cX4_init 26 = .ok (.iconst 2, 1) := by decide +kernel
theorem dX4_init_27 : decode cX4_init 27 = .ok (.iastore, 1) := by decide +kernel
theorem dX4_init_28 : decode cX4_init 28 = .ok (.dup, 1) := by decide +kernel
theorem dX4_init_29 : decode cX4_init 29 = .ok (.iconst 1, 1) := by decide +kernel
theorem dX4_init_30 : decode cX4_init 30 = .ok (.iconst 2, 1) := by decide +kernel
theorem dX4_init_31 : decode cX4_init 31 = .ok (.iastore, 1) := by decide +kernel
theorem dX4_init_32 : decode cX4_init 32 = .ok (.dup, 1) := by decide +kernel
theorem dX4_init_33 : decode cX4_init 33 = .ok (.iconst 2, 1) := by decide +kernel
theorem dX4_init_34 : decode cX4_init 34 = .ok (.bipush 10, 2) := by decide +kernel
theorem dX4_init_36 : decode cX4_init 36 = .ok (.iastore, 1) := by decide +kernel
theorem dX4_init_37 : decode cX4_init 37 = .ok (.putfield 23, 3) := by decide +kernel
theorem dX4_init_40 : decode cX4_init 40 = .ok (.aload_n 0, 1) := by decide +kernel
theorem dX4_init_41 : decode cX4_init 41 = .ok (.new 27, 3) := by decide +kernel
theorem dX4_init_44 : decode cX4_init 44 = .ok (.dup, 1) := by decide +kernel
theorem dX4_init_45 : decode cX4_init 45 = .ok (.invokespecial 29, 3) := by decide +kernel
theorem dX4_init_48 : decode cX4_init 48 = .ok (.putfield 30, 3) := by decide +kernel
theorem dX4_init_51 : decode cX4_init 51 = .ok (.iconst 0, 1) := by decide +kernel
theorem dX4_init_52 : decode cX4_init 52 = .ok (.istore_n 1, 1) := by decide +kernel
theorem dX4_init_53 : decode cX4_init 53 = .ok (.iload_n 1, 1) := by decide +kernel
theorem dX4_init_54 : decode cX4_init 54 = .ok (.aload_n 0, 1) := by decide +kernel
theorem dX4_init_55 : decode cX4_init 55 = .ok (.getfield 11, 3) := by decide +kernel
theorem dX4_init_58 : decode cX4_init 58 = .ok (.arraylength, 1) := by decide +kernel
theorem dX4_init_59 : decode cX4_init 59 = .ok (.if_icmp .ge 22, 3) := by decide +kernel
theorem dX4_init_62 : decode cX4_init 62 = .ok (.aload_n 0, 1) := by decide +kernel
theorem dX4_init_63 : decode cX4_init 63 = .ok (.getfield 11, 3) := by decide +kernel
theorem dX4_init_66 : decode cX4_init 66 = .ok (.iload_n 1, 1) := by decide +kernel
theorem dX4_init_67 : decode cX4_init 67 = .ok (.new 9, 3) := by decide +kernel
theorem dX4_init_70 : decode cX4_init 70 = .ok (.dup, 1) := by decide +kernel
theorem dX4_init_71 : decode cX4_init 71 = .ok (.invokespecial 34, 3) := by decide +kernel
theorem dX4_init_74 : decode cX4_init 74 = .ok (.aastore, 1) := by decide +kernel
theorem dX4_init_75 : decode cX4_init 75 = .ok (.iinc 1 1, 3) := by decide +kernel
theorem dX4_init_78 : decode cX4_init 78 = .ok (.goto (-25), 3) := by decide +kernel
theorem dX4_init_81 : decode cX4_init 81 = .ok (.iconst 0, 1) := by decide +kernel
theorem dX4_init_82 : decode cX4_init 82 = .ok (.istore_n 1, 1) := by decide +kernel
theorem dX4_init_83 : decode cX4_init 83 = .ok (.iload_n 1, 1) := by decide +kernel
theorem dX4_init_84 : decode cX4_init 84 = .ok (.aload_n 0, 1) := by decide +kernel
theorem dX4_init_85 : decode cX4_init 85 = .ok (.getfield 19, 3) := by decide +kernel
theorem dX4_init_88 : decode cX4_init 88 = .ok (.arraylength, 1) := by decide +kernel
theorem dX4_init_89 : decode cX4_init 89 = .ok (.if_icmp .ge 22, 3) := by decide +kernel
theorem dX4_init_92 : decode cX4_init 92 = .ok (.aload_n 0, 1) := by decide +kernel
theorem dX4_init_93 : decode cX4_init 93 = .ok (.getfield 19, 3) := by decide +kernel
theorem dX4_init_96 : decode cX4_init 96 = .ok (.iload_n 1, 1) := by decide +kernel
theorem dX4_init_97 : decode cX4_init 97 = .ok (.new 17, 3) := by decide +kernel
theorem dX4_init_100 : decode cX4_init 100 = .ok (.dup, 1) := by decide +kernel
theorem dX4_init_101 : decode cX4_init 101 = .ok (.invokespecial 35, 3) := by decide +kernel
theorem dX4_init_104 : decode cX4_init 104 = .ok (.aastore, 1) := by decide +kernel
theorem dX4_init_105 : decode cX4_init 105 = .ok (.iinc 1 1, 3) := by decide +kernel
theorem dX4_init_108 : decode cX4_init 108 = .ok (.goto (-25), 3) := by decide +kernel
theorem dX4_init_111 : decode cX4_init 111 = .ok (.return_, 1) := by decide +kernel
theorem dX4_copyFrom_0 : decode cX4_copyFrom 0 = .ok (.iconst 0, 1) := by decide +kernel
theorem dX4_copyFrom_1 : decode cX4_copyFrom 1 = .ok (.istore_n 2, 1) := by decide +kernel
theorem dX4_copyFrom_2 : decode cX4_copyFrom 2 = .ok (.iload_n 2, 1) := by decide +kernel
theorem dX4_copyFrom_3 : decode cX4_copyFrom 3 = .ok (.iconst 4, 1) := by decide +kernel
theorem dX4_copyFrom_4 : decode cX4_copyFrom 4 = .ok (.if_icmp .ge 24, 3) := by decide +kernel
theorem dX4_copyFrom_7 : decode cX4_copyFrom 7 = .ok (.aload_n 0, 1) := by decide +kernel
theorem dX4_copyFrom_8 : decode cX4_copyFrom 8 = .ok (.getfield 11, 3) := by decide +kernel
theorem dX4_copyFrom_11 : decode cX4_copyFrom 11 = .ok (.iload_n 2, 1) := by decide +kernel
theorem dX4_copyFrom_12 : decode cX4_copyFrom 12 = .ok (.aaload, 1) := by decide +kernel
theorem dX4_copyFrom_13 : decode cX4_copyFrom 13 = .ok (.aload_n 1, 1) := by decide +kernel
theorem dX4_copyFrom_14 : decode cX4_copyFrom 14 = .ok (.getfield 11, 3) := by decide +kernel
theorem dX4_copyFrom_17 : decode cX4_copyFrom 17 = .ok (.iload_n 2, 1) := by decide +kernel
theorem dX4_copyFrom_18 : decode cX4_copyFrom 18 = .ok (.aaload, 1) := by decide +kernel
theorem dX4_copyFrom_19 : decode cX4_copyFrom 19 = .ok (.invokevirtual 36, 3) := by decide +kernel
theorem dX4_copyFrom_22 : decode cX4_copyFrom 22 = .ok (.iinc 2 1, 3) := by decide +kernel
theorem dX4_copyFrom_25 : decode cX4_copyFrom 25 = .ok (.goto (-23), 3) := by decide +kernel
theorem dX4_copyFrom_28 : decode cX4_copyFrom 28 = .ok (.iconst 0, 1) := by decide +kernel
theorem dX4_copyFrom_29 : decode cX4_copyFrom 29 = .ok (.istore_n 2, 1) := by decide +kernel
theorem dX4_copyFrom_30 : decode cX4_copyFrom 30 = .ok (.iload_n 2, 1) := by decide +kernel
theorem dX4_copyFrom_31 : decode cX4_copyFrom 31 = .ok (.iconst 4, 1) := by decide +kernel
theorem dX4_copyFrom_32 : decode cX4_copyFrom 32 = .ok (.if_icmp .ge 24, 3) := by decide +kernel
theorem dX4_copyFrom_35 : decode cX4_copyFrom 35 = .ok (.aload_n 0, 1) := by decide +kernel
theorem dX4_copyFrom_36 : decode cX4_copyFrom 36 = .ok (.getfield 19, 3) := by decide +kernel
theorem dX4_copyFrom_39 : decode cX4_copyFrom 39 = .ok (.iload_n 2, 1) := by decide +kernel
theorem dX4_copyFrom_40 : decode cX4_copyFrom 40 = .ok (.aaload, 1) := by decide +kernel
theorem dX4_copyFrom_41 : decode cX4_copyFrom 41 = .ok (.aload_n 1, 1) := by decide +kernel
theorem dX4_copyFrom_42 : decode cX4_copyFrom 42 = .ok (.getfield 19, 3) := by decide +kernel
theorem dX4_copyFrom_45 : decode cX4_copyFrom 45 = .ok (.iload_n 2, 1) := by decide +kernel
theorem dX4_copyFrom_46 : decode cX4_copyFrom 46 = .ok (.aaload, 1) := by decide +kernel
theorem dX4_copyFrom_47 : decode cX4_copyFrom 47 = .ok (.invokevirtual 40, 3) := by decide +kernel
theorem dX4_copyFrom_50 : decode cX4_copyFrom 50 = .ok (.iinc 2 1, 3) := by decide +kernel
theorem dX4_copyFrom_53 : decode cX4_copyFrom 53 = .ok (.goto (-23), 3) := by decide +kernel
theorem dX4_copyFrom_56 : decode cX4_copyFrom 56 = .ok (.aload_n 1, 1) := by decide +kernel
theorem dX4_copyFrom_57 : decode cX4_copyFrom 57 = .ok (.getfield 23, 3) := by decide +kernel
theorem dX4_copyFrom_60 : decode cX4_copyFrom 60 = .ok (.iconst 0, 1) := by decide +kernel
theorem dX4_copyFrom_61 : decode cX4_copyFrom 61 = .ok (.aload_n 0, 1) := by decide +kernel
theorem dX4_copyFrom_62 : decode cX4_copyFrom 62 = .ok (.getfield 23, 3) := by decide +kernel
theorem dX4_copyFrom_65 : decode cX4_copyFrom 65 = .ok (.iconst 0, 1) := by decide +kernel
theorem dX4_copyFrom_66 : decode cX4_copyFrom 66 = .ok (.iconst 3, 1) := by decide +kernel
theorem dX4_copyFrom_67 : decode cX4_copyFrom 67 = .ok (.invokestatic 43, 3) := by decide +kernel
theorem dX4_copyFrom_70 : decode cX4_copyFrom 70 = .ok (.aload_n 0, 1) := by decide +kernel
theorem dX4_copyFrom_71 : decode cX4_copyFrom 71 = .ok (.getfield 30, 3) := by decide +kernel
theorem dX4_copyFrom_74 : decode cX4_copyFrom 74 = .ok (.aload_n 1, 1) := by decide +kernel
theorem dX4_copyFrom_75 : decode cX4_copyFrom 75 = .ok (.getfield 30, 3) := by decide +kernel
theorem dX4_copyFrom_78 : decode cX4_copyFrom 78 = .ok (.invokevirtual 49, 3) := by decide +kernel
theorem dX4_copyFrom_81 : decode cX4_copyFrom 81 = .ok (.aload_n 0, 1) := by decide +kernel
theorem dX4_copyFrom_82 : decode cX4_copyFrom 82 = .ok (.aload_n 1, 1) := by decide +kernel
theorem dX4_copyFrom_83 : decode cX4_copyFrom 83 = .ok (.getfield 52, 3) := by decide +kernel
theorem dX4_copyFrom_86 : decode cX4_copyFrom 86 = .ok (.putfield 52, 3) := by decide +kernel
theorem dX4_copyFrom_89 : decode cX4_copyFrom 89 = .ok (.aload_n 0, 1) := by decide +kernel
theorem dX4_copyFrom_90 : decode cX4_copyFrom 90 = .ok (.aload_n 1, 1) := by decide +kernel
theorem dX4_copyFrom_91 : decode cX4_copyFrom 91 = .ok (.getfield 56, 3) := by decide +kernel
theorem dX4_copyFrom_94 : decode cX4_copyFrom 94 = .ok (.putfield 56, 3) := by decide +kernel
theorem dX4_copyFrom_97 : decode cX4_copyFrom 97 = .ok (.aload_n 0, 1) := by decide +kernel
theorem dX4_copyFrom_98 : decode cX4_copyFrom 98 = .ok (.aload_n 1, 1) := by decide +kernel
theorem dX4_copyFrom_99 : decode cX4_copyFrom 99 = .ok (.getfield 59, 3) := by decide +kernel
theorem dX4_copyFrom_102 : decode cX4_copyFrom 102 = .ok (.putfield 59, 3) := by decide +kernel
theorem dX4_copyFrom_105 : decode cX4_copyFrom 105 = .ok (.aload_n 0, 1) := by decide +kernel
theorem dX4_copyFrom_106 : decode cX4_copyFrom 106 = .ok (.aload_n 1, 1) := by decide +kernel
theorem dX4_copyFrom_107 : decode cX4_copyFrom 107 = .ok (.getfield 62, 3) := by decide +kernel
theorem dX4_copyFrom_110 : decode cX4_copyFrom 110 = .ok (.putfield 62, 3) := by decide +kernel
theorem dX4_copyFrom_113 : decode cX4_copyFrom 113 = .ok (.aload_n 0, 1) := by decide +kernel
theorem dX4_copyFrom_114 : decode cX4_copyFrom 114 = .ok (.aload_n 1, 1) := by decide +kernel
theorem dX4_copyFrom_115 : decode cX4_copyFrom 115 = .ok (.getfield 65, 3) := by decide +kernel
theorem dX4_copyFrom_118 : decode cX4_copyFrom 118 = .ok (.putfield 65, 3) := by decide +kernel
theorem dX4_copyFrom_121 : decode cX4_copyFrom 121 = .ok (.aload_n 0, 1) := by decide +kernel
theorem dX4_copyFrom_122 : decode cX4_copyFrom 122 = .ok (.aload_n 1, 1) := by decide +kernel
theorem dX4_copyFrom_123 : decode cX4_copyFrom 123 = .ok (.getfield 68, 3) := by decide +kernel
theorem dX4_copyFrom_126 : decode cX4_copyFrom 126 = .ok (.putfield 68, 3) := by decide +kernel
theorem dX4_copyFrom_129 : decode cX4_copyFrom 129 = .ok (.aload_n 0, 1) := by decide +kernel
theorem dX4_copyFrom_130 : decode cX4_copyFrom 130 = .ok (.aload_n 1, 1) := by decide +kernel
theorem dX4_copyFrom_131 : decode cX4_copyFrom 131 = .ok (.getfield 71, 3) := by decide +kernel
theorem dX4_copyFrom_134 : decode cX4_copyFrom 134 = .ok (.putfield 71, 3) := by decide +kernel
theorem dX4_copyFrom_137 : decode cX4_copyFrom 137 = .ok (.return_, 1) := by decide +kernel
theorem dX4_addMessage_0 : decode cX4_addMessage 0 = .ok (.aload_n 0, 1) := by decide +kernel
theorem dX4_addMessage_1 : decode cX4_addMessage 1 = .ok (.iload_n 1, 1) := by decide +kernel
theorem dX4_addMessage_2 : decode cX4_addMessage 2 = .ok (.invokevirtual 74, 3) := by decide +kernel
theorem dX4_addMessage_5 : decode cX4_addMessage 5 = .ok (.astore 5, 2) := by decide +kernel
theorem dX4_addMessage_7 : decode cX4_addMessage 7 = .ok (.aload 5, 2) := by decide +kernel
theorem dX4_addMessage_9 : decode cX4_addMessage 9 = .ok (.ifnonnull 5, 3) := by decide +kernel
theorem dX4_addMessage_12 : decode cX4_addMessage 12 = .ok (.iconst (-1), 1) := by decide +kernel
theorem dX4_addMessage_13 : decode cX4_addMessage 13 = .ok (.ireturn, 1) := by decide +kernel
theorem dX4_addMessage_14 : decode cX4_addMessage 14 = .ok (.iload_n 2, 1) := by decide +kernel
theorem dX4_addMessage_15 : decode cX4_addMessage 15 = .ok (.sipush 128, 3) := by decide +kernel
theorem dX4_addMessage_18 : decode cX4_addMessage 18 = .ok (.invokestatic 78, 3) := by decide +kernel
theorem dX4_addMessage_21 : decode cX4_addMessage 21 = .ok (.ifCond .eq 13, 3) := by decide +kernel
theorem dX4_addMessage_24 : decode cX4_addMessage 24 = .ok (.iload_n 3, 1) := by decide +kernel
theorem dX4_addMessage_25 : decode cX4_addMessage 25 = .ok (.sipush 256, 3) := by decide +kernel
theorem dX4_addMessage_28 : decode cX4_addMessage 28 = .ok (.invokestatic 78, 3) := by decide +kernel
theorem dX4_addMessage_31 : decode cX4_addMessage 31 = .ok (.ifCond .ne 6, 3) := by decide +kernel
theorem dX4_addMessage_34 : decode cX4_addMessage 34 = .ok (.bipush (-2), 2) := by decide +kernel
theorem dX4_addMessage_36 : decode cX4_addMessage 36 = .ok (.ireturn, 1) := by decide +kernel
theorem dX4_addMessage_37 : decode cX4_addMessage 37 = .ok (.iload 4, 2) := by decide +kernel
theorem dX4_addMessage_39 : decode cX4_addMessage 39 = .ok (.bipush (-5), 2) := by decide +kernel
theorem dX4_addMessage_41 : decode cX4_addMessage 41 = .ok (.if_icmp .eq 17, 3) := by decide +kernel
theorem dX4_addMessage_44 : decode cX4_addMessage 44 = .ok (.iload 4, 2) := by decide +kernel
theorem dX4_addMessage_46 : decode cX4_addMessage 46 = .ok (.sipush 256, 3) := by decide +kernel
theorem dX4_addMessage_49 : decode cX4_addMessage 49 = .ok (.invokestatic 78, 3) := by decide +kernel
theorem dX4_addMessage_52 : decode cX4_addMessage 52 = .ok (.ifCond .ne 6, 3) := by decide +kernel
theorem dX4_addMessage_55 : decode cX4_addMessage 55 = .ok (.bipush (-2), 2) := by decide +kernel
theorem dX4_addMessage_57 : decode cX4_addMessage 57 = .ok (.ireturn, 1) := by decide +kernel
theorem dX4_addMessage_58 : decode cX4_addMessage 58 = .ok (.aload 5, 2) := by decide +kernel
theorem dX4_addMessage_60 : decode cX4_addMessage 60 = .ok (.getfield 82, 3) := by decide +kernel
theorem dX4_addMessage_63 : decode cX4_addMessage 63 = .ok (.iconst 5, 1) := by decide +kernel
theorem dX4_addMessage_64 : decode cX4_addMessage 64 = .ok (.if_icmp .lt 6, 3) := by decide +kernel
theorem dX4_addMessage_67 : decode cX4_addMessage 67 = .ok (.bipush (-3), 2) := by decide +kernel
theorem dX4_addMessage_69 : decode cX4_addMessage 69 = .ok (.ireturn, 1) := by decide +kernel
theorem dX4_addMessage_70 : decode cX4_addMessage 70 = .ok (.aload 5, 2) := by decide +kernel
theorem dX4_addMessage_72 : decode cX4_addMessage 72 = .ok (.iload_n 2, 1) := by decide +kernel
theorem dX4_addMessage_73 : decode cX4_addMessage 73 = .ok (.iload_n 3, 1) := by decide +kernel
theorem dX4_addMessage_74 : decode cX4_addMessage 74 = .ok (.iload 4, 2) := by decide +kernel
theorem dX4_addMessage_76 : decode cX4_addMessage 76 = .ok (.invokevirtual 85, 3) := by decide +kernel
theorem dX4_addMessage_79 : decode cX4_addMessage 79 = .ok (.aload 5, 2) := by decide +kernel
theorem dX4_addMessage_81 : decode cX4_addMessage 81 = .ok (.getfield 82, 3) := by decide +kernel
theorem dX4_addMessage_84 : decode cX4_addMessage 84 = .ok (.ireturn, 1) := by decide +kernel
theorem dX4_dropLast_0 : decode cX4_dropLast 0 = .ok (.aload_n 0, 1) := by decide +kernel
theorem dX4_dropLast_1 : decode cX4_dropLast 1 = .ok (.iload_n 1, 1) := by decide +kernel
theorem dX4_dropLast_2 : decode cX4_dropLast 2 = .ok (.invokevirtual 74, 3) := by decide +kernel
theorem dX4_dropLast_5 : decode cX4_dropLast 5 = .ok (.astore_n 2, 1) := by decide +kernel
theorem dX4_dropLast_6 : decode cX4_dropLast 6 = .ok (.aload_n 2, 1) := by decide +kernel
theorem dX4_dropLast_7 : decode cX4_dropLast 7 = .ok (.ifnonnull 5, 3) := by decide +kernel
theorem dX4_dropLast_10 : decode cX4_dropLast 10 = .ok (.iconst (-1), 1) := by decide +kernel
theorem dX4_dropLast_11 : decode cX4_dropLast 11 = .ok (.ireturn, 1) := by decide +kernel
theorem dX4_dropLast_12 : decode cX4_dropLast 12 = .ok (.aload_n 2, 1) := by decide +kernel
theorem dX4_dropLast_13 : decode cX4_dropLast 13 = .ok (.getfield 82, 3) := by decide +kernel
theorem dX4_dropLast_16 : decode cX4_dropLast 16 = .ok (.iconst 1, 1) := by decide +kernel
theorem dX4_dropLast_17 : decode cX4_dropLast 17 = .ok (.if_icmp .ne 13, 3) := by decide +kernel
theorem dX4_dropLast_20 : decode cX4_dropLast 20 = .ok (.aload_n 2, 1) := by decide +kernel
theorem dX4_dropLast_21 : decode cX4_dropLast 21 = .ok (.getfield 89, 3) := by decide +kernel
theorem dX4_dropLast_24 : decode cX4_dropLast 24 = .ok (.ifCond .eq 6, 3) := by decide +kernel
theorem dX4_dropLast_27 : decode cX4_dropLast 27 = .ok (.bipush (-4), 2) := by decide +kernel
theorem dX4_dropLast_29 : decode cX4_dropLast 29 = .ok (.ireturn, 1) := by decide +kernel
theorem dX4_dropLast_30 : decode cX4_dropLast 30 = .ok (.aload_n 2, 1) := by decide +kernel
theorem dX4_dropLast_31 : decode cX4_dropLast 31 = .ok (.getfield 82, 3) := by decide +kernel
theorem dX4_dropLast_34 : decode cX4_dropLast 34 = .ok (.ifCond .ne 6, 3) := by decide +kernel
theorem dX4_dropLast_37 : decode cX4_dropLast 37 = .ok (.bipush (-5), 2) := by decide +kernel
theorem dX4_dropLast_39 : decode cX4_dropLast 39 = .ok (.ireturn, 1) := by decide +kernel
theorem dX4_dropLast_40 : decode cX4_dropLast 40 = .ok (.aload_n 2, 1) := by decide +kernel
theorem dX4_dropLast_41 : decode cX4_dropLast 41 = .ok (.invokevirtual 93, 3) := by decide +kernel
theorem dX4_dropLast_44 : decode cX4_dropLast 44 = .ok (.aload_n 2, 1) := by decide +kernel
theorem dX4_dropLast_45 : decode cX4_dropLast 45 = .ok (.getfield 82, 3) := by decide +kernel
theorem dX4_dropLast_48 : decode cX4_dropLast 48 = .ok (.ireturn, 1) := by decide +kernel
theorem dX4_giveAddress_0 : decode cX4_giveAddress 0 = .ok (.aload_n 0, 1) := by decide +kernel
theorem dX4_giveAddress_1 : decode cX4_giveAddress 1 = .ok (.iload_n 1, 1) := by decide +kernel
theorem dX4_giveAddress_2 : decode cX4_giveAddress 2 = .ok (.invokevirtual 96, 3) := by decide +kernel
theorem dX4_giveAddress_5 : decode cX4_giveAddress 5 = .ok (.astore_n 3, 1) := by decide +kernel
theorem dX4_giveAddress_6 : decode cX4_giveAddress 6 = .ok (.aload_n 3, 1) := by decide +kernel
theorem dX4_giveAddress_7 : decode cX4_giveAddress 7 = .ok (.ifnonnull 5, 3) := by decide +kernel
theorem dX4_giveAddress_10 : decode cX4_giveAddress 10 = .ok (.iconst (-1), 1) := by decide +kernel
theorem dX4_giveAddress_11 : decode cX4_giveAddress 11 = .ok (.ireturn, 1) := by decide +kernel
theorem dX4_giveAddress_12 : decode cX4_giveAddress 12 = .ok (.iload_n 2, 1) := by decide +kernel
theorem dX4_giveAddress_13 : decode cX4_giveAddress 13 = .ok (.bipush (-5), 2) := by decide +kernel
theorem dX4_giveAddress_15 : decode cX4_giveAddress 15 = .ok (.if_icmp .eq 16, 3) := by decide +kernel
theorem dX4_giveAddress_18 : decode cX4_giveAddress 18 = .ok (.iload_n 2, 1) := by decide +kernel
theorem dX4_giveAddress_19 : decode cX4_giveAddress 19 = .ok (.sipush 128, 3) := by decide +kernel
theorem dX4_giveAddress_22 : decode cX4_giveAddress 22 = .ok (.invokestatic 78, 3) := by decide +kernel
theorem dX4_giveAddress_25 : decode cX4_giveAddress 25 = .ok (.ifCond .ne 6, 3) := by decide +kernel
theorem dX4_giveAddress_28 : decode cX4_giveAddress 28 = .ok (.bipush (-2), 2) := by decide +kernel
theorem dX4_giveAddress_30 : decode cX4_giveAddress 30 = .ok (.ireturn, 1) := by decide +kernel
theorem dX4_giveAddress_31 : decode cX4_giveAddress 31 = .ok (.aload_n 0, 1) := by decide +kernel
theorem dX4_giveAddress_32 : decode cX4_giveAddress 32 = .ok (.iload_n 2, 1) := by decide +kernel
theorem dX4_giveAddress_33 : decode cX4_giveAddress 33 = .ok (.invokevirtual 100, 3) := by decide +kernel
theorem dX4_giveAddress_36 : decode cX4_giveAddress 36 = .ok (.astore 4, 2) := by decide +kernel
theorem dX4_giveAddress_38 : decode cX4_giveAddress 38 = .ok (.aload 4, 2) := by decide +kernel
theorem dX4_giveAddress_40 : decode cX4_giveAddress 40 = .ok (.ifnull 12, 3) := by decide +kernel
theorem dX4_giveAddress_43 : decode cX4_giveAddress 43 = .ok (.aload 4, 2) := by decide +kernel
theorem dX4_giveAddress_45 : decode cX4_giveAddress 45 = .ok (.aload_n 3, 1) := by decide +kernel
theorem dX4_giveAddress_46 : decode cX4_giveAddress 46 = .ok (.if_acmp .eq 6, 3) := by decide +kernel
theorem dX4_giveAddress_49 : decode cX4_giveAddress 49 = .ok (.bipush (-4), 2) := by decide +kernel
theorem dX4_giveAddress_51 : decode cX4_giveAddress 51 = .ok (.ireturn, 1) := by decide +kernel
theorem dX4_giveAddress_52 : decode cX4_giveAddress 52 = .ok (.aload_n 3, 1) := by decide +kernel
theorem dX4_giveAddress_53 : decode cX4_giveAddress 53 = .ok (.getfield 103, 3) := by decide +kernel
theorem dX4_giveAddress_56 : decode cX4_giveAddress 56 = .ok (.iload_n 2, 1) := by decide +kernel
theorem dX4_giveAddress_57 : decode cX4_giveAddress 57 = .ok (.if_icmp .ne 6, 3) := by decide +kernel
theorem dX4_giveAddress_60 : decode cX4_giveAddress 60 = .ok (.bipush (-5), 2) := by decide +kernel
theorem dX4_giveAddress_62 : decode cX4_giveAddress 62 = .ok (.ireturn, 1) := by decide +kernel
theorem dX4_giveAddress_63 : decode cX4_giveAddress 63 = .ok (.aload_n 3, 1) := by decide +kernel
theorem dX4_giveAddress_64 : decode cX4_giveAddress 64 = .ok (.iload_n 2, 1) := by decide +kernel
theorem dX4_giveAddress_65 : decode cX4_giveAddress 65 = .ok (.putfield 103, 3) := by decide +kernel
theorem dX4_giveAddress_68 : decode cX4_giveAddress 68 = .ok (.aload_n 0, 1) := by decide +kernel
theorem dX4_giveAddress_69 : decode cX4_giveAddress 69 = .ok (.invokevirtual 106, 3) := by decide +kernel
theorem dX4_giveAddress_72 : decode cX4_giveAddress 72 = .ok (.ireturn, 1) := by decide +kernel
theorem dX4_giveHold_0 : decode cX4_giveHold 0 = .ok (.aload_n 0, 1) := by decide +kernel
theorem dX4_giveHold_1 : decode cX4_giveHold 1 = .ok (.iload_n 1, 1) := by decide +kernel
theorem dX4_giveHold_2 : decode cX4_giveHold 2 = .ok (.invokevirtual 96, 3) := by decide +kernel
theorem dX4_giveHold_5 : decode cX4_giveHold 5 = .ok (.astore_n 3, 1) := by decide +kernel
theorem dX4_giveHold_6 : decode cX4_giveHold 6 = .ok (.aload_n 3, 1) := by decide +kernel
theorem dX4_giveHold_7 : decode cX4_giveHold 7 = .ok (.ifnonnull 5, 3) := by decide +kernel
theorem dX4_giveHold_10 : decode cX4_giveHold 10 = .ok (.iconst (-1), 1) := by decide +kernel
theorem dX4_giveHold_11 : decode cX4_giveHold 11 = .ok (.ireturn, 1) := by decide +kernel
theorem dX4_giveHold_12 : decode cX4_giveHold 12 = .ok (.iload_n 2, 1) := by decide +kernel
theorem dX4_giveHold_13 : decode cX4_giveHold 13 = .ok (.ifCond .lt 9, 3) := by decide +kernel
theorem dX4_giveHold_16 : decode cX4_giveHold 16 = .ok (.iload_n 2, 1) := by decide +kernel
theorem dX4_giveHold_17 : decode cX4_giveHold 17 = .ok (.bipush 9, 2) := by decide +kernel
theorem dX4_giveHold_19 : decode cX4_giveHold 19 = .ok (.if_icmp .le 6, 3) := by decide +kernel
theorem dX4_giveHold_22 : decode cX4_giveHold 22 = .ok (.bipush (-2), 2) := by decide +kernel
theorem dX4_giveHold_24 : decode cX4_giveHold 24 = .ok (.ireturn, 1) := by decide +kernel
theorem dX4_giveHold_25 : decode cX4_giveHold 25 = .ok (.aload_n 3, 1) := by decide +kernel
theorem dX4_giveHold_26 : decode cX4_giveHold 26 = .ok (.getfield 110, 3) := by decide +kernel
theorem dX4_giveHold_29 : decode cX4_giveHold 29 = .ok (.iload_n 2, 1) := by decide +kernel
theorem dX4_giveHold_30 : decode cX4_giveHold 30 = .ok (.if_icmp .ne 6, 3) := by decide +kernel
theorem dX4_giveHold_33 : decode cX4_giveHold 33 = .ok (.bipush (-5), 2) := by decide +kernel
theorem dX4_giveHold_35 : decode cX4_giveHold 35 = .ok (.ireturn, 1) := by decide +kernel
theorem dX4_giveHold_36 : decode cX4_giveHold 36 = .ok (.aload_n 3, 1) := by decide +kernel
theorem dX4_giveHold_37 : decode cX4_giveHold 37 = .ok (.getfield 110, 3) := by decide +kernel
theorem dX4_giveHold_40 : decode cX4_giveHold 40 = .ok (.istore 4, 2) := by decide +kernel
theorem dX4_giveHold_42 : decode cX4_giveHold 42 = .ok (.aload_n 3, 1) := by decide +kernel
theorem dX4_giveHold_43 : decode cX4_giveHold 43 = .ok (.iload_n 2, 1) := by decide +kernel
theorem dX4_giveHold_44 : decode cX4_giveHold 44 = .ok (.putfield 110, 3) := by decide +kernel
theorem dX4_giveHold_47 : decode cX4_giveHold 47 = .ok (.iload 4, 2) := by decide +kernel
theorem dX4_giveHold_49 : decode cX4_giveHold 49 = .ok (.ireturn, 1) := by decide +kernel
theorem dX4_makeStuck_0 : decode cX4_makeStuck 0 = .ok (.aload_n 0, 1) := by decide +kernel
theorem dX4_makeStuck_1 : decode cX4_makeStuck 1 = .ok (.iload_n 1, 1) := by decide +kernel
theorem dX4_makeStuck_2 : decode cX4_makeStuck 2 = .ok (.invokevirtual 96, 3) := by decide +kernel
theorem dX4_makeStuck_5 : decode cX4_makeStuck 5 = .ok (.astore_n 3, 1) := by decide +kernel
theorem dX4_makeStuck_6 : decode cX4_makeStuck 6 = .ok (.aload_n 3, 1) := by decide +kernel
theorem dX4_makeStuck_7 : decode cX4_makeStuck 7 = .ok (.ifnonnull 5, 3) := by decide +kernel
theorem dX4_makeStuck_10 : decode cX4_makeStuck 10 = .ok (.iconst (-1), 1) := by decide +kernel
theorem dX4_makeStuck_11 : decode cX4_makeStuck 11 = .ok (.ireturn, 1) := by decide +kernel
theorem dX4_makeStuck_12 : decode cX4_makeStuck 12 = .ok (.iload_n 2, 1) := by decide +kernel
theorem dX4_makeStuck_13 : decode cX4_makeStuck 13 = .ok (.iconst 1, 1) := by decide +kernel
theorem dX4_makeStuck_14 : decode cX4_makeStuck 14 = .ok (.if_icmp .lt 9, 3) := by decide +kernel
theorem dX4_makeStuck_17 : decode cX4_makeStuck 17 = .ok (.iload_n 2, 1) := by decide +kernel
theorem dX4_makeStuck_18 : decode cX4_makeStuck 18 = .ok (.bipush 99, 2) := by decide +kernel
theorem dX4_makeStuck_20 : decode cX4_makeStuck 20 = .ok (.if_icmp .le 6, 3) := by decide +kernel
theorem dX4_makeStuck_23 : decode cX4_makeStuck 23 = .ok (.bipush (-2), 2) := by decide +kernel
theorem dX4_makeStuck_25 : decode cX4_makeStuck 25 = .ok (.ireturn, 1) := by decide +kernel
theorem dX4_makeStuck_26 : decode cX4_makeStuck 26 = .ok (.aload_n 3, 1) := by decide +kernel
theorem dX4_makeStuck_27 : decode cX4_makeStuck 27 = .ok (.iload_n 2, 1) := by decide +kernel
theorem dX4_makeStuck_28 : decode cX4_makeStuck 28 = .ok (.putfield 113, 3) := by decide +kernel
theorem dX4_makeStuck_31 : decode cX4_makeStuck 31 = .ok (.aload_n 0, 1) := by decide +kernel
theorem dX4_makeStuck_32 : decode cX4_makeStuck 32 = .ok (.invokevirtual 116, 3) := by decide +kernel
theorem dX4_makeStuck_35 : decode cX4_makeStuck 35 = .ok (.ireturn, 1) := by decide +kernel
theorem dX4_changeSetting_0 : decode cX4_changeSetting 0 = .ok (.iload_n 1, 1) := by decide +kernel
theorem dX4_changeSetting_1 : decode cX4_changeSetting 1 = .ok (.iconst 3, 1) := by decide +kernel
theorem dX4_changeSetting_2 : decode cX4_changeSetting 2 = .ok (.invokestatic 78, 3) := by decide +kernel
theorem dX4_changeSetting_5 : decode cX4_changeSetting 5 = .ok (.ifCond .ne 5, 3) := by decide +kernel
theorem dX4_changeSetting_8 : decode cX4_changeSetting 8 = .ok (.iconst (-1), 1) := by decide +kernel
theorem dX4_changeSetting_9 : decode cX4_changeSetting 9 = .ok (.ireturn, 1) := by decide +kernel
theorem dX4_changeSetting_10 : decode cX4_changeSetting 10 = .ok (.iload_n 2, 1) := by decide +kernel
theorem dX4_changeSetting_11 : decode cX4_changeSetting 11 = .ok (.iconst 1, 1) := by decide +kernel
theorem dX4_changeSetting_12 : decode cX4_changeSetting 12 = .ok (.if_icmp .lt 12, 3) := by decide +kernel
theorem dX4_changeSetting_15 : decode cX4_changeSetting 15 = .ok (.iload_n 2, 1) := by decide +kernel
theorem dX4_changeSetting_16 : decode cX4_changeSetting 16 = .ok (.getstatic 119, 3) := by decide +kernel
theorem dX4_changeSetting_19 : decode cX4_changeSetting 19 = .ok (.iload_n 1, 1) := by decide +kernel
theorem dX4_changeSetting_20 : decode cX4_changeSetting 20 = .ok (.iaload, 1) := by decide +kernel
theorem dX4_changeSetting_21 : decode cX4_changeSetting 21 = .ok (.if_icmp .le 6, 3) := by decide +kernel
theorem dX4_changeSetting_24 : decode cX4_changeSetting 24 = .ok (.bipush (-2), 2) := by decide +kernel
theorem dX4_changeSetting_26 : decode cX4_changeSetting 26 = .ok (.ireturn, 1) := by decide +kernel
theorem dX4_changeSetting_27 : decode cX4_changeSetting 27 = .ok (.aload_n 0, 1) := by decide +kernel
theorem dX4_changeSetting_28 : decode cX4_changeSetting 28 = .ok (.getfield 23, 3) := by decide +kernel
theorem dX4_changeSetting_31 : decode cX4_changeSetting 31 = .ok (.iload_n 1, 1) := by decide +kernel
theorem dX4_changeSetting_32 : decode cX4_changeSetting 32 = .ok (.iaload, 1) := by decide +kernel
theorem dX4_changeSetting_33 : decode cX4_changeSetting 33 = .ok (.iload_n 2, 1) := by decide +kernel
theorem dX4_changeSetting_34 : decode cX4_changeSetting 34 = .ok (.if_icmp .ne 6, 3) := by decide +kernel
theorem dX4_changeSetting_37 : decode cX4_changeSetting 37 = .ok (.bipush (-5), 2) := by decide +kernel
theorem dX4_changeSetting_39 : decode cX4_changeSetting 39 = .ok (.ireturn, 1) := by decide +kernel
theorem dX4_changeSetting_40 : decode cX4_changeSetting 40 = .ok (.aload_n 0, 1) := by decide +kernel
theorem dX4_changeSetting_41 : decode cX4_changeSetting 41 = .ok (.getfield 23, 3) := by decide +kernel
theorem dX4_changeSetting_44 : decode cX4_changeSetting 44 = .ok (.iload_n 1, 1) := by decide +kernel
theorem dX4_changeSetting_45 : decode cX4_changeSetting 45 = .ok (.iaload, 1) := by decide +kernel
theorem dX4_changeSetting_46 : decode cX4_changeSetting 46 = .ok (.istore_n 3, 1) := by decide +kernel
theorem dX4_changeSetting_47 : decode cX4_changeSetting 47 = .ok (.aload_n 0, 1) := by decide +kernel
theorem dX4_changeSetting_48 : decode cX4_changeSetting 48 = .ok (.getfield 23, 3) := by decide +kernel
theorem dX4_changeSetting_51 : decode cX4_changeSetting 51 = .ok (.iload_n 1, 1) := by decide +kernel
theorem dX4_changeSetting_52 : decode cX4_changeSetting 52 = .ok (.iload_n 2, 1) := by decide +kernel
theorem dX4_changeSetting_53 : decode cX4_changeSetting 53 = .ok (.iastore, 1) := by decide +kernel
theorem dX4_changeSetting_54 : decode cX4_changeSetting 54 = .ok (.iload_n 3, 1) := by decide +kernel
theorem dX4_changeSetting_55 : decode cX4_changeSetting 55 = .ok (.ireturn, 1) := by decide +kernel
theorem dX4_passTicks_0 : decode cX4_passTicks 0 = .ok (.iload_n 1, 1) := by decide +kernel
theorem dX4_passTicks_1 : decode cX4_passTicks 1 = .ok (.iconst 1, 1) := by decide +kernel
theorem dX4_passTicks_2 : decode cX4_passTicks 2 = .ok (.if_icmp .lt 10, 3) := by decide +kernel
theorem dX4_passTicks_5 : decode cX4_passTicks 5 = .ok (.iload_n 1, 1) := by decide +kernel
theorem dX4_passTicks_6 : decode cX4_passTicks 6 = .ok (.sipush 300, 3) := by decide +kernel
theorem dX4_passTicks_9 : decode cX4_passTicks 9 = .ok (.if_icmp .le 6, 3) := by decide +kernel
theorem dX4_passTicks_12 : decode cX4_passTicks 12 = .ok (.bipush (-2), 2) := by decide +kernel
theorem dX4_passTicks_14 : decode cX4_passTicks 14 = .ok (.ireturn, 1) := by decide +kernel
theorem dX4_passTicks_15 : decode cX4_passTicks 15 = .ok (.iload_n 1, 1) := by decide +kernel
theorem dX4_passTicks_16 : decode cX4_passTicks 16 = .ok (.ldc 122, 2) := by decide +kernel
theorem dX4_passTicks_18 : decode cX4_passTicks 18 = .ok (.aload_n 0, 1) := by decide +kernel
theorem dX4_passTicks_19 : decode cX4_passTicks 19 = .ok (.getfield 52, 3) := by decide +kernel
theorem dX4_passTicks_22 : decode cX4_passTicks 22 = .ok (.isub, 1) := by decide +kernel
theorem dX4_passTicks_23 : decode cX4_passTicks 23 = .ok (.if_icmp .le 6, 3) := by decide +kernel
theorem dX4_passTicks_26 : decode cX4_passTicks 26 = .ok (.bipush (-3), 2) := by decide +kernel
theorem dX4_passTicks_28 : decode cX4_passTicks 28 = .ok (.ireturn, 1) := by decide +kernel
theorem dX4_passTicks_29 : decode cX4_passTicks 29 = .ok (.aload_n 0, 1) := by decide +kernel
theorem dX4_passTicks_30 : decode cX4_passTicks 30 = .ok (.invokevirtual 123, 3) := by decide +kernel
theorem dX4_passTicks_33 : decode cX4_passTicks 33 = .ok (.istore_n 2, 1) := by decide +kernel
theorem dX4_passTicks_34 : decode cX4_passTicks 34 = .ok (.iconst 0, 1) := by decide +kernel
theorem dX4_passTicks_35 : decode cX4_passTicks 35 = .ok (.istore_n 3, 1) := by decide +kernel
theorem dX4_passTicks_36 : decode cX4_passTicks 36 = .ok (.iload_n 3, 1) := by decide +kernel
theorem dX4_passTicks_37 : decode cX4_passTicks 37 = .ok (.iload_n 1, 1) := by decide +kernel
theorem dX4_passTicks_38 : decode cX4_passTicks 38 = .ok (.if_icmp .ge 13, 3) := by decide +kernel
theorem dX4_passTicks_41 : decode cX4_passTicks 41 = .ok (.aload_n 0, 1) := by decide +kernel
theorem dX4_passTicks_42 : decode cX4_passTicks 42 = .ok (.invokevirtual 126, 3) := by decide +kernel
theorem dX4_passTicks_45 : decode cX4_passTicks 45 = .ok (.iinc 3 1, 3) := by decide +kernel
theorem dX4_passTicks_48 : decode cX4_passTicks 48 = .ok (.goto (-12), 3) := by decide +kernel
theorem dX4_passTicks_51 : decode cX4_passTicks 51 = .ok (.aload_n 0, 1) := by decide +kernel
theorem dX4_passTicks_52 : decode cX4_passTicks 52 = .ok (.invokevirtual 123, 3) := by decide +kernel
theorem dX4_passTicks_55 : decode cX4_passTicks 55 = .ok (.iload_n 2, 1) := by decide +kernel
theorem dX4_passTicks_56 : decode cX4_passTicks 56 = .ok (.isub, 1) := by decide +kernel
theorem dX4_passTicks_57 : decode cX4_passTicks 57 = .ok (.ireturn, 1) := by decide +kernel
theorem dX4_nextTick_0 : decode cX4_nextTick 0 = .ok (.aload_n 0, 1) := by decide +kernel
theorem dX4_nextTick_1 : decode cX4_nextTick 1 = .ok (.invokevirtual 116, 3) := by decide +kernel
theorem dX4_nextTick_4 : decode cX4_nextTick 4 = .ok (.ifCond .le 5, 3) := by decide +kernel
theorem dX4_nextTick_7 : decode cX4_nextTick 7 = .ok (.iconst 4, 1) := by decide +kernel
theorem dX4_nextTick_8 : decode cX4_nextTick 8 = .ok (.ireturn, 1) := by decide +kernel
theorem dX4_nextTick_9 : decode cX4_nextTick 9 = .ok (.aload_n 0, 1) := by decide +kernel
theorem dX4_nextTick_10 : decode cX4_nextTick 10 = .ok (.getfield 59, 3) := by decide +kernel
theorem dX4_nextTick_13 : decode cX4_nextTick 13 = .ok (.ifCond .le 5, 3) := by decide +kernel
theorem dX4_nextTick_16 : decode cX4_nextTick 16 = .ok (.iconst 3, 1) := by decide +kernel
theorem dX4_nextTick_17 : decode cX4_nextTick 17 = .ok (.ireturn, 1) := by decide +kernel
theorem dX4_nextTick_18 : decode cX4_nextTick 18 = .ok (.aload_n 0, 1) := by decide +kernel
theorem dX4_nextTick_19 : decode cX4_nextTick 19 = .ok (.invokevirtual 129, 3) := by decide +kernel
theorem dX4_nextTick_22 : decode cX4_nextTick 22 = .ok (.ifCond .ne 5, 3) := by decide +kernel
theorem dX4_nextTick_25 : decode cX4_nextTick 25 = .ok (.iconst 0, 1) := by decide +kernel
theorem dX4_nextTick_26 : decode cX4_nextTick 26 = .ok (.ireturn, 1) := by decide +kernel
theorem dX4_nextTick_27 : decode cX4_nextTick 27 = .ok (.aload_n 0, 1) := by decide +kernel
theorem dX4_nextTick_28 : decode cX4_nextTick 28 = .ok (.getfield 56, 3) := by decide +kernel
theorem dX4_nextTick_31 : decode cX4_nextTick 31 = .ok (.invokestatic 132, 3) := by decide +kernel
theorem dX4_nextTick_34 : decode cX4_nextTick 34 = .ok (.ifCond .eq 7, 3) := by decide +kernel
theorem dX4_nextTick_37 : decode cX4_nextTick 37 = .ok (.iconst 2, 1) := by decide +kernel
theorem dX4_nextTick_38 : decode cX4_nextTick 38 = .ok (.goto 4, 3) := by decide +kernel
theorem dX4_nextTick_41 : decode cX4_nextTick 41 = .ok (.iconst 1, 1) := by decide +kernel
theorem dX4_nextTick_42 : decode cX4_nextTick 42 = .ok (.ireturn, 1) := by decide +kernel
theorem dX4_tick_0 : decode cX4_tick 0 = .ok (.aload_n 0, 1) := by decide +kernel
theorem dX4_tick_1 : decode cX4_tick 1 = .ok (.invokevirtual 136, 3) := by decide +kernel
theorem dX4_tick_4 : decode cX4_tick 4 = .ok (.istore_n 1, 1) := by decide +kernel
theorem dX4_tick_5 : decode cX4_tick 5 = .ok (.aload_n 0, 1) := by decide +kernel
theorem dX4_tick_6 : decode cX4_tick 6 = .ok (.dup, 1) := by decide +kernel
theorem dX4_tick_7 : decode cX4_tick 7 = .ok (.getfield 52, 3) := by decide +kernel
theorem dX4_tick_10 : decode cX4_tick 10 = .ok (.iconst 1, 1) := by decide +kernel
theorem dX4_tick_11 : decode cX4_tick 11 = .ok (.iadd, 1) := by decide +kernel
theorem dX4_tick_12 : decode cX4_tick 12 = .ok (.putfield 52, 3) := by decide +kernel
theorem dX4_tick_15 : decode cX4_tick 15 = .ok (.iload_n 1, 1) := by decide +kernel
theorem dX4_tick_16 : decode cX4_tick 16 = .ok (.iconst 4, 1) := by decide +kernel
theorem dX4_tick_17 : decode cX4_tick 17 = .ok (.if_icmp .eq 8, 3) := by decide +kernel
theorem dX4_tick_20 : decode cX4_tick 20 = .ok (.aload_n 0, 1) := by decide +kernel
theorem dX4_tick_21 : decode cX4_tick 21 = .ok (.iconst 0, 1) := by decide +kernel
theorem dX4_tick_22 : decode cX4_tick 22 = .ok (.putfield 65, 3) := by decide +kernel
theorem dX4_tick_25 : decode cX4_tick 25 = .ok (.iload_n 1, 1) := by decide +kernel
theorem dX4_tick_26 : decode cX4_tick 26 = .ok (.tableswitch 64 1 4 #[50, 57, 37, 30], 30) := by decide +kernel
theorem dX4_tick_56 : decode cX4_tick 56 = .ok (.aload_n 0, 1) := by decide +kernel
theorem dX4_tick_57 : decode cX4_tick 57 = .ok (.invokevirtual 139, 3) := by decide +kernel
theorem dX4_tick_60 : decode cX4_tick 60 = .ok (.goto 34, 3) := by decide +kernel
theorem dX4_tick_63 : decode cX4_tick 63 = .ok (.aload_n 0, 1) := by decide +kernel
theorem dX4_tick_64 : decode cX4_tick 64 = .ok (.dup, 1) := by decide +kernel
theorem dX4_tick_65 : decode cX4_tick 65 = .ok (.getfield 59, 3) := by decide +kernel
theorem dX4_tick_68 : decode cX4_tick 68 = .ok (.iconst 1, 1) := by decide +kernel
theorem dX4_tick_69 : decode cX4_tick 69 = .ok (.isub, 1) := by decide +kernel
theorem dX4_tick_70 : decode cX4_tick 70 = .ok (.putfield 59, 3) := by decide +kernel
theorem dX4_tick_73 : decode cX4_tick 73 = .ok (.goto 21, 3) := by decide +kernel
theorem dX4_tick_76 : decode cX4_tick 76 = .ok (.aload_n 0, 1) := by decide +kernel
theorem dX4_tick_77 : decode cX4_tick 77 = .ok (.invokevirtual 142, 3) := by decide +kernel
theorem dX4_tick_80 : decode cX4_tick 80 = .ok (.goto 14, 3) := by decide +kernel
theorem dX4_tick_83 : decode cX4_tick 83 = .ok (.aload_n 0, 1) := by decide +kernel
theorem dX4_tick_84 : decode cX4_tick 84 = .ok (.invokevirtual 145, 3) := by decide +kernel
theorem dX4_tick_87 : decode cX4_tick 87 = .ok (.goto 7, 3) := by decide +kernel
theorem dX4_tick_90 : decode cX4_tick 90 = .ok (.aload_n 0, 1) := by decide +kernel
theorem dX4_tick_91 : decode cX4_tick 91 = .ok (.invokevirtual 148, 3) := by decide +kernel
theorem dX4_tick_94 : decode cX4_tick 94 = .ok (.return_, 1) := by decide +kernel
theorem dX4_stuckTick_0 : decode cX4_stuckTick 0 = .ok (.aload_n 0, 1) := by decide +kernel
theorem dX4_stuckTick_1 : decode cX4_stuckTick 1 = .ok (.iconst 0, 1) := by decide +kernel
theorem dX4_stuckTick_2 : decode cX4_stuckTick 2 = .ok (.putfield 62, 3) := by decide +kernel
theorem dX4_stuckTick_5 : decode cX4_stuckTick 5 = .ok (.aload_n 0, 1) := by decide +kernel
theorem dX4_stuckTick_6 : decode cX4_stuckTick 6 = .ok (.getfield 59, 3) := by decide +kernel
theorem dX4_stuckTick_9 : decode cX4_stuckTick 9 = .ok (.ifCond .ne 30, 3) := by decide +kernel
theorem dX4_stuckTick_12 : decode cX4_stuckTick 12 = .ok (.aload_n 0, 1) := by decide +kernel
theorem dX4_stuckTick_13 : decode cX4_stuckTick 13 = .ok (.getfield 56, 3) := by decide +kernel
theorem dX4_stuckTick_16 : decode cX4_stuckTick 16 = .ok (.invokestatic 132, 3) := by decide +kernel
theorem dX4_stuckTick_19 : decode cX4_stuckTick 19 = .ok (.ifCond .ne 20, 3) := by decide +kernel
theorem dX4_stuckTick_22 : decode cX4_stuckTick 22 = .ok (.aload_n 0, 1) := by decide +kernel
theorem dX4_stuckTick_23 : decode cX4_stuckTick 23 = .ok (.aload_n 0, 1) := by decide +kernel
theorem dX4_stuckTick_24 : decode cX4_stuckTick 24 = .ok (.aload_n 0, 1) := by decide +kernel
theorem dX4_stuckTick_25 : decode cX4_stuckTick 25 = .ok (.invokevirtual 129, 3) := by decide +kernel
theorem dX4_stuckTick_28 : decode cX4_stuckTick 28 = .ok (.aload_n 0, 1) := by decide +kernel
theorem dX4_stuckTick_29 : decode cX4_stuckTick 29 = .ok (.getfield 56, 3) := by decide +kernel
theorem dX4_stuckTick_32 : decode cX4_stuckTick 32 = .ok (.iconst 1, 1) := by decide +kernel
theorem dX4_stuckTick_33 : decode cX4_stuckTick 33 = .ok (.invokevirtual 151, 3) := by decide +kernel
theorem dX4_stuckTick_36 : decode cX4_stuckTick 36 = .ok (.invokevirtual 155, 3) := by decide +kernel
theorem dX4_stuckTick_39 : decode cX4_stuckTick 39 = .ok (.aload_n 0, 1) := by decide +kernel
theorem dX4_stuckTick_40 : decode cX4_stuckTick 40 = .ok (.invokevirtual 159, 3) := by decide +kernel
theorem dX4_stuckTick_43 : decode cX4_stuckTick 43 = .ok (.aload_n 0, 1) := by decide +kernel
theorem dX4_stuckTick_44 : decode cX4_stuckTick 44 = .ok (.dup, 1) := by decide +kernel
theorem dX4_stuckTick_45 : decode cX4_stuckTick 45 = .ok (.getfield 65, 3) := by decide +kernel
theorem dX4_stuckTick_48 : decode cX4_stuckTick 48 = .ok (.iconst 1, 1) := by decide +kernel
theorem dX4_stuckTick_49 : decode cX4_stuckTick 49 = .ok (.iadd, 1) := by decide +kernel
theorem dX4_stuckTick_50 : decode cX4_stuckTick 50 = .ok (.putfield 65, 3) := by decide +kernel
theorem dX4_stuckTick_53 : decode cX4_stuckTick 53 = .ok (.aload_n 0, 1) := by decide +kernel
theorem dX4_stuckTick_54 : decode cX4_stuckTick 54 = .ok (.getfield 65, 3) := by decide +kernel
theorem dX4_stuckTick_57 : decode cX4_stuckTick 57 = .ok (.aload_n 0, 1) := by decide +kernel
theorem dX4_stuckTick_58 : decode cX4_stuckTick 58 = .ok (.iconst 2, 1) := by decide +kernel
theorem dX4_stuckTick_59 : decode cX4_stuckTick 59 = .ok (.invokevirtual 162, 3) := by decide +kernel
theorem dX4_stuckTick_62 : decode cX4_stuckTick 62 = .ok (.if_icmp .lt 7, 3) := by decide +kernel
theorem dX4_stuckTick_65 : decode cX4_stuckTick 65 = .ok (.iconst 1, 1) := by decide +kernel
theorem dX4_stuckTick_66 : decode cX4_stuckTick 66 = .ok (.goto 4, 3) := by decide +kernel
theorem dX4_stuckTick_69 : decode cX4_stuckTick 69 = .ok (.iconst 0, 1) := by decide +kernel
theorem dX4_stuckTick_70 : decode cX4_stuckTick 70 = .ok (.istore_n 1, 1) := by decide +kernel
theorem dX4_stuckTick_71 : decode cX4_stuckTick 71 = .ok (.aload_n 0, 1) := by decide +kernel
theorem dX4_stuckTick_72 : decode cX4_stuckTick 72 = .ok (.getfield 19, 3) := by decide +kernel
theorem dX4_stuckTick_75 : decode cX4_stuckTick 75 = .ok (.astore_n 2, 1) := by decide +kernel
theorem dX4_stuckTick_76 : decode cX4_stuckTick 76 = .ok (.aload_n 2, 1) := by decide +kernel
theorem dX4_stuckTick_77 : decode cX4_stuckTick 77 = .ok (.arraylength, 1) := by decide +kernel
theorem dX4_stuckTick_78 : decode cX4_stuckTick 78 = .ok (.istore_n 3, 1) := by decide +kernel
theorem dX4_stuckTick_79 : decode cX4_stuckTick 79 = .ok (.iconst 0, 1) := by decide +kernel
theorem dX4_stuckTick_80 : decode cX4_stuckTick 80 = .ok (.istore 4, 2) := by decide +kernel
theorem dX4_stuckTick_82 : decode cX4_stuckTick 82 = .ok (.iload 4, 2) := by decide +kernel
theorem dX4_stuckTick_84 : decode cX4_stuckTick 84 = .ok (.iload_n 3, 1) := by decide +kernel
theorem dX4_stuckTick_85 : decode cX4_stuckTick 85 = .ok (.if_icmp .ge 39, 3) := by decide +kernel
theorem dX4_stuckTick_88 : decode cX4_stuckTick 88 = .ok (.aload_n 2, 1) := by decide +kernel
theorem dX4_stuckTick_89 : decode cX4_stuckTick 89 = .ok (.iload 4, 2) := by decide +kernel
theorem dX4_stuckTick_91 : decode cX4_stuckTick 91 = .ok (.aaload, 1) := by decide +kernel
theorem dX4_stuckTick_92 : decode cX4_stuckTick 92 = .ok (.astore 5, 2) := by decide +kernel
theorem dX4_stuckTick_94 : decode cX4_stuckTick 94 = .ok (.aload 5, 2) := by decide +kernel
theorem dX4_stuckTick_96 : decode cX4_stuckTick 96 = .ok (.iload_n 1, 1) := by decide +kernel
theorem dX4_stuckTick_97 : decode cX4_stuckTick 97 = .ok (.ifCond .eq 7, 3) := by decide +kernel
theorem dX4_stuckTick_100 : decode cX4_stuckTick 100 = .ok (.iconst 0, 1) := by decide +kernel
theorem dX4_stuckTick_101 : decode cX4_stuckTick 101 = .ok (.goto 14, 3) := by decide +kernel
theorem dX4_stuckTick_104 : decode cX4_stuckTick 104 = .ok (.aload 5, 2) := by decide +kernel
theorem dX4_stuckTick_106 : decode cX4_stuckTick 106 = .ok (.getfield 113, 3) := by decide +kernel
theorem dX4_stuckTick_109 : decode cX4_stuckTick 109 = .ok (.iconst 1, 1) := by decide +kernel
theorem dX4_stuckTick_110 : decode cX4_stuckTick 110 = .ok (.isub, 1) := by decide +kernel
theorem dX4_stuckTick_111 : decode cX4_stuckTick 111 = .ok (.iconst 0, 1) := by decide +kernel
theorem dX4_stuckTick_112 : decode cX4_stuckTick 112 = .ok (.invokestatic 166, 3) := by decide +kernel
theorem dX4_stuckTick_115 : decode cX4_stuckTick 115 = .ok (.putfield 113, 3) := by decide +kernel
theorem dX4_stuckTick_118 : decode cX4_stuckTick 118 = .ok (.iinc 4 1, 3) := by decide +kernel
theorem dX4_stuckTick_121 : decode cX4_stuckTick 121 = .ok (.goto (-39), 3) := by decide +kernel
theorem dX4_stuckTick_124 : decode cX4_stuckTick 124 = .ok (.iload_n 1, 1) := by decide +kernel
theorem dX4_stuckTick_125 : decode cX4_stuckTick 125 = .ok (.ifCond .eq 18, 3) := by decide +kernel
theorem dX4_stuckTick_128 : decode cX4_stuckTick 128 = .ok (.aload_n 0, 1) := by decide +kernel
theorem dX4_stuckTick_129 : decode cX4_stuckTick 129 = .ok (.iconst 0, 1) := by decide +kernel
theorem dX4_stuckTick_130 : decode cX4_stuckTick 130 = .ok (.putfield 65, 3) := by decide +kernel
theorem dX4_stuckTick_133 : decode cX4_stuckTick 133 = .ok (.aload_n 0, 1) := by decide +kernel
theorem dX4_stuckTick_134 : decode cX4_stuckTick 134 = .ok (.dup, 1) := by decide +kernel
theorem dX4_stuckTick_135 : decode cX4_stuckTick 135 = .ok (.getfield 71, 3) := by decide +kernel
theorem dX4_stuckTick_138 : decode cX4_stuckTick 138 = .ok (.iconst 1, 1) := by decide +kernel
theorem dX4_stuckTick_139 : decode cX4_stuckTick 139 = .ok (.iadd, 1) := by decide +kernel
theorem dX4_stuckTick_140 : decode cX4_stuckTick 140 = .ok (.putfield 71, 3) := by decide +kernel
theorem dX4_stuckTick_143 : decode cX4_stuckTick 143 = .ok (.return_, 1) := by decide +kernel
theorem dX4_sendBit_0 : decode cX4_sendBit 0 = .ok (.aload_n 0, 1) := by decide +kernel
theorem dX4_sendBit_1 : decode cX4_sendBit 1 = .ok (.invokevirtual 129, 3) := by decide +kernel
theorem dX4_sendBit_4 : decode cX4_sendBit 4 = .ok (.istore_n 1, 1) := by decide +kernel
theorem dX4_sendBit_5 : decode cX4_sendBit 5 = .ok (.aload_n 0, 1) := by decide +kernel
theorem dX4_sendBit_6 : decode cX4_sendBit 6 = .ok (.iload_n 1, 1) := by decide +kernel
theorem dX4_sendBit_7 : decode cX4_sendBit 7 = .ok (.aload_n 0, 1) := by decide +kernel
theorem dX4_sendBit_8 : decode cX4_sendBit 8 = .ok (.getfield 56, 3) := by decide +kernel
theorem dX4_sendBit_11 : decode cX4_sendBit 11 = .ok (.iconst 0, 1) := by decide +kernel
theorem dX4_sendBit_12 : decode cX4_sendBit 12 = .ok (.invokevirtual 151, 3) := by decide +kernel
theorem dX4_sendBit_15 : decode cX4_sendBit 15 = .ok (.ifCond .eq 7, 3) := by decide +kernel
theorem dX4_sendBit_18 : decode cX4_sendBit 18 = .ok (.iconst 1, 1) := by decide +kernel
theorem dX4_sendBit_19 : decode cX4_sendBit 19 = .ok (.goto 4, 3) := by decide +kernel
theorem dX4_sendBit_22 : decode cX4_sendBit 22 = .ok (.iconst 0, 1) := by decide +kernel
theorem dX4_sendBit_23 : decode cX4_sendBit 23 = .ok (.istore_n 2, 1) := by decide +kernel
theorem dX4_sendBit_24 : decode cX4_sendBit 24 = .ok (.iload_n 2, 1) := by decide +kernel
theorem dX4_sendBit_25 : decode cX4_sendBit 25 = .ok (.ifCond .eq 16, 3) := by decide +kernel
theorem dX4_sendBit_28 : decode cX4_sendBit 28 = .ok (.aload_n 0, 1) := by decide +kernel
theorem dX4_sendBit_29 : decode cX4_sendBit 29 = .ok (.iload_n 1, 1) := by decide +kernel
theorem dX4_sendBit_30 : decode cX4_sendBit 30 = .ok (.aload_n 0, 1) := by decide +kernel
theorem dX4_sendBit_31 : decode cX4_sendBit 31 = .ok (.getfield 56, 3) := by decide +kernel
theorem dX4_sendBit_34 : decode cX4_sendBit 34 = .ok (.iconst 1, 1) := by decide +kernel
theorem dX4_sendBit_35 : decode cX4_sendBit 35 = .ok (.invokevirtual 151, 3) := by decide +kernel
theorem dX4_sendBit_38 : decode cX4_sendBit 38 = .ok (.goto 4, 3) := by decide +kernel
theorem dX4_sendBit_41 : decode cX4_sendBit 41 = .ok (.iconst 0, 1) := by decide +kernel
theorem dX4_sendBit_42 : decode cX4_sendBit 42 = .ok (.istore_n 3, 1) := by decide +kernel
theorem dX4_sendBit_43 : decode cX4_sendBit 43 = .ok (.aload_n 0, 1) := by decide +kernel
theorem dX4_sendBit_44 : decode cX4_sendBit 44 = .ok (.iload_n 3, 1) := by decide +kernel
theorem dX4_sendBit_45 : decode cX4_sendBit 45 = .ok (.invokevirtual 155, 3) := by decide +kernel
theorem dX4_sendBit_48 : decode cX4_sendBit 48 = .ok (.aload_n 0, 1) := by decide +kernel
theorem dX4_sendBit_49 : decode cX4_sendBit 49 = .ok (.getfield 30, 3) := by decide +kernel
theorem dX4_sendBit_52 : decode cX4_sendBit 52 = .ok (.iload_n 2, 1) := by decide +kernel
theorem dX4_sendBit_53 : decode cX4_sendBit 53 = .ok (.ifCond .eq 7, 3) := by decide +kernel
theorem dX4_sendBit_56 : decode cX4_sendBit 56 = .ok (.iconst 0, 1) := by decide +kernel
theorem dX4_sendBit_57 : decode cX4_sendBit 57 = .ok (.goto 4, 3) := by decide +kernel
theorem dX4_sendBit_60 : decode cX4_sendBit 60 = .ok (.iconst 1, 1) := by decide +kernel
theorem dX4_sendBit_61 : decode cX4_sendBit 61 = .ok (.iconst 0, 1) := by decide +kernel
theorem dX4_sendBit_62 : decode cX4_sendBit 62 = .ok (.aload_n 0, 1) := by decide +kernel
theorem dX4_sendBit_63 : decode cX4_sendBit 63 = .ok (.getfield 52, 3) := by decide +kernel
theorem dX4_sendBit_66 : decode cX4_sendBit 66 = .ok (.iload_n 3, 1) := by decide +kernel
theorem dX4_sendBit_67 : decode cX4_sendBit 67 = .ok (.invokestatic 172, 3) := by decide +kernel
theorem dX4_sendBit_70 : decode cX4_sendBit 70 = .ok (.invokevirtual 177, 3) := by decide +kernel
theorem dX4_sendBit_73 : decode cX4_sendBit 73 = .ok (.aload_n 0, 1) := by decide +kernel
theorem dX4_sendBit_74 : decode cX4_sendBit 74 = .ok (.dup, 1) := by decide +kernel
theorem dX4_sendBit_75 : decode cX4_sendBit 75 = .ok (.getfield 56, 3) := by decide +kernel
theorem dX4_sendBit_78 : decode cX4_sendBit 78 = .ok (.iconst 1, 1) := by decide +kernel
theorem dX4_sendBit_79 : decode cX4_sendBit 79 = .ok (.iadd, 1) := by decide +kernel
theorem dX4_sendBit_80 : decode cX4_sendBit 80 = .ok (.putfield 56, 3) := by decide +kernel
theorem dX4_sendBit_83 : decode cX4_sendBit 83 = .ok (.aload_n 0, 1) := by decide +kernel
theorem dX4_sendBit_84 : decode cX4_sendBit 84 = .ok (.getfield 56, 3) := by decide +kernel
theorem dX4_sendBit_87 : decode cX4_sendBit 87 = .ok (.invokestatic 132, 3) := by decide +kernel
theorem dX4_sendBit_90 : decode cX4_sendBit 90 = .ok (.ifCond .eq 18, 3) := by decide +kernel
theorem dX4_sendBit_93 : decode cX4_sendBit 93 = .ok (.aload_n 0, 1) := by decide +kernel
theorem dX4_sendBit_94 : decode cX4_sendBit 94 = .ok (.aload_n 0, 1) := by decide +kernel
theorem dX4_sendBit_95 : decode cX4_sendBit 95 = .ok (.aload_n 0, 1) := by decide +kernel
theorem dX4_sendBit_96 : decode cX4_sendBit 96 = .ok (.iconst 0, 1) := by decide +kernel
theorem dX4_sendBit_97 : decode cX4_sendBit 97 = .ok (.invokevirtual 181, 3) := by decide +kernel
theorem dX4_sendBit_100 : decode cX4_sendBit 100 = .ok (.iconst 1, 1) := by decide +kernel
theorem dX4_sendBit_101 : decode cX4_sendBit 101 = .ok (.ishr, 1) := by decide +kernel
theorem dX4_sendBit_102 : decode cX4_sendBit 102 = .ok (.invokevirtual 184, 3) := by decide +kernel
theorem dX4_sendBit_105 : decode cX4_sendBit 105 = .ok (.putfield 59, 3) := by decide +kernel
theorem dX4_sendBit_108 : decode cX4_sendBit 108 = .ok (.return_, 1) := by decide +kernel
theorem dX4_awaitAnswer_0 : decode cX4_awaitAnswer 0 = .ok (.aload_n 0, 1) := by decide +kernel
theorem dX4_awaitAnswer_1 : decode cX4_awaitAnswer 1 = .ok (.aload_n 0, 1) := by decide +kernel
theorem dX4_awaitAnswer_2 : decode cX4_awaitAnswer 2 = .ok (.iconst 0, 1) := by decide +kernel
theorem dX4_awaitAnswer_3 : decode cX4_awaitAnswer 3 = .ok (.invokevirtual 181, 3) := by decide +kernel
theorem dX4_awaitAnswer_6 : decode cX4_awaitAnswer 6 = .ok (.iconst 1, 1) := by decide +kernel
theorem dX4_awaitAnswer_7 : decode cX4_awaitAnswer 7 = .ok (.ishr, 1) := by decide +kernel
theorem dX4_awaitAnswer_8 : decode cX4_awaitAnswer 8 = .ok (.invokevirtual 100, 3) := by decide +kernel
theorem dX4_awaitAnswer_11 : decode cX4_awaitAnswer 11 = .ok (.astore_n 1, 1) := by decide +kernel
theorem dX4_awaitAnswer_12 : decode cX4_awaitAnswer 12 = .ok (.aload_n 0, 1) := by decide +kernel
theorem dX4_awaitAnswer_13 : decode cX4_awaitAnswer 13 = .ok (.getfield 30, 3) := by decide +kernel
theorem dX4_awaitAnswer_16 : decode cX4_awaitAnswer 16 = .ok (.aload_n 1, 1) := by decide +kernel
theorem dX4_awaitAnswer_17 : decode cX4_awaitAnswer 17 = .ok (.ifnonnull 7, 3) := by decide +kernel
theorem dX4_awaitAnswer_20 : decode cX4_awaitAnswer 20 = .ok (.iconst 1, 1) := by decide +kernel
theorem dX4_awaitAnswer_21 : decode cX4_awaitAnswer 21 = .ok (.goto 4, 3) := by decide +kernel
theorem dX4_awaitAnswer_24 : decode cX4_awaitAnswer 24 = .ok (.iconst 0, 1) := by decide +kernel
theorem dX4_awaitAnswer_25 : decode cX4_awaitAnswer 25 = .ok (.iconst 1, 1) := by decide +kernel
theorem dX4_awaitAnswer_26 : decode cX4_awaitAnswer 26 = .ok (.aload_n 0, 1) := by decide +kernel
theorem dX4_awaitAnswer_27 : decode cX4_awaitAnswer 27 = .ok (.getfield 52, 3) := by decide +kernel
theorem dX4_awaitAnswer_30 : decode cX4_awaitAnswer 30 = .ok (.iconst 0, 1) := by decide +kernel
theorem dX4_awaitAnswer_31 : decode cX4_awaitAnswer 31 = .ok (.invokevirtual 177, 3) := by decide +kernel
theorem dX4_awaitAnswer_34 : decode cX4_awaitAnswer 34 = .ok (.aload_n 1, 1) := by decide +kernel
theorem dX4_awaitAnswer_35 : decode cX4_awaitAnswer 35 = .ok (.ifnull 27, 3) := by decide +kernel
theorem dX4_awaitAnswer_38 : decode cX4_awaitAnswer 38 = .ok (.aload_n 0, 1) := by decide +kernel
theorem dX4_awaitAnswer_39 : decode cX4_awaitAnswer 39 = .ok (.getfield 56, 3) := by decide +kernel
theorem dX4_awaitAnswer_42 : decode cX4_awaitAnswer 42 = .ok (.bipush 8, 2) := by decide +kernel
theorem dX4_awaitAnswer_44 : decode cX4_awaitAnswer 44 = .ok (.if_icmp .le 18, 3) := by decide +kernel
theorem dX4_awaitAnswer_47 : decode cX4_awaitAnswer 47 = .ok (.aload_n 1, 1) := by decide +kernel
theorem dX4_awaitAnswer_48 : decode cX4_awaitAnswer 48 = .ok (.aload_n 0, 1) := by decide +kernel
theorem dX4_awaitAnswer_49 : decode cX4_awaitAnswer 49 = .ok (.aload_n 0, 1) := by decide +kernel
theorem dX4_awaitAnswer_50 : decode cX4_awaitAnswer 50 = .ok (.getfield 56, 3) := by decide +kernel
theorem dX4_awaitAnswer_53 : decode cX4_awaitAnswer 53 = .ok (.bipush 9, 2) := by decide +kernel
theorem dX4_awaitAnswer_55 : decode cX4_awaitAnswer 55 = .ok (.idiv, 1) := by decide +kernel
theorem dX4_awaitAnswer_56 : decode cX4_awaitAnswer 56 = .ok (.invokevirtual 181, 3) := by decide +kernel
theorem dX4_awaitAnswer_59 : decode cX4_awaitAnswer 59 = .ok (.invokevirtual 187, 3) := by decide +kernel
theorem dX4_awaitAnswer_62 : decode cX4_awaitAnswer 62 = .ok (.aload_n 0, 1) := by decide +kernel
theorem dX4_awaitAnswer_63 : decode cX4_awaitAnswer 63 = .ok (.getfield 11, 3) := by decide +kernel
theorem dX4_awaitAnswer_66 : decode cX4_awaitAnswer 66 = .ok (.astore_n 2, 1) := by decide +kernel
theorem dX4_awaitAnswer_67 : decode cX4_awaitAnswer 67 = .ok (.aload_n 2, 1) := by decide +kernel
theorem dX4_awaitAnswer_68 : decode cX4_awaitAnswer 68 = .ok (.arraylength, 1) := by decide +kernel
theorem dX4_awaitAnswer_69 : decode cX4_awaitAnswer 69 = .ok (.istore_n 3, 1) := by decide +kernel
theorem dX4_awaitAnswer_70 : decode cX4_awaitAnswer 70 = .ok (.iconst 0, 1) := by decide +kernel
theorem dX4_awaitAnswer_71 : decode cX4_awaitAnswer 71 = .ok (.istore 4, 2) := by decide +kernel
theorem dX4_awaitAnswer_73 : decode cX4_awaitAnswer 73 = .ok (.iload 4, 2) := by decide +kernel
theorem dX4_awaitAnswer_75 : decode cX4_awaitAnswer 75 = .ok (.iload_n 3, 1) := by decide +kernel
theorem dX4_awaitAnswer_76 : decode cX4_awaitAnswer 76 = .ok (.if_icmp .ge 65, 3) := by decide +kernel
theorem dX4_awaitAnswer_79 : decode cX4_awaitAnswer 79 = .ok (.aload_n 2, 1) := by decide +kernel
theorem dX4_awaitAnswer_80 : decode cX4_awaitAnswer 80 = .ok (.iload 4, 2) := by decide +kernel
theorem dX4_awaitAnswer_82 : decode cX4_awaitAnswer 82 = .ok (.aaload, 1) := by decide +kernel
theorem dX4_awaitAnswer_83 : decode cX4_awaitAnswer 83 = .ok (.astore 5, 2) := by decide +kernel
theorem dX4_awaitAnswer_85 : decode cX4_awaitAnswer 85 = .ok (.aload 5, 2) := by decide +kernel
theorem dX4_awaitAnswer_87 : decode cX4_awaitAnswer 87 = .ok (.getfield 89, 3) := by decide +kernel
theorem dX4_awaitAnswer_90 : decode cX4_awaitAnswer 90 = .ok (.ifCond .eq 20, 3) := by decide +kernel
theorem dX4_awaitAnswer_93 : decode cX4_awaitAnswer 93 = .ok (.aload_n 1, 1) := by decide +kernel
theorem dX4_awaitAnswer_94 : decode cX4_awaitAnswer 94 = .ok (.ifnonnull 16, 3) := by decide +kernel
theorem dX4_awaitAnswer_97 : decode cX4_awaitAnswer 97 = .ok (.aload 5, 2) := by decide +kernel
theorem dX4_awaitAnswer_99 : decode cX4_awaitAnswer 99 = .ok (.aload_n 0, 1) := by decide +kernel
theorem dX4_awaitAnswer_100 : decode cX4_awaitAnswer 100 = .ok (.iconst 1, 1) := by decide +kernel
theorem dX4_awaitAnswer_101 : decode cX4_awaitAnswer 101 = .ok (.invokevirtual 162, 3) := by decide +kernel
theorem dX4_awaitAnswer_104 : decode cX4_awaitAnswer 104 = .ok (.invokevirtual 190, 3) := by decide +kernel
theorem dX4_awaitAnswer_107 : decode cX4_awaitAnswer 107 = .ok (.goto 28, 3) := by decide +kernel
theorem dX4_awaitAnswer_110 : decode cX4_awaitAnswer 110 = .ok (.aload 5, 2) := by decide +kernel
theorem dX4_awaitAnswer_112 : decode cX4_awaitAnswer 112 = .ok (.getfield 89, 3) := by decide +kernel
theorem dX4_awaitAnswer_115 : decode cX4_awaitAnswer 115 = .ok (.ifCond .eq 20, 3) := by decide +kernel
theorem dX4_awaitAnswer_118 : decode cX4_awaitAnswer 118 = .ok (.aload 5, 2) := by decide +kernel
theorem dX4_awaitAnswer_120 : decode cX4_awaitAnswer 120 = .ok (.aload_n 0, 1) := by decide +kernel
theorem dX4_awaitAnswer_121 : decode cX4_awaitAnswer 121 = .ok (.getfield 56, 3) := by decide +kernel
theorem dX4_awaitAnswer_124 : decode cX4_awaitAnswer 124 = .ok (.invokestatic 193, 3) := by decide +kernel
theorem dX4_awaitAnswer_127 : decode cX4_awaitAnswer 127 = .ok (.ifCond .eq 8, 3) := by decide +kernel
theorem dX4_awaitAnswer_130 : decode cX4_awaitAnswer 130 = .ok (.aload 5, 2) := by decide +kernel
theorem dX4_awaitAnswer_132 : decode cX4_awaitAnswer 132 = .ok (.invokevirtual 197, 3) := by decide +kernel
theorem dX4_awaitAnswer_135 : decode cX4_awaitAnswer 135 = .ok (.iinc 4 1, 3) := by decide +kernel
theorem dX4_awaitAnswer_138 : decode cX4_awaitAnswer 138 = .ok (.goto (-65), 3) := by decide +kernel
theorem dX4_awaitAnswer_141 : decode cX4_awaitAnswer 141 = .ok (.aload_n 0, 1) := by decide +kernel
theorem dX4_awaitAnswer_142 : decode cX4_awaitAnswer 142 = .ok (.dup, 1) := by decide +kernel
theorem dX4_awaitAnswer_143 : decode cX4_awaitAnswer 143 = .ok (.getfield 56, 3) := by decide +kernel
theorem dX4_awaitAnswer_146 : decode cX4_awaitAnswer 146 = .ok (.iconst 1, 1) := by decide +kernel
theorem dX4_awaitAnswer_147 : decode cX4_awaitAnswer 147 = .ok (.iadd, 1) := by decide +kernel
theorem dX4_awaitAnswer_148 : decode cX4_awaitAnswer 148 = .ok (.putfield 56, 3) := by decide +kernel
theorem dX4_awaitAnswer_151 : decode cX4_awaitAnswer 151 = .ok (.aload_n 0, 1) := by decide +kernel
theorem dX4_awaitAnswer_152 : decode cX4_awaitAnswer 152 = .ok (.invokevirtual 159, 3) := by decide +kernel
theorem dX4_awaitAnswer_155 : decode cX4_awaitAnswer 155 = .ok (.return_, 1) := by decide +kernel
theorem dX4_freeTick_0 : decode cX4_freeTick 0 = .ok (.aload_n 0, 1) := by decide +kernel
theorem dX4_freeTick_1 : decode cX4_freeTick 1 = .ok (.dup, 1) := by decide +kernel
theorem dX4_freeTick_2 : decode cX4_freeTick 2 = .ok (.getfield 62, 3) := by decide +kernel
theorem dX4_freeTick_5 : decode cX4_freeTick 5 = .ok (.iconst 1, 1) := by decide +kernel
theorem dX4_freeTick_6 : decode cX4_freeTick 6 = .ok (.iadd, 1) := by decide +kernel
theorem dX4_freeTick_7 : decode cX4_freeTick 7 = .ok (.putfield 62, 3) := by decide +kernel
theorem dX4_freeTick_10 : decode cX4_freeTick 10 = .ok (.aload_n 0, 1) := by decide +kernel
theorem dX4_freeTick_11 : decode cX4_freeTick 11 = .ok (.invokevirtual 200, 3) := by decide +kernel
theorem dX4_freeTick_14 : decode cX4_freeTick 14 = .ok (.istore_n 1, 1) := by decide +kernel
theorem dX4_freeTick_15 : decode cX4_freeTick 15 = .ok (.aload_n 0, 1) := by decide +kernel
theorem dX4_freeTick_16 : decode cX4_freeTick 16 = .ok (.getfield 62, 3) := by decide +kernel
theorem dX4_freeTick_19 : decode cX4_freeTick 19 = .ok (.aload_n 0, 1) := by decide +kernel
theorem dX4_freeTick_20 : decode cX4_freeTick 20 = .ok (.iconst 0, 1) := by decide +kernel
theorem dX4_freeTick_21 : decode cX4_freeTick 21 = .ok (.invokevirtual 162, 3) := by decide +kernel
theorem dX4_freeTick_24 : decode cX4_freeTick 24 = .ok (.if_icmp .lt 7, 3) := by decide +kernel
theorem dX4_freeTick_27 : decode cX4_freeTick 27 = .ok (.iload_n 1, 1) := by decide +kernel
theorem dX4_freeTick_28 : decode cX4_freeTick 28 = .ok (.ifCond .ne 4, 3) := by decide +kernel
theorem dX4_freeTick_31 : decode cX4_freeTick 31 = .ok (.return_, 1) := by decide +kernel
theorem dX4_freeTick_32 : decode cX4_freeTick 32 = .ok (.iconst 0, 1) := by decide +kernel
theorem dX4_freeTick_33 : decode cX4_freeTick 33 = .ok (.istore_n 2, 1) := by decide +kernel
theorem dX4_freeTick_34 : decode cX4_freeTick 34 = .ok (.iload_n 2, 1) := by decide +kernel
theorem dX4_freeTick_35 : decode cX4_freeTick 35 = .ok (.aload_n 0, 1) := by decide +kernel
theorem dX4_freeTick_36 : decode cX4_freeTick 36 = .ok (.getfield 11, 3) := by decide +kernel
theorem dX4_freeTick_39 : decode cX4_freeTick 39 = .ok (.arraylength, 1) := by decide +kernel
theorem dX4_freeTick_40 : decode cX4_freeTick 40 = .ok (.if_icmp .ge 23, 3) := by decide +kernel
theorem dX4_freeTick_43 : decode cX4_freeTick 43 = .ok (.aload_n 0, 1) := by decide +kernel
theorem dX4_freeTick_44 : decode cX4_freeTick 44 = .ok (.getfield 11, 3) := by decide +kernel
theorem dX4_freeTick_47 : decode cX4_freeTick 47 = .ok (.iload_n 2, 1) := by decide +kernel
theorem dX4_freeTick_48 : decode cX4_freeTick 48 = .ok (.aaload, 1) := by decide +kernel
theorem dX4_freeTick_49 : decode cX4_freeTick 49 = .ok (.iload_n 1, 1) := by decide +kernel
theorem dX4_freeTick_50 : decode cX4_freeTick 50 = .ok (.iload_n 2, 1) := by decide +kernel
theorem dX4_freeTick_51 : decode cX4_freeTick 51 = .ok (.invokestatic 203, 3) := by decide +kernel
theorem dX4_freeTick_54 : decode cX4_freeTick 54 = .ok (.putfield 89, 3) := by decide +kernel
theorem dX4_freeTick_57 : decode cX4_freeTick 57 = .ok (.iinc 2 1, 3) := by decide +kernel
theorem dX4_freeTick_60 : decode cX4_freeTick 60 = .ok (.goto (-26), 3) := by decide +kernel
theorem dX4_freeTick_63 : decode cX4_freeTick 63 = .ok (.aload_n 0, 1) := by decide +kernel
theorem dX4_freeTick_64 : decode cX4_freeTick 64 = .ok (.iconst 0, 1) := by decide +kernel
theorem dX4_freeTick_65 : decode cX4_freeTick 65 = .ok (.putfield 62, 3) := by decide +kernel
theorem dX4_freeTick_68 : decode cX4_freeTick 68 = .ok (.aload_n 0, 1) := by decide +kernel
theorem dX4_freeTick_69 : decode cX4_freeTick 69 = .ok (.dup, 1) := by decide +kernel
theorem dX4_freeTick_70 : decode cX4_freeTick 70 = .ok (.getfield 68, 3) := by decide +kernel
theorem dX4_freeTick_73 : decode cX4_freeTick 73 = .ok (.iconst 1, 1) := by decide +kernel
theorem dX4_freeTick_74 : decode cX4_freeTick 74 = .ok (.iadd, 1) := by decide +kernel
theorem dX4_freeTick_75 : decode cX4_freeTick 75 = .ok (.putfield 68, 3) := by decide +kernel
theorem dX4_freeTick_78 : decode cX4_freeTick 78 = .ok (.return_, 1) := by decide +kernel
theorem dX4_lose_0 : decode cX4_lose 0 = .ok (.iconst 0, 1) := by decide +kernel
theorem dX4_lose_1 : decode cX4_lose 1 = .ok (.istore_n 2, 1) := by decide +kernel
theorem dX4_lose_2 : decode cX4_lose 2 = .ok (.iload_n 2, 1) := by decide +kernel
theorem dX4_lose_3 : decode cX4_lose 3 = .ok (.aload_n 0, 1) := by decide +kernel
theorem dX4_lose_4 : decode cX4_lose 4 = .ok (.getfield 11, 3) := by decide +kernel
theorem dX4_lose_7 : decode cX4_lose 7 = .ok (.arraylength, 1) := by decide +kernel
theorem dX4_lose_8 : decode cX4_lose 8 = .ok (.if_icmp .ge 26, 3) := by decide +kernel
theorem dX4_lose_11 : decode cX4_lose 11 = .ok (.iload_n 1, 1) := by decide +kernel
theorem dX4_lose_12 : decode cX4_lose 12 = .ok (.iload_n 2, 1) := by decide +kernel
theorem dX4_lose_13 : decode cX4_lose 13 = .ok (.invokestatic 203, 3) := by decide +kernel
theorem dX4_lose_16 : decode cX4_lose 16 = .ok (.ifCond .eq 12, 3) := by decide +kernel
theorem dX4_lose_19 : decode cX4_lose 19 = .ok (.aload_n 0, 1) := by decide +kernel
theorem dX4_lose_20 : decode cX4_lose 20 = .ok (.getfield 11, 3) := by decide +kernel
theorem dX4_lose_23 : decode cX4_lose 23 = .ok (.iload_n 2, 1) := by decide +kernel
theorem dX4_lose_24 : decode cX4_lose 24 = .ok (.aaload, 1) := by decide +kernel
theorem dX4_lose_25 : decode cX4_lose 25 = .ok (.invokevirtual 206, 3) := by decide +kernel
theorem dX4_lose_28 : decode cX4_lose 28 = .ok (.iinc 2 1, 3) := by decide +kernel
theorem dX4_lose_31 : decode cX4_lose 31 = .ok (.goto (-29), 3) := by decide +kernel
theorem dX4_lose_34 : decode cX4_lose 34 = .ok (.return_, 1) := by decide +kernel
theorem dX4_endTalkIfEmpty_0 : decode cX4_endTalkIfEmpty 0 = .ok (.aload_n 0, 1) := by decide +kernel
theorem dX4_endTalkIfEmpty_1 : decode cX4_endTalkIfEmpty 1 = .ok (.invokevirtual 129, 3) := by decide +kernel
theorem dX4_endTalkIfEmpty_4 : decode cX4_endTalkIfEmpty 4 = .ok (.ifCond .ne 8, 3) := by decide +kernel
theorem dX4_endTalkIfEmpty_7 : decode cX4_endTalkIfEmpty 7 = .ok (.aload_n 0, 1) := by decide +kernel
theorem dX4_endTalkIfEmpty_8 : decode cX4_endTalkIfEmpty 8 = .ok (.iconst 0, 1) := by decide +kernel
theorem dX4_endTalkIfEmpty_9 : decode cX4_endTalkIfEmpty 9 = .ok (.putfield 56, 3) := by decide +kernel
theorem dX4_endTalkIfEmpty_12 : decode cX4_endTalkIfEmpty 12 = .ok (.return_, 1) := by decide +kernel
theorem dX4_speakerAt_0 : decode cX4_speakerAt 0 = .ok (.iload_n 1, 1) := by decide +kernel
theorem dX4_speakerAt_1 : decode cX4_speakerAt 1 = .ok (.aload_n 0, 1) := by decide +kernel
theorem dX4_speakerAt_2 : decode cX4_speakerAt 2 = .ok (.getfield 11, 3) := by decide +kernel
theorem dX4_speakerAt_5 : decode cX4_speakerAt 5 = .ok (.arraylength, 1) := by decide +kernel
theorem dX4_speakerAt_6 : decode cX4_speakerAt 6 = .ok (.invokestatic 78, 3) := by decide +kernel
theorem dX4_speakerAt_9 : decode cX4_speakerAt 9 = .ok (.ifCond .eq 12, 3) := by decide +kernel
theorem dX4_speakerAt_12 : decode cX4_speakerAt 12 = .ok (.aload_n 0, 1) := by decide +kernel
theorem dX4_speakerAt_13 : decode cX4_speakerAt 13 = .ok (.getfield 11, 3) := by decide +kernel
theorem dX4_speakerAt_16 : decode cX4_speakerAt 16 = .ok (.iload_n 1, 1) := by decide +kernel
theorem dX4_speakerAt_17 : decode cX4_speakerAt 17 = .ok (.aaload, 1) := by decide +kernel
theorem dX4_speakerAt_18 : decode cX4_speakerAt 18 = .ok (.goto 4, 3) := by decide +kernel
theorem dX4_speakerAt_21 : decode cX4_speakerAt 21 = .ok (.aconst_null, 1) := by decide +kernel
theorem dX4_speakerAt_22 : decode cX4_speakerAt 22 = .ok (.areturn, 1) := by decide +kernel
theorem dX4_listenerAt_0 : decode cX4_listenerAt 0 = .ok (.iload_n 1, 1) := by decide +kernel
theorem dX4_listenerAt_1 : decode cX4_listenerAt 1 = .ok (.aload_n 0, 1) := by decide +kernel
theorem dX4_listenerAt_2 : decode cX4_listenerAt 2 = .ok (.getfield 19, 3) := by decide +kernel
theorem dX4_listenerAt_5 : decode cX4_listenerAt 5 = .ok (.arraylength, 1) := by decide +kernel
theorem dX4_listenerAt_6 : decode cX4_listenerAt 6 = .ok (.invokestatic 78, 3) := by decide +kernel
theorem dX4_listenerAt_9 : decode cX4_listenerAt 9 = .ok (.ifCond .eq 12, 3) := by decide +kernel
theorem dX4_listenerAt_12 : decode cX4_listenerAt 12 = .ok (.aload_n 0, 1) := by decide +kernel
theorem dX4_listenerAt_13 : decode cX4_listenerAt 13 = .ok (.getfield 19, 3) := by decide +kernel
theorem dX4_listenerAt_16 : decode cX4_listenerAt 16 = .ok (.iload_n 1, 1) := by decide +kernel
theorem dX4_listenerAt_17 : decode cX4_listenerAt 17 = .ok (.aaload, 1) := by decide +kernel
theorem dX4_listenerAt_18 : decode cX4_listenerAt 18 = .ok (.goto 4, 3) := by decide +kernel
theorem dX4_listenerAt_21 : decode cX4_listenerAt 21 = .ok (.aconst_null, 1) := by decide +kernel
theorem dX4_listenerAt_22 : decode cX4_listenerAt 22 = .ok (.areturn, 1) := by decide +kernel
theorem dX4_listenerWith_0 : decode cX4_listenerWith 0 = .ok (.aload_n 0, 1) := by decide +kernel
theorem dX4_listenerWith_1 : decode cX4_listenerWith 1 = .ok (.getfield 19, 3) := by decide +kernel
theorem dX4_listenerWith_4 : decode cX4_listenerWith 4 = .ok (.astore_n 2, 1) := by decide +kernel
theorem dX4_listenerWith_5 : decode cX4_listenerWith 5 = .ok (.aload_n 2, 1) := by decide +kernel
theorem dX4_listenerWith_6 : decode cX4_listenerWith 6 = .ok (.arraylength, 1) := by decide +kernel
theorem dX4_listenerWith_7 : decode cX4_listenerWith 7 = .ok (.istore_n 3, 1) := by decide +kernel
theorem dX4_listenerWith_8 : decode cX4_listenerWith 8 = .ok (.iconst 0, 1) := by decide +kernel
theorem dX4_listenerWith_9 : decode cX4_listenerWith 9 = .ok (.istore 4, 2) := by decide +kernel
theorem dX4_listenerWith_11 : decode cX4_listenerWith 11 = .ok (.iload 4, 2) := by decide +kernel
theorem dX4_listenerWith_13 : decode cX4_listenerWith 13 = .ok (.iload_n 3, 1) := by decide +kernel
theorem dX4_listenerWith_14 : decode cX4_listenerWith 14 = .ok (.if_icmp .ge 33, 3) := by decide +kernel
theorem dX4_listenerWith_17 : decode cX4_listenerWith 17 = .ok (.aload_n 2, 1) := by decide +kernel
theorem dX4_listenerWith_18 : decode cX4_listenerWith 18 = .ok (.iload 4, 2) := by decide +kernel
theorem dX4_listenerWith_20 : decode cX4_listenerWith 20 = .ok (.aaload, 1) := by decide +kernel
theorem dX4_listenerWith_21 : decode cX4_listenerWith 21 = .ok (.astore 5, 2) := by decide +kernel
theorem dX4_listenerWith_23 : decode cX4_listenerWith 23 = .ok (.iload_n 1, 1) := by decide +kernel
theorem dX4_listenerWith_24 : decode cX4_listenerWith 24 = .ok (.bipush (-5), 2) := by decide +kernel
theorem dX4_listenerWith_26 : decode cX4_listenerWith 26 = .ok (.if_icmp .eq 15, 3) := by decide +kernel
theorem dX4_listenerWith_29 : decode cX4_listenerWith 29 = .ok (.aload 5, 2) := by decide +kernel
theorem dX4_listenerWith_31 : decode cX4_listenerWith 31 = .ok (.getfield 103, 3) := by decide +kernel
theorem dX4_listenerWith_34 : decode cX4_listenerWith 34 = .ok (.iload_n 1, 1) := by decide +kernel
theorem dX4_listenerWith_35 : decode cX4_listenerWith 35 = .ok (.if_icmp .ne 6, 3) := by decide +kernel
theorem dX4_listenerWith_38 : decode cX4_listenerWith 38 = .ok (.aload 5, 2) := by decide +kernel
theorem dX4_listenerWith_40 : decode cX4_listenerWith 40 = .ok (.areturn, 1) := by decide +kernel
theorem dX4_listenerWith_41 : decode cX4_listenerWith 41 = .ok (.iinc 4 1, 3) := by decide +kernel
theorem dX4_listenerWith_44 : decode cX4_listenerWith 44 = .ok (.goto (-33), 3) := by decide +kernel
theorem dX4_listenerWith_47 : decode cX4_listenerWith 47 = .ok (.aconst_null, 1) := by decide +kernel
theorem dX4_listenerWith_48 : decode cX4_listenerWith 48 = .ok (.areturn, 1) := by decide +kernel
theorem dX4_listenersWithAddress_0 : decode cX4_listenersWithAddress 0 = .ok (.iconst 0, 1) := by decide +kernel
theorem dX4_listenersWithAddress_1 : decode cX4_listenersWithAddress 1 = .ok (.istore_n 1, 1) := by decide +kernel
theorem dX4_listenersWithAddress_2 : decode cX4_listenersWithAddress 2 = .ok (.aload_n 0, 1) := by decide +kernel
theorem dX4_listenersWithAddress_3 : decode cX4_listenersWithAddress 3 = .ok (.getfield 19, 3) := by decide +kernel
theorem dX4_listenersWithAddress_6 : decode cX4_listenersWithAddress 6 = .ok (.astore_n 2, 1) := by decide +kernel
theorem dX4_listenersWithAddress_7 : decode cX4_listenersWithAddress 7 = .ok (.aload_n 2, 1) := by decide +kernel
theorem dX4_listenersWithAddress_8 : decode cX4_listenersWithAddress 8 = .ok (.arraylength, 1) := by decide +kernel
theorem dX4_listenersWithAddress_9 : decode cX4_listenersWithAddress 9 = .ok (.istore_n 3, 1) := by decide +kernel
theorem dX4_listenersWithAddress_10 : decode cX4_listenersWithAddress 10 = .ok (.iconst 0, 1) := by decide +kernel
theorem dX4_listenersWithAddress_11 : decode cX4_listenersWithAddress 11 = .ok (.istore 4, 2) := by decide +kernel
theorem dX4_listenersWithAddress_13 : decode cX4_listenersWithAddress 13 = .ok (.iload 4, 2) := by decide +kernel
theorem dX4_listenersWithAddress_15 : decode cX4_listenersWithAddress 15 = .ok (.iload_n 3, 1) := by decide +kernel
theorem dX4_listenersWithAddress_16 : decode cX4_listenersWithAddress 16 = .ok (.if_icmp .ge 33, 3) := by decide +kernel
theorem dX4_listenersWithAddress_19 : decode cX4_listenersWithAddress 19 = .ok (.aload_n 2, 1) := by decide +kernel
theorem dX4_listenersWithAddress_20 : decode cX4_listenersWithAddress 20 = .ok (.iload 4, 2) := by decide +kernel
theorem dX4_listenersWithAddress_22 : decode cX4_listenersWithAddress 22 = .ok (.aaload, 1) := by decide +kernel
theorem dX4_listenersWithAddress_23 : decode cX4_listenersWithAddress 23 = .ok (.astore 5, 2) := by decide +kernel
theorem dX4_listenersWithAddress_25 : decode cX4_listenersWithAddress 25 = .ok (.iload_n 1, 1) := by decide +kernel
theorem dX4_listenersWithAddress_26 : decode cX4_listenersWithAddress 26 = .ok (.aload 5, 2) := by decide +kernel
theorem dX4_listenersWithAddress_28 : decode cX4_listenersWithAddress 28 = .ok (.getfield 103, 3) := by decide +kernel
theorem dX4_listenersWithAddress_31 : decode cX4_listenersWithAddress 31 = .ok (.bipush (-5), 2) := by decide +kernel
theorem dX4_listenersWithAddress_33 : decode cX4_listenersWithAddress 33 = .ok (.if_icmp .ne 7, 3) := by decide +kernel
theorem dX4_listenersWithAddress_36 : decode cX4_listenersWithAddress 36 = .ok (.iconst 0, 1) := by decide +kernel
theorem dX4_listenersWithAddress_37 : decode cX4_listenersWithAddress 37 = .ok (.goto 4, 3) := by decide +kernel
theorem dX4_listenersWithAddress_40 : decode cX4_listenersWithAddress 40 = .ok (.iconst 1, 1) := by decide +kernel
theorem dX4_listenersWithAddress_41 : decode cX4_listenersWithAddress 41 = .ok (.iadd, 1) := by decide +kernel
theorem dX4_listenersWithAddress_42 : decode cX4_listenersWithAddress 42 = .ok (.istore_n 1, 1) := by decide +kernel
theorem dX4_listenersWithAddress_43 : decode cX4_listenersWithAddress 43 = .ok (.iinc 4 1, 3) := by decide +kernel
theorem dX4_listenersWithAddress_46 : decode cX4_listenersWithAddress 46 = .ok (.goto (-33), 3) := by decide +kernel
theorem dX4_listenersWithAddress_49 : decode cX4_listenersWithAddress 49 = .ok (.iload_n 1, 1) := by decide +kernel
theorem dX4_listenersWithAddress_50 : decode cX4_listenersWithAddress 50 = .ok (.ireturn, 1) := by decide +kernel
theorem dX4_stuckListeners_0 : decode cX4_stuckListeners 0 = .ok (.iconst 0, 1) := by decide +kernel
theorem dX4_stuckListeners_1 : decode cX4_stuckListeners 1 = .ok (.istore_n 1, 1) := by decide +kernel
theorem dX4_stuckListeners_2 : decode cX4_stuckListeners 2 = .ok (.aload_n 0, 1) := by decide +kernel
theorem dX4_stuckListeners_3 : decode cX4_stuckListeners 3 = .ok (.getfield 19, 3) := by decide +kernel
theorem dX4_stuckListeners_6 : decode cX4_stuckListeners 6 = .ok (.astore_n 2, 1) := by decide +kernel
theorem dX4_stuckListeners_7 : decode cX4_stuckListeners 7 = .ok (.aload_n 2, 1) := by decide +kernel
theorem dX4_stuckListeners_8 : decode cX4_stuckListeners 8 = .ok (.arraylength, 1) := by decide +kernel
theorem dX4_stuckListeners_9 : decode cX4_stuckListeners 9 = .ok (.istore_n 3, 1) := by decide +kernel
theorem dX4_stuckListeners_10 : decode cX4_stuckListeners 10 = .ok (.iconst 0, 1) := by decide +kernel
theorem dX4_stuckListeners_11 : decode cX4_stuckListeners 11 = .ok (.istore 4, 2) := by decide +kernel
theorem dX4_stuckListeners_13 : decode cX4_stuckListeners 13 = .ok (.iload 4, 2) := by decide +kernel
theorem dX4_stuckListeners_15 : decode cX4_stuckListeners 15 = .ok (.iload_n 3, 1) := by decide +kernel
theorem dX4_stuckListeners_16 : decode cX4_stuckListeners 16 = .ok (.if_icmp .ge 31, 3) := by decide +kernel
theorem dX4_stuckListeners_19 : decode cX4_stuckListeners 19 = .ok (.aload_n 2, 1) := by decide +kernel
theorem dX4_stuckListeners_20 : decode cX4_stuckListeners 20 = .ok (.iload 4, 2) := by decide +kernel
theorem dX4_stuckListeners_22 : decode cX4_stuckListeners 22 = .ok (.aaload, 1) := by decide +kernel
theorem dX4_stuckListeners_23 : decode cX4_stuckListeners 23 = .ok (.astore 5, 2) := by decide +kernel
theorem dX4_stuckListeners_25 : decode cX4_stuckListeners 25 = .ok (.iload_n 1, 1) := by decide +kernel
theorem dX4_stuckListeners_26 : decode cX4_stuckListeners 26 = .ok (.aload 5, 2) := by decide +kernel
theorem dX4_stuckListeners_28 : decode cX4_stuckListeners 28 = .ok (.getfield 113, 3) := by decide +kernel
theorem dX4_stuckListeners_31 : decode cX4_stuckListeners 31 = .ok (.ifCond .le 7, 3) := by decide +kernel
theorem dX4_stuckListeners_34 : decode cX4_stuckListeners 34 = .ok (.iconst 1, 1) := by decide +kernel
theorem dX4_stuckListeners_35 : decode cX4_stuckListeners 35 = .ok (.goto 4, 3) := by decide +kernel
theorem dX4_stuckListeners_38 : decode cX4_stuckListeners 38 = .ok (.iconst 0, 1) := by decide +kernel
theorem dX4_stuckListeners_39 : decode cX4_stuckListeners 39 = .ok (.iadd, 1) := by decide +kernel
theorem dX4_stuckListeners_40 : decode cX4_stuckListeners 40 = .ok (.istore_n 1, 1) := by decide +kernel
end
section
theorem dX4_stuckListeners_41 : decode cX4_stuckListeners 41 = .ok (.iinc 4 1, 3) := by decide +kernel
theorem dX4_stuckListeners_44 : decode cX4_stuckListeners 44 = .ok (.goto (-31), 3) := by decide +kernel
theorem dX4_stuckListeners_47 : decode cX4_stuckListeners 47 = .ok (.iload_n 1, 1) := by decide +kernel
theorem dX4_stuckListeners_48 : decode cX4_stuckListeners 48 = .ok (.ireturn, 1) := by decide +kernel
theorem dX4_holdFor_0 : decode cX4_holdFor 0 = .ok (.aload_n 0, 1) := by decide +kernel
theorem dX4_holdFor_1 : decode cX4_holdFor 1 = .ok (.iload_n 1, 1) := by decide +kernel
theorem dX4_holdFor_2 : decode cX4_holdFor 2 = .ok (.invokevirtual 100, 3) := by decide +kernel
theorem dX4_holdFor_5 : decode cX4_holdFor 5 = .ok (.astore_n 2, 1) := by decide +kernel
theorem dX4_holdFor_6 : decode cX4_holdFor 6 = .ok (.aload_n 2, 1) := by decide +kernel
theorem dX4_holdFor_7 : decode cX4_holdFor 7 = .ok (.ifnonnull 7, 3) := by decide +kernel
theorem dX4_holdFor_10 : decode cX4_holdFor 10 = .ok (.iconst 0, 1) := by decide +kernel
theorem dX4_holdFor_11 : decode cX4_holdFor 11 = .ok (.goto 7, 3) := by decide +kernel
theorem dX4_holdFor_14 : decode cX4_holdFor 14 = .ok (.aload_n 2, 1) := by decide +kernel
theorem dX4_holdFor_15 : decode cX4_holdFor 15 = .ok (.getfield 110, 3) := by decide +kernel
theorem dX4_holdFor_18 : decode cX4_holdFor 18 = .ok (.ireturn, 1) := by decide +kernel
theorem dX4_setting_0 : decode cX4_setting 0 = .ok (.iload_n 1, 1) := by decide +kernel
theorem dX4_setting_1 : decode cX4_setting 1 = .ok (.aload_n 0, 1) := by decide +kernel
theorem dX4_setting_2 : decode cX4_setting 2 = .ok (.getfield 23, 3) := by decide +kernel
theorem dX4_setting_5 : decode cX4_setting 5 = .ok (.arraylength, 1) := by decide +kernel
theorem dX4_setting_6 : decode cX4_setting 6 = .ok (.invokestatic 78, 3) := by decide +kernel
theorem dX4_setting_9 : decode cX4_setting 9 = .ok (.ifCond .eq 12, 3) := by decide +kernel
theorem dX4_setting_12 : decode cX4_setting 12 = .ok (.aload_n 0, 1) := by decide +kernel
theorem dX4_setting_13 : decode cX4_setting 13 = .ok (.getfield 23, 3) := by decide +kernel
theorem dX4_setting_16 : decode cX4_setting 16 = .ok (.iload_n 1, 1) := by decide +kernel
theorem dX4_setting_17 : decode cX4_setting 17 = .ok (.iaload, 1) := by decide +kernel
theorem dX4_setting_18 : decode cX4_setting 18 = .ok (.goto 4, 3) := by decide +kernel
theorem dX4_setting_21 : decode cX4_setting 21 = .ok (.iconst (-1), 1) := by decide +kernel
theorem dX4_setting_22 : decode cX4_setting 22 = .ok (.ireturn, 1) := by decide +kernel
theorem dX4_messagesInLines_0 : decode cX4_messagesInLines 0 = .ok (.iconst 0, 1) := by decide +kernel
theorem dX4_messagesInLines_1 : decode cX4_messagesInLines 1 = .ok (.istore_n 1, 1) := by decide +kernel
theorem dX4_messagesInLines_2 : decode cX4_messagesInLines 2 = .ok (.aload_n 0, 1) := by decide +kernel
theorem dX4_messagesInLines_3 : decode cX4_messagesInLines 3 = .ok (.getfield 11, 3) := by decide +kernel
theorem dX4_messagesInLines_6 : decode cX4_messagesInLines 6 = .ok (.astore_n 2, 1) := by decide +kernel
theorem dX4_messagesInLines_7 : decode cX4_messagesInLines 7 = .ok (.aload_n 2, 1) := by decide +kernel
theorem dX4_messagesInLines_8 : decode cX4_messagesInLines 8 = .ok (.arraylength, 1) := by decide +kernel
theorem dX4_messagesInLines_9 : decode cX4_messagesInLines 9 = .ok (.istore_n 3, 1) := by decide +kernel
theorem dX4_messagesInLines_10 : decode cX4_messagesInLines 10 = .ok (.iconst 0, 1) := by decide +kernel
theorem dX4_messagesInLines_11 : decode cX4_messagesInLines 11 = .ok (.istore 4, 2) := by decide +kernel
theorem dX4_messagesInLines_13 : decode cX4_messagesInLines 13 = .ok (.iload 4, 2) := by decide +kernel
theorem dX4_messagesInLines_15 : decode cX4_messagesInLines 15 = .ok (.iload_n 3, 1) := by decide +kernel
theorem dX4_messagesInLines_16 : decode cX4_messagesInLines 16 = .ok (.if_icmp .ge 23, 3) := by decide +kernel
theorem dX4_messagesInLines_19 : decode cX4_messagesInLines 19 = .ok (.aload_n 2, 1) := by decide +kernel
theorem dX4_messagesInLines_20 : decode cX4_messagesInLines 20 = .ok (.iload 4, 2) := by decide +kernel
theorem dX4_messagesInLines_22 : decode cX4_messagesInLines 22 = .ok (.aaload, 1) := by decide +kernel
theorem dX4_messagesInLines_23 : decode cX4_messagesInLines 23 = .ok (.astore 5, 2) := by decide +kernel
theorem dX4_messagesInLines_25 : decode cX4_messagesInLines 25 = .ok (.iload_n 1, 1) := by decide +kernel
theorem dX4_messagesInLines_26 : decode cX4_messagesInLines 26 = .ok (.aload 5, 2) := by decide +kernel
theorem dX4_messagesInLines_28 : decode cX4_messagesInLines 28 = .ok (.getfield 82, 3) := by decide +kernel
theorem dX4_messagesInLines_31 : decode cX4_messagesInLines 31 = .ok (.iadd, 1) := by decide +kernel
theorem dX4_messagesInLines_32 : decode cX4_messagesInLines 32 = .ok (.istore_n 1, 1) := by decide +kernel
theorem dX4_messagesInLines_33 : decode cX4_messagesInLines 33 = .ok (.iinc 4 1, 3) := by decide +kernel
theorem dX4_messagesInLines_36 : decode cX4_messagesInLines 36 = .ok (.goto (-23), 3) := by decide +kernel
theorem dX4_messagesInLines_39 : decode cX4_messagesInLines 39 = .ok (.iload_n 1, 1) := by decide +kernel
theorem dX4_messagesInLines_40 : decode cX4_messagesInLines 40 = .ok (.ireturn, 1) := by decide +kernel
theorem dX4_messagesThatCame_0 : decode cX4_messagesThatCame 0 = .ok (.iconst 0, 1) := by decide +kernel
theorem dX4_messagesThatCame_1 : decode cX4_messagesThatCame 1 = .ok (.istore_n 1, 1) := by decide +kernel
theorem dX4_messagesThatCame_2 : decode cX4_messagesThatCame 2 = .ok (.aload_n 0, 1) := by decide +kernel
theorem dX4_messagesThatCame_3 : decode cX4_messagesThatCame 3 = .ok (.getfield 11, 3) := by decide +kernel
theorem dX4_messagesThatCame_6 : decode cX4_messagesThatCame 6 = .ok (.astore_n 2, 1) := by decide +kernel
theorem dX4_messagesThatCame_7 : decode cX4_messagesThatCame 7 = .ok (.aload_n 2, 1) := by decide +kernel
theorem dX4_messagesThatCame_8 : decode cX4_messagesThatCame 8 = .ok (.arraylength, 1) := by decide +kernel
theorem dX4_messagesThatCame_9 : decode cX4_messagesThatCame 9 = .ok (.istore_n 3, 1) := by decide +kernel
theorem dX4_messagesThatCame_10 : decode cX4_messagesThatCame 10 = .ok (.iconst 0, 1) := by decide +kernel
theorem dX4_messagesThatCame_11 : decode cX4_messagesThatCame 11 = .ok (.istore 4, 2) := by decide +kernel
theorem dX4_messagesThatCame_13 : decode cX4_messagesThatCame 13 = .ok (.iload 4, 2) := by decide +kernel
theorem dX4_messagesThatCame_15 : decode cX4_messagesThatCame 15 = .ok (.iload_n 3, 1) := by decide +kernel
theorem dX4_messagesThatCame_16 : decode cX4_messagesThatCame 16 = .ok (.if_icmp .ge 23, 3) := by decide +kernel
theorem dX4_messagesThatCame_19 : decode cX4_messagesThatCame 19 = .ok (.aload_n 2, 1) := by decide +kernel
theorem dX4_messagesThatCame_20 : decode cX4_messagesThatCame 20 = .ok (.iload 4, 2) := by decide +kernel
theorem dX4_messagesThatCame_22 : decode cX4_messagesThatCame 22 = .ok (.aaload, 1) := by decide +kernel
theorem dX4_messagesThatCame_23 : decode cX4_messagesThatCame 23 = .ok (.astore 5, 2) := by decide +kernel
theorem dX4_messagesThatCame_25 : decode cX4_messagesThatCame 25 = .ok (.iload_n 1, 1) := by decide +kernel
theorem dX4_messagesThatCame_26 : decode cX4_messagesThatCame 26 = .ok (.aload 5, 2) := by decide +kernel
theorem dX4_messagesThatCame_28 : decode cX4_messagesThatCame 28 = .ok (.getfield 208, 3) := by decide +kernel
theorem dX4_messagesThatCame_31 : decode cX4_messagesThatCame 31 = .ok (.iadd, 1) := by decide +kernel
theorem dX4_messagesThatCame_32 : decode cX4_messagesThatCame 32 = .ok (.istore_n 1, 1) := by decide +kernel
theorem dX4_messagesThatCame_33 : decode cX4_messagesThatCame 33 = .ok (.iinc 4 1, 3) := by decide +kernel
theorem dX4_messagesThatCame_36 : decode cX4_messagesThatCame 36 = .ok (.goto (-23), 3) := by decide +kernel
theorem dX4_messagesThatCame_39 : decode cX4_messagesThatCame 39 = .ok (.iload_n 1, 1) := by decide +kernel
theorem dX4_messagesThatCame_40 : decode cX4_messagesThatCame 40 = .ok (.ireturn, 1) := by decide +kernel
theorem dX4_cameFrom_0 : decode cX4_cameFrom 0 = .ok (.iload_n 1, 1) := by decide +kernel
theorem dX4_cameFrom_1 : decode cX4_cameFrom 1 = .ok (.aload_n 0, 1) := by decide +kernel
theorem dX4_cameFrom_2 : decode cX4_cameFrom 2 = .ok (.getfield 11, 3) := by decide +kernel
theorem dX4_cameFrom_5 : decode cX4_cameFrom 5 = .ok (.arraylength, 1) := by decide +kernel
theorem dX4_cameFrom_6 : decode cX4_cameFrom 6 = .ok (.invokestatic 78, 3) := by decide +kernel
theorem dX4_cameFrom_9 : decode cX4_cameFrom 9 = .ok (.ifCond .eq 15, 3) := by decide +kernel
theorem dX4_cameFrom_12 : decode cX4_cameFrom 12 = .ok (.aload_n 0, 1) := by decide +kernel
theorem dX4_cameFrom_13 : decode cX4_cameFrom 13 = .ok (.getfield 11, 3) := by decide +kernel
theorem dX4_cameFrom_16 : decode cX4_cameFrom 16 = .ok (.iload_n 1, 1) := by decide +kernel
theorem dX4_cameFrom_17 : decode cX4_cameFrom 17 = .ok (.aaload, 1) := by decide +kernel
theorem dX4_cameFrom_18 : decode cX4_cameFrom 18 = .ok (.getfield 208, 3) := by decide +kernel
theorem dX4_cameFrom_21 : decode cX4_cameFrom 21 = .ok (.goto 4, 3) := by decide +kernel
theorem dX4_cameFrom_24 : decode cX4_cameFrom 24 = .ok (.iconst 0, 1) := by decide +kernel
theorem dX4_cameFrom_25 : decode cX4_cameFrom 25 = .ok (.ireturn, 1) := by decide +kernel
theorem dX4_isIn_0 : decode cX4_isIn 0 = .ok (.iload_n 0, 1) := by decide +kernel
theorem dX4_isIn_1 : decode cX4_isIn 1 = .ok (.iload_n 1, 1) := by decide +kernel
theorem dX4_isIn_2 : decode cX4_isIn 2 = .ok (.ishr, 1) := by decide +kernel
theorem dX4_isIn_3 : decode cX4_isIn 3 = .ok (.iconst 1, 1) := by decide +kernel
theorem dX4_isIn_4 : decode cX4_isIn 4 = .ok (.iand, 1) := by decide +kernel
theorem dX4_isIn_5 : decode cX4_isIn 5 = .ok (.iconst 1, 1) := by decide +kernel
theorem dX4_isIn_6 : decode cX4_isIn 6 = .ok (.if_icmp .ne 7, 3) := by decide +kernel
theorem dX4_isIn_9 : decode cX4_isIn 9 = .ok (.iconst 1, 1) := by decide +kernel
theorem dX4_isIn_10 : decode cX4_isIn 10 = .ok (.goto 4, 3) := by decide +kernel
theorem dX4_isIn_13 : decode cX4_isIn 13 = .ok (.iconst 0, 1) := by decide +kernel
theorem dX4_isIn_14 : decode cX4_isIn 14 = .ok (.ireturn, 1) := by decide +kernel
theorem dX4_talkers_0 : decode cX4_talkers 0 = .ok (.iconst 0, 1) := by decide +kernel
theorem dX4_talkers_1 : decode cX4_talkers 1 = .ok (.istore_n 1, 1) := by decide +kernel
theorem dX4_talkers_2 : decode cX4_talkers 2 = .ok (.iconst 0, 1) := by decide +kernel
theorem dX4_talkers_3 : decode cX4_talkers 3 = .ok (.istore_n 2, 1) := by decide +kernel
theorem dX4_talkers_4 : decode cX4_talkers 4 = .ok (.iload_n 2, 1) := by decide +kernel
theorem dX4_talkers_5 : decode cX4_talkers 5 = .ok (.aload_n 0, 1) := by decide +kernel
theorem dX4_talkers_6 : decode cX4_talkers 6 = .ok (.getfield 11, 3) := by decide +kernel
theorem dX4_talkers_9 : decode cX4_talkers 9 = .ok (.arraylength, 1) := by decide +kernel
theorem dX4_talkers_10 : decode cX4_talkers 10 = .ok (.if_icmp .ge 31, 3) := by decide +kernel
theorem dX4_talkers_13 : decode cX4_talkers 13 = .ok (.iload_n 1, 1) := by decide +kernel
theorem dX4_talkers_14 : decode cX4_talkers 14 = .ok (.aload_n 0, 1) := by decide +kernel
theorem dX4_talkers_15 : decode cX4_talkers 15 = .ok (.getfield 11, 3) := by decide +kernel
theorem dX4_talkers_18 : decode cX4_talkers 18 = .ok (.iload_n 2, 1) := by decide +kernel
theorem dX4_talkers_19 : decode cX4_talkers 19 = .ok (.aaload, 1) := by decide +kernel
theorem dX4_talkers_20 : decode cX4_talkers 20 = .ok (.getfield 89, 3) := by decide +kernel
theorem dX4_talkers_23 : decode cX4_talkers 23 = .ok (.ifCond .eq 9, 3) := by decide +kernel
theorem dX4_talkers_26 : decode cX4_talkers 26 = .ok (.iconst 1, 1) := by decide +kernel
theorem dX4_talkers_27 : decode cX4_talkers 27 = .ok (.iload_n 2, 1) := by decide +kernel
theorem dX4_talkers_28 : decode cX4_talkers 28 = .ok (.ishl, 1) := by decide +kernel
theorem dX4_talkers_29 : decode cX4_talkers 29 = .ok (.goto 4, 3) := by decide +kernel
theorem dX4_talkers_32 : decode cX4_talkers 32 = .ok (.iconst 0, 1) := by decide +kernel
theorem dX4_talkers_33 : decode cX4_talkers 33 = .ok (.ior, 1) := by decide +kernel
theorem dX4_talkers_34 : decode cX4_talkers 34 = .ok (.istore_n 1, 1) := by decide +kernel
theorem dX4_talkers_35 : decode cX4_talkers 35 = .ok (.iinc 2 1, 3) := by decide +kernel
theorem dX4_talkers_38 : decode cX4_talkers 38 = .ok (.goto (-34), 3) := by decide +kernel
theorem dX4_talkers_41 : decode cX4_talkers 41 = .ok (.iload_n 1, 1) := by decide +kernel
theorem dX4_talkers_42 : decode cX4_talkers 42 = .ok (.ireturn, 1) := by decide +kernel
theorem dX4_speakersWithMessage_0 : decode cX4_speakersWithMessage 0 = .ok (.iconst 0, 1) := by decide +kernel
theorem dX4_speakersWithMessage_1 : decode cX4_speakersWithMessage 1 = .ok (.istore_n 1, 1) := by decide +kernel
theorem dX4_speakersWithMessage_2 : decode cX4_speakersWithMessage 2 = .ok (.iconst 0, 1) := by decide +kernel
theorem dX4_speakersWithMessage_3 : decode cX4_speakersWithMessage 3 = .ok (.istore_n 2, 1) := by decide +kernel
theorem dX4_speakersWithMessage_4 : decode cX4_speakersWithMessage 4 = .ok (.iload_n 2, 1) := by decide +kernel
theorem dX4_speakersWithMessage_5 : decode cX4_speakersWithMessage 5 = .ok (.aload_n 0, 1) := by decide +kernel
theorem dX4_speakersWithMessage_6 : decode cX4_speakersWithMessage 6 = .ok (.getfield 11, 3) := by decide +kernel
theorem dX4_speakersWithMessage_9 : decode cX4_speakersWithMessage 9 = .ok (.arraylength, 1) := by decide +kernel
theorem dX4_speakersWithMessage_10 : decode cX4_speakersWithMessage 10 = .ok (.if_icmp .ge 31, 3) := by decide +kernel
theorem dX4_speakersWithMessage_13 : decode cX4_speakersWithMessage 13 = .ok (.iload_n 1, 1) := by decide +kernel
theorem dX4_speakersWithMessage_14 : decode cX4_speakersWithMessage 14 = .ok (.aload_n 0, 1) := by decide +kernel
theorem dX4_speakersWithMessage_15 : decode cX4_speakersWithMessage 15 = .ok (.getfield 11, 3) := by decide +kernel
theorem dX4_speakersWithMessage_18 : decode cX4_speakersWithMessage 18 = .ok (.iload_n 2, 1) := by decide +kernel
theorem dX4_speakersWithMessage_19 : decode cX4_speakersWithMessage 19 = .ok (.aaload, 1) := by decide +kernel
theorem dX4_speakersWithMessage_20 : decode cX4_speakersWithMessage 20 = .ok (.getfield 82, 3) := by decide +kernel
theorem dX4_speakersWithMessage_23 : decode cX4_speakersWithMessage 23 = .ok (.ifCond .le 9, 3) := by decide +kernel
theorem dX4_speakersWithMessage_26 : decode cX4_speakersWithMessage 26 = .ok (.iconst 1, 1) := by decide +kernel
theorem dX4_speakersWithMessage_27 : decode cX4_speakersWithMessage 27 = .ok (.iload_n 2, 1) := by decide +kernel
theorem dX4_speakersWithMessage_28 : decode cX4_speakersWithMessage 28 = .ok (.ishl, 1) := by decide +kernel
theorem dX4_speakersWithMessage_29 : decode cX4_speakersWithMessage 29 = .ok (.goto 4, 3) := by decide +kernel
theorem dX4_speakersWithMessage_32 : decode cX4_speakersWithMessage 32 = .ok (.iconst 0, 1) := by decide +kernel
theorem dX4_speakersWithMessage_33 : decode cX4_speakersWithMessage 33 = .ok (.ior, 1) := by decide +kernel
theorem dX4_speakersWithMessage_34 : decode cX4_speakersWithMessage 34 = .ok (.istore_n 1, 1) := by decide +kernel
theorem dX4_speakersWithMessage_35 : decode cX4_speakersWithMessage 35 = .ok (.iinc 2 1, 3) := by decide +kernel
theorem dX4_speakersWithMessage_38 : decode cX4_speakersWithMessage 38 = .ok (.goto (-34), 3) := by decide +kernel
theorem dX4_speakersWithMessage_41 : decode cX4_speakersWithMessage 41 = .ok (.iload_n 1, 1) := by decide +kernel
theorem dX4_speakersWithMessage_42 : decode cX4_speakersWithMessage 42 = .ok (.ireturn, 1) := by decide +kernel
theorem dX4_sendersOf_0 : decode cX4_sendersOf 0 = .ok (.iload_n 2, 1) := by decide +kernel
theorem dX4_sendersOf_1 : decode cX4_sendersOf 1 = .ok (.bipush 9, 2) := by decide +kernel
theorem dX4_sendersOf_3 : decode cX4_sendersOf 3 = .ok (.idiv, 1) := by decide +kernel
theorem dX4_sendersOf_4 : decode cX4_sendersOf 4 = .ok (.istore 4, 2) := by decide +kernel
theorem dX4_sendersOf_6 : decode cX4_sendersOf 6 = .ok (.bipush 7, 2) := by decide +kernel
theorem dX4_sendersOf_8 : decode cX4_sendersOf 8 = .ok (.iload_n 2, 1) := by decide +kernel
theorem dX4_sendersOf_9 : decode cX4_sendersOf 9 = .ok (.bipush 9, 2) := by decide +kernel
theorem dX4_sendersOf_11 : decode cX4_sendersOf 11 = .ok (.irem, 1) := by decide +kernel
theorem dX4_sendersOf_12 : decode cX4_sendersOf 12 = .ok (.isub, 1) := by decide +kernel
theorem dX4_sendersOf_13 : decode cX4_sendersOf 13 = .ok (.istore 5, 2) := by decide +kernel
theorem dX4_sendersOf_15 : decode cX4_sendersOf 15 = .ok (.iconst 0, 1) := by decide +kernel
theorem dX4_sendersOf_16 : decode cX4_sendersOf 16 = .ok (.istore 6, 2) := by decide +kernel
theorem dX4_sendersOf_18 : decode cX4_sendersOf 18 = .ok (.iconst 0, 1) := by decide +kernel
theorem dX4_sendersOf_19 : decode cX4_sendersOf 19 = .ok (.istore 7, 2) := by decide +kernel
theorem dX4_sendersOf_21 : decode cX4_sendersOf 21 = .ok (.iload 7, 2) := by decide +kernel
theorem dX4_sendersOf_23 : decode cX4_sendersOf 23 = .ok (.aload_n 0, 1) := by decide +kernel
theorem dX4_sendersOf_24 : decode cX4_sendersOf 24 = .ok (.getfield 11, 3) := by decide +kernel
theorem dX4_sendersOf_27 : decode cX4_sendersOf 27 = .ok (.arraylength, 1) := by decide +kernel
theorem dX4_sendersOf_28 : decode cX4_sendersOf 28 = .ok (.if_icmp .ge 57, 3) := by decide +kernel
theorem dX4_sendersOf_31 : decode cX4_sendersOf 31 = .ok (.aload_n 0, 1) := by decide +kernel
theorem dX4_sendersOf_32 : decode cX4_sendersOf 32 = .ok (.getfield 11, 3) := by decide +kernel
theorem dX4_sendersOf_35 : decode cX4_sendersOf 35 = .ok (.iload 7, 2) := by decide +kernel
theorem dX4_sendersOf_37 : decode cX4_sendersOf 37 = .ok (.aaload, 1) := by decide +kernel
theorem dX4_sendersOf_38 : decode cX4_sendersOf 38 = .ok (.iconst 0, 1) := by decide +kernel
theorem dX4_sendersOf_39 : decode cX4_sendersOf 39 = .ok (.iload 4, 2) := by decide +kernel
theorem dX4_sendersOf_41 : decode cX4_sendersOf 41 = .ok (.invokevirtual 211, 3) := by decide +kernel
theorem dX4_sendersOf_44 : decode cX4_sendersOf 44 = .ok (.iload 5, 2) := by decide +kernel
theorem dX4_sendersOf_46 : decode cX4_sendersOf 46 = .ok (.ishr, 1) := by decide +kernel
theorem dX4_sendersOf_47 : decode cX4_sendersOf 47 = .ok (.iconst 1, 1) := by decide +kernel
theorem dX4_sendersOf_48 : decode cX4_sendersOf 48 = .ok (.iand, 1) := by decide +kernel
theorem dX4_sendersOf_49 : decode cX4_sendersOf 49 = .ok (.istore 8, 2) := by decide +kernel
theorem dX4_sendersOf_51 : decode cX4_sendersOf 51 = .ok (.iload 6, 2) := by decide +kernel
theorem dX4_sendersOf_53 : decode cX4_sendersOf 53 = .ok (.iload_n 1, 1) := by decide +kernel
theorem dX4_sendersOf_54 : decode cX4_sendersOf 54 = .ok (.iload 7, 2) := by decide +kernel
theorem dX4_sendersOf_56 : decode cX4_sendersOf 56 = .ok (.invokestatic 203, 3) := by decide +kernel
theorem dX4_sendersOf_59 : decode cX4_sendersOf 59 = .ok (.ifCond .eq 16, 3) := by decide +kernel
theorem dX4_sendersOf_62 : decode cX4_sendersOf 62 = .ok (.iload 8, 2) := by decide +kernel
theorem dX4_sendersOf_64 : decode cX4_sendersOf 64 = .ok (.iload_n 3, 1) := by decide +kernel
theorem dX4_sendersOf_65 : decode cX4_sendersOf 65 = .ok (.if_icmp .ne 10, 3) := by decide +kernel
theorem dX4_sendersOf_68 : decode cX4_sendersOf 68 = .ok (.iconst 1, 1) := by decide +kernel
theorem dX4_sendersOf_69 : decode cX4_sendersOf 69 = .ok (.iload 7, 2) := by decide +kernel
theorem dX4_sendersOf_71 : decode cX4_sendersOf 71 = .ok (.ishl, 1) := by decide +kernel
theorem dX4_sendersOf_72 : decode cX4_sendersOf 72 = .ok (.goto 4, 3) := by decide +kernel
theorem dX4_sendersOf_75 : decode cX4_sendersOf 75 = .ok (.iconst 0, 1) := by decide +kernel
theorem dX4_sendersOf_76 : decode cX4_sendersOf 76 = .ok (.ior, 1) := by decide +kernel
theorem dX4_sendersOf_77 : decode cX4_sendersOf 77 = .ok (.istore 6, 2) := by decide +kernel
theorem dX4_sendersOf_79 : decode cX4_sendersOf 79 = .ok (.iinc 7 1, 3) := by decide +kernel
theorem dX4_sendersOf_82 : decode cX4_sendersOf 82 = .ok (.goto (-61), 3) := by decide +kernel
theorem dX4_sendersOf_85 : decode cX4_sendersOf 85 = .ok (.iload 6, 2) := by decide +kernel
theorem dX4_sendersOf_87 : decode cX4_sendersOf 87 = .ok (.ireturn, 1) := by decide +kernel
theorem dX4_endsAt_0 : decode cX4_endsAt 0 = .ok (.aload_n 0, 1) := by decide +kernel
theorem dX4_endsAt_1 : decode cX4_endsAt 1 = .ok (.iconst 0, 1) := by decide +kernel
theorem dX4_endsAt_2 : decode cX4_endsAt 2 = .ok (.invokevirtual 214, 3) := by decide +kernel
theorem dX4_endsAt_5 : decode cX4_endsAt 5 = .ok (.bipush 9, 2) := by decide +kernel
theorem dX4_endsAt_7 : decode cX4_endsAt 7 = .ok (.imul, 1) := by decide +kernel
theorem dX4_endsAt_8 : decode cX4_endsAt 8 = .ok (.iload_n 1, 1) := by decide +kernel
theorem dX4_endsAt_9 : decode cX4_endsAt 9 = .ok (.iconst 1, 1) := by decide +kernel
theorem dX4_endsAt_10 : decode cX4_endsAt 10 = .ok (.iadd, 1) := by decide +kernel
theorem dX4_endsAt_11 : decode cX4_endsAt 11 = .ok (.if_icmp .ne 7, 3) := by decide +kernel
theorem dX4_endsAt_14 : decode cX4_endsAt 14 = .ok (.iconst 1, 1) := by decide +kernel
theorem dX4_endsAt_15 : decode cX4_endsAt 15 = .ok (.goto 4, 3) := by decide +kernel
theorem dX4_endsAt_18 : decode cX4_endsAt 18 = .ok (.iconst 0, 1) := by decide +kernel
theorem dX4_endsAt_19 : decode cX4_endsAt 19 = .ok (.ireturn, 1) := by decide +kernel
theorem dX4_endingAt_0 : decode cX4_endingAt 0 = .ok (.iconst 0, 1) := by decide +kernel
theorem dX4_endingAt_1 : decode cX4_endingAt 1 = .ok (.istore_n 3, 1) := by decide +kernel
theorem dX4_endingAt_2 : decode cX4_endingAt 2 = .ok (.iconst 0, 1) := by decide +kernel
theorem dX4_endingAt_3 : decode cX4_endingAt 3 = .ok (.istore 4, 2) := by decide +kernel
theorem dX4_endingAt_5 : decode cX4_endingAt 5 = .ok (.iload 4, 2) := by decide +kernel
theorem dX4_endingAt_7 : decode cX4_endingAt 7 = .ok (.aload_n 0, 1) := by decide +kernel
theorem dX4_endingAt_8 : decode cX4_endingAt 8 = .ok (.getfield 11, 3) := by decide +kernel
theorem dX4_endingAt_11 : decode cX4_endingAt 11 = .ok (.arraylength, 1) := by decide +kernel
theorem dX4_endingAt_12 : decode cX4_endingAt 12 = .ok (.if_icmp .ge 43, 3) := by decide +kernel
theorem dX4_endingAt_15 : decode cX4_endingAt 15 = .ok (.iload_n 3, 1) := by decide +kernel
theorem dX4_endingAt_16 : decode cX4_endingAt 16 = .ok (.iload_n 1, 1) := by decide +kernel
theorem dX4_endingAt_17 : decode cX4_endingAt 17 = .ok (.iload 4, 2) := by decide +kernel
theorem dX4_endingAt_19 : decode cX4_endingAt 19 = .ok (.invokestatic 203, 3) := by decide +kernel
theorem dX4_endingAt_22 : decode cX4_endingAt 22 = .ok (.ifCond .eq 24, 3) := by decide +kernel
theorem dX4_endingAt_25 : decode cX4_endingAt 25 = .ok (.aload_n 0, 1) := by decide +kernel
theorem dX4_endingAt_26 : decode cX4_endingAt 26 = .ok (.getfield 11, 3) := by decide +kernel
theorem dX4_endingAt_29 : decode cX4_endingAt 29 = .ok (.iload 4, 2) := by decide +kernel
theorem dX4_endingAt_31 : decode cX4_endingAt 31 = .ok (.aaload, 1) := by decide +kernel
theorem dX4_endingAt_32 : decode cX4_endingAt 32 = .ok (.iload_n 2, 1) := by decide +kernel
theorem dX4_endingAt_33 : decode cX4_endingAt 33 = .ok (.invokestatic 193, 3) := by decide +kernel
theorem dX4_endingAt_36 : decode cX4_endingAt 36 = .ok (.ifCond .eq 10, 3) := by decide +kernel
theorem dX4_endingAt_39 : decode cX4_endingAt 39 = .ok (.iconst 1, 1) := by decide +kernel
theorem dX4_endingAt_40 : decode cX4_endingAt 40 = .ok (.iload 4, 2) := by decide +kernel
theorem dX4_endingAt_42 : decode cX4_endingAt 42 = .ok (.ishl, 1) := by decide +kernel
theorem dX4_endingAt_43 : decode cX4_endingAt 43 = .ok (.goto 4, 3) := by decide +kernel
theorem dX4_endingAt_46 : decode cX4_endingAt 46 = .ok (.iconst 0, 1) := by decide +kernel
theorem dX4_endingAt_47 : decode cX4_endingAt 47 = .ok (.ior, 1) := by decide +kernel
theorem dX4_endingAt_48 : decode cX4_endingAt 48 = .ok (.istore_n 3, 1) := by decide +kernel
theorem dX4_endingAt_49 : decode cX4_endingAt 49 = .ok (.iinc 4 1, 3) := by decide +kernel
theorem dX4_endingAt_52 : decode cX4_endingAt 52 = .ok (.goto (-47), 3) := by decide +kernel
theorem dX4_endingAt_55 : decode cX4_endingAt 55 = .ok (.iload_n 3, 1) := by decide +kernel
theorem dX4_endingAt_56 : decode cX4_endingAt 56 = .ok (.ireturn, 1) := by decide +kernel
theorem dX4_partOfTalk_0 : decode cX4_partOfTalk 0 = .ok (.aload_n 0, 1) := by decide +kernel
theorem dX4_partOfTalk_1 : decode cX4_partOfTalk 1 = .ok (.getfield 11, 3) := by decide +kernel
theorem dX4_partOfTalk_4 : decode cX4_partOfTalk 4 = .ok (.astore_n 2, 1) := by decide +kernel
theorem dX4_partOfTalk_5 : decode cX4_partOfTalk 5 = .ok (.aload_n 2, 1) := by decide +kernel
theorem dX4_partOfTalk_6 : decode cX4_partOfTalk 6 = .ok (.arraylength, 1) := by decide +kernel
theorem dX4_partOfTalk_7 : decode cX4_partOfTalk 7 = .ok (.istore_n 3, 1) := by decide +kernel
theorem dX4_partOfTalk_8 : decode cX4_partOfTalk 8 = .ok (.iconst 0, 1) := by decide +kernel
theorem dX4_partOfTalk_9 : decode cX4_partOfTalk 9 = .ok (.istore 4, 2) := by decide +kernel
theorem dX4_partOfTalk_11 : decode cX4_partOfTalk 11 = .ok (.iload 4, 2) := by decide +kernel
theorem dX4_partOfTalk_13 : decode cX4_partOfTalk 13 = .ok (.iload_n 3, 1) := by decide +kernel
theorem dX4_partOfTalk_14 : decode cX4_partOfTalk 14 = .ok (.if_icmp .ge 31, 3) := by decide +kernel
theorem dX4_partOfTalk_17 : decode cX4_partOfTalk 17 = .ok (.aload_n 2, 1) := by decide +kernel
theorem dX4_partOfTalk_18 : decode cX4_partOfTalk 18 = .ok (.iload 4, 2) := by decide +kernel
theorem dX4_partOfTalk_20 : decode cX4_partOfTalk 20 = .ok (.aaload, 1) := by decide +kernel
theorem dX4_partOfTalk_21 : decode cX4_partOfTalk 21 = .ok (.astore 5, 2) := by decide +kernel
theorem dX4_partOfTalk_23 : decode cX4_partOfTalk 23 = .ok (.aload 5, 2) := by decide +kernel
theorem dX4_partOfTalk_25 : decode cX4_partOfTalk 25 = .ok (.getfield 89, 3) := by decide +kernel
theorem dX4_partOfTalk_28 : decode cX4_partOfTalk 28 = .ok (.ifCond .eq 11, 3) := by decide +kernel
theorem dX4_partOfTalk_31 : decode cX4_partOfTalk 31 = .ok (.aload 5, 2) := by decide +kernel
theorem dX4_partOfTalk_33 : decode cX4_partOfTalk 33 = .ok (.iconst 0, 1) := by decide +kernel
theorem dX4_partOfTalk_34 : decode cX4_partOfTalk 34 = .ok (.iload_n 1, 1) := by decide +kernel
theorem dX4_partOfTalk_35 : decode cX4_partOfTalk 35 = .ok (.invokevirtual 211, 3) := by decide +kernel
theorem dX4_partOfTalk_38 : decode cX4_partOfTalk 38 = .ok (.ireturn, 1) := by decide +kernel
theorem dX4_partOfTalk_39 : decode cX4_partOfTalk 39 = .ok (.iinc 4 1, 3) := by decide +kernel
theorem dX4_partOfTalk_42 : decode cX4_partOfTalk 42 = .ok (.goto (-31), 3) := by decide +kernel
theorem dX4_partOfTalk_45 : decode cX4_partOfTalk 45 = .ok (.bipush (-5), 2) := by decide +kernel
theorem dX4_partOfTalk_47 : decode cX4_partOfTalk 47 = .ok (.ireturn, 1) := by decide +kernel
theorem dX5_init_0 : decode cX5_init 0 = .ok (.aload_n 0, 1) := by decide +kernel
theorem dX5_init_1 : decode cX5_init 1 = .ok (.invokespecial 1, 3) := by decide +kernel
theorem dX5_init_4 : decode cX5_init 4 = .ok (.aload_n 0, 1) := by decide +kernel
theorem dX5_init_5 : decode cX5_init 5 = .ok (.new 7, 3) := by decide +kernel
theorem dX5_init_8 : decode cX5_init 8 = .ok (.dup, 1) := by decide +kernel
theorem dX5_init_9 : decode cX5_init 9 = .ok (.invokespecial 9, 3) := by decide +kernel
theorem dX5_init_12 : decode cX5_init 12 = .ok (.putfield 10, 3) := by decide +kernel
theorem dX5_init_15 : decode cX5_init 15 = .ok (.aload_n 0, 1) := by decide +kernel
theorem dX5_init_16 : decode cX5_init 16 = .ok (.new 7, 3) := by decide +kernel
theorem dX5_init_19 : decode cX5_init 19 = .ok (.dup, 1) := by decide +kernel
theorem dX5_init_20 : decode cX5_init 20 = .ok (.invokespecial 9, 3) := by decide +kernel
theorem dX5_init_23 : decode cX5_init 23 = .ok (.putfield 16, 3) := by decide +kernel
theorem dX5_init_26 : decode cX5_init 26 = .ok (.aload_n 0, 1) := by decide +kernel
theorem dX5_init_27 : decode cX5_init 27 = .ok (.iconst 4, 1) := by decide +kernel
theorem dX5_init_28 : decode cX5_init 28 = .ok (.anewarray 7, 3) := by decide +kernel
theorem dX5_init_31 : decode cX5_init 31 = .ok (.putfield 19, 3) := by decide +kernel
theorem dX5_init_34 : decode cX5_init 34 = .ok (.aload_n 0, 1) := by decide +kernel
theorem dX5_init_35 : decode cX5_init 35 = .ok (.new 23, 3) := by decide +kernel
theorem dX5_init_38 : decode cX5_init 38 = .ok (.dup, 1) := by decide +kernel
theorem dX5_init_39 : decode cX5_init 39 = .ok (.invokespecial 25, 3) := by decide +kernel
theorem dX5_init_42 : decode cX5_init 42 = .ok (.putfield 26, 3) := by decide +kernel
theorem dX5_init_45 : decode cX5_init 45 = .ok (.aload_n 0, 1) := by decide +kernel
theorem dX5_init_46 : decode cX5_init 46 = .ok (.new 7, 3) := by decide +kernel
theorem dX5_init_49 : decode cX5_init 49 = .ok (.dup, 1) := by decide +kernel
theorem dX5_init_50 : decode cX5_init 50 = .ok (.invokespecial 9, 3) := by decide +kernel
theorem dX5_init_53 : decode cX5_init 53 = .ok (.putfield 30, 3) := by decide +kernel
theorem dX5_init_56 : decode cX5_init 56 = .ok (.aload_n 0, 1) := by decide +kernel
theorem dX5_init_57 : decode cX5_init 57 = .ok (.bipush (-5), 2) := by decide +kernel
theorem dX5_init_59 : decode cX5_init 59 = .ok (.putfield 33, 3) := by decide +kernel
theorem dX5_init_62 : decode cX5_init 62 = .ok (.aload_n 0, 1) := by decide +kernel
theorem dX5_init_63 : decode cX5_init 63 = .ok (.bipush (-5), 2) := by decide +kernel
theorem dX5_init_65 : decode cX5_init 65 = .ok (.putfield 37, 3) := by decide +kernel
theorem dX5_init_68 : decode cX5_init 68 = .ok (.iconst 0, 1) := by decide +kernel
theorem dX5_init_69 : decode cX5_init 69 = .ok (.istore_n 1, 1) := by decide +kernel
theorem dX5_init_70 : decode cX5_init 70 = .ok (.iload_n 1, 1) := by decide +kernel
theorem dX5_init_71 : decode cX5_init 71 = .ok (.aload_n 0, 1) := by decide +kernel
theorem dX5_init_72 : decode cX5_init 72 = .ok (.getfield 19, 3) := by decide +kernel
theorem dX5_init_75 : decode cX5_init 75 = .ok (.arraylength, 1) := by decide +kernel
theorem dX5_init_76 : decode cX5_init 76 = .ok (.if_icmp .ge 22, 3) := by decide +kernel
theorem dX5_init_79 : decode cX5_init 79 = .ok (.aload_n 0, 1) := by decide +kernel
theorem dX5_init_80 : decode cX5_init 80 = .ok (.getfield 19, 3) := by decide +kernel
theorem dX5_init_83 : decode cX5_init 83 = .ok (.iload_n 1, 1) := by decide +kernel
theorem dX5_init_84 : decode cX5_init 84 = .ok (.new 7, 3) := by decide +kernel
theorem dX5_init_87 : decode cX5_init 87 = .ok (.dup, 1) := by decide +kernel
theorem dX5_init_88 : decode cX5_init 88 = .ok (.invokespecial 9, 3) := by decide +kernel
theorem dX5_init_91 : decode cX5_init 91 = .ok (.aastore, 1) := by decide +kernel
theorem dX5_init_92 : decode cX5_init 92 = .ok (.iinc 1 1, 3) := by decide +kernel
theorem dX5_init_95 : decode cX5_init 95 = .ok (.goto (-25), 3) := by decide +kernel
theorem dX5_init_98 : decode cX5_init 98 = .ok (.return_, 1) := by decide +kernel
theorem dX5_say_0 : decode cX5_say 0 = .ok (.aload_n 0, 1) := by decide +kernel
theorem dX5_say_1 : decode cX5_say 1 = .ok (.getfield 30, 3) := by decide +kernel
theorem dX5_say_4 : decode cX5_say 4 = .ok (.aload_n 0, 1) := by decide +kernel
theorem dX5_say_5 : decode cX5_say 5 = .ok (.getfield 10, 3) := by decide +kernel
theorem dX5_say_8 : decode cX5_say 8 = .ok (.invokevirtual 40, 3) := by decide +kernel
theorem dX5_say_11 : decode cX5_say 11 = .ok (.aload_n 0, 1) := by decide +kernel
theorem dX5_say_12 : decode cX5_say 12 = .ok (.aload_n 0, 1) := by decide +kernel
theorem dX5_say_13 : decode cX5_say 13 = .ok (.getfield 10, 3) := by decide +kernel
theorem dX5_say_16 : decode cX5_say 16 = .ok (.iload_n 1, 1) := by decide +kernel
theorem dX5_say_17 : decode cX5_say 17 = .ok (.iload_n 2, 1) := by decide +kernel
theorem dX5_say_18 : decode cX5_say 18 = .ok (.iload_n 3, 1) := by decide +kernel
theorem dX5_say_19 : decode cX5_say 19 = .ok (.iload 4, 2) := by decide +kernel
theorem dX5_say_21 : decode cX5_say 21 = .ok (.invokevirtual 44, 3) := by decide +kernel
theorem dX5_say_24 : decode cX5_say 24 = .ok (.invokevirtual 48, 3) := by decide +kernel
theorem dX5_say_27 : decode cX5_say 27 = .ok (.ireturn, 1) := by decide +kernel
theorem dX5_takeBack_0 : decode cX5_takeBack 0 = .ok (.aload_n 0, 1) := by decide +kernel
theorem dX5_takeBack_1 : decode cX5_takeBack 1 = .ok (.getfield 30, 3) := by decide +kernel
theorem dX5_takeBack_4 : decode cX5_takeBack 4 = .ok (.aload_n 0, 1) := by decide +kernel
theorem dX5_takeBack_5 : decode cX5_takeBack 5 = .ok (.getfield 10, 3) := by decide +kernel
theorem dX5_takeBack_8 : decode cX5_takeBack 8 = .ok (.invokevirtual 40, 3) := by decide +kernel
theorem dX5_takeBack_11 : decode cX5_takeBack 11 = .ok (.aload_n 0, 1) := by decide +kernel
theorem dX5_takeBack_12 : decode cX5_takeBack 12 = .ok (.aload_n 0, 1) := by decide +kernel
theorem dX5_takeBack_13 : decode cX5_takeBack 13 = .ok (.getfield 10, 3) := by decide +kernel
theorem dX5_takeBack_16 : decode cX5_takeBack 16 = .ok (.iload_n 1, 1) := by decide +kernel
theorem dX5_takeBack_17 : decode cX5_takeBack 17 = .ok (.invokevirtual 52, 3) := by decide +kernel
theorem dX5_takeBack_20 : decode cX5_takeBack 20 = .ok (.invokevirtual 48, 3) := by decide +kernel
theorem dX5_takeBack_23 : decode cX5_takeBack 23 = .ok (.ireturn, 1) := by decide +kernel
theorem dX5_hear_0 : decode cX5_hear 0 = .ok (.aload_n 0, 1) := by decide +kernel
theorem dX5_hear_1 : decode cX5_hear 1 = .ok (.getfield 30, 3) := by decide +kernel
theorem dX5_hear_4 : decode cX5_hear 4 = .ok (.aload_n 0, 1) := by decide +kernel
theorem dX5_hear_5 : decode cX5_hear 5 = .ok (.getfield 10, 3) := by decide +kernel
theorem dX5_hear_8 : decode cX5_hear 8 = .ok (.invokevirtual 40, 3) := by decide +kernel
theorem dX5_hear_11 : decode cX5_hear 11 = .ok (.aload_n 0, 1) := by decide +kernel
theorem dX5_hear_12 : decode cX5_hear 12 = .ok (.aload_n 0, 1) := by decide +kernel
theorem dX5_hear_13 : decode cX5_hear 13 = .ok (.getfield 10, 3) := by decide +kernel
theorem dX5_hear_16 : decode cX5_hear 16 = .ok (.iload_n 1, 1) := by decide +kernel
theorem dX5_hear_17 : decode cX5_hear 17 = .ok (.iload_n 2, 1) := by decide +kernel
theorem dX5_hear_18 : decode cX5_hear 18 = .ok (.invokevirtual 55, 3) := by decide +kernel
theorem dX5_hear_21 : decode cX5_hear 21 = .ok (.invokevirtual 48, 3) := by decide +kernel
theorem dX5_hear_24 : decode cX5_hear 24 = .ok (.ireturn, 1) := by decide +kernel
theorem dX5_hold_0 : decode cX5_hold 0 = .ok (.aload_n 0, 1) := by decide +kernel
theorem dX5_hold_1 : decode cX5_hold 1 = .ok (.getfield 30, 3) := by decide +kernel
theorem dX5_hold_4 : decode cX5_hold 4 = .ok (.aload_n 0, 1) := by decide +kernel
theorem dX5_hold_5 : decode cX5_hold 5 = .ok (.getfield 10, 3) := by decide +kernel
theorem dX5_hold_8 : decode cX5_hold 8 = .ok (.invokevirtual 40, 3) := by decide +kernel
theorem dX5_hold_11 : decode cX5_hold 11 = .ok (.aload_n 0, 1) := by decide +kernel
theorem dX5_hold_12 : decode cX5_hold 12 = .ok (.aload_n 0, 1) := by decide +kernel
theorem dX5_hold_13 : decode cX5_hold 13 = .ok (.getfield 10, 3) := by decide +kernel
theorem dX5_hold_16 : decode cX5_hold 16 = .ok (.iload_n 1, 1) := by decide +kernel
theorem dX5_hold_17 : decode cX5_hold 17 = .ok (.iload_n 2, 1) := by decide +kernel
theorem dX5_hold_18 : decode cX5_hold 18 = .ok (.invokevirtual 59, 3) := by decide +kernel
theorem dX5_hold_21 : decode cX5_hold 21 = .ok (.invokevirtual 48, 3) := by decide +kernel
theorem dX5_hold_24 : decode cX5_hold 24 = .ok (.ireturn, 1) := by decide +kernel
theorem dX5_stick_0 : decode cX5_stick 0 = .ok (.aload_n 0, 1) := by decide +kernel
theorem dX5_stick_1 : decode cX5_stick 1 = .ok (.getfield 30, 3) := by decide +kernel
theorem dX5_stick_4 : decode cX5_stick 4 = .ok (.aload_n 0, 1) := by decide +kernel
theorem dX5_stick_5 : decode cX5_stick 5 = .ok (.getfield 10, 3) := by decide +kernel
theorem dX5_stick_8 : decode cX5_stick 8 = .ok (.invokevirtual 40, 3) := by decide +kernel
theorem dX5_stick_11 : decode cX5_stick 11 = .ok (.aload_n 0, 1) := by decide +kernel
theorem dX5_stick_12 : decode cX5_stick 12 = .ok (.aload_n 0, 1) := by decide +kernel
theorem dX5_stick_13 : decode cX5_stick 13 = .ok (.getfield 10, 3) := by decide +kernel
theorem dX5_stick_16 : decode cX5_stick 16 = .ok (.iload_n 1, 1) := by decide +kernel
theorem dX5_stick_17 : decode cX5_stick 17 = .ok (.iload_n 2, 1) := by decide +kernel
theorem dX5_stick_18 : decode cX5_stick 18 = .ok (.invokevirtual 62, 3) := by decide +kernel
theorem dX5_stick_21 : decode cX5_stick 21 = .ok (.invokevirtual 48, 3) := by decide +kernel
theorem dX5_stick_24 : decode cX5_stick 24 = .ok (.ireturn, 1) := by decide +kernel
theorem dX5_set_0 : decode cX5_set 0 = .ok (.aload_n 0, 1) := by decide +kernel
theorem dX5_set_1 : decode cX5_set 1 = .ok (.getfield 30, 3) := by decide +kernel
theorem dX5_set_4 : decode cX5_set 4 = .ok (.aload_n 0, 1) := by decide +kernel
theorem dX5_set_5 : decode cX5_set 5 = .ok (.getfield 10, 3) := by decide +kernel
theorem dX5_set_8 : decode cX5_set 8 = .ok (.invokevirtual 40, 3) := by decide +kernel
theorem dX5_set_11 : decode cX5_set 11 = .ok (.aload_n 0, 1) := by decide +kernel
theorem dX5_set_12 : decode cX5_set 12 = .ok (.aload_n 0, 1) := by decide +kernel
theorem dX5_set_13 : decode cX5_set 13 = .ok (.getfield 10, 3) := by decide +kernel
theorem dX5_set_16 : decode cX5_set 16 = .ok (.iload_n 1, 1) := by decide +kernel
theorem dX5_set_17 : decode cX5_set 17 = .ok (.iload_n 2, 1) := by decide +kernel
theorem dX5_set_18 : decode cX5_set 18 = .ok (.invokevirtual 65, 3) := by decide +kernel
theorem dX5_set_21 : decode cX5_set 21 = .ok (.invokevirtual 48, 3) := by decide +kernel
theorem dX5_set_24 : decode cX5_set 24 = .ok (.ireturn, 1) := by decide +kernel
theorem dX5_run_0 : decode cX5_run 0 = .ok (.aload_n 0, 1) := by decide +kernel
theorem dX5_run_1 : decode cX5_run 1 = .ok (.getfield 30, 3) := by decide +kernel
theorem dX5_run_4 : decode cX5_run 4 = .ok (.aload_n 0, 1) := by decide +kernel
theorem dX5_run_5 : decode cX5_run 5 = .ok (.getfield 10, 3) := by decide +kernel
theorem dX5_run_8 : decode cX5_run 8 = .ok (.invokevirtual 40, 3) := by decide +kernel
theorem dX5_run_11 : decode cX5_run 11 = .ok (.aload_n 0, 1) := by decide +kernel
theorem dX5_run_12 : decode cX5_run 12 = .ok (.aload_n 0, 1) := by decide +kernel
theorem dX5_run_13 : decode cX5_run 13 = .ok (.getfield 10, 3) := by decide +kernel
theorem dX5_run_16 : decode cX5_run 16 = .ok (.iload_n 1, 1) := by decide +kernel
theorem dX5_run_17 : decode cX5_run 17 = .ok (.invokevirtual 68, 3) := by decide +kernel
theorem dX5_run_20 : decode cX5_run 20 = .ok (.invokevirtual 48, 3) := by decide +kernel
theorem dX5_run_23 : decode cX5_run 23 = .ok (.ireturn, 1) := by decide +kernel
theorem dX5_type_0 : decode cX5_type 0 = .ok (.aload_n 0, 1) := by decide +kernel
theorem dX5_type_1 : decode cX5_type 1 = .ok (.getfield 26, 3) := by decide +kernel
theorem dX5_type_4 : decode cX5_type 4 = .ok (.iload_n 1, 1) := by decide +kernel
theorem dX5_type_5 : decode cX5_type 5 = .ok (.invokevirtual 71, 3) := by decide +kernel
theorem dX5_type_8 : decode cX5_type 8 = .ok (.ireturn, 1) := by decide +kernel
theorem dX5_clearText_0 : decode cX5_clearText 0 = .ok (.aload_n 0, 1) := by decide +kernel
theorem dX5_clearText_1 : decode cX5_clearText 1 = .ok (.getfield 26, 3) := by decide +kernel
theorem dX5_clearText_4 : decode cX5_clearText 4 = .ok (.invokevirtual 75, 3) := by decide +kernel
theorem dX5_clearText_7 : decode cX5_clearText 7 = .ok (.ireturn, 1) := by decide +kernel
theorem dX5_perform_0 : decode cX5_perform 0 = .ok (.aload_n 0, 1) := by decide +kernel
theorem dX5_perform_1 : decode cX5_perform 1 = .ok (.getfield 26, 3) := by decide +kernel
theorem dX5_perform_4 : decode cX5_perform 4 = .ok (.invokevirtual 79, 3) := by decide +kernel
theorem dX5_perform_7 : decode cX5_perform 7 = .ok (.istore_n 1, 1) := by decide +kernel
theorem dX5_perform_8 : decode cX5_perform 8 = .ok (.iload_n 1, 1) := by decide +kernel
theorem dX5_perform_9 : decode cX5_perform 9 = .ok (.ifCond .ge 5, 3) := by decide +kernel
theorem dX5_perform_12 : decode cX5_perform 12 = .ok (.iload_n 1, 1) := by decide +kernel
theorem dX5_perform_13 : decode cX5_perform 13 = .ok (.ireturn, 1) := by decide +kernel
theorem dX5_perform_14 : decode cX5_perform 14 = .ok (.aload_n 0, 1) := by decide +kernel
theorem dX5_perform_15 : decode cX5_perform 15 = .ok (.getfield 30, 3) := by decide +kernel
theorem dX5_perform_18 : decode cX5_perform 18 = .ok (.aload_n 0, 1) := by decide +kernel
theorem dX5_perform_19 : decode cX5_perform 19 = .ok (.getfield 10, 3) := by decide +kernel
theorem dX5_perform_22 : decode cX5_perform 22 = .ok (.invokevirtual 40, 3) := by decide +kernel
theorem dX5_perform_25 : decode cX5_perform 25 = .ok (.aload_n 0, 1) := by decide +kernel
theorem dX5_perform_26 : decode cX5_perform 26 = .ok (.getfield 26, 3) := by decide +kernel
theorem dX5_perform_29 : decode cX5_perform 29 = .ok (.invokevirtual 82, 3) := by decide +kernel
theorem dX5_perform_32 : decode cX5_perform 32 = .ok (.iconst 0, 1) := by decide +kernel
theorem dX5_perform_33 : decode cX5_perform 33 = .ok (.istore_n 2, 1) := by decide +kernel
theorem dX5_perform_34 : decode cX5_perform 34 = .ok (.iload_n 2, 1) := by decide +kernel
theorem dX5_perform_35 : decode cX5_perform 35 = .ok (.iload_n 1, 1) := by decide +kernel
theorem dX5_perform_36 : decode cX5_perform 36 = .ok (.if_icmp .ge 64, 3) := by decide +kernel
theorem dX5_perform_39 : decode cX5_perform 39 = .ok (.aload_n 0, 1) := by decide +kernel
theorem dX5_perform_40 : decode cX5_perform 40 = .ok (.getfield 26, 3) := by decide +kernel
theorem dX5_perform_43 : decode cX5_perform 43 = .ok (.invokevirtual 85, 3) := by decide +kernel
theorem dX5_perform_46 : decode cX5_perform 46 = .ok (.pop, 1) := by decide +kernel
theorem dX5_perform_47 : decode cX5_perform 47 = .ok (.aload_n 0, 1) := by decide +kernel
theorem dX5_perform_48 : decode cX5_perform 48 = .ok (.getfield 26, 3) := by decide +kernel
theorem dX5_perform_51 : decode cX5_perform 51 = .ok (.invokevirtual 89, 3) := by decide +kernel
theorem dX5_perform_54 : decode cX5_perform 54 = .ok (.pop, 1) := by decide +kernel
theorem dX5_perform_55 : decode cX5_perform 55 = .ok (.aload_n 0, 1) := by decide +kernel
theorem dX5_perform_56 : decode cX5_perform 56 = .ok (.invokevirtual 92, 3) := by decide +kernel
theorem dX5_perform_59 : decode cX5_perform 59 = .ok (.istore_n 3, 1) := by decide +kernel
theorem dX5_perform_60 : decode cX5_perform 60 = .ok (.iload_n 3, 1) := by decide +kernel
theorem dX5_perform_61 : decode cX5_perform 61 = .ok (.ifCond .ge 33, 3) := by decide +kernel
theorem dX5_perform_64 : decode cX5_perform 64 = .ok (.iload_n 3, 1) := by decide +kernel
theorem dX5_perform_65 : decode cX5_perform 65 = .ok (.bipush (-5), 2) := by decide +kernel
theorem dX5_perform_67 : decode cX5_perform 67 = .ok (.if_icmp .eq 27, 3) := by decide +kernel
theorem dX5_perform_70 : decode cX5_perform 70 = .ok (.aload_n 0, 1) := by decide +kernel
theorem dX5_perform_71 : decode cX5_perform 71 = .ok (.iload_n 2, 1) := by decide +kernel
theorem dX5_perform_72 : decode cX5_perform 72 = .ok (.putfield 33, 3) := by decide +kernel
theorem dX5_perform_75 : decode cX5_perform 75 = .ok (.aload_n 0, 1) := by decide +kernel
theorem dX5_perform_76 : decode cX5_perform 76 = .ok (.iload_n 3, 1) := by decide +kernel
theorem dX5_perform_77 : decode cX5_perform 77 = .ok (.putfield 37, 3) := by decide +kernel
theorem dX5_perform_80 : decode cX5_perform 80 = .ok (.aload_n 0, 1) := by decide +kernel
theorem dX5_perform_81 : decode cX5_perform 81 = .ok (.getfield 10, 3) := by decide +kernel
theorem dX5_perform_84 : decode cX5_perform 84 = .ok (.aload_n 0, 1) := by decide +kernel
theorem dX5_perform_85 : decode cX5_perform 85 = .ok (.getfield 30, 3) := by decide +kernel
theorem dX5_perform_88 : decode cX5_perform 88 = .ok (.invokevirtual 40, 3) := by decide +kernel
theorem dX5_perform_91 : decode cX5_perform 91 = .ok (.bipush (-4), 2) := by decide +kernel
theorem dX5_perform_93 : decode cX5_perform 93 = .ok (.ireturn, 1) := by decide +kernel
theorem dX5_perform_94 : decode cX5_perform 94 = .ok (.iinc 2 1, 3) := by decide +kernel
theorem dX5_perform_97 : decode cX5_perform 97 = .ok (.goto (-63), 3) := by decide +kernel
theorem dX5_perform_100 : decode cX5_perform 100 = .ok (.aload_n 0, 1) := by decide +kernel
theorem dX5_perform_101 : decode cX5_perform 101 = .ok (.iload_n 1, 1) := by decide +kernel
theorem dX5_perform_102 : decode cX5_perform 102 = .ok (.invokevirtual 48, 3) := by decide +kernel
theorem dX5_perform_105 : decode cX5_perform 105 = .ok (.ireturn, 1) := by decide +kernel
theorem dX5_stopped_0 : decode cX5_stopped 0 = .ok (.iload_n 1, 1) := by decide +kernel
theorem dX5_stopped_1 : decode cX5_stopped 1 = .ok (.lookupswitch 37 #[(0, 27), (1, 32)], 27) := by decide +kernel
theorem dX5_stopped_28 : decode cX5_stopped 28 = .ok (.aload_n 0, 1) := by decide +kernel
theorem dX5_stopped_29 : decode cX5_stopped 29 = .ok (.getfield 33, 3) := by decide +kernel
theorem dX5_stopped_32 : decode cX5_stopped 32 = .ok (.ireturn, 1) := by decide +kernel
theorem dX5_stopped_33 : decode cX5_stopped 33 = .ok (.aload_n 0, 1) := by decide +kernel
theorem dX5_stopped_34 : decode cX5_stopped 34 = .ok (.getfield 37, 3) := by decide +kernel
theorem dX5_stopped_37 : decode cX5_stopped 37 = .ok (.ireturn, 1) := by decide +kernel
theorem dX5_stopped_38 : decode cX5_stopped 38 = .ok (.bipush (-2), 2) := by decide +kernel
theorem dX5_stopped_40 : decode cX5_stopped 40 = .ok (.ireturn, 1) := by decide +kernel
theorem dX5_undo_0 : decode cX5_undo 0 = .ok (.aload_n 0, 1) := by decide +kernel
theorem dX5_undo_1 : decode cX5_undo 1 = .ok (.getfield 95, 3) := by decide +kernel
theorem dX5_undo_4 : decode cX5_undo 4 = .ok (.iconst 1, 1) := by decide +kernel
theorem dX5_undo_5 : decode cX5_undo 5 = .ok (.if_icmp .lt 15, 3) := by decide +kernel
theorem dX5_undo_8 : decode cX5_undo 8 = .ok (.aload_n 0, 1) := by decide +kernel
theorem dX5_undo_9 : decode cX5_undo 9 = .ok (.getfield 95, 3) := by decide +kernel
theorem dX5_undo_12 : decode cX5_undo 12 = .ok (.aload_n 0, 1) := by decide +kernel
theorem dX5_undo_13 : decode cX5_undo 13 = .ok (.getfield 19, 3) := by decide +kernel
theorem dX5_undo_16 : decode cX5_undo 16 = .ok (.arraylength, 1) := by decide +kernel
theorem dX5_undo_17 : decode cX5_undo 17 = .ok (.if_icmp .le 6, 3) := by decide +kernel
theorem dX5_undo_20 : decode cX5_undo 20 = .ok (.bipush (-5), 2) := by decide +kernel
theorem dX5_undo_22 : decode cX5_undo 22 = .ok (.ireturn, 1) := by decide +kernel
theorem dX5_undo_23 : decode cX5_undo 23 = .ok (.aload_n 0, 1) := by decide +kernel
theorem dX5_undo_24 : decode cX5_undo 24 = .ok (.dup, 1) := by decide +kernel
theorem dX5_undo_25 : decode cX5_undo 25 = .ok (.getfield 95, 3) := by decide +kernel
theorem dX5_undo_28 : decode cX5_undo 28 = .ok (.iconst 1, 1) := by decide +kernel
theorem dX5_undo_29 : decode cX5_undo 29 = .ok (.isub, 1) := by decide +kernel
theorem dX5_undo_30 : decode cX5_undo 30 = .ok (.putfield 95, 3) := by decide +kernel
theorem dX5_undo_33 : decode cX5_undo 33 = .ok (.aload_n 0, 1) := by decide +kernel
theorem dX5_undo_34 : decode cX5_undo 34 = .ok (.getfield 10, 3) := by decide +kernel
theorem dX5_undo_37 : decode cX5_undo 37 = .ok (.aload_n 0, 1) := by decide +kernel
theorem dX5_undo_38 : decode cX5_undo 38 = .ok (.getfield 19, 3) := by decide +kernel
theorem dX5_undo_41 : decode cX5_undo 41 = .ok (.aload_n 0, 1) := by decide +kernel
theorem dX5_undo_42 : decode cX5_undo 42 = .ok (.getfield 95, 3) := by decide +kernel
theorem dX5_undo_45 : decode cX5_undo 45 = .ok (.aaload, 1) := by decide +kernel
theorem dX5_undo_46 : decode cX5_undo 46 = .ok (.invokevirtual 40, 3) := by decide +kernel
theorem dX5_undo_49 : decode cX5_undo 49 = .ok (.aload_n 0, 1) := by decide +kernel
theorem dX5_undo_50 : decode cX5_undo 50 = .ok (.getfield 95, 3) := by decide +kernel
theorem dX5_undo_53 : decode cX5_undo 53 = .ok (.ireturn, 1) := by decide +kernel
theorem dX5_keep_0 : decode cX5_keep 0 = .ok (.aload_n 0, 1) := by decide +kernel
theorem dX5_keep_1 : decode cX5_keep 1 = .ok (.getfield 16, 3) := by decide +kernel
theorem dX5_keep_4 : decode cX5_keep 4 = .ok (.aload_n 0, 1) := by decide +kernel
theorem dX5_keep_5 : decode cX5_keep 5 = .ok (.getfield 10, 3) := by decide +kernel
theorem dX5_keep_8 : decode cX5_keep 8 = .ok (.invokevirtual 40, 3) := by decide +kernel
theorem dX5_keep_11 : decode cX5_keep 11 = .ok (.aload_n 0, 1) := by decide +kernel
theorem dX5_keep_12 : decode cX5_keep 12 = .ok (.iconst 1, 1) := by decide +kernel
theorem dX5_keep_13 : decode cX5_keep 13 = .ok (.putfield 98, 3) := by decide +kernel
theorem dX5_keep_16 : decode cX5_keep 16 = .ok (.aload_n 0, 1) := by decide +kernel
theorem dX5_keep_17 : decode cX5_keep 17 = .ok (.getfield 10, 3) := by decide +kernel
theorem dX5_keep_20 : decode cX5_keep 20 = .ok (.getfield 102, 3) := by decide +kernel
theorem dX5_keep_23 : decode cX5_keep 23 = .ok (.ireturn, 1) := by decide +kernel
theorem dX5_restore_0 : decode cX5_restore 0 = .ok (.aload_n 0, 1) := by decide +kernel
theorem dX5_restore_1 : decode cX5_restore 1 = .ok (.getfield 98, 3) := by decide +kernel
theorem dX5_restore_4 : decode cX5_restore 4 = .ok (.ifCond .ne 6, 3) := by decide +kernel
theorem dX5_restore_7 : decode cX5_restore 7 = .ok (.bipush (-5), 2) := by decide +kernel
theorem dX5_restore_9 : decode cX5_restore 9 = .ok (.ireturn, 1) := by decide +kernel
theorem dX5_restore_10 : decode cX5_restore 10 = .ok (.aload_n 0, 1) := by decide +kernel
theorem dX5_restore_11 : decode cX5_restore 11 = .ok (.getfield 30, 3) := by decide +kernel
theorem dX5_restore_14 : decode cX5_restore 14 = .ok (.aload_n 0, 1) := by decide +kernel
theorem dX5_restore_15 : decode cX5_restore 15 = .ok (.getfield 10, 3) := by decide +kernel
theorem dX5_restore_18 : decode cX5_restore 18 = .ok (.invokevirtual 40, 3) := by decide +kernel
theorem dX5_restore_21 : decode cX5_restore 21 = .ok (.aload_n 0, 1) := by decide +kernel
theorem dX5_restore_22 : decode cX5_restore 22 = .ok (.getfield 10, 3) := by decide +kernel
theorem dX5_restore_25 : decode cX5_restore 25 = .ok (.aload_n 0, 1) := by decide +kernel
theorem dX5_restore_26 : decode cX5_restore 26 = .ok (.getfield 16, 3) := by decide +kernel
theorem dX5_restore_29 : decode cX5_restore 29 = .ok (.invokevirtual 40, 3) := by decide +kernel
theorem dX5_restore_32 : decode cX5_restore 32 = .ok (.aload_n 0, 1) := by decide +kernel
theorem dX5_restore_33 : decode cX5_restore 33 = .ok (.aload_n 0, 1) := by decide +kernel
theorem dX5_restore_34 : decode cX5_restore 34 = .ok (.getfield 10, 3) := by decide +kernel
theorem dX5_restore_37 : decode cX5_restore 37 = .ok (.getfield 102, 3) := by decide +kernel
theorem dX5_restore_40 : decode cX5_restore 40 = .ok (.invokevirtual 48, 3) := by decide +kernel
theorem dX5_restore_43 : decode cX5_restore 43 = .ok (.ireturn, 1) := by decide +kernel
theorem dX5_speaker_0 : decode cX5_speaker 0 = .ok (.aload_n 0, 1) := by decide +kernel
theorem dX5_speaker_1 : decode cX5_speaker 1 = .ok (.getfield 10, 3) := by decide +kernel
theorem dX5_speaker_4 : decode cX5_speaker 4 = .ok (.iload_n 1, 1) := by decide +kernel
theorem dX5_speaker_5 : decode cX5_speaker 5 = .ok (.invokevirtual 105, 3) := by decide +kernel
theorem dX5_speaker_8 : decode cX5_speaker 8 = .ok (.astore_n 3, 1) := by decide +kernel
theorem dX5_speaker_9 : decode cX5_speaker 9 = .ok (.aload_n 3, 1) := by decide +kernel
theorem dX5_speaker_10 : decode cX5_speaker 10 = .ok (.ifnonnull 5, 3) := by decide +kernel
theorem dX5_speaker_13 : decode cX5_speaker 13 = .ok (.iconst (-1), 1) := by decide +kernel
theorem dX5_speaker_14 : decode cX5_speaker 14 = .ok (.ireturn, 1) := by decide +kernel
theorem dX5_speaker_15 : decode cX5_speaker 15 = .ok (.iload_n 2, 1) := by decide +kernel
theorem dX5_speaker_16 : decode cX5_speaker 16 = .ok (.tableswitch 87 0 6 #[44, 49, 62, 67, 72, 77, 82], 44) := by decide +kernel
theorem dX5_speaker_60 : decode cX5_speaker 60 = .ok (.aload_n 3, 1) := by decide +kernel
theorem dX5_speaker_61 : decode cX5_speaker 61 = .ok (.getfield 109, 3) := by decide +kernel
theorem dX5_speaker_64 : decode cX5_speaker 64 = .ok (.ireturn, 1) := by decide +kernel
theorem dX5_speaker_65 : decode cX5_speaker 65 = .ok (.aload_n 3, 1) := by decide +kernel
theorem dX5_speaker_66 : decode cX5_speaker 66 = .ok (.getfield 114, 3) := by decide +kernel
theorem dX5_speaker_69 : decode cX5_speaker 69 = .ok (.ifCond .eq 7, 3) := by decide +kernel
theorem dX5_speaker_72 : decode cX5_speaker 72 = .ok (.iconst 1, 1) := by decide +kernel
theorem dX5_speaker_73 : decode cX5_speaker 73 = .ok (.goto 4, 3) := by decide +kernel
theorem dX5_speaker_76 : decode cX5_speaker 76 = .ok (.iconst 0, 1) := by decide +kernel
theorem dX5_speaker_77 : decode cX5_speaker 77 = .ok (.ireturn, 1) := by decide +kernel
theorem dX5_speaker_78 : decode cX5_speaker 78 = .ok (.aload_n 3, 1) := by decide +kernel
theorem dX5_speaker_79 : decode cX5_speaker 79 = .ok (.getfield 117, 3) := by decide +kernel
theorem dX5_speaker_82 : decode cX5_speaker 82 = .ok (.ireturn, 1) := by decide +kernel
theorem dX5_speaker_83 : decode cX5_speaker 83 = .ok (.aload_n 3, 1) := by decide +kernel
theorem dX5_speaker_84 : decode cX5_speaker 84 = .ok (.getfield 120, 3) := by decide +kernel
theorem dX5_speaker_87 : decode cX5_speaker 87 = .ok (.ireturn, 1) := by decide +kernel
theorem dX5_speaker_88 : decode cX5_speaker 88 = .ok (.aload_n 3, 1) := by decide +kernel
theorem dX5_speaker_89 : decode cX5_speaker 89 = .ok (.getfield 123, 3) := by decide +kernel
theorem dX5_speaker_92 : decode cX5_speaker 92 = .ok (.ireturn, 1) := by decide +kernel
theorem dX5_speaker_93 : decode cX5_speaker 93 = .ok (.aload_n 3, 1) := by decide +kernel
theorem dX5_speaker_94 : decode cX5_speaker 94 = .ok (.getfield 126, 3) := by decide +kernel
theorem dX5_speaker_97 : decode cX5_speaker 97 = .ok (.ireturn, 1) := by decide +kernel
theorem dX5_speaker_98 : decode cX5_speaker 98 = .ok (.aload_n 3, 1) := by decide +kernel
theorem dX5_speaker_99 : decode cX5_speaker 99 = .ok (.getfield 129, 3) := by decide +kernel
theorem dX5_speaker_102 : decode cX5_speaker 102 = .ok (.ireturn, 1) := by decide +kernel
theorem dX5_speaker_103 : decode cX5_speaker 103 = .ok (.bipush (-2), 2) := by decide +kernel
theorem dX5_speaker_105 : decode cX5_speaker 105 = .ok (.ireturn, 1) := by decide +kernel
theorem dX5_message_0 : decode cX5_message 0 = .ok (.aload_n 0, 1) := by decide +kernel
theorem dX5_message_1 : decode cX5_message 1 = .ok (.getfield 10, 3) := by decide +kernel
theorem dX5_message_4 : decode cX5_message 4 = .ok (.iload_n 1, 1) := by decide +kernel
theorem dX5_message_5 : decode cX5_message 5 = .ok (.invokevirtual 105, 3) := by decide +kernel
theorem dX5_message_8 : decode cX5_message 8 = .ok (.astore 4, 2) := by decide +kernel
theorem dX5_message_10 : decode cX5_message 10 = .ok (.aload 4, 2) := by decide +kernel
theorem dX5_message_12 : decode cX5_message 12 = .ok (.ifnull 15, 3) := by decide +kernel
theorem dX5_message_15 : decode cX5_message 15 = .ok (.iload_n 2, 1) := by decide +kernel
theorem dX5_message_16 : decode cX5_message 16 = .ok (.aload 4, 2) := by decide +kernel
theorem dX5_message_18 : decode cX5_message 18 = .ok (.getfield 109, 3) := by decide +kernel
theorem dX5_message_21 : decode cX5_message 21 = .ok (.invokestatic 132, 3) := by decide +kernel
theorem dX5_message_24 : decode cX5_message 24 = .ok (.ifCond .ne 5, 3) := by decide +kernel
theorem dX5_message_27 : decode cX5_message 27 = .ok (.iconst (-1), 1) := by decide +kernel
theorem dX5_message_28 : decode cX5_message 28 = .ok (.ireturn, 1) := by decide +kernel
theorem dX5_message_29 : decode cX5_message 29 = .ok (.iload_n 3, 1) := by decide +kernel
theorem dX5_message_30 : decode cX5_message 30 = .ok (.tableswitch 97 0 4 #[34, 44, 52, 60, 70], 34) := by decide +kernel
theorem dX5_message_64 : decode cX5_message 64 = .ok (.aload 4, 2) := by decide +kernel
theorem dX5_message_66 : decode cX5_message 66 = .ok (.iload_n 2, 1) := by decide +kernel
theorem dX5_message_67 : decode cX5_message 67 = .ok (.iconst 0, 1) := by decide +kernel
theorem dX5_message_68 : decode cX5_message 68 = .ok (.invokevirtual 136, 3) := by decide +kernel
theorem dX5_message_71 : decode cX5_message 71 = .ok (.iconst 1, 1) := by decide +kernel
theorem dX5_message_72 : decode cX5_message 72 = .ok (.ishr, 1) := by decide +kernel
theorem dX5_message_73 : decode cX5_message 73 = .ok (.ireturn, 1) := by decide +kernel
theorem dX5_message_74 : decode cX5_message 74 = .ok (.aload 4, 2) := by decide +kernel
theorem dX5_message_76 : decode cX5_message 76 = .ok (.iload_n 2, 1) := by decide +kernel
theorem dX5_message_77 : decode cX5_message 77 = .ok (.iconst 1, 1) := by decide +kernel
theorem dX5_message_78 : decode cX5_message 78 = .ok (.invokevirtual 136, 3) := by decide +kernel
theorem dX5_message_81 : decode cX5_message 81 = .ok (.ireturn, 1) := by decide +kernel
theorem dX5_message_82 : decode cX5_message 82 = .ok (.aload 4, 2) := by decide +kernel
theorem dX5_message_84 : decode cX5_message 84 = .ok (.iload_n 2, 1) := by decide +kernel
theorem dX5_message_85 : decode cX5_message 85 = .ok (.iconst 2, 1) := by decide +kernel
theorem dX5_message_86 : decode cX5_message 86 = .ok (.invokevirtual 136, 3) := by decide +kernel
theorem dX5_message_89 : decode cX5_message 89 = .ok (.ireturn, 1) := by decide +kernel
theorem dX5_message_90 : decode cX5_message 90 = .ok (.aload 4, 2) := by decide +kernel
theorem dX5_message_92 : decode cX5_message 92 = .ok (.iload_n 2, 1) := by decide +kernel
theorem dX5_message_93 : decode cX5_message 93 = .ok (.invokevirtual 139, 3) := by decide +kernel
theorem dX5_message_96 : decode cX5_message 96 = .ok (.bipush 9, 2) := by decide +kernel
theorem dX5_message_98 : decode cX5_message 98 = .ok (.imul, 1) := by decide +kernel
theorem dX5_message_99 : decode cX5_message 99 = .ok (.ireturn, 1) := by decide +kernel
theorem dX5_message_100 : decode cX5_message 100 = .ok (.aload 4, 2) := by decide +kernel
theorem dX5_message_102 : decode cX5_message 102 = .ok (.iload_n 2, 1) := by decide +kernel
theorem dX5_message_103 : decode cX5_message 103 = .ok (.invokevirtual 139, 3) := by decide +kernel
theorem dX5_message_106 : decode cX5_message 106 = .ok (.bipush 9, 2) := by decide +kernel
theorem dX5_message_108 : decode cX5_message 108 = .ok (.aload_n 0, 1) := by decide +kernel
theorem dX5_message_109 : decode cX5_message 109 = .ok (.getfield 10, 3) := by decide +kernel
theorem dX5_message_112 : decode cX5_message 112 = .ok (.aload 4, 2) := by decide +kernel
theorem dX5_message_114 : decode cX5_message 114 = .ok (.iload_n 2, 1) := by decide +kernel
theorem dX5_message_115 : decode cX5_message 115 = .ok (.iconst 0, 1) := by decide +kernel
theorem dX5_message_116 : decode cX5_message 116 = .ok (.invokevirtual 136, 3) := by decide +kernel
theorem dX5_message_119 : decode cX5_message 119 = .ok (.iconst 1, 1) := by decide +kernel
theorem dX5_message_120 : decode cX5_message 120 = .ok (.ishr, 1) := by decide +kernel
theorem dX5_message_121 : decode cX5_message 121 = .ok (.invokevirtual 142, 3) := by decide +kernel
theorem dX5_message_124 : decode cX5_message 124 = .ok (.iadd, 1) := by decide +kernel
theorem dX5_message_125 : decode cX5_message 125 = .ok (.imul, 1) := by decide +kernel
theorem dX5_message_126 : decode cX5_message 126 = .ok (.ireturn, 1) := by decide +kernel
theorem dX5_message_127 : decode cX5_message 127 = .ok (.bipush (-2), 2) := by decide +kernel
theorem dX5_message_129 : decode cX5_message 129 = .ok (.ireturn, 1) := by decide +kernel
theorem dX5_listener_0 : decode cX5_listener 0 = .ok (.aload_n 0, 1) := by decide +kernel
theorem dX5_listener_1 : decode cX5_listener 1 = .ok (.getfield 10, 3) := by decide +kernel
theorem dX5_listener_4 : decode cX5_listener 4 = .ok (.iload_n 1, 1) := by decide +kernel
theorem dX5_listener_5 : decode cX5_listener 5 = .ok (.invokevirtual 145, 3) := by decide +kernel
theorem dX5_listener_8 : decode cX5_listener 8 = .ok (.astore_n 3, 1) := by decide +kernel
theorem dX5_listener_9 : decode cX5_listener 9 = .ok (.aload_n 3, 1) := by decide +kernel
theorem dX5_listener_10 : decode cX5_listener 10 = .ok (.ifnonnull 5, 3) := by decide +kernel
theorem dX5_listener_13 : decode cX5_listener 13 = .ok (.iconst (-1), 1) := by decide +kernel
theorem dX5_listener_14 : decode cX5_listener 14 = .ok (.ireturn, 1) := by decide +kernel
theorem dX5_listener_15 : decode cX5_listener 15 = .ok (.iload_n 2, 1) := by decide +kernel
theorem dX5_listener_16 : decode cX5_listener 16 = .ok (.tableswitch 61 0 4 #[36, 41, 46, 51, 56], 36) := by decide +kernel
theorem dX5_listener_52 : decode cX5_listener 52 = .ok (.aload_n 3, 1) := by decide +kernel
theorem dX5_listener_53 : decode cX5_listener 53 = .ok (.getfield 149, 3) := by decide +kernel
theorem dX5_listener_56 : decode cX5_listener 56 = .ok (.ireturn, 1) := by decide +kernel
theorem dX5_listener_57 : decode cX5_listener 57 = .ok (.aload_n 3, 1) := by decide +kernel
theorem dX5_listener_58 : decode cX5_listener 58 = .ok (.getfield 154, 3) := by decide +kernel
theorem dX5_listener_61 : decode cX5_listener 61 = .ok (.ireturn, 1) := by decide +kernel
theorem dX5_listener_62 : decode cX5_listener 62 = .ok (.aload_n 3, 1) := by decide +kernel
theorem dX5_listener_63 : decode cX5_listener 63 = .ok (.getfield 157, 3) := by decide +kernel
theorem dX5_listener_66 : decode cX5_listener 66 = .ok (.ireturn, 1) := by decide +kernel
theorem dX5_listener_67 : decode cX5_listener 67 = .ok (.aload_n 3, 1) := by decide +kernel
theorem dX5_listener_68 : decode cX5_listener 68 = .ok (.getfield 160, 3) := by decide +kernel
theorem dX5_listener_71 : decode cX5_listener 71 = .ok (.ireturn, 1) := by decide +kernel
theorem dX5_listener_72 : decode cX5_listener 72 = .ok (.aload_n 3, 1) := by decide +kernel
theorem dX5_listener_73 : decode cX5_listener 73 = .ok (.getfield 163, 3) := by decide +kernel
theorem dX5_listener_76 : decode cX5_listener 76 = .ok (.ireturn, 1) := by decide +kernel
theorem dX5_listener_77 : decode cX5_listener 77 = .ok (.bipush (-2), 2) := by decide +kernel
theorem dX5_listener_79 : decode cX5_listener 79 = .ok (.ireturn, 1) := by decide +kernel
theorem dX5_bit_0 : decode cX5_bit 0 = .ok (.aload_n 0, 1) := by decide +kernel
theorem dX5_bit_1 : decode cX5_bit 1 = .ok (.getfield 10, 3) := by decide +kernel
theorem dX5_bit_4 : decode cX5_bit 4 = .ok (.getfield 166, 3) := by decide +kernel
theorem dX5_bit_7 : decode cX5_bit 7 = .ok (.iload_n 1, 1) := by decide +kernel
theorem dX5_bit_8 : decode cX5_bit 8 = .ok (.iload_n 2, 1) := by decide +kernel
theorem dX5_bit_9 : decode cX5_bit 9 = .ok (.invokevirtual 170, 3) := by decide +kernel
theorem dX5_bit_12 : decode cX5_bit 12 = .ok (.ireturn, 1) := by decide +kernel
theorem dX5_winners_0 : decode cX5_winners 0 = .ok (.aload_n 0, 1) := by decide +kernel
theorem dX5_winners_1 : decode cX5_winners 1 = .ok (.getfield 10, 3) := by decide +kernel
theorem dX5_winners_4 : decode cX5_winners 4 = .ok (.invokevirtual 175, 3) := by decide +kernel
theorem dX5_winners_7 : decode cX5_winners 7 = .ok (.istore_n 1, 1) := by decide +kernel
theorem dX5_winners_8 : decode cX5_winners 8 = .ok (.iconst 0, 1) := by decide +kernel
theorem dX5_winners_9 : decode cX5_winners 9 = .ok (.istore_n 2, 1) := by decide +kernel
theorem dX5_winners_10 : decode cX5_winners 10 = .ok (.iconst 0, 1) := by decide +kernel
theorem dX5_winners_11 : decode cX5_winners 11 = .ok (.istore_n 3, 1) := by decide +kernel
theorem dX5_winners_12 : decode cX5_winners 12 = .ok (.iload_n 3, 1) := by decide +kernel
theorem dX5_winners_13 : decode cX5_winners 13 = .ok (.bipush 27, 2) := by decide +kernel
theorem dX5_winners_15 : decode cX5_winners 15 = .ok (.if_icmp .ge 66, 3) := by decide +kernel
theorem dX5_winners_18 : decode cX5_winners 18 = .ok (.iload_n 3, 1) := by decide +kernel
theorem dX5_winners_19 : decode cX5_winners 19 = .ok (.invokestatic 178, 3) := by decide +kernel
theorem dX5_winners_22 : decode cX5_winners 22 = .ok (.ifCond .eq 29, 3) := by decide +kernel
theorem dX5_winners_25 : decode cX5_winners 25 = .ok (.aload_n 0, 1) := by decide +kernel
theorem dX5_winners_26 : decode cX5_winners 26 = .ok (.getfield 10, 3) := by decide +kernel
theorem dX5_winners_29 : decode cX5_winners 29 = .ok (.iload_n 1, 1) := by decide +kernel
theorem dX5_winners_30 : decode cX5_winners 30 = .ok (.iload_n 3, 1) := by decide +kernel
theorem dX5_winners_31 : decode cX5_winners 31 = .ok (.invokevirtual 182, 3) := by decide +kernel
theorem dX5_winners_34 : decode cX5_winners 34 = .ok (.istore 4, 2) := by decide +kernel
theorem dX5_winners_36 : decode cX5_winners 36 = .ok (.iload_n 2, 1) := by decide +kernel
theorem dX5_winners_37 : decode cX5_winners 37 = .ok (.iload 4, 2) := by decide +kernel
theorem dX5_winners_39 : decode cX5_winners 39 = .ok (.ior, 1) := by decide +kernel
theorem dX5_winners_40 : decode cX5_winners 40 = .ok (.istore_n 2, 1) := by decide +kernel
theorem dX5_winners_41 : decode cX5_winners 41 = .ok (.iload_n 1, 1) := by decide +kernel
theorem dX5_winners_42 : decode cX5_winners 42 = .ok (.iload 4, 2) := by decide +kernel
theorem dX5_winners_44 : decode cX5_winners 44 = .ok (.iconst (-1), 1) := by decide +kernel
theorem dX5_winners_45 : decode cX5_winners 45 = .ok (.ixor, 1) := by decide +kernel
theorem dX5_winners_46 : decode cX5_winners 46 = .ok (.iand, 1) := by decide +kernel
theorem dX5_winners_47 : decode cX5_winners 47 = .ok (.istore_n 1, 1) := by decide +kernel
theorem dX5_winners_48 : decode cX5_winners 48 = .ok (.goto 27, 3) := by decide +kernel
theorem dX5_winners_51 : decode cX5_winners 51 = .ok (.aload_n 0, 1) := by decide +kernel
theorem dX5_winners_52 : decode cX5_winners 52 = .ok (.getfield 10, 3) := by decide +kernel
theorem dX5_winners_55 : decode cX5_winners 55 = .ok (.iload_n 1, 1) := by decide +kernel
theorem dX5_winners_56 : decode cX5_winners 56 = .ok (.iload_n 3, 1) := by decide +kernel
theorem dX5_winners_57 : decode cX5_winners 57 = .ok (.iconst 0, 1) := by decide +kernel
theorem dX5_winners_58 : decode cX5_winners 58 = .ok (.invokevirtual 185, 3) := by decide +kernel
theorem dX5_winners_61 : decode cX5_winners 61 = .ok (.istore 4, 2) := by decide +kernel
theorem dX5_winners_63 : decode cX5_winners 63 = .ok (.iload 4, 2) := by decide +kernel
theorem dX5_winners_65 : decode cX5_winners 65 = .ok (.ifCond .ne 7, 3) := by decide +kernel
theorem dX5_winners_68 : decode cX5_winners 68 = .ok (.iload_n 1, 1) := by decide +kernel
theorem dX5_winners_69 : decode cX5_winners 69 = .ok (.goto 5, 3) := by decide +kernel
theorem dX5_winners_72 : decode cX5_winners 72 = .ok (.iload 4, 2) := by decide +kernel
theorem dX5_winners_74 : decode cX5_winners 74 = .ok (.istore_n 1, 1) := by decide +kernel
theorem dX5_winners_75 : decode cX5_winners 75 = .ok (.iinc 3 1, 3) := by decide +kernel
theorem dX5_winners_78 : decode cX5_winners 78 = .ok (.goto (-66), 3) := by decide +kernel
theorem dX5_winners_81 : decode cX5_winners 81 = .ok (.iload_n 2, 1) := by decide +kernel
theorem dX5_winners_82 : decode cX5_winners 82 = .ok (.ireturn, 1) := by decide +kernel
theorem dX5_emptyIn_0 : decode cX5_emptyIn 0 = .ok (.aload_n 0, 1) := by decide +kernel
theorem dX5_emptyIn_1 : decode cX5_emptyIn 1 = .ok (.getfield 30, 3) := by decide +kernel
theorem dX5_emptyIn_4 : decode cX5_emptyIn 4 = .ok (.aload_n 0, 1) := by decide +kernel
theorem dX5_emptyIn_5 : decode cX5_emptyIn 5 = .ok (.getfield 10, 3) := by decide +kernel
theorem dX5_emptyIn_8 : decode cX5_emptyIn 8 = .ok (.invokevirtual 40, 3) := by decide +kernel
theorem dX5_emptyIn_11 : decode cX5_emptyIn 11 = .ok (.iconst 0, 1) := by decide +kernel
theorem dX5_emptyIn_12 : decode cX5_emptyIn 12 = .ok (.istore_n 1, 1) := by decide +kernel
theorem dX5_emptyIn_13 : decode cX5_emptyIn 13 = .ok (.iload_n 1, 1) := by decide +kernel
theorem dX5_emptyIn_14 : decode cX5_emptyIn 14 = .ok (.sipush 1000, 3) := by decide +kernel
theorem dX5_emptyIn_17 : decode cX5_emptyIn 17 = .ok (.if_icmp .gt 28, 3) := by decide +kernel
theorem dX5_emptyIn_20 : decode cX5_emptyIn 20 = .ok (.aload_n 0, 1) := by decide +kernel
theorem dX5_emptyIn_21 : decode cX5_emptyIn 21 = .ok (.getfield 30, 3) := by decide +kernel
theorem dX5_emptyIn_24 : decode cX5_emptyIn 24 = .ok (.invokevirtual 189, 3) := by decide +kernel
theorem dX5_emptyIn_27 : decode cX5_emptyIn 27 = .ok (.ifCond .ne 5, 3) := by decide +kernel
theorem dX5_emptyIn_30 : decode cX5_emptyIn 30 = .ok (.iload_n 1, 1) := by decide +kernel
theorem dX5_emptyIn_31 : decode cX5_emptyIn 31 = .ok (.ireturn, 1) := by decide +kernel
theorem dX5_emptyIn_32 : decode cX5_emptyIn 32 = .ok (.aload_n 0, 1) := by decide +kernel
theorem dX5_emptyIn_33 : decode cX5_emptyIn 33 = .ok (.getfield 30, 3) := by decide +kernel
theorem dX5_emptyIn_36 : decode cX5_emptyIn 36 = .ok (.invokevirtual 192, 3) := by decide +kernel
theorem dX5_emptyIn_39 : decode cX5_emptyIn 39 = .ok (.iinc 1 1, 3) := by decide +kernel
theorem dX5_emptyIn_42 : decode cX5_emptyIn 42 = .ok (.goto (-29), 3) := by decide +kernel
theorem dX5_emptyIn_45 : decode cX5_emptyIn 45 = .ok (.bipush (-5), 2) := by decide +kernel
theorem dX5_emptyIn_47 : decode cX5_emptyIn 47 = .ok (.ireturn, 1) := by decide +kernel
theorem dX5_ifRun_0 : decode cX5_ifRun 0 = .ok (.iload_n 1, 1) := by decide +kernel
theorem dX5_ifRun_1 : decode cX5_ifRun 1 = .ok (.iconst 4, 1) := by decide +kernel
theorem dX5_ifRun_2 : decode cX5_ifRun 2 = .ok (.invokestatic 132, 3) := by decide +kernel
theorem dX5_ifRun_5 : decode cX5_ifRun 5 = .ok (.ifCond .ne 5, 3) := by decide +kernel
theorem dX5_ifRun_8 : decode cX5_ifRun 8 = .ok (.iconst (-1), 1) := by decide +kernel
theorem dX5_ifRun_9 : decode cX5_ifRun 9 = .ok (.ireturn, 1) := by decide +kernel
theorem dX5_ifRun_10 : decode cX5_ifRun 10 = .ok (.iload_n 2, 1) := by decide +kernel
theorem dX5_ifRun_11 : decode cX5_ifRun 11 = .ok (.iconst 1, 1) := by decide +kernel
theorem dX5_ifRun_12 : decode cX5_ifRun 12 = .ok (.if_icmp .lt 10, 3) := by decide +kernel
theorem dX5_ifRun_15 : decode cX5_ifRun 15 = .ok (.iload_n 2, 1) := by decide +kernel
theorem dX5_ifRun_16 : decode cX5_ifRun 16 = .ok (.sipush 300, 3) := by decide +kernel
theorem dX5_ifRun_19 : decode cX5_ifRun 19 = .ok (.if_icmp .le 6, 3) := by decide +kernel
theorem dX5_ifRun_22 : decode cX5_ifRun 22 = .ok (.bipush (-2), 2) := by decide +kernel
theorem dX5_ifRun_24 : decode cX5_ifRun 24 = .ok (.ireturn, 1) := by decide +kernel
theorem dX5_ifRun_25 : decode cX5_ifRun 25 = .ok (.aload_n 0, 1) := by decide +kernel
theorem dX5_ifRun_26 : decode cX5_ifRun 26 = .ok (.getfield 30, 3) := by decide +kernel
theorem dX5_ifRun_29 : decode cX5_ifRun 29 = .ok (.aload_n 0, 1) := by decide +kernel
theorem dX5_ifRun_30 : decode cX5_ifRun 30 = .ok (.getfield 10, 3) := by decide +kernel
theorem dX5_ifRun_33 : decode cX5_ifRun 33 = .ok (.invokevirtual 40, 3) := by decide +kernel
theorem dX5_ifRun_36 : decode cX5_ifRun 36 = .ok (.aload_n 0, 1) := by decide +kernel
theorem dX5_ifRun_37 : decode cX5_ifRun 37 = .ok (.getfield 30, 3) := by decide +kernel
theorem dX5_ifRun_40 : decode cX5_ifRun 40 = .ok (.iload_n 1, 1) := by decide +kernel
theorem dX5_ifRun_41 : decode cX5_ifRun 41 = .ok (.invokevirtual 195, 3) := by decide +kernel
theorem dX5_ifRun_44 : decode cX5_ifRun 44 = .ok (.istore_n 3, 1) := by decide +kernel
theorem dX5_ifRun_45 : decode cX5_ifRun 45 = .ok (.iconst 0, 1) := by decide +kernel
theorem dX5_ifRun_46 : decode cX5_ifRun 46 = .ok (.istore 4, 2) := by decide +kernel
theorem dX5_ifRun_48 : decode cX5_ifRun 48 = .ok (.iload 4, 2) := by decide +kernel
theorem dX5_ifRun_50 : decode cX5_ifRun 50 = .ok (.iload_n 2, 1) := by decide +kernel
theorem dX5_ifRun_51 : decode cX5_ifRun 51 = .ok (.if_icmp .ge 16, 3) := by decide +kernel
theorem dX5_ifRun_54 : decode cX5_ifRun 54 = .ok (.aload_n 0, 1) := by decide +kernel
theorem dX5_ifRun_55 : decode cX5_ifRun 55 = .ok (.getfield 30, 3) := by decide +kernel
theorem dX5_ifRun_58 : decode cX5_ifRun 58 = .ok (.invokevirtual 192, 3) := by decide +kernel
theorem dX5_ifRun_61 : decode cX5_ifRun 61 = .ok (.iinc 4 1, 3) := by decide +kernel
theorem dX5_ifRun_64 : decode cX5_ifRun 64 = .ok (.goto (-16), 3) := by decide +kernel
theorem dX5_ifRun_67 : decode cX5_ifRun 67 = .ok (.aload_n 0, 1) := by decide +kernel
theorem dX5_ifRun_68 : decode cX5_ifRun 68 = .ok (.getfield 30, 3) := by decide +kernel
theorem dX5_ifRun_71 : decode cX5_ifRun 71 = .ok (.iload_n 1, 1) := by decide +kernel
theorem dX5_ifRun_72 : decode cX5_ifRun 72 = .ok (.invokevirtual 195, 3) := by decide +kernel
theorem dX5_ifRun_75 : decode cX5_ifRun 75 = .ok (.iload_n 3, 1) := by decide +kernel
theorem dX5_ifRun_76 : decode cX5_ifRun 76 = .ok (.isub, 1) := by decide +kernel
theorem dX5_ifRun_77 : decode cX5_ifRun 77 = .ok (.ireturn, 1) := by decide +kernel
theorem dX5_count_0 : decode cX5_count 0 = .ok (.iload_n 1, 1) := by decide +kernel
theorem dX5_count_1 : decode cX5_count 1 = .ok (.tableswitch 210 0 15 #[79, 87, 98, 106, 114, 122, 130, 138, 146, 154, 162, 170, 179, 188, 197, 202], 79) := by decide +kernel
theorem dX5_count_80 : decode cX5_count 80 = .ok (.aload_n 0, 1) := by decide +kernel
theorem dX5_count_81 : decode cX5_count 81 = .ok (.getfield 10, 3) := by decide +kernel
theorem dX5_count_84 : decode cX5_count 84 = .ok (.getfield 102, 3) := by decide +kernel
theorem dX5_count_87 : decode cX5_count 87 = .ok (.ireturn, 1) := by decide +kernel
theorem dX5_count_88 : decode cX5_count 88 = .ok (.aload_n 0, 1) := by decide +kernel
theorem dX5_count_89 : decode cX5_count 89 = .ok (.getfield 10, 3) := by decide +kernel
theorem dX5_count_92 : decode cX5_count 92 = .ok (.invokevirtual 198, 3) := by decide +kernel
theorem dX5_count_95 : decode cX5_count 95 = .ok (.invokestatic 201, 3) := by decide +kernel
theorem dX5_count_98 : decode cX5_count 98 = .ok (.ireturn, 1) := by decide +kernel
theorem dX5_count_99 : decode cX5_count 99 = .ok (.aload_n 0, 1) := by decide +kernel
theorem dX5_count_100 : decode cX5_count 100 = .ok (.getfield 10, 3) := by decide +kernel
theorem dX5_count_103 : decode cX5_count 103 = .ok (.invokevirtual 206, 3) := by decide +kernel
theorem dX5_count_106 : decode cX5_count 106 = .ok (.ireturn, 1) := by decide +kernel
theorem dX5_count_107 : decode cX5_count 107 = .ok (.aload_n 0, 1) := by decide +kernel
theorem dX5_count_108 : decode cX5_count 108 = .ok (.getfield 10, 3) := by decide +kernel
theorem dX5_count_111 : decode cX5_count 111 = .ok (.getfield 209, 3) := by decide +kernel
theorem dX5_count_114 : decode cX5_count 114 = .ok (.ireturn, 1) := by decide +kernel
theorem dX5_count_115 : decode cX5_count 115 = .ok (.aload_n 0, 1) := by decide +kernel
theorem dX5_count_116 : decode cX5_count 116 = .ok (.getfield 10, 3) := by decide +kernel
theorem dX5_count_119 : decode cX5_count 119 = .ok (.getfield 212, 3) := by decide +kernel
theorem dX5_count_122 : decode cX5_count 122 = .ok (.ireturn, 1) := by decide +kernel
theorem dX5_count_123 : decode cX5_count 123 = .ok (.aload_n 0, 1) := by decide +kernel
theorem dX5_count_124 : decode cX5_count 124 = .ok (.getfield 10, 3) := by decide +kernel
theorem dX5_count_127 : decode cX5_count 127 = .ok (.getfield 215, 3) := by decide +kernel
theorem dX5_count_130 : decode cX5_count 130 = .ok (.ireturn, 1) := by decide +kernel
theorem dX5_count_131 : decode cX5_count 131 = .ok (.aload_n 0, 1) := by decide +kernel
theorem dX5_count_132 : decode cX5_count 132 = .ok (.getfield 10, 3) := by decide +kernel
theorem dX5_count_135 : decode cX5_count 135 = .ok (.getfield 218, 3) := by decide +kernel
theorem dX5_count_138 : decode cX5_count 138 = .ok (.ireturn, 1) := by decide +kernel
theorem dX5_count_139 : decode cX5_count 139 = .ok (.aload_n 0, 1) := by decide +kernel
theorem dX5_count_140 : decode cX5_count 140 = .ok (.getfield 10, 3) := by decide +kernel
theorem dX5_count_143 : decode cX5_count 143 = .ok (.invokevirtual 189, 3) := by decide +kernel
theorem dX5_count_146 : decode cX5_count 146 = .ok (.ireturn, 1) := by decide +kernel
theorem dX5_count_147 : decode cX5_count 147 = .ok (.aload_n 0, 1) := by decide +kernel
theorem dX5_count_148 : decode cX5_count 148 = .ok (.getfield 10, 3) := by decide +kernel
theorem dX5_count_151 : decode cX5_count 151 = .ok (.invokevirtual 221, 3) := by decide +kernel
theorem dX5_count_154 : decode cX5_count 154 = .ok (.ireturn, 1) := by decide +kernel
theorem dX5_count_155 : decode cX5_count 155 = .ok (.aload_n 0, 1) := by decide +kernel
theorem dX5_count_156 : decode cX5_count 156 = .ok (.getfield 10, 3) := by decide +kernel
theorem dX5_count_159 : decode cX5_count 159 = .ok (.getfield 224, 3) := by decide +kernel
theorem dX5_count_162 : decode cX5_count 162 = .ok (.ireturn, 1) := by decide +kernel
theorem dX5_count_163 : decode cX5_count 163 = .ok (.aload_n 0, 1) := by decide +kernel
theorem dX5_count_164 : decode cX5_count 164 = .ok (.getfield 10, 3) := by decide +kernel
theorem dX5_count_167 : decode cX5_count 167 = .ok (.getfield 227, 3) := by decide +kernel
theorem dX5_count_170 : decode cX5_count 170 = .ok (.ireturn, 1) := by decide +kernel
theorem dX5_count_171 : decode cX5_count 171 = .ok (.aload_n 0, 1) := by decide +kernel
theorem dX5_count_172 : decode cX5_count 172 = .ok (.getfield 10, 3) := by decide +kernel
theorem dX5_count_175 : decode cX5_count 175 = .ok (.iconst 0, 1) := by decide +kernel
theorem dX5_count_176 : decode cX5_count 176 = .ok (.invokevirtual 230, 3) := by decide +kernel
theorem dX5_count_179 : decode cX5_count 179 = .ok (.ireturn, 1) := by decide +kernel
theorem dX5_count_180 : decode cX5_count 180 = .ok (.aload_n 0, 1) := by decide +kernel
theorem dX5_count_181 : decode cX5_count 181 = .ok (.getfield 10, 3) := by decide +kernel
theorem dX5_count_184 : decode cX5_count 184 = .ok (.iconst 1, 1) := by decide +kernel
theorem dX5_count_185 : decode cX5_count 185 = .ok (.invokevirtual 230, 3) := by decide +kernel
theorem dX5_count_188 : decode cX5_count 188 = .ok (.ireturn, 1) := by decide +kernel
theorem dX5_count_189 : decode cX5_count 189 = .ok (.aload_n 0, 1) := by decide +kernel
theorem dX5_count_190 : decode cX5_count 190 = .ok (.getfield 10, 3) := by decide +kernel
theorem dX5_count_193 : decode cX5_count 193 = .ok (.iconst 2, 1) := by decide +kernel
theorem dX5_count_194 : decode cX5_count 194 = .ok (.invokevirtual 230, 3) := by decide +kernel
theorem dX5_count_197 : decode cX5_count 197 = .ok (.ireturn, 1) := by decide +kernel
theorem dX5_count_198 : decode cX5_count 198 = .ok (.aload_n 0, 1) := by decide +kernel
theorem dX5_count_199 : decode cX5_count 199 = .ok (.getfield 95, 3) := by decide +kernel
theorem dX5_count_202 : decode cX5_count 202 = .ok (.ireturn, 1) := by decide +kernel
theorem dX5_count_203 : decode cX5_count 203 = .ok (.aload_n 0, 1) := by decide +kernel
theorem dX5_count_204 : decode cX5_count 204 = .ok (.getfield 26, 3) := by decide +kernel
theorem dX5_count_207 : decode cX5_count 207 = .ok (.getfield 233, 3) := by decide +kernel
theorem dX5_count_210 : decode cX5_count 210 = .ok (.ireturn, 1) := by decide +kernel
theorem dX5_count_211 : decode cX5_count 211 = .ok (.bipush (-2), 2) := by decide +kernel
theorem dX5_count_213 : decode cX5_count 213 = .ok (.ireturn, 1) := by decide +kernel
theorem dX5_recorded_0 : decode cX5_recorded 0 = .ok (.iload_n 1, 1) := by decide +kernel
theorem dX5_recorded_1 : decode cX5_recorded 1 = .ok (.ifCond .ge 5, 3) := by decide +kernel
theorem dX5_recorded_4 : decode cX5_recorded 4 = .ok (.iload_n 1, 1) := by decide +kernel
theorem dX5_recorded_5 : decode cX5_recorded 5 = .ok (.ireturn, 1) := by decide +kernel
theorem dX5_recorded_6 : decode cX5_recorded 6 = .ok (.aload_n 0, 1) := by decide +kernel
theorem dX5_recorded_7 : decode cX5_recorded 7 = .ok (.getfield 30, 3) := by decide +kernel
theorem dX5_recorded_10 : decode cX5_recorded 10 = .ok (.astore_n 2, 1) := by decide +kernel
theorem dX5_recorded_11 : decode cX5_recorded 11 = .ok (.aload_n 0, 1) := by decide +kernel
theorem dX5_recorded_12 : decode cX5_recorded 12 = .ok (.getfield 95, 3) := by decide +kernel
theorem dX5_recorded_15 : decode cX5_recorded 15 = .ok (.aload_n 0, 1) := by decide +kernel
theorem dX5_recorded_16 : decode cX5_recorded 16 = .ok (.getfield 19, 3) := by decide +kernel
theorem dX5_recorded_19 : decode cX5_recorded 19 = .ok (.arraylength, 1) := by decide +kernel
theorem dX5_recorded_20 : decode cX5_recorded 20 = .ok (.if_icmp .ge 29, 3) := by decide +kernel
theorem dX5_recorded_23 : decode cX5_recorded 23 = .ok (.aload_n 0, 1) := by decide +kernel
theorem dX5_recorded_24 : decode cX5_recorded 24 = .ok (.aload_n 0, 1) := by decide +kernel
theorem dX5_recorded_25 : decode cX5_recorded 25 = .ok (.getfield 19, 3) := by decide +kernel
theorem dX5_recorded_28 : decode cX5_recorded 28 = .ok (.aload_n 0, 1) := by decide +kernel
theorem dX5_recorded_29 : decode cX5_recorded 29 = .ok (.getfield 95, 3) := by decide +kernel
theorem dX5_recorded_32 : decode cX5_recorded 32 = .ok (.aaload, 1) := by decide +kernel
theorem dX5_recorded_33 : decode cX5_recorded 33 = .ok (.putfield 30, 3) := by decide +kernel
theorem dX5_recorded_36 : decode cX5_recorded 36 = .ok (.aload_n 0, 1) := by decide +kernel
theorem dX5_recorded_37 : decode cX5_recorded 37 = .ok (.dup, 1) := by decide +kernel
theorem dX5_recorded_38 : decode cX5_recorded 38 = .ok (.getfield 95, 3) := by decide +kernel
theorem dX5_recorded_41 : decode cX5_recorded 41 = .ok (.iconst 1, 1) := by decide +kernel
theorem dX5_recorded_42 : decode cX5_recorded 42 = .ok (.iadd, 1) := by decide +kernel
theorem dX5_recorded_43 : decode cX5_recorded 43 = .ok (.putfield 95, 3) := by decide +kernel
theorem dX5_recorded_46 : decode cX5_recorded 46 = .ok (.goto 44, 3) := by decide +kernel
theorem dX5_recorded_49 : decode cX5_recorded 49 = .ok (.aload_n 0, 1) := by decide +kernel
theorem dX5_recorded_50 : decode cX5_recorded 50 = .ok (.aload_n 0, 1) := by decide +kernel
end
section
theorem dX5_recorded_51 : decode cX5_recorded 51 = .ok (.getfield 19, 3) := by decide +kernel
theorem dX5_recorded_54 : decode cX5_recorded 54 = .ok (.iconst 0, 1) := by decide +kernel
theorem dX5_recorded_55 : decode cX5_recorded 55 = .ok (.aaload, 1) := by decide +kernel
theorem dX5_recorded_56 : decode cX5_recorded 56 = .ok (.putfield 30, 3) := by decide +kernel
theorem dX5_recorded_59 : decode cX5_recorded 59 = .ok (.iconst 1, 1) := by decide +kernel
theorem dX5_recorded_60 : decode cX5_recorded 60 = .ok (.istore_n 3, 1) := by decide +kernel
theorem dX5_recorded_61 : decode cX5_recorded 61 = .ok (.iload_n 3, 1) := by decide +kernel
theorem dX5_recorded_62 : decode cX5_recorded 62 = .ok (.aload_n 0, 1) := by decide +kernel
theorem dX5_recorded_63 : decode cX5_recorded 63 = .ok (.getfield 19, 3) := by decide +kernel
theorem dX5_recorded_66 : decode cX5_recorded 66 = .ok (.arraylength, 1) := by decide +kernel
theorem dX5_recorded_67 : decode cX5_recorded 67 = .ok (.if_icmp .ge 23, 3) := by decide +kernel
theorem dX5_recorded_70 : decode cX5_recorded 70 = .ok (.aload_n 0, 1) := by decide +kernel
theorem dX5_recorded_71 : decode cX5_recorded 71 = .ok (.getfield 19, 3) := by decide +kernel
theorem dX5_recorded_74 : decode cX5_recorded 74 = .ok (.iload_n 3, 1) := by decide +kernel
theorem dX5_recorded_75 : decode cX5_recorded 75 = .ok (.iconst 1, 1) := by decide +kernel
theorem dX5_recorded_76 : decode cX5_recorded 76 = .ok (.isub, 1) := by decide +kernel
theorem dX5_recorded_77 : decode cX5_recorded 77 = .ok (.aload_n 0, 1) := by decide +kernel
theorem dX5_recorded_78 : decode cX5_recorded 78 = .ok (.getfield 19, 3) := by decide +kernel
theorem dX5_recorded_81 : decode cX5_recorded 81 = .ok (.iload_n 3, 1) := by decide +kernel
theorem dX5_recorded_82 : decode cX5_recorded 82 = .ok (.aaload, 1) := by decide +kernel
theorem dX5_recorded_83 : decode cX5_recorded 83 = .ok (.aastore, 1) := by decide +kernel
theorem dX5_recorded_84 : decode cX5_recorded 84 = .ok (.iinc 3 1, 3) := by decide +kernel
theorem dX5_recorded_87 : decode cX5_recorded 87 = .ok (.goto (-26), 3) := by decide +kernel
theorem dX5_recorded_90 : decode cX5_recorded 90 = .ok (.aload_n 0, 1) := by decide +kernel
theorem dX5_recorded_91 : decode cX5_recorded 91 = .ok (.getfield 19, 3) := by decide +kernel
theorem dX5_recorded_94 : decode cX5_recorded 94 = .ok (.aload_n 0, 1) := by decide +kernel
theorem dX5_recorded_95 : decode cX5_recorded 95 = .ok (.getfield 95, 3) := by decide +kernel
theorem dX5_recorded_98 : decode cX5_recorded 98 = .ok (.iconst 1, 1) := by decide +kernel
theorem dX5_recorded_99 : decode cX5_recorded 99 = .ok (.isub, 1) := by decide +kernel
theorem dX5_recorded_100 : decode cX5_recorded 100 = .ok (.aload_n 2, 1) := by decide +kernel
theorem dX5_recorded_101 : decode cX5_recorded 101 = .ok (.aastore, 1) := by decide +kernel
theorem dX5_recorded_102 : decode cX5_recorded 102 = .ok (.iload_n 1, 1) := by decide +kernel
theorem dX5_recorded_103 : decode cX5_recorded 103 = .ok (.ireturn, 1) := by decide +kernel
theorem dX5_carryOutOrder_0 : decode cX5_carryOutOrder 0 = .ok (.aload_n 0, 1) := by decide +kernel
theorem dX5_carryOutOrder_1 : decode cX5_carryOutOrder 1 = .ok (.getfield 26, 3) := by decide +kernel
theorem dX5_carryOutOrder_4 : decode cX5_carryOutOrder 4 = .ok (.iconst 0, 1) := by decide +kernel
theorem dX5_carryOutOrder_5 : decode cX5_carryOutOrder 5 = .ok (.invokevirtual 236, 3) := by decide +kernel
theorem dX5_carryOutOrder_8 : decode cX5_carryOutOrder 8 = .ok (.istore_n 1, 1) := by decide +kernel
theorem dX5_carryOutOrder_9 : decode cX5_carryOutOrder 9 = .ok (.aload_n 0, 1) := by decide +kernel
theorem dX5_carryOutOrder_10 : decode cX5_carryOutOrder 10 = .ok (.getfield 26, 3) := by decide +kernel
theorem dX5_carryOutOrder_13 : decode cX5_carryOutOrder 13 = .ok (.iconst 1, 1) := by decide +kernel
theorem dX5_carryOutOrder_14 : decode cX5_carryOutOrder 14 = .ok (.invokevirtual 236, 3) := by decide +kernel
theorem dX5_carryOutOrder_17 : decode cX5_carryOutOrder 17 = .ok (.istore_n 2, 1) := by decide +kernel
theorem dX5_carryOutOrder_18 : decode cX5_carryOutOrder 18 = .ok (.aload_n 0, 1) := by decide +kernel
theorem dX5_carryOutOrder_19 : decode cX5_carryOutOrder 19 = .ok (.getfield 26, 3) := by decide +kernel
theorem dX5_carryOutOrder_22 : decode cX5_carryOutOrder 22 = .ok (.getfield 239, 3) := by decide +kernel
theorem dX5_carryOutOrder_25 : decode cX5_carryOutOrder 25 = .ok (.tableswitch 100 0 4 #[35, 61, 71, 81, 91], 35) := by decide +kernel
theorem dX5_carryOutOrder_60 : decode cX5_carryOutOrder 60 = .ok (.aload_n 0, 1) := by decide +kernel
theorem dX5_carryOutOrder_61 : decode cX5_carryOutOrder 61 = .ok (.getfield 10, 3) := by decide +kernel
theorem dX5_carryOutOrder_64 : decode cX5_carryOutOrder 64 = .ok (.iload_n 1, 1) := by decide +kernel
theorem dX5_carryOutOrder_65 : decode cX5_carryOutOrder 65 = .ok (.iload_n 2, 1) := by decide +kernel
theorem dX5_carryOutOrder_66 : decode cX5_carryOutOrder 66 = .ok (.aload_n 0, 1) := by decide +kernel
theorem dX5_carryOutOrder_67 : decode cX5_carryOutOrder 67 = .ok (.getfield 26, 3) := by decide +kernel
theorem dX5_carryOutOrder_70 : decode cX5_carryOutOrder 70 = .ok (.iconst 2, 1) := by decide +kernel
theorem dX5_carryOutOrder_71 : decode cX5_carryOutOrder 71 = .ok (.invokevirtual 236, 3) := by decide +kernel
theorem dX5_carryOutOrder_74 : decode cX5_carryOutOrder 74 = .ok (.aload_n 0, 1) := by decide +kernel
theorem dX5_carryOutOrder_75 : decode cX5_carryOutOrder 75 = .ok (.getfield 26, 3) := by decide +kernel
theorem dX5_carryOutOrder_78 : decode cX5_carryOutOrder 78 = .ok (.iconst 3, 1) := by decide +kernel
theorem dX5_carryOutOrder_79 : decode cX5_carryOutOrder 79 = .ok (.invokevirtual 236, 3) := by decide +kernel
theorem dX5_carryOutOrder_82 : decode cX5_carryOutOrder 82 = .ok (.invokevirtual 44, 3) := by decide +kernel
theorem dX5_carryOutOrder_85 : decode cX5_carryOutOrder 85 = .ok (.ireturn, 1) := by decide +kernel
theorem dX5_carryOutOrder_86 : decode cX5_carryOutOrder 86 = .ok (.aload_n 0, 1) := by decide +kernel
theorem dX5_carryOutOrder_87 : decode cX5_carryOutOrder 87 = .ok (.getfield 10, 3) := by decide +kernel
theorem dX5_carryOutOrder_90 : decode cX5_carryOutOrder 90 = .ok (.iload_n 1, 1) := by decide +kernel
theorem dX5_carryOutOrder_91 : decode cX5_carryOutOrder 91 = .ok (.iload_n 2, 1) := by decide +kernel
theorem dX5_carryOutOrder_92 : decode cX5_carryOutOrder 92 = .ok (.invokevirtual 55, 3) := by decide +kernel
theorem dX5_carryOutOrder_95 : decode cX5_carryOutOrder 95 = .ok (.ireturn, 1) := by decide +kernel
theorem dX5_carryOutOrder_96 : decode cX5_carryOutOrder 96 = .ok (.aload_n 0, 1) := by decide +kernel
theorem dX5_carryOutOrder_97 : decode cX5_carryOutOrder 97 = .ok (.getfield 10, 3) := by decide +kernel
theorem dX5_carryOutOrder_100 : decode cX5_carryOutOrder 100 = .ok (.iload_n 1, 1) := by decide +kernel
theorem dX5_carryOutOrder_101 : decode cX5_carryOutOrder 101 = .ok (.iload_n 2, 1) := by decide +kernel
theorem dX5_carryOutOrder_102 : decode cX5_carryOutOrder 102 = .ok (.invokevirtual 59, 3) := by decide +kernel
theorem dX5_carryOutOrder_105 : decode cX5_carryOutOrder 105 = .ok (.ireturn, 1) := by decide +kernel
theorem dX5_carryOutOrder_106 : decode cX5_carryOutOrder 106 = .ok (.aload_n 0, 1) := by decide +kernel
theorem dX5_carryOutOrder_107 : decode cX5_carryOutOrder 107 = .ok (.getfield 10, 3) := by decide +kernel
theorem dX5_carryOutOrder_110 : decode cX5_carryOutOrder 110 = .ok (.iload_n 1, 1) := by decide +kernel
theorem dX5_carryOutOrder_111 : decode cX5_carryOutOrder 111 = .ok (.iload_n 2, 1) := by decide +kernel
theorem dX5_carryOutOrder_112 : decode cX5_carryOutOrder 112 = .ok (.invokevirtual 62, 3) := by decide +kernel
theorem dX5_carryOutOrder_115 : decode cX5_carryOutOrder 115 = .ok (.ireturn, 1) := by decide +kernel
theorem dX5_carryOutOrder_116 : decode cX5_carryOutOrder 116 = .ok (.aload_n 0, 1) := by decide +kernel
theorem dX5_carryOutOrder_117 : decode cX5_carryOutOrder 117 = .ok (.getfield 10, 3) := by decide +kernel
theorem dX5_carryOutOrder_120 : decode cX5_carryOutOrder 120 = .ok (.iload_n 1, 1) := by decide +kernel
theorem dX5_carryOutOrder_121 : decode cX5_carryOutOrder 121 = .ok (.invokevirtual 68, 3) := by decide +kernel
theorem dX5_carryOutOrder_124 : decode cX5_carryOutOrder 124 = .ok (.ireturn, 1) := by decide +kernel
theorem dX5_carryOutOrder_125 : decode cX5_carryOutOrder 125 = .ok (.bipush (-4), 2) := by decide +kernel
theorem dX5_carryOutOrder_127 : decode cX5_carryOutOrder 127 = .ok (.ireturn, 1) := by decide +kernel
theorem dX5_isIndex_0 : decode cX5_isIndex 0 = .ok (.iload_n 0, 1) := by decide +kernel
theorem dX5_isIndex_1 : decode cX5_isIndex 1 = .ok (.ifCond .lt 12, 3) := by decide +kernel
theorem dX5_isIndex_4 : decode cX5_isIndex 4 = .ok (.iload_n 0, 1) := by decide +kernel
theorem dX5_isIndex_5 : decode cX5_isIndex 5 = .ok (.iload_n 1, 1) := by decide +kernel
theorem dX5_isIndex_6 : decode cX5_isIndex 6 = .ok (.if_icmp .ge 7, 3) := by decide +kernel
theorem dX5_isIndex_9 : decode cX5_isIndex 9 = .ok (.iconst 1, 1) := by decide +kernel
theorem dX5_isIndex_10 : decode cX5_isIndex 10 = .ok (.goto 4, 3) := by decide +kernel
theorem dX5_isIndex_13 : decode cX5_isIndex 13 = .ok (.iconst 0, 1) := by decide +kernel
theorem dX5_isIndex_14 : decode cX5_isIndex 14 = .ok (.ireturn, 1) := by decide +kernel
theorem dX5_isPlace_0 : decode cX5_isPlace 0 = .ok (.iload_n 0, 1) := by decide +kernel
theorem dX5_isPlace_1 : decode cX5_isPlace 1 = .ok (.bipush 9, 2) := by decide +kernel
theorem dX5_isPlace_3 : decode cX5_isPlace 3 = .ok (.irem, 1) := by decide +kernel
theorem dX5_isPlace_4 : decode cX5_isPlace 4 = .ok (.bipush 8, 2) := by decide +kernel
theorem dX5_isPlace_6 : decode cX5_isPlace 6 = .ok (.if_icmp .ne 7, 3) := by decide +kernel
theorem dX5_isPlace_9 : decode cX5_isPlace 9 = .ok (.iconst 1, 1) := by decide +kernel
theorem dX5_isPlace_10 : decode cX5_isPlace 10 = .ok (.goto 4, 3) := by decide +kernel
theorem dX5_isPlace_13 : decode cX5_isPlace 13 = .ok (.iconst 0, 1) := by decide +kernel
theorem dX5_isPlace_14 : decode cX5_isPlace 14 = .ok (.ireturn, 1) := by decide +kernel
theorem dX6_init_0 : decode cX6_init 0 = .ok (.aload_n 0, 1) := by decide +kernel
theorem dX6_init_1 : decode cX6_init 1 = .ok (.invokespecial 1, 3) := by decide +kernel
theorem dX6_init_4 : decode cX6_init 4 = .ok (.aload_n 0, 1) := by decide +kernel
theorem dX6_init_5 : decode cX6_init 5 = .ok (.sipush 375, 3) := by decide +kernel
theorem dX6_init_8 : decode cX6_init 8 = .ok (.newarray .int, 2) := by decide +kernel
theorem dX6_init_10 : decode cX6_init 10 = .ok (.putfield 7, 3) := by decide +kernel
theorem dX6_init_13 : decode cX6_init 13 = .ok (.aload_n 0, 1) := by decide +kernel
theorem dX6_init_14 : decode cX6_init 14 = .ok (.sipush 375, 3) := by decide +kernel
theorem dX6_init_17 : decode cX6_init 17 = .ok (.newarray .int, 2) := by decide +kernel
theorem dX6_init_19 : decode cX6_init 19 = .ok (.putfield 13, 3) := by decide +kernel
theorem dX6_init_22 : decode cX6_init 22 = .ok (.aload_n 0, 1) := by decide +kernel
theorem dX6_init_23 : decode cX6_init 23 = .ok (.sipush 1500, 3) := by decide +kernel
theorem dX6_init_26 : decode cX6_init 26 = .ok (.newarray .int, 2) := by decide +kernel
theorem dX6_init_28 : decode cX6_init 28 = .ok (.putfield 16, 3) := by decide +kernel
theorem dX6_init_31 : decode cX6_init 31 = .ok (.aload_n 0, 1) := by decide +kernel
theorem dX6_init_32 : decode cX6_init 32 = .ok (.sipush 375, 3) := by decide +kernel
theorem dX6_init_35 : decode cX6_init 35 = .ok (.newarray .int, 2) := by decide +kernel
theorem dX6_init_37 : decode cX6_init 37 = .ok (.putfield 19, 3) := by decide +kernel
theorem dX6_init_40 : decode cX6_init 40 = .ok (.aload_n 0, 1) := by decide +kernel
theorem dX6_init_41 : decode cX6_init 41 = .ok (.bipush 80, 2) := by decide +kernel
theorem dX6_init_43 : decode cX6_init 43 = .ok (.newarray .int, 2) := by decide +kernel
theorem dX6_init_45 : decode cX6_init 45 = .ok (.putfield 22, 3) := by decide +kernel
theorem dX6_init_48 : decode cX6_init 48 = .ok (.aload_n 0, 1) := by decide +kernel
theorem dX6_init_49 : decode cX6_init 49 = .ok (.bipush (-5), 2) := by decide +kernel
theorem dX6_init_51 : decode cX6_init 51 = .ok (.putfield 25, 3) := by decide +kernel
theorem dX6_init_54 : decode cX6_init 54 = .ok (.aload_n 0, 1) := by decide +kernel
theorem dX6_init_55 : decode cX6_init 55 = .ok (.getfield 7, 3) := by decide +kernel
theorem dX6_init_58 : decode cX6_init 58 = .ok (.iconst 0, 1) := by decide +kernel
theorem dX6_init_59 : decode cX6_init 59 = .ok (.iconst 2, 1) := by decide +kernel
theorem dX6_init_60 : decode cX6_init 60 = .ok (.iastore, 1) := by decide +kernel
theorem dX6_init_61 : decode cX6_init 61 = .ok (.aload_n 0, 1) := by decide +kernel
theorem dX6_init_62 : decode cX6_init 62 = .ok (.getfield 7, 3) := by decide +kernel
theorem dX6_init_65 : decode cX6_init 65 = .ok (.iconst 1, 1) := by decide +kernel
theorem dX6_init_66 : decode cX6_init 66 = .ok (.iconst 2, 1) := by decide +kernel
theorem dX6_init_67 : decode cX6_init 67 = .ok (.iastore, 1) := by decide +kernel
theorem dX6_init_68 : decode cX6_init 68 = .ok (.aload_n 0, 1) := by decide +kernel
theorem dX6_init_69 : decode cX6_init 69 = .ok (.getfield 7, 3) := by decide +kernel
theorem dX6_init_72 : decode cX6_init 72 = .ok (.iconst 2, 1) := by decide +kernel
theorem dX6_init_73 : decode cX6_init 73 = .ok (.bipush 10, 2) := by decide +kernel
theorem dX6_init_75 : decode cX6_init 75 = .ok (.iastore, 1) := by decide +kernel
theorem dX6_init_76 : decode cX6_init 76 = .ok (.iconst 0, 1) := by decide +kernel
theorem dX6_init_77 : decode cX6_init 77 = .ok (.istore_n 1, 1) := by decide +kernel
theorem dX6_init_78 : decode cX6_init 78 = .ok (.iload_n 1, 1) := by decide +kernel
theorem dX6_init_79 : decode cX6_init 79 = .ok (.iconst 4, 1) := by decide +kernel
theorem dX6_init_80 : decode cX6_init 80 = .ok (.if_icmp .ge 33, 3) := by decide +kernel
theorem dX6_init_83 : decode cX6_init 83 = .ok (.aload_n 0, 1) := by decide +kernel
theorem dX6_init_84 : decode cX6_init 84 = .ok (.getfield 7, 3) := by decide +kernel
theorem dX6_init_87 : decode cX6_init 87 = .ok (.iload_n 1, 1) := by decide +kernel
theorem dX6_init_88 : decode cX6_init 88 = .ok (.iconst 0, 1) := by decide +kernel
theorem dX6_init_89 : decode cX6_init 89 = .ok (.invokestatic 29, 3) := by decide +kernel
theorem dX6_init_92 : decode cX6_init 92 = .ok (.bipush (-5), 2) := by decide +kernel
theorem dX6_init_94 : decode cX6_init 94 = .ok (.iastore, 1) := by decide +kernel
theorem dX6_init_95 : decode cX6_init 95 = .ok (.aload_n 0, 1) := by decide +kernel
theorem dX6_init_96 : decode cX6_init 96 = .ok (.getfield 7, 3) := by decide +kernel
theorem dX6_init_99 : decode cX6_init 99 = .ok (.iload_n 1, 1) := by decide +kernel
theorem dX6_init_100 : decode cX6_init 100 = .ok (.iconst 4, 1) := by decide +kernel
theorem dX6_init_101 : decode cX6_init 101 = .ok (.invokestatic 29, 3) := by decide +kernel
theorem dX6_init_104 : decode cX6_init 104 = .ok (.bipush (-5), 2) := by decide +kernel
theorem dX6_init_106 : decode cX6_init 106 = .ok (.iastore, 1) := by decide +kernel
theorem dX6_init_107 : decode cX6_init 107 = .ok (.iinc 1 1, 3) := by decide +kernel
theorem dX6_init_110 : decode cX6_init 110 = .ok (.goto (-32), 3) := by decide +kernel
theorem dX6_init_113 : decode cX6_init 113 = .ok (.return_, 1) := by decide +kernel
theorem dX6_in_0 : decode cX6_in 0 = .ok (.iload_n 0, 1) := by decide +kernel
theorem dX6_in_1 : decode cX6_in 1 = .ok (.iload_n 1, 1) := by decide +kernel
theorem dX6_in_2 : decode cX6_in 2 = .ok (.if_icmp .lt 12, 3) := by decide +kernel
theorem dX6_in_5 : decode cX6_in 5 = .ok (.iload_n 0, 1) := by decide +kernel
theorem dX6_in_6 : decode cX6_in 6 = .ok (.iload_n 2, 1) := by decide +kernel
theorem dX6_in_7 : decode cX6_in 7 = .ok (.if_icmp .gt 7, 3) := by decide +kernel
theorem dX6_in_10 : decode cX6_in 10 = .ok (.iconst 1, 1) := by decide +kernel
theorem dX6_in_11 : decode cX6_in 11 = .ok (.goto 4, 3) := by decide +kernel
theorem dX6_in_14 : decode cX6_in 14 = .ok (.iconst 0, 1) := by decide +kernel
theorem dX6_in_15 : decode cX6_in 15 = .ok (.ireturn, 1) := by decide +kernel
theorem dX6_of_0 : decode cX6_of 0 = .ok (.iconst 4, 1) := by decide +kernel
theorem dX6_of_1 : decode cX6_of 1 = .ok (.bipush 22, 2) := by decide +kernel
theorem dX6_of_3 : decode cX6_of 3 = .ok (.iload_n 0, 1) := by decide +kernel
theorem dX6_of_4 : decode cX6_of 4 = .ok (.imul, 1) := by decide +kernel
theorem dX6_of_5 : decode cX6_of 5 = .ok (.iadd, 1) := by decide +kernel
theorem dX6_of_6 : decode cX6_of 6 = .ok (.iload_n 1, 1) := by decide +kernel
theorem dX6_of_7 : decode cX6_of 7 = .ok (.iadd, 1) := by decide +kernel
theorem dX6_of_8 : decode cX6_of 8 = .ok (.ireturn, 1) := by decide +kernel
theorem dX6_ofListener_0 : decode cX6_ofListener 0 = .ok (.bipush 92, 2) := by decide +kernel
theorem dX6_ofListener_2 : decode cX6_ofListener 2 = .ok (.iconst 5, 1) := by decide +kernel
theorem dX6_ofListener_3 : decode cX6_ofListener 3 = .ok (.iload_n 0, 1) := by decide +kernel
theorem dX6_ofListener_4 : decode cX6_ofListener 4 = .ok (.imul, 1) := by decide +kernel
theorem dX6_ofListener_5 : decode cX6_ofListener 5 = .ok (.iadd, 1) := by decide +kernel
theorem dX6_ofListener_6 : decode cX6_ofListener 6 = .ok (.iload_n 1, 1) := by decide +kernel
theorem dX6_ofListener_7 : decode cX6_ofListener 7 = .ok (.iadd, 1) := by decide +kernel
theorem dX6_ofListener_8 : decode cX6_ofListener 8 = .ok (.ireturn, 1) := by decide +kernel
theorem dX6_inMessage_0 : decode cX6_inMessage 0 = .ok (.aload_n 0, 1) := by decide +kernel
theorem dX6_inMessage_1 : decode cX6_inMessage 1 = .ok (.getfield 7, 3) := by decide +kernel
theorem dX6_inMessage_4 : decode cX6_inMessage 4 = .ok (.iload_n 1, 1) := by decide +kernel
theorem dX6_inMessage_5 : decode cX6_inMessage 5 = .ok (.bipush 7, 2) := by decide +kernel
theorem dX6_inMessage_7 : decode cX6_inMessage 7 = .ok (.iconst 3, 1) := by decide +kernel
theorem dX6_inMessage_8 : decode cX6_inMessage 8 = .ok (.iload_n 2, 1) := by decide +kernel
theorem dX6_inMessage_9 : decode cX6_inMessage 9 = .ok (.imul, 1) := by decide +kernel
theorem dX6_inMessage_10 : decode cX6_inMessage 10 = .ok (.iadd, 1) := by decide +kernel
theorem dX6_inMessage_11 : decode cX6_inMessage 11 = .ok (.iload_n 3, 1) := by decide +kernel
theorem dX6_inMessage_12 : decode cX6_inMessage 12 = .ok (.iadd, 1) := by decide +kernel
theorem dX6_inMessage_13 : decode cX6_inMessage 13 = .ok (.invokestatic 33, 3) := by decide +kernel
theorem dX6_inMessage_16 : decode cX6_inMessage 16 = .ok (.iaload, 1) := by decide +kernel
theorem dX6_inMessage_17 : decode cX6_inMessage 17 = .ok (.ireturn, 1) := by decide +kernel
theorem dX6_isOne_0 : decode cX6_isOne 0 = .ok (.iload_n 0, 1) := by decide +kernel
theorem dX6_isOne_1 : decode cX6_isOne 1 = .ok (.iconst 0, 1) := by decide +kernel
theorem dX6_isOne_2 : decode cX6_isOne 2 = .ok (.iconst 3, 1) := by decide +kernel
theorem dX6_isOne_3 : decode cX6_isOne 3 = .ok (.invokestatic 36, 3) := by decide +kernel
theorem dX6_isOne_6 : decode cX6_isOne 6 = .ok (.ireturn, 1) := by decide +kernel
theorem dX6_putAside_0 : decode cX6_putAside 0 = .ok (.iconst 0, 1) := by decide +kernel
theorem dX6_putAside_1 : decode cX6_putAside 1 = .ok (.istore_n 1, 1) := by decide +kernel
theorem dX6_putAside_2 : decode cX6_putAside 2 = .ok (.iload_n 1, 1) := by decide +kernel
theorem dX6_putAside_3 : decode cX6_putAside 3 = .ok (.sipush 375, 3) := by decide +kernel
theorem dX6_putAside_6 : decode cX6_putAside 6 = .ok (.if_icmp .ge 21, 3) := by decide +kernel
theorem dX6_putAside_9 : decode cX6_putAside 9 = .ok (.aload_n 0, 1) := by decide +kernel
theorem dX6_putAside_10 : decode cX6_putAside 10 = .ok (.getfield 13, 3) := by decide +kernel
theorem dX6_putAside_13 : decode cX6_putAside 13 = .ok (.iload_n 1, 1) := by decide +kernel
theorem dX6_putAside_14 : decode cX6_putAside 14 = .ok (.aload_n 0, 1) := by decide +kernel
theorem dX6_putAside_15 : decode cX6_putAside 15 = .ok (.getfield 7, 3) := by decide +kernel
theorem dX6_putAside_18 : decode cX6_putAside 18 = .ok (.iload_n 1, 1) := by decide +kernel
theorem dX6_putAside_19 : decode cX6_putAside 19 = .ok (.iaload, 1) := by decide +kernel
theorem dX6_putAside_20 : decode cX6_putAside 20 = .ok (.iastore, 1) := by decide +kernel
theorem dX6_putAside_21 : decode cX6_putAside 21 = .ok (.iinc 1 1, 3) := by decide +kernel
theorem dX6_putAside_24 : decode cX6_putAside 24 = .ok (.goto (-22), 3) := by decide +kernel
theorem dX6_putAside_27 : decode cX6_putAside 27 = .ok (.return_, 1) := by decide +kernel
theorem dX6_putBack_0 : decode cX6_putBack 0 = .ok (.iconst 0, 1) := by decide +kernel
theorem dX6_putBack_1 : decode cX6_putBack 1 = .ok (.istore_n 1, 1) := by decide +kernel
theorem dX6_putBack_2 : decode cX6_putBack 2 = .ok (.iload_n 1, 1) := by decide +kernel
theorem dX6_putBack_3 : decode cX6_putBack 3 = .ok (.sipush 375, 3) := by decide +kernel
theorem dX6_putBack_6 : decode cX6_putBack 6 = .ok (.if_icmp .ge 21, 3) := by decide +kernel
theorem dX6_putBack_9 : decode cX6_putBack 9 = .ok (.aload_n 0, 1) := by decide +kernel
theorem dX6_putBack_10 : decode cX6_putBack 10 = .ok (.getfield 7, 3) := by decide +kernel
theorem dX6_putBack_13 : decode cX6_putBack 13 = .ok (.iload_n 1, 1) := by decide +kernel
theorem dX6_putBack_14 : decode cX6_putBack 14 = .ok (.aload_n 0, 1) := by decide +kernel
theorem dX6_putBack_15 : decode cX6_putBack 15 = .ok (.getfield 13, 3) := by decide +kernel
theorem dX6_putBack_18 : decode cX6_putBack 18 = .ok (.iload_n 1, 1) := by decide +kernel
theorem dX6_putBack_19 : decode cX6_putBack 19 = .ok (.iaload, 1) := by decide +kernel
theorem dX6_putBack_20 : decode cX6_putBack 20 = .ok (.iastore, 1) := by decide +kernel
theorem dX6_putBack_21 : decode cX6_putBack 21 = .ok (.iinc 1 1, 3) := by decide +kernel
theorem dX6_putBack_24 : decode cX6_putBack 24 = .ok (.goto (-22), 3) := by decide +kernel
theorem dX6_putBack_27 : decode cX6_putBack 27 = .ok (.return_, 1) := by decide +kernel
theorem dX6_act_0 : decode cX6_act 0 = .ok (.iload_n 1, 1) := by decide +kernel
theorem dX6_act_1 : decode cX6_act 1 = .ok (.ifCond .ge 5, 3) := by decide +kernel
theorem dX6_act_4 : decode cX6_act 4 = .ok (.iload_n 1, 1) := by decide +kernel
theorem dX6_act_5 : decode cX6_act 5 = .ok (.ireturn, 1) := by decide +kernel
theorem dX6_act_6 : decode cX6_act 6 = .ok (.aload_n 0, 1) := by decide +kernel
theorem dX6_act_7 : decode cX6_act 7 = .ok (.getfield 40, 3) := by decide +kernel
theorem dX6_act_10 : decode cX6_act 10 = .ok (.iconst 4, 1) := by decide +kernel
theorem dX6_act_11 : decode cX6_act 11 = .ok (.if_icmp .ne 44, 3) := by decide +kernel
theorem dX6_act_14 : decode cX6_act 14 = .ok (.iconst 0, 1) := by decide +kernel
theorem dX6_act_15 : decode cX6_act 15 = .ok (.istore_n 2, 1) := by decide +kernel
theorem dX6_act_16 : decode cX6_act 16 = .ok (.iload_n 2, 1) := by decide +kernel
theorem dX6_act_17 : decode cX6_act 17 = .ok (.sipush 1125, 3) := by decide +kernel
theorem dX6_act_20 : decode cX6_act 20 = .ok (.if_icmp .ge 25, 3) := by decide +kernel
theorem dX6_act_23 : decode cX6_act 23 = .ok (.aload_n 0, 1) := by decide +kernel
theorem dX6_act_24 : decode cX6_act 24 = .ok (.getfield 16, 3) := by decide +kernel
theorem dX6_act_27 : decode cX6_act 27 = .ok (.iload_n 2, 1) := by decide +kernel
theorem dX6_act_28 : decode cX6_act 28 = .ok (.aload_n 0, 1) := by decide +kernel
theorem dX6_act_29 : decode cX6_act 29 = .ok (.getfield 16, 3) := by decide +kernel
theorem dX6_act_32 : decode cX6_act 32 = .ok (.sipush 375, 3) := by decide +kernel
theorem dX6_act_35 : decode cX6_act 35 = .ok (.iload_n 2, 1) := by decide +kernel
theorem dX6_act_36 : decode cX6_act 36 = .ok (.iadd, 1) := by decide +kernel
theorem dX6_act_37 : decode cX6_act 37 = .ok (.iaload, 1) := by decide +kernel
theorem dX6_act_38 : decode cX6_act 38 = .ok (.iastore, 1) := by decide +kernel
theorem dX6_act_39 : decode cX6_act 39 = .ok (.iinc 2 1, 3) := by decide +kernel
theorem dX6_act_42 : decode cX6_act 42 = .ok (.goto (-26), 3) := by decide +kernel
theorem dX6_act_45 : decode cX6_act 45 = .ok (.aload_n 0, 1) := by decide +kernel
theorem dX6_act_46 : decode cX6_act 46 = .ok (.dup, 1) := by decide +kernel
theorem dX6_act_47 : decode cX6_act 47 = .ok (.getfield 40, 3) := by decide +kernel
theorem dX6_act_50 : decode cX6_act 50 = .ok (.iconst 1, 1) := by decide +kernel
theorem dX6_act_51 : decode cX6_act 51 = .ok (.isub, 1) := by decide +kernel
theorem dX6_act_52 : decode cX6_act 52 = .ok (.putfield 40, 3) := by decide +kernel
theorem dX6_act_55 : decode cX6_act 55 = .ok (.iconst 0, 1) := by decide +kernel
theorem dX6_act_56 : decode cX6_act 56 = .ok (.istore_n 2, 1) := by decide +kernel
theorem dX6_act_57 : decode cX6_act 57 = .ok (.iload_n 2, 1) := by decide +kernel
theorem dX6_act_58 : decode cX6_act 58 = .ok (.sipush 375, 3) := by decide +kernel
theorem dX6_act_61 : decode cX6_act 61 = .ok (.if_icmp .ge 30, 3) := by decide +kernel
theorem dX6_act_64 : decode cX6_act 64 = .ok (.aload_n 0, 1) := by decide +kernel
theorem dX6_act_65 : decode cX6_act 65 = .ok (.getfield 16, 3) := by decide +kernel
theorem dX6_act_68 : decode cX6_act 68 = .ok (.sipush 375, 3) := by decide +kernel
theorem dX6_act_71 : decode cX6_act 71 = .ok (.aload_n 0, 1) := by decide +kernel
theorem dX6_act_72 : decode cX6_act 72 = .ok (.getfield 40, 3) := by decide +kernel
theorem dX6_act_75 : decode cX6_act 75 = .ok (.imul, 1) := by decide +kernel
theorem dX6_act_76 : decode cX6_act 76 = .ok (.iload_n 2, 1) := by decide +kernel
theorem dX6_act_77 : decode cX6_act 77 = .ok (.iadd, 1) := by decide +kernel
theorem dX6_act_78 : decode cX6_act 78 = .ok (.aload_n 0, 1) := by decide +kernel
theorem dX6_act_79 : decode cX6_act 79 = .ok (.getfield 13, 3) := by decide +kernel
theorem dX6_act_82 : decode cX6_act 82 = .ok (.iload_n 2, 1) := by decide +kernel
theorem dX6_act_83 : decode cX6_act 83 = .ok (.iaload, 1) := by decide +kernel
theorem dX6_act_84 : decode cX6_act 84 = .ok (.iastore, 1) := by decide +kernel
theorem dX6_act_85 : decode cX6_act 85 = .ok (.iinc 2 1, 3) := by decide +kernel
theorem dX6_act_88 : decode cX6_act 88 = .ok (.goto (-31), 3) := by decide +kernel
theorem dX6_act_91 : decode cX6_act 91 = .ok (.aload_n 0, 1) := by decide +kernel
theorem dX6_act_92 : decode cX6_act 92 = .ok (.dup, 1) := by decide +kernel
theorem dX6_act_93 : decode cX6_act 93 = .ok (.getfield 40, 3) := by decide +kernel
theorem dX6_act_96 : decode cX6_act 96 = .ok (.iconst 1, 1) := by decide +kernel
theorem dX6_act_97 : decode cX6_act 97 = .ok (.iadd, 1) := by decide +kernel
theorem dX6_act_98 : decode cX6_act 98 = .ok (.putfield 40, 3) := by decide +kernel
theorem dX6_act_101 : decode cX6_act 101 = .ok (.iload_n 1, 1) := by decide +kernel
theorem dX6_act_102 : decode cX6_act 102 = .ok (.ireturn, 1) := by decide +kernel
theorem dX6_bitsOf_0 : decode cX6_bitsOf 0 = .ok (.iload_n 0, 1) := by decide +kernel
theorem dX6_bitsOf_1 : decode cX6_bitsOf 1 = .ok (.bipush (-5), 2) := by decide +kernel
theorem dX6_bitsOf_3 : decode cX6_bitsOf 3 = .ok (.if_icmp .ne 8, 3) := by decide +kernel
theorem dX6_bitsOf_6 : decode cX6_bitsOf 6 = .ok (.bipush 18, 2) := by decide +kernel
theorem dX6_bitsOf_8 : decode cX6_bitsOf 8 = .ok (.goto 5, 3) := by decide +kernel
theorem dX6_bitsOf_11 : decode cX6_bitsOf 11 = .ok (.bipush 27, 2) := by decide +kernel
theorem dX6_bitsOf_13 : decode cX6_bitsOf 13 = .ok (.ireturn, 1) := by decide +kernel
theorem dX6_isAnswer_0 : decode cX6_isAnswer 0 = .ok (.iload_n 0, 1) := by decide +kernel
theorem dX6_isAnswer_1 : decode cX6_isAnswer 1 = .ok (.bipush 9, 2) := by decide +kernel
theorem dX6_isAnswer_3 : decode cX6_isAnswer 3 = .ok (.irem, 1) := by decide +kernel
theorem dX6_isAnswer_4 : decode cX6_isAnswer 4 = .ok (.bipush 8, 2) := by decide +kernel
theorem dX6_isAnswer_6 : decode cX6_isAnswer 6 = .ok (.if_icmp .ne 7, 3) := by decide +kernel
theorem dX6_isAnswer_9 : decode cX6_isAnswer 9 = .ok (.iconst 1, 1) := by decide +kernel
theorem dX6_isAnswer_10 : decode cX6_isAnswer 10 = .ok (.goto 4, 3) := by decide +kernel
theorem dX6_isAnswer_13 : decode cX6_isAnswer 13 = .ok (.iconst 0, 1) := by decide +kernel
theorem dX6_isAnswer_14 : decode cX6_isAnswer 14 = .ok (.ireturn, 1) := by decide +kernel
theorem dX6_bitAt_0 : decode cX6_bitAt 0 = .ok (.iload_n 2, 1) := by decide +kernel
theorem dX6_bitAt_1 : decode cX6_bitAt 1 = .ok (.bipush 9, 2) := by decide +kernel
theorem dX6_bitAt_3 : decode cX6_bitAt 3 = .ok (.idiv, 1) := by decide +kernel
theorem dX6_bitAt_4 : decode cX6_bitAt 4 = .ok (.istore_n 3, 1) := by decide +kernel
theorem dX6_bitAt_5 : decode cX6_bitAt 5 = .ok (.iload_n 3, 1) := by decide +kernel
theorem dX6_bitAt_6 : decode cX6_bitAt 6 = .ok (.ifCond .ne 15, 3) := by decide +kernel
theorem dX6_bitAt_9 : decode cX6_bitAt 9 = .ok (.iconst 2, 1) := by decide +kernel
theorem dX6_bitAt_10 : decode cX6_bitAt 10 = .ok (.aload_n 0, 1) := by decide +kernel
theorem dX6_bitAt_11 : decode cX6_bitAt 11 = .ok (.iload_n 1, 1) := by decide +kernel
theorem dX6_bitAt_12 : decode cX6_bitAt 12 = .ok (.iconst 0, 1) := by decide +kernel
theorem dX6_bitAt_13 : decode cX6_bitAt 13 = .ok (.iconst 0, 1) := by decide +kernel
theorem dX6_bitAt_14 : decode cX6_bitAt 14 = .ok (.invokevirtual 43, 3) := by decide +kernel
theorem dX6_bitAt_17 : decode cX6_bitAt 17 = .ok (.imul, 1) := by decide +kernel
theorem dX6_bitAt_18 : decode cX6_bitAt 18 = .ok (.goto 10, 3) := by decide +kernel
theorem dX6_bitAt_21 : decode cX6_bitAt 21 = .ok (.aload_n 0, 1) := by decide +kernel
theorem dX6_bitAt_22 : decode cX6_bitAt 22 = .ok (.iload_n 1, 1) := by decide +kernel
theorem dX6_bitAt_23 : decode cX6_bitAt 23 = .ok (.iconst 0, 1) := by decide +kernel
theorem dX6_bitAt_24 : decode cX6_bitAt 24 = .ok (.iload_n 3, 1) := by decide +kernel
theorem dX6_bitAt_25 : decode cX6_bitAt 25 = .ok (.invokevirtual 43, 3) := by decide +kernel
theorem dX6_bitAt_28 : decode cX6_bitAt 28 = .ok (.istore 4, 2) := by decide +kernel
theorem dX6_bitAt_30 : decode cX6_bitAt 30 = .ok (.iload 4, 2) := by decide +kernel
theorem dX6_bitAt_32 : decode cX6_bitAt 32 = .ok (.bipush 7, 2) := by decide +kernel
theorem dX6_bitAt_34 : decode cX6_bitAt 34 = .ok (.iload_n 2, 1) := by decide +kernel
theorem dX6_bitAt_35 : decode cX6_bitAt 35 = .ok (.bipush 9, 2) := by decide +kernel
theorem dX6_bitAt_37 : decode cX6_bitAt 37 = .ok (.irem, 1) := by decide +kernel
theorem dX6_bitAt_38 : decode cX6_bitAt 38 = .ok (.isub, 1) := by decide +kernel
theorem dX6_bitAt_39 : decode cX6_bitAt 39 = .ok (.ishr, 1) := by decide +kernel
theorem dX6_bitAt_40 : decode cX6_bitAt 40 = .ok (.iconst 1, 1) := by decide +kernel
theorem dX6_bitAt_41 : decode cX6_bitAt 41 = .ok (.iand, 1) := by decide +kernel
theorem dX6_bitAt_42 : decode cX6_bitAt 42 = .ok (.ireturn, 1) := by decide +kernel
theorem dX6_dropFirst_0 : decode cX6_dropFirst 0 = .ok (.aload_n 0, 1) := by decide +kernel
theorem dX6_dropFirst_1 : decode cX6_dropFirst 1 = .ok (.getfield 7, 3) := by decide +kernel
theorem dX6_dropFirst_4 : decode cX6_dropFirst 4 = .ok (.iload_n 1, 1) := by decide +kernel
theorem dX6_dropFirst_5 : decode cX6_dropFirst 5 = .ok (.iconst 0, 1) := by decide +kernel
theorem dX6_dropFirst_6 : decode cX6_dropFirst 6 = .ok (.invokestatic 33, 3) := by decide +kernel
theorem dX6_dropFirst_9 : decode cX6_dropFirst 9 = .ok (.dup2, 1) := by decide +kernel
theorem dX6_dropFirst_10 : decode cX6_dropFirst 10 = .ok (.iaload, 1) := by decide +kernel
theorem dX6_dropFirst_11 : decode cX6_dropFirst 11 = .ok (.iconst 1, 1) := by decide +kernel
theorem dX6_dropFirst_12 : decode cX6_dropFirst 12 = .ok (.isub, 1) := by decide +kernel
theorem dX6_dropFirst_13 : decode cX6_dropFirst 13 = .ok (.iastore, 1) := by decide +kernel
theorem dX6_dropFirst_14 : decode cX6_dropFirst 14 = .ok (.iconst 0, 1) := by decide +kernel
theorem dX6_dropFirst_15 : decode cX6_dropFirst 15 = .ok (.istore_n 2, 1) := by decide +kernel
theorem dX6_dropFirst_16 : decode cX6_dropFirst 16 = .ok (.iload_n 2, 1) := by decide +kernel
theorem dX6_dropFirst_17 : decode cX6_dropFirst 17 = .ok (.iconst 3, 1) := by decide +kernel
theorem dX6_dropFirst_18 : decode cX6_dropFirst 18 = .ok (.aload_n 0, 1) := by decide +kernel
theorem dX6_dropFirst_19 : decode cX6_dropFirst 19 = .ok (.getfield 7, 3) := by decide +kernel
theorem dX6_dropFirst_22 : decode cX6_dropFirst 22 = .ok (.iload_n 1, 1) := by decide +kernel
theorem dX6_dropFirst_23 : decode cX6_dropFirst 23 = .ok (.iconst 0, 1) := by decide +kernel
theorem dX6_dropFirst_24 : decode cX6_dropFirst 24 = .ok (.invokestatic 33, 3) := by decide +kernel
theorem dX6_dropFirst_27 : decode cX6_dropFirst 27 = .ok (.iaload, 1) := by decide +kernel
theorem dX6_dropFirst_28 : decode cX6_dropFirst 28 = .ok (.imul, 1) := by decide +kernel
theorem dX6_dropFirst_29 : decode cX6_dropFirst 29 = .ok (.if_icmp .ge 37, 3) := by decide +kernel
theorem dX6_dropFirst_32 : decode cX6_dropFirst 32 = .ok (.aload_n 0, 1) := by decide +kernel
theorem dX6_dropFirst_33 : decode cX6_dropFirst 33 = .ok (.getfield 7, 3) := by decide +kernel
theorem dX6_dropFirst_36 : decode cX6_dropFirst 36 = .ok (.iload_n 1, 1) := by decide +kernel
theorem dX6_dropFirst_37 : decode cX6_dropFirst 37 = .ok (.bipush 7, 2) := by decide +kernel
theorem dX6_dropFirst_39 : decode cX6_dropFirst 39 = .ok (.iload_n 2, 1) := by decide +kernel
theorem dX6_dropFirst_40 : decode cX6_dropFirst 40 = .ok (.iadd, 1) := by decide +kernel
theorem dX6_dropFirst_41 : decode cX6_dropFirst 41 = .ok (.invokestatic 33, 3) := by decide +kernel
theorem dX6_dropFirst_44 : decode cX6_dropFirst 44 = .ok (.aload_n 0, 1) := by decide +kernel
theorem dX6_dropFirst_45 : decode cX6_dropFirst 45 = .ok (.getfield 7, 3) := by decide +kernel
theorem dX6_dropFirst_48 : decode cX6_dropFirst 48 = .ok (.iload_n 1, 1) := by decide +kernel
theorem dX6_dropFirst_49 : decode cX6_dropFirst 49 = .ok (.bipush 7, 2) := by decide +kernel
theorem dX6_dropFirst_51 : decode cX6_dropFirst 51 = .ok (.iload_n 2, 1) := by decide +kernel
theorem dX6_dropFirst_52 : decode cX6_dropFirst 52 = .ok (.iadd, 1) := by decide +kernel
theorem dX6_dropFirst_53 : decode cX6_dropFirst 53 = .ok (.iconst 3, 1) := by decide +kernel
theorem dX6_dropFirst_54 : decode cX6_dropFirst 54 = .ok (.iadd, 1) := by decide +kernel
theorem dX6_dropFirst_55 : decode cX6_dropFirst 55 = .ok (.invokestatic 33, 3) := by decide +kernel
theorem dX6_dropFirst_58 : decode cX6_dropFirst 58 = .ok (.iaload, 1) := by decide +kernel
theorem dX6_dropFirst_59 : decode cX6_dropFirst 59 = .ok (.iastore, 1) := by decide +kernel
theorem dX6_dropFirst_60 : decode cX6_dropFirst 60 = .ok (.iinc 2 1, 3) := by decide +kernel
theorem dX6_dropFirst_63 : decode cX6_dropFirst 63 = .ok (.goto (-47), 3) := by decide +kernel
theorem dX6_dropFirst_66 : decode cX6_dropFirst 66 = .ok (.aload_n 0, 1) := by decide +kernel
theorem dX6_dropFirst_67 : decode cX6_dropFirst 67 = .ok (.getfield 7, 3) := by decide +kernel
theorem dX6_dropFirst_70 : decode cX6_dropFirst 70 = .ok (.iload_n 1, 1) := by decide +kernel
theorem dX6_dropFirst_71 : decode cX6_dropFirst 71 = .ok (.bipush 6, 2) := by decide +kernel
theorem dX6_dropFirst_73 : decode cX6_dropFirst 73 = .ok (.invokestatic 33, 3) := by decide +kernel
theorem dX6_dropFirst_76 : decode cX6_dropFirst 76 = .ok (.iconst 0, 1) := by decide +kernel
theorem dX6_dropFirst_77 : decode cX6_dropFirst 77 = .ok (.iastore, 1) := by decide +kernel
theorem dX6_dropFirst_78 : decode cX6_dropFirst 78 = .ok (.return_, 1) := by decide +kernel
theorem dX6_isTalking_0 : decode cX6_isTalking 0 = .ok (.aload_n 0, 1) := by decide +kernel
theorem dX6_isTalking_1 : decode cX6_isTalking 1 = .ok (.getfield 7, 3) := by decide +kernel
theorem dX6_isTalking_4 : decode cX6_isTalking 4 = .ok (.iload_n 1, 1) := by decide +kernel
theorem dX6_isTalking_5 : decode cX6_isTalking 5 = .ok (.iconst 1, 1) := by decide +kernel
theorem dX6_isTalking_6 : decode cX6_isTalking 6 = .ok (.invokestatic 33, 3) := by decide +kernel
theorem dX6_isTalking_9 : decode cX6_isTalking 9 = .ok (.iaload, 1) := by decide +kernel
theorem dX6_isTalking_10 : decode cX6_isTalking 10 = .ok (.iconst 1, 1) := by decide +kernel
theorem dX6_isTalking_11 : decode cX6_isTalking 11 = .ok (.if_icmp .ne 7, 3) := by decide +kernel
theorem dX6_isTalking_14 : decode cX6_isTalking 14 = .ok (.iconst 1, 1) := by decide +kernel
theorem dX6_isTalking_15 : decode cX6_isTalking 15 = .ok (.goto 4, 3) := by decide +kernel
theorem dX6_isTalking_18 : decode cX6_isTalking 18 = .ok (.iconst 0, 1) := by decide +kernel
theorem dX6_isTalking_19 : decode cX6_isTalking 19 = .ok (.ireturn, 1) := by decide +kernel
theorem dX6_talking_0 : decode cX6_talking 0 = .ok (.iconst 0, 1) := by decide +kernel
theorem dX6_talking_1 : decode cX6_talking 1 = .ok (.istore_n 1, 1) := by decide +kernel
theorem dX6_talking_2 : decode cX6_talking 2 = .ok (.iconst 0, 1) := by decide +kernel
theorem dX6_talking_3 : decode cX6_talking 3 = .ok (.istore_n 2, 1) := by decide +kernel
theorem dX6_talking_4 : decode cX6_talking 4 = .ok (.iload_n 2, 1) := by decide +kernel
theorem dX6_talking_5 : decode cX6_talking 5 = .ok (.iconst 4, 1) := by decide +kernel
theorem dX6_talking_6 : decode cX6_talking 6 = .ok (.if_icmp .ge 25, 3) := by decide +kernel
theorem dX6_talking_9 : decode cX6_talking 9 = .ok (.iload_n 1, 1) := by decide +kernel
theorem dX6_talking_10 : decode cX6_talking 10 = .ok (.aload_n 0, 1) := by decide +kernel
theorem dX6_talking_11 : decode cX6_talking 11 = .ok (.iload_n 2, 1) := by decide +kernel
theorem dX6_talking_12 : decode cX6_talking 12 = .ok (.invokevirtual 47, 3) := by decide +kernel
theorem dX6_talking_15 : decode cX6_talking 15 = .ok (.ifCond .eq 7, 3) := by decide +kernel
theorem dX6_talking_18 : decode cX6_talking 18 = .ok (.iconst 1, 1) := by decide +kernel
theorem dX6_talking_19 : decode cX6_talking 19 = .ok (.goto 4, 3) := by decide +kernel
theorem dX6_talking_22 : decode cX6_talking 22 = .ok (.iconst 0, 1) := by decide +kernel
theorem dX6_talking_23 : decode cX6_talking 23 = .ok (.iadd, 1) := by decide +kernel
theorem dX6_talking_24 : decode cX6_talking 24 = .ok (.istore_n 1, 1) := by decide +kernel
theorem dX6_talking_25 : decode cX6_talking 25 = .ok (.iinc 2 1, 3) := by decide +kernel
theorem dX6_talking_28 : decode cX6_talking 28 = .ok (.goto (-24), 3) := by decide +kernel
theorem dX6_talking_31 : decode cX6_talking 31 = .ok (.iload_n 1, 1) := by decide +kernel
theorem dX6_talking_32 : decode cX6_talking 32 = .ok (.ireturn, 1) := by decide +kernel
theorem dX6_firstTalking_0 : decode cX6_firstTalking 0 = .ok (.iconst 0, 1) := by decide +kernel
theorem dX6_firstTalking_1 : decode cX6_firstTalking 1 = .ok (.istore_n 1, 1) := by decide +kernel
theorem dX6_firstTalking_2 : decode cX6_firstTalking 2 = .ok (.aload_n 0, 1) := by decide +kernel
theorem dX6_firstTalking_3 : decode cX6_firstTalking 3 = .ok (.iload_n 1, 1) := by decide +kernel
theorem dX6_firstTalking_4 : decode cX6_firstTalking 4 = .ok (.invokevirtual 47, 3) := by decide +kernel
theorem dX6_firstTalking_7 : decode cX6_firstTalking 7 = .ok (.ifCond .ne 9, 3) := by decide +kernel
theorem dX6_firstTalking_10 : decode cX6_firstTalking 10 = .ok (.iinc 1 1, 3) := by decide +kernel
theorem dX6_firstTalking_13 : decode cX6_firstTalking 13 = .ok (.goto (-11), 3) := by decide +kernel
theorem dX6_firstTalking_16 : decode cX6_firstTalking 16 = .ok (.iload_n 1, 1) := by decide +kernel
theorem dX6_firstTalking_17 : decode cX6_firstTalking 17 = .ok (.ireturn, 1) := by decide +kernel
theorem dX6_listenerOf_0 : decode cX6_listenerOf 0 = .ok (.iconst 0, 1) := by decide +kernel
theorem dX6_listenerOf_1 : decode cX6_listenerOf 1 = .ok (.istore_n 2, 1) := by decide +kernel
theorem dX6_listenerOf_2 : decode cX6_listenerOf 2 = .ok (.iload_n 2, 1) := by decide +kernel
theorem dX6_listenerOf_3 : decode cX6_listenerOf 3 = .ok (.iconst 4, 1) := by decide +kernel
theorem dX6_listenerOf_4 : decode cX6_listenerOf 4 = .ok (.if_icmp .ge 25, 3) := by decide +kernel
theorem dX6_listenerOf_7 : decode cX6_listenerOf 7 = .ok (.aload_n 0, 1) := by decide +kernel
theorem dX6_listenerOf_8 : decode cX6_listenerOf 8 = .ok (.getfield 7, 3) := by decide +kernel
theorem dX6_listenerOf_11 : decode cX6_listenerOf 11 = .ok (.iload_n 2, 1) := by decide +kernel
theorem dX6_listenerOf_12 : decode cX6_listenerOf 12 = .ok (.iconst 0, 1) := by decide +kernel
theorem dX6_listenerOf_13 : decode cX6_listenerOf 13 = .ok (.invokestatic 29, 3) := by decide +kernel
theorem dX6_listenerOf_16 : decode cX6_listenerOf 16 = .ok (.iaload, 1) := by decide +kernel
theorem dX6_listenerOf_17 : decode cX6_listenerOf 17 = .ok (.iload_n 1, 1) := by decide +kernel
theorem dX6_listenerOf_18 : decode cX6_listenerOf 18 = .ok (.if_icmp .ne 5, 3) := by decide +kernel
theorem dX6_listenerOf_21 : decode cX6_listenerOf 21 = .ok (.iload_n 2, 1) := by decide +kernel
theorem dX6_listenerOf_22 : decode cX6_listenerOf 22 = .ok (.ireturn, 1) := by decide +kernel
theorem dX6_listenerOf_23 : decode cX6_listenerOf 23 = .ok (.iinc 2 1, 3) := by decide +kernel
theorem dX6_listenerOf_26 : decode cX6_listenerOf 26 = .ok (.goto (-24), 3) := by decide +kernel
theorem dX6_listenerOf_29 : decode cX6_listenerOf 29 = .ok (.bipush (-5), 2) := by decide +kernel
theorem dX6_listenerOf_31 : decode cX6_listenerOf 31 = .ok (.ireturn, 1) := by decide +kernel
theorem dX6_logs_0 : decode cX6_logs 0 = .ok (.aload_n 0, 1) := by decide +kernel
theorem dX6_logs_1 : decode cX6_logs 1 = .ok (.getfield 7, 3) := by decide +kernel
theorem dX6_logs_4 : decode cX6_logs 4 = .ok (.bipush 118, 2) := by decide +kernel
theorem dX6_logs_6 : decode cX6_logs 6 = .ok (.iaload, 1) := by decide +kernel
theorem dX6_logs_7 : decode cX6_logs 7 = .ok (.bipush 64, 2) := by decide +kernel
theorem dX6_logs_9 : decode cX6_logs 9 = .ok (.if_icmp .ne 48, 3) := by decide +kernel
theorem dX6_logs_12 : decode cX6_logs 12 = .ok (.bipush 119, 2) := by decide +kernel
theorem dX6_logs_14 : decode cX6_logs 14 = .ok (.istore 4, 2) := by decide +kernel
theorem dX6_logs_16 : decode cX6_logs 16 = .ok (.iload 4, 2) := by decide +kernel
theorem dX6_logs_18 : decode cX6_logs 18 = .ok (.sipush 371, 3) := by decide +kernel
theorem dX6_logs_21 : decode cX6_logs 21 = .ok (.if_icmp .ge 25, 3) := by decide +kernel
theorem dX6_logs_24 : decode cX6_logs 24 = .ok (.aload_n 0, 1) := by decide +kernel
theorem dX6_logs_25 : decode cX6_logs 25 = .ok (.getfield 7, 3) := by decide +kernel
theorem dX6_logs_28 : decode cX6_logs 28 = .ok (.iload 4, 2) := by decide +kernel
theorem dX6_logs_30 : decode cX6_logs 30 = .ok (.aload_n 0, 1) := by decide +kernel
theorem dX6_logs_31 : decode cX6_logs 31 = .ok (.getfield 7, 3) := by decide +kernel
theorem dX6_logs_34 : decode cX6_logs 34 = .ok (.iload 4, 2) := by decide +kernel
theorem dX6_logs_36 : decode cX6_logs 36 = .ok (.iconst 4, 1) := by decide +kernel
theorem dX6_logs_37 : decode cX6_logs 37 = .ok (.iadd, 1) := by decide +kernel
theorem dX6_logs_38 : decode cX6_logs 38 = .ok (.iaload, 1) := by decide +kernel
theorem dX6_logs_39 : decode cX6_logs 39 = .ok (.iastore, 1) := by decide +kernel
theorem dX6_logs_40 : decode cX6_logs 40 = .ok (.iinc 4 1, 3) := by decide +kernel
theorem dX6_logs_43 : decode cX6_logs 43 = .ok (.goto (-27), 3) := by decide +kernel
theorem dX6_logs_46 : decode cX6_logs 46 = .ok (.aload_n 0, 1) := by decide +kernel
theorem dX6_logs_47 : decode cX6_logs 47 = .ok (.getfield 7, 3) := by decide +kernel
theorem dX6_logs_50 : decode cX6_logs 50 = .ok (.bipush 118, 2) := by decide +kernel
theorem dX6_logs_52 : decode cX6_logs 52 = .ok (.dup2, 1) := by decide +kernel
theorem dX6_logs_53 : decode cX6_logs 53 = .ok (.iaload, 1) := by decide +kernel
theorem dX6_logs_54 : decode cX6_logs 54 = .ok (.iconst 1, 1) := by decide +kernel
theorem dX6_logs_55 : decode cX6_logs 55 = .ok (.isub, 1) := by decide +kernel
theorem dX6_logs_56 : decode cX6_logs 56 = .ok (.iastore, 1) := by decide +kernel
theorem dX6_logs_57 : decode cX6_logs 57 = .ok (.bipush 119, 2) := by decide +kernel
theorem dX6_logs_59 : decode cX6_logs 59 = .ok (.iconst 4, 1) := by decide +kernel
theorem dX6_logs_60 : decode cX6_logs 60 = .ok (.aload_n 0, 1) := by decide +kernel
theorem dX6_logs_61 : decode cX6_logs 61 = .ok (.getfield 7, 3) := by decide +kernel
theorem dX6_logs_64 : decode cX6_logs 64 = .ok (.bipush 118, 2) := by decide +kernel
theorem dX6_logs_66 : decode cX6_logs 66 = .ok (.iaload, 1) := by decide +kernel
theorem dX6_logs_67 : decode cX6_logs 67 = .ok (.imul, 1) := by decide +kernel
theorem dX6_logs_68 : decode cX6_logs 68 = .ok (.iadd, 1) := by decide +kernel
theorem dX6_logs_69 : decode cX6_logs 69 = .ok (.istore 4, 2) := by decide +kernel
theorem dX6_logs_71 : decode cX6_logs 71 = .ok (.aload_n 0, 1) := by decide +kernel
theorem dX6_logs_72 : decode cX6_logs 72 = .ok (.getfield 7, 3) := by decide +kernel
theorem dX6_logs_75 : decode cX6_logs 75 = .ok (.iload 4, 2) := by decide +kernel
theorem dX6_logs_77 : decode cX6_logs 77 = .ok (.iload_n 1, 1) := by decide +kernel
theorem dX6_logs_78 : decode cX6_logs 78 = .ok (.iastore, 1) := by decide +kernel
theorem dX6_logs_79 : decode cX6_logs 79 = .ok (.aload_n 0, 1) := by decide +kernel
theorem dX6_logs_80 : decode cX6_logs 80 = .ok (.getfield 7, 3) := by decide +kernel
theorem dX6_logs_83 : decode cX6_logs 83 = .ok (.iload 4, 2) := by decide +kernel
theorem dX6_logs_85 : decode cX6_logs 85 = .ok (.iconst 1, 1) := by decide +kernel
theorem dX6_logs_86 : decode cX6_logs 86 = .ok (.iadd, 1) := by decide +kernel
theorem dX6_logs_87 : decode cX6_logs 87 = .ok (.iload_n 2, 1) := by decide +kernel
theorem dX6_logs_88 : decode cX6_logs 88 = .ok (.iastore, 1) := by decide +kernel
theorem dX6_logs_89 : decode cX6_logs 89 = .ok (.aload_n 0, 1) := by decide +kernel
theorem dX6_logs_90 : decode cX6_logs 90 = .ok (.getfield 7, 3) := by decide +kernel
theorem dX6_logs_93 : decode cX6_logs 93 = .ok (.iload 4, 2) := by decide +kernel
theorem dX6_logs_95 : decode cX6_logs 95 = .ok (.iconst 2, 1) := by decide +kernel
theorem dX6_logs_96 : decode cX6_logs 96 = .ok (.iadd, 1) := by decide +kernel
theorem dX6_logs_97 : decode cX6_logs 97 = .ok (.aload_n 0, 1) := by decide +kernel
theorem dX6_logs_98 : decode cX6_logs 98 = .ok (.getfield 7, 3) := by decide +kernel
theorem dX6_logs_101 : decode cX6_logs 101 = .ok (.iconst 3, 1) := by decide +kernel
theorem dX6_logs_102 : decode cX6_logs 102 = .ok (.iaload, 1) := by decide +kernel
theorem dX6_logs_103 : decode cX6_logs 103 = .ok (.iastore, 1) := by decide +kernel
theorem dX6_logs_104 : decode cX6_logs 104 = .ok (.aload_n 0, 1) := by decide +kernel
theorem dX6_logs_105 : decode cX6_logs 105 = .ok (.getfield 7, 3) := by decide +kernel
theorem dX6_logs_108 : decode cX6_logs 108 = .ok (.iload 4, 2) := by decide +kernel
theorem dX6_logs_110 : decode cX6_logs 110 = .ok (.iconst 3, 1) := by decide +kernel
theorem dX6_logs_111 : decode cX6_logs 111 = .ok (.iadd, 1) := by decide +kernel
theorem dX6_logs_112 : decode cX6_logs 112 = .ok (.iload_n 3, 1) := by decide +kernel
theorem dX6_logs_113 : decode cX6_logs 113 = .ok (.iastore, 1) := by decide +kernel
theorem dX6_logs_114 : decode cX6_logs 114 = .ok (.aload_n 0, 1) := by decide +kernel
theorem dX6_logs_115 : decode cX6_logs 115 = .ok (.getfield 7, 3) := by decide +kernel
theorem dX6_logs_118 : decode cX6_logs 118 = .ok (.bipush 118, 2) := by decide +kernel
theorem dX6_logs_120 : decode cX6_logs 120 = .ok (.dup2, 1) := by decide +kernel
theorem dX6_logs_121 : decode cX6_logs 121 = .ok (.iaload, 1) := by decide +kernel
theorem dX6_logs_122 : decode cX6_logs 122 = .ok (.iconst 1, 1) := by decide +kernel
theorem dX6_logs_123 : decode cX6_logs 123 = .ok (.iadd, 1) := by decide +kernel
theorem dX6_logs_124 : decode cX6_logs 124 = .ok (.iastore, 1) := by decide +kernel
theorem dX6_logs_125 : decode cX6_logs 125 = .ok (.return_, 1) := by decide +kernel
theorem dX6_lose_0 : decode cX6_lose 0 = .ok (.iconst 0, 1) := by decide +kernel
theorem dX6_lose_1 : decode cX6_lose 1 = .ok (.istore_n 1, 1) := by decide +kernel
theorem dX6_lose_2 : decode cX6_lose 2 = .ok (.iconst 0, 1) := by decide +kernel
theorem dX6_lose_3 : decode cX6_lose 3 = .ok (.istore_n 2, 1) := by decide +kernel
theorem dX6_lose_4 : decode cX6_lose 4 = .ok (.iload_n 2, 1) := by decide +kernel
theorem dX6_lose_5 : decode cX6_lose 5 = .ok (.iconst 4, 1) := by decide +kernel
theorem dX6_lose_6 : decode cX6_lose 6 = .ok (.if_icmp .ge 61, 3) := by decide +kernel
theorem dX6_lose_9 : decode cX6_lose 9 = .ok (.aload_n 0, 1) := by decide +kernel
theorem dX6_lose_10 : decode cX6_lose 10 = .ok (.iload_n 2, 1) := by decide +kernel
theorem dX6_lose_11 : decode cX6_lose 11 = .ok (.invokevirtual 47, 3) := by decide +kernel
theorem dX6_lose_14 : decode cX6_lose 14 = .ok (.ifCond .eq 47, 3) := by decide +kernel
theorem dX6_lose_17 : decode cX6_lose 17 = .ok (.aload_n 0, 1) := by decide +kernel
theorem dX6_lose_18 : decode cX6_lose 18 = .ok (.iload_n 2, 1) := by decide +kernel
theorem dX6_lose_19 : decode cX6_lose 19 = .ok (.aload_n 0, 1) := by decide +kernel
theorem dX6_lose_20 : decode cX6_lose 20 = .ok (.getfield 7, 3) := by decide +kernel
theorem dX6_lose_23 : decode cX6_lose 23 = .ok (.bipush 115, 2) := by decide +kernel
theorem dX6_lose_25 : decode cX6_lose 25 = .ok (.iaload, 1) := by decide +kernel
theorem dX6_lose_26 : decode cX6_lose 26 = .ok (.invokevirtual 51, 3) := by decide +kernel
theorem dX6_lose_29 : decode cX6_lose 29 = .ok (.iconst 1, 1) := by decide +kernel
theorem dX6_lose_30 : decode cX6_lose 30 = .ok (.if_icmp .ne 31, 3) := by decide +kernel
theorem dX6_lose_33 : decode cX6_lose 33 = .ok (.aload_n 0, 1) := by decide +kernel
theorem dX6_lose_34 : decode cX6_lose 34 = .ok (.getfield 7, 3) := by decide +kernel
theorem dX6_lose_37 : decode cX6_lose 37 = .ok (.iload_n 2, 1) := by decide +kernel
theorem dX6_lose_38 : decode cX6_lose 38 = .ok (.iconst 1, 1) := by decide +kernel
theorem dX6_lose_39 : decode cX6_lose 39 = .ok (.invokestatic 33, 3) := by decide +kernel
theorem dX6_lose_42 : decode cX6_lose 42 = .ok (.iconst 0, 1) := by decide +kernel
theorem dX6_lose_43 : decode cX6_lose 43 = .ok (.iastore, 1) := by decide +kernel
theorem dX6_lose_44 : decode cX6_lose 44 = .ok (.aload_n 0, 1) := by decide +kernel
theorem dX6_lose_45 : decode cX6_lose 45 = .ok (.getfield 7, 3) := by decide +kernel
theorem dX6_lose_48 : decode cX6_lose 48 = .ok (.iload_n 2, 1) := by decide +kernel
theorem dX6_lose_49 : decode cX6_lose 49 = .ok (.iconst 3, 1) := by decide +kernel
theorem dX6_lose_50 : decode cX6_lose 50 = .ok (.invokestatic 33, 3) := by decide +kernel
theorem dX6_lose_53 : decode cX6_lose 53 = .ok (.dup2, 1) := by decide +kernel
theorem dX6_lose_54 : decode cX6_lose 54 = .ok (.iaload, 1) := by decide +kernel
theorem dX6_lose_55 : decode cX6_lose 55 = .ok (.iconst 1, 1) := by decide +kernel
theorem dX6_lose_56 : decode cX6_lose 56 = .ok (.iadd, 1) := by decide +kernel
theorem dX6_lose_57 : decode cX6_lose 57 = .ok (.iastore, 1) := by decide +kernel
theorem dX6_lose_58 : decode cX6_lose 58 = .ok (.iinc 1 1, 3) := by decide +kernel
theorem dX6_lose_61 : decode cX6_lose 61 = .ok (.iinc 2 1, 3) := by decide +kernel
theorem dX6_lose_64 : decode cX6_lose 64 = .ok (.goto (-60), 3) := by decide +kernel
theorem dX6_lose_67 : decode cX6_lose 67 = .ok (.iload_n 1, 1) := by decide +kernel
theorem dX6_lose_68 : decode cX6_lose 68 = .ok (.ireturn, 1) := by decide +kernel
theorem dX6_endsIfEmpty_0 : decode cX6_endsIfEmpty 0 = .ok (.aload_n 0, 1) := by decide +kernel
theorem dX6_endsIfEmpty_1 : decode cX6_endsIfEmpty 1 = .ok (.invokevirtual 54, 3) := by decide +kernel
theorem dX6_endsIfEmpty_4 : decode cX6_endsIfEmpty 4 = .ok (.ifCond .ne 27, 3) := by decide +kernel
theorem dX6_endsIfEmpty_7 : decode cX6_endsIfEmpty 7 = .ok (.aload_n 0, 1) := by decide +kernel
theorem dX6_endsIfEmpty_8 : decode cX6_endsIfEmpty 8 = .ok (.getfield 7, 3) := by decide +kernel
theorem dX6_endsIfEmpty_11 : decode cX6_endsIfEmpty 11 = .ok (.bipush 115, 2) := by decide +kernel
theorem dX6_endsIfEmpty_13 : decode cX6_endsIfEmpty 13 = .ok (.iconst 0, 1) := by decide +kernel
theorem dX6_endsIfEmpty_14 : decode cX6_endsIfEmpty 14 = .ok (.iastore, 1) := by decide +kernel
theorem dX6_endsIfEmpty_15 : decode cX6_endsIfEmpty 15 = .ok (.aload_n 0, 1) := by decide +kernel
theorem dX6_endsIfEmpty_16 : decode cX6_endsIfEmpty 16 = .ok (.getfield 7, 3) := by decide +kernel
theorem dX6_endsIfEmpty_19 : decode cX6_endsIfEmpty 19 = .ok (.bipush 112, 2) := by decide +kernel
theorem dX6_endsIfEmpty_21 : decode cX6_endsIfEmpty 21 = .ok (.iconst 0, 1) := by decide +kernel
theorem dX6_endsIfEmpty_22 : decode cX6_endsIfEmpty 22 = .ok (.iastore, 1) := by decide +kernel
theorem dX6_endsIfEmpty_23 : decode cX6_endsIfEmpty 23 = .ok (.aload_n 0, 1) := by decide +kernel
theorem dX6_endsIfEmpty_24 : decode cX6_endsIfEmpty 24 = .ok (.getfield 7, 3) := by decide +kernel
theorem dX6_endsIfEmpty_27 : decode cX6_endsIfEmpty 27 = .ok (.bipush 113, 2) := by decide +kernel
theorem dX6_endsIfEmpty_29 : decode cX6_endsIfEmpty 29 = .ok (.iconst 0, 1) := by decide +kernel
theorem dX6_endsIfEmpty_30 : decode cX6_endsIfEmpty 30 = .ok (.iastore, 1) := by decide +kernel
theorem dX6_endsIfEmpty_31 : decode cX6_endsIfEmpty 31 = .ok (.return_, 1) := by decide +kernel
theorem dX6_stuck_0 : decode cX6_stuck 0 = .ok (.iconst 0, 1) := by decide +kernel
theorem dX6_stuck_1 : decode cX6_stuck 1 = .ok (.istore_n 1, 1) := by decide +kernel
theorem dX6_stuck_2 : decode cX6_stuck 2 = .ok (.iconst 0, 1) := by decide +kernel
theorem dX6_stuck_3 : decode cX6_stuck 3 = .ok (.istore_n 2, 1) := by decide +kernel
theorem dX6_stuck_4 : decode cX6_stuck 4 = .ok (.iload_n 2, 1) := by decide +kernel
theorem dX6_stuck_5 : decode cX6_stuck 5 = .ok (.iconst 4, 1) := by decide +kernel
theorem dX6_stuck_6 : decode cX6_stuck 6 = .ok (.if_icmp .ge 30, 3) := by decide +kernel
theorem dX6_stuck_9 : decode cX6_stuck 9 = .ok (.iload_n 1, 1) := by decide +kernel
theorem dX6_stuck_10 : decode cX6_stuck 10 = .ok (.aload_n 0, 1) := by decide +kernel
theorem dX6_stuck_11 : decode cX6_stuck 11 = .ok (.getfield 7, 3) := by decide +kernel
theorem dX6_stuck_14 : decode cX6_stuck 14 = .ok (.iload_n 2, 1) := by decide +kernel
theorem dX6_stuck_15 : decode cX6_stuck 15 = .ok (.iconst 2, 1) := by decide +kernel
theorem dX6_stuck_16 : decode cX6_stuck 16 = .ok (.invokestatic 29, 3) := by decide +kernel
theorem dX6_stuck_19 : decode cX6_stuck 19 = .ok (.iaload, 1) := by decide +kernel
theorem dX6_stuck_20 : decode cX6_stuck 20 = .ok (.ifCond .le 7, 3) := by decide +kernel
theorem dX6_stuck_23 : decode cX6_stuck 23 = .ok (.iconst 1, 1) := by decide +kernel
theorem dX6_stuck_24 : decode cX6_stuck 24 = .ok (.goto 4, 3) := by decide +kernel
theorem dX6_stuck_27 : decode cX6_stuck 27 = .ok (.iconst 0, 1) := by decide +kernel
theorem dX6_stuck_28 : decode cX6_stuck 28 = .ok (.iadd, 1) := by decide +kernel
theorem dX6_stuck_29 : decode cX6_stuck 29 = .ok (.istore_n 1, 1) := by decide +kernel
theorem dX6_stuck_30 : decode cX6_stuck 30 = .ok (.iinc 2 1, 3) := by decide +kernel
theorem dX6_stuck_33 : decode cX6_stuck 33 = .ok (.goto (-29), 3) := by decide +kernel
theorem dX6_stuck_36 : decode cX6_stuck 36 = .ok (.iload_n 1, 1) := by decide +kernel
theorem dX6_stuck_37 : decode cX6_stuck 37 = .ok (.ireturn, 1) := by decide +kernel
theorem dX6_tickStuck_0 : decode cX6_tickStuck 0 = .ok (.aload_n 0, 1) := by decide +kernel
theorem dX6_tickStuck_1 : decode cX6_tickStuck 1 = .ok (.invokevirtual 54, 3) := by decide +kernel
theorem dX6_tickStuck_4 : decode cX6_tickStuck 4 = .ok (.ifCond .ne 14, 3) := by decide +kernel
theorem dX6_tickStuck_7 : decode cX6_tickStuck 7 = .ok (.aload_n 0, 1) := by decide +kernel
theorem dX6_tickStuck_8 : decode cX6_tickStuck 8 = .ok (.getfield 7, 3) := by decide +kernel
theorem dX6_tickStuck_11 : decode cX6_tickStuck 11 = .ok (.bipush 113, 2) := by decide +kernel
theorem dX6_tickStuck_13 : decode cX6_tickStuck 13 = .ok (.iconst 0, 1) := by decide +kernel
theorem dX6_tickStuck_14 : decode cX6_tickStuck 14 = .ok (.iastore, 1) := by decide +kernel
theorem dX6_tickStuck_15 : decode cX6_tickStuck 15 = .ok (.goto 35, 3) := by decide +kernel
theorem dX6_tickStuck_18 : decode cX6_tickStuck 18 = .ok (.aload_n 0, 1) := by decide +kernel
theorem dX6_tickStuck_19 : decode cX6_tickStuck 19 = .ok (.getfield 7, 3) := by decide +kernel
theorem dX6_tickStuck_22 : decode cX6_tickStuck 22 = .ok (.bipush 112, 2) := by decide +kernel
theorem dX6_tickStuck_24 : decode cX6_tickStuck 24 = .ok (.iaload, 1) := by decide +kernel
theorem dX6_tickStuck_25 : decode cX6_tickStuck 25 = .ok (.ifCond .ne 25, 3) := by decide +kernel
theorem dX6_tickStuck_28 : decode cX6_tickStuck 28 = .ok (.aload_n 0, 1) := by decide +kernel
theorem dX6_tickStuck_29 : decode cX6_tickStuck 29 = .ok (.getfield 7, 3) := by decide +kernel
theorem dX6_tickStuck_32 : decode cX6_tickStuck 32 = .ok (.bipush 115, 2) := by decide +kernel
theorem dX6_tickStuck_34 : decode cX6_tickStuck 34 = .ok (.iaload, 1) := by decide +kernel
theorem dX6_tickStuck_35 : decode cX6_tickStuck 35 = .ok (.invokestatic 58, 3) := by decide +kernel
theorem dX6_tickStuck_38 : decode cX6_tickStuck 38 = .ok (.ifCond .ne 12, 3) := by decide +kernel
theorem dX6_tickStuck_41 : decode cX6_tickStuck 41 = .ok (.aload_n 0, 1) := by decide +kernel
theorem dX6_tickStuck_42 : decode cX6_tickStuck 42 = .ok (.invokevirtual 61, 3) := by decide +kernel
theorem dX6_tickStuck_45 : decode cX6_tickStuck 45 = .ok (.istore_n 1, 1) := by decide +kernel
theorem dX6_tickStuck_46 : decode cX6_tickStuck 46 = .ok (.aload_n 0, 1) := by decide +kernel
theorem dX6_tickStuck_47 : decode cX6_tickStuck 47 = .ok (.invokevirtual 64, 3) := by decide +kernel
theorem dX6_tickStuck_50 : decode cX6_tickStuck 50 = .ok (.aload_n 0, 1) := by decide +kernel
theorem dX6_tickStuck_51 : decode cX6_tickStuck 51 = .ok (.getfield 7, 3) := by decide +kernel
theorem dX6_tickStuck_54 : decode cX6_tickStuck 54 = .ok (.bipush 114, 2) := by decide +kernel
theorem dX6_tickStuck_56 : decode cX6_tickStuck 56 = .ok (.dup2, 1) := by decide +kernel
theorem dX6_tickStuck_57 : decode cX6_tickStuck 57 = .ok (.iaload, 1) := by decide +kernel
theorem dX6_tickStuck_58 : decode cX6_tickStuck 58 = .ok (.iconst 1, 1) := by decide +kernel
theorem dX6_tickStuck_59 : decode cX6_tickStuck 59 = .ok (.iadd, 1) := by decide +kernel
theorem dX6_tickStuck_60 : decode cX6_tickStuck 60 = .ok (.iastore, 1) := by decide +kernel
theorem dX6_tickStuck_61 : decode cX6_tickStuck 61 = .ok (.aload_n 0, 1) := by decide +kernel
theorem dX6_tickStuck_62 : decode cX6_tickStuck 62 = .ok (.getfield 7, 3) := by decide +kernel
theorem dX6_tickStuck_65 : decode cX6_tickStuck 65 = .ok (.bipush 114, 2) := by decide +kernel
theorem dX6_tickStuck_67 : decode cX6_tickStuck 67 = .ok (.iaload, 1) := by decide +kernel
theorem dX6_tickStuck_68 : decode cX6_tickStuck 68 = .ok (.aload_n 0, 1) := by decide +kernel
theorem dX6_tickStuck_69 : decode cX6_tickStuck 69 = .ok (.getfield 7, 3) := by decide +kernel
theorem dX6_tickStuck_72 : decode cX6_tickStuck 72 = .ok (.iconst 2, 1) := by decide +kernel
theorem dX6_tickStuck_73 : decode cX6_tickStuck 73 = .ok (.iaload, 1) := by decide +kernel
theorem dX6_tickStuck_74 : decode cX6_tickStuck 74 = .ok (.if_icmp .lt 7, 3) := by decide +kernel
theorem dX6_tickStuck_77 : decode cX6_tickStuck 77 = .ok (.iconst 1, 1) := by decide +kernel
theorem dX6_tickStuck_78 : decode cX6_tickStuck 78 = .ok (.goto 4, 3) := by decide +kernel
theorem dX6_tickStuck_81 : decode cX6_tickStuck 81 = .ok (.iconst 0, 1) := by decide +kernel
theorem dX6_tickStuck_82 : decode cX6_tickStuck 82 = .ok (.istore_n 1, 1) := by decide +kernel
theorem dX6_tickStuck_83 : decode cX6_tickStuck 83 = .ok (.iconst 0, 1) := by decide +kernel
theorem dX6_tickStuck_84 : decode cX6_tickStuck 84 = .ok (.istore_n 2, 1) := by decide +kernel
theorem dX6_tickStuck_85 : decode cX6_tickStuck 85 = .ok (.iload_n 2, 1) := by decide +kernel
theorem dX6_tickStuck_86 : decode cX6_tickStuck 86 = .ok (.iconst 4, 1) := by decide +kernel
theorem dX6_tickStuck_87 : decode cX6_tickStuck 87 = .ok (.if_icmp .ge 45, 3) := by decide +kernel
theorem dX6_tickStuck_90 : decode cX6_tickStuck 90 = .ok (.aload_n 0, 1) := by decide +kernel
theorem dX6_tickStuck_91 : decode cX6_tickStuck 91 = .ok (.getfield 7, 3) := by decide +kernel
theorem dX6_tickStuck_94 : decode cX6_tickStuck 94 = .ok (.iload_n 2, 1) := by decide +kernel
theorem dX6_tickStuck_95 : decode cX6_tickStuck 95 = .ok (.iconst 2, 1) := by decide +kernel
theorem dX6_tickStuck_96 : decode cX6_tickStuck 96 = .ok (.invokestatic 29, 3) := by decide +kernel
theorem dX6_tickStuck_99 : decode cX6_tickStuck 99 = .ok (.iaload, 1) := by decide +kernel
theorem dX6_tickStuck_100 : decode cX6_tickStuck 100 = .ok (.istore_n 3, 1) := by decide +kernel
theorem dX6_tickStuck_101 : decode cX6_tickStuck 101 = .ok (.aload_n 0, 1) := by decide +kernel
theorem dX6_tickStuck_102 : decode cX6_tickStuck 102 = .ok (.getfield 7, 3) := by decide +kernel
theorem dX6_tickStuck_105 : decode cX6_tickStuck 105 = .ok (.iload_n 2, 1) := by decide +kernel
theorem dX6_tickStuck_106 : decode cX6_tickStuck 106 = .ok (.iconst 2, 1) := by decide +kernel
theorem dX6_tickStuck_107 : decode cX6_tickStuck 107 = .ok (.invokestatic 29, 3) := by decide +kernel
theorem dX6_tickStuck_110 : decode cX6_tickStuck 110 = .ok (.iload_n 1, 1) := by decide +kernel
theorem dX6_tickStuck_111 : decode cX6_tickStuck 111 = .ok (.ifCond .ne 7, 3) := by decide +kernel
theorem dX6_tickStuck_114 : decode cX6_tickStuck 114 = .ok (.iload_n 3, 1) := by decide +kernel
theorem dX6_tickStuck_115 : decode cX6_tickStuck 115 = .ok (.ifCond .ne 7, 3) := by decide +kernel
theorem dX6_tickStuck_118 : decode cX6_tickStuck 118 = .ok (.iconst 0, 1) := by decide +kernel
theorem dX6_tickStuck_119 : decode cX6_tickStuck 119 = .ok (.goto 6, 3) := by decide +kernel
theorem dX6_tickStuck_122 : decode cX6_tickStuck 122 = .ok (.iload_n 3, 1) := by decide +kernel
theorem dX6_tickStuck_123 : decode cX6_tickStuck 123 = .ok (.iconst 1, 1) := by decide +kernel
theorem dX6_tickStuck_124 : decode cX6_tickStuck 124 = .ok (.isub, 1) := by decide +kernel
theorem dX6_tickStuck_125 : decode cX6_tickStuck 125 = .ok (.iastore, 1) := by decide +kernel
theorem dX6_tickStuck_126 : decode cX6_tickStuck 126 = .ok (.iinc 2 1, 3) := by decide +kernel
theorem dX6_tickStuck_129 : decode cX6_tickStuck 129 = .ok (.goto (-44), 3) := by decide +kernel
theorem dX6_tickStuck_132 : decode cX6_tickStuck 132 = .ok (.aload_n 0, 1) := by decide +kernel
theorem dX6_tickStuck_133 : decode cX6_tickStuck 133 = .ok (.getfield 7, 3) := by decide +kernel
theorem dX6_tickStuck_136 : decode cX6_tickStuck 136 = .ok (.bipush 117, 2) := by decide +kernel
theorem dX6_tickStuck_138 : decode cX6_tickStuck 138 = .ok (.dup2, 1) := by decide +kernel
theorem dX6_tickStuck_139 : decode cX6_tickStuck 139 = .ok (.iaload, 1) := by decide +kernel
theorem dX6_tickStuck_140 : decode cX6_tickStuck 140 = .ok (.iload_n 1, 1) := by decide +kernel
theorem dX6_tickStuck_141 : decode cX6_tickStuck 141 = .ok (.ifCond .eq 7, 3) := by decide +kernel
theorem dX6_tickStuck_144 : decode cX6_tickStuck 144 = .ok (.iconst 1, 1) := by decide +kernel
theorem dX6_tickStuck_145 : decode cX6_tickStuck 145 = .ok (.goto 4, 3) := by decide +kernel
theorem dX6_tickStuck_148 : decode cX6_tickStuck 148 = .ok (.iconst 0, 1) := by decide +kernel
theorem dX6_tickStuck_149 : decode cX6_tickStuck 149 = .ok (.iadd, 1) := by decide +kernel
theorem dX6_tickStuck_150 : decode cX6_tickStuck 150 = .ok (.iastore, 1) := by decide +kernel
theorem dX6_tickStuck_151 : decode cX6_tickStuck 151 = .ok (.aload_n 0, 1) := by decide +kernel
theorem dX6_tickStuck_152 : decode cX6_tickStuck 152 = .ok (.getfield 7, 3) := by decide +kernel
theorem dX6_tickStuck_155 : decode cX6_tickStuck 155 = .ok (.bipush 114, 2) := by decide +kernel
theorem dX6_tickStuck_157 : decode cX6_tickStuck 157 = .ok (.iload_n 1, 1) := by decide +kernel
theorem dX6_tickStuck_158 : decode cX6_tickStuck 158 = .ok (.ifCond .eq 7, 3) := by decide +kernel
theorem dX6_tickStuck_161 : decode cX6_tickStuck 161 = .ok (.iconst 0, 1) := by decide +kernel
theorem dX6_tickStuck_162 : decode cX6_tickStuck 162 = .ok (.goto 10, 3) := by decide +kernel
theorem dX6_tickStuck_165 : decode cX6_tickStuck 165 = .ok (.aload_n 0, 1) := by decide +kernel
theorem dX6_tickStuck_166 : decode cX6_tickStuck 166 = .ok (.getfield 7, 3) := by decide +kernel
theorem dX6_tickStuck_169 : decode cX6_tickStuck 169 = .ok (.bipush 114, 2) := by decide +kernel
theorem dX6_tickStuck_171 : decode cX6_tickStuck 171 = .ok (.iaload, 1) := by decide +kernel
theorem dX6_tickStuck_172 : decode cX6_tickStuck 172 = .ok (.iastore, 1) := by decide +kernel
theorem dX6_tickStuck_173 : decode cX6_tickStuck 173 = .ok (.return_, 1) := by decide +kernel
theorem dX6_tickBit_0 : decode cX6_tickBit 0 = .ok (.iconst 1, 1) := by decide +kernel
theorem dX6_tickBit_1 : decode cX6_tickBit 1 = .ok (.istore_n 1, 1) := by decide +kernel
theorem dX6_tickBit_2 : decode cX6_tickBit 2 = .ok (.iconst 0, 1) := by decide +kernel
theorem dX6_tickBit_3 : decode cX6_tickBit 3 = .ok (.istore_n 2, 1) := by decide +kernel
theorem dX6_tickBit_4 : decode cX6_tickBit 4 = .ok (.iload_n 2, 1) := by decide +kernel
theorem dX6_tickBit_5 : decode cX6_tickBit 5 = .ok (.iconst 4, 1) := by decide +kernel
theorem dX6_tickBit_6 : decode cX6_tickBit 6 = .ok (.if_icmp .ge 38, 3) := by decide +kernel
theorem dX6_tickBit_9 : decode cX6_tickBit 9 = .ok (.aload_n 0, 1) := by decide +kernel
theorem dX6_tickBit_10 : decode cX6_tickBit 10 = .ok (.iload_n 2, 1) := by decide +kernel
theorem dX6_tickBit_11 : decode cX6_tickBit 11 = .ok (.invokevirtual 47, 3) := by decide +kernel
theorem dX6_tickBit_14 : decode cX6_tickBit 14 = .ok (.ifCond .eq 22, 3) := by decide +kernel
theorem dX6_tickBit_17 : decode cX6_tickBit 17 = .ok (.aload_n 0, 1) := by decide +kernel
theorem dX6_tickBit_18 : decode cX6_tickBit 18 = .ok (.iload_n 2, 1) := by decide +kernel
theorem dX6_tickBit_19 : decode cX6_tickBit 19 = .ok (.aload_n 0, 1) := by decide +kernel
theorem dX6_tickBit_20 : decode cX6_tickBit 20 = .ok (.getfield 7, 3) := by decide +kernel
theorem dX6_tickBit_23 : decode cX6_tickBit 23 = .ok (.bipush 115, 2) := by decide +kernel
theorem dX6_tickBit_25 : decode cX6_tickBit 25 = .ok (.iaload, 1) := by decide +kernel
theorem dX6_tickBit_26 : decode cX6_tickBit 26 = .ok (.invokevirtual 51, 3) := by decide +kernel
theorem dX6_tickBit_29 : decode cX6_tickBit 29 = .ok (.ifCond .ne 7, 3) := by decide +kernel
theorem dX6_tickBit_32 : decode cX6_tickBit 32 = .ok (.iconst 0, 1) := by decide +kernel
theorem dX6_tickBit_33 : decode cX6_tickBit 33 = .ok (.goto 4, 3) := by decide +kernel
theorem dX6_tickBit_36 : decode cX6_tickBit 36 = .ok (.iload_n 1, 1) := by decide +kernel
theorem dX6_tickBit_37 : decode cX6_tickBit 37 = .ok (.istore_n 1, 1) := by decide +kernel
theorem dX6_tickBit_38 : decode cX6_tickBit 38 = .ok (.iinc 2 1, 3) := by decide +kernel
theorem dX6_tickBit_41 : decode cX6_tickBit 41 = .ok (.goto (-37), 3) := by decide +kernel
theorem dX6_tickBit_44 : decode cX6_tickBit 44 = .ok (.iload_n 1, 1) := by decide +kernel
theorem dX6_tickBit_45 : decode cX6_tickBit 45 = .ok (.ifCond .ne 10, 3) := by decide +kernel
theorem dX6_tickBit_48 : decode cX6_tickBit 48 = .ok (.aload_n 0, 1) := by decide +kernel
theorem dX6_tickBit_49 : decode cX6_tickBit 49 = .ok (.invokevirtual 61, 3) := by decide +kernel
theorem dX6_tickBit_52 : decode cX6_tickBit 52 = .ok (.goto 4, 3) := by decide +kernel
theorem dX6_tickBit_55 : decode cX6_tickBit 55 = .ok (.iconst 0, 1) := by decide +kernel
theorem dX6_tickBit_56 : decode cX6_tickBit 56 = .ok (.istore_n 2, 1) := by decide +kernel
theorem dX6_tickBit_57 : decode cX6_tickBit 57 = .ok (.aload_n 0, 1) := by decide +kernel
theorem dX6_tickBit_58 : decode cX6_tickBit 58 = .ok (.iload_n 1, 1) := by decide +kernel
theorem dX6_tickBit_59 : decode cX6_tickBit 59 = .ok (.iconst 0, 1) := by decide +kernel
theorem dX6_tickBit_60 : decode cX6_tickBit 60 = .ok (.iload_n 2, 1) := by decide +kernel
theorem dX6_tickBit_61 : decode cX6_tickBit 61 = .ok (.invokevirtual 67, 3) := by decide +kernel
theorem dX6_tickBit_64 : decode cX6_tickBit 64 = .ok (.aload_n 0, 1) := by decide +kernel
theorem dX6_tickBit_65 : decode cX6_tickBit 65 = .ok (.getfield 7, 3) := by decide +kernel
theorem dX6_tickBit_68 : decode cX6_tickBit 68 = .ok (.bipush 115, 2) := by decide +kernel
theorem dX6_tickBit_70 : decode cX6_tickBit 70 = .ok (.dup2, 1) := by decide +kernel
theorem dX6_tickBit_71 : decode cX6_tickBit 71 = .ok (.iaload, 1) := by decide +kernel
theorem dX6_tickBit_72 : decode cX6_tickBit 72 = .ok (.iconst 1, 1) := by decide +kernel
theorem dX6_tickBit_73 : decode cX6_tickBit 73 = .ok (.iadd, 1) := by decide +kernel
theorem dX6_tickBit_74 : decode cX6_tickBit 74 = .ok (.iastore, 1) := by decide +kernel
theorem dX6_tickBit_75 : decode cX6_tickBit 75 = .ok (.aload_n 0, 1) := by decide +kernel
theorem dX6_tickBit_76 : decode cX6_tickBit 76 = .ok (.getfield 7, 3) := by decide +kernel
theorem dX6_tickBit_79 : decode cX6_tickBit 79 = .ok (.bipush 115, 2) := by decide +kernel
theorem dX6_tickBit_81 : decode cX6_tickBit 81 = .ok (.iaload, 1) := by decide +kernel
theorem dX6_tickBit_82 : decode cX6_tickBit 82 = .ok (.invokestatic 58, 3) := by decide +kernel
theorem dX6_tickBit_85 : decode cX6_tickBit 85 = .ok (.ifCond .eq 45, 3) := by decide +kernel
theorem dX6_tickBit_88 : decode cX6_tickBit 88 = .ok (.aload_n 0, 1) := by decide +kernel
theorem dX6_tickBit_89 : decode cX6_tickBit 89 = .ok (.aload_n 0, 1) := by decide +kernel
theorem dX6_tickBit_90 : decode cX6_tickBit 90 = .ok (.aload_n 0, 1) := by decide +kernel
theorem dX6_tickBit_91 : decode cX6_tickBit 91 = .ok (.invokevirtual 71, 3) := by decide +kernel
theorem dX6_tickBit_94 : decode cX6_tickBit 94 = .ok (.iconst 0, 1) := by decide +kernel
theorem dX6_tickBit_95 : decode cX6_tickBit 95 = .ok (.iconst 0, 1) := by decide +kernel
theorem dX6_tickBit_96 : decode cX6_tickBit 96 = .ok (.invokevirtual 43, 3) := by decide +kernel
theorem dX6_tickBit_99 : decode cX6_tickBit 99 = .ok (.invokevirtual 74, 3) := by decide +kernel
theorem dX6_tickBit_102 : decode cX6_tickBit 102 = .ok (.istore_n 3, 1) := by decide +kernel
theorem dX6_tickBit_103 : decode cX6_tickBit 103 = .ok (.aload_n 0, 1) := by decide +kernel
theorem dX6_tickBit_104 : decode cX6_tickBit 104 = .ok (.getfield 7, 3) := by decide +kernel
theorem dX6_tickBit_107 : decode cX6_tickBit 107 = .ok (.bipush 112, 2) := by decide +kernel
theorem dX6_tickBit_109 : decode cX6_tickBit 109 = .ok (.iload_n 3, 1) := by decide +kernel
theorem dX6_tickBit_110 : decode cX6_tickBit 110 = .ok (.bipush (-5), 2) := by decide +kernel
theorem dX6_tickBit_112 : decode cX6_tickBit 112 = .ok (.if_icmp .ne 7, 3) := by decide +kernel
theorem dX6_tickBit_115 : decode cX6_tickBit 115 = .ok (.iconst 0, 1) := by decide +kernel
theorem dX6_tickBit_116 : decode cX6_tickBit 116 = .ok (.goto 13, 3) := by decide +kernel
theorem dX6_tickBit_119 : decode cX6_tickBit 119 = .ok (.aload_n 0, 1) := by decide +kernel
theorem dX6_tickBit_120 : decode cX6_tickBit 120 = .ok (.getfield 7, 3) := by decide +kernel
theorem dX6_tickBit_123 : decode cX6_tickBit 123 = .ok (.iload_n 3, 1) := by decide +kernel
theorem dX6_tickBit_124 : decode cX6_tickBit 124 = .ok (.iconst 1, 1) := by decide +kernel
theorem dX6_tickBit_125 : decode cX6_tickBit 125 = .ok (.invokestatic 29, 3) := by decide +kernel
theorem dX6_tickBit_128 : decode cX6_tickBit 128 = .ok (.iaload, 1) := by decide +kernel
theorem dX6_tickBit_129 : decode cX6_tickBit 129 = .ok (.iastore, 1) := by decide +kernel
theorem dX6_tickBit_130 : decode cX6_tickBit 130 = .ok (.return_, 1) := by decide +kernel
theorem dX6_tickAnswered_0 : decode cX6_tickAnswered 0 = .ok (.aload_n 0, 1) := by decide +kernel
theorem dX6_tickAnswered_1 : decode cX6_tickAnswered 1 = .ok (.getfield 7, 3) := by decide +kernel
theorem dX6_tickAnswered_4 : decode cX6_tickAnswered 4 = .ok (.bipush 115, 2) := by decide +kernel
theorem dX6_tickAnswered_6 : decode cX6_tickAnswered 6 = .ok (.iaload, 1) := by decide +kernel
theorem dX6_tickAnswered_7 : decode cX6_tickAnswered 7 = .ok (.bipush 9, 2) := by decide +kernel
theorem dX6_tickAnswered_9 : decode cX6_tickAnswered 9 = .ok (.idiv, 1) := by decide +kernel
theorem dX6_tickAnswered_10 : decode cX6_tickAnswered 10 = .ok (.istore_n 2, 1) := by decide +kernel
theorem dX6_tickAnswered_11 : decode cX6_tickAnswered 11 = .ok (.iload_n 2, 1) := by decide +kernel
theorem dX6_tickAnswered_12 : decode cX6_tickAnswered 12 = .ok (.ifCond .le 37, 3) := by decide +kernel
theorem dX6_tickAnswered_15 : decode cX6_tickAnswered 15 = .ok (.aload_n 0, 1) := by decide +kernel
theorem dX6_tickAnswered_16 : decode cX6_tickAnswered 16 = .ok (.getfield 7, 3) := by decide +kernel
theorem dX6_tickAnswered_19 : decode cX6_tickAnswered 19 = .ok (.iload_n 1, 1) := by decide +kernel
theorem dX6_tickAnswered_20 : decode cX6_tickAnswered 20 = .ok (.iconst 3, 1) := by decide +kernel
theorem dX6_tickAnswered_21 : decode cX6_tickAnswered 21 = .ok (.invokestatic 29, 3) := by decide +kernel
theorem dX6_tickAnswered_24 : decode cX6_tickAnswered 24 = .ok (.dup2, 1) := by decide +kernel
theorem dX6_tickAnswered_25 : decode cX6_tickAnswered 25 = .ok (.iaload, 1) := by decide +kernel
theorem dX6_tickAnswered_26 : decode cX6_tickAnswered 26 = .ok (.iconst 1, 1) := by decide +kernel
theorem dX6_tickAnswered_27 : decode cX6_tickAnswered 27 = .ok (.iadd, 1) := by decide +kernel
theorem dX6_tickAnswered_28 : decode cX6_tickAnswered 28 = .ok (.iastore, 1) := by decide +kernel
theorem dX6_tickAnswered_29 : decode cX6_tickAnswered 29 = .ok (.aload_n 0, 1) := by decide +kernel
theorem dX6_tickAnswered_30 : decode cX6_tickAnswered 30 = .ok (.getfield 7, 3) := by decide +kernel
theorem dX6_tickAnswered_33 : decode cX6_tickAnswered 33 = .ok (.iload_n 1, 1) := by decide +kernel
theorem dX6_tickAnswered_34 : decode cX6_tickAnswered 34 = .ok (.iconst 4, 1) := by decide +kernel
theorem dX6_tickAnswered_35 : decode cX6_tickAnswered 35 = .ok (.invokestatic 29, 3) := by decide +kernel
theorem dX6_tickAnswered_38 : decode cX6_tickAnswered 38 = .ok (.aload_n 0, 1) := by decide +kernel
theorem dX6_tickAnswered_39 : decode cX6_tickAnswered 39 = .ok (.aload_n 0, 1) := by decide +kernel
theorem dX6_tickAnswered_40 : decode cX6_tickAnswered 40 = .ok (.invokevirtual 71, 3) := by decide +kernel
theorem dX6_tickAnswered_43 : decode cX6_tickAnswered 43 = .ok (.iconst 0, 1) := by decide +kernel
theorem dX6_tickAnswered_44 : decode cX6_tickAnswered 44 = .ok (.iload_n 2, 1) := by decide +kernel
theorem dX6_tickAnswered_45 : decode cX6_tickAnswered 45 = .ok (.invokevirtual 43, 3) := by decide +kernel
theorem dX6_tickAnswered_48 : decode cX6_tickAnswered 48 = .ok (.iastore, 1) := by decide +kernel
theorem dX6_tickAnswered_49 : decode cX6_tickAnswered 49 = .ok (.aload_n 0, 1) := by decide +kernel
theorem dX6_tickAnswered_50 : decode cX6_tickAnswered 50 = .ok (.iconst 0, 1) := by decide +kernel
theorem dX6_tickAnswered_51 : decode cX6_tickAnswered 51 = .ok (.iconst 1, 1) := by decide +kernel
theorem dX6_tickAnswered_52 : decode cX6_tickAnswered 52 = .ok (.iconst 0, 1) := by decide +kernel
theorem dX6_tickAnswered_53 : decode cX6_tickAnswered 53 = .ok (.invokevirtual 67, 3) := by decide +kernel
theorem dX6_tickAnswered_56 : decode cX6_tickAnswered 56 = .ok (.aload_n 0, 1) := by decide +kernel
theorem dX6_tickAnswered_57 : decode cX6_tickAnswered 57 = .ok (.getfield 7, 3) := by decide +kernel
theorem dX6_tickAnswered_60 : decode cX6_tickAnswered 60 = .ok (.bipush 115, 2) := by decide +kernel
theorem dX6_tickAnswered_62 : decode cX6_tickAnswered 62 = .ok (.dup2, 1) := by decide +kernel
theorem dX6_tickAnswered_63 : decode cX6_tickAnswered 63 = .ok (.iaload, 1) := by decide +kernel
theorem dX6_tickAnswered_64 : decode cX6_tickAnswered 64 = .ok (.iconst 1, 1) := by decide +kernel
theorem dX6_tickAnswered_65 : decode cX6_tickAnswered 65 = .ok (.iadd, 1) := by decide +kernel
theorem dX6_tickAnswered_66 : decode cX6_tickAnswered 66 = .ok (.iastore, 1) := by decide +kernel
theorem dX6_tickAnswered_67 : decode cX6_tickAnswered 67 = .ok (.iconst 0, 1) := by decide +kernel
theorem dX6_tickAnswered_68 : decode cX6_tickAnswered 68 = .ok (.istore_n 3, 1) := by decide +kernel
theorem dX6_tickAnswered_69 : decode cX6_tickAnswered 69 = .ok (.iload_n 3, 1) := by decide +kernel
theorem dX6_tickAnswered_70 : decode cX6_tickAnswered 70 = .ok (.iconst 4, 1) := by decide +kernel
theorem dX6_tickAnswered_71 : decode cX6_tickAnswered 71 = .ok (.if_icmp .ge 67, 3) := by decide +kernel
theorem dX6_tickAnswered_74 : decode cX6_tickAnswered 74 = .ok (.aload_n 0, 1) := by decide +kernel
theorem dX6_tickAnswered_75 : decode cX6_tickAnswered 75 = .ok (.iload_n 3, 1) := by decide +kernel
theorem dX6_tickAnswered_76 : decode cX6_tickAnswered 76 = .ok (.invokevirtual 47, 3) := by decide +kernel
theorem dX6_tickAnswered_79 : decode cX6_tickAnswered 79 = .ok (.ifCond .eq 53, 3) := by decide +kernel
theorem dX6_tickAnswered_82 : decode cX6_tickAnswered 82 = .ok (.aload_n 0, 1) := by decide +kernel
theorem dX6_tickAnswered_83 : decode cX6_tickAnswered 83 = .ok (.getfield 7, 3) := by decide +kernel
theorem dX6_tickAnswered_86 : decode cX6_tickAnswered 86 = .ok (.bipush 115, 2) := by decide +kernel
theorem dX6_tickAnswered_88 : decode cX6_tickAnswered 88 = .ok (.iaload, 1) := by decide +kernel
theorem dX6_tickAnswered_89 : decode cX6_tickAnswered 89 = .ok (.aload_n 0, 1) := by decide +kernel
theorem dX6_tickAnswered_90 : decode cX6_tickAnswered 90 = .ok (.iload_n 3, 1) := by decide +kernel
theorem dX6_tickAnswered_91 : decode cX6_tickAnswered 91 = .ok (.iconst 0, 1) := by decide +kernel
theorem dX6_tickAnswered_92 : decode cX6_tickAnswered 92 = .ok (.iconst 2, 1) := by decide +kernel
theorem dX6_tickAnswered_93 : decode cX6_tickAnswered 93 = .ok (.invokevirtual 43, 3) := by decide +kernel
theorem dX6_tickAnswered_96 : decode cX6_tickAnswered 96 = .ok (.invokestatic 78, 3) := by decide +kernel
theorem dX6_tickAnswered_99 : decode cX6_tickAnswered 99 = .ok (.if_icmp .ne 33, 3) := by decide +kernel
theorem dX6_tickAnswered_102 : decode cX6_tickAnswered 102 = .ok (.aload_n 0, 1) := by decide +kernel
theorem dX6_tickAnswered_103 : decode cX6_tickAnswered 103 = .ok (.getfield 7, 3) := by decide +kernel
theorem dX6_tickAnswered_106 : decode cX6_tickAnswered 106 = .ok (.iload_n 3, 1) := by decide +kernel
theorem dX6_tickAnswered_107 : decode cX6_tickAnswered 107 = .ok (.iconst 1, 1) := by decide +kernel
theorem dX6_tickAnswered_108 : decode cX6_tickAnswered 108 = .ok (.invokestatic 33, 3) := by decide +kernel
theorem dX6_tickAnswered_111 : decode cX6_tickAnswered 111 = .ok (.iconst 0, 1) := by decide +kernel
theorem dX6_tickAnswered_112 : decode cX6_tickAnswered 112 = .ok (.iastore, 1) := by decide +kernel
theorem dX6_tickAnswered_113 : decode cX6_tickAnswered 113 = .ok (.aload_n 0, 1) := by decide +kernel
theorem dX6_tickAnswered_114 : decode cX6_tickAnswered 114 = .ok (.getfield 7, 3) := by decide +kernel
theorem dX6_tickAnswered_117 : decode cX6_tickAnswered 117 = .ok (.iload_n 3, 1) := by decide +kernel
theorem dX6_tickAnswered_118 : decode cX6_tickAnswered 118 = .ok (.iconst 2, 1) := by decide +kernel
theorem dX6_tickAnswered_119 : decode cX6_tickAnswered 119 = .ok (.invokestatic 33, 3) := by decide +kernel
theorem dX6_tickAnswered_122 : decode cX6_tickAnswered 122 = .ok (.dup2, 1) := by decide +kernel
theorem dX6_tickAnswered_123 : decode cX6_tickAnswered 123 = .ok (.iaload, 1) := by decide +kernel
theorem dX6_tickAnswered_124 : decode cX6_tickAnswered 124 = .ok (.iconst 1, 1) := by decide +kernel
theorem dX6_tickAnswered_125 : decode cX6_tickAnswered 125 = .ok (.iadd, 1) := by decide +kernel
theorem dX6_tickAnswered_126 : decode cX6_tickAnswered 126 = .ok (.iastore, 1) := by decide +kernel
theorem dX6_tickAnswered_127 : decode cX6_tickAnswered 127 = .ok (.aload_n 0, 1) := by decide +kernel
theorem dX6_tickAnswered_128 : decode cX6_tickAnswered 128 = .ok (.iload_n 3, 1) := by decide +kernel
theorem dX6_tickAnswered_129 : decode cX6_tickAnswered 129 = .ok (.invokevirtual 81, 3) := by decide +kernel
theorem dX6_tickAnswered_132 : decode cX6_tickAnswered 132 = .ok (.iinc 3 1, 3) := by decide +kernel
theorem dX6_tickAnswered_135 : decode cX6_tickAnswered 135 = .ok (.goto (-66), 3) := by decide +kernel
theorem dX6_tickAnswered_138 : decode cX6_tickAnswered 138 = .ok (.aload_n 0, 1) := by decide +kernel
theorem dX6_tickAnswered_139 : decode cX6_tickAnswered 139 = .ok (.invokevirtual 64, 3) := by decide +kernel
theorem dX6_tickAnswered_142 : decode cX6_tickAnswered 142 = .ok (.return_, 1) := by decide +kernel
theorem dX6_tickUnanswered_0 : decode cX6_tickUnanswered 0 = .ok (.aload_n 0, 1) := by decide +kernel
theorem dX6_tickUnanswered_1 : decode cX6_tickUnanswered 1 = .ok (.iconst 1, 1) := by decide +kernel
theorem dX6_tickUnanswered_2 : decode cX6_tickUnanswered 2 = .ok (.iconst 1, 1) := by decide +kernel
theorem dX6_tickUnanswered_3 : decode cX6_tickUnanswered 3 = .ok (.iconst 0, 1) := by decide +kernel
theorem dX6_tickUnanswered_4 : decode cX6_tickUnanswered 4 = .ok (.invokevirtual 67, 3) := by decide +kernel
theorem dX6_tickUnanswered_7 : decode cX6_tickUnanswered 7 = .ok (.iconst 0, 1) := by decide +kernel
theorem dX6_tickUnanswered_8 : decode cX6_tickUnanswered 8 = .ok (.istore_n 1, 1) := by decide +kernel
theorem dX6_tickUnanswered_9 : decode cX6_tickUnanswered 9 = .ok (.iload_n 1, 1) := by decide +kernel
theorem dX6_tickUnanswered_10 : decode cX6_tickUnanswered 10 = .ok (.iconst 4, 1) := by decide +kernel
theorem dX6_tickUnanswered_11 : decode cX6_tickUnanswered 11 = .ok (.if_icmp .ge 96, 3) := by decide +kernel
theorem dX6_tickUnanswered_14 : decode cX6_tickUnanswered 14 = .ok (.aload_n 0, 1) := by decide +kernel
theorem dX6_tickUnanswered_15 : decode cX6_tickUnanswered 15 = .ok (.iload_n 1, 1) := by decide +kernel
theorem dX6_tickUnanswered_16 : decode cX6_tickUnanswered 16 = .ok (.invokevirtual 47, 3) := by decide +kernel
end
section
theorem dX6_tickUnanswered_19 : decode cX6_tickUnanswered 19 = .ok (.ifCond .eq 82, 3) := by decide +kernel
theorem dX6_tickUnanswered_22 : decode cX6_tickUnanswered 22 = .ok (.aload_n 0, 1) := by decide +kernel
theorem dX6_tickUnanswered_23 : decode cX6_tickUnanswered 23 = .ok (.getfield 7, 3) := by decide +kernel
theorem dX6_tickUnanswered_26 : decode cX6_tickUnanswered 26 = .ok (.iload_n 1, 1) := by decide +kernel
theorem dX6_tickUnanswered_27 : decode cX6_tickUnanswered 27 = .ok (.iconst 1, 1) := by decide +kernel
theorem dX6_tickUnanswered_28 : decode cX6_tickUnanswered 28 = .ok (.invokestatic 33, 3) := by decide +kernel
theorem dX6_tickUnanswered_31 : decode cX6_tickUnanswered 31 = .ok (.iconst 0, 1) := by decide +kernel
theorem dX6_tickUnanswered_32 : decode cX6_tickUnanswered 32 = .ok (.iastore, 1) := by decide +kernel
theorem dX6_tickUnanswered_33 : decode cX6_tickUnanswered 33 = .ok (.aload_n 0, 1) := by decide +kernel
theorem dX6_tickUnanswered_34 : decode cX6_tickUnanswered 34 = .ok (.getfield 7, 3) := by decide +kernel
theorem dX6_tickUnanswered_37 : decode cX6_tickUnanswered 37 = .ok (.iload_n 1, 1) := by decide +kernel
theorem dX6_tickUnanswered_38 : decode cX6_tickUnanswered 38 = .ok (.iconst 4, 1) := by decide +kernel
theorem dX6_tickUnanswered_39 : decode cX6_tickUnanswered 39 = .ok (.invokestatic 33, 3) := by decide +kernel
theorem dX6_tickUnanswered_42 : decode cX6_tickUnanswered 42 = .ok (.dup2, 1) := by decide +kernel
theorem dX6_tickUnanswered_43 : decode cX6_tickUnanswered 43 = .ok (.iaload, 1) := by decide +kernel
theorem dX6_tickUnanswered_44 : decode cX6_tickUnanswered 44 = .ok (.iconst 1, 1) := by decide +kernel
theorem dX6_tickUnanswered_45 : decode cX6_tickUnanswered 45 = .ok (.iadd, 1) := by decide +kernel
theorem dX6_tickUnanswered_46 : decode cX6_tickUnanswered 46 = .ok (.iastore, 1) := by decide +kernel
theorem dX6_tickUnanswered_47 : decode cX6_tickUnanswered 47 = .ok (.aload_n 0, 1) := by decide +kernel
theorem dX6_tickUnanswered_48 : decode cX6_tickUnanswered 48 = .ok (.getfield 7, 3) := by decide +kernel
theorem dX6_tickUnanswered_51 : decode cX6_tickUnanswered 51 = .ok (.iload_n 1, 1) := by decide +kernel
theorem dX6_tickUnanswered_52 : decode cX6_tickUnanswered 52 = .ok (.bipush 6, 2) := by decide +kernel
theorem dX6_tickUnanswered_54 : decode cX6_tickUnanswered 54 = .ok (.invokestatic 33, 3) := by decide +kernel
theorem dX6_tickUnanswered_57 : decode cX6_tickUnanswered 57 = .ok (.dup2, 1) := by decide +kernel
theorem dX6_tickUnanswered_58 : decode cX6_tickUnanswered 58 = .ok (.iaload, 1) := by decide +kernel
theorem dX6_tickUnanswered_59 : decode cX6_tickUnanswered 59 = .ok (.iconst 1, 1) := by decide +kernel
theorem dX6_tickUnanswered_60 : decode cX6_tickUnanswered 60 = .ok (.iadd, 1) := by decide +kernel
theorem dX6_tickUnanswered_61 : decode cX6_tickUnanswered 61 = .ok (.iastore, 1) := by decide +kernel
theorem dX6_tickUnanswered_62 : decode cX6_tickUnanswered 62 = .ok (.aload_n 0, 1) := by decide +kernel
theorem dX6_tickUnanswered_63 : decode cX6_tickUnanswered 63 = .ok (.getfield 7, 3) := by decide +kernel
theorem dX6_tickUnanswered_66 : decode cX6_tickUnanswered 66 = .ok (.iload_n 1, 1) := by decide +kernel
theorem dX6_tickUnanswered_67 : decode cX6_tickUnanswered 67 = .ok (.bipush 6, 2) := by decide +kernel
theorem dX6_tickUnanswered_69 : decode cX6_tickUnanswered 69 = .ok (.invokestatic 33, 3) := by decide +kernel
theorem dX6_tickUnanswered_72 : decode cX6_tickUnanswered 72 = .ok (.iaload, 1) := by decide +kernel
theorem dX6_tickUnanswered_73 : decode cX6_tickUnanswered 73 = .ok (.aload_n 0, 1) := by decide +kernel
theorem dX6_tickUnanswered_74 : decode cX6_tickUnanswered 74 = .ok (.getfield 7, 3) := by decide +kernel
theorem dX6_tickUnanswered_77 : decode cX6_tickUnanswered 77 = .ok (.iconst 1, 1) := by decide +kernel
theorem dX6_tickUnanswered_78 : decode cX6_tickUnanswered 78 = .ok (.iaload, 1) := by decide +kernel
theorem dX6_tickUnanswered_79 : decode cX6_tickUnanswered 79 = .ok (.if_icmp .lt 22, 3) := by decide +kernel
theorem dX6_tickUnanswered_82 : decode cX6_tickUnanswered 82 = .ok (.aload_n 0, 1) := by decide +kernel
theorem dX6_tickUnanswered_83 : decode cX6_tickUnanswered 83 = .ok (.getfield 7, 3) := by decide +kernel
theorem dX6_tickUnanswered_86 : decode cX6_tickUnanswered 86 = .ok (.iload_n 1, 1) := by decide +kernel
theorem dX6_tickUnanswered_87 : decode cX6_tickUnanswered 87 = .ok (.iconst 5, 1) := by decide +kernel
theorem dX6_tickUnanswered_88 : decode cX6_tickUnanswered 88 = .ok (.invokestatic 33, 3) := by decide +kernel
theorem dX6_tickUnanswered_91 : decode cX6_tickUnanswered 91 = .ok (.dup2, 1) := by decide +kernel
theorem dX6_tickUnanswered_92 : decode cX6_tickUnanswered 92 = .ok (.iaload, 1) := by decide +kernel
theorem dX6_tickUnanswered_93 : decode cX6_tickUnanswered 93 = .ok (.iconst 1, 1) := by decide +kernel
theorem dX6_tickUnanswered_94 : decode cX6_tickUnanswered 94 = .ok (.iadd, 1) := by decide +kernel
theorem dX6_tickUnanswered_95 : decode cX6_tickUnanswered 95 = .ok (.iastore, 1) := by decide +kernel
theorem dX6_tickUnanswered_96 : decode cX6_tickUnanswered 96 = .ok (.aload_n 0, 1) := by decide +kernel
theorem dX6_tickUnanswered_97 : decode cX6_tickUnanswered 97 = .ok (.iload_n 1, 1) := by decide +kernel
theorem dX6_tickUnanswered_98 : decode cX6_tickUnanswered 98 = .ok (.invokevirtual 81, 3) := by decide +kernel
theorem dX6_tickUnanswered_101 : decode cX6_tickUnanswered 101 = .ok (.iinc 1 1, 3) := by decide +kernel
theorem dX6_tickUnanswered_104 : decode cX6_tickUnanswered 104 = .ok (.goto (-95), 3) := by decide +kernel
theorem dX6_tickUnanswered_107 : decode cX6_tickUnanswered 107 = .ok (.aload_n 0, 1) := by decide +kernel
theorem dX6_tickUnanswered_108 : decode cX6_tickUnanswered 108 = .ok (.invokevirtual 64, 3) := by decide +kernel
theorem dX6_tickUnanswered_111 : decode cX6_tickUnanswered 111 = .ok (.return_, 1) := by decide +kernel
theorem dX6_messages_0 : decode cX6_messages 0 = .ok (.iconst 0, 1) := by decide +kernel
theorem dX6_messages_1 : decode cX6_messages 1 = .ok (.istore_n 1, 1) := by decide +kernel
theorem dX6_messages_2 : decode cX6_messages 2 = .ok (.iconst 0, 1) := by decide +kernel
theorem dX6_messages_3 : decode cX6_messages 3 = .ok (.istore_n 2, 1) := by decide +kernel
theorem dX6_messages_4 : decode cX6_messages 4 = .ok (.iload_n 2, 1) := by decide +kernel
theorem dX6_messages_5 : decode cX6_messages 5 = .ok (.iconst 4, 1) := by decide +kernel
theorem dX6_messages_6 : decode cX6_messages 6 = .ok (.if_icmp .ge 22, 3) := by decide +kernel
theorem dX6_messages_9 : decode cX6_messages 9 = .ok (.iload_n 1, 1) := by decide +kernel
theorem dX6_messages_10 : decode cX6_messages 10 = .ok (.aload_n 0, 1) := by decide +kernel
theorem dX6_messages_11 : decode cX6_messages 11 = .ok (.getfield 7, 3) := by decide +kernel
theorem dX6_messages_14 : decode cX6_messages 14 = .ok (.iload_n 2, 1) := by decide +kernel
theorem dX6_messages_15 : decode cX6_messages 15 = .ok (.iconst 0, 1) := by decide +kernel
theorem dX6_messages_16 : decode cX6_messages 16 = .ok (.invokestatic 33, 3) := by decide +kernel
theorem dX6_messages_19 : decode cX6_messages 19 = .ok (.iaload, 1) := by decide +kernel
theorem dX6_messages_20 : decode cX6_messages 20 = .ok (.iadd, 1) := by decide +kernel
theorem dX6_messages_21 : decode cX6_messages 21 = .ok (.istore_n 1, 1) := by decide +kernel
theorem dX6_messages_22 : decode cX6_messages 22 = .ok (.iinc 2 1, 3) := by decide +kernel
theorem dX6_messages_25 : decode cX6_messages 25 = .ok (.goto (-21), 3) := by decide +kernel
theorem dX6_messages_28 : decode cX6_messages 28 = .ok (.iload_n 1, 1) := by decide +kernel
theorem dX6_messages_29 : decode cX6_messages 29 = .ok (.ireturn, 1) := by decide +kernel
theorem dX6_tickFree_0 : decode cX6_tickFree 0 = .ok (.aload_n 0, 1) := by decide +kernel
theorem dX6_tickFree_1 : decode cX6_tickFree 1 = .ok (.getfield 7, 3) := by decide +kernel
theorem dX6_tickFree_4 : decode cX6_tickFree 4 = .ok (.bipush 113, 2) := by decide +kernel
theorem dX6_tickFree_6 : decode cX6_tickFree 6 = .ok (.dup2, 1) := by decide +kernel
theorem dX6_tickFree_7 : decode cX6_tickFree 7 = .ok (.iaload, 1) := by decide +kernel
theorem dX6_tickFree_8 : decode cX6_tickFree 8 = .ok (.iconst 1, 1) := by decide +kernel
theorem dX6_tickFree_9 : decode cX6_tickFree 9 = .ok (.iadd, 1) := by decide +kernel
theorem dX6_tickFree_10 : decode cX6_tickFree 10 = .ok (.iastore, 1) := by decide +kernel
theorem dX6_tickFree_11 : decode cX6_tickFree 11 = .ok (.aload_n 0, 1) := by decide +kernel
theorem dX6_tickFree_12 : decode cX6_tickFree 12 = .ok (.getfield 7, 3) := by decide +kernel
theorem dX6_tickFree_15 : decode cX6_tickFree 15 = .ok (.bipush 113, 2) := by decide +kernel
theorem dX6_tickFree_17 : decode cX6_tickFree 17 = .ok (.iaload, 1) := by decide +kernel
theorem dX6_tickFree_18 : decode cX6_tickFree 18 = .ok (.aload_n 0, 1) := by decide +kernel
theorem dX6_tickFree_19 : decode cX6_tickFree 19 = .ok (.getfield 7, 3) := by decide +kernel
theorem dX6_tickFree_22 : decode cX6_tickFree 22 = .ok (.iconst 0, 1) := by decide +kernel
theorem dX6_tickFree_23 : decode cX6_tickFree 23 = .ok (.iaload, 1) := by decide +kernel
theorem dX6_tickFree_24 : decode cX6_tickFree 24 = .ok (.if_icmp .lt 78, 3) := by decide +kernel
theorem dX6_tickFree_27 : decode cX6_tickFree 27 = .ok (.aload_n 0, 1) := by decide +kernel
theorem dX6_tickFree_28 : decode cX6_tickFree 28 = .ok (.invokevirtual 85, 3) := by decide +kernel
theorem dX6_tickFree_31 : decode cX6_tickFree 31 = .ok (.ifCond .le 71, 3) := by decide +kernel
theorem dX6_tickFree_34 : decode cX6_tickFree 34 = .ok (.iconst 0, 1) := by decide +kernel
theorem dX6_tickFree_35 : decode cX6_tickFree 35 = .ok (.istore_n 1, 1) := by decide +kernel
theorem dX6_tickFree_36 : decode cX6_tickFree 36 = .ok (.iload_n 1, 1) := by decide +kernel
theorem dX6_tickFree_37 : decode cX6_tickFree 37 = .ok (.iconst 4, 1) := by decide +kernel
theorem dX6_tickFree_38 : decode cX6_tickFree 38 = .ok (.if_icmp .ge 37, 3) := by decide +kernel
theorem dX6_tickFree_41 : decode cX6_tickFree 41 = .ok (.aload_n 0, 1) := by decide +kernel
theorem dX6_tickFree_42 : decode cX6_tickFree 42 = .ok (.getfield 7, 3) := by decide +kernel
theorem dX6_tickFree_45 : decode cX6_tickFree 45 = .ok (.iload_n 1, 1) := by decide +kernel
theorem dX6_tickFree_46 : decode cX6_tickFree 46 = .ok (.iconst 1, 1) := by decide +kernel
theorem dX6_tickFree_47 : decode cX6_tickFree 47 = .ok (.invokestatic 33, 3) := by decide +kernel
theorem dX6_tickFree_50 : decode cX6_tickFree 50 = .ok (.aload_n 0, 1) := by decide +kernel
theorem dX6_tickFree_51 : decode cX6_tickFree 51 = .ok (.getfield 7, 3) := by decide +kernel
theorem dX6_tickFree_54 : decode cX6_tickFree 54 = .ok (.iload_n 1, 1) := by decide +kernel
theorem dX6_tickFree_55 : decode cX6_tickFree 55 = .ok (.iconst 0, 1) := by decide +kernel
theorem dX6_tickFree_56 : decode cX6_tickFree 56 = .ok (.invokestatic 33, 3) := by decide +kernel
theorem dX6_tickFree_59 : decode cX6_tickFree 59 = .ok (.iaload, 1) := by decide +kernel
theorem dX6_tickFree_60 : decode cX6_tickFree 60 = .ok (.ifCond .le 7, 3) := by decide +kernel
theorem dX6_tickFree_63 : decode cX6_tickFree 63 = .ok (.iconst 1, 1) := by decide +kernel
theorem dX6_tickFree_64 : decode cX6_tickFree 64 = .ok (.goto 4, 3) := by decide +kernel
theorem dX6_tickFree_67 : decode cX6_tickFree 67 = .ok (.iconst 0, 1) := by decide +kernel
theorem dX6_tickFree_68 : decode cX6_tickFree 68 = .ok (.iastore, 1) := by decide +kernel
theorem dX6_tickFree_69 : decode cX6_tickFree 69 = .ok (.iinc 1 1, 3) := by decide +kernel
theorem dX6_tickFree_72 : decode cX6_tickFree 72 = .ok (.goto (-36), 3) := by decide +kernel
theorem dX6_tickFree_75 : decode cX6_tickFree 75 = .ok (.aload_n 0, 1) := by decide +kernel
theorem dX6_tickFree_76 : decode cX6_tickFree 76 = .ok (.getfield 7, 3) := by decide +kernel
theorem dX6_tickFree_79 : decode cX6_tickFree 79 = .ok (.bipush 113, 2) := by decide +kernel
theorem dX6_tickFree_81 : decode cX6_tickFree 81 = .ok (.iconst 0, 1) := by decide +kernel
theorem dX6_tickFree_82 : decode cX6_tickFree 82 = .ok (.iastore, 1) := by decide +kernel
theorem dX6_tickFree_83 : decode cX6_tickFree 83 = .ok (.aload_n 0, 1) := by decide +kernel
theorem dX6_tickFree_84 : decode cX6_tickFree 84 = .ok (.getfield 7, 3) := by decide +kernel
theorem dX6_tickFree_87 : decode cX6_tickFree 87 = .ok (.bipush 115, 2) := by decide +kernel
theorem dX6_tickFree_89 : decode cX6_tickFree 89 = .ok (.iconst 0, 1) := by decide +kernel
theorem dX6_tickFree_90 : decode cX6_tickFree 90 = .ok (.iastore, 1) := by decide +kernel
theorem dX6_tickFree_91 : decode cX6_tickFree 91 = .ok (.aload_n 0, 1) := by decide +kernel
theorem dX6_tickFree_92 : decode cX6_tickFree 92 = .ok (.getfield 7, 3) := by decide +kernel
theorem dX6_tickFree_95 : decode cX6_tickFree 95 = .ok (.bipush 116, 2) := by decide +kernel
theorem dX6_tickFree_97 : decode cX6_tickFree 97 = .ok (.dup2, 1) := by decide +kernel
theorem dX6_tickFree_98 : decode cX6_tickFree 98 = .ok (.iaload, 1) := by decide +kernel
theorem dX6_tickFree_99 : decode cX6_tickFree 99 = .ok (.iconst 1, 1) := by decide +kernel
theorem dX6_tickFree_100 : decode cX6_tickFree 100 = .ok (.iadd, 1) := by decide +kernel
theorem dX6_tickFree_101 : decode cX6_tickFree 101 = .ok (.iastore, 1) := by decide +kernel
theorem dX6_tickFree_102 : decode cX6_tickFree 102 = .ok (.return_, 1) := by decide +kernel
theorem dX6_next_0 : decode cX6_next 0 = .ok (.aload_n 0, 1) := by decide +kernel
theorem dX6_next_1 : decode cX6_next 1 = .ok (.invokevirtual 88, 3) := by decide +kernel
theorem dX6_next_4 : decode cX6_next 4 = .ok (.ifCond .le 7, 3) := by decide +kernel
theorem dX6_next_7 : decode cX6_next 7 = .ok (.iconst 4, 1) := by decide +kernel
theorem dX6_next_8 : decode cX6_next 8 = .ok (.goto 46, 3) := by decide +kernel
theorem dX6_next_11 : decode cX6_next 11 = .ok (.aload_n 0, 1) := by decide +kernel
theorem dX6_next_12 : decode cX6_next 12 = .ok (.getfield 7, 3) := by decide +kernel
theorem dX6_next_15 : decode cX6_next 15 = .ok (.bipush 112, 2) := by decide +kernel
theorem dX6_next_17 : decode cX6_next 17 = .ok (.iaload, 1) := by decide +kernel
theorem dX6_next_18 : decode cX6_next 18 = .ok (.ifCond .le 7, 3) := by decide +kernel
theorem dX6_next_21 : decode cX6_next 21 = .ok (.iconst 3, 1) := by decide +kernel
theorem dX6_next_22 : decode cX6_next 22 = .ok (.goto 32, 3) := by decide +kernel
theorem dX6_next_25 : decode cX6_next 25 = .ok (.aload_n 0, 1) := by decide +kernel
theorem dX6_next_26 : decode cX6_next 26 = .ok (.invokevirtual 54, 3) := by decide +kernel
theorem dX6_next_29 : decode cX6_next 29 = .ok (.ifCond .ne 7, 3) := by decide +kernel
theorem dX6_next_32 : decode cX6_next 32 = .ok (.iconst 0, 1) := by decide +kernel
theorem dX6_next_33 : decode cX6_next 33 = .ok (.goto 21, 3) := by decide +kernel
theorem dX6_next_36 : decode cX6_next 36 = .ok (.aload_n 0, 1) := by decide +kernel
theorem dX6_next_37 : decode cX6_next 37 = .ok (.getfield 7, 3) := by decide +kernel
theorem dX6_next_40 : decode cX6_next 40 = .ok (.bipush 115, 2) := by decide +kernel
theorem dX6_next_42 : decode cX6_next 42 = .ok (.iaload, 1) := by decide +kernel
theorem dX6_next_43 : decode cX6_next 43 = .ok (.invokestatic 58, 3) := by decide +kernel
theorem dX6_next_46 : decode cX6_next 46 = .ok (.ifCond .eq 7, 3) := by decide +kernel
theorem dX6_next_49 : decode cX6_next 49 = .ok (.iconst 2, 1) := by decide +kernel
theorem dX6_next_50 : decode cX6_next 50 = .ok (.goto 4, 3) := by decide +kernel
theorem dX6_next_53 : decode cX6_next 53 = .ok (.iconst 1, 1) := by decide +kernel
theorem dX6_next_54 : decode cX6_next 54 = .ok (.ireturn, 1) := by decide +kernel
theorem dX6_tick_0 : decode cX6_tick 0 = .ok (.aload_n 0, 1) := by decide +kernel
theorem dX6_tick_1 : decode cX6_tick 1 = .ok (.invokevirtual 91, 3) := by decide +kernel
theorem dX6_tick_4 : decode cX6_tick 4 = .ok (.istore_n 1, 1) := by decide +kernel
theorem dX6_tick_5 : decode cX6_tick 5 = .ok (.aload_n 0, 1) := by decide +kernel
theorem dX6_tick_6 : decode cX6_tick 6 = .ok (.getfield 7, 3) := by decide +kernel
theorem dX6_tick_9 : decode cX6_tick 9 = .ok (.iconst 3, 1) := by decide +kernel
theorem dX6_tick_10 : decode cX6_tick 10 = .ok (.dup2, 1) := by decide +kernel
theorem dX6_tick_11 : decode cX6_tick 11 = .ok (.iaload, 1) := by decide +kernel
theorem dX6_tick_12 : decode cX6_tick 12 = .ok (.iconst 1, 1) := by decide +kernel
theorem dX6_tick_13 : decode cX6_tick 13 = .ok (.iadd, 1) := by decide +kernel
theorem dX6_tick_14 : decode cX6_tick 14 = .ok (.iastore, 1) := by decide +kernel
theorem dX6_tick_15 : decode cX6_tick 15 = .ok (.iload_n 1, 1) := by decide +kernel
theorem dX6_tick_16 : decode cX6_tick 16 = .ok (.iconst 4, 1) := by decide +kernel
theorem dX6_tick_17 : decode cX6_tick 17 = .ok (.if_icmp .ne 8, 3) := by decide +kernel
theorem dX6_tick_20 : decode cX6_tick 20 = .ok (.aload_n 0, 1) := by decide +kernel
theorem dX6_tick_21 : decode cX6_tick 21 = .ok (.invokevirtual 94, 3) := by decide +kernel
theorem dX6_tick_24 : decode cX6_tick 24 = .ok (.return_, 1) := by decide +kernel
theorem dX6_tick_25 : decode cX6_tick 25 = .ok (.aload_n 0, 1) := by decide +kernel
theorem dX6_tick_26 : decode cX6_tick 26 = .ok (.getfield 7, 3) := by decide +kernel
theorem dX6_tick_29 : decode cX6_tick 29 = .ok (.bipush 114, 2) := by decide +kernel
theorem dX6_tick_31 : decode cX6_tick 31 = .ok (.iconst 0, 1) := by decide +kernel
theorem dX6_tick_32 : decode cX6_tick 32 = .ok (.iastore, 1) := by decide +kernel
theorem dX6_tick_33 : decode cX6_tick 33 = .ok (.iload_n 1, 1) := by decide +kernel
theorem dX6_tick_34 : decode cX6_tick 34 = .ok (.iconst 3, 1) := by decide +kernel
theorem dX6_tick_35 : decode cX6_tick 35 = .ok (.if_icmp .ne 17, 3) := by decide +kernel
theorem dX6_tick_38 : decode cX6_tick 38 = .ok (.aload_n 0, 1) := by decide +kernel
theorem dX6_tick_39 : decode cX6_tick 39 = .ok (.getfield 7, 3) := by decide +kernel
theorem dX6_tick_42 : decode cX6_tick 42 = .ok (.bipush 112, 2) := by decide +kernel
theorem dX6_tick_44 : decode cX6_tick 44 = .ok (.dup2, 1) := by decide +kernel
theorem dX6_tick_45 : decode cX6_tick 45 = .ok (.iaload, 1) := by decide +kernel
theorem dX6_tick_46 : decode cX6_tick 46 = .ok (.iconst 1, 1) := by decide +kernel
theorem dX6_tick_47 : decode cX6_tick 47 = .ok (.isub, 1) := by decide +kernel
theorem dX6_tick_48 : decode cX6_tick 48 = .ok (.iastore, 1) := by decide +kernel
theorem dX6_tick_49 : decode cX6_tick 49 = .ok (.goto 59, 3) := by decide +kernel
theorem dX6_tick_52 : decode cX6_tick 52 = .ok (.iload_n 1, 1) := by decide +kernel
theorem dX6_tick_53 : decode cX6_tick 53 = .ok (.iconst 1, 1) := by decide +kernel
theorem dX6_tick_54 : decode cX6_tick 54 = .ok (.if_icmp .ne 10, 3) := by decide +kernel
theorem dX6_tick_57 : decode cX6_tick 57 = .ok (.aload_n 0, 1) := by decide +kernel
theorem dX6_tick_58 : decode cX6_tick 58 = .ok (.invokevirtual 97, 3) := by decide +kernel
theorem dX6_tick_61 : decode cX6_tick 61 = .ok (.goto 47, 3) := by decide +kernel
theorem dX6_tick_64 : decode cX6_tick 64 = .ok (.iload_n 1, 1) := by decide +kernel
theorem dX6_tick_65 : decode cX6_tick 65 = .ok (.ifCond .ne 10, 3) := by decide +kernel
theorem dX6_tick_68 : decode cX6_tick 68 = .ok (.aload_n 0, 1) := by decide +kernel
theorem dX6_tick_69 : decode cX6_tick 69 = .ok (.invokevirtual 100, 3) := by decide +kernel
theorem dX6_tick_72 : decode cX6_tick 72 = .ok (.goto 36, 3) := by decide +kernel
theorem dX6_tick_75 : decode cX6_tick 75 = .ok (.aload_n 0, 1) := by decide +kernel
theorem dX6_tick_76 : decode cX6_tick 76 = .ok (.aload_n 0, 1) := by decide +kernel
theorem dX6_tick_77 : decode cX6_tick 77 = .ok (.aload_n 0, 1) := by decide +kernel
theorem dX6_tick_78 : decode cX6_tick 78 = .ok (.invokevirtual 71, 3) := by decide +kernel
theorem dX6_tick_81 : decode cX6_tick 81 = .ok (.iconst 0, 1) := by decide +kernel
theorem dX6_tick_82 : decode cX6_tick 82 = .ok (.iconst 0, 1) := by decide +kernel
theorem dX6_tick_83 : decode cX6_tick 83 = .ok (.invokevirtual 43, 3) := by decide +kernel
theorem dX6_tick_86 : decode cX6_tick 86 = .ok (.invokevirtual 74, 3) := by decide +kernel
theorem dX6_tick_89 : decode cX6_tick 89 = .ok (.istore_n 2, 1) := by decide +kernel
theorem dX6_tick_90 : decode cX6_tick 90 = .ok (.iload_n 2, 1) := by decide +kernel
theorem dX6_tick_91 : decode cX6_tick 91 = .ok (.bipush (-5), 2) := by decide +kernel
theorem dX6_tick_93 : decode cX6_tick 93 = .ok (.if_icmp .ne 10, 3) := by decide +kernel
theorem dX6_tick_96 : decode cX6_tick 96 = .ok (.aload_n 0, 1) := by decide +kernel
theorem dX6_tick_97 : decode cX6_tick 97 = .ok (.invokevirtual 103, 3) := by decide +kernel
theorem dX6_tick_100 : decode cX6_tick 100 = .ok (.goto 8, 3) := by decide +kernel
theorem dX6_tick_103 : decode cX6_tick 103 = .ok (.aload_n 0, 1) := by decide +kernel
theorem dX6_tick_104 : decode cX6_tick 104 = .ok (.iload_n 2, 1) := by decide +kernel
theorem dX6_tick_105 : decode cX6_tick 105 = .ok (.invokevirtual 106, 3) := by decide +kernel
theorem dX6_tick_108 : decode cX6_tick 108 = .ok (.return_, 1) := by decide +kernel
theorem dX6_came_0 : decode cX6_came 0 = .ok (.iconst 0, 1) := by decide +kernel
theorem dX6_came_1 : decode cX6_came 1 = .ok (.istore_n 1, 1) := by decide +kernel
theorem dX6_came_2 : decode cX6_came 2 = .ok (.iconst 0, 1) := by decide +kernel
theorem dX6_came_3 : decode cX6_came 3 = .ok (.istore_n 2, 1) := by decide +kernel
theorem dX6_came_4 : decode cX6_came 4 = .ok (.iload_n 2, 1) := by decide +kernel
theorem dX6_came_5 : decode cX6_came 5 = .ok (.iconst 4, 1) := by decide +kernel
theorem dX6_came_6 : decode cX6_came 6 = .ok (.if_icmp .ge 22, 3) := by decide +kernel
theorem dX6_came_9 : decode cX6_came 9 = .ok (.iload_n 1, 1) := by decide +kernel
theorem dX6_came_10 : decode cX6_came 10 = .ok (.aload_n 0, 1) := by decide +kernel
theorem dX6_came_11 : decode cX6_came 11 = .ok (.getfield 7, 3) := by decide +kernel
theorem dX6_came_14 : decode cX6_came 14 = .ok (.iload_n 2, 1) := by decide +kernel
theorem dX6_came_15 : decode cX6_came 15 = .ok (.iconst 2, 1) := by decide +kernel
theorem dX6_came_16 : decode cX6_came 16 = .ok (.invokestatic 33, 3) := by decide +kernel
theorem dX6_came_19 : decode cX6_came 19 = .ok (.iaload, 1) := by decide +kernel
theorem dX6_came_20 : decode cX6_came 20 = .ok (.iadd, 1) := by decide +kernel
theorem dX6_came_21 : decode cX6_came 21 = .ok (.istore_n 1, 1) := by decide +kernel
theorem dX6_came_22 : decode cX6_came 22 = .ok (.iinc 2 1, 3) := by decide +kernel
theorem dX6_came_25 : decode cX6_came 25 = .ok (.goto (-21), 3) := by decide +kernel
theorem dX6_came_28 : decode cX6_came 28 = .ok (.iload_n 1, 1) := by decide +kernel
theorem dX6_came_29 : decode cX6_came 29 = .ok (.ireturn, 1) := by decide +kernel
theorem dX6_says_0 : decode cX6_says 0 = .ok (.iload_n 1, 1) := by decide +kernel
theorem dX6_says_1 : decode cX6_says 1 = .ok (.invokestatic 109, 3) := by decide +kernel
theorem dX6_says_4 : decode cX6_says 4 = .ok (.ifCond .ne 5, 3) := by decide +kernel
theorem dX6_says_7 : decode cX6_says 7 = .ok (.iconst (-1), 1) := by decide +kernel
theorem dX6_says_8 : decode cX6_says 8 = .ok (.ireturn, 1) := by decide +kernel
theorem dX6_says_9 : decode cX6_says 9 = .ok (.iload_n 2, 1) := by decide +kernel
theorem dX6_says_10 : decode cX6_says 10 = .ok (.iconst 0, 1) := by decide +kernel
theorem dX6_says_11 : decode cX6_says 11 = .ok (.bipush 127, 2) := by decide +kernel
theorem dX6_says_13 : decode cX6_says 13 = .ok (.invokestatic 36, 3) := by decide +kernel
theorem dX6_says_16 : decode cX6_says 16 = .ok (.ifCond .eq 33, 3) := by decide +kernel
theorem dX6_says_19 : decode cX6_says 19 = .ok (.iload_n 3, 1) := by decide +kernel
theorem dX6_says_20 : decode cX6_says 20 = .ok (.iconst 0, 1) := by decide +kernel
theorem dX6_says_21 : decode cX6_says 21 = .ok (.sipush 255, 3) := by decide +kernel
theorem dX6_says_24 : decode cX6_says 24 = .ok (.invokestatic 36, 3) := by decide +kernel
theorem dX6_says_27 : decode cX6_says 27 = .ok (.ifCond .eq 22, 3) := by decide +kernel
theorem dX6_says_30 : decode cX6_says 30 = .ok (.iload 4, 2) := by decide +kernel
theorem dX6_says_32 : decode cX6_says 32 = .ok (.iconst 0, 1) := by decide +kernel
theorem dX6_says_33 : decode cX6_says 33 = .ok (.sipush 255, 3) := by decide +kernel
theorem dX6_says_36 : decode cX6_says 36 = .ok (.invokestatic 36, 3) := by decide +kernel
theorem dX6_says_39 : decode cX6_says 39 = .ok (.ifCond .ne 13, 3) := by decide +kernel
theorem dX6_says_42 : decode cX6_says 42 = .ok (.iload 4, 2) := by decide +kernel
theorem dX6_says_44 : decode cX6_says 44 = .ok (.bipush (-5), 2) := by decide +kernel
theorem dX6_says_46 : decode cX6_says 46 = .ok (.if_icmp .eq 6, 3) := by decide +kernel
theorem dX6_says_49 : decode cX6_says 49 = .ok (.bipush (-2), 2) := by decide +kernel
theorem dX6_says_51 : decode cX6_says 51 = .ok (.ireturn, 1) := by decide +kernel
theorem dX6_says_52 : decode cX6_says 52 = .ok (.aload_n 0, 1) := by decide +kernel
theorem dX6_says_53 : decode cX6_says 53 = .ok (.getfield 7, 3) := by decide +kernel
theorem dX6_says_56 : decode cX6_says 56 = .ok (.iload_n 1, 1) := by decide +kernel
theorem dX6_says_57 : decode cX6_says 57 = .ok (.iconst 0, 1) := by decide +kernel
theorem dX6_says_58 : decode cX6_says 58 = .ok (.invokestatic 33, 3) := by decide +kernel
theorem dX6_says_61 : decode cX6_says 61 = .ok (.iaload, 1) := by decide +kernel
theorem dX6_says_62 : decode cX6_says 62 = .ok (.istore 5, 2) := by decide +kernel
theorem dX6_says_64 : decode cX6_says 64 = .ok (.iload 5, 2) := by decide +kernel
theorem dX6_says_66 : decode cX6_says 66 = .ok (.iconst 5, 1) := by decide +kernel
theorem dX6_says_67 : decode cX6_says 67 = .ok (.if_icmp .ne 6, 3) := by decide +kernel
theorem dX6_says_70 : decode cX6_says 70 = .ok (.bipush (-3), 2) := by decide +kernel
theorem dX6_says_72 : decode cX6_says 72 = .ok (.ireturn, 1) := by decide +kernel
theorem dX6_says_73 : decode cX6_says 73 = .ok (.aload_n 0, 1) := by decide +kernel
theorem dX6_says_74 : decode cX6_says 74 = .ok (.getfield 7, 3) := by decide +kernel
theorem dX6_says_77 : decode cX6_says 77 = .ok (.iload_n 1, 1) := by decide +kernel
theorem dX6_says_78 : decode cX6_says 78 = .ok (.bipush 7, 2) := by decide +kernel
theorem dX6_says_80 : decode cX6_says 80 = .ok (.iconst 3, 1) := by decide +kernel
theorem dX6_says_81 : decode cX6_says 81 = .ok (.iload 5, 2) := by decide +kernel
theorem dX6_says_83 : decode cX6_says 83 = .ok (.imul, 1) := by decide +kernel
theorem dX6_says_84 : decode cX6_says 84 = .ok (.iadd, 1) := by decide +kernel
theorem dX6_says_85 : decode cX6_says 85 = .ok (.invokestatic 33, 3) := by decide +kernel
theorem dX6_says_88 : decode cX6_says 88 = .ok (.iload_n 2, 1) := by decide +kernel
theorem dX6_says_89 : decode cX6_says 89 = .ok (.iastore, 1) := by decide +kernel
theorem dX6_says_90 : decode cX6_says 90 = .ok (.aload_n 0, 1) := by decide +kernel
theorem dX6_says_91 : decode cX6_says 91 = .ok (.getfield 7, 3) := by decide +kernel
theorem dX6_says_94 : decode cX6_says 94 = .ok (.iload_n 1, 1) := by decide +kernel
theorem dX6_says_95 : decode cX6_says 95 = .ok (.bipush 7, 2) := by decide +kernel
theorem dX6_says_97 : decode cX6_says 97 = .ok (.iconst 3, 1) := by decide +kernel
theorem dX6_says_98 : decode cX6_says 98 = .ok (.iload 5, 2) := by decide +kernel
theorem dX6_says_100 : decode cX6_says 100 = .ok (.imul, 1) := by decide +kernel
theorem dX6_says_101 : decode cX6_says 101 = .ok (.iadd, 1) := by decide +kernel
theorem dX6_says_102 : decode cX6_says 102 = .ok (.iconst 1, 1) := by decide +kernel
theorem dX6_says_103 : decode cX6_says 103 = .ok (.iadd, 1) := by decide +kernel
theorem dX6_says_104 : decode cX6_says 104 = .ok (.invokestatic 33, 3) := by decide +kernel
theorem dX6_says_107 : decode cX6_says 107 = .ok (.iload_n 3, 1) := by decide +kernel
theorem dX6_says_108 : decode cX6_says 108 = .ok (.iastore, 1) := by decide +kernel
theorem dX6_says_109 : decode cX6_says 109 = .ok (.aload_n 0, 1) := by decide +kernel
theorem dX6_says_110 : decode cX6_says 110 = .ok (.getfield 7, 3) := by decide +kernel
theorem dX6_says_113 : decode cX6_says 113 = .ok (.iload_n 1, 1) := by decide +kernel
theorem dX6_says_114 : decode cX6_says 114 = .ok (.bipush 7, 2) := by decide +kernel
theorem dX6_says_116 : decode cX6_says 116 = .ok (.iconst 3, 1) := by decide +kernel
theorem dX6_says_117 : decode cX6_says 117 = .ok (.iload 5, 2) := by decide +kernel
theorem dX6_says_119 : decode cX6_says 119 = .ok (.imul, 1) := by decide +kernel
theorem dX6_says_120 : decode cX6_says 120 = .ok (.iadd, 1) := by decide +kernel
theorem dX6_says_121 : decode cX6_says 121 = .ok (.iconst 2, 1) := by decide +kernel
theorem dX6_says_122 : decode cX6_says 122 = .ok (.iadd, 1) := by decide +kernel
theorem dX6_says_123 : decode cX6_says 123 = .ok (.invokestatic 33, 3) := by decide +kernel
theorem dX6_says_126 : decode cX6_says 126 = .ok (.iload 4, 2) := by decide +kernel
theorem dX6_says_128 : decode cX6_says 128 = .ok (.iastore, 1) := by decide +kernel
theorem dX6_says_129 : decode cX6_says 129 = .ok (.aload_n 0, 1) := by decide +kernel
theorem dX6_says_130 : decode cX6_says 130 = .ok (.getfield 7, 3) := by decide +kernel
theorem dX6_says_133 : decode cX6_says 133 = .ok (.iload_n 1, 1) := by decide +kernel
theorem dX6_says_134 : decode cX6_says 134 = .ok (.iconst 0, 1) := by decide +kernel
theorem dX6_says_135 : decode cX6_says 135 = .ok (.invokestatic 33, 3) := by decide +kernel
theorem dX6_says_138 : decode cX6_says 138 = .ok (.dup2, 1) := by decide +kernel
theorem dX6_says_139 : decode cX6_says 139 = .ok (.iaload, 1) := by decide +kernel
theorem dX6_says_140 : decode cX6_says 140 = .ok (.iconst 1, 1) := by decide +kernel
theorem dX6_says_141 : decode cX6_says 141 = .ok (.iadd, 1) := by decide +kernel
theorem dX6_says_142 : decode cX6_says 142 = .ok (.iastore, 1) := by decide +kernel
theorem dX6_says_143 : decode cX6_says 143 = .ok (.iload 5, 2) := by decide +kernel
theorem dX6_says_145 : decode cX6_says 145 = .ok (.iconst 1, 1) := by decide +kernel
theorem dX6_says_146 : decode cX6_says 146 = .ok (.iadd, 1) := by decide +kernel
theorem dX6_says_147 : decode cX6_says 147 = .ok (.ireturn, 1) := by decide +kernel
theorem dX6_hears_0 : decode cX6_hears 0 = .ok (.iload_n 1, 1) := by decide +kernel
theorem dX6_hears_1 : decode cX6_hears 1 = .ok (.invokestatic 109, 3) := by decide +kernel
theorem dX6_hears_4 : decode cX6_hears 4 = .ok (.ifCond .ne 5, 3) := by decide +kernel
theorem dX6_hears_7 : decode cX6_hears 7 = .ok (.iconst (-1), 1) := by decide +kernel
theorem dX6_hears_8 : decode cX6_hears 8 = .ok (.ireturn, 1) := by decide +kernel
theorem dX6_hears_9 : decode cX6_hears 9 = .ok (.iload_n 2, 1) := by decide +kernel
theorem dX6_hears_10 : decode cX6_hears 10 = .ok (.iconst 0, 1) := by decide +kernel
theorem dX6_hears_11 : decode cX6_hears 11 = .ok (.bipush 127, 2) := by decide +kernel
theorem dX6_hears_13 : decode cX6_hears 13 = .ok (.invokestatic 36, 3) := by decide +kernel
theorem dX6_hears_16 : decode cX6_hears 16 = .ok (.ifCond .ne 12, 3) := by decide +kernel
theorem dX6_hears_19 : decode cX6_hears 19 = .ok (.iload_n 2, 1) := by decide +kernel
theorem dX6_hears_20 : decode cX6_hears 20 = .ok (.bipush (-5), 2) := by decide +kernel
theorem dX6_hears_22 : decode cX6_hears 22 = .ok (.if_icmp .eq 6, 3) := by decide +kernel
theorem dX6_hears_25 : decode cX6_hears 25 = .ok (.bipush (-2), 2) := by decide +kernel
theorem dX6_hears_27 : decode cX6_hears 27 = .ok (.ireturn, 1) := by decide +kernel
theorem dX6_hears_28 : decode cX6_hears 28 = .ok (.iload_n 2, 1) := by decide +kernel
theorem dX6_hears_29 : decode cX6_hears 29 = .ok (.bipush (-5), 2) := by decide +kernel
theorem dX6_hears_31 : decode cX6_hears 31 = .ok (.if_icmp .ne 8, 3) := by decide +kernel
theorem dX6_hears_34 : decode cX6_hears 34 = .ok (.bipush (-5), 2) := by decide +kernel
theorem dX6_hears_36 : decode cX6_hears 36 = .ok (.goto 8, 3) := by decide +kernel
theorem dX6_hears_39 : decode cX6_hears 39 = .ok (.aload_n 0, 1) := by decide +kernel
theorem dX6_hears_40 : decode cX6_hears 40 = .ok (.iload_n 2, 1) := by decide +kernel
theorem dX6_hears_41 : decode cX6_hears 41 = .ok (.invokevirtual 74, 3) := by decide +kernel
theorem dX6_hears_44 : decode cX6_hears 44 = .ok (.istore_n 3, 1) := by decide +kernel
theorem dX6_hears_45 : decode cX6_hears 45 = .ok (.iload_n 3, 1) := by decide +kernel
theorem dX6_hears_46 : decode cX6_hears 46 = .ok (.bipush (-5), 2) := by decide +kernel
theorem dX6_hears_48 : decode cX6_hears 48 = .ok (.if_icmp .eq 11, 3) := by decide +kernel
theorem dX6_hears_51 : decode cX6_hears 51 = .ok (.iload_n 3, 1) := by decide +kernel
theorem dX6_hears_52 : decode cX6_hears 52 = .ok (.iload_n 1, 1) := by decide +kernel
theorem dX6_hears_53 : decode cX6_hears 53 = .ok (.if_icmp .eq 6, 3) := by decide +kernel
theorem dX6_hears_56 : decode cX6_hears 56 = .ok (.bipush (-4), 2) := by decide +kernel
theorem dX6_hears_58 : decode cX6_hears 58 = .ok (.ireturn, 1) := by decide +kernel
theorem dX6_hears_59 : decode cX6_hears 59 = .ok (.aload_n 0, 1) := by decide +kernel
theorem dX6_hears_60 : decode cX6_hears 60 = .ok (.getfield 7, 3) := by decide +kernel
theorem dX6_hears_63 : decode cX6_hears 63 = .ok (.iload_n 1, 1) := by decide +kernel
theorem dX6_hears_64 : decode cX6_hears 64 = .ok (.iconst 0, 1) := by decide +kernel
theorem dX6_hears_65 : decode cX6_hears 65 = .ok (.invokestatic 29, 3) := by decide +kernel
theorem dX6_hears_68 : decode cX6_hears 68 = .ok (.iaload, 1) := by decide +kernel
theorem dX6_hears_69 : decode cX6_hears 69 = .ok (.iload_n 2, 1) := by decide +kernel
theorem dX6_hears_70 : decode cX6_hears 70 = .ok (.if_icmp .ne 6, 3) := by decide +kernel
theorem dX6_hears_73 : decode cX6_hears 73 = .ok (.bipush (-5), 2) := by decide +kernel
theorem dX6_hears_75 : decode cX6_hears 75 = .ok (.ireturn, 1) := by decide +kernel
theorem dX6_hears_76 : decode cX6_hears 76 = .ok (.aload_n 0, 1) := by decide +kernel
theorem dX6_hears_77 : decode cX6_hears 77 = .ok (.getfield 7, 3) := by decide +kernel
theorem dX6_hears_80 : decode cX6_hears 80 = .ok (.iload_n 1, 1) := by decide +kernel
theorem dX6_hears_81 : decode cX6_hears 81 = .ok (.iconst 0, 1) := by decide +kernel
theorem dX6_hears_82 : decode cX6_hears 82 = .ok (.invokestatic 29, 3) := by decide +kernel
theorem dX6_hears_85 : decode cX6_hears 85 = .ok (.iload_n 2, 1) := by decide +kernel
theorem dX6_hears_86 : decode cX6_hears 86 = .ok (.iastore, 1) := by decide +kernel
theorem dX6_hears_87 : decode cX6_hears 87 = .ok (.iconst 0, 1) := by decide +kernel
theorem dX6_hears_88 : decode cX6_hears 88 = .ok (.istore 4, 2) := by decide +kernel
theorem dX6_hears_90 : decode cX6_hears 90 = .ok (.iconst 0, 1) := by decide +kernel
theorem dX6_hears_91 : decode cX6_hears 91 = .ok (.istore 5, 2) := by decide +kernel
theorem dX6_hears_93 : decode cX6_hears 93 = .ok (.iload 5, 2) := by decide +kernel
theorem dX6_hears_95 : decode cX6_hears 95 = .ok (.iconst 4, 1) := by decide +kernel
theorem dX6_hears_96 : decode cX6_hears 96 = .ok (.if_icmp .ge 35, 3) := by decide +kernel
theorem dX6_hears_99 : decode cX6_hears 99 = .ok (.iload 4, 2) := by decide +kernel
theorem dX6_hears_101 : decode cX6_hears 101 = .ok (.aload_n 0, 1) := by decide +kernel
theorem dX6_hears_102 : decode cX6_hears 102 = .ok (.getfield 7, 3) := by decide +kernel
theorem dX6_hears_105 : decode cX6_hears 105 = .ok (.iload 5, 2) := by decide +kernel
theorem dX6_hears_107 : decode cX6_hears 107 = .ok (.iconst 0, 1) := by decide +kernel
theorem dX6_hears_108 : decode cX6_hears 108 = .ok (.invokestatic 29, 3) := by decide +kernel
theorem dX6_hears_111 : decode cX6_hears 111 = .ok (.iaload, 1) := by decide +kernel
theorem dX6_hears_112 : decode cX6_hears 112 = .ok (.bipush (-5), 2) := by decide +kernel
theorem dX6_hears_114 : decode cX6_hears 114 = .ok (.if_icmp .eq 7, 3) := by decide +kernel
theorem dX6_hears_117 : decode cX6_hears 117 = .ok (.iconst 1, 1) := by decide +kernel
theorem dX6_hears_118 : decode cX6_hears 118 = .ok (.goto 4, 3) := by decide +kernel
theorem dX6_hears_121 : decode cX6_hears 121 = .ok (.iconst 0, 1) := by decide +kernel
theorem dX6_hears_122 : decode cX6_hears 122 = .ok (.iadd, 1) := by decide +kernel
theorem dX6_hears_123 : decode cX6_hears 123 = .ok (.istore 4, 2) := by decide +kernel
theorem dX6_hears_125 : decode cX6_hears 125 = .ok (.iinc 5 1, 3) := by decide +kernel
theorem dX6_hears_128 : decode cX6_hears 128 = .ok (.goto (-35), 3) := by decide +kernel
theorem dX6_hears_131 : decode cX6_hears 131 = .ok (.iload 4, 2) := by decide +kernel
theorem dX6_hears_133 : decode cX6_hears 133 = .ok (.ireturn, 1) := by decide +kernel
theorem dX6_holds_0 : decode cX6_holds 0 = .ok (.iload_n 1, 1) := by decide +kernel
theorem dX6_holds_1 : decode cX6_holds 1 = .ok (.invokestatic 109, 3) := by decide +kernel
theorem dX6_holds_4 : decode cX6_holds 4 = .ok (.ifCond .ne 5, 3) := by decide +kernel
theorem dX6_holds_7 : decode cX6_holds 7 = .ok (.iconst (-1), 1) := by decide +kernel
theorem dX6_holds_8 : decode cX6_holds 8 = .ok (.ireturn, 1) := by decide +kernel
theorem dX6_holds_9 : decode cX6_holds 9 = .ok (.iload_n 2, 1) := by decide +kernel
theorem dX6_holds_10 : decode cX6_holds 10 = .ok (.iconst 0, 1) := by decide +kernel
theorem dX6_holds_11 : decode cX6_holds 11 = .ok (.bipush 9, 2) := by decide +kernel
theorem dX6_holds_13 : decode cX6_holds 13 = .ok (.invokestatic 36, 3) := by decide +kernel
theorem dX6_holds_16 : decode cX6_holds 16 = .ok (.ifCond .ne 6, 3) := by decide +kernel
theorem dX6_holds_19 : decode cX6_holds 19 = .ok (.bipush (-2), 2) := by decide +kernel
theorem dX6_holds_21 : decode cX6_holds 21 = .ok (.ireturn, 1) := by decide +kernel
theorem dX6_holds_22 : decode cX6_holds 22 = .ok (.aload_n 0, 1) := by decide +kernel
theorem dX6_holds_23 : decode cX6_holds 23 = .ok (.getfield 7, 3) := by decide +kernel
theorem dX6_holds_26 : decode cX6_holds 26 = .ok (.iload_n 1, 1) := by decide +kernel
theorem dX6_holds_27 : decode cX6_holds 27 = .ok (.iconst 1, 1) := by decide +kernel
theorem dX6_holds_28 : decode cX6_holds 28 = .ok (.invokestatic 29, 3) := by decide +kernel
theorem dX6_holds_31 : decode cX6_holds 31 = .ok (.iaload, 1) := by decide +kernel
theorem dX6_holds_32 : decode cX6_holds 32 = .ok (.istore_n 3, 1) := by decide +kernel
theorem dX6_holds_33 : decode cX6_holds 33 = .ok (.aload_n 0, 1) := by decide +kernel
theorem dX6_holds_34 : decode cX6_holds 34 = .ok (.getfield 7, 3) := by decide +kernel
theorem dX6_holds_37 : decode cX6_holds 37 = .ok (.iload_n 1, 1) := by decide +kernel
theorem dX6_holds_38 : decode cX6_holds 38 = .ok (.iconst 1, 1) := by decide +kernel
theorem dX6_holds_39 : decode cX6_holds 39 = .ok (.invokestatic 29, 3) := by decide +kernel
theorem dX6_holds_42 : decode cX6_holds 42 = .ok (.iload_n 2, 1) := by decide +kernel
theorem dX6_holds_43 : decode cX6_holds 43 = .ok (.iastore, 1) := by decide +kernel
theorem dX6_holds_44 : decode cX6_holds 44 = .ok (.iload_n 3, 1) := by decide +kernel
theorem dX6_holds_45 : decode cX6_holds 45 = .ok (.iload_n 2, 1) := by decide +kernel
theorem dX6_holds_46 : decode cX6_holds 46 = .ok (.if_icmp .ne 8, 3) := by decide +kernel
theorem dX6_holds_49 : decode cX6_holds 49 = .ok (.bipush (-5), 2) := by decide +kernel
theorem dX6_holds_51 : decode cX6_holds 51 = .ok (.goto 4, 3) := by decide +kernel
theorem dX6_holds_54 : decode cX6_holds 54 = .ok (.iload_n 3, 1) := by decide +kernel
theorem dX6_holds_55 : decode cX6_holds 55 = .ok (.ireturn, 1) := by decide +kernel
theorem dX6_sticks_0 : decode cX6_sticks 0 = .ok (.iload_n 1, 1) := by decide +kernel
theorem dX6_sticks_1 : decode cX6_sticks 1 = .ok (.invokestatic 109, 3) := by decide +kernel
theorem dX6_sticks_4 : decode cX6_sticks 4 = .ok (.ifCond .ne 5, 3) := by decide +kernel
theorem dX6_sticks_7 : decode cX6_sticks 7 = .ok (.iconst (-1), 1) := by decide +kernel
theorem dX6_sticks_8 : decode cX6_sticks 8 = .ok (.ireturn, 1) := by decide +kernel
theorem dX6_sticks_9 : decode cX6_sticks 9 = .ok (.iload_n 2, 1) := by decide +kernel
theorem dX6_sticks_10 : decode cX6_sticks 10 = .ok (.iconst 1, 1) := by decide +kernel
theorem dX6_sticks_11 : decode cX6_sticks 11 = .ok (.bipush 99, 2) := by decide +kernel
theorem dX6_sticks_13 : decode cX6_sticks 13 = .ok (.invokestatic 36, 3) := by decide +kernel
theorem dX6_sticks_16 : decode cX6_sticks 16 = .ok (.ifCond .ne 6, 3) := by decide +kernel
theorem dX6_sticks_19 : decode cX6_sticks 19 = .ok (.bipush (-2), 2) := by decide +kernel
theorem dX6_sticks_21 : decode cX6_sticks 21 = .ok (.ireturn, 1) := by decide +kernel
theorem dX6_sticks_22 : decode cX6_sticks 22 = .ok (.aload_n 0, 1) := by decide +kernel
theorem dX6_sticks_23 : decode cX6_sticks 23 = .ok (.getfield 7, 3) := by decide +kernel
theorem dX6_sticks_26 : decode cX6_sticks 26 = .ok (.iload_n 1, 1) := by decide +kernel
theorem dX6_sticks_27 : decode cX6_sticks 27 = .ok (.iconst 2, 1) := by decide +kernel
theorem dX6_sticks_28 : decode cX6_sticks 28 = .ok (.invokestatic 29, 3) := by decide +kernel
theorem dX6_sticks_31 : decode cX6_sticks 31 = .ok (.iload_n 2, 1) := by decide +kernel
theorem dX6_sticks_32 : decode cX6_sticks 32 = .ok (.iastore, 1) := by decide +kernel
theorem dX6_sticks_33 : decode cX6_sticks 33 = .ok (.aload_n 0, 1) := by decide +kernel
theorem dX6_sticks_34 : decode cX6_sticks 34 = .ok (.invokevirtual 88, 3) := by decide +kernel
theorem dX6_sticks_37 : decode cX6_sticks 37 = .ok (.ireturn, 1) := by decide +kernel
theorem dX6_runs_0 : decode cX6_runs 0 = .ok (.iload_n 1, 1) := by decide +kernel
theorem dX6_runs_1 : decode cX6_runs 1 = .ok (.iconst 1, 1) := by decide +kernel
theorem dX6_runs_2 : decode cX6_runs 2 = .ok (.sipush 300, 3) := by decide +kernel
theorem dX6_runs_5 : decode cX6_runs 5 = .ok (.invokestatic 36, 3) := by decide +kernel
theorem dX6_runs_8 : decode cX6_runs 8 = .ok (.ifCond .ne 6, 3) := by decide +kernel
theorem dX6_runs_11 : decode cX6_runs 11 = .ok (.bipush (-2), 2) := by decide +kernel
theorem dX6_runs_13 : decode cX6_runs 13 = .ok (.ireturn, 1) := by decide +kernel
theorem dX6_runs_14 : decode cX6_runs 14 = .ok (.aload_n 0, 1) := by decide +kernel
theorem dX6_runs_15 : decode cX6_runs 15 = .ok (.getfield 7, 3) := by decide +kernel
theorem dX6_runs_18 : decode cX6_runs 18 = .ok (.iconst 3, 1) := by decide +kernel
theorem dX6_runs_19 : decode cX6_runs 19 = .ok (.iaload, 1) := by decide +kernel
theorem dX6_runs_20 : decode cX6_runs 20 = .ok (.iload_n 1, 1) := by decide +kernel
theorem dX6_runs_21 : decode cX6_runs 21 = .ok (.iadd, 1) := by decide +kernel
theorem dX6_runs_22 : decode cX6_runs 22 = .ok (.ldc 112, 2) := by decide +kernel
theorem dX6_runs_24 : decode cX6_runs 24 = .ok (.if_icmp .le 6, 3) := by decide +kernel
theorem dX6_runs_27 : decode cX6_runs 27 = .ok (.bipush (-3), 2) := by decide +kernel
theorem dX6_runs_29 : decode cX6_runs 29 = .ok (.ireturn, 1) := by decide +kernel
theorem dX6_runs_30 : decode cX6_runs 30 = .ok (.aload_n 0, 1) := by decide +kernel
theorem dX6_runs_31 : decode cX6_runs 31 = .ok (.invokevirtual 113, 3) := by decide +kernel
theorem dX6_runs_34 : decode cX6_runs 34 = .ok (.istore_n 2, 1) := by decide +kernel
theorem dX6_runs_35 : decode cX6_runs 35 = .ok (.iconst 0, 1) := by decide +kernel
theorem dX6_runs_36 : decode cX6_runs 36 = .ok (.istore_n 3, 1) := by decide +kernel
theorem dX6_runs_37 : decode cX6_runs 37 = .ok (.iload_n 3, 1) := by decide +kernel
theorem dX6_runs_38 : decode cX6_runs 38 = .ok (.iload_n 1, 1) := by decide +kernel
theorem dX6_runs_39 : decode cX6_runs 39 = .ok (.if_icmp .ge 13, 3) := by decide +kernel
theorem dX6_runs_42 : decode cX6_runs 42 = .ok (.aload_n 0, 1) := by decide +kernel
theorem dX6_runs_43 : decode cX6_runs 43 = .ok (.invokevirtual 116, 3) := by decide +kernel
theorem dX6_runs_46 : decode cX6_runs 46 = .ok (.iinc 3 1, 3) := by decide +kernel
theorem dX6_runs_49 : decode cX6_runs 49 = .ok (.goto (-12), 3) := by decide +kernel
theorem dX6_runs_52 : decode cX6_runs 52 = .ok (.aload_n 0, 1) := by decide +kernel
theorem dX6_runs_53 : decode cX6_runs 53 = .ok (.invokevirtual 113, 3) := by decide +kernel
theorem dX6_runs_56 : decode cX6_runs 56 = .ok (.iload_n 2, 1) := by decide +kernel
theorem dX6_runs_57 : decode cX6_runs 57 = .ok (.isub, 1) := by decide +kernel
theorem dX6_runs_58 : decode cX6_runs 58 = .ok (.ireturn, 1) := by decide +kernel
theorem dX6_takesBack_0 : decode cX6_takesBack 0 = .ok (.iload_n 1, 1) := by decide +kernel
theorem dX6_takesBack_1 : decode cX6_takesBack 1 = .ok (.invokestatic 109, 3) := by decide +kernel
theorem dX6_takesBack_4 : decode cX6_takesBack 4 = .ok (.ifCond .ne 5, 3) := by decide +kernel
theorem dX6_takesBack_7 : decode cX6_takesBack 7 = .ok (.iconst (-1), 1) := by decide +kernel
theorem dX6_takesBack_8 : decode cX6_takesBack 8 = .ok (.ireturn, 1) := by decide +kernel
theorem dX6_takesBack_9 : decode cX6_takesBack 9 = .ok (.aload_n 0, 1) := by decide +kernel
theorem dX6_takesBack_10 : decode cX6_takesBack 10 = .ok (.getfield 7, 3) := by decide +kernel
theorem dX6_takesBack_13 : decode cX6_takesBack 13 = .ok (.iload_n 1, 1) := by decide +kernel
theorem dX6_takesBack_14 : decode cX6_takesBack 14 = .ok (.iconst 0, 1) := by decide +kernel
theorem dX6_takesBack_15 : decode cX6_takesBack 15 = .ok (.invokestatic 33, 3) := by decide +kernel
theorem dX6_takesBack_18 : decode cX6_takesBack 18 = .ok (.iaload, 1) := by decide +kernel
theorem dX6_takesBack_19 : decode cX6_takesBack 19 = .ok (.istore_n 2, 1) := by decide +kernel
theorem dX6_takesBack_20 : decode cX6_takesBack 20 = .ok (.iload_n 2, 1) := by decide +kernel
theorem dX6_takesBack_21 : decode cX6_takesBack 21 = .ok (.iconst 1, 1) := by decide +kernel
theorem dX6_takesBack_22 : decode cX6_takesBack 22 = .ok (.if_icmp .ne 14, 3) := by decide +kernel
theorem dX6_takesBack_25 : decode cX6_takesBack 25 = .ok (.aload_n 0, 1) := by decide +kernel
theorem dX6_takesBack_26 : decode cX6_takesBack 26 = .ok (.iload_n 1, 1) := by decide +kernel
theorem dX6_takesBack_27 : decode cX6_takesBack 27 = .ok (.invokevirtual 47, 3) := by decide +kernel
theorem dX6_takesBack_30 : decode cX6_takesBack 30 = .ok (.ifCond .eq 6, 3) := by decide +kernel
theorem dX6_takesBack_33 : decode cX6_takesBack 33 = .ok (.bipush (-4), 2) := by decide +kernel
theorem dX6_takesBack_35 : decode cX6_takesBack 35 = .ok (.ireturn, 1) := by decide +kernel
theorem dX6_takesBack_36 : decode cX6_takesBack 36 = .ok (.iload_n 2, 1) := by decide +kernel
theorem dX6_takesBack_37 : decode cX6_takesBack 37 = .ok (.ifCond .ne 6, 3) := by decide +kernel
theorem dX6_takesBack_40 : decode cX6_takesBack 40 = .ok (.bipush (-5), 2) := by decide +kernel
theorem dX6_takesBack_42 : decode cX6_takesBack 42 = .ok (.ireturn, 1) := by decide +kernel
theorem dX6_takesBack_43 : decode cX6_takesBack 43 = .ok (.aload_n 0, 1) := by decide +kernel
theorem dX6_takesBack_44 : decode cX6_takesBack 44 = .ok (.getfield 7, 3) := by decide +kernel
theorem dX6_takesBack_47 : decode cX6_takesBack 47 = .ok (.iload_n 1, 1) := by decide +kernel
theorem dX6_takesBack_48 : decode cX6_takesBack 48 = .ok (.iconst 0, 1) := by decide +kernel
theorem dX6_takesBack_49 : decode cX6_takesBack 49 = .ok (.invokestatic 33, 3) := by decide +kernel
theorem dX6_takesBack_52 : decode cX6_takesBack 52 = .ok (.dup2, 1) := by decide +kernel
theorem dX6_takesBack_53 : decode cX6_takesBack 53 = .ok (.iaload, 1) := by decide +kernel
theorem dX6_takesBack_54 : decode cX6_takesBack 54 = .ok (.iconst 1, 1) := by decide +kernel
theorem dX6_takesBack_55 : decode cX6_takesBack 55 = .ok (.isub, 1) := by decide +kernel
theorem dX6_takesBack_56 : decode cX6_takesBack 56 = .ok (.iastore, 1) := by decide +kernel
theorem dX6_takesBack_57 : decode cX6_takesBack 57 = .ok (.aload_n 0, 1) := by decide +kernel
theorem dX6_takesBack_58 : decode cX6_takesBack 58 = .ok (.getfield 7, 3) := by decide +kernel
theorem dX6_takesBack_61 : decode cX6_takesBack 61 = .ok (.iload_n 1, 1) := by decide +kernel
theorem dX6_takesBack_62 : decode cX6_takesBack 62 = .ok (.bipush 6, 2) := by decide +kernel
theorem dX6_takesBack_64 : decode cX6_takesBack 64 = .ok (.invokestatic 33, 3) := by decide +kernel
theorem dX6_takesBack_67 : decode cX6_takesBack 67 = .ok (.iload_n 2, 1) := by decide +kernel
theorem dX6_takesBack_68 : decode cX6_takesBack 68 = .ok (.iconst 1, 1) := by decide +kernel
theorem dX6_takesBack_69 : decode cX6_takesBack 69 = .ok (.if_icmp .ne 7, 3) := by decide +kernel
theorem dX6_takesBack_72 : decode cX6_takesBack 72 = .ok (.iconst 0, 1) := by decide +kernel
theorem dX6_takesBack_73 : decode cX6_takesBack 73 = .ok (.goto 14, 3) := by decide +kernel
theorem dX6_takesBack_76 : decode cX6_takesBack 76 = .ok (.aload_n 0, 1) := by decide +kernel
theorem dX6_takesBack_77 : decode cX6_takesBack 77 = .ok (.getfield 7, 3) := by decide +kernel
theorem dX6_takesBack_80 : decode cX6_takesBack 80 = .ok (.iload_n 1, 1) := by decide +kernel
theorem dX6_takesBack_81 : decode cX6_takesBack 81 = .ok (.bipush 6, 2) := by decide +kernel
theorem dX6_takesBack_83 : decode cX6_takesBack 83 = .ok (.invokestatic 33, 3) := by decide +kernel
theorem dX6_takesBack_86 : decode cX6_takesBack 86 = .ok (.iaload, 1) := by decide +kernel
theorem dX6_takesBack_87 : decode cX6_takesBack 87 = .ok (.iastore, 1) := by decide +kernel
theorem dX6_takesBack_88 : decode cX6_takesBack 88 = .ok (.iload_n 2, 1) := by decide +kernel
theorem dX6_takesBack_89 : decode cX6_takesBack 89 = .ok (.iconst 1, 1) := by decide +kernel
theorem dX6_takesBack_90 : decode cX6_takesBack 90 = .ok (.isub, 1) := by decide +kernel
theorem dX6_takesBack_91 : decode cX6_takesBack 91 = .ok (.ireturn, 1) := by decide +kernel
theorem dX6_most_0 : decode cX6_most 0 = .ok (.iload_n 0, 1) := by decide +kernel
theorem dX6_most_1 : decode cX6_most 1 = .ok (.ifCond .ne 8, 3) := by decide +kernel
theorem dX6_most_4 : decode cX6_most 4 = .ok (.bipush 20, 2) := by decide +kernel
theorem dX6_most_6 : decode cX6_most 6 = .ok (.goto 15, 3) := by decide +kernel
theorem dX6_most_9 : decode cX6_most 9 = .ok (.iload_n 0, 1) := by decide +kernel
theorem dX6_most_10 : decode cX6_most 10 = .ok (.iconst 1, 1) := by decide +kernel
theorem dX6_most_11 : decode cX6_most 11 = .ok (.if_icmp .ne 8, 3) := by decide +kernel
theorem dX6_most_14 : decode cX6_most 14 = .ok (.bipush 9, 2) := by decide +kernel
theorem dX6_most_16 : decode cX6_most 16 = .ok (.goto 5, 3) := by decide +kernel
theorem dX6_most_19 : decode cX6_most 19 = .ok (.bipush 99, 2) := by decide +kernel
theorem dX6_most_21 : decode cX6_most 21 = .ok (.ireturn, 1) := by decide +kernel
theorem dX6_sets_0 : decode cX6_sets 0 = .ok (.iload_n 1, 1) := by decide +kernel
theorem dX6_sets_1 : decode cX6_sets 1 = .ok (.iconst 0, 1) := by decide +kernel
theorem dX6_sets_2 : decode cX6_sets 2 = .ok (.iconst 2, 1) := by decide +kernel
theorem dX6_sets_3 : decode cX6_sets 3 = .ok (.invokestatic 36, 3) := by decide +kernel
theorem dX6_sets_6 : decode cX6_sets 6 = .ok (.ifCond .ne 5, 3) := by decide +kernel
theorem dX6_sets_9 : decode cX6_sets 9 = .ok (.iconst (-1), 1) := by decide +kernel
theorem dX6_sets_10 : decode cX6_sets 10 = .ok (.ireturn, 1) := by decide +kernel
theorem dX6_sets_11 : decode cX6_sets 11 = .ok (.iload_n 2, 1) := by decide +kernel
theorem dX6_sets_12 : decode cX6_sets 12 = .ok (.iconst 1, 1) := by decide +kernel
theorem dX6_sets_13 : decode cX6_sets 13 = .ok (.iload_n 1, 1) := by decide +kernel
theorem dX6_sets_14 : decode cX6_sets 14 = .ok (.invokestatic 119, 3) := by decide +kernel
theorem dX6_sets_17 : decode cX6_sets 17 = .ok (.invokestatic 36, 3) := by decide +kernel
theorem dX6_sets_20 : decode cX6_sets 20 = .ok (.ifCond .ne 6, 3) := by decide +kernel
theorem dX6_sets_23 : decode cX6_sets 23 = .ok (.bipush (-2), 2) := by decide +kernel
theorem dX6_sets_25 : decode cX6_sets 25 = .ok (.ireturn, 1) := by decide +kernel
theorem dX6_sets_26 : decode cX6_sets 26 = .ok (.aload_n 0, 1) := by decide +kernel
theorem dX6_sets_27 : decode cX6_sets 27 = .ok (.getfield 7, 3) := by decide +kernel
theorem dX6_sets_30 : decode cX6_sets 30 = .ok (.iload_n 1, 1) := by decide +kernel
theorem dX6_sets_31 : decode cX6_sets 31 = .ok (.iaload, 1) := by decide +kernel
theorem dX6_sets_32 : decode cX6_sets 32 = .ok (.istore_n 3, 1) := by decide +kernel
theorem dX6_sets_33 : decode cX6_sets 33 = .ok (.aload_n 0, 1) := by decide +kernel
theorem dX6_sets_34 : decode cX6_sets 34 = .ok (.getfield 7, 3) := by decide +kernel
theorem dX6_sets_37 : decode cX6_sets 37 = .ok (.iload_n 1, 1) := by decide +kernel
theorem dX6_sets_38 : decode cX6_sets 38 = .ok (.iload_n 2, 1) := by decide +kernel
theorem dX6_sets_39 : decode cX6_sets 39 = .ok (.iastore, 1) := by decide +kernel
theorem dX6_sets_40 : decode cX6_sets 40 = .ok (.iload_n 3, 1) := by decide +kernel
theorem dX6_sets_41 : decode cX6_sets 41 = .ok (.iload_n 2, 1) := by decide +kernel
theorem dX6_sets_42 : decode cX6_sets 42 = .ok (.if_icmp .ne 8, 3) := by decide +kernel
theorem dX6_sets_45 : decode cX6_sets 45 = .ok (.bipush (-5), 2) := by decide +kernel
theorem dX6_sets_47 : decode cX6_sets 47 = .ok (.goto 4, 3) := by decide +kernel
theorem dX6_sets_50 : decode cX6_sets 50 = .ok (.iload_n 3, 1) := by decide +kernel
theorem dX6_sets_51 : decode cX6_sets 51 = .ok (.ireturn, 1) := by decide +kernel
theorem dX6_say_0 : decode cX6_say 0 = .ok (.aload_n 0, 1) := by decide +kernel
theorem dX6_say_1 : decode cX6_say 1 = .ok (.invokevirtual 122, 3) := by decide +kernel
theorem dX6_say_4 : decode cX6_say 4 = .ok (.aload_n 0, 1) := by decide +kernel
theorem dX6_say_5 : decode cX6_say 5 = .ok (.aload_n 0, 1) := by decide +kernel
theorem dX6_say_6 : decode cX6_say 6 = .ok (.iload_n 1, 1) := by decide +kernel
theorem dX6_say_7 : decode cX6_say 7 = .ok (.iload_n 2, 1) := by decide +kernel
theorem dX6_say_8 : decode cX6_say 8 = .ok (.iload_n 3, 1) := by decide +kernel
theorem dX6_say_9 : decode cX6_say 9 = .ok (.iload 4, 2) := by decide +kernel
theorem dX6_say_11 : decode cX6_say 11 = .ok (.invokevirtual 125, 3) := by decide +kernel
theorem dX6_say_14 : decode cX6_say 14 = .ok (.invokevirtual 129, 3) := by decide +kernel
theorem dX6_say_17 : decode cX6_say 17 = .ok (.ireturn, 1) := by decide +kernel
theorem dX6_takeBack_0 : decode cX6_takeBack 0 = .ok (.aload_n 0, 1) := by decide +kernel
theorem dX6_takeBack_1 : decode cX6_takeBack 1 = .ok (.invokevirtual 122, 3) := by decide +kernel
theorem dX6_takeBack_4 : decode cX6_takeBack 4 = .ok (.aload_n 0, 1) := by decide +kernel
theorem dX6_takeBack_5 : decode cX6_takeBack 5 = .ok (.aload_n 0, 1) := by decide +kernel
theorem dX6_takeBack_6 : decode cX6_takeBack 6 = .ok (.iload_n 1, 1) := by decide +kernel
theorem dX6_takeBack_7 : decode cX6_takeBack 7 = .ok (.invokevirtual 132, 3) := by decide +kernel
theorem dX6_takeBack_10 : decode cX6_takeBack 10 = .ok (.invokevirtual 129, 3) := by decide +kernel
theorem dX6_takeBack_13 : decode cX6_takeBack 13 = .ok (.ireturn, 1) := by decide +kernel
theorem dX6_hear_0 : decode cX6_hear 0 = .ok (.aload_n 0, 1) := by decide +kernel
theorem dX6_hear_1 : decode cX6_hear 1 = .ok (.invokevirtual 122, 3) := by decide +kernel
theorem dX6_hear_4 : decode cX6_hear 4 = .ok (.aload_n 0, 1) := by decide +kernel
theorem dX6_hear_5 : decode cX6_hear 5 = .ok (.aload_n 0, 1) := by decide +kernel
theorem dX6_hear_6 : decode cX6_hear 6 = .ok (.iload_n 1, 1) := by decide +kernel
theorem dX6_hear_7 : decode cX6_hear 7 = .ok (.iload_n 2, 1) := by decide +kernel
theorem dX6_hear_8 : decode cX6_hear 8 = .ok (.invokevirtual 135, 3) := by decide +kernel
theorem dX6_hear_11 : decode cX6_hear 11 = .ok (.invokevirtual 129, 3) := by decide +kernel
theorem dX6_hear_14 : decode cX6_hear 14 = .ok (.ireturn, 1) := by decide +kernel
theorem dX6_hold_0 : decode cX6_hold 0 = .ok (.aload_n 0, 1) := by decide +kernel
theorem dX6_hold_1 : decode cX6_hold 1 = .ok (.invokevirtual 122, 3) := by decide +kernel
theorem dX6_hold_4 : decode cX6_hold 4 = .ok (.aload_n 0, 1) := by decide +kernel
theorem dX6_hold_5 : decode cX6_hold 5 = .ok (.aload_n 0, 1) := by decide +kernel
theorem dX6_hold_6 : decode cX6_hold 6 = .ok (.iload_n 1, 1) := by decide +kernel
theorem dX6_hold_7 : decode cX6_hold 7 = .ok (.iload_n 2, 1) := by decide +kernel
theorem dX6_hold_8 : decode cX6_hold 8 = .ok (.invokevirtual 138, 3) := by decide +kernel
theorem dX6_hold_11 : decode cX6_hold 11 = .ok (.invokevirtual 129, 3) := by decide +kernel
theorem dX6_hold_14 : decode cX6_hold 14 = .ok (.ireturn, 1) := by decide +kernel
theorem dX6_stick_0 : decode cX6_stick 0 = .ok (.aload_n 0, 1) := by decide +kernel
theorem dX6_stick_1 : decode cX6_stick 1 = .ok (.invokevirtual 122, 3) := by decide +kernel
theorem dX6_stick_4 : decode cX6_stick 4 = .ok (.aload_n 0, 1) := by decide +kernel
theorem dX6_stick_5 : decode cX6_stick 5 = .ok (.aload_n 0, 1) := by decide +kernel
theorem dX6_stick_6 : decode cX6_stick 6 = .ok (.iload_n 1, 1) := by decide +kernel
theorem dX6_stick_7 : decode cX6_stick 7 = .ok (.iload_n 2, 1) := by decide +kernel
theorem dX6_stick_8 : decode cX6_stick 8 = .ok (.invokevirtual 141, 3) := by decide +kernel
theorem dX6_stick_11 : decode cX6_stick 11 = .ok (.invokevirtual 129, 3) := by decide +kernel
theorem dX6_stick_14 : decode cX6_stick 14 = .ok (.ireturn, 1) := by decide +kernel
theorem dX6_set_0 : decode cX6_set 0 = .ok (.aload_n 0, 1) := by decide +kernel
theorem dX6_set_1 : decode cX6_set 1 = .ok (.invokevirtual 122, 3) := by decide +kernel
theorem dX6_set_4 : decode cX6_set 4 = .ok (.aload_n 0, 1) := by decide +kernel
theorem dX6_set_5 : decode cX6_set 5 = .ok (.aload_n 0, 1) := by decide +kernel
theorem dX6_set_6 : decode cX6_set 6 = .ok (.iload_n 1, 1) := by decide +kernel
theorem dX6_set_7 : decode cX6_set 7 = .ok (.iload_n 2, 1) := by decide +kernel
theorem dX6_set_8 : decode cX6_set 8 = .ok (.invokevirtual 144, 3) := by decide +kernel
theorem dX6_set_11 : decode cX6_set 11 = .ok (.invokevirtual 129, 3) := by decide +kernel
theorem dX6_set_14 : decode cX6_set 14 = .ok (.ireturn, 1) := by decide +kernel
theorem dX6_run_0 : decode cX6_run 0 = .ok (.aload_n 0, 1) := by decide +kernel
theorem dX6_run_1 : decode cX6_run 1 = .ok (.invokevirtual 122, 3) := by decide +kernel
theorem dX6_run_4 : decode cX6_run 4 = .ok (.aload_n 0, 1) := by decide +kernel
theorem dX6_run_5 : decode cX6_run 5 = .ok (.aload_n 0, 1) := by decide +kernel
theorem dX6_run_6 : decode cX6_run 6 = .ok (.iload_n 1, 1) := by decide +kernel
theorem dX6_run_7 : decode cX6_run 7 = .ok (.invokevirtual 147, 3) := by decide +kernel
theorem dX6_run_10 : decode cX6_run 10 = .ok (.invokevirtual 129, 3) := by decide +kernel
theorem dX6_run_13 : decode cX6_run 13 = .ok (.ireturn, 1) := by decide +kernel
theorem dX6_type_0 : decode cX6_type 0 = .ok (.aload_n 0, 1) := by decide +kernel
theorem dX6_type_1 : decode cX6_type 1 = .ok (.getfield 150, 3) := by decide +kernel
theorem dX6_type_4 : decode cX6_type 4 = .ok (.bipush 80, 2) := by decide +kernel
theorem dX6_type_6 : decode cX6_type 6 = .ok (.if_icmp .ne 6, 3) := by decide +kernel
theorem dX6_type_9 : decode cX6_type 9 = .ok (.bipush (-3), 2) := by decide +kernel
theorem dX6_type_11 : decode cX6_type 11 = .ok (.ireturn, 1) := by decide +kernel
theorem dX6_type_12 : decode cX6_type 12 = .ok (.aload_n 0, 1) := by decide +kernel
theorem dX6_type_13 : decode cX6_type 13 = .ok (.getfield 22, 3) := by decide +kernel
theorem dX6_type_16 : decode cX6_type 16 = .ok (.aload_n 0, 1) := by decide +kernel
theorem dX6_type_17 : decode cX6_type 17 = .ok (.getfield 150, 3) := by decide +kernel
theorem dX6_type_20 : decode cX6_type 20 = .ok (.iload_n 1, 1) := by decide +kernel
theorem dX6_type_21 : decode cX6_type 21 = .ok (.iastore, 1) := by decide +kernel
theorem dX6_type_22 : decode cX6_type 22 = .ok (.aload_n 0, 1) := by decide +kernel
theorem dX6_type_23 : decode cX6_type 23 = .ok (.dup, 1) := by decide +kernel
theorem dX6_type_24 : decode cX6_type 24 = .ok (.getfield 150, 3) := by decide +kernel
theorem dX6_type_27 : decode cX6_type 27 = .ok (.iconst 1, 1) := by decide +kernel
theorem dX6_type_28 : decode cX6_type 28 = .ok (.iadd, 1) := by decide +kernel
theorem dX6_type_29 : decode cX6_type 29 = .ok (.putfield 150, 3) := by decide +kernel
theorem dX6_type_32 : decode cX6_type 32 = .ok (.aload_n 0, 1) := by decide +kernel
theorem dX6_type_33 : decode cX6_type 33 = .ok (.getfield 150, 3) := by decide +kernel
theorem dX6_type_36 : decode cX6_type 36 = .ok (.ireturn, 1) := by decide +kernel
theorem dX6_clearText_0 : decode cX6_clearText 0 = .ok (.aload_n 0, 1) := by decide +kernel
theorem dX6_clearText_1 : decode cX6_clearText 1 = .ok (.getfield 150, 3) := by decide +kernel
theorem dX6_clearText_4 : decode cX6_clearText 4 = .ok (.istore_n 1, 1) := by decide +kernel
theorem dX6_clearText_5 : decode cX6_clearText 5 = .ok (.aload_n 0, 1) := by decide +kernel
theorem dX6_clearText_6 : decode cX6_clearText 6 = .ok (.iconst 0, 1) := by decide +kernel
theorem dX6_clearText_7 : decode cX6_clearText 7 = .ok (.putfield 150, 3) := by decide +kernel
theorem dX6_clearText_10 : decode cX6_clearText 10 = .ok (.iload_n 1, 1) := by decide +kernel
theorem dX6_clearText_11 : decode cX6_clearText 11 = .ok (.ireturn, 1) := by decide +kernel
theorem dX6_sign_0 : decode cX6_sign 0 = .ok (.aload_n 0, 1) := by decide +kernel
theorem dX6_sign_1 : decode cX6_sign 1 = .ok (.aload_n 0, 1) := by decide +kernel
theorem dX6_sign_2 : decode cX6_sign 2 = .ok (.getfield 153, 3) := by decide +kernel
theorem dX6_sign_5 : decode cX6_sign 5 = .ok (.ifCond .ne 27, 3) := by decide +kernel
theorem dX6_sign_8 : decode cX6_sign 8 = .ok (.aload_n 0, 1) := by decide +kernel
theorem dX6_sign_9 : decode cX6_sign 9 = .ok (.getfield 157, 3) := by decide +kernel
theorem dX6_sign_12 : decode cX6_sign 12 = .ok (.aload_n 0, 1) := by decide +kernel
theorem dX6_sign_13 : decode cX6_sign 13 = .ok (.getfield 150, 3) := by decide +kernel
theorem dX6_sign_16 : decode cX6_sign 16 = .ok (.if_icmp .ge 16, 3) := by decide +kernel
theorem dX6_sign_19 : decode cX6_sign 19 = .ok (.aload_n 0, 1) := by decide +kernel
theorem dX6_sign_20 : decode cX6_sign 20 = .ok (.getfield 22, 3) := by decide +kernel
theorem dX6_sign_23 : decode cX6_sign 23 = .ok (.aload_n 0, 1) := by decide +kernel
theorem dX6_sign_24 : decode cX6_sign 24 = .ok (.getfield 157, 3) := by decide +kernel
theorem dX6_sign_27 : decode cX6_sign 27 = .ok (.iaload, 1) := by decide +kernel
theorem dX6_sign_28 : decode cX6_sign 28 = .ok (.iload_n 1, 1) := by decide +kernel
theorem dX6_sign_29 : decode cX6_sign 29 = .ok (.if_icmp .eq 7, 3) := by decide +kernel
theorem dX6_sign_32 : decode cX6_sign 32 = .ok (.iconst 1, 1) := by decide +kernel
theorem dX6_sign_33 : decode cX6_sign 33 = .ok (.goto 4, 3) := by decide +kernel
theorem dX6_sign_36 : decode cX6_sign 36 = .ok (.iconst 0, 1) := by decide +kernel
theorem dX6_sign_37 : decode cX6_sign 37 = .ok (.putfield 153, 3) := by decide +kernel
theorem dX6_sign_40 : decode cX6_sign 40 = .ok (.aload_n 0, 1) := by decide +kernel
theorem dX6_sign_41 : decode cX6_sign 41 = .ok (.dup, 1) := by decide +kernel
theorem dX6_sign_42 : decode cX6_sign 42 = .ok (.getfield 157, 3) := by decide +kernel
theorem dX6_sign_45 : decode cX6_sign 45 = .ok (.aload_n 0, 1) := by decide +kernel
theorem dX6_sign_46 : decode cX6_sign 46 = .ok (.getfield 153, 3) := by decide +kernel
theorem dX6_sign_49 : decode cX6_sign 49 = .ok (.ifCond .eq 7, 3) := by decide +kernel
theorem dX6_sign_52 : decode cX6_sign 52 = .ok (.iconst 0, 1) := by decide +kernel
theorem dX6_sign_53 : decode cX6_sign 53 = .ok (.goto 4, 3) := by decide +kernel
theorem dX6_sign_56 : decode cX6_sign 56 = .ok (.iconst 1, 1) := by decide +kernel
theorem dX6_sign_57 : decode cX6_sign 57 = .ok (.iadd, 1) := by decide +kernel
theorem dX6_sign_58 : decode cX6_sign 58 = .ok (.putfield 157, 3) := by decide +kernel
theorem dX6_sign_61 : decode cX6_sign 61 = .ok (.return_, 1) := by decide +kernel
theorem dX6_isNext_0 : decode cX6_isNext 0 = .ok (.aload_n 0, 1) := by decide +kernel
theorem dX6_isNext_1 : decode cX6_isNext 1 = .ok (.getfield 153, 3) := by decide +kernel
theorem dX6_isNext_4 : decode cX6_isNext 4 = .ok (.ifCond .ne 31, 3) := by decide +kernel
theorem dX6_isNext_7 : decode cX6_isNext 7 = .ok (.aload_n 0, 1) := by decide +kernel
theorem dX6_isNext_8 : decode cX6_isNext 8 = .ok (.getfield 157, 3) := by decide +kernel
theorem dX6_isNext_11 : decode cX6_isNext 11 = .ok (.aload_n 0, 1) := by decide +kernel
theorem dX6_isNext_12 : decode cX6_isNext 12 = .ok (.getfield 150, 3) := by decide +kernel
theorem dX6_isNext_15 : decode cX6_isNext 15 = .ok (.if_icmp .ge 20, 3) := by decide +kernel
theorem dX6_isNext_18 : decode cX6_isNext 18 = .ok (.aload_n 0, 1) := by decide +kernel
theorem dX6_isNext_19 : decode cX6_isNext 19 = .ok (.getfield 22, 3) := by decide +kernel
theorem dX6_isNext_22 : decode cX6_isNext 22 = .ok (.aload_n 0, 1) := by decide +kernel
theorem dX6_isNext_23 : decode cX6_isNext 23 = .ok (.getfield 157, 3) := by decide +kernel
theorem dX6_isNext_26 : decode cX6_isNext 26 = .ok (.iaload, 1) := by decide +kernel
theorem dX6_isNext_27 : decode cX6_isNext 27 = .ok (.iload_n 1, 1) := by decide +kernel
theorem dX6_isNext_28 : decode cX6_isNext 28 = .ok (.if_icmp .ne 7, 3) := by decide +kernel
theorem dX6_isNext_31 : decode cX6_isNext 31 = .ok (.iconst 1, 1) := by decide +kernel
theorem dX6_isNext_32 : decode cX6_isNext 32 = .ok (.goto 4, 3) := by decide +kernel
theorem dX6_isNext_35 : decode cX6_isNext 35 = .ok (.iconst 0, 1) := by decide +kernel
theorem dX6_isNext_36 : decode cX6_isNext 36 = .ok (.ireturn, 1) := by decide +kernel
theorem dX6_isDigit_0 : decode cX6_isDigit 0 = .ok (.aload_n 0, 1) := by decide +kernel
theorem dX6_isDigit_1 : decode cX6_isDigit 1 = .ok (.getfield 153, 3) := by decide +kernel
theorem dX6_isDigit_4 : decode cX6_isDigit 4 = .ok (.ifCond .ne 37, 3) := by decide +kernel
theorem dX6_isDigit_7 : decode cX6_isDigit 7 = .ok (.aload_n 0, 1) := by decide +kernel
theorem dX6_isDigit_8 : decode cX6_isDigit 8 = .ok (.getfield 157, 3) := by decide +kernel
theorem dX6_isDigit_11 : decode cX6_isDigit 11 = .ok (.aload_n 0, 1) := by decide +kernel
theorem dX6_isDigit_12 : decode cX6_isDigit 12 = .ok (.getfield 150, 3) := by decide +kernel
theorem dX6_isDigit_15 : decode cX6_isDigit 15 = .ok (.if_icmp .ge 26, 3) := by decide +kernel
theorem dX6_isDigit_18 : decode cX6_isDigit 18 = .ok (.aload_n 0, 1) := by decide +kernel
theorem dX6_isDigit_19 : decode cX6_isDigit 19 = .ok (.getfield 22, 3) := by decide +kernel
theorem dX6_isDigit_22 : decode cX6_isDigit 22 = .ok (.aload_n 0, 1) := by decide +kernel
theorem dX6_isDigit_23 : decode cX6_isDigit 23 = .ok (.getfield 157, 3) := by decide +kernel
theorem dX6_isDigit_26 : decode cX6_isDigit 26 = .ok (.iaload, 1) := by decide +kernel
theorem dX6_isDigit_27 : decode cX6_isDigit 27 = .ok (.bipush 48, 2) := by decide +kernel
theorem dX6_isDigit_29 : decode cX6_isDigit 29 = .ok (.bipush 57, 2) := by decide +kernel
theorem dX6_isDigit_31 : decode cX6_isDigit 31 = .ok (.invokestatic 36, 3) := by decide +kernel
theorem dX6_isDigit_34 : decode cX6_isDigit 34 = .ok (.ifCond .eq 7, 3) := by decide +kernel
theorem dX6_isDigit_37 : decode cX6_isDigit 37 = .ok (.iconst 1, 1) := by decide +kernel
theorem dX6_isDigit_38 : decode cX6_isDigit 38 = .ok (.goto 4, 3) := by decide +kernel
theorem dX6_isDigit_41 : decode cX6_isDigit 41 = .ok (.iconst 0, 1) := by decide +kernel
theorem dX6_isDigit_42 : decode cX6_isDigit 42 = .ok (.ireturn, 1) := by decide +kernel
theorem dX6_number_0 : decode cX6_number 0 = .ok (.aload_n 0, 1) := by decide +kernel
theorem dX6_number_1 : decode cX6_number 1 = .ok (.bipush 32, 2) := by decide +kernel
theorem dX6_number_3 : decode cX6_number 3 = .ok (.invokevirtual 160, 3) := by decide +kernel
theorem dX6_number_6 : decode cX6_number 6 = .ok (.aload_n 0, 1) := by decide +kernel
theorem dX6_number_7 : decode cX6_number 7 = .ok (.aload_n 0, 1) := by decide +kernel
theorem dX6_number_8 : decode cX6_number 8 = .ok (.getfield 153, 3) := by decide +kernel
theorem dX6_number_11 : decode cX6_number 11 = .ok (.ifCond .ne 42, 3) := by decide +kernel
theorem dX6_number_14 : decode cX6_number 14 = .ok (.aload_n 0, 1) := by decide +kernel
theorem dX6_number_15 : decode cX6_number 15 = .ok (.invokevirtual 163, 3) := by decide +kernel
theorem dX6_number_18 : decode cX6_number 18 = .ok (.ifCond .eq 35, 3) := by decide +kernel
theorem dX6_number_21 : decode cX6_number 21 = .ok (.aload_n 0, 1) := by decide +kernel
theorem dX6_number_22 : decode cX6_number 22 = .ok (.getfield 22, 3) := by decide +kernel
theorem dX6_number_25 : decode cX6_number 25 = .ok (.aload_n 0, 1) := by decide +kernel
theorem dX6_number_26 : decode cX6_number 26 = .ok (.getfield 157, 3) := by decide +kernel
theorem dX6_number_29 : decode cX6_number 29 = .ok (.iaload, 1) := by decide +kernel
theorem dX6_number_30 : decode cX6_number 30 = .ok (.bipush 48, 2) := by decide +kernel
theorem dX6_number_32 : decode cX6_number 32 = .ok (.isub, 1) := by decide +kernel
theorem dX6_number_33 : decode cX6_number 33 = .ok (.iload_n 1, 1) := by decide +kernel
theorem dX6_number_34 : decode cX6_number 34 = .ok (.if_icmp .lt 19, 3) := by decide +kernel
theorem dX6_number_37 : decode cX6_number 37 = .ok (.aload_n 0, 1) := by decide +kernel
theorem dX6_number_38 : decode cX6_number 38 = .ok (.getfield 22, 3) := by decide +kernel
theorem dX6_number_41 : decode cX6_number 41 = .ok (.aload_n 0, 1) := by decide +kernel
theorem dX6_number_42 : decode cX6_number 42 = .ok (.getfield 157, 3) := by decide +kernel
theorem dX6_number_45 : decode cX6_number 45 = .ok (.iaload, 1) := by decide +kernel
theorem dX6_number_46 : decode cX6_number 46 = .ok (.bipush 48, 2) := by decide +kernel
theorem dX6_number_48 : decode cX6_number 48 = .ok (.isub, 1) := by decide +kernel
theorem dX6_number_49 : decode cX6_number 49 = .ok (.iload_n 2, 1) := by decide +kernel
theorem dX6_number_50 : decode cX6_number 50 = .ok (.if_icmp .le 7, 3) := by decide +kernel
theorem dX6_number_53 : decode cX6_number 53 = .ok (.iconst 1, 1) := by decide +kernel
theorem dX6_number_54 : decode cX6_number 54 = .ok (.goto 4, 3) := by decide +kernel
theorem dX6_number_57 : decode cX6_number 57 = .ok (.iconst 0, 1) := by decide +kernel
theorem dX6_number_58 : decode cX6_number 58 = .ok (.putfield 153, 3) := by decide +kernel
theorem dX6_number_61 : decode cX6_number 61 = .ok (.aload_n 0, 1) := by decide +kernel
theorem dX6_number_62 : decode cX6_number 62 = .ok (.getfield 153, 3) := by decide +kernel
theorem dX6_number_65 : decode cX6_number 65 = .ok (.ifCond .eq 5, 3) := by decide +kernel
theorem dX6_number_68 : decode cX6_number 68 = .ok (.iconst 0, 1) := by decide +kernel
theorem dX6_number_69 : decode cX6_number 69 = .ok (.ireturn, 1) := by decide +kernel
theorem dX6_number_70 : decode cX6_number 70 = .ok (.aload_n 0, 1) := by decide +kernel
theorem dX6_number_71 : decode cX6_number 71 = .ok (.getfield 22, 3) := by decide +kernel
theorem dX6_number_74 : decode cX6_number 74 = .ok (.aload_n 0, 1) := by decide +kernel
theorem dX6_number_75 : decode cX6_number 75 = .ok (.getfield 157, 3) := by decide +kernel
theorem dX6_number_78 : decode cX6_number 78 = .ok (.iaload, 1) := by decide +kernel
theorem dX6_number_79 : decode cX6_number 79 = .ok (.bipush 48, 2) := by decide +kernel
theorem dX6_number_81 : decode cX6_number 81 = .ok (.isub, 1) := by decide +kernel
theorem dX6_number_82 : decode cX6_number 82 = .ok (.istore_n 3, 1) := by decide +kernel
theorem dX6_number_83 : decode cX6_number 83 = .ok (.aload_n 0, 1) := by decide +kernel
theorem dX6_number_84 : decode cX6_number 84 = .ok (.dup, 1) := by decide +kernel
theorem dX6_number_85 : decode cX6_number 85 = .ok (.getfield 157, 3) := by decide +kernel
theorem dX6_number_88 : decode cX6_number 88 = .ok (.iconst 1, 1) := by decide +kernel
theorem dX6_number_89 : decode cX6_number 89 = .ok (.iadd, 1) := by decide +kernel
theorem dX6_number_90 : decode cX6_number 90 = .ok (.putfield 157, 3) := by decide +kernel
theorem dX6_number_93 : decode cX6_number 93 = .ok (.iload_n 3, 1) := by decide +kernel
theorem dX6_number_94 : decode cX6_number 94 = .ok (.ifCond .le 62, 3) := by decide +kernel
theorem dX6_number_97 : decode cX6_number 97 = .ok (.aload_n 0, 1) := by decide +kernel
theorem dX6_number_98 : decode cX6_number 98 = .ok (.invokevirtual 163, 3) := by decide +kernel
theorem dX6_number_101 : decode cX6_number 101 = .ok (.ifCond .eq 55, 3) := by decide +kernel
theorem dX6_number_104 : decode cX6_number 104 = .ok (.bipush 10, 2) := by decide +kernel
theorem dX6_number_106 : decode cX6_number 106 = .ok (.iload_n 3, 1) := by decide +kernel
theorem dX6_number_107 : decode cX6_number 107 = .ok (.imul, 1) := by decide +kernel
theorem dX6_number_108 : decode cX6_number 108 = .ok (.aload_n 0, 1) := by decide +kernel
theorem dX6_number_109 : decode cX6_number 109 = .ok (.getfield 22, 3) := by decide +kernel
theorem dX6_number_112 : decode cX6_number 112 = .ok (.aload_n 0, 1) := by decide +kernel
theorem dX6_number_113 : decode cX6_number 113 = .ok (.getfield 157, 3) := by decide +kernel
theorem dX6_number_116 : decode cX6_number 116 = .ok (.iaload, 1) := by decide +kernel
theorem dX6_number_117 : decode cX6_number 117 = .ok (.iadd, 1) := by decide +kernel
theorem dX6_number_118 : decode cX6_number 118 = .ok (.bipush 48, 2) := by decide +kernel
theorem dX6_number_120 : decode cX6_number 120 = .ok (.isub, 1) := by decide +kernel
theorem dX6_number_121 : decode cX6_number 121 = .ok (.iload_n 2, 1) := by decide +kernel
theorem dX6_number_122 : decode cX6_number 122 = .ok (.if_icmp .gt 34, 3) := by decide +kernel
theorem dX6_number_125 : decode cX6_number 125 = .ok (.bipush 10, 2) := by decide +kernel
theorem dX6_number_127 : decode cX6_number 127 = .ok (.iload_n 3, 1) := by decide +kernel
theorem dX6_number_128 : decode cX6_number 128 = .ok (.imul, 1) := by decide +kernel
theorem dX6_number_129 : decode cX6_number 129 = .ok (.aload_n 0, 1) := by decide +kernel
theorem dX6_number_130 : decode cX6_number 130 = .ok (.getfield 22, 3) := by decide +kernel
theorem dX6_number_133 : decode cX6_number 133 = .ok (.aload_n 0, 1) := by decide +kernel
theorem dX6_number_134 : decode cX6_number 134 = .ok (.getfield 157, 3) := by decide +kernel
theorem dX6_number_137 : decode cX6_number 137 = .ok (.iaload, 1) := by decide +kernel
theorem dX6_number_138 : decode cX6_number 138 = .ok (.iadd, 1) := by decide +kernel
theorem dX6_number_139 : decode cX6_number 139 = .ok (.bipush 48, 2) := by decide +kernel
theorem dX6_number_141 : decode cX6_number 141 = .ok (.isub, 1) := by decide +kernel
theorem dX6_number_142 : decode cX6_number 142 = .ok (.istore_n 3, 1) := by decide +kernel
theorem dX6_number_143 : decode cX6_number 143 = .ok (.aload_n 0, 1) := by decide +kernel
theorem dX6_number_144 : decode cX6_number 144 = .ok (.dup, 1) := by decide +kernel
theorem dX6_number_145 : decode cX6_number 145 = .ok (.getfield 157, 3) := by decide +kernel
theorem dX6_number_148 : decode cX6_number 148 = .ok (.iconst 1, 1) := by decide +kernel
theorem dX6_number_149 : decode cX6_number 149 = .ok (.iadd, 1) := by decide +kernel
theorem dX6_number_150 : decode cX6_number 150 = .ok (.putfield 157, 3) := by decide +kernel
theorem dX6_number_153 : decode cX6_number 153 = .ok (.goto (-60), 3) := by decide +kernel
theorem dX6_number_156 : decode cX6_number 156 = .ok (.iload_n 3, 1) := by decide +kernel
theorem dX6_number_157 : decode cX6_number 157 = .ok (.ireturn, 1) := by decide +kernel
theorem dX6_order_0 : decode cX6_order 0 = .ok (.aload_n 0, 1) := by decide +kernel
theorem dX6_order_1 : decode cX6_order 1 = .ok (.aload_n 0, 1) := by decide +kernel
theorem dX6_order_2 : decode cX6_order 2 = .ok (.getfield 157, 3) := by decide +kernel
theorem dX6_order_5 : decode cX6_order 5 = .ok (.aload_n 0, 1) := by decide +kernel
theorem dX6_order_6 : decode cX6_order 6 = .ok (.getfield 150, 3) := by decide +kernel
theorem dX6_order_9 : decode cX6_order 9 = .ok (.if_icmp .ge 15, 3) := by decide +kernel
theorem dX6_order_12 : decode cX6_order 12 = .ok (.aload_n 0, 1) := by decide +kernel
theorem dX6_order_13 : decode cX6_order 13 = .ok (.getfield 22, 3) := by decide +kernel
theorem dX6_order_16 : decode cX6_order 16 = .ok (.aload_n 0, 1) := by decide +kernel
theorem dX6_order_17 : decode cX6_order 17 = .ok (.getfield 157, 3) := by decide +kernel
theorem dX6_order_20 : decode cX6_order 20 = .ok (.iaload, 1) := by decide +kernel
theorem dX6_order_21 : decode cX6_order 21 = .ok (.goto 4, 3) := by decide +kernel
theorem dX6_order_24 : decode cX6_order 24 = .ok (.iconst 0, 1) := by decide +kernel
theorem dX6_order_25 : decode cX6_order 25 = .ok (.putfield 167, 3) := by decide +kernel
theorem dX6_order_28 : decode cX6_order 28 = .ok (.aload_n 0, 1) := by decide +kernel
theorem dX6_order_29 : decode cX6_order 29 = .ok (.bipush (-5), 2) := by decide +kernel
theorem dX6_order_31 : decode cX6_order 31 = .ok (.putfield 170, 3) := by decide +kernel
theorem dX6_order_34 : decode cX6_order 34 = .ok (.aload_n 0, 1) := by decide +kernel
theorem dX6_order_35 : decode cX6_order 35 = .ok (.getfield 167, 3) := by decide +kernel
theorem dX6_order_38 : decode cX6_order 38 = .ok (.bipush 114, 2) := by decide +kernel
theorem dX6_order_40 : decode cX6_order 40 = .ok (.if_icmp .ne 33, 3) := by decide +kernel
theorem dX6_order_43 : decode cX6_order 43 = .ok (.aload_n 0, 1) := by decide +kernel
theorem dX6_order_44 : decode cX6_order 44 = .ok (.bipush 114, 2) := by decide +kernel
theorem dX6_order_46 : decode cX6_order 46 = .ok (.invokevirtual 160, 3) := by decide +kernel
theorem dX6_order_49 : decode cX6_order 49 = .ok (.aload_n 0, 1) := by decide +kernel
theorem dX6_order_50 : decode cX6_order 50 = .ok (.bipush 117, 2) := by decide +kernel
theorem dX6_order_52 : decode cX6_order 52 = .ok (.invokevirtual 160, 3) := by decide +kernel
theorem dX6_order_55 : decode cX6_order 55 = .ok (.aload_n 0, 1) := by decide +kernel
theorem dX6_order_56 : decode cX6_order 56 = .ok (.bipush 110, 2) := by decide +kernel
theorem dX6_order_58 : decode cX6_order 58 = .ok (.invokevirtual 160, 3) := by decide +kernel
theorem dX6_order_61 : decode cX6_order 61 = .ok (.aload_n 0, 1) := by decide +kernel
theorem dX6_order_62 : decode cX6_order 62 = .ok (.aload_n 0, 1) := by decide +kernel
theorem dX6_order_63 : decode cX6_order 63 = .ok (.iconst 1, 1) := by decide +kernel
theorem dX6_order_64 : decode cX6_order 64 = .ok (.bipush 99, 2) := by decide +kernel
theorem dX6_order_66 : decode cX6_order 66 = .ok (.invokevirtual 173, 3) := by decide +kernel
theorem dX6_order_69 : decode cX6_order 69 = .ok (.putfield 176, 3) := by decide +kernel
theorem dX6_order_72 : decode cX6_order 72 = .ok (.return_, 1) := by decide +kernel
theorem dX6_order_73 : decode cX6_order 73 = .ok (.aload_n 0, 1) := by decide +kernel
theorem dX6_order_74 : decode cX6_order 74 = .ok (.aload_n 0, 1) := by decide +kernel
theorem dX6_order_75 : decode cX6_order 75 = .ok (.getfield 167, 3) := by decide +kernel
theorem dX6_order_78 : decode cX6_order 78 = .ok (.bipush 104, 2) := by decide +kernel
theorem dX6_order_80 : decode cX6_order 80 = .ok (.if_icmp .ne 8, 3) := by decide +kernel
theorem dX6_order_83 : decode cX6_order 83 = .ok (.bipush 104, 2) := by decide +kernel
theorem dX6_order_85 : decode cX6_order 85 = .ok (.goto 5, 3) := by decide +kernel
theorem dX6_order_88 : decode cX6_order 88 = .ok (.bipush 115, 2) := by decide +kernel
theorem dX6_order_90 : decode cX6_order 90 = .ok (.invokevirtual 160, 3) := by decide +kernel
end
section
theorem dX6_order_93 : decode cX6_order 93 = .ok (.aload_n 0, 1) := by decide +kernel
theorem dX6_order_94 : decode cX6_order 94 = .ok (.getfield 167, 3) := by decide +kernel
theorem dX6_order_97 : decode cX6_order 97 = .ok (.bipush 104, 2) := by decide +kernel
theorem dX6_order_99 : decode cX6_order 99 = .ok (.if_icmp .ne 124, 3) := by decide +kernel
theorem dX6_order_102 : decode cX6_order 102 = .ok (.aload_n 0, 1) := by decide +kernel
theorem dX6_order_103 : decode cX6_order 103 = .ok (.aload_n 0, 1) := by decide +kernel
theorem dX6_order_104 : decode cX6_order 104 = .ok (.bipush 111, 2) := by decide +kernel
theorem dX6_order_106 : decode cX6_order 106 = .ok (.invokevirtual 179, 3) := by decide +kernel
theorem dX6_order_109 : decode cX6_order 109 = .ok (.ifCond .eq 8, 3) := by decide +kernel
theorem dX6_order_112 : decode cX6_order 112 = .ok (.bipush 111, 2) := by decide +kernel
theorem dX6_order_114 : decode cX6_order 114 = .ok (.goto 5, 3) := by decide +kernel
theorem dX6_order_117 : decode cX6_order 117 = .ok (.bipush 104, 2) := by decide +kernel
theorem dX6_order_119 : decode cX6_order 119 = .ok (.putfield 167, 3) := by decide +kernel
theorem dX6_order_122 : decode cX6_order 122 = .ok (.aload_n 0, 1) := by decide +kernel
theorem dX6_order_123 : decode cX6_order 123 = .ok (.aload_n 0, 1) := by decide +kernel
theorem dX6_order_124 : decode cX6_order 124 = .ok (.getfield 167, 3) := by decide +kernel
theorem dX6_order_127 : decode cX6_order 127 = .ok (.bipush 111, 2) := by decide +kernel
theorem dX6_order_129 : decode cX6_order 129 = .ok (.if_icmp .ne 8, 3) := by decide +kernel
theorem dX6_order_132 : decode cX6_order 132 = .ok (.bipush 111, 2) := by decide +kernel
theorem dX6_order_134 : decode cX6_order 134 = .ok (.goto 5, 3) := by decide +kernel
theorem dX6_order_137 : decode cX6_order 137 = .ok (.bipush 101, 2) := by decide +kernel
theorem dX6_order_139 : decode cX6_order 139 = .ok (.invokevirtual 160, 3) := by decide +kernel
theorem dX6_order_142 : decode cX6_order 142 = .ok (.aload_n 0, 1) := by decide +kernel
theorem dX6_order_143 : decode cX6_order 143 = .ok (.aload_n 0, 1) := by decide +kernel
theorem dX6_order_144 : decode cX6_order 144 = .ok (.getfield 167, 3) := by decide +kernel
theorem dX6_order_147 : decode cX6_order 147 = .ok (.bipush 111, 2) := by decide +kernel
theorem dX6_order_149 : decode cX6_order 149 = .ok (.if_icmp .ne 8, 3) := by decide +kernel
theorem dX6_order_152 : decode cX6_order 152 = .ok (.bipush 108, 2) := by decide +kernel
theorem dX6_order_154 : decode cX6_order 154 = .ok (.goto 5, 3) := by decide +kernel
theorem dX6_order_157 : decode cX6_order 157 = .ok (.bipush 97, 2) := by decide +kernel
theorem dX6_order_159 : decode cX6_order 159 = .ok (.invokevirtual 160, 3) := by decide +kernel
theorem dX6_order_162 : decode cX6_order 162 = .ok (.aload_n 0, 1) := by decide +kernel
theorem dX6_order_163 : decode cX6_order 163 = .ok (.aload_n 0, 1) := by decide +kernel
theorem dX6_order_164 : decode cX6_order 164 = .ok (.getfield 167, 3) := by decide +kernel
theorem dX6_order_167 : decode cX6_order 167 = .ok (.bipush 111, 2) := by decide +kernel
theorem dX6_order_169 : decode cX6_order 169 = .ok (.if_icmp .ne 8, 3) := by decide +kernel
theorem dX6_order_172 : decode cX6_order 172 = .ok (.bipush 100, 2) := by decide +kernel
theorem dX6_order_174 : decode cX6_order 174 = .ok (.goto 5, 3) := by decide +kernel
theorem dX6_order_177 : decode cX6_order 177 = .ok (.bipush 114, 2) := by decide +kernel
theorem dX6_order_179 : decode cX6_order 179 = .ok (.invokevirtual 160, 3) := by decide +kernel
theorem dX6_order_182 : decode cX6_order 182 = .ok (.aload_n 0, 1) := by decide +kernel
theorem dX6_order_183 : decode cX6_order 183 = .ok (.aload_n 0, 1) := by decide +kernel
theorem dX6_order_184 : decode cX6_order 184 = .ok (.iconst 0, 1) := by decide +kernel
theorem dX6_order_185 : decode cX6_order 185 = .ok (.iconst 3, 1) := by decide +kernel
theorem dX6_order_186 : decode cX6_order 186 = .ok (.invokevirtual 173, 3) := by decide +kernel
theorem dX6_order_189 : decode cX6_order 189 = .ok (.putfield 176, 3) := by decide +kernel
theorem dX6_order_192 : decode cX6_order 192 = .ok (.aload_n 0, 1) := by decide +kernel
theorem dX6_order_193 : decode cX6_order 193 = .ok (.aload_n 0, 1) := by decide +kernel
theorem dX6_order_194 : decode cX6_order 194 = .ok (.getfield 167, 3) := by decide +kernel
theorem dX6_order_197 : decode cX6_order 197 = .ok (.bipush 111, 2) := by decide +kernel
theorem dX6_order_199 : decode cX6_order 199 = .ok (.if_icmp .ne 13, 3) := by decide +kernel
theorem dX6_order_202 : decode cX6_order 202 = .ok (.aload_n 0, 1) := by decide +kernel
theorem dX6_order_203 : decode cX6_order 203 = .ok (.iconst 0, 1) := by decide +kernel
theorem dX6_order_204 : decode cX6_order 204 = .ok (.bipush 9, 2) := by decide +kernel
theorem dX6_order_206 : decode cX6_order 206 = .ok (.invokevirtual 173, 3) := by decide +kernel
theorem dX6_order_209 : decode cX6_order 209 = .ok (.goto 10, 3) := by decide +kernel
theorem dX6_order_212 : decode cX6_order 212 = .ok (.aload_n 0, 1) := by decide +kernel
theorem dX6_order_213 : decode cX6_order 213 = .ok (.iconst 0, 1) := by decide +kernel
theorem dX6_order_214 : decode cX6_order 214 = .ok (.bipush 127, 2) := by decide +kernel
theorem dX6_order_216 : decode cX6_order 216 = .ok (.invokevirtual 173, 3) := by decide +kernel
theorem dX6_order_219 : decode cX6_order 219 = .ok (.putfield 182, 3) := by decide +kernel
theorem dX6_order_222 : decode cX6_order 222 = .ok (.return_, 1) := by decide +kernel
theorem dX6_order_223 : decode cX6_order 223 = .ok (.aload_n 0, 1) := by decide +kernel
theorem dX6_order_224 : decode cX6_order 224 = .ok (.aload_n 0, 1) := by decide +kernel
theorem dX6_order_225 : decode cX6_order 225 = .ok (.bipush 116, 2) := by decide +kernel
theorem dX6_order_227 : decode cX6_order 227 = .ok (.invokevirtual 179, 3) := by decide +kernel
theorem dX6_order_230 : decode cX6_order 230 = .ok (.ifCond .eq 8, 3) := by decide +kernel
theorem dX6_order_233 : decode cX6_order 233 = .ok (.bipush 116, 2) := by decide +kernel
theorem dX6_order_235 : decode cX6_order 235 = .ok (.goto 5, 3) := by decide +kernel
theorem dX6_order_238 : decode cX6_order 238 = .ok (.bipush 115, 2) := by decide +kernel
theorem dX6_order_240 : decode cX6_order 240 = .ok (.putfield 167, 3) := by decide +kernel
theorem dX6_order_243 : decode cX6_order 243 = .ok (.aload_n 0, 1) := by decide +kernel
theorem dX6_order_244 : decode cX6_order 244 = .ok (.getfield 167, 3) := by decide +kernel
theorem dX6_order_247 : decode cX6_order 247 = .ok (.bipush 116, 2) := by decide +kernel
theorem dX6_order_249 : decode cX6_order 249 = .ok (.if_icmp .ne 49, 3) := by decide +kernel
theorem dX6_order_252 : decode cX6_order 252 = .ok (.aload_n 0, 1) := by decide +kernel
theorem dX6_order_253 : decode cX6_order 253 = .ok (.bipush 116, 2) := by decide +kernel
theorem dX6_order_255 : decode cX6_order 255 = .ok (.invokevirtual 160, 3) := by decide +kernel
theorem dX6_order_258 : decode cX6_order 258 = .ok (.aload_n 0, 1) := by decide +kernel
theorem dX6_order_259 : decode cX6_order 259 = .ok (.bipush 105, 2) := by decide +kernel
theorem dX6_order_261 : decode cX6_order 261 = .ok (.invokevirtual 160, 3) := by decide +kernel
theorem dX6_order_264 : decode cX6_order 264 = .ok (.aload_n 0, 1) := by decide +kernel
theorem dX6_order_265 : decode cX6_order 265 = .ok (.bipush 99, 2) := by decide +kernel
theorem dX6_order_267 : decode cX6_order 267 = .ok (.invokevirtual 160, 3) := by decide +kernel
theorem dX6_order_270 : decode cX6_order 270 = .ok (.aload_n 0, 1) := by decide +kernel
theorem dX6_order_271 : decode cX6_order 271 = .ok (.bipush 107, 2) := by decide +kernel
theorem dX6_order_273 : decode cX6_order 273 = .ok (.invokevirtual 160, 3) := by decide +kernel
theorem dX6_order_276 : decode cX6_order 276 = .ok (.aload_n 0, 1) := by decide +kernel
theorem dX6_order_277 : decode cX6_order 277 = .ok (.aload_n 0, 1) := by decide +kernel
theorem dX6_order_278 : decode cX6_order 278 = .ok (.iconst 0, 1) := by decide +kernel
theorem dX6_order_279 : decode cX6_order 279 = .ok (.iconst 3, 1) := by decide +kernel
theorem dX6_order_280 : decode cX6_order 280 = .ok (.invokevirtual 173, 3) := by decide +kernel
theorem dX6_order_283 : decode cX6_order 283 = .ok (.putfield 176, 3) := by decide +kernel
theorem dX6_order_286 : decode cX6_order 286 = .ok (.aload_n 0, 1) := by decide +kernel
theorem dX6_order_287 : decode cX6_order 287 = .ok (.aload_n 0, 1) := by decide +kernel
theorem dX6_order_288 : decode cX6_order 288 = .ok (.iconst 1, 1) := by decide +kernel
theorem dX6_order_289 : decode cX6_order 289 = .ok (.bipush 99, 2) := by decide +kernel
theorem dX6_order_291 : decode cX6_order 291 = .ok (.invokevirtual 173, 3) := by decide +kernel
theorem dX6_order_294 : decode cX6_order 294 = .ok (.putfield 182, 3) := by decide +kernel
theorem dX6_order_297 : decode cX6_order 297 = .ok (.return_, 1) := by decide +kernel
theorem dX6_order_298 : decode cX6_order 298 = .ok (.aload_n 0, 1) := by decide +kernel
theorem dX6_order_299 : decode cX6_order 299 = .ok (.bipush 97, 2) := by decide +kernel
theorem dX6_order_301 : decode cX6_order 301 = .ok (.invokevirtual 160, 3) := by decide +kernel
theorem dX6_order_304 : decode cX6_order 304 = .ok (.aload_n 0, 1) := by decide +kernel
theorem dX6_order_305 : decode cX6_order 305 = .ok (.bipush 121, 2) := by decide +kernel
theorem dX6_order_307 : decode cX6_order 307 = .ok (.invokevirtual 160, 3) := by decide +kernel
theorem dX6_order_310 : decode cX6_order 310 = .ok (.aload_n 0, 1) := by decide +kernel
theorem dX6_order_311 : decode cX6_order 311 = .ok (.aload_n 0, 1) := by decide +kernel
theorem dX6_order_312 : decode cX6_order 312 = .ok (.iconst 0, 1) := by decide +kernel
theorem dX6_order_313 : decode cX6_order 313 = .ok (.iconst 3, 1) := by decide +kernel
theorem dX6_order_314 : decode cX6_order 314 = .ok (.invokevirtual 173, 3) := by decide +kernel
theorem dX6_order_317 : decode cX6_order 317 = .ok (.putfield 176, 3) := by decide +kernel
theorem dX6_order_320 : decode cX6_order 320 = .ok (.aload_n 0, 1) := by decide +kernel
theorem dX6_order_321 : decode cX6_order 321 = .ok (.aload_n 0, 1) := by decide +kernel
theorem dX6_order_322 : decode cX6_order 322 = .ok (.iconst 0, 1) := by decide +kernel
theorem dX6_order_323 : decode cX6_order 323 = .ok (.bipush 127, 2) := by decide +kernel
theorem dX6_order_325 : decode cX6_order 325 = .ok (.invokevirtual 173, 3) := by decide +kernel
theorem dX6_order_328 : decode cX6_order 328 = .ok (.putfield 182, 3) := by decide +kernel
theorem dX6_order_331 : decode cX6_order 331 = .ok (.aload_n 0, 1) := by decide +kernel
theorem dX6_order_332 : decode cX6_order 332 = .ok (.aload_n 0, 1) := by decide +kernel
theorem dX6_order_333 : decode cX6_order 333 = .ok (.iconst 0, 1) := by decide +kernel
theorem dX6_order_334 : decode cX6_order 334 = .ok (.sipush 255, 3) := by decide +kernel
theorem dX6_order_337 : decode cX6_order 337 = .ok (.invokevirtual 173, 3) := by decide +kernel
theorem dX6_order_340 : decode cX6_order 340 = .ok (.putfield 185, 3) := by decide +kernel
theorem dX6_order_343 : decode cX6_order 343 = .ok (.aload_n 0, 1) := by decide +kernel
theorem dX6_order_344 : decode cX6_order 344 = .ok (.aload_n 0, 1) := by decide +kernel
theorem dX6_order_345 : decode cX6_order 345 = .ok (.bipush 32, 2) := by decide +kernel
theorem dX6_order_347 : decode cX6_order 347 = .ok (.invokevirtual 179, 3) := by decide +kernel
theorem dX6_order_350 : decode cX6_order 350 = .ok (.ifCond .eq 14, 3) := by decide +kernel
theorem dX6_order_353 : decode cX6_order 353 = .ok (.aload_n 0, 1) := by decide +kernel
theorem dX6_order_354 : decode cX6_order 354 = .ok (.iconst 0, 1) := by decide +kernel
theorem dX6_order_355 : decode cX6_order 355 = .ok (.sipush 255, 3) := by decide +kernel
theorem dX6_order_358 : decode cX6_order 358 = .ok (.invokevirtual 173, 3) := by decide +kernel
theorem dX6_order_361 : decode cX6_order 361 = .ok (.goto 5, 3) := by decide +kernel
theorem dX6_order_364 : decode cX6_order 364 = .ok (.bipush (-5), 2) := by decide +kernel
theorem dX6_order_366 : decode cX6_order 366 = .ok (.putfield 170, 3) := by decide +kernel
theorem dX6_order_369 : decode cX6_order 369 = .ok (.return_, 1) := by decide +kernel
theorem dX6_does_0 : decode cX6_does 0 = .ok (.aload_n 0, 1) := by decide +kernel
theorem dX6_does_1 : decode cX6_does 1 = .ok (.getfield 167, 3) := by decide +kernel
theorem dX6_does_4 : decode cX6_does 4 = .ok (.lookupswitch 92 #[(104, 53), (111, 66), (114, 44), (116, 79)], 44) := by decide +kernel
theorem dX6_does_48 : decode cX6_does 48 = .ok (.aload_n 0, 1) := by decide +kernel
theorem dX6_does_49 : decode cX6_does 49 = .ok (.aload_n 0, 1) := by decide +kernel
theorem dX6_does_50 : decode cX6_does 50 = .ok (.getfield 176, 3) := by decide +kernel
theorem dX6_does_53 : decode cX6_does 53 = .ok (.invokevirtual 147, 3) := by decide +kernel
theorem dX6_does_56 : decode cX6_does 56 = .ok (.ireturn, 1) := by decide +kernel
theorem dX6_does_57 : decode cX6_does 57 = .ok (.aload_n 0, 1) := by decide +kernel
theorem dX6_does_58 : decode cX6_does 58 = .ok (.aload_n 0, 1) := by decide +kernel
theorem dX6_does_59 : decode cX6_does 59 = .ok (.getfield 176, 3) := by decide +kernel
theorem dX6_does_62 : decode cX6_does 62 = .ok (.aload_n 0, 1) := by decide +kernel
theorem dX6_does_63 : decode cX6_does 63 = .ok (.getfield 182, 3) := by decide +kernel
theorem dX6_does_66 : decode cX6_does 66 = .ok (.invokevirtual 135, 3) := by decide +kernel
theorem dX6_does_69 : decode cX6_does 69 = .ok (.ireturn, 1) := by decide +kernel
theorem dX6_does_70 : decode cX6_does 70 = .ok (.aload_n 0, 1) := by decide +kernel
theorem dX6_does_71 : decode cX6_does 71 = .ok (.aload_n 0, 1) := by decide +kernel
theorem dX6_does_72 : decode cX6_does 72 = .ok (.getfield 176, 3) := by decide +kernel
theorem dX6_does_75 : decode cX6_does 75 = .ok (.aload_n 0, 1) := by decide +kernel
theorem dX6_does_76 : decode cX6_does 76 = .ok (.getfield 182, 3) := by decide +kernel
theorem dX6_does_79 : decode cX6_does 79 = .ok (.invokevirtual 138, 3) := by decide +kernel
theorem dX6_does_82 : decode cX6_does 82 = .ok (.ireturn, 1) := by decide +kernel
theorem dX6_does_83 : decode cX6_does 83 = .ok (.aload_n 0, 1) := by decide +kernel
theorem dX6_does_84 : decode cX6_does 84 = .ok (.aload_n 0, 1) := by decide +kernel
theorem dX6_does_85 : decode cX6_does 85 = .ok (.getfield 176, 3) := by decide +kernel
theorem dX6_does_88 : decode cX6_does 88 = .ok (.aload_n 0, 1) := by decide +kernel
theorem dX6_does_89 : decode cX6_does 89 = .ok (.getfield 182, 3) := by decide +kernel
theorem dX6_does_92 : decode cX6_does 92 = .ok (.invokevirtual 141, 3) := by decide +kernel
theorem dX6_does_95 : decode cX6_does 95 = .ok (.ireturn, 1) := by decide +kernel
theorem dX6_does_96 : decode cX6_does 96 = .ok (.aload_n 0, 1) := by decide +kernel
theorem dX6_does_97 : decode cX6_does 97 = .ok (.aload_n 0, 1) := by decide +kernel
theorem dX6_does_98 : decode cX6_does 98 = .ok (.getfield 176, 3) := by decide +kernel
theorem dX6_does_101 : decode cX6_does 101 = .ok (.aload_n 0, 1) := by decide +kernel
theorem dX6_does_102 : decode cX6_does 102 = .ok (.getfield 182, 3) := by decide +kernel
theorem dX6_does_105 : decode cX6_does 105 = .ok (.aload_n 0, 1) := by decide +kernel
theorem dX6_does_106 : decode cX6_does 106 = .ok (.getfield 185, 3) := by decide +kernel
theorem dX6_does_109 : decode cX6_does 109 = .ok (.aload_n 0, 1) := by decide +kernel
theorem dX6_does_110 : decode cX6_does 110 = .ok (.getfield 170, 3) := by decide +kernel
theorem dX6_does_113 : decode cX6_does 113 = .ok (.invokevirtual 125, 3) := by decide +kernel
theorem dX6_does_116 : decode cX6_does 116 = .ok (.ireturn, 1) := by decide +kernel
theorem dX6_go_0 : decode cX6_go 0 = .ok (.aload_n 0, 1) := by decide +kernel
theorem dX6_go_1 : decode cX6_go 1 = .ok (.iconst 0, 1) := by decide +kernel
theorem dX6_go_2 : decode cX6_go 2 = .ok (.putfield 157, 3) := by decide +kernel
theorem dX6_go_5 : decode cX6_go 5 = .ok (.aload_n 0, 1) := by decide +kernel
theorem dX6_go_6 : decode cX6_go 6 = .ok (.iconst 0, 1) := by decide +kernel
theorem dX6_go_7 : decode cX6_go 7 = .ok (.putfield 153, 3) := by decide +kernel
theorem dX6_go_10 : decode cX6_go 10 = .ok (.iconst 0, 1) := by decide +kernel
theorem dX6_go_11 : decode cX6_go 11 = .ok (.istore_n 2, 1) := by decide +kernel
theorem dX6_go_12 : decode cX6_go 12 = .ok (.iconst 1, 1) := by decide +kernel
theorem dX6_go_13 : decode cX6_go 13 = .ok (.istore_n 3, 1) := by decide +kernel
theorem dX6_go_14 : decode cX6_go 14 = .ok (.iload_n 3, 1) := by decide +kernel
theorem dX6_go_15 : decode cX6_go 15 = .ok (.ifCond .eq 112, 3) := by decide +kernel
theorem dX6_go_18 : decode cX6_go 18 = .ok (.aload_n 0, 1) := by decide +kernel
theorem dX6_go_19 : decode cX6_go 19 = .ok (.invokevirtual 188, 3) := by decide +kernel
theorem dX6_go_22 : decode cX6_go 22 = .ok (.iload_n 1, 1) := by decide +kernel
theorem dX6_go_23 : decode cX6_go 23 = .ok (.ifCond .eq 10, 3) := by decide +kernel
theorem dX6_go_26 : decode cX6_go 26 = .ok (.aload_n 0, 1) := by decide +kernel
theorem dX6_go_27 : decode cX6_go 27 = .ok (.invokevirtual 191, 3) := by decide +kernel
theorem dX6_go_30 : decode cX6_go 30 = .ok (.goto 4, 3) := by decide +kernel
theorem dX6_go_33 : decode cX6_go 33 = .ok (.iconst 0, 1) := by decide +kernel
theorem dX6_go_34 : decode cX6_go 34 = .ok (.istore 4, 2) := by decide +kernel
theorem dX6_go_36 : decode cX6_go 36 = .ok (.iload 4, 2) := by decide +kernel
theorem dX6_go_38 : decode cX6_go 38 = .ok (.ifCond .ge 14, 3) := by decide +kernel
theorem dX6_go_41 : decode cX6_go 41 = .ok (.iload 4, 2) := by decide +kernel
theorem dX6_go_43 : decode cX6_go 43 = .ok (.bipush (-5), 2) := by decide +kernel
theorem dX6_go_45 : decode cX6_go 45 = .ok (.if_icmp .eq 7, 3) := by decide +kernel
theorem dX6_go_48 : decode cX6_go 48 = .ok (.iconst 1, 1) := by decide +kernel
theorem dX6_go_49 : decode cX6_go 49 = .ok (.goto 4, 3) := by decide +kernel
theorem dX6_go_52 : decode cX6_go 52 = .ok (.iconst 0, 1) := by decide +kernel
theorem dX6_go_53 : decode cX6_go 53 = .ok (.istore 5, 2) := by decide +kernel
theorem dX6_go_55 : decode cX6_go 55 = .ok (.iload 5, 2) := by decide +kernel
theorem dX6_go_57 : decode cX6_go 57 = .ok (.ifCond .eq 17, 3) := by decide +kernel
theorem dX6_go_60 : decode cX6_go 60 = .ok (.aload_n 0, 1) := by decide +kernel
theorem dX6_go_61 : decode cX6_go 61 = .ok (.iload_n 2, 1) := by decide +kernel
theorem dX6_go_62 : decode cX6_go 62 = .ok (.putfield 25, 3) := by decide +kernel
theorem dX6_go_65 : decode cX6_go 65 = .ok (.aload_n 0, 1) := by decide +kernel
theorem dX6_go_66 : decode cX6_go 66 = .ok (.iload 4, 2) := by decide +kernel
theorem dX6_go_68 : decode cX6_go 68 = .ok (.putfield 194, 3) := by decide +kernel
theorem dX6_go_71 : decode cX6_go 71 = .ok (.bipush (-4), 2) := by decide +kernel
theorem dX6_go_73 : decode cX6_go 73 = .ok (.ireturn, 1) := by decide +kernel
theorem dX6_go_74 : decode cX6_go 74 = .ok (.iinc 2 1, 3) := by decide +kernel
theorem dX6_go_77 : decode cX6_go 77 = .ok (.aload_n 0, 1) := by decide +kernel
theorem dX6_go_78 : decode cX6_go 78 = .ok (.getfield 153, 3) := by decide +kernel
theorem dX6_go_81 : decode cX6_go 81 = .ok (.ifCond .ne 18, 3) := by decide +kernel
theorem dX6_go_84 : decode cX6_go 84 = .ok (.aload_n 0, 1) := by decide +kernel
theorem dX6_go_85 : decode cX6_go 85 = .ok (.getfield 157, 3) := by decide +kernel
theorem dX6_go_88 : decode cX6_go 88 = .ok (.aload_n 0, 1) := by decide +kernel
theorem dX6_go_89 : decode cX6_go 89 = .ok (.getfield 150, 3) := by decide +kernel
theorem dX6_go_92 : decode cX6_go 92 = .ok (.if_icmp .ge 7, 3) := by decide +kernel
theorem dX6_go_95 : decode cX6_go 95 = .ok (.iconst 1, 1) := by decide +kernel
theorem dX6_go_96 : decode cX6_go 96 = .ok (.goto 4, 3) := by decide +kernel
theorem dX6_go_99 : decode cX6_go 99 = .ok (.iconst 0, 1) := by decide +kernel
theorem dX6_go_100 : decode cX6_go 100 = .ok (.istore_n 3, 1) := by decide +kernel
theorem dX6_go_101 : decode cX6_go 101 = .ok (.iload_n 3, 1) := by decide +kernel
theorem dX6_go_102 : decode cX6_go 102 = .ok (.ifCond .eq 22, 3) := by decide +kernel
theorem dX6_go_105 : decode cX6_go 105 = .ok (.aload_n 0, 1) := by decide +kernel
theorem dX6_go_106 : decode cX6_go 106 = .ok (.bipush 59, 2) := by decide +kernel
theorem dX6_go_108 : decode cX6_go 108 = .ok (.invokevirtual 160, 3) := by decide +kernel
theorem dX6_go_111 : decode cX6_go 111 = .ok (.aload_n 0, 1) := by decide +kernel
theorem dX6_go_112 : decode cX6_go 112 = .ok (.getfield 153, 3) := by decide +kernel
theorem dX6_go_115 : decode cX6_go 115 = .ok (.ifCond .ne 7, 3) := by decide +kernel
theorem dX6_go_118 : decode cX6_go 118 = .ok (.iconst 1, 1) := by decide +kernel
theorem dX6_go_119 : decode cX6_go 119 = .ok (.goto 4, 3) := by decide +kernel
theorem dX6_go_122 : decode cX6_go 122 = .ok (.iconst 0, 1) := by decide +kernel
theorem dX6_go_123 : decode cX6_go 123 = .ok (.istore_n 3, 1) := by decide +kernel
theorem dX6_go_124 : decode cX6_go 124 = .ok (.goto (-110), 3) := by decide +kernel
theorem dX6_go_127 : decode cX6_go 127 = .ok (.iload_n 2, 1) := by decide +kernel
theorem dX6_go_128 : decode cX6_go 128 = .ok (.ireturn, 1) := by decide +kernel
theorem dX6_perform_0 : decode cX6_perform 0 = .ok (.aload_n 0, 1) := by decide +kernel
theorem dX6_perform_1 : decode cX6_perform 1 = .ok (.iconst 0, 1) := by decide +kernel
theorem dX6_perform_2 : decode cX6_perform 2 = .ok (.invokevirtual 197, 3) := by decide +kernel
theorem dX6_perform_5 : decode cX6_perform 5 = .ok (.istore_n 1, 1) := by decide +kernel
theorem dX6_perform_6 : decode cX6_perform 6 = .ok (.aload_n 0, 1) := by decide +kernel
theorem dX6_perform_7 : decode cX6_perform 7 = .ok (.getfield 153, 3) := by decide +kernel
theorem dX6_perform_10 : decode cX6_perform 10 = .ok (.ifCond .eq 11, 3) := by decide +kernel
theorem dX6_perform_13 : decode cX6_perform 13 = .ok (.bipush (-100), 2) := by decide +kernel
theorem dX6_perform_15 : decode cX6_perform 15 = .ok (.aload_n 0, 1) := by decide +kernel
theorem dX6_perform_16 : decode cX6_perform 16 = .ok (.getfield 157, 3) := by decide +kernel
theorem dX6_perform_19 : decode cX6_perform 19 = .ok (.isub, 1) := by decide +kernel
theorem dX6_perform_20 : decode cX6_perform 20 = .ok (.ireturn, 1) := by decide +kernel
theorem dX6_perform_21 : decode cX6_perform 21 = .ok (.aload_n 0, 1) := by decide +kernel
theorem dX6_perform_22 : decode cX6_perform 22 = .ok (.invokevirtual 122, 3) := by decide +kernel
theorem dX6_perform_25 : decode cX6_perform 25 = .ok (.aload_n 0, 1) := by decide +kernel
theorem dX6_perform_26 : decode cX6_perform 26 = .ok (.iconst 1, 1) := by decide +kernel
theorem dX6_perform_27 : decode cX6_perform 27 = .ok (.invokevirtual 197, 3) := by decide +kernel
theorem dX6_perform_30 : decode cX6_perform 30 = .ok (.istore_n 2, 1) := by decide +kernel
theorem dX6_perform_31 : decode cX6_perform 31 = .ok (.iload_n 2, 1) := by decide +kernel
theorem dX6_perform_32 : decode cX6_perform 32 = .ok (.ifCond .ge 7, 3) := by decide +kernel
theorem dX6_perform_35 : decode cX6_perform 35 = .ok (.aload_n 0, 1) := by decide +kernel
theorem dX6_perform_36 : decode cX6_perform 36 = .ok (.invokevirtual 201, 3) := by decide +kernel
theorem dX6_perform_39 : decode cX6_perform 39 = .ok (.aload_n 0, 1) := by decide +kernel
theorem dX6_perform_40 : decode cX6_perform 40 = .ok (.iload_n 2, 1) := by decide +kernel
theorem dX6_perform_41 : decode cX6_perform 41 = .ok (.invokevirtual 129, 3) := by decide +kernel
theorem dX6_perform_44 : decode cX6_perform 44 = .ok (.ireturn, 1) := by decide +kernel
theorem dX6_stopped_0 : decode cX6_stopped 0 = .ok (.iload_n 1, 1) := by decide +kernel
theorem dX6_stopped_1 : decode cX6_stopped 1 = .ok (.iconst 0, 1) := by decide +kernel
theorem dX6_stopped_2 : decode cX6_stopped 2 = .ok (.iconst 1, 1) := by decide +kernel
theorem dX6_stopped_3 : decode cX6_stopped 3 = .ok (.invokestatic 36, 3) := by decide +kernel
theorem dX6_stopped_6 : decode cX6_stopped 6 = .ok (.ifCond .ne 8, 3) := by decide +kernel
theorem dX6_stopped_9 : decode cX6_stopped 9 = .ok (.bipush (-2), 2) := by decide +kernel
theorem dX6_stopped_11 : decode cX6_stopped 11 = .ok (.goto 32, 3) := by decide +kernel
theorem dX6_stopped_14 : decode cX6_stopped 14 = .ok (.aload_n 0, 1) := by decide +kernel
theorem dX6_stopped_15 : decode cX6_stopped 15 = .ok (.getfield 25, 3) := by decide +kernel
theorem dX6_stopped_18 : decode cX6_stopped 18 = .ok (.bipush (-5), 2) := by decide +kernel
theorem dX6_stopped_20 : decode cX6_stopped 20 = .ok (.if_icmp .ne 8, 3) := by decide +kernel
theorem dX6_stopped_23 : decode cX6_stopped 23 = .ok (.bipush (-5), 2) := by decide +kernel
theorem dX6_stopped_25 : decode cX6_stopped 25 = .ok (.goto 18, 3) := by decide +kernel
theorem dX6_stopped_28 : decode cX6_stopped 28 = .ok (.iload_n 1, 1) := by decide +kernel
theorem dX6_stopped_29 : decode cX6_stopped 29 = .ok (.ifCond .ne 10, 3) := by decide +kernel
theorem dX6_stopped_32 : decode cX6_stopped 32 = .ok (.aload_n 0, 1) := by decide +kernel
theorem dX6_stopped_33 : decode cX6_stopped 33 = .ok (.getfield 25, 3) := by decide +kernel
theorem dX6_stopped_36 : decode cX6_stopped 36 = .ok (.goto 7, 3) := by decide +kernel
theorem dX6_stopped_39 : decode cX6_stopped 39 = .ok (.aload_n 0, 1) := by decide +kernel
theorem dX6_stopped_40 : decode cX6_stopped 40 = .ok (.getfield 194, 3) := by decide +kernel
theorem dX6_stopped_43 : decode cX6_stopped 43 = .ok (.ireturn, 1) := by decide +kernel
theorem dX6_undo_0 : decode cX6_undo 0 = .ok (.aload_n 0, 1) := by decide +kernel
theorem dX6_undo_1 : decode cX6_undo 1 = .ok (.getfield 40, 3) := by decide +kernel
theorem dX6_undo_4 : decode cX6_undo 4 = .ok (.ifCond .ne 6, 3) := by decide +kernel
theorem dX6_undo_7 : decode cX6_undo 7 = .ok (.bipush (-5), 2) := by decide +kernel
theorem dX6_undo_9 : decode cX6_undo 9 = .ok (.ireturn, 1) := by decide +kernel
theorem dX6_undo_10 : decode cX6_undo 10 = .ok (.aload_n 0, 1) := by decide +kernel
theorem dX6_undo_11 : decode cX6_undo 11 = .ok (.dup, 1) := by decide +kernel
theorem dX6_undo_12 : decode cX6_undo 12 = .ok (.getfield 40, 3) := by decide +kernel
theorem dX6_undo_15 : decode cX6_undo 15 = .ok (.iconst 1, 1) := by decide +kernel
theorem dX6_undo_16 : decode cX6_undo 16 = .ok (.isub, 1) := by decide +kernel
theorem dX6_undo_17 : decode cX6_undo 17 = .ok (.putfield 40, 3) := by decide +kernel
theorem dX6_undo_20 : decode cX6_undo 20 = .ok (.iconst 0, 1) := by decide +kernel
theorem dX6_undo_21 : decode cX6_undo 21 = .ok (.istore_n 1, 1) := by decide +kernel
theorem dX6_undo_22 : decode cX6_undo 22 = .ok (.iload_n 1, 1) := by decide +kernel
theorem dX6_undo_23 : decode cX6_undo 23 = .ok (.sipush 375, 3) := by decide +kernel
theorem dX6_undo_26 : decode cX6_undo 26 = .ok (.if_icmp .ge 30, 3) := by decide +kernel
theorem dX6_undo_29 : decode cX6_undo 29 = .ok (.aload_n 0, 1) := by decide +kernel
theorem dX6_undo_30 : decode cX6_undo 30 = .ok (.getfield 7, 3) := by decide +kernel
theorem dX6_undo_33 : decode cX6_undo 33 = .ok (.iload_n 1, 1) := by decide +kernel
theorem dX6_undo_34 : decode cX6_undo 34 = .ok (.aload_n 0, 1) := by decide +kernel
theorem dX6_undo_35 : decode cX6_undo 35 = .ok (.getfield 16, 3) := by decide +kernel
theorem dX6_undo_38 : decode cX6_undo 38 = .ok (.sipush 375, 3) := by decide +kernel
theorem dX6_undo_41 : decode cX6_undo 41 = .ok (.aload_n 0, 1) := by decide +kernel
theorem dX6_undo_42 : decode cX6_undo 42 = .ok (.getfield 40, 3) := by decide +kernel
theorem dX6_undo_45 : decode cX6_undo 45 = .ok (.imul, 1) := by decide +kernel
theorem dX6_undo_46 : decode cX6_undo 46 = .ok (.iload_n 1, 1) := by decide +kernel
theorem dX6_undo_47 : decode cX6_undo 47 = .ok (.iadd, 1) := by decide +kernel
theorem dX6_undo_48 : decode cX6_undo 48 = .ok (.iaload, 1) := by decide +kernel
theorem dX6_undo_49 : decode cX6_undo 49 = .ok (.iastore, 1) := by decide +kernel
theorem dX6_undo_50 : decode cX6_undo 50 = .ok (.iinc 1 1, 3) := by decide +kernel
theorem dX6_undo_53 : decode cX6_undo 53 = .ok (.goto (-31), 3) := by decide +kernel
theorem dX6_undo_56 : decode cX6_undo 56 = .ok (.aload_n 0, 1) := by decide +kernel
theorem dX6_undo_57 : decode cX6_undo 57 = .ok (.getfield 40, 3) := by decide +kernel
theorem dX6_undo_60 : decode cX6_undo 60 = .ok (.ireturn, 1) := by decide +kernel
theorem dX6_keep_0 : decode cX6_keep 0 = .ok (.iconst 0, 1) := by decide +kernel
theorem dX6_keep_1 : decode cX6_keep 1 = .ok (.istore_n 1, 1) := by decide +kernel
theorem dX6_keep_2 : decode cX6_keep 2 = .ok (.iload_n 1, 1) := by decide +kernel
theorem dX6_keep_3 : decode cX6_keep 3 = .ok (.sipush 375, 3) := by decide +kernel
theorem dX6_keep_6 : decode cX6_keep 6 = .ok (.if_icmp .ge 21, 3) := by decide +kernel
theorem dX6_keep_9 : decode cX6_keep 9 = .ok (.aload_n 0, 1) := by decide +kernel
theorem dX6_keep_10 : decode cX6_keep 10 = .ok (.getfield 19, 3) := by decide +kernel
theorem dX6_keep_13 : decode cX6_keep 13 = .ok (.iload_n 1, 1) := by decide +kernel
theorem dX6_keep_14 : decode cX6_keep 14 = .ok (.aload_n 0, 1) := by decide +kernel
theorem dX6_keep_15 : decode cX6_keep 15 = .ok (.getfield 7, 3) := by decide +kernel
theorem dX6_keep_18 : decode cX6_keep 18 = .ok (.iload_n 1, 1) := by decide +kernel
theorem dX6_keep_19 : decode cX6_keep 19 = .ok (.iaload, 1) := by decide +kernel
theorem dX6_keep_20 : decode cX6_keep 20 = .ok (.iastore, 1) := by decide +kernel
theorem dX6_keep_21 : decode cX6_keep 21 = .ok (.iinc 1 1, 3) := by decide +kernel
theorem dX6_keep_24 : decode cX6_keep 24 = .ok (.goto (-22), 3) := by decide +kernel
theorem dX6_keep_27 : decode cX6_keep 27 = .ok (.aload_n 0, 1) := by decide +kernel
theorem dX6_keep_28 : decode cX6_keep 28 = .ok (.iconst 1, 1) := by decide +kernel
theorem dX6_keep_29 : decode cX6_keep 29 = .ok (.putfield 204, 3) := by decide +kernel
theorem dX6_keep_32 : decode cX6_keep 32 = .ok (.aload_n 0, 1) := by decide +kernel
theorem dX6_keep_33 : decode cX6_keep 33 = .ok (.getfield 7, 3) := by decide +kernel
theorem dX6_keep_36 : decode cX6_keep 36 = .ok (.iconst 3, 1) := by decide +kernel
theorem dX6_keep_37 : decode cX6_keep 37 = .ok (.iaload, 1) := by decide +kernel
theorem dX6_keep_38 : decode cX6_keep 38 = .ok (.ireturn, 1) := by decide +kernel
theorem dX6_restore_0 : decode cX6_restore 0 = .ok (.aload_n 0, 1) := by decide +kernel
theorem dX6_restore_1 : decode cX6_restore 1 = .ok (.getfield 204, 3) := by decide +kernel
theorem dX6_restore_4 : decode cX6_restore 4 = .ok (.ifCond .ne 6, 3) := by decide +kernel
theorem dX6_restore_7 : decode cX6_restore 7 = .ok (.bipush (-5), 2) := by decide +kernel
theorem dX6_restore_9 : decode cX6_restore 9 = .ok (.ireturn, 1) := by decide +kernel
theorem dX6_restore_10 : decode cX6_restore 10 = .ok (.aload_n 0, 1) := by decide +kernel
theorem dX6_restore_11 : decode cX6_restore 11 = .ok (.invokevirtual 122, 3) := by decide +kernel
theorem dX6_restore_14 : decode cX6_restore 14 = .ok (.iconst 0, 1) := by decide +kernel
theorem dX6_restore_15 : decode cX6_restore 15 = .ok (.istore_n 1, 1) := by decide +kernel
theorem dX6_restore_16 : decode cX6_restore 16 = .ok (.iload_n 1, 1) := by decide +kernel
theorem dX6_restore_17 : decode cX6_restore 17 = .ok (.sipush 375, 3) := by decide +kernel
theorem dX6_restore_20 : decode cX6_restore 20 = .ok (.if_icmp .ge 21, 3) := by decide +kernel
theorem dX6_restore_23 : decode cX6_restore 23 = .ok (.aload_n 0, 1) := by decide +kernel
theorem dX6_restore_24 : decode cX6_restore 24 = .ok (.getfield 7, 3) := by decide +kernel
theorem dX6_restore_27 : decode cX6_restore 27 = .ok (.iload_n 1, 1) := by decide +kernel
theorem dX6_restore_28 : decode cX6_restore 28 = .ok (.aload_n 0, 1) := by decide +kernel
theorem dX6_restore_29 : decode cX6_restore 29 = .ok (.getfield 19, 3) := by decide +kernel
theorem dX6_restore_32 : decode cX6_restore 32 = .ok (.iload_n 1, 1) := by decide +kernel
theorem dX6_restore_33 : decode cX6_restore 33 = .ok (.iaload, 1) := by decide +kernel
theorem dX6_restore_34 : decode cX6_restore 34 = .ok (.iastore, 1) := by decide +kernel
theorem dX6_restore_35 : decode cX6_restore 35 = .ok (.iinc 1 1, 3) := by decide +kernel
theorem dX6_restore_38 : decode cX6_restore 38 = .ok (.goto (-22), 3) := by decide +kernel
theorem dX6_restore_41 : decode cX6_restore 41 = .ok (.aload_n 0, 1) := by decide +kernel
theorem dX6_restore_42 : decode cX6_restore 42 = .ok (.aload_n 0, 1) := by decide +kernel
theorem dX6_restore_43 : decode cX6_restore 43 = .ok (.getfield 7, 3) := by decide +kernel
theorem dX6_restore_46 : decode cX6_restore 46 = .ok (.iconst 3, 1) := by decide +kernel
theorem dX6_restore_47 : decode cX6_restore 47 = .ok (.iaload, 1) := by decide +kernel
theorem dX6_restore_48 : decode cX6_restore 48 = .ok (.invokevirtual 129, 3) := by decide +kernel
theorem dX6_restore_51 : decode cX6_restore 51 = .ok (.ireturn, 1) := by decide +kernel
theorem dX6_speaker_0 : decode cX6_speaker 0 = .ok (.iload_n 1, 1) := by decide +kernel
theorem dX6_speaker_1 : decode cX6_speaker 1 = .ok (.invokestatic 109, 3) := by decide +kernel
theorem dX6_speaker_4 : decode cX6_speaker 4 = .ok (.ifCond .ne 7, 3) := by decide +kernel
theorem dX6_speaker_7 : decode cX6_speaker 7 = .ok (.iconst (-1), 1) := by decide +kernel
theorem dX6_speaker_8 : decode cX6_speaker 8 = .ok (.goto 28, 3) := by decide +kernel
theorem dX6_speaker_11 : decode cX6_speaker 11 = .ok (.iload_n 2, 1) := by decide +kernel
theorem dX6_speaker_12 : decode cX6_speaker 12 = .ok (.iconst 0, 1) := by decide +kernel
theorem dX6_speaker_13 : decode cX6_speaker 13 = .ok (.bipush 6, 2) := by decide +kernel
theorem dX6_speaker_15 : decode cX6_speaker 15 = .ok (.invokestatic 36, 3) := by decide +kernel
theorem dX6_speaker_18 : decode cX6_speaker 18 = .ok (.ifCond .eq 16, 3) := by decide +kernel
theorem dX6_speaker_21 : decode cX6_speaker 21 = .ok (.aload_n 0, 1) := by decide +kernel
theorem dX6_speaker_22 : decode cX6_speaker 22 = .ok (.getfield 7, 3) := by decide +kernel
theorem dX6_speaker_25 : decode cX6_speaker 25 = .ok (.iload_n 1, 1) := by decide +kernel
theorem dX6_speaker_26 : decode cX6_speaker 26 = .ok (.iload_n 2, 1) := by decide +kernel
theorem dX6_speaker_27 : decode cX6_speaker 27 = .ok (.invokestatic 33, 3) := by decide +kernel
theorem dX6_speaker_30 : decode cX6_speaker 30 = .ok (.iaload, 1) := by decide +kernel
theorem dX6_speaker_31 : decode cX6_speaker 31 = .ok (.goto 5, 3) := by decide +kernel
theorem dX6_speaker_34 : decode cX6_speaker 34 = .ok (.bipush (-2), 2) := by decide +kernel
theorem dX6_speaker_36 : decode cX6_speaker 36 = .ok (.ireturn, 1) := by decide +kernel
theorem dX6_ticksOf_0 : decode cX6_ticksOf 0 = .ok (.aload_n 0, 1) := by decide +kernel
theorem dX6_ticksOf_1 : decode cX6_ticksOf 1 = .ok (.iload_n 1, 1) := by decide +kernel
theorem dX6_ticksOf_2 : decode cX6_ticksOf 2 = .ok (.iload_n 2, 1) := by decide +kernel
theorem dX6_ticksOf_3 : decode cX6_ticksOf 3 = .ok (.iconst 2, 1) := by decide +kernel
theorem dX6_ticksOf_4 : decode cX6_ticksOf 4 = .ok (.invokevirtual 43, 3) := by decide +kernel
theorem dX6_ticksOf_7 : decode cX6_ticksOf 7 = .ok (.invokestatic 78, 3) := by decide +kernel
theorem dX6_ticksOf_10 : decode cX6_ticksOf 10 = .ok (.istore_n 3, 1) := by decide +kernel
theorem dX6_ticksOf_11 : decode cX6_ticksOf 11 = .ok (.aload_n 0, 1) := by decide +kernel
theorem dX6_ticksOf_12 : decode cX6_ticksOf 12 = .ok (.aload_n 0, 1) := by decide +kernel
theorem dX6_ticksOf_13 : decode cX6_ticksOf 13 = .ok (.iload_n 1, 1) := by decide +kernel
theorem dX6_ticksOf_14 : decode cX6_ticksOf 14 = .ok (.iload_n 2, 1) := by decide +kernel
theorem dX6_ticksOf_15 : decode cX6_ticksOf 15 = .ok (.iconst 0, 1) := by decide +kernel
theorem dX6_ticksOf_16 : decode cX6_ticksOf 16 = .ok (.invokevirtual 43, 3) := by decide +kernel
theorem dX6_ticksOf_19 : decode cX6_ticksOf 19 = .ok (.invokevirtual 74, 3) := by decide +kernel
theorem dX6_ticksOf_22 : decode cX6_ticksOf 22 = .ok (.istore 4, 2) := by decide +kernel
theorem dX6_ticksOf_24 : decode cX6_ticksOf 24 = .ok (.iload_n 3, 1) := by decide +kernel
theorem dX6_ticksOf_25 : decode cX6_ticksOf 25 = .ok (.iload 4, 2) := by decide +kernel
theorem dX6_ticksOf_27 : decode cX6_ticksOf 27 = .ok (.bipush (-5), 2) := by decide +kernel
theorem dX6_ticksOf_29 : decode cX6_ticksOf 29 = .ok (.if_icmp .ne 7, 3) := by decide +kernel
theorem dX6_ticksOf_32 : decode cX6_ticksOf 32 = .ok (.iconst 0, 1) := by decide +kernel
theorem dX6_ticksOf_33 : decode cX6_ticksOf 33 = .ok (.goto 19, 3) := by decide +kernel
theorem dX6_ticksOf_36 : decode cX6_ticksOf 36 = .ok (.iload_n 3, 1) := by decide +kernel
theorem dX6_ticksOf_37 : decode cX6_ticksOf 37 = .ok (.bipush 9, 2) := by decide +kernel
theorem dX6_ticksOf_39 : decode cX6_ticksOf 39 = .ok (.idiv, 1) := by decide +kernel
theorem dX6_ticksOf_40 : decode cX6_ticksOf 40 = .ok (.aload_n 0, 1) := by decide +kernel
theorem dX6_ticksOf_41 : decode cX6_ticksOf 41 = .ok (.getfield 7, 3) := by decide +kernel
theorem dX6_ticksOf_44 : decode cX6_ticksOf 44 = .ok (.iload 4, 2) := by decide +kernel
theorem dX6_ticksOf_46 : decode cX6_ticksOf 46 = .ok (.iconst 1, 1) := by decide +kernel
theorem dX6_ticksOf_47 : decode cX6_ticksOf 47 = .ok (.invokestatic 29, 3) := by decide +kernel
theorem dX6_ticksOf_50 : decode cX6_ticksOf 50 = .ok (.iaload, 1) := by decide +kernel
theorem dX6_ticksOf_51 : decode cX6_ticksOf 51 = .ok (.imul, 1) := by decide +kernel
theorem dX6_ticksOf_52 : decode cX6_ticksOf 52 = .ok (.iadd, 1) := by decide +kernel
theorem dX6_ticksOf_53 : decode cX6_ticksOf 53 = .ok (.ireturn, 1) := by decide +kernel
theorem dX6_message_0 : decode cX6_message 0 = .ok (.iload_n 1, 1) := by decide +kernel
theorem dX6_message_1 : decode cX6_message 1 = .ok (.invokestatic 109, 3) := by decide +kernel
theorem dX6_message_4 : decode cX6_message 4 = .ok (.ifCond .eq 23, 3) := by decide +kernel
theorem dX6_message_7 : decode cX6_message 7 = .ok (.iload_n 2, 1) := by decide +kernel
theorem dX6_message_8 : decode cX6_message 8 = .ok (.iconst 0, 1) := by decide +kernel
theorem dX6_message_9 : decode cX6_message 9 = .ok (.aload_n 0, 1) := by decide +kernel
theorem dX6_message_10 : decode cX6_message 10 = .ok (.getfield 7, 3) := by decide +kernel
theorem dX6_message_13 : decode cX6_message 13 = .ok (.iload_n 1, 1) := by decide +kernel
theorem dX6_message_14 : decode cX6_message 14 = .ok (.iconst 0, 1) := by decide +kernel
theorem dX6_message_15 : decode cX6_message 15 = .ok (.invokestatic 33, 3) := by decide +kernel
theorem dX6_message_18 : decode cX6_message 18 = .ok (.iaload, 1) := by decide +kernel
theorem dX6_message_19 : decode cX6_message 19 = .ok (.iconst 1, 1) := by decide +kernel
theorem dX6_message_20 : decode cX6_message 20 = .ok (.isub, 1) := by decide +kernel
theorem dX6_message_21 : decode cX6_message 21 = .ok (.invokestatic 36, 3) := by decide +kernel
theorem dX6_message_24 : decode cX6_message 24 = .ok (.ifCond .ne 5, 3) := by decide +kernel
theorem dX6_message_27 : decode cX6_message 27 = .ok (.iconst (-1), 1) := by decide +kernel
theorem dX6_message_28 : decode cX6_message 28 = .ok (.ireturn, 1) := by decide +kernel
theorem dX6_message_29 : decode cX6_message 29 = .ok (.iload_n 3, 1) := by decide +kernel
theorem dX6_message_30 : decode cX6_message 30 = .ok (.tableswitch 60 0 4 #[34, 34, 34, 42, 53], 34) := by decide +kernel
theorem dX6_message_64 : decode cX6_message 64 = .ok (.aload_n 0, 1) := by decide +kernel
theorem dX6_message_65 : decode cX6_message 65 = .ok (.iload_n 1, 1) := by decide +kernel
theorem dX6_message_66 : decode cX6_message 66 = .ok (.iload_n 2, 1) := by decide +kernel
theorem dX6_message_67 : decode cX6_message 67 = .ok (.iload_n 3, 1) := by decide +kernel
theorem dX6_message_68 : decode cX6_message 68 = .ok (.invokevirtual 43, 3) := by decide +kernel
theorem dX6_message_71 : decode cX6_message 71 = .ok (.ireturn, 1) := by decide +kernel
theorem dX6_message_72 : decode cX6_message 72 = .ok (.aload_n 0, 1) := by decide +kernel
theorem dX6_message_73 : decode cX6_message 73 = .ok (.iload_n 1, 1) := by decide +kernel
theorem dX6_message_74 : decode cX6_message 74 = .ok (.iload_n 2, 1) := by decide +kernel
theorem dX6_message_75 : decode cX6_message 75 = .ok (.iconst 2, 1) := by decide +kernel
theorem dX6_message_76 : decode cX6_message 76 = .ok (.invokevirtual 43, 3) := by decide +kernel
theorem dX6_message_79 : decode cX6_message 79 = .ok (.invokestatic 78, 3) := by decide +kernel
theorem dX6_message_82 : decode cX6_message 82 = .ok (.ireturn, 1) := by decide +kernel
theorem dX6_message_83 : decode cX6_message 83 = .ok (.aload_n 0, 1) := by decide +kernel
theorem dX6_message_84 : decode cX6_message 84 = .ok (.iload_n 1, 1) := by decide +kernel
theorem dX6_message_85 : decode cX6_message 85 = .ok (.iload_n 2, 1) := by decide +kernel
theorem dX6_message_86 : decode cX6_message 86 = .ok (.invokevirtual 207, 3) := by decide +kernel
theorem dX6_message_89 : decode cX6_message 89 = .ok (.ireturn, 1) := by decide +kernel
theorem dX6_message_90 : decode cX6_message 90 = .ok (.bipush (-2), 2) := by decide +kernel
theorem dX6_message_92 : decode cX6_message 92 = .ok (.ireturn, 1) := by decide +kernel
theorem dX6_listener_0 : decode cX6_listener 0 = .ok (.iload_n 1, 1) := by decide +kernel
theorem dX6_listener_1 : decode cX6_listener 1 = .ok (.invokestatic 109, 3) := by decide +kernel
theorem dX6_listener_4 : decode cX6_listener 4 = .ok (.ifCond .ne 7, 3) := by decide +kernel
theorem dX6_listener_7 : decode cX6_listener 7 = .ok (.iconst (-1), 1) := by decide +kernel
theorem dX6_listener_8 : decode cX6_listener 8 = .ok (.goto 27, 3) := by decide +kernel
theorem dX6_listener_11 : decode cX6_listener 11 = .ok (.iload_n 2, 1) := by decide +kernel
theorem dX6_listener_12 : decode cX6_listener 12 = .ok (.iconst 0, 1) := by decide +kernel
theorem dX6_listener_13 : decode cX6_listener 13 = .ok (.iconst 4, 1) := by decide +kernel
theorem dX6_listener_14 : decode cX6_listener 14 = .ok (.invokestatic 36, 3) := by decide +kernel
theorem dX6_listener_17 : decode cX6_listener 17 = .ok (.ifCond .eq 16, 3) := by decide +kernel
theorem dX6_listener_20 : decode cX6_listener 20 = .ok (.aload_n 0, 1) := by decide +kernel
theorem dX6_listener_21 : decode cX6_listener 21 = .ok (.getfield 7, 3) := by decide +kernel
theorem dX6_listener_24 : decode cX6_listener 24 = .ok (.iload_n 1, 1) := by decide +kernel
theorem dX6_listener_25 : decode cX6_listener 25 = .ok (.iload_n 2, 1) := by decide +kernel
theorem dX6_listener_26 : decode cX6_listener 26 = .ok (.invokestatic 29, 3) := by decide +kernel
theorem dX6_listener_29 : decode cX6_listener 29 = .ok (.iaload, 1) := by decide +kernel
theorem dX6_listener_30 : decode cX6_listener 30 = .ok (.goto 5, 3) := by decide +kernel
theorem dX6_listener_33 : decode cX6_listener 33 = .ok (.bipush (-2), 2) := by decide +kernel
theorem dX6_listener_35 : decode cX6_listener 35 = .ok (.ireturn, 1) := by decide +kernel
theorem dX6_bit_0 : decode cX6_bit 0 = .ok (.iload_n 1, 1) := by decide +kernel
theorem dX6_bit_1 : decode cX6_bit 1 = .ok (.ifCond .lt 12, 3) := by decide +kernel
theorem dX6_bit_4 : decode cX6_bit 4 = .ok (.iload_n 2, 1) := by decide +kernel
theorem dX6_bit_5 : decode cX6_bit 5 = .ok (.iconst 0, 1) := by decide +kernel
theorem dX6_bit_6 : decode cX6_bit 6 = .ok (.iconst 3, 1) := by decide +kernel
theorem dX6_bit_7 : decode cX6_bit 7 = .ok (.invokestatic 36, 3) := by decide +kernel
theorem dX6_bit_10 : decode cX6_bit 10 = .ok (.ifCond .ne 6, 3) := by decide +kernel
theorem dX6_bit_13 : decode cX6_bit 13 = .ok (.bipush (-2), 2) := by decide +kernel
theorem dX6_bit_15 : decode cX6_bit 15 = .ok (.ireturn, 1) := by decide +kernel
theorem dX6_bit_16 : decode cX6_bit 16 = .ok (.iload_n 1, 1) := by decide +kernel
theorem dX6_bit_17 : decode cX6_bit 17 = .ok (.aload_n 0, 1) := by decide +kernel
theorem dX6_bit_18 : decode cX6_bit 18 = .ok (.getfield 7, 3) := by decide +kernel
theorem dX6_bit_21 : decode cX6_bit 21 = .ok (.bipush 118, 2) := by decide +kernel
theorem dX6_bit_23 : decode cX6_bit 23 = .ok (.iaload, 1) := by decide +kernel
theorem dX6_bit_24 : decode cX6_bit 24 = .ok (.if_icmp .lt 8, 3) := by decide +kernel
theorem dX6_bit_27 : decode cX6_bit 27 = .ok (.bipush (-5), 2) := by decide +kernel
theorem dX6_bit_29 : decode cX6_bit 29 = .ok (.goto 26, 3) := by decide +kernel
theorem dX6_bit_32 : decode cX6_bit 32 = .ok (.aload_n 0, 1) := by decide +kernel
theorem dX6_bit_33 : decode cX6_bit 33 = .ok (.getfield 7, 3) := by decide +kernel
theorem dX6_bit_36 : decode cX6_bit 36 = .ok (.bipush 119, 2) := by decide +kernel
theorem dX6_bit_38 : decode cX6_bit 38 = .ok (.iconst 4, 1) := by decide +kernel
theorem dX6_bit_39 : decode cX6_bit 39 = .ok (.aload_n 0, 1) := by decide +kernel
theorem dX6_bit_40 : decode cX6_bit 40 = .ok (.getfield 7, 3) := by decide +kernel
theorem dX6_bit_43 : decode cX6_bit 43 = .ok (.bipush 118, 2) := by decide +kernel
theorem dX6_bit_45 : decode cX6_bit 45 = .ok (.iaload, 1) := by decide +kernel
theorem dX6_bit_46 : decode cX6_bit 46 = .ok (.iconst 1, 1) := by decide +kernel
theorem dX6_bit_47 : decode cX6_bit 47 = .ok (.isub, 1) := by decide +kernel
theorem dX6_bit_48 : decode cX6_bit 48 = .ok (.iload_n 1, 1) := by decide +kernel
theorem dX6_bit_49 : decode cX6_bit 49 = .ok (.isub, 1) := by decide +kernel
theorem dX6_bit_50 : decode cX6_bit 50 = .ok (.imul, 1) := by decide +kernel
theorem dX6_bit_51 : decode cX6_bit 51 = .ok (.iadd, 1) := by decide +kernel
theorem dX6_bit_52 : decode cX6_bit 52 = .ok (.iload_n 2, 1) := by decide +kernel
theorem dX6_bit_53 : decode cX6_bit 53 = .ok (.iadd, 1) := by decide +kernel
theorem dX6_bit_54 : decode cX6_bit 54 = .ok (.iaload, 1) := by decide +kernel
theorem dX6_bit_55 : decode cX6_bit 55 = .ok (.ireturn, 1) := by decide +kernel
theorem dX6_winners_0 : decode cX6_winners 0 = .ok (.iconst 0, 1) := by decide +kernel
theorem dX6_winners_1 : decode cX6_winners 1 = .ok (.istore_n 1, 1) := by decide +kernel
theorem dX6_winners_2 : decode cX6_winners 2 = .ok (.iconst 0, 1) := by decide +kernel
theorem dX6_winners_3 : decode cX6_winners 3 = .ok (.istore_n 2, 1) := by decide +kernel
theorem dX6_winners_4 : decode cX6_winners 4 = .ok (.iload_n 2, 1) := by decide +kernel
theorem dX6_winners_5 : decode cX6_winners 5 = .ok (.iconst 4, 1) := by decide +kernel
theorem dX6_winners_6 : decode cX6_winners 6 = .ok (.if_icmp .ge 32, 3) := by decide +kernel
theorem dX6_winners_9 : decode cX6_winners 9 = .ok (.iload_n 1, 1) := by decide +kernel
theorem dX6_winners_10 : decode cX6_winners 10 = .ok (.aload_n 0, 1) := by decide +kernel
theorem dX6_winners_11 : decode cX6_winners 11 = .ok (.getfield 7, 3) := by decide +kernel
theorem dX6_winners_14 : decode cX6_winners 14 = .ok (.iload_n 2, 1) := by decide +kernel
theorem dX6_winners_15 : decode cX6_winners 15 = .ok (.iconst 0, 1) := by decide +kernel
theorem dX6_winners_16 : decode cX6_winners 16 = .ok (.invokestatic 33, 3) := by decide +kernel
theorem dX6_winners_19 : decode cX6_winners 19 = .ok (.iaload, 1) := by decide +kernel
theorem dX6_winners_20 : decode cX6_winners 20 = .ok (.ifCond .le 9, 3) := by decide +kernel
theorem dX6_winners_23 : decode cX6_winners 23 = .ok (.iconst 1, 1) := by decide +kernel
theorem dX6_winners_24 : decode cX6_winners 24 = .ok (.iload_n 2, 1) := by decide +kernel
theorem dX6_winners_25 : decode cX6_winners 25 = .ok (.ishl, 1) := by decide +kernel
theorem dX6_winners_26 : decode cX6_winners 26 = .ok (.goto 4, 3) := by decide +kernel
theorem dX6_winners_29 : decode cX6_winners 29 = .ok (.iconst 0, 1) := by decide +kernel
theorem dX6_winners_30 : decode cX6_winners 30 = .ok (.ior, 1) := by decide +kernel
theorem dX6_winners_31 : decode cX6_winners 31 = .ok (.istore_n 1, 1) := by decide +kernel
theorem dX6_winners_32 : decode cX6_winners 32 = .ok (.iinc 2 1, 3) := by decide +kernel
theorem dX6_winners_35 : decode cX6_winners 35 = .ok (.goto (-31), 3) := by decide +kernel
theorem dX6_winners_38 : decode cX6_winners 38 = .ok (.iconst 0, 1) := by decide +kernel
theorem dX6_winners_39 : decode cX6_winners 39 = .ok (.istore_n 2, 1) := by decide +kernel
theorem dX6_winners_40 : decode cX6_winners 40 = .ok (.iload_n 2, 1) := by decide +kernel
theorem dX6_winners_41 : decode cX6_winners 41 = .ok (.bipush 27, 2) := by decide +kernel
theorem dX6_winners_43 : decode cX6_winners 43 = .ok (.if_icmp .ge 138, 3) := by decide +kernel
theorem dX6_winners_46 : decode cX6_winners 46 = .ok (.iconst 0, 1) := by decide +kernel
theorem dX6_winners_47 : decode cX6_winners 47 = .ok (.istore_n 3, 1) := by decide +kernel
theorem dX6_winners_48 : decode cX6_winners 48 = .ok (.iconst 0, 1) := by decide +kernel
theorem dX6_winners_49 : decode cX6_winners 49 = .ok (.istore 4, 2) := by decide +kernel
theorem dX6_winners_51 : decode cX6_winners 51 = .ok (.iconst 0, 1) := by decide +kernel
theorem dX6_winners_52 : decode cX6_winners 52 = .ok (.istore 5, 2) := by decide +kernel
theorem dX6_winners_54 : decode cX6_winners 54 = .ok (.iload 5, 2) := by decide +kernel
theorem dX6_winners_56 : decode cX6_winners 56 = .ok (.iconst 4, 1) := by decide +kernel
theorem dX6_winners_57 : decode cX6_winners 57 = .ok (.if_icmp .ge 103, 3) := by decide +kernel
theorem dX6_winners_60 : decode cX6_winners 60 = .ok (.iload_n 1, 1) := by decide +kernel
theorem dX6_winners_61 : decode cX6_winners 61 = .ok (.iload 5, 2) := by decide +kernel
theorem dX6_winners_63 : decode cX6_winners 63 = .ok (.ishr, 1) := by decide +kernel
theorem dX6_winners_64 : decode cX6_winners 64 = .ok (.iconst 1, 1) := by decide +kernel
theorem dX6_winners_65 : decode cX6_winners 65 = .ok (.iand, 1) := by decide +kernel
theorem dX6_winners_66 : decode cX6_winners 66 = .ok (.iconst 1, 1) := by decide +kernel
theorem dX6_winners_67 : decode cX6_winners 67 = .ok (.if_icmp .ne 29, 3) := by decide +kernel
theorem dX6_winners_70 : decode cX6_winners 70 = .ok (.iload_n 2, 1) := by decide +kernel
theorem dX6_winners_71 : decode cX6_winners 71 = .ok (.invokestatic 58, 3) := by decide +kernel
theorem dX6_winners_74 : decode cX6_winners 74 = .ok (.ifCond .ne 22, 3) := by decide +kernel
theorem dX6_winners_77 : decode cX6_winners 77 = .ok (.iload_n 2, 1) := by decide +kernel
theorem dX6_winners_78 : decode cX6_winners 78 = .ok (.aload_n 0, 1) := by decide +kernel
theorem dX6_winners_79 : decode cX6_winners 79 = .ok (.iload 5, 2) := by decide +kernel
theorem dX6_winners_81 : decode cX6_winners 81 = .ok (.iconst 0, 1) := by decide +kernel
theorem dX6_winners_82 : decode cX6_winners 82 = .ok (.iconst 2, 1) := by decide +kernel
theorem dX6_winners_83 : decode cX6_winners 83 = .ok (.invokevirtual 43, 3) := by decide +kernel
theorem dX6_winners_86 : decode cX6_winners 86 = .ok (.invokestatic 78, 3) := by decide +kernel
theorem dX6_winners_89 : decode cX6_winners 89 = .ok (.if_icmp .ge 7, 3) := by decide +kernel
theorem dX6_winners_92 : decode cX6_winners 92 = .ok (.iconst 1, 1) := by decide +kernel
theorem dX6_winners_93 : decode cX6_winners 93 = .ok (.goto 4, 3) := by decide +kernel
theorem dX6_winners_96 : decode cX6_winners 96 = .ok (.iconst 0, 1) := by decide +kernel
theorem dX6_winners_97 : decode cX6_winners 97 = .ok (.istore 6, 2) := by decide +kernel
theorem dX6_winners_99 : decode cX6_winners 99 = .ok (.iload_n 3, 1) := by decide +kernel
theorem dX6_winners_100 : decode cX6_winners 100 = .ok (.iload 6, 2) := by decide +kernel
theorem dX6_winners_102 : decode cX6_winners 102 = .ok (.ifCond .eq 20, 3) := by decide +kernel
theorem dX6_winners_105 : decode cX6_winners 105 = .ok (.aload_n 0, 1) := by decide +kernel
theorem dX6_winners_106 : decode cX6_winners 106 = .ok (.iload 5, 2) := by decide +kernel
theorem dX6_winners_108 : decode cX6_winners 108 = .ok (.iload_n 2, 1) := by decide +kernel
theorem dX6_winners_109 : decode cX6_winners 109 = .ok (.invokevirtual 51, 3) := by decide +kernel
theorem dX6_winners_112 : decode cX6_winners 112 = .ok (.ifCond .ne 10, 3) := by decide +kernel
theorem dX6_winners_115 : decode cX6_winners 115 = .ok (.iconst 1, 1) := by decide +kernel
theorem dX6_winners_116 : decode cX6_winners 116 = .ok (.iload 5, 2) := by decide +kernel
theorem dX6_winners_118 : decode cX6_winners 118 = .ok (.ishl, 1) := by decide +kernel
theorem dX6_winners_119 : decode cX6_winners 119 = .ok (.goto 4, 3) := by decide +kernel
theorem dX6_winners_122 : decode cX6_winners 122 = .ok (.iconst 0, 1) := by decide +kernel
theorem dX6_winners_123 : decode cX6_winners 123 = .ok (.ior, 1) := by decide +kernel
theorem dX6_winners_124 : decode cX6_winners 124 = .ok (.istore_n 3, 1) := by decide +kernel
theorem dX6_winners_125 : decode cX6_winners 125 = .ok (.iload 4, 2) := by decide +kernel
theorem dX6_winners_127 : decode cX6_winners 127 = .ok (.iload 6, 2) := by decide +kernel
theorem dX6_winners_129 : decode cX6_winners 129 = .ok (.ifCond .eq 21, 3) := by decide +kernel
theorem dX6_winners_132 : decode cX6_winners 132 = .ok (.aload_n 0, 1) := by decide +kernel
theorem dX6_winners_133 : decode cX6_winners 133 = .ok (.iload 5, 2) := by decide +kernel
theorem dX6_winners_135 : decode cX6_winners 135 = .ok (.iload_n 2, 1) := by decide +kernel
theorem dX6_winners_136 : decode cX6_winners 136 = .ok (.invokevirtual 51, 3) := by decide +kernel
theorem dX6_winners_139 : decode cX6_winners 139 = .ok (.iconst 1, 1) := by decide +kernel
theorem dX6_winners_140 : decode cX6_winners 140 = .ok (.if_icmp .ne 10, 3) := by decide +kernel
theorem dX6_winners_143 : decode cX6_winners 143 = .ok (.iconst 1, 1) := by decide +kernel
theorem dX6_winners_144 : decode cX6_winners 144 = .ok (.iload 5, 2) := by decide +kernel
theorem dX6_winners_146 : decode cX6_winners 146 = .ok (.ishl, 1) := by decide +kernel
theorem dX6_winners_147 : decode cX6_winners 147 = .ok (.goto 4, 3) := by decide +kernel
theorem dX6_winners_150 : decode cX6_winners 150 = .ok (.iconst 0, 1) := by decide +kernel
theorem dX6_winners_151 : decode cX6_winners 151 = .ok (.ior, 1) := by decide +kernel
theorem dX6_winners_152 : decode cX6_winners 152 = .ok (.istore 4, 2) := by decide +kernel
theorem dX6_winners_154 : decode cX6_winners 154 = .ok (.iinc 5 1, 3) := by decide +kernel
theorem dX6_winners_157 : decode cX6_winners 157 = .ok (.goto (-103), 3) := by decide +kernel
theorem dX6_winners_160 : decode cX6_winners 160 = .ok (.iload_n 1, 1) := by decide +kernel
theorem dX6_winners_161 : decode cX6_winners 161 = .ok (.iload_n 3, 1) := by decide +kernel
theorem dX6_winners_162 : decode cX6_winners 162 = .ok (.ifCond .eq 10, 3) := by decide +kernel
theorem dX6_winners_165 : decode cX6_winners 165 = .ok (.iload 4, 2) := by decide +kernel
theorem dX6_winners_167 : decode cX6_winners 167 = .ok (.iconst (-1), 1) := by decide +kernel
theorem dX6_winners_168 : decode cX6_winners 168 = .ok (.ixor, 1) := by decide +kernel
theorem dX6_winners_169 : decode cX6_winners 169 = .ok (.goto 4, 3) := by decide +kernel
theorem dX6_winners_172 : decode cX6_winners 172 = .ok (.iconst (-1), 1) := by decide +kernel
theorem dX6_winners_173 : decode cX6_winners 173 = .ok (.iand, 1) := by decide +kernel
theorem dX6_winners_174 : decode cX6_winners 174 = .ok (.istore_n 1, 1) := by decide +kernel
theorem dX6_winners_175 : decode cX6_winners 175 = .ok (.iinc 2 1, 3) := by decide +kernel
theorem dX6_winners_178 : decode cX6_winners 178 = .ok (.goto (-138), 3) := by decide +kernel
theorem dX6_winners_181 : decode cX6_winners 181 = .ok (.iload_n 1, 1) := by decide +kernel
theorem dX6_winners_182 : decode cX6_winners 182 = .ok (.ireturn, 1) := by decide +kernel
theorem dX6_emptyIn_0 : decode cX6_emptyIn 0 = .ok (.aload_n 0, 1) := by decide +kernel
theorem dX6_emptyIn_1 : decode cX6_emptyIn 1 = .ok (.invokevirtual 122, 3) := by decide +kernel
theorem dX6_emptyIn_4 : decode cX6_emptyIn 4 = .ok (.iconst 0, 1) := by decide +kernel
theorem dX6_emptyIn_5 : decode cX6_emptyIn 5 = .ok (.istore_n 1, 1) := by decide +kernel
theorem dX6_emptyIn_6 : decode cX6_emptyIn 6 = .ok (.iload_n 1, 1) := by decide +kernel
theorem dX6_emptyIn_7 : decode cX6_emptyIn 7 = .ok (.sipush 1000, 3) := by decide +kernel
theorem dX6_emptyIn_10 : decode cX6_emptyIn 10 = .ok (.if_icmp .ge 20, 3) := by decide +kernel
theorem dX6_emptyIn_13 : decode cX6_emptyIn 13 = .ok (.aload_n 0, 1) := by decide +kernel
theorem dX6_emptyIn_14 : decode cX6_emptyIn 14 = .ok (.invokevirtual 85, 3) := by decide +kernel
theorem dX6_emptyIn_17 : decode cX6_emptyIn 17 = .ok (.ifCond .le 13, 3) := by decide +kernel
theorem dX6_emptyIn_20 : decode cX6_emptyIn 20 = .ok (.aload_n 0, 1) := by decide +kernel
theorem dX6_emptyIn_21 : decode cX6_emptyIn 21 = .ok (.invokevirtual 116, 3) := by decide +kernel
theorem dX6_emptyIn_24 : decode cX6_emptyIn 24 = .ok (.iinc 1 1, 3) := by decide +kernel
theorem dX6_emptyIn_27 : decode cX6_emptyIn 27 = .ok (.goto (-21), 3) := by decide +kernel
theorem dX6_emptyIn_30 : decode cX6_emptyIn 30 = .ok (.aload_n 0, 1) := by decide +kernel
theorem dX6_emptyIn_31 : decode cX6_emptyIn 31 = .ok (.invokevirtual 85, 3) := by decide +kernel
theorem dX6_emptyIn_34 : decode cX6_emptyIn 34 = .ok (.ifCond .ne 7, 3) := by decide +kernel
theorem dX6_emptyIn_37 : decode cX6_emptyIn 37 = .ok (.iconst 1, 1) := by decide +kernel
theorem dX6_emptyIn_38 : decode cX6_emptyIn 38 = .ok (.goto 4, 3) := by decide +kernel
theorem dX6_emptyIn_41 : decode cX6_emptyIn 41 = .ok (.iconst 0, 1) := by decide +kernel
theorem dX6_emptyIn_42 : decode cX6_emptyIn 42 = .ok (.istore_n 2, 1) := by decide +kernel
theorem dX6_emptyIn_43 : decode cX6_emptyIn 43 = .ok (.aload_n 0, 1) := by decide +kernel
theorem dX6_emptyIn_44 : decode cX6_emptyIn 44 = .ok (.invokevirtual 201, 3) := by decide +kernel
theorem dX6_emptyIn_47 : decode cX6_emptyIn 47 = .ok (.iload_n 2, 1) := by decide +kernel
theorem dX6_emptyIn_48 : decode cX6_emptyIn 48 = .ok (.ifCond .eq 7, 3) := by decide +kernel
theorem dX6_emptyIn_51 : decode cX6_emptyIn 51 = .ok (.iload_n 1, 1) := by decide +kernel
theorem dX6_emptyIn_52 : decode cX6_emptyIn 52 = .ok (.goto 5, 3) := by decide +kernel
theorem dX6_emptyIn_55 : decode cX6_emptyIn 55 = .ok (.bipush (-5), 2) := by decide +kernel
theorem dX6_emptyIn_57 : decode cX6_emptyIn 57 = .ok (.ireturn, 1) := by decide +kernel
theorem dX6_ifRun_0 : decode cX6_ifRun 0 = .ok (.iload_n 1, 1) := by decide +kernel
theorem dX6_ifRun_1 : decode cX6_ifRun 1 = .ok (.invokestatic 109, 3) := by decide +kernel
theorem dX6_ifRun_4 : decode cX6_ifRun 4 = .ok (.ifCond .ne 5, 3) := by decide +kernel
theorem dX6_ifRun_7 : decode cX6_ifRun 7 = .ok (.iconst (-1), 1) := by decide +kernel
theorem dX6_ifRun_8 : decode cX6_ifRun 8 = .ok (.ireturn, 1) := by decide +kernel
theorem dX6_ifRun_9 : decode cX6_ifRun 9 = .ok (.iload_n 2, 1) := by decide +kernel
theorem dX6_ifRun_10 : decode cX6_ifRun 10 = .ok (.iconst 1, 1) := by decide +kernel
theorem dX6_ifRun_11 : decode cX6_ifRun 11 = .ok (.sipush 300, 3) := by decide +kernel
theorem dX6_ifRun_14 : decode cX6_ifRun 14 = .ok (.invokestatic 36, 3) := by decide +kernel
theorem dX6_ifRun_17 : decode cX6_ifRun 17 = .ok (.ifCond .ne 6, 3) := by decide +kernel
theorem dX6_ifRun_20 : decode cX6_ifRun 20 = .ok (.bipush (-2), 2) := by decide +kernel
theorem dX6_ifRun_22 : decode cX6_ifRun 22 = .ok (.ireturn, 1) := by decide +kernel
theorem dX6_ifRun_23 : decode cX6_ifRun 23 = .ok (.aload_n 0, 1) := by decide +kernel
theorem dX6_ifRun_24 : decode cX6_ifRun 24 = .ok (.invokevirtual 122, 3) := by decide +kernel
theorem dX6_ifRun_27 : decode cX6_ifRun 27 = .ok (.aload_n 0, 1) := by decide +kernel
theorem dX6_ifRun_28 : decode cX6_ifRun 28 = .ok (.getfield 7, 3) := by decide +kernel
theorem dX6_ifRun_31 : decode cX6_ifRun 31 = .ok (.iload_n 1, 1) := by decide +kernel
theorem dX6_ifRun_32 : decode cX6_ifRun 32 = .ok (.iconst 2, 1) := by decide +kernel
theorem dX6_ifRun_33 : decode cX6_ifRun 33 = .ok (.invokestatic 33, 3) := by decide +kernel
theorem dX6_ifRun_36 : decode cX6_ifRun 36 = .ok (.iaload, 1) := by decide +kernel
theorem dX6_ifRun_37 : decode cX6_ifRun 37 = .ok (.istore_n 3, 1) := by decide +kernel
theorem dX6_ifRun_38 : decode cX6_ifRun 38 = .ok (.iconst 0, 1) := by decide +kernel
theorem dX6_ifRun_39 : decode cX6_ifRun 39 = .ok (.istore 4, 2) := by decide +kernel
theorem dX6_ifRun_41 : decode cX6_ifRun 41 = .ok (.iload 4, 2) := by decide +kernel
theorem dX6_ifRun_43 : decode cX6_ifRun 43 = .ok (.iload_n 2, 1) := by decide +kernel
theorem dX6_ifRun_44 : decode cX6_ifRun 44 = .ok (.if_icmp .ge 13, 3) := by decide +kernel
theorem dX6_ifRun_47 : decode cX6_ifRun 47 = .ok (.aload_n 0, 1) := by decide +kernel
theorem dX6_ifRun_48 : decode cX6_ifRun 48 = .ok (.invokevirtual 116, 3) := by decide +kernel
theorem dX6_ifRun_51 : decode cX6_ifRun 51 = .ok (.iinc 4 1, 3) := by decide +kernel
theorem dX6_ifRun_54 : decode cX6_ifRun 54 = .ok (.goto (-13), 3) := by decide +kernel
theorem dX6_ifRun_57 : decode cX6_ifRun 57 = .ok (.aload_n 0, 1) := by decide +kernel
theorem dX6_ifRun_58 : decode cX6_ifRun 58 = .ok (.getfield 7, 3) := by decide +kernel
theorem dX6_ifRun_61 : decode cX6_ifRun 61 = .ok (.iload_n 1, 1) := by decide +kernel
theorem dX6_ifRun_62 : decode cX6_ifRun 62 = .ok (.iconst 2, 1) := by decide +kernel
theorem dX6_ifRun_63 : decode cX6_ifRun 63 = .ok (.invokestatic 33, 3) := by decide +kernel
theorem dX6_ifRun_66 : decode cX6_ifRun 66 = .ok (.iaload, 1) := by decide +kernel
theorem dX6_ifRun_67 : decode cX6_ifRun 67 = .ok (.iload_n 3, 1) := by decide +kernel
theorem dX6_ifRun_68 : decode cX6_ifRun 68 = .ok (.isub, 1) := by decide +kernel
theorem dX6_ifRun_69 : decode cX6_ifRun 69 = .ok (.istore 4, 2) := by decide +kernel
theorem dX6_ifRun_71 : decode cX6_ifRun 71 = .ok (.aload_n 0, 1) := by decide +kernel
theorem dX6_ifRun_72 : decode cX6_ifRun 72 = .ok (.invokevirtual 201, 3) := by decide +kernel
theorem dX6_ifRun_75 : decode cX6_ifRun 75 = .ok (.iload 4, 2) := by decide +kernel
theorem dX6_ifRun_77 : decode cX6_ifRun 77 = .ok (.ireturn, 1) := by decide +kernel
theorem dX6_count_0 : decode cX6_count 0 = .ok (.iload_n 1, 1) := by decide +kernel
theorem dX6_count_1 : decode cX6_count 1 = .ok (.tableswitch 174 0 15 #[79, 86, 91, 96, 104, 112, 120, 128, 133, 138, 146, 154, 154, 154, 164, 169], 79) := by decide +kernel
theorem dX6_count_80 : decode cX6_count 80 = .ok (.aload_n 0, 1) := by decide +kernel
theorem dX6_count_81 : decode cX6_count 81 = .ok (.getfield 7, 3) := by decide +kernel
theorem dX6_count_84 : decode cX6_count 84 = .ok (.iconst 3, 1) := by decide +kernel
theorem dX6_count_85 : decode cX6_count 85 = .ok (.iaload, 1) := by decide +kernel
theorem dX6_count_86 : decode cX6_count 86 = .ok (.ireturn, 1) := by decide +kernel
theorem dX6_count_87 : decode cX6_count 87 = .ok (.aload_n 0, 1) := by decide +kernel
theorem dX6_count_88 : decode cX6_count 88 = .ok (.invokevirtual 54, 3) := by decide +kernel
theorem dX6_count_91 : decode cX6_count 91 = .ok (.ireturn, 1) := by decide +kernel
theorem dX6_count_92 : decode cX6_count 92 = .ok (.aload_n 0, 1) := by decide +kernel
theorem dX6_count_93 : decode cX6_count 93 = .ok (.invokevirtual 91, 3) := by decide +kernel
theorem dX6_count_96 : decode cX6_count 96 = .ok (.ireturn, 1) := by decide +kernel
theorem dX6_count_97 : decode cX6_count 97 = .ok (.aload_n 0, 1) := by decide +kernel
theorem dX6_count_98 : decode cX6_count 98 = .ok (.getfield 7, 3) := by decide +kernel
theorem dX6_count_101 : decode cX6_count 101 = .ok (.bipush 112, 2) := by decide +kernel
theorem dX6_count_103 : decode cX6_count 103 = .ok (.iaload, 1) := by decide +kernel
theorem dX6_count_104 : decode cX6_count 104 = .ok (.ireturn, 1) := by decide +kernel
theorem dX6_count_105 : decode cX6_count 105 = .ok (.aload_n 0, 1) := by decide +kernel
theorem dX6_count_106 : decode cX6_count 106 = .ok (.getfield 7, 3) := by decide +kernel
theorem dX6_count_109 : decode cX6_count 109 = .ok (.bipush 113, 2) := by decide +kernel
theorem dX6_count_111 : decode cX6_count 111 = .ok (.iaload, 1) := by decide +kernel
theorem dX6_count_112 : decode cX6_count 112 = .ok (.ireturn, 1) := by decide +kernel
theorem dX6_count_113 : decode cX6_count 113 = .ok (.aload_n 0, 1) := by decide +kernel
theorem dX6_count_114 : decode cX6_count 114 = .ok (.getfield 7, 3) := by decide +kernel
theorem dX6_count_117 : decode cX6_count 117 = .ok (.bipush 114, 2) := by decide +kernel
theorem dX6_count_119 : decode cX6_count 119 = .ok (.iaload, 1) := by decide +kernel
theorem dX6_count_120 : decode cX6_count 120 = .ok (.ireturn, 1) := by decide +kernel
theorem dX6_count_121 : decode cX6_count 121 = .ok (.aload_n 0, 1) := by decide +kernel
theorem dX6_count_122 : decode cX6_count 122 = .ok (.getfield 7, 3) := by decide +kernel
theorem dX6_count_125 : decode cX6_count 125 = .ok (.bipush 115, 2) := by decide +kernel
theorem dX6_count_127 : decode cX6_count 127 = .ok (.iaload, 1) := by decide +kernel
theorem dX6_count_128 : decode cX6_count 128 = .ok (.ireturn, 1) := by decide +kernel
theorem dX6_count_129 : decode cX6_count 129 = .ok (.aload_n 0, 1) := by decide +kernel
theorem dX6_count_130 : decode cX6_count 130 = .ok (.invokevirtual 85, 3) := by decide +kernel
theorem dX6_count_133 : decode cX6_count 133 = .ok (.ireturn, 1) := by decide +kernel
theorem dX6_count_134 : decode cX6_count 134 = .ok (.aload_n 0, 1) := by decide +kernel
theorem dX6_count_135 : decode cX6_count 135 = .ok (.invokevirtual 113, 3) := by decide +kernel
theorem dX6_count_138 : decode cX6_count 138 = .ok (.ireturn, 1) := by decide +kernel
theorem dX6_count_139 : decode cX6_count 139 = .ok (.aload_n 0, 1) := by decide +kernel
theorem dX6_count_140 : decode cX6_count 140 = .ok (.getfield 7, 3) := by decide +kernel
theorem dX6_count_143 : decode cX6_count 143 = .ok (.bipush 116, 2) := by decide +kernel
theorem dX6_count_145 : decode cX6_count 145 = .ok (.iaload, 1) := by decide +kernel
theorem dX6_count_146 : decode cX6_count 146 = .ok (.ireturn, 1) := by decide +kernel
theorem dX6_count_147 : decode cX6_count 147 = .ok (.aload_n 0, 1) := by decide +kernel
theorem dX6_count_148 : decode cX6_count 148 = .ok (.getfield 7, 3) := by decide +kernel
theorem dX6_count_151 : decode cX6_count 151 = .ok (.bipush 117, 2) := by decide +kernel
theorem dX6_count_153 : decode cX6_count 153 = .ok (.iaload, 1) := by decide +kernel
theorem dX6_count_154 : decode cX6_count 154 = .ok (.ireturn, 1) := by decide +kernel
theorem dX6_count_155 : decode cX6_count 155 = .ok (.aload_n 0, 1) := by decide +kernel
theorem dX6_count_156 : decode cX6_count 156 = .ok (.getfield 7, 3) := by decide +kernel
theorem dX6_count_159 : decode cX6_count 159 = .ok (.iload_n 1, 1) := by decide +kernel
theorem dX6_count_160 : decode cX6_count 160 = .ok (.bipush 11, 2) := by decide +kernel
theorem dX6_count_162 : decode cX6_count 162 = .ok (.isub, 1) := by decide +kernel
theorem dX6_count_163 : decode cX6_count 163 = .ok (.iaload, 1) := by decide +kernel
theorem dX6_count_164 : decode cX6_count 164 = .ok (.ireturn, 1) := by decide +kernel
theorem dX6_count_165 : decode cX6_count 165 = .ok (.aload_n 0, 1) := by decide +kernel
theorem dX6_count_166 : decode cX6_count 166 = .ok (.getfield 40, 3) := by decide +kernel
theorem dX6_count_169 : decode cX6_count 169 = .ok (.ireturn, 1) := by decide +kernel
theorem dX6_count_170 : decode cX6_count 170 = .ok (.aload_n 0, 1) := by decide +kernel
theorem dX6_count_171 : decode cX6_count 171 = .ok (.getfield 150, 3) := by decide +kernel
theorem dX6_count_174 : decode cX6_count 174 = .ok (.ireturn, 1) := by decide +kernel
theorem dX6_count_175 : decode cX6_count 175 = .ok (.bipush (-2), 2) := by decide +kernel
theorem dX6_count_177 : decode cX6_count 177 = .ok (.ireturn, 1) := by decide +kernel
theorem dL_law_0 : decode cL_law 0 = .ok (.new 7, 3) := by decide +kernel
theorem dL_law_3 : decode cL_law 3 = .ok (.dup, 1) := by decide +kernel
theorem dL_law_4 : decode cL_law 4 = .ok (.invokespecial 9, 3) := by decide +kernel
theorem dL_law_7 : decode cL_law 7 = .ok (.astore_n 1, 1) := by decide +kernel
theorem dL_law_8 : decode cL_law 8 = .ok (.new 10, 3) := by decide +kernel
theorem dL_law_11 : decode cL_law 11 = .ok (.dup, 1) := by decide +kernel
theorem dL_law_12 : decode cL_law 12 = .ok (.invokespecial 12, 3) := by decide +kernel
theorem dL_law_15 : decode cL_law 15 = .ok (.astore_n 2, 1) := by decide +kernel
theorem dL_law_16 : decode cL_law 16 = .ok (.iconst 0, 1) := by decide +kernel
theorem dL_law_17 : decode cL_law 17 = .ok (.istore_n 3, 1) := by decide +kernel
theorem dL_law_18 : decode cL_law 18 = .ok (.iload_n 3, 1) := by decide +kernel
theorem dL_law_19 : decode cL_law 19 = .ok (.aload_n 0, 1) := by decide +kernel
theorem dL_law_20 : decode cL_law 20 = .ok (.arraylength, 1) := by decide +kernel
theorem dL_law_21 : decode cL_law 21 = .ok (.iconst 5, 1) := by decide +kernel
theorem dL_law_22 : decode cL_law 22 = .ok (.isub, 1) := by decide +kernel
theorem dL_law_23 : decode cL_law 23 = .ok (.if_icmp .gt 687, 3) := by decide +kernel
theorem dL_law_26 : decode cL_law 26 = .ok (.aload_n 0, 1) := by decide +kernel
theorem dL_law_27 : decode cL_law 27 = .ok (.iload_n 3, 1) := by decide +kernel
theorem dL_law_28 : decode cL_law 28 = .ok (.iaload, 1) := by decide +kernel
theorem dL_law_29 : decode cL_law 29 = .ok (.bipush 31, 2) := by decide +kernel
theorem dL_law_31 : decode cL_law 31 = .ok (.iand, 1) := by decide +kernel
theorem dL_law_32 : decode cL_law 32 = .ok (.tableswitch 672 0 21 #[104, 157, 180, 213, 246, 279, 312, 335, 360, 373, 386, 409, 422, 435, 448, 481, 524, 557, 590, 603, 616, 649], 104) := by decide +kernel
theorem dL_law_136 : decode cL_law 136 = .ok (.aload_n 1, 1) := by decide +kernel
theorem dL_law_137 : decode cL_law 137 = .ok (.aload_n 0, 1) := by decide +kernel
theorem dL_law_138 : decode cL_law 138 = .ok (.iload_n 3, 1) := by decide +kernel
theorem dL_law_139 : decode cL_law 139 = .ok (.iconst 1, 1) := by decide +kernel
theorem dL_law_140 : decode cL_law 140 = .ok (.iadd, 1) := by decide +kernel
theorem dL_law_141 : decode cL_law 141 = .ok (.iaload, 1) := by decide +kernel
theorem dL_law_142 : decode cL_law 142 = .ok (.aload_n 0, 1) := by decide +kernel
theorem dL_law_143 : decode cL_law 143 = .ok (.iload_n 3, 1) := by decide +kernel
theorem dL_law_144 : decode cL_law 144 = .ok (.iconst 2, 1) := by decide +kernel
theorem dL_law_145 : decode cL_law 145 = .ok (.iadd, 1) := by decide +kernel
theorem dL_law_146 : decode cL_law 146 = .ok (.iaload, 1) := by decide +kernel
theorem dL_law_147 : decode cL_law 147 = .ok (.aload_n 0, 1) := by decide +kernel
theorem dL_law_148 : decode cL_law 148 = .ok (.iload_n 3, 1) := by decide +kernel
theorem dL_law_149 : decode cL_law 149 = .ok (.iconst 3, 1) := by decide +kernel
theorem dL_law_150 : decode cL_law 150 = .ok (.iadd, 1) := by decide +kernel
theorem dL_law_151 : decode cL_law 151 = .ok (.iaload, 1) := by decide +kernel
theorem dL_law_152 : decode cL_law 152 = .ok (.aload_n 0, 1) := by decide +kernel
theorem dL_law_153 : decode cL_law 153 = .ok (.iload_n 3, 1) := by decide +kernel
theorem dL_law_154 : decode cL_law 154 = .ok (.iconst 4, 1) := by decide +kernel
theorem dL_law_155 : decode cL_law 155 = .ok (.iadd, 1) := by decide +kernel
theorem dL_law_156 : decode cL_law 156 = .ok (.iaload, 1) := by decide +kernel
theorem dL_law_157 : decode cL_law 157 = .ok (.invokevirtual 13, 3) := by decide +kernel
theorem dL_law_160 : decode cL_law 160 = .ok (.aload_n 2, 1) := by decide +kernel
theorem dL_law_161 : decode cL_law 161 = .ok (.aload_n 0, 1) := by decide +kernel
theorem dL_law_162 : decode cL_law 162 = .ok (.iload_n 3, 1) := by decide +kernel
theorem dL_law_163 : decode cL_law 163 = .ok (.iconst 1, 1) := by decide +kernel
theorem dL_law_164 : decode cL_law 164 = .ok (.iadd, 1) := by decide +kernel
theorem dL_law_165 : decode cL_law 165 = .ok (.iaload, 1) := by decide +kernel
theorem dL_law_166 : decode cL_law 166 = .ok (.aload_n 0, 1) := by decide +kernel
theorem dL_law_167 : decode cL_law 167 = .ok (.iload_n 3, 1) := by decide +kernel
theorem dL_law_168 : decode cL_law 168 = .ok (.iconst 2, 1) := by decide +kernel
theorem dL_law_169 : decode cL_law 169 = .ok (.iadd, 1) := by decide +kernel
theorem dL_law_170 : decode cL_law 170 = .ok (.iaload, 1) := by decide +kernel
theorem dL_law_171 : decode cL_law 171 = .ok (.aload_n 0, 1) := by decide +kernel
theorem dL_law_172 : decode cL_law 172 = .ok (.iload_n 3, 1) := by decide +kernel
theorem dL_law_173 : decode cL_law 173 = .ok (.iconst 3, 1) := by decide +kernel
theorem dL_law_174 : decode cL_law 174 = .ok (.iadd, 1) := by decide +kernel
theorem dL_law_175 : decode cL_law 175 = .ok (.iaload, 1) := by decide +kernel
theorem dL_law_176 : decode cL_law 176 = .ok (.aload_n 0, 1) := by decide +kernel
theorem dL_law_177 : decode cL_law 177 = .ok (.iload_n 3, 1) := by decide +kernel
theorem dL_law_178 : decode cL_law 178 = .ok (.iconst 4, 1) := by decide +kernel
theorem dL_law_179 : decode cL_law 179 = .ok (.iadd, 1) := by decide +kernel
theorem dL_law_180 : decode cL_law 180 = .ok (.iaload, 1) := by decide +kernel
theorem dL_law_181 : decode cL_law 181 = .ok (.invokevirtual 17, 3) := by decide +kernel
theorem dL_law_184 : decode cL_law 184 = .ok (.if_icmp .eq 520, 3) := by decide +kernel
theorem dL_law_187 : decode cL_law 187 = .ok (.iconst 0, 1) := by decide +kernel
theorem dL_law_188 : decode cL_law 188 = .ok (.ireturn, 1) := by decide +kernel
theorem dL_law_189 : decode cL_law 189 = .ok (.aload_n 1, 1) := by decide +kernel
theorem dL_law_190 : decode cL_law 190 = .ok (.aload_n 0, 1) := by decide +kernel
theorem dL_law_191 : decode cL_law 191 = .ok (.iload_n 3, 1) := by decide +kernel
theorem dL_law_192 : decode cL_law 192 = .ok (.iconst 1, 1) := by decide +kernel
theorem dL_law_193 : decode cL_law 193 = .ok (.iadd, 1) := by decide +kernel
theorem dL_law_194 : decode cL_law 194 = .ok (.iaload, 1) := by decide +kernel
theorem dL_law_195 : decode cL_law 195 = .ok (.invokevirtual 18, 3) := by decide +kernel
theorem dL_law_198 : decode cL_law 198 = .ok (.aload_n 2, 1) := by decide +kernel
theorem dL_law_199 : decode cL_law 199 = .ok (.aload_n 0, 1) := by decide +kernel
theorem dL_law_200 : decode cL_law 200 = .ok (.iload_n 3, 1) := by decide +kernel
theorem dL_law_201 : decode cL_law 201 = .ok (.iconst 1, 1) := by decide +kernel
theorem dL_law_202 : decode cL_law 202 = .ok (.iadd, 1) := by decide +kernel
theorem dL_law_203 : decode cL_law 203 = .ok (.iaload, 1) := by decide +kernel
theorem dL_law_204 : decode cL_law 204 = .ok (.invokevirtual 22, 3) := by decide +kernel
theorem dL_law_207 : decode cL_law 207 = .ok (.if_icmp .eq 497, 3) := by decide +kernel
theorem dL_law_210 : decode cL_law 210 = .ok (.iconst 0, 1) := by decide +kernel
theorem dL_law_211 : decode cL_law 211 = .ok (.ireturn, 1) := by decide +kernel
theorem dL_law_212 : decode cL_law 212 = .ok (.aload_n 1, 1) := by decide +kernel
theorem dL_law_213 : decode cL_law 213 = .ok (.aload_n 0, 1) := by decide +kernel
theorem dL_law_214 : decode cL_law 214 = .ok (.iload_n 3, 1) := by decide +kernel
theorem dL_law_215 : decode cL_law 215 = .ok (.iconst 1, 1) := by decide +kernel
theorem dL_law_216 : decode cL_law 216 = .ok (.iadd, 1) := by decide +kernel
theorem dL_law_217 : decode cL_law 217 = .ok (.iaload, 1) := by decide +kernel
theorem dL_law_218 : decode cL_law 218 = .ok (.aload_n 0, 1) := by decide +kernel
theorem dL_law_219 : decode cL_law 219 = .ok (.iload_n 3, 1) := by decide +kernel
theorem dL_law_220 : decode cL_law 220 = .ok (.iconst 2, 1) := by decide +kernel
theorem dL_law_221 : decode cL_law 221 = .ok (.iadd, 1) := by decide +kernel
theorem dL_law_222 : decode cL_law 222 = .ok (.iaload, 1) := by decide +kernel
theorem dL_law_223 : decode cL_law 223 = .ok (.invokevirtual 23, 3) := by decide +kernel
theorem dL_law_226 : decode cL_law 226 = .ok (.aload_n 2, 1) := by decide +kernel
theorem dL_law_227 : decode cL_law 227 = .ok (.aload_n 0, 1) := by decide +kernel
theorem dL_law_228 : decode cL_law 228 = .ok (.iload_n 3, 1) := by decide +kernel
theorem dL_law_229 : decode cL_law 229 = .ok (.iconst 1, 1) := by decide +kernel
theorem dL_law_230 : decode cL_law 230 = .ok (.iadd, 1) := by decide +kernel
theorem dL_law_231 : decode cL_law 231 = .ok (.iaload, 1) := by decide +kernel
theorem dL_law_232 : decode cL_law 232 = .ok (.aload_n 0, 1) := by decide +kernel
theorem dL_law_233 : decode cL_law 233 = .ok (.iload_n 3, 1) := by decide +kernel
theorem dL_law_234 : decode cL_law 234 = .ok (.iconst 2, 1) := by decide +kernel
theorem dL_law_235 : decode cL_law 235 = .ok (.iadd, 1) := by decide +kernel
theorem dL_law_236 : decode cL_law 236 = .ok (.iaload, 1) := by decide +kernel
theorem dL_law_237 : decode cL_law 237 = .ok (.invokevirtual 27, 3) := by decide +kernel
theorem dL_law_240 : decode cL_law 240 = .ok (.if_icmp .eq 464, 3) := by decide +kernel
theorem dL_law_243 : decode cL_law 243 = .ok (.iconst 0, 1) := by decide +kernel
theorem dL_law_244 : decode cL_law 244 = .ok (.ireturn, 1) := by decide +kernel
theorem dL_law_245 : decode cL_law 245 = .ok (.aload_n 1, 1) := by decide +kernel
theorem dL_law_246 : decode cL_law 246 = .ok (.aload_n 0, 1) := by decide +kernel
theorem dL_law_247 : decode cL_law 247 = .ok (.iload_n 3, 1) := by decide +kernel
theorem dL_law_248 : decode cL_law 248 = .ok (.iconst 1, 1) := by decide +kernel
theorem dL_law_249 : decode cL_law 249 = .ok (.iadd, 1) := by decide +kernel
theorem dL_law_250 : decode cL_law 250 = .ok (.iaload, 1) := by decide +kernel
theorem dL_law_251 : decode cL_law 251 = .ok (.aload_n 0, 1) := by decide +kernel
theorem dL_law_252 : decode cL_law 252 = .ok (.iload_n 3, 1) := by decide +kernel
theorem dL_law_253 : decode cL_law 253 = .ok (.iconst 2, 1) := by decide +kernel
theorem dL_law_254 : decode cL_law 254 = .ok (.iadd, 1) := by decide +kernel
theorem dL_law_255 : decode cL_law 255 = .ok (.iaload, 1) := by decide +kernel
theorem dL_law_256 : decode cL_law 256 = .ok (.invokevirtual 28, 3) := by decide +kernel
theorem dL_law_259 : decode cL_law 259 = .ok (.aload_n 2, 1) := by decide +kernel
theorem dL_law_260 : decode cL_law 260 = .ok (.aload_n 0, 1) := by decide +kernel
theorem dL_law_261 : decode cL_law 261 = .ok (.iload_n 3, 1) := by decide +kernel
theorem dL_law_262 : decode cL_law 262 = .ok (.iconst 1, 1) := by decide +kernel
theorem dL_law_263 : decode cL_law 263 = .ok (.iadd, 1) := by decide +kernel
theorem dL_law_264 : decode cL_law 264 = .ok (.iaload, 1) := by decide +kernel
theorem dL_law_265 : decode cL_law 265 = .ok (.aload_n 0, 1) := by decide +kernel
theorem dL_law_266 : decode cL_law 266 = .ok (.iload_n 3, 1) := by decide +kernel
theorem dL_law_267 : decode cL_law 267 = .ok (.iconst 2, 1) := by decide +kernel
end
section
theorem dL_law_268 : decode cL_law 268 = .ok (.iadd, 1) := by decide +kernel
theorem dL_law_269 : decode cL_law 269 = .ok (.iaload, 1) := by decide +kernel
theorem dL_law_270 : decode cL_law 270 = .ok (.invokevirtual 31, 3) := by decide +kernel
theorem dL_law_273 : decode cL_law 273 = .ok (.if_icmp .eq 431, 3) := by decide +kernel
theorem dL_law_276 : decode cL_law 276 = .ok (.iconst 0, 1) := by decide +kernel
theorem dL_law_277 : decode cL_law 277 = .ok (.ireturn, 1) := by decide +kernel
theorem dL_law_278 : decode cL_law 278 = .ok (.aload_n 1, 1) := by decide +kernel
theorem dL_law_279 : decode cL_law 279 = .ok (.aload_n 0, 1) := by decide +kernel
theorem dL_law_280 : decode cL_law 280 = .ok (.iload_n 3, 1) := by decide +kernel
theorem dL_law_281 : decode cL_law 281 = .ok (.iconst 1, 1) := by decide +kernel
theorem dL_law_282 : decode cL_law 282 = .ok (.iadd, 1) := by decide +kernel
theorem dL_law_283 : decode cL_law 283 = .ok (.iaload, 1) := by decide +kernel
theorem dL_law_284 : decode cL_law 284 = .ok (.aload_n 0, 1) := by decide +kernel
theorem dL_law_285 : decode cL_law 285 = .ok (.iload_n 3, 1) := by decide +kernel
theorem dL_law_286 : decode cL_law 286 = .ok (.iconst 2, 1) := by decide +kernel
theorem dL_law_287 : decode cL_law 287 = .ok (.iadd, 1) := by decide +kernel
theorem dL_law_288 : decode cL_law 288 = .ok (.iaload, 1) := by decide +kernel
theorem dL_law_289 : decode cL_law 289 = .ok (.invokevirtual 32, 3) := by decide +kernel
theorem dL_law_292 : decode cL_law 292 = .ok (.aload_n 2, 1) := by decide +kernel
theorem dL_law_293 : decode cL_law 293 = .ok (.aload_n 0, 1) := by decide +kernel
theorem dL_law_294 : decode cL_law 294 = .ok (.iload_n 3, 1) := by decide +kernel
theorem dL_law_295 : decode cL_law 295 = .ok (.iconst 1, 1) := by decide +kernel
theorem dL_law_296 : decode cL_law 296 = .ok (.iadd, 1) := by decide +kernel
theorem dL_law_297 : decode cL_law 297 = .ok (.iaload, 1) := by decide +kernel
theorem dL_law_298 : decode cL_law 298 = .ok (.aload_n 0, 1) := by decide +kernel
theorem dL_law_299 : decode cL_law 299 = .ok (.iload_n 3, 1) := by decide +kernel
theorem dL_law_300 : decode cL_law 300 = .ok (.iconst 2, 1) := by decide +kernel
theorem dL_law_301 : decode cL_law 301 = .ok (.iadd, 1) := by decide +kernel
theorem dL_law_302 : decode cL_law 302 = .ok (.iaload, 1) := by decide +kernel
theorem dL_law_303 : decode cL_law 303 = .ok (.invokevirtual 35, 3) := by decide +kernel
theorem dL_law_306 : decode cL_law 306 = .ok (.if_icmp .eq 398, 3) := by decide +kernel
theorem dL_law_309 : decode cL_law 309 = .ok (.iconst 0, 1) := by decide +kernel
theorem dL_law_310 : decode cL_law 310 = .ok (.ireturn, 1) := by decide +kernel
theorem dL_law_311 : decode cL_law 311 = .ok (.aload_n 1, 1) := by decide +kernel
theorem dL_law_312 : decode cL_law 312 = .ok (.aload_n 0, 1) := by decide +kernel
theorem dL_law_313 : decode cL_law 313 = .ok (.iload_n 3, 1) := by decide +kernel
theorem dL_law_314 : decode cL_law 314 = .ok (.iconst 1, 1) := by decide +kernel
theorem dL_law_315 : decode cL_law 315 = .ok (.iadd, 1) := by decide +kernel
theorem dL_law_316 : decode cL_law 316 = .ok (.iaload, 1) := by decide +kernel
theorem dL_law_317 : decode cL_law 317 = .ok (.aload_n 0, 1) := by decide +kernel
theorem dL_law_318 : decode cL_law 318 = .ok (.iload_n 3, 1) := by decide +kernel
theorem dL_law_319 : decode cL_law 319 = .ok (.iconst 2, 1) := by decide +kernel
theorem dL_law_320 : decode cL_law 320 = .ok (.iadd, 1) := by decide +kernel
theorem dL_law_321 : decode cL_law 321 = .ok (.iaload, 1) := by decide +kernel
theorem dL_law_322 : decode cL_law 322 = .ok (.invokevirtual 36, 3) := by decide +kernel
theorem dL_law_325 : decode cL_law 325 = .ok (.aload_n 2, 1) := by decide +kernel
theorem dL_law_326 : decode cL_law 326 = .ok (.aload_n 0, 1) := by decide +kernel
theorem dL_law_327 : decode cL_law 327 = .ok (.iload_n 3, 1) := by decide +kernel
theorem dL_law_328 : decode cL_law 328 = .ok (.iconst 1, 1) := by decide +kernel
theorem dL_law_329 : decode cL_law 329 = .ok (.iadd, 1) := by decide +kernel
theorem dL_law_330 : decode cL_law 330 = .ok (.iaload, 1) := by decide +kernel
theorem dL_law_331 : decode cL_law 331 = .ok (.aload_n 0, 1) := by decide +kernel
theorem dL_law_332 : decode cL_law 332 = .ok (.iload_n 3, 1) := by decide +kernel
theorem dL_law_333 : decode cL_law 333 = .ok (.iconst 2, 1) := by decide +kernel
theorem dL_law_334 : decode cL_law 334 = .ok (.iadd, 1) := by decide +kernel
theorem dL_law_335 : decode cL_law 335 = .ok (.iaload, 1) := by decide +kernel
theorem dL_law_336 : decode cL_law 336 = .ok (.invokevirtual 39, 3) := by decide +kernel
theorem dL_law_339 : decode cL_law 339 = .ok (.if_icmp .eq 365, 3) := by decide +kernel
theorem dL_law_342 : decode cL_law 342 = .ok (.iconst 0, 1) := by decide +kernel
theorem dL_law_343 : decode cL_law 343 = .ok (.ireturn, 1) := by decide +kernel
theorem dL_law_344 : decode cL_law 344 = .ok (.aload_n 1, 1) := by decide +kernel
theorem dL_law_345 : decode cL_law 345 = .ok (.aload_n 0, 1) := by decide +kernel
theorem dL_law_346 : decode cL_law 346 = .ok (.iload_n 3, 1) := by decide +kernel
theorem dL_law_347 : decode cL_law 347 = .ok (.iconst 1, 1) := by decide +kernel
theorem dL_law_348 : decode cL_law 348 = .ok (.iadd, 1) := by decide +kernel
theorem dL_law_349 : decode cL_law 349 = .ok (.iaload, 1) := by decide +kernel
theorem dL_law_350 : decode cL_law 350 = .ok (.invokevirtual 40, 3) := by decide +kernel
theorem dL_law_353 : decode cL_law 353 = .ok (.aload_n 2, 1) := by decide +kernel
theorem dL_law_354 : decode cL_law 354 = .ok (.aload_n 0, 1) := by decide +kernel
theorem dL_law_355 : decode cL_law 355 = .ok (.iload_n 3, 1) := by decide +kernel
theorem dL_law_356 : decode cL_law 356 = .ok (.iconst 1, 1) := by decide +kernel
theorem dL_law_357 : decode cL_law 357 = .ok (.iadd, 1) := by decide +kernel
theorem dL_law_358 : decode cL_law 358 = .ok (.iaload, 1) := by decide +kernel
theorem dL_law_359 : decode cL_law 359 = .ok (.invokevirtual 43, 3) := by decide +kernel
theorem dL_law_362 : decode cL_law 362 = .ok (.if_icmp .eq 342, 3) := by decide +kernel
theorem dL_law_365 : decode cL_law 365 = .ok (.iconst 0, 1) := by decide +kernel
theorem dL_law_366 : decode cL_law 366 = .ok (.ireturn, 1) := by decide +kernel
theorem dL_law_367 : decode cL_law 367 = .ok (.aload_n 1, 1) := by decide +kernel
theorem dL_law_368 : decode cL_law 368 = .ok (.aload_n 0, 1) := by decide +kernel
theorem dL_law_369 : decode cL_law 369 = .ok (.iload_n 3, 1) := by decide +kernel
theorem dL_law_370 : decode cL_law 370 = .ok (.iconst 1, 1) := by decide +kernel
theorem dL_law_371 : decode cL_law 371 = .ok (.iadd, 1) := by decide +kernel
theorem dL_law_372 : decode cL_law 372 = .ok (.iaload, 1) := by decide +kernel
theorem dL_law_373 : decode cL_law 373 = .ok (.i2c, 1) := by decide +kernel
theorem dL_law_374 : decode cL_law 374 = .ok (.invokevirtual 44, 3) := by decide +kernel
theorem dL_law_377 : decode cL_law 377 = .ok (.aload_n 2, 1) := by decide +kernel
theorem dL_law_378 : decode cL_law 378 = .ok (.aload_n 0, 1) := by decide +kernel
theorem dL_law_379 : decode cL_law 379 = .ok (.iload_n 3, 1) := by decide +kernel
theorem dL_law_380 : decode cL_law 380 = .ok (.iconst 1, 1) := by decide +kernel
theorem dL_law_381 : decode cL_law 381 = .ok (.iadd, 1) := by decide +kernel
theorem dL_law_382 : decode cL_law 382 = .ok (.iaload, 1) := by decide +kernel
theorem dL_law_383 : decode cL_law 383 = .ok (.i2c, 1) := by decide +kernel
theorem dL_law_384 : decode cL_law 384 = .ok (.invokevirtual 48, 3) := by decide +kernel
theorem dL_law_387 : decode cL_law 387 = .ok (.if_icmp .eq 317, 3) := by decide +kernel
theorem dL_law_390 : decode cL_law 390 = .ok (.iconst 0, 1) := by decide +kernel
theorem dL_law_391 : decode cL_law 391 = .ok (.ireturn, 1) := by decide +kernel
theorem dL_law_392 : decode cL_law 392 = .ok (.aload_n 1, 1) := by decide +kernel
theorem dL_law_393 : decode cL_law 393 = .ok (.invokevirtual 49, 3) := by decide +kernel
theorem dL_law_396 : decode cL_law 396 = .ok (.aload_n 2, 1) := by decide +kernel
theorem dL_law_397 : decode cL_law 397 = .ok (.invokevirtual 53, 3) := by decide +kernel
theorem dL_law_400 : decode cL_law 400 = .ok (.if_icmp .eq 304, 3) := by decide +kernel
theorem dL_law_403 : decode cL_law 403 = .ok (.iconst 0, 1) := by decide +kernel
theorem dL_law_404 : decode cL_law 404 = .ok (.ireturn, 1) := by decide +kernel
theorem dL_law_405 : decode cL_law 405 = .ok (.aload_n 1, 1) := by decide +kernel
theorem dL_law_406 : decode cL_law 406 = .ok (.invokevirtual 54, 3) := by decide +kernel
theorem dL_law_409 : decode cL_law 409 = .ok (.aload_n 2, 1) := by decide +kernel
theorem dL_law_410 : decode cL_law 410 = .ok (.invokevirtual 57, 3) := by decide +kernel
theorem dL_law_413 : decode cL_law 413 = .ok (.if_icmp .eq 291, 3) := by decide +kernel
theorem dL_law_416 : decode cL_law 416 = .ok (.iconst 0, 1) := by decide +kernel
theorem dL_law_417 : decode cL_law 417 = .ok (.ireturn, 1) := by decide +kernel
theorem dL_law_418 : decode cL_law 418 = .ok (.aload_n 1, 1) := by decide +kernel
theorem dL_law_419 : decode cL_law 419 = .ok (.aload_n 0, 1) := by decide +kernel
theorem dL_law_420 : decode cL_law 420 = .ok (.iload_n 3, 1) := by decide +kernel
theorem dL_law_421 : decode cL_law 421 = .ok (.iconst 1, 1) := by decide +kernel
theorem dL_law_422 : decode cL_law 422 = .ok (.iadd, 1) := by decide +kernel
theorem dL_law_423 : decode cL_law 423 = .ok (.iaload, 1) := by decide +kernel
theorem dL_law_424 : decode cL_law 424 = .ok (.invokevirtual 58, 3) := by decide +kernel
theorem dL_law_427 : decode cL_law 427 = .ok (.aload_n 2, 1) := by decide +kernel
theorem dL_law_428 : decode cL_law 428 = .ok (.aload_n 0, 1) := by decide +kernel
theorem dL_law_429 : decode cL_law 429 = .ok (.iload_n 3, 1) := by decide +kernel
theorem dL_law_430 : decode cL_law 430 = .ok (.iconst 1, 1) := by decide +kernel
theorem dL_law_431 : decode cL_law 431 = .ok (.iadd, 1) := by decide +kernel
theorem dL_law_432 : decode cL_law 432 = .ok (.iaload, 1) := by decide +kernel
theorem dL_law_433 : decode cL_law 433 = .ok (.invokevirtual 61, 3) := by decide +kernel
theorem dL_law_436 : decode cL_law 436 = .ok (.if_icmp .eq 268, 3) := by decide +kernel
theorem dL_law_439 : decode cL_law 439 = .ok (.iconst 0, 1) := by decide +kernel
theorem dL_law_440 : decode cL_law 440 = .ok (.ireturn, 1) := by decide +kernel
theorem dL_law_441 : decode cL_law 441 = .ok (.aload_n 1, 1) := by decide +kernel
theorem dL_law_442 : decode cL_law 442 = .ok (.invokevirtual 62, 3) := by decide +kernel
theorem dL_law_445 : decode cL_law 445 = .ok (.aload_n 2, 1) := by decide +kernel
theorem dL_law_446 : decode cL_law 446 = .ok (.invokevirtual 65, 3) := by decide +kernel
theorem dL_law_449 : decode cL_law 449 = .ok (.if_icmp .eq 255, 3) := by decide +kernel
theorem dL_law_452 : decode cL_law 452 = .ok (.iconst 0, 1) := by decide +kernel
theorem dL_law_453 : decode cL_law 453 = .ok (.ireturn, 1) := by decide +kernel
theorem dL_law_454 : decode cL_law 454 = .ok (.aload_n 1, 1) := by decide +kernel
theorem dL_law_455 : decode cL_law 455 = .ok (.invokevirtual 66, 3) := by decide +kernel
theorem dL_law_458 : decode cL_law 458 = .ok (.aload_n 2, 1) := by decide +kernel
theorem dL_law_459 : decode cL_law 459 = .ok (.invokevirtual 69, 3) := by decide +kernel
theorem dL_law_462 : decode cL_law 462 = .ok (.if_icmp .eq 242, 3) := by decide +kernel
theorem dL_law_465 : decode cL_law 465 = .ok (.iconst 0, 1) := by decide +kernel
theorem dL_law_466 : decode cL_law 466 = .ok (.ireturn, 1) := by decide +kernel
theorem dL_law_467 : decode cL_law 467 = .ok (.aload_n 1, 1) := by decide +kernel
theorem dL_law_468 : decode cL_law 468 = .ok (.invokevirtual 70, 3) := by decide +kernel
theorem dL_law_471 : decode cL_law 471 = .ok (.aload_n 2, 1) := by decide +kernel
theorem dL_law_472 : decode cL_law 472 = .ok (.invokevirtual 73, 3) := by decide +kernel
theorem dL_law_475 : decode cL_law 475 = .ok (.if_icmp .eq 229, 3) := by decide +kernel
theorem dL_law_478 : decode cL_law 478 = .ok (.iconst 0, 1) := by decide +kernel
theorem dL_law_479 : decode cL_law 479 = .ok (.ireturn, 1) := by decide +kernel
theorem dL_law_480 : decode cL_law 480 = .ok (.aload_n 1, 1) := by decide +kernel
theorem dL_law_481 : decode cL_law 481 = .ok (.aload_n 0, 1) := by decide +kernel
theorem dL_law_482 : decode cL_law 482 = .ok (.iload_n 3, 1) := by decide +kernel
theorem dL_law_483 : decode cL_law 483 = .ok (.iconst 1, 1) := by decide +kernel
theorem dL_law_484 : decode cL_law 484 = .ok (.iadd, 1) := by decide +kernel
theorem dL_law_485 : decode cL_law 485 = .ok (.iaload, 1) := by decide +kernel
theorem dL_law_486 : decode cL_law 486 = .ok (.aload_n 0, 1) := by decide +kernel
theorem dL_law_487 : decode cL_law 487 = .ok (.iload_n 3, 1) := by decide +kernel
theorem dL_law_488 : decode cL_law 488 = .ok (.iconst 2, 1) := by decide +kernel
theorem dL_law_489 : decode cL_law 489 = .ok (.iadd, 1) := by decide +kernel
theorem dL_law_490 : decode cL_law 490 = .ok (.iaload, 1) := by decide +kernel
theorem dL_law_491 : decode cL_law 491 = .ok (.invokevirtual 74, 3) := by decide +kernel
theorem dL_law_494 : decode cL_law 494 = .ok (.aload_n 2, 1) := by decide +kernel
theorem dL_law_495 : decode cL_law 495 = .ok (.aload_n 0, 1) := by decide +kernel
theorem dL_law_496 : decode cL_law 496 = .ok (.iload_n 3, 1) := by decide +kernel
theorem dL_law_497 : decode cL_law 497 = .ok (.iconst 1, 1) := by decide +kernel
theorem dL_law_498 : decode cL_law 498 = .ok (.iadd, 1) := by decide +kernel
theorem dL_law_499 : decode cL_law 499 = .ok (.iaload, 1) := by decide +kernel
theorem dL_law_500 : decode cL_law 500 = .ok (.aload_n 0, 1) := by decide +kernel
theorem dL_law_501 : decode cL_law 501 = .ok (.iload_n 3, 1) := by decide +kernel
theorem dL_law_502 : decode cL_law 502 = .ok (.iconst 2, 1) := by decide +kernel
theorem dL_law_503 : decode cL_law 503 = .ok (.iadd, 1) := by decide +kernel
theorem dL_law_504 : decode cL_law 504 = .ok (.iaload, 1) := by decide +kernel
theorem dL_law_505 : decode cL_law 505 = .ok (.invokevirtual 77, 3) := by decide +kernel
theorem dL_law_508 : decode cL_law 508 = .ok (.if_icmp .eq 196, 3) := by decide +kernel
theorem dL_law_511 : decode cL_law 511 = .ok (.iconst 0, 1) := by decide +kernel
theorem dL_law_512 : decode cL_law 512 = .ok (.ireturn, 1) := by decide +kernel
theorem dL_law_513 : decode cL_law 513 = .ok (.aload_n 1, 1) := by decide +kernel
theorem dL_law_514 : decode cL_law 514 = .ok (.aload_n 0, 1) := by decide +kernel
theorem dL_law_515 : decode cL_law 515 = .ok (.iload_n 3, 1) := by decide +kernel
theorem dL_law_516 : decode cL_law 516 = .ok (.iconst 1, 1) := by decide +kernel
theorem dL_law_517 : decode cL_law 517 = .ok (.iadd, 1) := by decide +kernel
theorem dL_law_518 : decode cL_law 518 = .ok (.iaload, 1) := by decide +kernel
theorem dL_law_519 : decode cL_law 519 = .ok (.aload_n 0, 1) := by decide +kernel
theorem dL_law_520 : decode cL_law 520 = .ok (.iload_n 3, 1) := by decide +kernel
theorem dL_law_521 : decode cL_law 521 = .ok (.iconst 2, 1) := by decide +kernel
theorem dL_law_522 : decode cL_law 522 = .ok (.iadd, 1) := by decide +kernel
theorem dL_law_523 : decode cL_law 523 = .ok (.iaload, 1) := by decide +kernel
theorem dL_law_524 : decode cL_law 524 = .ok (.aload_n 0, 1) := by decide +kernel
theorem dL_law_525 : decode cL_law 525 = .ok (.iload_n 3, 1) := by decide +kernel
theorem dL_law_526 : decode cL_law 526 = .ok (.iconst 3, 1) := by decide +kernel
theorem dL_law_527 : decode cL_law 527 = .ok (.iadd, 1) := by decide +kernel
theorem dL_law_528 : decode cL_law 528 = .ok (.iaload, 1) := by decide +kernel
theorem dL_law_529 : decode cL_law 529 = .ok (.invokevirtual 78, 3) := by decide +kernel
theorem dL_law_532 : decode cL_law 532 = .ok (.aload_n 2, 1) := by decide +kernel
theorem dL_law_533 : decode cL_law 533 = .ok (.aload_n 0, 1) := by decide +kernel
theorem dL_law_534 : decode cL_law 534 = .ok (.iload_n 3, 1) := by decide +kernel
theorem dL_law_535 : decode cL_law 535 = .ok (.iconst 1, 1) := by decide +kernel
theorem dL_law_536 : decode cL_law 536 = .ok (.iadd, 1) := by decide +kernel
theorem dL_law_537 : decode cL_law 537 = .ok (.iaload, 1) := by decide +kernel
theorem dL_law_538 : decode cL_law 538 = .ok (.aload_n 0, 1) := by decide +kernel
theorem dL_law_539 : decode cL_law 539 = .ok (.iload_n 3, 1) := by decide +kernel
theorem dL_law_540 : decode cL_law 540 = .ok (.iconst 2, 1) := by decide +kernel
theorem dL_law_541 : decode cL_law 541 = .ok (.iadd, 1) := by decide +kernel
theorem dL_law_542 : decode cL_law 542 = .ok (.iaload, 1) := by decide +kernel
theorem dL_law_543 : decode cL_law 543 = .ok (.aload_n 0, 1) := by decide +kernel
theorem dL_law_544 : decode cL_law 544 = .ok (.iload_n 3, 1) := by decide +kernel
theorem dL_law_545 : decode cL_law 545 = .ok (.iconst 3, 1) := by decide +kernel
theorem dL_law_546 : decode cL_law 546 = .ok (.iadd, 1) := by decide +kernel
theorem dL_law_547 : decode cL_law 547 = .ok (.iaload, 1) := by decide +kernel
theorem dL_law_548 : decode cL_law 548 = .ok (.invokevirtual 82, 3) := by decide +kernel
theorem dL_law_551 : decode cL_law 551 = .ok (.if_icmp .eq 153, 3) := by decide +kernel
theorem dL_law_554 : decode cL_law 554 = .ok (.iconst 0, 1) := by decide +kernel
theorem dL_law_555 : decode cL_law 555 = .ok (.ireturn, 1) := by decide +kernel
theorem dL_law_556 : decode cL_law 556 = .ok (.aload_n 1, 1) := by decide +kernel
theorem dL_law_557 : decode cL_law 557 = .ok (.aload_n 0, 1) := by decide +kernel
theorem dL_law_558 : decode cL_law 558 = .ok (.iload_n 3, 1) := by decide +kernel
theorem dL_law_559 : decode cL_law 559 = .ok (.iconst 1, 1) := by decide +kernel
theorem dL_law_560 : decode cL_law 560 = .ok (.iadd, 1) := by decide +kernel
theorem dL_law_561 : decode cL_law 561 = .ok (.iaload, 1) := by decide +kernel
theorem dL_law_562 : decode cL_law 562 = .ok (.aload_n 0, 1) := by decide +kernel
theorem dL_law_563 : decode cL_law 563 = .ok (.iload_n 3, 1) := by decide +kernel
theorem dL_law_564 : decode cL_law 564 = .ok (.iconst 2, 1) := by decide +kernel
theorem dL_law_565 : decode cL_law 565 = .ok (.iadd, 1) := by decide +kernel
theorem dL_law_566 : decode cL_law 566 = .ok (.iaload, 1) := by decide +kernel
theorem dL_law_567 : decode cL_law 567 = .ok (.invokevirtual 83, 3) := by decide +kernel
theorem dL_law_570 : decode cL_law 570 = .ok (.aload_n 2, 1) := by decide +kernel
theorem dL_law_571 : decode cL_law 571 = .ok (.aload_n 0, 1) := by decide +kernel
theorem dL_law_572 : decode cL_law 572 = .ok (.iload_n 3, 1) := by decide +kernel
theorem dL_law_573 : decode cL_law 573 = .ok (.iconst 1, 1) := by decide +kernel
theorem dL_law_574 : decode cL_law 574 = .ok (.iadd, 1) := by decide +kernel
theorem dL_law_575 : decode cL_law 575 = .ok (.iaload, 1) := by decide +kernel
theorem dL_law_576 : decode cL_law 576 = .ok (.aload_n 0, 1) := by decide +kernel
theorem dL_law_577 : decode cL_law 577 = .ok (.iload_n 3, 1) := by decide +kernel
theorem dL_law_578 : decode cL_law 578 = .ok (.iconst 2, 1) := by decide +kernel
theorem dL_law_579 : decode cL_law 579 = .ok (.iadd, 1) := by decide +kernel
theorem dL_law_580 : decode cL_law 580 = .ok (.iaload, 1) := by decide +kernel
theorem dL_law_581 : decode cL_law 581 = .ok (.invokevirtual 86, 3) := by decide +kernel
theorem dL_law_584 : decode cL_law 584 = .ok (.if_icmp .eq 120, 3) := by decide +kernel
theorem dL_law_587 : decode cL_law 587 = .ok (.iconst 0, 1) := by decide +kernel
theorem dL_law_588 : decode cL_law 588 = .ok (.ireturn, 1) := by decide +kernel
theorem dL_law_589 : decode cL_law 589 = .ok (.aload_n 1, 1) := by decide +kernel
theorem dL_law_590 : decode cL_law 590 = .ok (.aload_n 0, 1) := by decide +kernel
theorem dL_law_591 : decode cL_law 591 = .ok (.iload_n 3, 1) := by decide +kernel
theorem dL_law_592 : decode cL_law 592 = .ok (.iconst 1, 1) := by decide +kernel
theorem dL_law_593 : decode cL_law 593 = .ok (.iadd, 1) := by decide +kernel
theorem dL_law_594 : decode cL_law 594 = .ok (.iaload, 1) := by decide +kernel
theorem dL_law_595 : decode cL_law 595 = .ok (.aload_n 0, 1) := by decide +kernel
theorem dL_law_596 : decode cL_law 596 = .ok (.iload_n 3, 1) := by decide +kernel
theorem dL_law_597 : decode cL_law 597 = .ok (.iconst 2, 1) := by decide +kernel
theorem dL_law_598 : decode cL_law 598 = .ok (.iadd, 1) := by decide +kernel
theorem dL_law_599 : decode cL_law 599 = .ok (.iaload, 1) := by decide +kernel
theorem dL_law_600 : decode cL_law 600 = .ok (.invokevirtual 87, 3) := by decide +kernel
theorem dL_law_603 : decode cL_law 603 = .ok (.aload_n 2, 1) := by decide +kernel
theorem dL_law_604 : decode cL_law 604 = .ok (.aload_n 0, 1) := by decide +kernel
theorem dL_law_605 : decode cL_law 605 = .ok (.iload_n 3, 1) := by decide +kernel
theorem dL_law_606 : decode cL_law 606 = .ok (.iconst 1, 1) := by decide +kernel
theorem dL_law_607 : decode cL_law 607 = .ok (.iadd, 1) := by decide +kernel
theorem dL_law_608 : decode cL_law 608 = .ok (.iaload, 1) := by decide +kernel
theorem dL_law_609 : decode cL_law 609 = .ok (.aload_n 0, 1) := by decide +kernel
theorem dL_law_610 : decode cL_law 610 = .ok (.iload_n 3, 1) := by decide +kernel
theorem dL_law_611 : decode cL_law 611 = .ok (.iconst 2, 1) := by decide +kernel
theorem dL_law_612 : decode cL_law 612 = .ok (.iadd, 1) := by decide +kernel
theorem dL_law_613 : decode cL_law 613 = .ok (.iaload, 1) := by decide +kernel
theorem dL_law_614 : decode cL_law 614 = .ok (.invokevirtual 90, 3) := by decide +kernel
theorem dL_law_617 : decode cL_law 617 = .ok (.if_icmp .eq 87, 3) := by decide +kernel
theorem dL_law_620 : decode cL_law 620 = .ok (.iconst 0, 1) := by decide +kernel
theorem dL_law_621 : decode cL_law 621 = .ok (.ireturn, 1) := by decide +kernel
theorem dL_law_622 : decode cL_law 622 = .ok (.aload_n 1, 1) := by decide +kernel
theorem dL_law_623 : decode cL_law 623 = .ok (.invokevirtual 91, 3) := by decide +kernel
theorem dL_law_626 : decode cL_law 626 = .ok (.aload_n 2, 1) := by decide +kernel
theorem dL_law_627 : decode cL_law 627 = .ok (.invokevirtual 94, 3) := by decide +kernel
theorem dL_law_630 : decode cL_law 630 = .ok (.if_icmp .eq 74, 3) := by decide +kernel
theorem dL_law_633 : decode cL_law 633 = .ok (.iconst 0, 1) := by decide +kernel
theorem dL_law_634 : decode cL_law 634 = .ok (.ireturn, 1) := by decide +kernel
theorem dL_law_635 : decode cL_law 635 = .ok (.aload_n 1, 1) := by decide +kernel
theorem dL_law_636 : decode cL_law 636 = .ok (.invokevirtual 95, 3) := by decide +kernel
theorem dL_law_639 : decode cL_law 639 = .ok (.aload_n 2, 1) := by decide +kernel
theorem dL_law_640 : decode cL_law 640 = .ok (.invokevirtual 98, 3) := by decide +kernel
theorem dL_law_643 : decode cL_law 643 = .ok (.if_icmp .eq 61, 3) := by decide +kernel
theorem dL_law_646 : decode cL_law 646 = .ok (.iconst 0, 1) := by decide +kernel
theorem dL_law_647 : decode cL_law 647 = .ok (.ireturn, 1) := by decide +kernel
theorem dL_law_648 : decode cL_law 648 = .ok (.aload_n 1, 1) := by decide +kernel
theorem dL_law_649 : decode cL_law 649 = .ok (.aload_n 0, 1) := by decide +kernel
theorem dL_law_650 : decode cL_law 650 = .ok (.iload_n 3, 1) := by decide +kernel
theorem dL_law_651 : decode cL_law 651 = .ok (.iconst 1, 1) := by decide +kernel
theorem dL_law_652 : decode cL_law 652 = .ok (.iadd, 1) := by decide +kernel
theorem dL_law_653 : decode cL_law 653 = .ok (.iaload, 1) := by decide +kernel
theorem dL_law_654 : decode cL_law 654 = .ok (.aload_n 0, 1) := by decide +kernel
theorem dL_law_655 : decode cL_law 655 = .ok (.iload_n 3, 1) := by decide +kernel
theorem dL_law_656 : decode cL_law 656 = .ok (.iconst 2, 1) := by decide +kernel
theorem dL_law_657 : decode cL_law 657 = .ok (.iadd, 1) := by decide +kernel
theorem dL_law_658 : decode cL_law 658 = .ok (.iaload, 1) := by decide +kernel
theorem dL_law_659 : decode cL_law 659 = .ok (.invokevirtual 99, 3) := by decide +kernel
theorem dL_law_662 : decode cL_law 662 = .ok (.aload_n 2, 1) := by decide +kernel
theorem dL_law_663 : decode cL_law 663 = .ok (.aload_n 0, 1) := by decide +kernel
theorem dL_law_664 : decode cL_law 664 = .ok (.iload_n 3, 1) := by decide +kernel
theorem dL_law_665 : decode cL_law 665 = .ok (.iconst 1, 1) := by decide +kernel
theorem dL_law_666 : decode cL_law 666 = .ok (.iadd, 1) := by decide +kernel
theorem dL_law_667 : decode cL_law 667 = .ok (.iaload, 1) := by decide +kernel
theorem dL_law_668 : decode cL_law 668 = .ok (.aload_n 0, 1) := by decide +kernel
theorem dL_law_669 : decode cL_law 669 = .ok (.iload_n 3, 1) := by decide +kernel
theorem dL_law_670 : decode cL_law 670 = .ok (.iconst 2, 1) := by decide +kernel
theorem dL_law_671 : decode cL_law 671 = .ok (.iadd, 1) := by decide +kernel
theorem dL_law_672 : decode cL_law 672 = .ok (.iaload, 1) := by decide +kernel
theorem dL_law_673 : decode cL_law 673 = .ok (.invokevirtual 102, 3) := by decide +kernel
theorem dL_law_676 : decode cL_law 676 = .ok (.if_icmp .eq 28, 3) := by decide +kernel
theorem dL_law_679 : decode cL_law 679 = .ok (.iconst 0, 1) := by decide +kernel
theorem dL_law_680 : decode cL_law 680 = .ok (.ireturn, 1) := by decide +kernel
theorem dL_law_681 : decode cL_law 681 = .ok (.aload_n 1, 1) := by decide +kernel
theorem dL_law_682 : decode cL_law 682 = .ok (.aload_n 0, 1) := by decide +kernel
theorem dL_law_683 : decode cL_law 683 = .ok (.iload_n 3, 1) := by decide +kernel
theorem dL_law_684 : decode cL_law 684 = .ok (.iconst 1, 1) := by decide +kernel
theorem dL_law_685 : decode cL_law 685 = .ok (.iadd, 1) := by decide +kernel
theorem dL_law_686 : decode cL_law 686 = .ok (.iaload, 1) := by decide +kernel
theorem dL_law_687 : decode cL_law 687 = .ok (.invokevirtual 103, 3) := by decide +kernel
theorem dL_law_690 : decode cL_law 690 = .ok (.aload_n 2, 1) := by decide +kernel
theorem dL_law_691 : decode cL_law 691 = .ok (.aload_n 0, 1) := by decide +kernel
theorem dL_law_692 : decode cL_law 692 = .ok (.iload_n 3, 1) := by decide +kernel
theorem dL_law_693 : decode cL_law 693 = .ok (.iconst 1, 1) := by decide +kernel
theorem dL_law_694 : decode cL_law 694 = .ok (.iadd, 1) := by decide +kernel
theorem dL_law_695 : decode cL_law 695 = .ok (.iaload, 1) := by decide +kernel
theorem dL_law_696 : decode cL_law 696 = .ok (.invokevirtual 106, 3) := by decide +kernel
theorem dL_law_699 : decode cL_law 699 = .ok (.if_icmp .eq 5, 3) := by decide +kernel
theorem dL_law_702 : decode cL_law 702 = .ok (.iconst 0, 1) := by decide +kernel
theorem dL_law_703 : decode cL_law 703 = .ok (.ireturn, 1) := by decide +kernel
theorem dL_law_704 : decode cL_law 704 = .ok (.iinc 3 5, 3) := by decide +kernel
theorem dL_law_707 : decode cL_law 707 = .ok (.goto (-689), 3) := by decide +kernel
theorem dL_law_710 : decode cL_law 710 = .ok (.iconst 1, 1) := by decide +kernel
theorem dL_law_711 : decode cL_law 711 = .ok (.ireturn, 1) := by decide +kernel
end
