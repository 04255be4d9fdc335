section
-- ===== PART A: goes FIRST, ahead of the names: the tables' words, and 'selects' of the private methods out of them =====
/-- a private method of a class that the tables say can be made, by its rows of tables_1 -/
def lw_okq (q : MethodName × Nat) : Prop := (q.1.cls ≠ "java/lang/invoke/MethodHandle" ∧ q.1.cls ≠ "java/lang/invoke/VarHandle") ∧ Cond.instantiable q.1.cls q.2 ∈ tables_1 ∧ Cond.privateMethod q.1 ∈ tables_1 ∧ Cond.instanceMethod q.1 ∈ tables_1
theorem lw_p0 : lw_okq (⟨"PulledWires", "recorded", "(I)I"⟩, 9) := ⟨⟨by decide +kernel, by decide +kernel⟩, List.mem_of_getElem? (i := 16) (by decide +kernel), List.mem_of_getElem? (i := 257) (by decide +kernel), List.mem_of_getElem? (i := 258) (by decide +kernel)⟩
theorem lw_p1 : lw_okq (⟨"PulledWires$State", "listenerWith", "(I)LPulledWires$Listener;"⟩, 11) := ⟨⟨by decide +kernel, by decide +kernel⟩, List.mem_of_getElem? (i := 24) (by decide +kernel), List.mem_of_getElem? (i := 285) (by decide +kernel), List.mem_of_getElem? (i := 286) (by decide +kernel)⟩
theorem lw_p2 : lw_okq (⟨"PulledWires$State", "listenersWithAddress", "()I"⟩, 11) := ⟨⟨by decide +kernel, by decide +kernel⟩, List.mem_of_getElem? (i := 24) (by decide +kernel), List.mem_of_getElem? (i := 289) (by decide +kernel), List.mem_of_getElem? (i := 290) (by decide +kernel)⟩
theorem lw_p3 : lw_okq (⟨"PulledWires$State", "stuckListeners", "()I"⟩, 11) := ⟨⟨by decide +kernel, by decide +kernel⟩, List.mem_of_getElem? (i := 24) (by decide +kernel), List.mem_of_getElem? (i := 309) (by decide +kernel), List.mem_of_getElem? (i := 310) (by decide +kernel)⟩
theorem lw_p4 : lw_okq (⟨"PulledWires$State", "stuckTick", "()V"⟩, 11) := ⟨⟨by decide +kernel, by decide +kernel⟩, List.mem_of_getElem? (i := 24) (by decide +kernel), List.mem_of_getElem? (i := 351) (by decide +kernel), List.mem_of_getElem? (i := 352) (by decide +kernel)⟩
theorem lw_p5 : lw_okq (⟨"PulledWires$State", "lose", "(I)V"⟩, 11) := ⟨⟨by decide +kernel, by decide +kernel⟩, List.mem_of_getElem? (i := 24) (by decide +kernel), List.mem_of_getElem? (i := 366) (by decide +kernel), List.mem_of_getElem? (i := 367) (by decide +kernel)⟩
theorem lw_p6 : lw_okq (⟨"PulledWires$State", "endTalkIfEmpty", "()V"⟩, 11) := ⟨⟨by decide +kernel, by decide +kernel⟩, List.mem_of_getElem? (i := 24) (by decide +kernel), List.mem_of_getElem? (i := 374) (by decide +kernel), List.mem_of_getElem? (i := 375) (by decide +kernel)⟩
theorem lw_p7 : lw_okq (⟨"PulledWires$State", "sendBit", "()V"⟩, 11) := ⟨⟨by decide +kernel, by decide +kernel⟩, List.mem_of_getElem? (i := 24) (by decide +kernel), List.mem_of_getElem? (i := 385) (by decide +kernel), List.mem_of_getElem? (i := 386) (by decide +kernel)⟩
theorem lw_p8 : lw_okq (⟨"PulledWires$State", "partOfTalk", "(I)I"⟩, 11) := ⟨⟨by decide +kernel, by decide +kernel⟩, List.mem_of_getElem? (i := 24) (by decide +kernel), List.mem_of_getElem? (i := 405) (by decide +kernel), List.mem_of_getElem? (i := 406) (by decide +kernel)⟩
theorem lw_p9 : lw_okq (⟨"PulledWires$State", "awaitAnswer", "()V"⟩, 11) := ⟨⟨by decide +kernel, by decide +kernel⟩, List.mem_of_getElem? (i := 24) (by decide +kernel), List.mem_of_getElem? (i := 413) (by decide +kernel), List.mem_of_getElem? (i := 414) (by decide +kernel)⟩
theorem lw_p10 : lw_okq (⟨"PulledWires$Speaker", "removeFirst", "()V"⟩, 8) := ⟨⟨by decide +kernel, by decide +kernel⟩, List.mem_of_getElem? (i := 50) (by decide +kernel), List.mem_of_getElem? (i := 425) (by decide +kernel), List.mem_of_getElem? (i := 426) (by decide +kernel)⟩
theorem lw_p11 : lw_okq (⟨"PulledWires$State", "freeTick", "()V"⟩, 11) := ⟨⟨by decide +kernel, by decide +kernel⟩, List.mem_of_getElem? (i := 24) (by decide +kernel), List.mem_of_getElem? (i := 441) (by decide +kernel), List.mem_of_getElem? (i := 442) (by decide +kernel)⟩
theorem lw_p12 : lw_okq (⟨"PulledWires$OrderText", "readName", "()Z"⟩, 5) := ⟨⟨by decide +kernel, by decide +kernel⟩, List.mem_of_getElem? (i := 163) (by decide +kernel), List.mem_of_getElem? (i := 482) (by decide +kernel), List.mem_of_getElem? (i := 483) (by decide +kernel)⟩
theorem lw_p13 : lw_okq (⟨"PulledWires$OrderText", "sameCharacters", "(Ljava/lang/String;)I"⟩, 5) := ⟨⟨by decide +kernel, by decide +kernel⟩, List.mem_of_getElem? (i := 163) (by decide +kernel), List.mem_of_getElem? (i := 494) (by decide +kernel), List.mem_of_getElem? (i := 495) (by decide +kernel)⟩
theorem lw_p14 : lw_okq (⟨"PulledWires$OrderText", "isCharacter", "(IC)Z"⟩, 5) := ⟨⟨by decide +kernel, by decide +kernel⟩, List.mem_of_getElem? (i := 163) (by decide +kernel), List.mem_of_getElem? (i := 546) (by decide +kernel), List.mem_of_getElem? (i := 547) (by decide +kernel)⟩
theorem lw_p15 : lw_okq (⟨"PulledWires$OrderText", "readNumbers", "()Z"⟩, 5) := ⟨⟨by decide +kernel, by decide +kernel⟩, List.mem_of_getElem? (i := 163) (by decide +kernel), List.mem_of_getElem? (i := 552) (by decide +kernel), List.mem_of_getElem? (i := 553) (by decide +kernel)⟩
def lw_privs_1 : List (MethodName × Nat) := [(⟨"PulledWires", "recorded", "(I)I"⟩, 9), (⟨"PulledWires$State", "listenerWith", "(I)LPulledWires$Listener;"⟩, 11), (⟨"PulledWires$State", "listenersWithAddress", "()I"⟩, 11), (⟨"PulledWires$State", "stuckListeners", "()I"⟩, 11), (⟨"PulledWires$State", "stuckTick", "()V"⟩, 11), (⟨"PulledWires$State", "lose", "(I)V"⟩, 11), (⟨"PulledWires$State", "endTalkIfEmpty", "()V"⟩, 11), (⟨"PulledWires$State", "sendBit", "()V"⟩, 11), (⟨"PulledWires$State", "partOfTalk", "(I)I"⟩, 11), (⟨"PulledWires$State", "awaitAnswer", "()V"⟩, 11), (⟨"PulledWires$Speaker", "removeFirst", "()V"⟩, 8), (⟨"PulledWires$State", "freeTick", "()V"⟩, 11), (⟨"PulledWires$OrderText", "readName", "()Z"⟩, 5), (⟨"PulledWires$OrderText", "sameCharacters", "(Ljava/lang/String;)I"⟩, 5), (⟨"PulledWires$OrderText", "isCharacter", "(IC)Z"⟩, 5), (⟨"PulledWires$OrderText", "readNumbers", "()Z"⟩, 5)]
theorem lw_r1 : ∀ q ∈ lw_privs_1, lw_okq q := List.forall_mem_cons.mpr ⟨lw_p0, List.forall_mem_cons.mpr ⟨lw_p1, List.forall_mem_cons.mpr ⟨lw_p2, List.forall_mem_cons.mpr ⟨lw_p3, List.forall_mem_cons.mpr ⟨lw_p4, List.forall_mem_cons.mpr ⟨lw_p5, List.forall_mem_cons.mpr ⟨lw_p6, List.forall_mem_cons.mpr ⟨lw_p7, List.forall_mem_cons.mpr ⟨lw_p8, List.forall_mem_cons.mpr ⟨lw_p9, List.forall_mem_cons.mpr ⟨lw_p10, List.forall_mem_cons.mpr ⟨lw_p11, List.forall_mem_cons.mpr ⟨lw_p12, List.forall_mem_cons.mpr ⟨lw_p13, List.forall_mem_cons.mpr ⟨lw_p14, List.forall_mem_cons.mpr ⟨lw_p15, fun _ h => absurd h List.not_mem_nil⟩⟩⟩⟩⟩⟩⟩⟩⟩⟩⟩⟩⟩⟩⟩⟩
theorem lw_p16 : lw_okq (⟨"PulledWires$OrderText", "readNumber", "(I)Z"⟩, 5) := ⟨⟨by decide +kernel, by decide +kernel⟩, List.mem_of_getElem? (i := 163) (by decide +kernel), List.mem_of_getElem? (i := 556) (by decide +kernel), List.mem_of_getElem? (i := 557) (by decide +kernel)⟩
theorem lw_p17 : lw_okq (⟨"PulledWires$OrderText", "skip", "(C)Z"⟩, 5) := ⟨⟨by decide +kernel, by decide +kernel⟩, List.mem_of_getElem? (i := 163) (by decide +kernel), List.mem_of_getElem? (i := 560) (by decide +kernel), List.mem_of_getElem? (i := 561) (by decide +kernel)⟩
theorem lw_p18 : lw_okq (⟨"PulledWires$OrderText", "mostOf", "(I)I"⟩, 5) := ⟨⟨by decide +kernel, by decide +kernel⟩, List.mem_of_getElem? (i := 163) (by decide +kernel), List.mem_of_getElem? (i := 564) (by decide +kernel), List.mem_of_getElem? (i := 565) (by decide +kernel)⟩
theorem lw_p19 : lw_okq (⟨"PulledWires$OrderText", "digitHere", "()I"⟩, 5) := ⟨⟨by decide +kernel, by decide +kernel⟩, List.mem_of_getElem? (i := 163) (by decide +kernel), List.mem_of_getElem? (i := 568) (by decide +kernel), List.mem_of_getElem? (i := 569) (by decide +kernel)⟩
theorem lw_p20 : lw_okq (⟨"PulledWires$OrderText", "leastOf", "(I)I"⟩, 5) := ⟨⟨by decide +kernel, by decide +kernel⟩, List.mem_of_getElem? (i := 163) (by decide +kernel), List.mem_of_getElem? (i := 572) (by decide +kernel), List.mem_of_getElem? (i := 573) (by decide +kernel)⟩
theorem lw_p21 : lw_okq (⟨"PulledWires", "carryOutOrder", "()I"⟩, 9) := ⟨⟨by decide +kernel, by decide +kernel⟩, List.mem_of_getElem? (i := 16) (by decide +kernel), List.mem_of_getElem? (i := 583) (by decide +kernel), List.mem_of_getElem? (i := 584) (by decide +kernel)⟩
theorem lw_p22 : lw_okq (⟨"PulledWiresModel", "putAside", "()V"⟩, 17) := ⟨⟨by decide +kernel, by decide +kernel⟩, List.mem_of_getElem? (i := 672) (by decide +kernel), List.mem_of_getElem? (i := 737) (by decide +kernel), List.mem_of_getElem? (i := 738) (by decide +kernel)⟩
theorem lw_p23 : lw_okq (⟨"PulledWiresModel", "says", "(IIII)I"⟩, 17) := ⟨⟨by decide +kernel, by decide +kernel⟩, List.mem_of_getElem? (i := 672) (by decide +kernel), List.mem_of_getElem? (i := 741) (by decide +kernel), List.mem_of_getElem? (i := 742) (by decide +kernel)⟩
theorem lw_p24 : lw_okq (⟨"PulledWiresModel", "act", "(I)I"⟩, 17) := ⟨⟨by decide +kernel, by decide +kernel⟩, List.mem_of_getElem? (i := 672) (by decide +kernel), List.mem_of_getElem? (i := 754) (by decide +kernel), List.mem_of_getElem? (i := 755) (by decide +kernel)⟩
theorem lw_p25 : lw_okq (⟨"PulledWiresModel", "takesBack", "(I)I"⟩, 17) := ⟨⟨by decide +kernel, by decide +kernel⟩, List.mem_of_getElem? (i := 672) (by decide +kernel), List.mem_of_getElem? (i := 762) (by decide +kernel), List.mem_of_getElem? (i := 763) (by decide +kernel)⟩
theorem lw_p26 : lw_okq (⟨"PulledWiresModel", "isTalking", "(I)Z"⟩, 17) := ⟨⟨by decide +kernel, by decide +kernel⟩, List.mem_of_getElem? (i := 672) (by decide +kernel), List.mem_of_getElem? (i := 766) (by decide +kernel), List.mem_of_getElem? (i := 767) (by decide +kernel)⟩
theorem lw_p27 : lw_okq (⟨"PulledWiresModel", "hears", "(II)I"⟩, 17) := ⟨⟨by decide +kernel, by decide +kernel⟩, List.mem_of_getElem? (i := 672) (by decide +kernel), List.mem_of_getElem? (i := 774) (by decide +kernel), List.mem_of_getElem? (i := 775) (by decide +kernel)⟩
theorem lw_p28 : lw_okq (⟨"PulledWiresModel", "listenerOf", "(I)I"⟩, 17) := ⟨⟨by decide +kernel, by decide +kernel⟩, List.mem_of_getElem? (i := 672) (by decide +kernel), List.mem_of_getElem? (i := 778) (by decide +kernel), List.mem_of_getElem? (i := 779) (by decide +kernel)⟩
theorem lw_p29 : lw_okq (⟨"PulledWiresModel", "holds", "(II)I"⟩, 17) := ⟨⟨by decide +kernel, by decide +kernel⟩, List.mem_of_getElem? (i := 672) (by decide +kernel), List.mem_of_getElem? (i := 786) (by decide +kernel), List.mem_of_getElem? (i := 787) (by decide +kernel)⟩
theorem lw_p30 : lw_okq (⟨"PulledWiresModel", "sticks", "(II)I"⟩, 17) := ⟨⟨by decide +kernel, by decide +kernel⟩, List.mem_of_getElem? (i := 672) (by decide +kernel), List.mem_of_getElem? (i := 794) (by decide +kernel), List.mem_of_getElem? (i := 795) (by decide +kernel)⟩
theorem lw_p31 : lw_okq (⟨"PulledWiresModel", "stuck", "()I"⟩, 17) := ⟨⟨by decide +kernel, by decide +kernel⟩, List.mem_of_getElem? (i := 672) (by decide +kernel), List.mem_of_getElem? (i := 798) (by decide +kernel), List.mem_of_getElem? (i := 799) (by decide +kernel)⟩
def lw_privs_2 : List (MethodName × Nat) := [(⟨"PulledWires$OrderText", "readNumber", "(I)Z"⟩, 5), (⟨"PulledWires$OrderText", "skip", "(C)Z"⟩, 5), (⟨"PulledWires$OrderText", "mostOf", "(I)I"⟩, 5), (⟨"PulledWires$OrderText", "digitHere", "()I"⟩, 5), (⟨"PulledWires$OrderText", "leastOf", "(I)I"⟩, 5), (⟨"PulledWires", "carryOutOrder", "()I"⟩, 9), (⟨"PulledWiresModel", "putAside", "()V"⟩, 17), (⟨"PulledWiresModel", "says", "(IIII)I"⟩, 17), (⟨"PulledWiresModel", "act", "(I)I"⟩, 17), (⟨"PulledWiresModel", "takesBack", "(I)I"⟩, 17), (⟨"PulledWiresModel", "isTalking", "(I)Z"⟩, 17), (⟨"PulledWiresModel", "hears", "(II)I"⟩, 17), (⟨"PulledWiresModel", "listenerOf", "(I)I"⟩, 17), (⟨"PulledWiresModel", "holds", "(II)I"⟩, 17), (⟨"PulledWiresModel", "sticks", "(II)I"⟩, 17), (⟨"PulledWiresModel", "stuck", "()I"⟩, 17)]
theorem lw_r2 : ∀ q ∈ lw_privs_2, lw_okq q := List.forall_mem_cons.mpr ⟨lw_p16, List.forall_mem_cons.mpr ⟨lw_p17, List.forall_mem_cons.mpr ⟨lw_p18, List.forall_mem_cons.mpr ⟨lw_p19, List.forall_mem_cons.mpr ⟨lw_p20, List.forall_mem_cons.mpr ⟨lw_p21, List.forall_mem_cons.mpr ⟨lw_p22, List.forall_mem_cons.mpr ⟨lw_p23, List.forall_mem_cons.mpr ⟨lw_p24, List.forall_mem_cons.mpr ⟨lw_p25, List.forall_mem_cons.mpr ⟨lw_p26, List.forall_mem_cons.mpr ⟨lw_p27, List.forall_mem_cons.mpr ⟨lw_p28, List.forall_mem_cons.mpr ⟨lw_p29, List.forall_mem_cons.mpr ⟨lw_p30, List.forall_mem_cons.mpr ⟨lw_p31, fun _ h => absurd h List.not_mem_nil⟩⟩⟩⟩⟩⟩⟩⟩⟩⟩⟩⟩⟩⟩⟩⟩
theorem lw_p32 : lw_okq (⟨"PulledWiresModel", "sets", "(II)I"⟩, 17) := ⟨⟨by decide +kernel, by decide +kernel⟩, List.mem_of_getElem? (i := 672) (by decide +kernel), List.mem_of_getElem? (i := 806) (by decide +kernel), List.mem_of_getElem? (i := 807) (by decide +kernel)⟩
theorem lw_p33 : lw_okq (⟨"PulledWiresModel", "runs", "(I)I"⟩, 17) := ⟨⟨by decide +kernel, by decide +kernel⟩, List.mem_of_getElem? (i := 672) (by decide +kernel), List.mem_of_getElem? (i := 817) (by decide +kernel), List.mem_of_getElem? (i := 818) (by decide +kernel)⟩
theorem lw_p34 : lw_okq (⟨"PulledWiresModel", "came", "()I"⟩, 17) := ⟨⟨by decide +kernel, by decide +kernel⟩, List.mem_of_getElem? (i := 672) (by decide +kernel), List.mem_of_getElem? (i := 822) (by decide +kernel), List.mem_of_getElem? (i := 823) (by decide +kernel)⟩
theorem lw_p35 : lw_okq (⟨"PulledWiresModel", "tick", "()V"⟩, 17) := ⟨⟨by decide +kernel, by decide +kernel⟩, List.mem_of_getElem? (i := 672) (by decide +kernel), List.mem_of_getElem? (i := 826) (by decide +kernel), List.mem_of_getElem? (i := 827) (by decide +kernel)⟩
theorem lw_p36 : lw_okq (⟨"PulledWiresModel", "next", "()I"⟩, 17) := ⟨⟨by decide +kernel, by decide +kernel⟩, List.mem_of_getElem? (i := 672) (by decide +kernel), List.mem_of_getElem? (i := 830) (by decide +kernel), List.mem_of_getElem? (i := 831) (by decide +kernel)⟩
theorem lw_p37 : lw_okq (⟨"PulledWiresModel", "talking", "()I"⟩, 17) := ⟨⟨by decide +kernel, by decide +kernel⟩, List.mem_of_getElem? (i := 672) (by decide +kernel), List.mem_of_getElem? (i := 834) (by decide +kernel), List.mem_of_getElem? (i := 835) (by decide +kernel)⟩
theorem lw_p38 : lw_okq (⟨"PulledWiresModel", "tickStuck", "()V"⟩, 17) := ⟨⟨by decide +kernel, by decide +kernel⟩, List.mem_of_getElem? (i := 672) (by decide +kernel), List.mem_of_getElem? (i := 841) (by decide +kernel), List.mem_of_getElem? (i := 842) (by decide +kernel)⟩
theorem lw_p39 : lw_okq (⟨"PulledWiresModel", "lose", "()I"⟩, 17) := ⟨⟨by decide +kernel, by decide +kernel⟩, List.mem_of_getElem? (i := 672) (by decide +kernel), List.mem_of_getElem? (i := 845) (by decide +kernel), List.mem_of_getElem? (i := 846) (by decide +kernel)⟩
theorem lw_p40 : lw_okq (⟨"PulledWiresModel", "bitAt", "(II)I"⟩, 17) := ⟨⟨by decide +kernel, by decide +kernel⟩, List.mem_of_getElem? (i := 672) (by decide +kernel), List.mem_of_getElem? (i := 849) (by decide +kernel), List.mem_of_getElem? (i := 850) (by decide +kernel)⟩
theorem lw_p41 : lw_okq (⟨"PulledWiresModel", "inMessage", "(III)I"⟩, 17) := ⟨⟨by decide +kernel, by decide +kernel⟩, List.mem_of_getElem? (i := 672) (by decide +kernel), List.mem_of_getElem? (i := 853) (by decide +kernel), List.mem_of_getElem? (i := 854) (by decide +kernel)⟩
theorem lw_p42 : lw_okq (⟨"PulledWiresModel", "endsIfEmpty", "()V"⟩, 17) := ⟨⟨by decide +kernel, by decide +kernel⟩, List.mem_of_getElem? (i := 672) (by decide +kernel), List.mem_of_getElem? (i := 857) (by decide +kernel), List.mem_of_getElem? (i := 858) (by decide +kernel)⟩
theorem lw_p43 : lw_okq (⟨"PulledWiresModel", "tickBit", "()V"⟩, 17) := ⟨⟨by decide +kernel, by decide +kernel⟩, List.mem_of_getElem? (i := 672) (by decide +kernel), List.mem_of_getElem? (i := 861) (by decide +kernel), List.mem_of_getElem? (i := 862) (by decide +kernel)⟩
theorem lw_p44 : lw_okq (⟨"PulledWiresModel", "logs", "(III)V"⟩, 17) := ⟨⟨by decide +kernel, by decide +kernel⟩, List.mem_of_getElem? (i := 672) (by decide +kernel), List.mem_of_getElem? (i := 865) (by decide +kernel), List.mem_of_getElem? (i := 866) (by decide +kernel)⟩
theorem lw_p45 : lw_okq (⟨"PulledWiresModel", "firstTalking", "()I"⟩, 17) := ⟨⟨by decide +kernel, by decide +kernel⟩, List.mem_of_getElem? (i := 672) (by decide +kernel), List.mem_of_getElem? (i := 869) (by decide +kernel), List.mem_of_getElem? (i := 870) (by decide +kernel)⟩
theorem lw_p46 : lw_okq (⟨"PulledWiresModel", "tickFree", "()V"⟩, 17) := ⟨⟨by decide +kernel, by decide +kernel⟩, List.mem_of_getElem? (i := 672) (by decide +kernel), List.mem_of_getElem? (i := 873) (by decide +kernel), List.mem_of_getElem? (i := 874) (by decide +kernel)⟩
theorem lw_p47 : lw_okq (⟨"PulledWiresModel", "messages", "()I"⟩, 17) := ⟨⟨by decide +kernel, by decide +kernel⟩, List.mem_of_getElem? (i := 672) (by decide +kernel), List.mem_of_getElem? (i := 877) (by decide +kernel), List.mem_of_getElem? (i := 878) (by decide +kernel)⟩
def lw_privs_3 : List (MethodName × Nat) := [(⟨"PulledWiresModel", "sets", "(II)I"⟩, 17), (⟨"PulledWiresModel", "runs", "(I)I"⟩, 17), (⟨"PulledWiresModel", "came", "()I"⟩, 17), (⟨"PulledWiresModel", "tick", "()V"⟩, 17), (⟨"PulledWiresModel", "next", "()I"⟩, 17), (⟨"PulledWiresModel", "talking", "()I"⟩, 17), (⟨"PulledWiresModel", "tickStuck", "()V"⟩, 17), (⟨"PulledWiresModel", "lose", "()I"⟩, 17), (⟨"PulledWiresModel", "bitAt", "(II)I"⟩, 17), (⟨"PulledWiresModel", "inMessage", "(III)I"⟩, 17), (⟨"PulledWiresModel", "endsIfEmpty", "()V"⟩, 17), (⟨"PulledWiresModel", "tickBit", "()V"⟩, 17), (⟨"PulledWiresModel", "logs", "(III)V"⟩, 17), (⟨"PulledWiresModel", "firstTalking", "()I"⟩, 17), (⟨"PulledWiresModel", "tickFree", "()V"⟩, 17), (⟨"PulledWiresModel", "messages", "()I"⟩, 17)]
theorem lw_r3 : ∀ q ∈ lw_privs_3, lw_okq q := List.forall_mem_cons.mpr ⟨lw_p32, List.forall_mem_cons.mpr ⟨lw_p33, List.forall_mem_cons.mpr ⟨lw_p34, List.forall_mem_cons.mpr ⟨lw_p35, List.forall_mem_cons.mpr ⟨lw_p36, List.forall_mem_cons.mpr ⟨lw_p37, List.forall_mem_cons.mpr ⟨lw_p38, List.forall_mem_cons.mpr ⟨lw_p39, List.forall_mem_cons.mpr ⟨lw_p40, List.forall_mem_cons.mpr ⟨lw_p41, List.forall_mem_cons.mpr ⟨lw_p42, List.forall_mem_cons.mpr ⟨lw_p43, List.forall_mem_cons.mpr ⟨lw_p44, List.forall_mem_cons.mpr ⟨lw_p45, List.forall_mem_cons.mpr ⟨lw_p46, List.forall_mem_cons.mpr ⟨lw_p47, fun _ h => absurd h List.not_mem_nil⟩⟩⟩⟩⟩⟩⟩⟩⟩⟩⟩⟩⟩⟩⟩⟩
theorem lw_p48 : lw_okq (⟨"PulledWiresModel", "tickUnanswered", "()V"⟩, 17) := ⟨⟨by decide +kernel, by decide +kernel⟩, List.mem_of_getElem? (i := 672) (by decide +kernel), List.mem_of_getElem? (i := 881) (by decide +kernel), List.mem_of_getElem? (i := 882) (by decide +kernel)⟩
theorem lw_p49 : lw_okq (⟨"PulledWiresModel", "dropFirst", "(I)V"⟩, 17) := ⟨⟨by decide +kernel, by decide +kernel⟩, List.mem_of_getElem? (i := 672) (by decide +kernel), List.mem_of_getElem? (i := 885) (by decide +kernel), List.mem_of_getElem? (i := 886) (by decide +kernel)⟩
theorem lw_p50 : lw_okq (⟨"PulledWiresModel", "tickAnswered", "(I)V"⟩, 17) := ⟨⟨by decide +kernel, by decide +kernel⟩, List.mem_of_getElem? (i := 672) (by decide +kernel), List.mem_of_getElem? (i := 889) (by decide +kernel), List.mem_of_getElem? (i := 890) (by decide +kernel)⟩
theorem lw_p51 : lw_okq (⟨"PulledWiresModel", "go", "(Z)I"⟩, 17) := ⟨⟨by decide +kernel, by decide +kernel⟩, List.mem_of_getElem? (i := 672) (by decide +kernel), List.mem_of_getElem? (i := 908) (by decide +kernel), List.mem_of_getElem? (i := 909) (by decide +kernel)⟩
theorem lw_p52 : lw_okq (⟨"PulledWiresModel", "order", "()V"⟩, 17) := ⟨⟨by decide +kernel, by decide +kernel⟩, List.mem_of_getElem? (i := 672) (by decide +kernel), List.mem_of_getElem? (i := 912) (by decide +kernel), List.mem_of_getElem? (i := 913) (by decide +kernel)⟩
theorem lw_p53 : lw_okq (⟨"PulledWiresModel", "sign", "(I)V"⟩, 17) := ⟨⟨by decide +kernel, by decide +kernel⟩, List.mem_of_getElem? (i := 672) (by decide +kernel), List.mem_of_getElem? (i := 916) (by decide +kernel), List.mem_of_getElem? (i := 917) (by decide +kernel)⟩
theorem lw_p54 : lw_okq (⟨"PulledWiresModel", "number", "(II)I"⟩, 17) := ⟨⟨by decide +kernel, by decide +kernel⟩, List.mem_of_getElem? (i := 672) (by decide +kernel), List.mem_of_getElem? (i := 920) (by decide +kernel), List.mem_of_getElem? (i := 921) (by decide +kernel)⟩
theorem lw_p55 : lw_okq (⟨"PulledWiresModel", "isDigit", "()Z"⟩, 17) := ⟨⟨by decide +kernel, by decide +kernel⟩, List.mem_of_getElem? (i := 672) (by decide +kernel), List.mem_of_getElem? (i := 924) (by decide +kernel), List.mem_of_getElem? (i := 925) (by decide +kernel)⟩
theorem lw_p56 : lw_okq (⟨"PulledWiresModel", "isNext", "(I)Z"⟩, 17) := ⟨⟨by decide +kernel, by decide +kernel⟩, List.mem_of_getElem? (i := 672) (by decide +kernel), List.mem_of_getElem? (i := 928) (by decide +kernel), List.mem_of_getElem? (i := 929) (by decide +kernel)⟩
theorem lw_p57 : lw_okq (⟨"PulledWiresModel", "does", "()I"⟩, 17) := ⟨⟨by decide +kernel, by decide +kernel⟩, List.mem_of_getElem? (i := 672) (by decide +kernel), List.mem_of_getElem? (i := 932) (by decide +kernel), List.mem_of_getElem? (i := 933) (by decide +kernel)⟩
theorem lw_p58 : lw_okq (⟨"PulledWiresModel", "putBack", "()V"⟩, 17) := ⟨⟨by decide +kernel, by decide +kernel⟩, List.mem_of_getElem? (i := 672) (by decide +kernel), List.mem_of_getElem? (i := 936) (by decide +kernel), List.mem_of_getElem? (i := 937) (by decide +kernel)⟩
theorem lw_p59 : lw_okq (⟨"PulledWiresModel", "ticksOf", "(II)I"⟩, 17) := ⟨⟨by decide +kernel, by decide +kernel⟩, List.mem_of_getElem? (i := 672) (by decide +kernel), List.mem_of_getElem? (i := 964) (by decide +kernel), List.mem_of_getElem? (i := 965) (by decide +kernel)⟩
def lw_privs_4 : List (MethodName × Nat) := [(⟨"PulledWiresModel", "tickUnanswered", "()V"⟩, 17), (⟨"PulledWiresModel", "dropFirst", "(I)V"⟩, 17), (⟨"PulledWiresModel", "tickAnswered", "(I)V"⟩, 17), (⟨"PulledWiresModel", "go", "(Z)I"⟩, 17), (⟨"PulledWiresModel", "order", "()V"⟩, 17), (⟨"PulledWiresModel", "sign", "(I)V"⟩, 17), (⟨"PulledWiresModel", "number", "(II)I"⟩, 17), (⟨"PulledWiresModel", "isDigit", "()Z"⟩, 17), (⟨"PulledWiresModel", "isNext", "(I)Z"⟩, 17), (⟨"PulledWiresModel", "does", "()I"⟩, 17), (⟨"PulledWiresModel", "putBack", "()V"⟩, 17), (⟨"PulledWiresModel", "ticksOf", "(II)I"⟩, 17)]
theorem lw_r4 : ∀ q ∈ lw_privs_4, lw_okq q := List.forall_mem_cons.mpr ⟨lw_p48, List.forall_mem_cons.mpr ⟨lw_p49, List.forall_mem_cons.mpr ⟨lw_p50, List.forall_mem_cons.mpr ⟨lw_p51, List.forall_mem_cons.mpr ⟨lw_p52, List.forall_mem_cons.mpr ⟨lw_p53, List.forall_mem_cons.mpr ⟨lw_p54, List.forall_mem_cons.mpr ⟨lw_p55, List.forall_mem_cons.mpr ⟨lw_p56, List.forall_mem_cons.mpr ⟨lw_p57, List.forall_mem_cons.mpr ⟨lw_p58, List.forall_mem_cons.mpr ⟨lw_p59, fun _ h => absurd h List.not_mem_nil⟩⟩⟩⟩⟩⟩⟩⟩⟩⟩⟩⟩
def lw_privs : List (MethodName × Nat) := lw_privs_1 ++ (lw_privs_2 ++ (lw_privs_3 ++ (lw_privs_4)))
def lw_tbl : List Cond := k2_sels lw_privs ++ tables_1
theorem lw_privs_ok : ∀ q ∈ lw_privs, lw_okq q := by
  show ∀ q ∈ lw_privs_1 ++ (lw_privs_2 ++ (lw_privs_3 ++ (lw_privs_4))), lw_okq q
  exact List.forall_mem_append.mpr ⟨lw_r1, List.forall_mem_append.mpr ⟨lw_r2, List.forall_mem_append.mpr ⟨lw_r3, lw_r4⟩⟩⟩
end
section
def RX0 : String := "PulledWires$BitLog"
def TX0 : u_T := fun k => match k with
  | 0 => ("PulledWires$BitLog", "cells", "[I", true)
  | 1 => ("PulledWires$BitLog", "next", "I", false)
  | _ => ("PulledWires$BitLog", "size", "I", false)
def tyX0 : Nat → FieldType := fun k => match k with
  | 0 => .array .int
  | 1 => .int
  | _ => .int
abbrev wsX00 : List Cond := u_ws RX0 TX0 3
theorem nmX0 : ∀ a, a < 3 → ∀ b, b < 3 → a ≠ b → (TX0 a).2.1 ≠ (TX0 b).2.1 := by decide +kernel
theorem tyX0_ok : ∀ k, k < 3 → parseFieldDescriptor (TX0 k).2.2.1 = some (tyX0 k) := by decide +kernel
abbrev cX0_init : ByteArray := prog_2_method_1_code
def yX0_init : MethodName := ⟨RX0, "<init>", "()V"⟩
abbrev cX0_copyFrom : ByteArray := prog_2_method_2_code
def yX0_copyFrom : MethodName := ⟨RX0, "copyFrom", "(LPulledWires$BitLog;)V"⟩
abbrev cX0_add : ByteArray := prog_2_method_3_code
def yX0_add : MethodName := ⟨RX0, "add", "(IIII)V"⟩
abbrev cX0_tell : ByteArray := prog_2_method_4_code
def yX0_tell : MethodName := ⟨RX0, "tell", "(II)I"⟩
def RX1 : String := "PulledWires$Listener"
def TX1 : u_T := fun k => match k with
  | 0 => ("PulledWires$Listener", "address", "I", false)
  | 1 => ("PulledWires$Listener", "hold", "I", false)
  | 2 => ("PulledWires$Listener", "stuck", "I", false)
  | 3 => ("PulledWires$Listener", "wordsTaken", "I", false)
  | _ => ("PulledWires$Listener", "latestWord", "I", false)
def tyX1 : Nat → FieldType := fun k => match k with
  | 0 => .int
  | 1 => .int
  | 2 => .int
  | 3 => .int
  | _ => .int
abbrev wsX10 : List Cond := u_ws RX1 TX1 5
theorem nmX1 : ∀ a, a < 5 → ∀ b, b < 5 → a ≠ b → (TX1 a).2.1 ≠ (TX1 b).2.1 := by decide +kernel
theorem tyX1_ok : ∀ k, k < 5 → parseFieldDescriptor (TX1 k).2.2.1 = some (tyX1 k) := by decide +kernel
abbrev cX1_init : ByteArray := prog_3_method_1_code
def yX1_init : MethodName := ⟨RX1, "<init>", "()V"⟩
abbrev cX1_copyFrom : ByteArray := prog_3_method_2_code
def yX1_copyFrom : MethodName := ⟨RX1, "copyFrom", "(LPulledWires$Listener;)V"⟩
abbrev cX1_takeWord : ByteArray := prog_3_method_3_code
def yX1_takeWord : MethodName := ⟨RX1, "takeWord", "(I)V"⟩
def RX2 : String := "PulledWires$OrderText"
def TX2 : u_T := fun k => match k with
  | 0 => ("PulledWires$OrderText", "characters", "[C", true)
  | 1 => ("PulledWires$OrderText", "numbers", "[I", true)
  | 2 => ("PulledWires$OrderText", "length", "I", false)
  | 3 => ("PulledWires$OrderText", "at", "I", false)
  | _ => ("PulledWires$OrderText", "kind", "I", false)
def tyX2 : Nat → FieldType := fun k => match k with
  | 0 => .array .char
  | 1 => .array .int
  | 2 => .int
  | 3 => .int
  | _ => .int
abbrev wsX20 : List Cond := u_ws RX2 TX2 5
theorem nmX2 : ∀ a, a < 5 → ∀ b, b < 5 → a ≠ b → (TX2 a).2.1 ≠ (TX2 b).2.1 := by decide +kernel
theorem tyX2_ok : ∀ k, k < 5 → parseFieldDescriptor (TX2 k).2.2.1 = some (tyX2 k) := by decide +kernel
abbrev cX2_init : ByteArray := prog_4_method_1_code
def yX2_init : MethodName := ⟨RX2, "<init>", "()V"⟩
abbrev cX2_append : ByteArray := prog_4_method_2_code
def yX2_append : MethodName := ⟨RX2, "append", "(C)I"⟩
abbrev cX2_empty : ByteArray := prog_4_method_3_code
def yX2_empty : MethodName := ⟨RX2, "empty", "()I"⟩
abbrev cX2_rewind : ByteArray := prog_4_method_4_code
def yX2_rewind : MethodName := ⟨RX2, "rewind", "()V"⟩
abbrev cX2_number : ByteArray := prog_4_method_5_code
def yX2_number : MethodName := ⟨RX2, "number", "(I)I"⟩
abbrev cX2_countOrders : ByteArray := prog_4_method_6_code
def yX2_countOrders : MethodName := ⟨RX2, "countOrders", "()I"⟩
abbrev cX2_readOrder : ByteArray := prog_4_method_7_code
def yX2_readOrder : MethodName := ⟨RX2, "readOrder", "()Z"⟩
abbrev cX2_skipSeparator : ByteArray := prog_4_method_8_code
def yX2_skipSeparator : MethodName := ⟨RX2, "skipSeparator", "()Z"⟩
abbrev cX2_readName : ByteArray := prog_4_method_9_code
def yX2_readName : MethodName := ⟨RX2, "readName", "()Z"⟩
abbrev cX2_sameCharacters : ByteArray := prog_4_method_10_code
def yX2_sameCharacters : MethodName := ⟨RX2, "sameCharacters", "(Ljava/lang/String;)I"⟩
abbrev cX2_readNumbers : ByteArray := prog_4_method_11_code
def yX2_readNumbers : MethodName := ⟨RX2, "readNumbers", "()Z"⟩
abbrev cX2_readNumber : ByteArray := prog_4_method_12_code
def yX2_readNumber : MethodName := ⟨RX2, "readNumber", "(I)Z"⟩
abbrev cX2_skip : ByteArray := prog_4_method_13_code
def yX2_skip : MethodName := ⟨RX2, "skip", "(C)Z"⟩
abbrev cX2_isCharacter : ByteArray := prog_4_method_14_code
def yX2_isCharacter : MethodName := ⟨RX2, "isCharacter", "(IC)Z"⟩
abbrev cX2_digitHere : ByteArray := prog_4_method_15_code
def yX2_digitHere : MethodName := ⟨RX2, "digitHere", "()I"⟩
abbrev cX2_nameOf : ByteArray := prog_4_method_16_code
def yX2_nameOf : MethodName := ⟨RX2, "nameOf", "(I)Ljava/lang/String;"⟩
abbrev cX2_leastOf : ByteArray := prog_4_method_17_code
def yX2_leastOf : MethodName := ⟨RX2, "leastOf", "(I)I"⟩
abbrev cX2_mostOf : ByteArray := prog_4_method_18_code
def yX2_mostOf : MethodName := ⟨RX2, "mostOf", "(I)I"⟩
def RX3 : String := "PulledWires$Speaker"
def TX3 : u_T := fun k => match k with
  | 0 => ("PulledWires$Speaker", "parts", "[I", true)
  | 1 => ("PulledWires$Speaker", "size", "I", false)
  | 2 => ("PulledWires$Speaker", "talking", "Z", false)
  | 3 => ("PulledWires$Speaker", "came", "I", false)
  | 4 => ("PulledWires$Speaker", "lost", "I", false)
  | 5 => ("PulledWires$Speaker", "failed", "I", false)
  | 6 => ("PulledWires$Speaker", "dropped", "I", false)
  | _ => ("PulledWires$Speaker", "failuresOfFirst", "I", false)
def tyX3 : Nat → FieldType := fun k => match k with
  | 0 => .array .int
  | 1 => .int
  | 2 => .boolean
  | 3 => .int
  | 4 => .int
  | 5 => .int
  | 6 => .int
  | _ => .int
abbrev wsX30 : List Cond := u_ws RX3 TX3 8
theorem nmX3 : ∀ a, a < 8 → ∀ b, b < 8 → a ≠ b → (TX3 a).2.1 ≠ (TX3 b).2.1 := by decide +kernel
theorem tyX3_ok : ∀ k, k < 8 → parseFieldDescriptor (TX3 k).2.2.1 = some (tyX3 k) := by decide +kernel
abbrev cX3_init : ByteArray := prog_5_method_1_code
def yX3_init : MethodName := ⟨RX3, "<init>", "()V"⟩
abbrev cX3_copyFrom : ByteArray := prog_5_method_2_code
def yX3_copyFrom : MethodName := ⟨RX3, "copyFrom", "(LPulledWires$Speaker;)V"⟩
abbrev cX3_append : ByteArray := prog_5_method_3_code
def yX3_append : MethodName := ⟨RX3, "append", "(III)V"⟩
abbrev cX3_removeLast : ByteArray := prog_5_method_4_code
def yX3_removeLast : MethodName := ⟨RX3, "removeLast", "()V"⟩
abbrev cX3_removeFirst : ByteArray := prog_5_method_5_code
def yX3_removeFirst : MethodName := ⟨RX3, "removeFirst", "()V"⟩
abbrev cX3_lose : ByteArray := prog_5_method_6_code
def yX3_lose : MethodName := ⟨RX3, "lose", "()V"⟩
abbrev cX3_bringMessage : ByteArray := prog_5_method_7_code
def yX3_bringMessage : MethodName := ⟨RX3, "bringMessage", "()V"⟩
abbrev cX3_failMessage : ByteArray := prog_5_method_8_code
def yX3_failMessage : MethodName := ⟨RX3, "failMessage", "(I)V"⟩
abbrev cX3_part : ByteArray := prog_5_method_9_code
def yX3_part : MethodName := ⟨RX3, "part", "(II)I"⟩
abbrev cX3_partsAt : ByteArray := prog_5_method_10_code
def yX3_partsAt : MethodName := ⟨RX3, "partsAt", "(I)I"⟩
def RX4 : String := "PulledWires$State"
def TX4 : u_T := fun k => match k with
  | 0 => ("PulledWires$State", "speakers", "[LPulledWires$Speaker;", true)
  | 1 => ("PulledWires$State", "listeners", "[LPulledWires$Listener;", true)
  | 2 => ("PulledWires$State", "settings", "[I", true)
  | 3 => ("PulledWires$State", "log", "LPulledWires$BitLog;", true)
  | 4 => ("PulledWires$State", "clock", "I", false)
  | 5 => ("PulledWires$State", "over", "I", false)
  | 6 => ("PulledWires$State", "held", "I", false)
  | 7 => ("PulledWires$State", "free", "I", false)
  | 8 => ("PulledWires$State", "stuckInRow", "I", false)
  | 9 => ("PulledWires$State", "talks", "I", false)
  | _ => ("PulledWires$State", "shakes", "I", false)
def tyX4 : Nat → FieldType := fun k => match k with
  | 0 => .array (.object "PulledWires$Speaker")
  | 1 => .array (.object "PulledWires$Listener")
  | 2 => .array .int
  | 3 => .object "PulledWires$BitLog"
  | 4 => .int
  | 5 => .int
  | 6 => .int
  | 7 => .int
  | 8 => .int
  | 9 => .int
  | _ => .int
abbrev wsX40 : List Cond := u_ws RX4 TX4 11
theorem nmX4 : ∀ a, a < 11 → ∀ b, b < 11 → a ≠ b → (TX4 a).2.1 ≠ (TX4 b).2.1 := by decide +kernel
theorem tyX4_ok : ∀ k, k < 11 → parseFieldDescriptor (TX4 k).2.2.1 = some (tyX4 k) := by decide +kernel
abbrev cX4_init : ByteArray := prog_6_method_1_code
def yX4_init : MethodName := ⟨RX4, "<init>", "()V"⟩
abbrev cX4_copyFrom : ByteArray := prog_6_method_2_code
def yX4_copyFrom : MethodName := ⟨RX4, "copyFrom", "(LPulledWires$State;)V"⟩
abbrev cX4_addMessage : ByteArray := prog_6_method_3_code
def yX4_addMessage : MethodName := ⟨RX4, "addMessage", "(IIII)I"⟩
abbrev cX4_dropLast : ByteArray := prog_6_method_4_code
def yX4_dropLast : MethodName := ⟨RX4, "dropLast", "(I)I"⟩
abbrev cX4_giveAddress : ByteArray := prog_6_method_5_code
def yX4_giveAddress : MethodName := ⟨RX4, "giveAddress", "(II)I"⟩
abbrev cX4_giveHold : ByteArray := prog_6_method_6_code
def yX4_giveHold : MethodName := ⟨RX4, "giveHold", "(II)I"⟩
abbrev cX4_makeStuck : ByteArray := prog_6_method_7_code
def yX4_makeStuck : MethodName := ⟨RX4, "makeStuck", "(II)I"⟩
abbrev cX4_changeSetting : ByteArray := prog_6_method_8_code
def yX4_changeSetting : MethodName := ⟨RX4, "changeSetting", "(II)I"⟩
abbrev cX4_passTicks : ByteArray := prog_6_method_9_code
def yX4_passTicks : MethodName := ⟨RX4, "passTicks", "(I)I"⟩
abbrev cX4_nextTick : ByteArray := prog_6_method_10_code
def yX4_nextTick : MethodName := ⟨RX4, "nextTick", "()I"⟩
abbrev cX4_tick : ByteArray := prog_6_method_11_code
def yX4_tick : MethodName := ⟨RX4, "tick", "()V"⟩
abbrev cX4_stuckTick : ByteArray := prog_6_method_12_code
def yX4_stuckTick : MethodName := ⟨RX4, "stuckTick", "()V"⟩
abbrev cX4_sendBit : ByteArray := prog_6_method_13_code
def yX4_sendBit : MethodName := ⟨RX4, "sendBit", "()V"⟩
abbrev cX4_awaitAnswer : ByteArray := prog_6_method_14_code
def yX4_awaitAnswer : MethodName := ⟨RX4, "awaitAnswer", "()V"⟩
abbrev cX4_freeTick : ByteArray := prog_6_method_15_code
def yX4_freeTick : MethodName := ⟨RX4, "freeTick", "()V"⟩
abbrev cX4_lose : ByteArray := prog_6_method_16_code
def yX4_lose : MethodName := ⟨RX4, "lose", "(I)V"⟩
abbrev cX4_endTalkIfEmpty : ByteArray := prog_6_method_17_code
def yX4_endTalkIfEmpty : MethodName := ⟨RX4, "endTalkIfEmpty", "()V"⟩
abbrev cX4_speakerAt : ByteArray := prog_6_method_18_code
def yX4_speakerAt : MethodName := ⟨RX4, "speakerAt", "(I)LPulledWires$Speaker;"⟩
abbrev cX4_listenerAt : ByteArray := prog_6_method_19_code
def yX4_listenerAt : MethodName := ⟨RX4, "listenerAt", "(I)LPulledWires$Listener;"⟩
abbrev cX4_listenerWith : ByteArray := prog_6_method_20_code
def yX4_listenerWith : MethodName := ⟨RX4, "listenerWith", "(I)LPulledWires$Listener;"⟩
abbrev cX4_listenersWithAddress : ByteArray := prog_6_method_21_code
def yX4_listenersWithAddress : MethodName := ⟨RX4, "listenersWithAddress", "()I"⟩
abbrev cX4_stuckListeners : ByteArray := prog_6_method_22_code
def yX4_stuckListeners : MethodName := ⟨RX4, "stuckListeners", "()I"⟩
abbrev cX4_holdFor : ByteArray := prog_6_method_23_code
def yX4_holdFor : MethodName := ⟨RX4, "holdFor", "(I)I"⟩
abbrev cX4_setting : ByteArray := prog_6_method_24_code
def yX4_setting : MethodName := ⟨RX4, "setting", "(I)I"⟩
abbrev cX4_messagesInLines : ByteArray := prog_6_method_25_code
def yX4_messagesInLines : MethodName := ⟨RX4, "messagesInLines", "()I"⟩
abbrev cX4_messagesThatCame : ByteArray := prog_6_method_26_code
def yX4_messagesThatCame : MethodName := ⟨RX4, "messagesThatCame", "()I"⟩
abbrev cX4_cameFrom : ByteArray := prog_6_method_27_code
def yX4_cameFrom : MethodName := ⟨RX4, "cameFrom", "(I)I"⟩
abbrev cX4_isIn : ByteArray := prog_6_method_28_code
def yX4_isIn : MethodName := ⟨RX4, "isIn", "(II)Z"⟩
abbrev cX4_talkers : ByteArray := prog_6_method_29_code
def yX4_talkers : MethodName := ⟨RX4, "talkers", "()I"⟩
abbrev cX4_speakersWithMessage : ByteArray := prog_6_method_30_code
def yX4_speakersWithMessage : MethodName := ⟨RX4, "speakersWithMessage", "()I"⟩
abbrev cX4_sendersOf : ByteArray := prog_6_method_31_code
def yX4_sendersOf : MethodName := ⟨RX4, "sendersOf", "(III)I"⟩
abbrev cX4_endsAt : ByteArray := prog_6_method_32_code
def yX4_endsAt : MethodName := ⟨RX4, "endsAt", "(LPulledWires$Speaker;I)Z"⟩
abbrev cX4_endingAt : ByteArray := prog_6_method_33_code
def yX4_endingAt : MethodName := ⟨RX4, "endingAt", "(II)I"⟩
abbrev cX4_partOfTalk : ByteArray := prog_6_method_34_code
def yX4_partOfTalk : MethodName := ⟨RX4, "partOfTalk", "(I)I"⟩
def RX5 : String := "PulledWires"
def TX5 : u_T := fun k => match k with
  | 0 => ("PulledWires", "now", "LPulledWires$State;", true)
  | 1 => ("PulledWires", "snapshot", "LPulledWires$State;", true)
  | 2 => ("PulledWires", "history", "[LPulledWires$State;", true)
  | 3 => ("PulledWires", "text", "LPulledWires$OrderText;", true)
  | 4 => ("PulledWires", "spare", "LPulledWires$State;", false)
  | 5 => ("PulledWires", "historySize", "I", false)
  | 6 => ("PulledWires", "hasSnapshot", "Z", false)
  | 7 => ("PulledWires", "stoppedOrder", "I", false)
  | _ => ("PulledWires", "stoppedError", "I", false)
def tyX5 : Nat → FieldType := fun k => match k with
  | 0 => .object "PulledWires$State"
  | 1 => .object "PulledWires$State"
  | 2 => .array (.object "PulledWires$State")
  | 3 => .object "PulledWires$OrderText"
  | 4 => .object "PulledWires$State"
  | 5 => .int
  | 6 => .boolean
  | 7 => .int
  | _ => .int
abbrev wsX50 : List Cond := u_ws RX5 TX5 9
theorem nmX5 : ∀ a, a < 9 → ∀ b, b < 9 → a ≠ b → (TX5 a).2.1 ≠ (TX5 b).2.1 := by decide +kernel
theorem tyX5_ok : ∀ k, k < 9 → parseFieldDescriptor (TX5 k).2.2.1 = some (tyX5 k) := by decide +kernel
abbrev cX5_init : ByteArray := prog_1_method_1_code
def yX5_init : MethodName := ⟨RX5, "<init>", "()V"⟩
abbrev cX5_say : ByteArray := prog_1_method_2_code
def yX5_say : MethodName := ⟨RX5, "say", "(IIII)I"⟩
abbrev cX5_takeBack : ByteArray := prog_1_method_3_code
def yX5_takeBack : MethodName := ⟨RX5, "takeBack", "(I)I"⟩
abbrev cX5_hear : ByteArray := prog_1_method_4_code
def yX5_hear : MethodName := ⟨RX5, "hear", "(II)I"⟩
abbrev cX5_hold : ByteArray := prog_1_method_5_code
def yX5_hold : MethodName := ⟨RX5, "hold", "(II)I"⟩
abbrev cX5_stick : ByteArray := prog_1_method_6_code
def yX5_stick : MethodName := ⟨RX5, "stick", "(II)I"⟩
abbrev cX5_set : ByteArray := prog_1_method_7_code
def yX5_set : MethodName := ⟨RX5, "set", "(II)I"⟩
abbrev cX5_run : ByteArray := prog_1_method_8_code
def yX5_run : MethodName := ⟨RX5, "run", "(I)I"⟩
abbrev cX5_type : ByteArray := prog_1_method_9_code
def yX5_type : MethodName := ⟨RX5, "type", "(C)I"⟩
abbrev cX5_clearText : ByteArray := prog_1_method_10_code
def yX5_clearText : MethodName := ⟨RX5, "clearText", "()I"⟩
abbrev cX5_perform : ByteArray := prog_1_method_11_code
def yX5_perform : MethodName := ⟨RX5, "perform", "()I"⟩
abbrev cX5_stopped : ByteArray := prog_1_method_12_code
def yX5_stopped : MethodName := ⟨RX5, "stopped", "(I)I"⟩
abbrev cX5_undo : ByteArray := prog_1_method_13_code
def yX5_undo : MethodName := ⟨RX5, "undo", "()I"⟩
abbrev cX5_keep : ByteArray := prog_1_method_14_code
def yX5_keep : MethodName := ⟨RX5, "keep", "()I"⟩
abbrev cX5_restore : ByteArray := prog_1_method_15_code
def yX5_restore : MethodName := ⟨RX5, "restore", "()I"⟩
abbrev cX5_speaker : ByteArray := prog_1_method_16_code
def yX5_speaker : MethodName := ⟨RX5, "speaker", "(II)I"⟩
abbrev cX5_message : ByteArray := prog_1_method_17_code
def yX5_message : MethodName := ⟨RX5, "message", "(III)I"⟩
abbrev cX5_listener : ByteArray := prog_1_method_18_code
def yX5_listener : MethodName := ⟨RX5, "listener", "(II)I"⟩
abbrev cX5_bit : ByteArray := prog_1_method_19_code
def yX5_bit : MethodName := ⟨RX5, "bit", "(II)I"⟩
abbrev cX5_winners : ByteArray := prog_1_method_20_code
def yX5_winners : MethodName := ⟨RX5, "winners", "()I"⟩
abbrev cX5_emptyIn : ByteArray := prog_1_method_21_code
def yX5_emptyIn : MethodName := ⟨RX5, "emptyIn", "()I"⟩
abbrev cX5_ifRun : ByteArray := prog_1_method_22_code
def yX5_ifRun : MethodName := ⟨RX5, "ifRun", "(II)I"⟩
abbrev cX5_count : ByteArray := prog_1_method_23_code
def yX5_count : MethodName := ⟨RX5, "count", "(I)I"⟩
abbrev cX5_recorded : ByteArray := prog_1_method_24_code
def yX5_recorded : MethodName := ⟨RX5, "recorded", "(I)I"⟩
abbrev cX5_carryOutOrder : ByteArray := prog_1_method_25_code
def yX5_carryOutOrder : MethodName := ⟨RX5, "carryOutOrder", "()I"⟩
abbrev cX5_isIndex : ByteArray := prog_1_method_26_code
def yX5_isIndex : MethodName := ⟨RX5, "isIndex", "(II)Z"⟩
abbrev cX5_isPlace : ByteArray := prog_1_method_27_code
def yX5_isPlace : MethodName := ⟨RX5, "isPlace", "(I)Z"⟩
def RX6 : String := "PulledWiresModel"
def TX6 : u_T := fun k => match k with
  | 0 => ("PulledWiresModel", "s", "[I", true)
  | 1 => ("PulledWiresModel", "aside", "[I", true)
  | 2 => ("PulledWiresModel", "before", "[I", true)
  | 3 => ("PulledWiresModel", "known", "I", false)
  | 4 => ("PulledWiresModel", "kept", "[I", true)
  | 5 => ("PulledWiresModel", "isKept", "Z", false)
  | 6 => ("PulledWiresModel", "text", "[I", true)
  | 7 => ("PulledWiresModel", "length", "I", false)
  | 8 => ("PulledWiresModel", "stopPlace", "I", false)
  | 9 => ("PulledWiresModel", "stopError", "I", false)
  | 10 => ("PulledWiresModel", "place", "I", false)
  | 11 => ("PulledWiresModel", "isWrong", "Z", false)
  | 12 => ("PulledWiresModel", "letter", "I", false)
  | 13 => ("PulledWiresModel", "one", "I", false)
  | 14 => ("PulledWiresModel", "two", "I", false)
  | 15 => ("PulledWiresModel", "three", "I", false)
  | _ => ("PulledWiresModel", "four", "I", false)
def tyX6 : Nat → FieldType := fun k => match k with
  | 0 => .array .int
  | 1 => .array .int
  | 2 => .array .int
  | 3 => .int
  | 4 => .array .int
  | 5 => .boolean
  | 6 => .array .int
  | 7 => .int
  | 8 => .int
  | 9 => .int
  | 10 => .int
  | 11 => .boolean
  | 12 => .int
  | 13 => .int
  | 14 => .int
  | 15 => .int
  | _ => .int
abbrev wsX60 : List Cond := u_ws RX6 TX6 17
theorem nmX6 : ∀ a, a < 17 → ∀ b, b < 17 → a ≠ b → (TX6 a).2.1 ≠ (TX6 b).2.1 := by decide +kernel
theorem tyX6_ok : ∀ k, k < 17 → parseFieldDescriptor (TX6 k).2.2.1 = some (tyX6 k) := by decide +kernel
abbrev cX6_init : ByteArray := prog_8_method_1_code
def yX6_init : MethodName := ⟨RX6, "<init>", "()V"⟩
abbrev cX6_in : ByteArray := prog_8_method_3_code
def yX6_in : MethodName := ⟨RX6, "in", "(III)Z"⟩
abbrev cX6_of : ByteArray := prog_8_method_4_code
def yX6_of : MethodName := ⟨RX6, "of", "(II)I"⟩
abbrev cX6_ofListener : ByteArray := prog_8_method_5_code
def yX6_ofListener : MethodName := ⟨RX6, "ofListener", "(II)I"⟩
abbrev cX6_inMessage : ByteArray := prog_8_method_6_code
def yX6_inMessage : MethodName := ⟨RX6, "inMessage", "(III)I"⟩
abbrev cX6_isOne : ByteArray := prog_8_method_7_code
def yX6_isOne : MethodName := ⟨RX6, "isOne", "(I)Z"⟩
abbrev cX6_putAside : ByteArray := prog_8_method_8_code
def yX6_putAside : MethodName := ⟨RX6, "putAside", "()V"⟩
abbrev cX6_putBack : ByteArray := prog_8_method_9_code
def yX6_putBack : MethodName := ⟨RX6, "putBack", "()V"⟩
abbrev cX6_act : ByteArray := prog_8_method_10_code
def yX6_act : MethodName := ⟨RX6, "act", "(I)I"⟩
abbrev cX6_bitsOf : ByteArray := prog_8_method_11_code
def yX6_bitsOf : MethodName := ⟨RX6, "bitsOf", "(I)I"⟩
abbrev cX6_isAnswer : ByteArray := prog_8_method_12_code
def yX6_isAnswer : MethodName := ⟨RX6, "isAnswer", "(I)Z"⟩
abbrev cX6_bitAt : ByteArray := prog_8_method_13_code
def yX6_bitAt : MethodName := ⟨RX6, "bitAt", "(II)I"⟩
abbrev cX6_dropFirst : ByteArray := prog_8_method_14_code
def yX6_dropFirst : MethodName := ⟨RX6, "dropFirst", "(I)V"⟩
abbrev cX6_isTalking : ByteArray := prog_8_method_15_code
def yX6_isTalking : MethodName := ⟨RX6, "isTalking", "(I)Z"⟩
abbrev cX6_talking : ByteArray := prog_8_method_16_code
def yX6_talking : MethodName := ⟨RX6, "talking", "()I"⟩
abbrev cX6_firstTalking : ByteArray := prog_8_method_17_code
def yX6_firstTalking : MethodName := ⟨RX6, "firstTalking", "()I"⟩
abbrev cX6_listenerOf : ByteArray := prog_8_method_18_code
def yX6_listenerOf : MethodName := ⟨RX6, "listenerOf", "(I)I"⟩
abbrev cX6_logs : ByteArray := prog_8_method_19_code
def yX6_logs : MethodName := ⟨RX6, "logs", "(III)V"⟩
abbrev cX6_lose : ByteArray := prog_8_method_20_code
def yX6_lose : MethodName := ⟨RX6, "lose", "()I"⟩
abbrev cX6_endsIfEmpty : ByteArray := prog_8_method_21_code
def yX6_endsIfEmpty : MethodName := ⟨RX6, "endsIfEmpty", "()V"⟩
abbrev cX6_stuck : ByteArray := prog_8_method_22_code
def yX6_stuck : MethodName := ⟨RX6, "stuck", "()I"⟩
abbrev cX6_tickStuck : ByteArray := prog_8_method_23_code
def yX6_tickStuck : MethodName := ⟨RX6, "tickStuck", "()V"⟩
abbrev cX6_tickBit : ByteArray := prog_8_method_24_code
def yX6_tickBit : MethodName := ⟨RX6, "tickBit", "()V"⟩
abbrev cX6_tickAnswered : ByteArray := prog_8_method_25_code
def yX6_tickAnswered : MethodName := ⟨RX6, "tickAnswered", "(I)V"⟩
abbrev cX6_tickUnanswered : ByteArray := prog_8_method_26_code
def yX6_tickUnanswered : MethodName := ⟨RX6, "tickUnanswered", "()V"⟩
abbrev cX6_messages : ByteArray := prog_8_method_27_code
def yX6_messages : MethodName := ⟨RX6, "messages", "()I"⟩
abbrev cX6_tickFree : ByteArray := prog_8_method_28_code
def yX6_tickFree : MethodName := ⟨RX6, "tickFree", "()V"⟩
abbrev cX6_next : ByteArray := prog_8_method_29_code
def yX6_next : MethodName := ⟨RX6, "next", "()I"⟩
abbrev cX6_tick : ByteArray := prog_8_method_30_code
def yX6_tick : MethodName := ⟨RX6, "tick", "()V"⟩
abbrev cX6_came : ByteArray := prog_8_method_31_code
def yX6_came : MethodName := ⟨RX6, "came", "()I"⟩
abbrev cX6_says : ByteArray := prog_8_method_32_code
def yX6_says : MethodName := ⟨RX6, "says", "(IIII)I"⟩
abbrev cX6_hears : ByteArray := prog_8_method_33_code
def yX6_hears : MethodName := ⟨RX6, "hears", "(II)I"⟩
abbrev cX6_holds : ByteArray := prog_8_method_34_code
def yX6_holds : MethodName := ⟨RX6, "holds", "(II)I"⟩
abbrev cX6_sticks : ByteArray := prog_8_method_35_code
def yX6_sticks : MethodName := ⟨RX6, "sticks", "(II)I"⟩
abbrev cX6_runs : ByteArray := prog_8_method_36_code
def yX6_runs : MethodName := ⟨RX6, "runs", "(I)I"⟩
abbrev cX6_takesBack : ByteArray := prog_8_method_37_code
def yX6_takesBack : MethodName := ⟨RX6, "takesBack", "(I)I"⟩
abbrev cX6_most : ByteArray := prog_8_method_38_code
def yX6_most : MethodName := ⟨RX6, "most", "(I)I"⟩
abbrev cX6_sets : ByteArray := prog_8_method_39_code
def yX6_sets : MethodName := ⟨RX6, "sets", "(II)I"⟩
abbrev cX6_say : ByteArray := prog_8_method_40_code
def yX6_say : MethodName := ⟨RX6, "say", "(IIII)I"⟩
abbrev cX6_takeBack : ByteArray := prog_8_method_41_code
def yX6_takeBack : MethodName := ⟨RX6, "takeBack", "(I)I"⟩
abbrev cX6_hear : ByteArray := prog_8_method_42_code
def yX6_hear : MethodName := ⟨RX6, "hear", "(II)I"⟩
abbrev cX6_hold : ByteArray := prog_8_method_43_code
def yX6_hold : MethodName := ⟨RX6, "hold", "(II)I"⟩
abbrev cX6_stick : ByteArray := prog_8_method_44_code
def yX6_stick : MethodName := ⟨RX6, "stick", "(II)I"⟩
abbrev cX6_set : ByteArray := prog_8_method_45_code
def yX6_set : MethodName := ⟨RX6, "set", "(II)I"⟩
abbrev cX6_run : ByteArray := prog_8_method_46_code
def yX6_run : MethodName := ⟨RX6, "run", "(I)I"⟩
abbrev cX6_type : ByteArray := prog_8_method_47_code
def yX6_type : MethodName := ⟨RX6, "type", "(C)I"⟩
abbrev cX6_clearText : ByteArray := prog_8_method_48_code
def yX6_clearText : MethodName := ⟨RX6, "clearText", "()I"⟩
abbrev cX6_sign : ByteArray := prog_8_method_49_code
def yX6_sign : MethodName := ⟨RX6, "sign", "(I)V"⟩
abbrev cX6_isNext : ByteArray := prog_8_method_50_code
def yX6_isNext : MethodName := ⟨RX6, "isNext", "(I)Z"⟩
abbrev cX6_isDigit : ByteArray := prog_8_method_51_code
def yX6_isDigit : MethodName := ⟨RX6, "isDigit", "()Z"⟩
abbrev cX6_number : ByteArray := prog_8_method_52_code
def yX6_number : MethodName := ⟨RX6, "number", "(II)I"⟩
abbrev cX6_order : ByteArray := prog_8_method_53_code
def yX6_order : MethodName := ⟨RX6, "order", "()V"⟩
abbrev cX6_does : ByteArray := prog_8_method_54_code
def yX6_does : MethodName := ⟨RX6, "does", "()I"⟩
abbrev cX6_go : ByteArray := prog_8_method_55_code
def yX6_go : MethodName := ⟨RX6, "go", "(Z)I"⟩
abbrev cX6_perform : ByteArray := prog_8_method_56_code
def yX6_perform : MethodName := ⟨RX6, "perform", "()I"⟩
abbrev cX6_stopped : ByteArray := prog_8_method_57_code
def yX6_stopped : MethodName := ⟨RX6, "stopped", "(I)I"⟩
abbrev cX6_undo : ByteArray := prog_8_method_58_code
def yX6_undo : MethodName := ⟨RX6, "undo", "()I"⟩
abbrev cX6_keep : ByteArray := prog_8_method_59_code
def yX6_keep : MethodName := ⟨RX6, "keep", "()I"⟩
abbrev cX6_restore : ByteArray := prog_8_method_60_code
def yX6_restore : MethodName := ⟨RX6, "restore", "()I"⟩
abbrev cX6_speaker : ByteArray := prog_8_method_61_code
def yX6_speaker : MethodName := ⟨RX6, "speaker", "(II)I"⟩
abbrev cX6_ticksOf : ByteArray := prog_8_method_62_code
def yX6_ticksOf : MethodName := ⟨RX6, "ticksOf", "(II)I"⟩
abbrev cX6_message : ByteArray := prog_8_method_63_code
def yX6_message : MethodName := ⟨RX6, "message", "(III)I"⟩
abbrev cX6_listener : ByteArray := prog_8_method_64_code
def yX6_listener : MethodName := ⟨RX6, "listener", "(II)I"⟩
abbrev cX6_bit : ByteArray := prog_8_method_65_code
def yX6_bit : MethodName := ⟨RX6, "bit", "(II)I"⟩
abbrev cX6_winners : ByteArray := prog_8_method_66_code
def yX6_winners : MethodName := ⟨RX6, "winners", "()I"⟩
abbrev cX6_emptyIn : ByteArray := prog_8_method_67_code
def yX6_emptyIn : MethodName := ⟨RX6, "emptyIn", "()I"⟩
abbrev cX6_ifRun : ByteArray := prog_8_method_68_code
def yX6_ifRun : MethodName := ⟨RX6, "ifRun", "(II)I"⟩
abbrev cX6_count : ByteArray := prog_8_method_69_code
def yX6_count : MethodName := ⟨RX6, "count", "(I)I"⟩
def RJ6 : String := "java/lang/Integer"
def TJ6 : u_T := fun k => match k with
  | _ => ("", "", "", false)
def tyJ6 : Nat → FieldType := fun k => match k with
  | _ => .int
abbrev wsJ60 : List Cond := u_ws RJ6 TJ6 0
theorem nmJ6 : ∀ a, a < 0 → ∀ b, b < 0 → a ≠ b → (TJ6 a).2.1 ≠ (TJ6 b).2.1 := by decide +kernel
theorem tyJ6_ok : ∀ k, k < 0 → parseFieldDescriptor (TJ6 k).2.2.1 = some (tyJ6 k) := by decide +kernel
abbrev cJ6_bitCount_0f7a4 : ByteArray := prog_9_method_49_code
def yJ6_bitCount_0f7a4 : MethodName := ⟨RJ6, "bitCount", "(I)I"⟩
def RJ9 : String := "java/lang/Math"
def TJ9 : u_T := fun k => match k with
  | _ => ("", "", "", false)
def tyJ9 : Nat → FieldType := fun k => match k with
  | _ => .int
abbrev wsJ90 : List Cond := u_ws RJ9 TJ9 0
theorem nmJ9 : ∀ a, a < 0 → ∀ b, b < 0 → a ≠ b → (TJ9 a).2.1 ≠ (TJ9 b).2.1 := by decide +kernel
theorem tyJ9_ok : ∀ k, k < 0 → parseFieldDescriptor (TJ9 k).2.2.1 = some (tyJ9 k) := by decide +kernel
abbrev cJ9_floorMod_7cf53 : ByteArray := prog_10_method_50_code
def yJ9_floorMod_7cf53 : MethodName := ⟨RJ9, "floorMod", "(II)I"⟩
abbrev cJ9_max_7cf53 : ByteArray := prog_10_method_65_code
def yJ9_max_7cf53 : MethodName := ⟨RJ9, "max", "(II)I"⟩
abbrev cJ9_min_7cf53 : ByteArray := prog_10_method_69_code
def yJ9_min_7cf53 : MethodName := ⟨RJ9, "min", "(II)I"⟩
def RJ0 : String := "java/lang/String"
def TJ0 : u_T := fun k => match k with
  | _ => ("", "", "", false)
def tyJ0 : Nat → FieldType := fun k => match k with
  | _ => .int
abbrev wsJ00 : List Cond := u_ws RJ0 TJ0 0
theorem nmJ0 : ∀ a, a < 0 → ∀ b, b < 0 → a ≠ b → (TJ0 a).2.1 ≠ (TJ0 b).2.1 := by decide +kernel
theorem tyJ0_ok : ∀ k, k < 0 → parseFieldDescriptor (TJ0 k).2.2.1 = some (tyJ0 k) := by decide +kernel
abbrev cJ0_length_8abf5 : ByteArray := prog_11_method_54_code
def yJ0_length_8abf5 : MethodName := ⟨RJ0, "length", "()I"⟩
abbrev cJ0_charAt_5068e : ByteArray := prog_11_method_56_code
def yJ0_charAt_5068e : MethodName := ⟨RJ0, "charAt", "(I)C"⟩
abbrev cJ0_coder_7d493 : ByteArray := prog_11_method_152_code
def yJ0_coder_7d493 : MethodName := ⟨RJ0, "coder", "()B"⟩
abbrev cJ0_isLatin1_aae02 : ByteArray := prog_11_method_154_code
def yJ0_isLatin1_aae02 : MethodName := ⟨RJ0, "isLatin1", "()Z"⟩
abbrev cJ0_checkIndex_df160 : ByteArray := prog_11_method_155_code
def yJ0_checkIndex_df160 : MethodName := ⟨RJ0, "checkIndex", "(II)V"⟩
def RJ1 : String := "java/lang/StringLatin1"
def TJ1 : u_T := fun k => match k with
  | _ => ("", "", "", false)
def tyJ1 : Nat → FieldType := fun k => match k with
  | _ => .int
abbrev wsJ10 : List Cond := u_ws RJ1 TJ1 0
theorem nmJ1 : ∀ a, a < 0 → ∀ b, b < 0 → a ≠ b → (TJ1 a).2.1 ≠ (TJ1 b).2.1 := by decide +kernel
theorem tyJ1_ok : ∀ k, k < 0 → parseFieldDescriptor (TJ1 k).2.2.1 = some (tyJ1 k) := by decide +kernel
abbrev cJ1_charAt_3b067 : ByteArray := prog_12_method_2_code
def yJ1_charAt_3b067 : MethodName := ⟨RJ1, "charAt", "([BI)C"⟩
def RJ2 : String := "java/lang/StringUTF16"
def TJ2 : u_T := fun k => match k with
  | _ => ("", "", "", false)
def tyJ2 : Nat → FieldType := fun k => match k with
  | _ => .int
abbrev wsJ20 : List Cond := u_ws RJ2 TJ2 0
theorem nmJ2 : ∀ a, a < 0 → ∀ b, b < 0 → a ≠ b → (TJ2 a).2.1 ≠ (TJ2 b).2.1 := by decide +kernel
theorem tyJ2_ok : ∀ k, k < 0 → parseFieldDescriptor (TJ2 k).2.2.1 = some (tyJ2 k) := by decide +kernel
abbrev cJ2_getChar_3b067 : ByteArray := prog_13_method_5_code
def yJ2_getChar_3b067 : MethodName := ⟨RJ2, "getChar", "([BI)C"⟩
abbrev cJ2_length_9d52b : ByteArray := prog_13_method_6_code
def yJ2_length_9d52b : MethodName := ⟨RJ2, "length", "([B)I"⟩
abbrev cJ2_charAt_3b067 : ByteArray := prog_13_method_83_code
def yJ2_charAt_3b067 : MethodName := ⟨RJ2, "charAt", "([BI)C"⟩
abbrev cJ2_checkIndex_2214a : ByteArray := prog_13_method_91_code
def yJ2_checkIndex_2214a : MethodName := ⟨RJ2, "checkIndex", "(I[B)V"⟩
def RJ10 : String := "java/lang/System"
def TJ10 : u_T := fun k => match k with
  | _ => ("", "", "", false)
def tyJ10 : Nat → FieldType := fun k => match k with
  | _ => .int
abbrev wsJ100 : List Cond := u_ws RJ10 TJ10 0
theorem nmJ10 : ∀ a, a < 0 → ∀ b, b < 0 → a ≠ b → (TJ10 a).2.1 ≠ (TJ10 b).2.1 := by decide +kernel
theorem tyJ10_ok : ∀ k, k < 0 → parseFieldDescriptor (TJ10 k).2.2.1 = some (tyJ10 k) := by decide +kernel
def RJ3 : String := "jdk/internal/util/Preconditions"
def TJ3 : u_T := fun k => match k with
  | _ => ("", "", "", false)
def tyJ3 : Nat → FieldType := fun k => match k with
  | _ => .int
abbrev wsJ30 : List Cond := u_ws RJ3 TJ3 0
theorem nmJ3 : ∀ a, a < 0 → ∀ b, b < 0 → a ≠ b → (TJ3 a).2.1 ≠ (TJ3 b).2.1 := by decide +kernel
theorem tyJ3_ok : ∀ k, k < 0 → parseFieldDescriptor (TJ3 k).2.2.1 = some (tyJ3 k) := by decide +kernel
abbrev cJ3_checkIndex_8e157 : ByteArray := prog_15_method_11_code
def yJ3_checkIndex_8e157 : MethodName := ⟨RJ3, "checkIndex", "(IILjava/util/function/BiFunction;)I"⟩
def RL : String := "PulledWiresLaw"
abbrev cL_law : ByteArray := code
def yL_law : MethodName := ⟨RL, "law", "([I)Z"⟩
abbrev vwCl : List vw_C := [(RX0, TX0, 3), (RX1, TX1, 5), (RX2, TX2, 5), (RX3, TX3, 8), (RX4, TX4, 11), (RX5, TX5, 9), (RX6, TX6, 17)]
end
section
/-! THE FLAT MACHINE. Objects have numbers 0 .. 136 in the order in which the law makes them (numbers from 1000 on are the constants that were there before); what they hold is a number (I) or the number of another object (R). X says: from here the machine comes to a state with F. -/
abbrev MI : Type := Nat → Nat → Int32
abbrev MR : Type := Nat → Nat → Option Nat
abbrev GX : Type := (Nat × (Nat → Nat)) × va_G × (Nat → ClassId)
abbrev CX : Type := Program × Launch × Env × State × MethodId × Array Value × List Frame × Method × Code
abbrev MT : Type := MethodName × ByteArray × Nat × Option FieldType × Room × Nat
/-- kind and length of each object -/
def xkL : List (Nat × Nat) :=
  let sp : List (Nat × Nat) := [(3, 0), (8, 15)]
  let stt : List (Nat × Nat) := [(4, 0), (10, 4), (9, 4), (8, 3), (0, 0), (8, 256)] ++ sp ++ sp ++ sp ++ sp ++ [(1, 0), (1, 0), (1, 0), (1, 0)]
  [(5, 0)] ++ stt ++ stt ++ [(11, 4), (2, 0), (7, 80), (8, 4)] ++ stt ++ stt ++ stt ++ stt ++ stt ++ [(6, 0), (8, 375), (8, 375), (8, 1500), (8, 375), (8, 80)]
def xkd (i : Nat) : Nat := (xkL.getD i (99, 0)).1
def xln (i : Nat) : Nat := (xkL.getD i (99, 0)).2
/-- slot k of an object of a kind holds an object -/
def xrf (c k : Nat) : Bool := match c with
  | 0 => k == 0
  | 2 => decide (k < 2)
  | 3 => k == 0
  | 4 => decide (k < 4)
  | 5 => decide (k < 5)
  | 6 => (k == 0) || (k == 1) || (k == 2) || (k == 4) || (k == 6)
  | 9 => true
  | 10 => true
  | 11 => true
  | _ => false
def xN (c : Nat) : Nat := [3, 5, 5, 8, 11, 9, 17].getD c 0
def xad (g : GX) (i : Nat) : Nat := if i < 1000 then g.1.1 + i else g.1.2 (i - 1000)
def xv (g : GX) : Value → Value
  | .ref i => .ref (xad g i)
  | v => v
def xval (g : GX) (I : MI) (R : MR) (c i k : Nat) : Value := if xrf c k = true then va_rf ((R i k).map (xad g)) else .int (I i k)
def xat (g : GX) (I : MI) (R : MR) (H : Heap) (i : Nat) : Prop :=
  (xkd i < 7 → t_OB (xad g i) (g.2.1.1 (xkd i)) (xN (xkd i)) (g.2.1.2 (xkd i)) H (xval g I R (xkd i) i)) ∧
  (¬ xkd i < 7 → H[xad g i]? = some (arrV (g.2.2 (xkd i)) (xln i) (xval g I R (xkd i) i)))
def xRep (g : GX) (n : Nat) (I : MI) (R : MR) (H : Heap) : Prop := n ≤ 137 ∧ g.1.1 + n ≤ H.size ∧ (n < 137 → H.size = g.1.1 + n) ∧ ∀ i, i < n → xat g I R H i
/-- the words that every method may use -/
def XT : List Cond := lw_tbl.filter goodWord
/-- the words of nest mates -/
def xNW : List Cond := lw_tbl.filter (fun w => match w with
  | .methodLinkNest .. => true
  | .fieldLinkNest .. => true
  | _ => false)
/-- the array kinds' element types -/
def xTy (c : Nat) : FieldType := match c with
  | 7 => .char
  | 8 => .int
  | 9 => .object RX1
  | 10 => .object RX3
  | _ => .object RX4
def xTys (g : GX) : List (ClassId × FieldType) := [(g.2.2 7, .char), (g.2.2 8, .int), (g.2.2 9, .object RX1), (g.2.2 10, .object RX3), (g.2.2 11, .object RX4)]
def xTexts : List (Nat × String × List Int32) := [(97, "say", [115, 97, 121]), (99, "hear", [104, 101, 97, 114]), (101, "hold", [104, 111, 108, 100]), (103, "stick", [115, 116, 105, 99, 107]), (105, "run", [114, 117, 110])]
/-- what is known of the machine's tables -/
def xKV (g : GX) (U : State) : Prop := va_K g.2.1 vwCl (xTys g) U ∧ (∀ w ∈ xNW, va_Nw w U) ∧ (va_AO RX1 U ∧ va_AO RX3 U ∧ va_AO RX4 U) ∧
  (vk_R RX2 97 "say" (g.1.2 0) U ∧ vk_R RX2 99 "hear" (g.1.2 1) U ∧ vk_R RX2 101 "hold" (g.1.2 2) U ∧ vk_R RX2 103 "stick" (g.1.2 3) U ∧ vk_R RX2 105 "run" (g.1.2 4) U)
/-- what is known of the constants' cells: five texts, their bytes at 10 .. 14, MOST_SETTING at 5 -/
def xKH (g : GX) (U : State) (H : Heap) : Prop :=
  vk_S 5 [3, 4, 4, 5, 3] [[115, 97, 121], [104, 101, 97, 114], [104, 111, 108, 100], [115, 116, 105, 99, 107], [114, 117, 110]] g.1.2 (fun i => g.1.2 (10 + i)) (fun q => g.1.1 ≤ q) U H ∧
  va_Z "java/lang/String" "COMPACT_STRINGS" "Z" (.int 1) (fun q => g.1.1 ≤ q) U H ∧
  va_Z "PulledWires" "MOST_SETTING" "[I" (.ref (g.1.2 5)) (fun q => g.1.1 ≤ q) U H ∧
  va_T .int (g.1.2 5) 3 (fun j => .int (([20, 9, 99] : List Int32).getD j 0)) (fun q => g.1.1 ≤ q) U H
/-- locals: some values known -/
def xp (g : GX) (ls : List (Option Value)) : List (Nat × Value) := ls.zipIdx.filterMap (fun q => q.1.map (fun v => (q.2, xv g v)))
def XL (g : GX) (nL : Nat) (ls : List (Option Value)) (lsA : Array Slot) : Prop := lv_has lsA nL (xp g ls) ∧ ls.length = nL ∧ ∀ v, some v ∈ ls → v.category = 1
def xOk (g : GX) (cx : CX) (mt : MT) : Prop :=
  cx.1.tables.exec = Jvm.exec ∧ cx.2.2.2.2.2.2.2.2.code = mt.2.1 ∧ cx.2.2.2.2.2.2.2.1.sig.returnType = mt.2.2.2.1 ∧ cx.2.2.2.2.2.2.2.2.maxLocals = mt.2.2.1 ∧
  cx.2.2.2.1.vm.findClass mt.1.cls = some cx.2.2.2.2.1.cls ∧ cx.2.2.2.2.2.2.2.1.locks = false ∧ (∀ w ∈ XT, w.before cx.2.2.2.2.2.1 cx.2.2.2.1 = true) ∧ cx.2.2.2.2.2.2.2.1.name = mt.1.name ∧
  xKV g cx.2.2.2.1 ∧ g.1.1 ≤ cx.2.2.2.1.heap.size ∧ xKH g cx.2.2.2.1 cx.2.2.2.1.heap
def X (g : GX) (cx : CX) (mt : MT) (F : State → Prop) (cs : Nat × Nat) (pc : Nat) (ls : List (Option Value)) (st : List Value) (n : Nat) (I : MI) (R : MR) : Prop :=
  xOk g cx mt → ∀ (H : Heap) (locs : List Loc) (lsA : Array Slot), xRep g n I R H → va_S (fun q => g.1.1 ≤ q) cx.2.2.2.1.heap H locs → XL g mt.2.2.1 ls lsA →
    W cx.1 cx.2.1 cx.2.2.1 mt.2.2.2.2.1 cx.2.2.2.1 cx.2.2.2.2.1 cx.2.2.2.2.2.1 cx.2.2.2.2.2.2.1 cx.2.2.2.2.2.2.2.1 cx.2.2.2.2.2.2.2.2 H locs cs.1 cs.2 F (F0 cx.2.2.2.2.1 pc lsA (st.map (xv g)))
abbrev XQ : Type := Option Value → Nat → MI → MR → Prop
def xPc (g : GX) (av : List Value) (n : Nat) (I : MI) (R : MR) : Array Value → State → Prop := fun v U => v = (av.map (xv g)).toArray ∧ xRep g n I R U.heap ∧ xKV g U ∧ g.1.1 ≤ U.heap.size ∧ xKH g U U.heap
def xQc (g : GX) (Q : XQ) : Array Value → State → Outcome → State → Prop := fun _ st o t => ∃ (r : Option Value) (n : Nat) (I : MI) (R : MR), o = .returned (r.map (xv g)) ∧ Q r n I R ∧ xRep g n I R t.heap ∧ st.heap.size ≤ t.heap.size ∧ ∀ q : Nat, q < g.1.1 → t.heap[q]? = st.heap[q]?
def xF (g : GX) (cx : CX) (mt : MT) (Q : XQ) : State → Prop := MQ cx.2.2.2.2.2.2.1 (xQc g Q) cx.2.2.2.2.2.1 cx.2.2.2.1 mt.2.2.2.2.1.cells mt.2.2.2.2.1.slots (fun q => g.1.1 ≤ q)
/-- a method's contract: from these arguments and contents it returns, with Q -/
def Sp (mt : MT) (av : List Value) (n : Nat) (I : MI) (R : MR) (Q : XQ) : Prop := ∀ (g : GX) (l : Launch), Met l mt.1 (.code mt.1 mt.2.1 mt.2.2.1 mt.2.2.2.1 :: XT) mt.2.2.2.2.1 (xPc g av n I R) (xQc g Q) mt.2.2.2.2.1.cells mt.2.2.2.2.1.slots (fun q => g.1.1 ≤ q)
theorem xv_cat (g : GX) (v : Value) : (xv g v).category = v.category := by cases v <;> rfl
theorem xad_lo (g : GX) {i : Nat} (h : i < 1000) : xad g i = g.1.1 + i := by simp [xad, h]
theorem xad_inj (g : GX) {i j : Nat} (hi : i < 1000) (hj : j < 1000) (h : xad g i = xad g j) : i = j := by rw [xad_lo g hi, xad_lo g hj] at h; omega
theorem xp_mem {g : GX} {ls : List (Option Value)} {i : Nat} {v : Value} (h : ls[i]? = some (some v)) : (i, xv g v) ∈ xp g ls := by
  refine List.mem_filterMap.mpr ⟨(some v, i), ?_, rfl⟩
  exact List.mem_zipIdx_iff_getElem?.mpr h
theorem xp_of {g : GX} {ls : List (Option Value)} {q : Nat × Value} (h : q ∈ xp g ls) : ∃ v, ls[q.1]? = some (some v) ∧ q.2 = xv g v := by
  obtain ⟨⟨o, i⟩, h1, h2⟩ := List.mem_filterMap.mp h
  cases o with
  | none => cases h2
  | some v =>
    have h3 := List.mem_zipIdx_iff_getElem?.mp h1
    cases h2
    exact ⟨v, h3, rfl⟩
theorem XL.get {g : GX} {nL : Nat} {ls : List (Option Value)} {lsA : Array Slot} (h : XL g nL ls lsA) {i : Nat} {v : Value} (hi : ls[i]? = some (some v)) : lsA[i]? = some (.val (xv g v)) := h.1.2.2 _ (xp_mem hi)
theorem XL.put {g : GX} {nL : Nat} {ls : List (Option Value)} {lsA ls' : Array Slot} (h : XL g nL ls lsA) {i : Nat} {v : Value} (hc : v.category = 1)
    (h' : lv_has ls' nL ((i, xv g v) :: (xp g ls).filter (fun q => !(q.1 == i) && !(q.1 + 1 == i && q.2.category == 2)))) : XL g nL (ls.set i (some v)) ls' := by
  refine ⟨⟨h'.1, h'.2.1, fun q hq => ?_⟩, by rw [List.length_set]; exact h.2.1, fun w hw => ?_⟩
  · obtain ⟨w, h1, h2⟩ := xp_of hq
    by_cases hqi : q.1 = i
    · have hlt : i < ls.length := by
        have h3 := (List.getElem?_eq_some_iff.mp h1).1
        rw [List.length_set] at h3
        omega
      rw [hqi, List.getElem?_set_self hlt] at h1
      cases h1
      have h4 := h'.2.2 (i, xv g v) List.mem_cons_self
      rw [hqi, h2]
      exact h4
    · rw [List.getElem?_set_ne (Ne.symm hqi)] at h1
      have hw1 : w.category = 1 := h.2.2 w (List.mem_of_getElem? h1)
      refine h'.2.2 q (List.mem_cons_of_mem _ (List.mem_filter.mpr ⟨?_, ?_⟩))
      · have := xp_mem (g := g) h1
        rw [← h2] at this
        exact this
      · have hcat : q.2.category = 1 := by rw [h2, xv_cat]; exact hw1
        simp [hqi, hcat]
  · rcases List.mem_or_eq_of_mem_set hw with h1 | h1
    · exact h.2.2 w h1
    · cases h1; exact hc
theorem XL.weak {g : GX} {nL : Nat} {ls ls2 : List (Option Value)} {lsA : Array Slot} (h : XL g nL ls lsA) (hl : ls2.length = ls.length) (hw : ∀ (i : Nat) (v : Value), ls2[i]? = some (some v) → ls[i]? = some (some v)) : XL g nL ls2 lsA := by
  refine ⟨⟨h.1.1, h.1.2.1, fun q hq => ?_⟩, hl.trans h.2.1, fun v hv => ?_⟩
  · obtain ⟨v, h1, h2⟩ := xp_of hq
    rw [h2]
    exact h.get (hw _ _ h1)
  · obtain ⟨i, hi⟩ := List.getElem?_of_mem hv
    exact h.2.2 v (List.mem_of_getElem? (hw i v hi))
end
