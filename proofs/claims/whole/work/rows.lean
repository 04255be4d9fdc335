section
-- ===== PART A: goes FIRST, ahead of the names: the tables' words, and 'selects' of the private methods out of them =====
/-- a private method of a class that the tables say can be made, by its rows of tables_1 -/
def lw_okq (q : MethodName × Nat) : Prop := (q.1.cls ≠ "java/lang/invoke/MethodHandle" ∧ q.1.cls ≠ "java/lang/invoke/VarHandle") ∧ Cond.instantiable q.1.cls q.2 ∈ tables_1 ∧ Cond.privateMethod q.1 ∈ tables_1 ∧ Cond.instanceMethod q.1 ∈ tables_1
theorem lw_p0 : lw_okq (⟨"PulledWires", "recorded", "(I)I"⟩, 9) := ⟨⟨by decide +kernel, by decide +kernel⟩, List.mem_of_getElem? (i := 16) (by decide +kernel), List.mem_of_getElem? (i := 257) (by decide +kernel), List.mem_of_getElem? (i := 258) (by decide +kernel)⟩
theorem lw_p1 : lw_okq (⟨"PulledWires$State", "listenerWith", "(I)LPulledWires$Listener;"⟩, 11) := ⟨⟨by decide +kernel, by decide +kernel⟩, List.mem_of_getElem? (i := 24) (by decide +kernel), List.mem_of_getElem? (i := 285) (by decide +kernel), List.mem_of_getElem? (i := 286) (by decide +kernel)⟩
theorem lw_p2 : lw_okq (⟨"PulledWires$State", "listenersWithAddress", "()I"⟩, 11) := ⟨⟨by decide +kernel, by decide +kernel⟩, List.mem_of_getElem? (i := 24) (by decide +kernel), List.mem_of_getElem? (i := 289) (by decide +kernel), List.mem_of_getElem? (i := 290) (by decide +kernel)⟩
theorem lw_p3 : lw_okq (⟨"PulledWires$State", "stuckListeners", "()I"⟩, 11) := ⟨⟨by decide +kernel, by decide +kernel⟩, List.mem_of_getElem? (i := 24) (by decide +kernel), List.mem_of_getElem? (i := 309) (by decide +kernel), List.mem_of_getElem? (i := 310) (by decide +kernel)⟩
theorem lw_p4 : lw_okq (⟨"PulledWires$State", "stuckTick", "()V"⟩, 11) := ⟨⟨by decide +kernel, by decide +kernel⟩, List.mem_of_getElem? (i := 24) (by decide +kernel), List.mem_of_getElem? (i := 351) (by decide +kernel), List.mem_of_getElem? (i := 352) (by decide +kernel)⟩
theorem lw_p5 : lw_okq (⟨"PulledWires$State", "lose", "(I)V"⟩, 11) := ⟨⟨by decide +kernel, by decide +kernel⟩, List.mem_of_getElem? (i := 24) (by decide +kernel), List.mem_of_getElem? (i := 366) (by decide +kernel), List.mem_of_getElem? (i := 367) (by decide +kernel)⟩
theorem lw_p6 : lw_okq (⟨"PulledWires$State", "endTalkIfEmpty", "()V"⟩, 11) := ⟨⟨by decide +kernel, by decide +kernel⟩, List.mem_of_getElem? (i := 24) (by decide +kernel), List.mem_of_getElem? (i := 374) (by decide +kernel), List.mem_of_getElem? (i := 375) (by decide +kernel)⟩
theorem lw_p7 : lw_okq (⟨"PulledWires$State", "sendBit", "()V"⟩, 11) := ⟨⟨by decide +kernel, by decide +kernel⟩, List.mem_of_getElem? (i := 24) (by decide +kernel), List.mem_of_getElem? (i := 385) (by decide +kernel), List.mem_of_getElem? (i := 386) (by decide +kernel)⟩
theorem lw_p8 : lw_okq (⟨"PulledWires$State", "partOfTalk", "(I)I"⟩, 11) := ⟨⟨by decide +kernel, by decide +kernel⟩, List.mem_of_getElem? (i := 24) (by decide +kernel), List.mem_of_getElem? (i := 405) (by decide +kernel), List.mem_of_getElem? (i := 406) (by decide +kernel)⟩
theorem lw_p9 : lw_okq (⟨"PulledWires$State", "awaitAnswer", "()V"⟩, 11) := ⟨⟨by decide +kernel, by decide +kernel⟩, List.mem_of_getElem? (i := 24) (by decide +kernel), List.mem_of_getElem? (i := 413) (by decide +kernel), List.mem_of_getElem? (i := 414) (by decide +kernel)⟩
theorem lw_p10 : lw_okq (⟨"PulledWires$Speaker", "removeFirst", "()V"⟩, 8) := ⟨⟨by decide +kernel, by decide +kernel⟩, List.mem_of_getElem? (i := 50) (by decide +kernel), List.mem_of_getElem? (i := 425) (by decide +kernel), List.mem_of_getElem? (i := 426) (by decide +kernel)⟩
theorem lw_p11 : lw_okq (⟨"PulledWires$State", "freeTick", "()V"⟩, 11) := ⟨⟨by decide +kernel, by decide +kernel⟩, List.mem_of_getElem? (i := 24) (by decide +kernel), List.mem_of_getElem? (i := 441) (by decide +kernel), List.mem_of_getElem? (i := 442) (by decide +kernel)⟩
theorem lw_p12 : lw_okq (⟨"PulledWires$OrderText", "readName", "()Z"⟩, 5) := ⟨⟨by decide +kernel, by decide +kernel⟩, List.mem_of_getElem? (i := 163) (by decide +kernel), List.mem_of_getElem? (i := 482) (by decide +kernel), List.mem_of_getElem? (i := 483) (by decide +kernel)⟩
theorem lw_p13 : lw_okq (⟨"PulledWires$OrderText", "sameCharacters", "(Ljava/lang/String;)I"⟩, 5) := ⟨⟨by decide +kernel, by decide +kernel⟩, List.mem_of_getElem? (i := 163) (by decide +kernel), List.mem_of_getElem? (i := 494) (by decide +kernel), List.mem_of_getElem? (i := 495) (by decide +kernel)⟩
theorem lw_p14 : lw_okq (⟨"PulledWires$OrderText", "isCharacter", "(IC)Z"⟩, 5) := ⟨⟨by decide +kernel, by decide +kernel⟩, List.mem_of_getElem? (i := 163) (by decide +kernel), List.mem_of_getElem? (i := 546) (by decide +kernel), List.mem_of_getElem? (i := 547) (by decide +kernel)⟩
theorem lw_p15 : lw_okq (⟨"PulledWires$OrderText", "readNumbers", "()Z"⟩, 5) := ⟨⟨by decide +kernel, by decide +kernel⟩, List.mem_of_getElem? (i := 163) (by decide +kernel), List.mem_of_getElem? (i := 552) (by decide +kernel), List.mem_of_getElem? (i := 553) (by decide +kernel)⟩
def lw_privs_1 : List (MethodName × Nat) := [(⟨"PulledWires", "recorded", "(I)I"⟩, 9), (⟨"PulledWires$State", "listenerWith", "(I)LPulledWires$Listener;"⟩, 11), (⟨"PulledWires$State", "listenersWithAddress", "()I"⟩, 11), (⟨"PulledWires$State", "stuckListeners", "()I"⟩, 11), (⟨"PulledWires$State", "stuckTick", "()V"⟩, 11), (⟨"PulledWires$State", "lose", "(I)V"⟩, 11), (⟨"PulledWires$State", "endTalkIfEmpty", "()V"⟩, 11), (⟨"PulledWires$State", "sendBit", "()V"⟩, 11), (⟨"PulledWires$State", "partOfTalk", "(I)I"⟩, 11), (⟨"PulledWires$State", "awaitAnswer", "()V"⟩, 11), (⟨"PulledWires$Speaker", "removeFirst", "()V"⟩, 8), (⟨"PulledWires$State", "freeTick", "()V"⟩, 11), (⟨"PulledWires$OrderText", "readName", "()Z"⟩, 5), (⟨"PulledWires$OrderText", "sameCharacters", "(Ljava/lang/String;)I"⟩, 5), (⟨"PulledWires$OrderText", "isCharacter", "(IC)Z"⟩, 5), (⟨"PulledWires$OrderText", "readNumbers", "()Z"⟩, 5)]
theorem lw_r1 : ∀ q ∈ lw_privs_1, lw_okq q := List.forall_mem_cons.mpr ⟨lw_p0, List.forall_mem_cons.mpr ⟨lw_p1, List.forall_mem_cons.mpr ⟨lw_p2, List.forall_mem_cons.mpr ⟨lw_p3, List.forall_mem_cons.mpr ⟨lw_p4, List.forall_mem_cons.mpr ⟨lw_p5, List.forall_mem_cons.mpr ⟨lw_p6, List.forall_mem_cons.mpr ⟨lw_p7, List.forall_mem_cons.mpr ⟨lw_p8, List.forall_mem_cons.mpr ⟨lw_p9, List.forall_mem_cons.mpr ⟨lw_p10, List.forall_mem_cons.mpr ⟨lw_p11, List.forall_mem_cons.mpr ⟨lw_p12, List.forall_mem_cons.mpr ⟨lw_p13, List.forall_mem_cons.mpr ⟨lw_p14, List.forall_mem_cons.mpr ⟨lw_p15, fun _ h => absurd h List.not_mem_nil⟩⟩⟩⟩⟩⟩⟩⟩⟩⟩⟩⟩⟩⟩⟩⟩
theorem lw_p16 : lw_okq (⟨"PulledWires$OrderText", "readNumber", "(I)Z"⟩, 5) := ⟨⟨by decide +kernel, by decide +kernel⟩, List.mem_of_getElem? (i := 163) (by decide +kernel), List.mem_of_getElem? (i := 556) (by decide +kernel), List.mem_of_getElem? (i := 557) (by decide +kernel)⟩
theorem lw_p17 : lw_okq (⟨"PulledWires$OrderText", "skip", "(C)Z"⟩, 5) := ⟨⟨by decide +kernel, by decide +kernel⟩, List.mem_of_getElem? (i := 163) (by decide +kernel), List.mem_of_getElem? (i := 560) (by decide +kernel), List.mem_of_getElem? (i := 561) (by decide +kernel)⟩
theorem lw_p18 : lw_okq (⟨"PulledWires$OrderText", "mostOf", "(I)I"⟩, 5) := ⟨⟨by decide +kernel, by decide +kernel⟩, List.mem_of_getElem? (i := 163) (by decide +kernel), List.mem_of_getElem? (i := 564) (by decide +kernel), List.mem_of_getElem? (i := 565) (by decide +kernel)⟩
theorem lw_p19 : lw_okq (⟨"PulledWires$OrderText", "digitHere", "()I"⟩, 5) := ⟨⟨by decide +kernel, by decide +kernel⟩, List.mem_of_getElem? (i := 163) (by decide +kernel), List.mem_of_getElem? (i := 568) (by decide +kernel), List.mem_of_getElem? (i := 569) (by decide +kernel)⟩
theorem lw_p20 : lw_okq (⟨"PulledWires$OrderText", "leastOf", "(I)I"⟩, 5) := ⟨⟨by decide +kernel, by decide +kernel⟩, List.mem_of_getElem? (i := 163) (by decide +kernel), List.mem_of_getElem? (i := 572) (by decide +kernel), List.mem_of_getElem? (i := 573) (by decide +kernel)⟩
theorem lw_p21 : lw_okq (⟨"PulledWires", "carryOutOrder", "()I"⟩, 9) := ⟨⟨by decide +kernel, by decide +kernel⟩, List.mem_of_getElem? (i := 16) (by decide +kernel), List.mem_of_getElem? (i := 583) (by decide +kernel), List.mem_of_getElem? (i := 584) (by decide +kernel)⟩
theorem lw_p22 : lw_okq (⟨"PulledWiresModel", "putAside", "()V"⟩, 17) := ⟨⟨by decide +kernel, by decide +kernel⟩, List.mem_of_getElem? (i := 672) (by decide +kernel), List.mem_of_getElem? (i := 737) (by decide +kernel), List.mem_of_getElem? (i := 738) (by decide +kernel)⟩
theorem lw_p23 : lw_okq (⟨"PulledWiresModel", "says", "(IIII)I"⟩, 17) := ⟨⟨by decide +kernel, by decide +kernel⟩, List.mem_of_getElem? (i := 672) (by decide +kernel), List.mem_of_getElem? (i := 741) (by decide +kernel), List.mem_of_getElem? (i := 742) (by decide +kernel)⟩
theorem lw_p24 : lw_okq (⟨"PulledWiresModel", "act", "(I)I"⟩, 17) := ⟨⟨by decide +kernel, by decide +kernel⟩, List.mem_of_getElem? (i := 672) (by decide +kernel), List.mem_of_getElem? (i := 754) (by decide +kernel), List.mem_of_getElem? (i := 755) (by decide +kernel)⟩
theorem lw_p25 : lw_okq (⟨"PulledWiresModel", "takesBack", "(I)I"⟩, 17) := ⟨⟨by decide +kernel, by decide +kernel⟩, List.mem_of_getElem? (i := 672) (by decide +kernel), List.mem_of_getElem? (i := 762) (by decide +kernel), List.mem_of_getElem? (i := 763) (by decide +kernel)⟩
theorem lw_p26 : lw_okq (⟨"PulledWiresModel", "isTalking", "(I)Z"⟩, 17) := ⟨⟨by decide +kernel, by decide +kernel⟩, List.mem_of_getElem? (i := 672) (by decide +kernel), List.mem_of_getElem? (i := 766) (by decide +kernel), List.mem_of_getElem? (i := 767) (by decide +kernel)⟩
theorem lw_p27 : lw_okq (⟨"PulledWiresModel", "hears", "(II)I"⟩, 17) := ⟨⟨by decide +kernel, by decide +kernel⟩, List.mem_of_getElem? (i := 672) (by decide +kernel), List.mem_of_getElem? (i := 774) (by decide +kernel), List.mem_of_getElem? (i := 775) (by decide +kernel)⟩
theorem lw_p28 : lw_okq (⟨"PulledWiresModel", "listenerOf", "(I)I"⟩, 17) := ⟨⟨by decide +kernel, by decide +kernel⟩, List.mem_of_getElem? (i := 672) (by decide +kernel), List.mem_of_getElem? (i := 778) (by decide +kernel), List.mem_of_getElem? (i := 779) (by decide +kernel)⟩
theorem lw_p29 : lw_okq (⟨"PulledWiresModel", "holds", "(II)I"⟩, 17) := ⟨⟨by decide +kernel, by decide +kernel⟩, List.mem_of_getElem? (i := 672) (by decide +kernel), List.mem_of_getElem? (i := 786) (by decide +kernel), List.mem_of_getElem? (i := 787) (by decide +kernel)⟩
theorem lw_p30 : lw_okq (⟨"PulledWiresModel", "sticks", "(II)I"⟩, 17) := ⟨⟨by decide +kernel, by decide +kernel⟩, List.mem_of_getElem? (i := 672) (by decide +kernel), List.mem_of_getElem? (i := 794) (by decide +kernel), List.mem_of_getElem? (i := 795) (by decide +kernel)⟩
theorem lw_p31 : lw_okq (⟨"PulledWiresModel", "stuck", "()I"⟩, 17) := ⟨⟨by decide +kernel, by decide +kernel⟩, List.mem_of_getElem? (i := 672) (by decide +kernel), List.mem_of_getElem? (i := 798) (by decide +kernel), List.mem_of_getElem? (i := 799) (by decide +kernel)⟩
def lw_privs_2 : List (MethodName × Nat) := [(⟨"PulledWires$OrderText", "readNumber", "(I)Z"⟩, 5), (⟨"PulledWires$OrderText", "skip", "(C)Z"⟩, 5), (⟨"PulledWires$OrderText", "mostOf", "(I)I"⟩, 5), (⟨"PulledWires$OrderText", "digitHere", "()I"⟩, 5), (⟨"PulledWires$OrderText", "leastOf", "(I)I"⟩, 5), (⟨"PulledWires", "carryOutOrder", "()I"⟩, 9), (⟨"PulledWiresModel", "putAside", "()V"⟩, 17), (⟨"PulledWiresModel", "says", "(IIII)I"⟩, 17), (⟨"PulledWiresModel", "act", "(I)I"⟩, 17), (⟨"PulledWiresModel", "takesBack", "(I)I"⟩, 17), (⟨"PulledWiresModel", "isTalking", "(I)Z"⟩, 17), (⟨"PulledWiresModel", "hears", "(II)I"⟩, 17), (⟨"PulledWiresModel", "listenerOf", "(I)I"⟩, 17), (⟨"PulledWiresModel", "holds", "(II)I"⟩, 17), (⟨"PulledWiresModel", "sticks", "(II)I"⟩, 17), (⟨"PulledWiresModel", "stuck", "()I"⟩, 17)]
theorem lw_r2 : ∀ q ∈ lw_privs_2, lw_okq q := List.forall_mem_cons.mpr ⟨lw_p16, List.forall_mem_cons.mpr ⟨lw_p17, List.forall_mem_cons.mpr ⟨lw_p18, List.forall_mem_cons.mpr ⟨lw_p19, List.forall_mem_cons.mpr ⟨lw_p20, List.forall_mem_cons.mpr ⟨lw_p21, List.forall_mem_cons.mpr ⟨lw_p22, List.forall_mem_cons.mpr ⟨lw_p23, List.forall_mem_cons.mpr ⟨lw_p24, List.forall_mem_cons.mpr ⟨lw_p25, List.forall_mem_cons.mpr ⟨lw_p26, List.forall_mem_cons.mpr ⟨lw_p27, List.forall_mem_cons.mpr ⟨lw_p28, List.forall_mem_cons.mpr ⟨lw_p29, List.forall_mem_cons.mpr ⟨lw_p30, List.forall_mem_cons.mpr ⟨lw_p31, fun _ h => absurd h List.not_mem_nil⟩⟩⟩⟩⟩⟩⟩⟩⟩⟩⟩⟩⟩⟩⟩⟩
theorem lw_p32 : lw_okq (⟨"PulledWiresModel", "sets", "(II)I"⟩, 17) := ⟨⟨by decide +kernel, by decide +kernel⟩, List.mem_of_getElem? (i := 672) (by decide +kernel), List.mem_of_getElem? (i := 806) (by decide +kernel), List.mem_of_getElem? (i := 807) (by decide +kernel)⟩
theorem lw_p33 : lw_okq (⟨"PulledWiresModel", "runs", "(I)I"⟩, 17) := ⟨⟨by decide +kernel, by decide +kernel⟩, List.mem_of_getElem? (i := 672) (by decide +kernel), List.mem_of_getElem? (i := 817) (by decide +kernel), List.mem_of_getElem? (i := 818) (by decide +kernel)⟩
theorem lw_p34 : lw_okq (⟨"PulledWiresModel", "came", "()I"⟩, 17) := ⟨⟨by decide +kernel, by decide +kernel⟩, List.mem_of_getElem? (i := 672) (by decide +kernel), List.mem_of_getElem? (i := 822) (by decide +kernel), List.mem_of_getElem? (i := 823) (by decide +kernel)⟩
theorem lw_p35 : lw_okq (⟨"PulledWiresModel", "tick", "()V"⟩, 17) := ⟨⟨by decide +kernel, by decide +kernel⟩, List.mem_of_getElem? (i := 672) (by decide +kernel), List.mem_of_getElem? (i := 826) (by decide +kernel), List.mem_of_getElem? (i := 827) (by decide +kernel)⟩
theorem lw_p36 : lw_okq (⟨"PulledWiresModel", "next", "()I"⟩, 17) := ⟨⟨by decide +kernel, by decide +kernel⟩, List.mem_of_getElem? (i := 672) (by decide +kernel), List.mem_of_getElem? (i := 830) (by decide +kernel), List.mem_of_getElem? (i := 831) (by decide +kernel)⟩
theorem lw_p37 : lw_okq (⟨"PulledWiresModel", "talking", "()I"⟩, 17) := ⟨⟨by decide +kernel, by decide +kernel⟩, List.mem_of_getElem? (i := 672) (by decide +kernel), List.mem_of_getElem? (i := 834) (by decide +kernel), List.mem_of_getElem? (i := 835) (by decide +kernel)⟩
theorem lw_p38 : lw_okq (⟨"PulledWiresModel", "tickStuck", "()V"⟩, 17) := ⟨⟨by decide +kernel, by decide +kernel⟩, List.mem_of_getElem? (i := 672) (by decide +kernel), List.mem_of_getElem? (i := 841) (by decide +kernel), List.mem_of_getElem? (i := 842) (by decide +kernel)⟩
theorem lw_p39 : lw_okq (⟨"PulledWiresModel", "lose", "()I"⟩, 17) := ⟨⟨by decide +kernel, by decide +kernel⟩, List.mem_of_getElem? (i := 672) (by decide +kernel), List.mem_of_getElem? (i := 845) (by decide +kernel), List.mem_of_getElem? (i := 846) (by decide +kernel)⟩
theorem lw_p40 : lw_okq (⟨"PulledWiresModel", "bitAt", "(II)I"⟩, 17) := ⟨⟨by decide +kernel, by decide +kernel⟩, List.mem_of_getElem? (i := 672) (by decide +kernel), List.mem_of_getElem? (i := 849) (by decide +kernel), List.mem_of_getElem? (i := 850) (by decide +kernel)⟩
theorem lw_p41 : lw_okq (⟨"PulledWiresModel", "inMessage", "(III)I"⟩, 17) := ⟨⟨by decide +kernel, by decide +kernel⟩, List.mem_of_getElem? (i := 672) (by decide +kernel), List.mem_of_getElem? (i := 853) (by decide +kernel), List.mem_of_getElem? (i := 854) (by decide +kernel)⟩
theorem lw_p42 : lw_okq (⟨"PulledWiresModel", "endsIfEmpty", "()V"⟩, 17) := ⟨⟨by decide +kernel, by decide +kernel⟩, List.mem_of_getElem? (i := 672) (by decide +kernel), List.mem_of_getElem? (i := 857) (by decide +kernel), List.mem_of_getElem? (i := 858) (by decide +kernel)⟩
theorem lw_p43 : lw_okq (⟨"PulledWiresModel", "tickBit", "()V"⟩, 17) := ⟨⟨by decide +kernel, by decide +kernel⟩, List.mem_of_getElem? (i := 672) (by decide +kernel), List.mem_of_getElem? (i := 861) (by decide +kernel), List.mem_of_getElem? (i := 862) (by decide +kernel)⟩
theorem lw_p44 : lw_okq (⟨"PulledWiresModel", "logs", "(III)V"⟩, 17) := ⟨⟨by decide +kernel, by decide +kernel⟩, List.mem_of_getElem? (i := 672) (by decide +kernel), List.mem_of_getElem? (i := 865) (by decide +kernel), List.mem_of_getElem? (i := 866) (by decide +kernel)⟩
theorem lw_p45 : lw_okq (⟨"PulledWiresModel", "firstTalking", "()I"⟩, 17) := ⟨⟨by decide +kernel, by decide +kernel⟩, List.mem_of_getElem? (i := 672) (by decide +kernel), List.mem_of_getElem? (i := 869) (by decide +kernel), List.mem_of_getElem? (i := 870) (by decide +kernel)⟩
theorem lw_p46 : lw_okq (⟨"PulledWiresModel", "tickFree", "()V"⟩, 17) := ⟨⟨by decide +kernel, by decide +kernel⟩, List.mem_of_getElem? (i := 672) (by decide +kernel), List.mem_of_getElem? (i := 873) (by decide +kernel), List.mem_of_getElem? (i := 874) (by decide +kernel)⟩
theorem lw_p47 : lw_okq (⟨"PulledWiresModel", "messages", "()I"⟩, 17) := ⟨⟨by decide +kernel, by decide +kernel⟩, List.mem_of_getElem? (i := 672) (by decide +kernel), List.mem_of_getElem? (i := 877) (by decide +kernel), List.mem_of_getElem? (i := 878) (by decide +kernel)⟩
def lw_privs_3 : List (MethodName × Nat) := [(⟨"PulledWiresModel", "sets", "(II)I"⟩, 17), (⟨"PulledWiresModel", "runs", "(I)I"⟩, 17), (⟨"PulledWiresModel", "came", "()I"⟩, 17), (⟨"PulledWiresModel", "tick", "()V"⟩, 17), (⟨"PulledWiresModel", "next", "()I"⟩, 17), (⟨"PulledWiresModel", "talking", "()I"⟩, 17), (⟨"PulledWiresModel", "tickStuck", "()V"⟩, 17), (⟨"PulledWiresModel", "lose", "()I"⟩, 17), (⟨"PulledWiresModel", "bitAt", "(II)I"⟩, 17), (⟨"PulledWiresModel", "inMessage", "(III)I"⟩, 17), (⟨"PulledWiresModel", "endsIfEmpty", "()V"⟩, 17), (⟨"PulledWiresModel", "tickBit", "()V"⟩, 17), (⟨"PulledWiresModel", "logs", "(III)V"⟩, 17), (⟨"PulledWiresModel", "firstTalking", "()I"⟩, 17), (⟨"PulledWiresModel", "tickFree", "()V"⟩, 17), (⟨"PulledWiresModel", "messages", "()I"⟩, 17)]
theorem lw_r3 : ∀ q ∈ lw_privs_3, lw_okq q := List.forall_mem_cons.mpr ⟨lw_p32, List.forall_mem_cons.mpr ⟨lw_p33, List.forall_mem_cons.mpr ⟨lw_p34, List.forall_mem_cons.mpr ⟨lw_p35, List.forall_mem_cons.mpr ⟨lw_p36, List.forall_mem_cons.mpr ⟨lw_p37, List.forall_mem_cons.mpr ⟨lw_p38, List.forall_mem_cons.mpr ⟨lw_p39, List.forall_mem_cons.mpr ⟨lw_p40, List.forall_mem_cons.mpr ⟨lw_p41, List.forall_mem_cons.mpr ⟨lw_p42, List.forall_mem_cons.mpr ⟨lw_p43, List.forall_mem_cons.mpr ⟨lw_p44, List.forall_mem_cons.mpr ⟨lw_p45, List.forall_mem_cons.mpr ⟨lw_p46, List.forall_mem_cons.mpr ⟨lw_p47, fun _ h => absurd h List.not_mem_nil⟩⟩⟩⟩⟩⟩⟩⟩⟩⟩⟩⟩⟩⟩⟩⟩
theorem lw_p48 : lw_okq (⟨"PulledWiresModel", "tickUnanswered", "()V"⟩, 17) := ⟨⟨by decide +kernel, by decide +kernel⟩, List.mem_of_getElem? (i := 672) (by decide +kernel), List.mem_of_getElem? (i := 881) (by decide +kernel), List.mem_of_getElem? (i := 882) (by decide +kernel)⟩
theorem lw_p49 : lw_okq (⟨"PulledWiresModel", "dropFirst", "(I)V"⟩, 17) := ⟨⟨by decide +kernel, by decide +kernel⟩, List.mem_of_getElem? (i := 672) (by decide +kernel), List.mem_of_getElem? (i := 885) (by decide +kernel), List.mem_of_getElem? (i := 886) (by decide +kernel)⟩
theorem lw_p50 : lw_okq (⟨"PulledWiresModel", "tickAnswered", "(I)V"⟩, 17) := ⟨⟨by decide +kernel, by decide +kernel⟩, List.mem_of_getElem? (i := 672) (by decide +kernel), List.mem_of_getElem? (i := 889) (by decide +kernel), List.mem_of_getElem? (i := 890) (by decide +kernel)⟩
theorem lw_p51 : lw_okq (⟨"PulledWiresModel", "go", "(Z)I"⟩, 17) := ⟨⟨by decide +kernel, by decide +kernel⟩, List.mem_of_getElem? (i := 672) (by decide +kernel), List.mem_of_getElem? (i := 908) (by decide +kernel), List.mem_of_getElem? (i := 909) (by decide +kernel)⟩
theorem lw_p52 : lw_okq (⟨"PulledWiresModel", "order", "()V"⟩, 17) := ⟨⟨by decide +kernel, by decide +kernel⟩, List.mem_of_getElem? (i := 672) (by decide +kernel), List.mem_of_getElem? (i := 912) (by decide +kernel), List.mem_of_getElem? (i := 913) (by decide +kernel)⟩
theorem lw_p53 : lw_okq (⟨"PulledWiresModel", "sign", "(I)V"⟩, 17) := ⟨⟨by decide +kernel, by decide +kernel⟩, List.mem_of_getElem? (i := 672) (by decide +kernel), List.mem_of_getElem? (i := 916) (by decide +kernel), List.mem_of_getElem? (i := 917) (by decide +kernel)⟩
theorem lw_p54 : lw_okq (⟨"PulledWiresModel", "number", "(II)I"⟩, 17) := ⟨⟨by decide +kernel, by decide +kernel⟩, List.mem_of_getElem? (i := 672) (by decide +kernel), List.mem_of_getElem? (i := 920) (by decide +kernel), List.mem_of_getElem? (i := 921) (by decide +kernel)⟩
theorem lw_p55 : lw_okq (⟨"PulledWiresModel", "isDigit", "()Z"⟩, 17) := ⟨⟨by decide +kernel, by decide +kernel⟩, List.mem_of_getElem? (i := 672) (by decide +kernel), List.mem_of_getElem? (i := 924) (by decide +kernel), List.mem_of_getElem? (i := 925) (by decide +kernel)⟩
theorem lw_p56 : lw_okq (⟨"PulledWiresModel", "isNext", "(I)Z"⟩, 17) := ⟨⟨by decide +kernel, by decide +kernel⟩, List.mem_of_getElem? (i := 672) (by decide +kernel), List.mem_of_getElem? (i := 928) (by decide +kernel), List.mem_of_getElem? (i := 929) (by decide +kernel)⟩
theorem lw_p57 : lw_okq (⟨"PulledWiresModel", "does", "()I"⟩, 17) := ⟨⟨by decide +kernel, by decide +kernel⟩, List.mem_of_getElem? (i := 672) (by decide +kernel), List.mem_of_getElem? (i := 932) (by decide +kernel), List.mem_of_getElem? (i := 933) (by decide +kernel)⟩
theorem lw_p58 : lw_okq (⟨"PulledWiresModel", "putBack", "()V"⟩, 17) := ⟨⟨by decide +kernel, by decide +kernel⟩, List.mem_of_getElem? (i := 672) (by decide +kernel), List.mem_of_getElem? (i := 936) (by decide +kernel), List.mem_of_getElem? (i := 937) (by decide +kernel)⟩
theorem lw_p59 : lw_okq (⟨"PulledWiresModel", "ticksOf", "(II)I"⟩, 17) := ⟨⟨by decide +kernel, by decide +kernel⟩, List.mem_of_getElem? (i := 672) (by decide +kernel), List.mem_of_getElem? (i := 964) (by decide +kernel), List.mem_of_getElem? (i := 965) (by decide +kernel)⟩
def lw_privs_4 : List (MethodName × Nat) := [(⟨"PulledWiresModel", "tickUnanswered", "()V"⟩, 17), (⟨"PulledWiresModel", "dropFirst", "(I)V"⟩, 17), (⟨"PulledWiresModel", "tickAnswered", "(I)V"⟩, 17), (⟨"PulledWiresModel", "go", "(Z)I"⟩, 17), (⟨"PulledWiresModel", "order", "()V"⟩, 17), (⟨"PulledWiresModel", "sign", "(I)V"⟩, 17), (⟨"PulledWiresModel", "number", "(II)I"⟩, 17), (⟨"PulledWiresModel", "isDigit", "()Z"⟩, 17), (⟨"PulledWiresModel", "isNext", "(I)Z"⟩, 17), (⟨"PulledWiresModel", "does", "()I"⟩, 17), (⟨"PulledWiresModel", "putBack", "()V"⟩, 17), (⟨"PulledWiresModel", "ticksOf", "(II)I"⟩, 17)]
theorem lw_r4 : ∀ q ∈ lw_privs_4, lw_okq q := List.forall_mem_cons.mpr ⟨lw_p48, List.forall_mem_cons.mpr ⟨lw_p49, List.forall_mem_cons.mpr ⟨lw_p50, List.forall_mem_cons.mpr ⟨lw_p51, List.forall_mem_cons.mpr ⟨lw_p52, List.forall_mem_cons.mpr ⟨lw_p53, List.forall_mem_cons.mpr ⟨lw_p54, List.forall_mem_cons.mpr ⟨lw_p55, List.forall_mem_cons.mpr ⟨lw_p56, List.forall_mem_cons.mpr ⟨lw_p57, List.forall_mem_cons.mpr ⟨lw_p58, List.forall_mem_cons.mpr ⟨lw_p59, fun _ h => absurd h List.not_mem_nil⟩⟩⟩⟩⟩⟩⟩⟩⟩⟩⟩⟩
def lw_privs : List (MethodName × Nat) := lw_privs_1 ++ (lw_privs_2 ++ (lw_privs_3 ++ (lw_privs_4)))
def lw_tbl : List Cond := k2_sels lw_privs ++ tables_1
theorem lw_privs_ok : ∀ q ∈ lw_privs, lw_okq q := by
  show ∀ q ∈ lw_privs_1 ++ (lw_privs_2 ++ (lw_privs_3 ++ (lw_privs_4))), lw_okq q
  exact List.forall_mem_append.mpr ⟨lw_r1, List.forall_mem_append.mpr ⟨lw_r2, List.forall_mem_append.mpr ⟨lw_r3, lw_r4⟩⟩⟩
end
section
def RX0 : String := "PulledWires$BitLog"
def TX0 : u_T := fun k => match k with
  | 0 => ("PulledWires$BitLog", "cells", "[I", true)
  | 1 => ("PulledWires$BitLog", "next", "I", false)
  | _ => ("PulledWires$BitLog", "size", "I", false)
def tyX0 : Nat → FieldType := fun k => match k with
  | 0 => .array .int
  | 1 => .int
  | _ => .int
abbrev wsX00 : List Cond := u_ws RX0 TX0 3
theorem nmX0 : ∀ a, a < 3 → ∀ b, b < 3 → a ≠ b → (TX0 a).2.1 ≠ (TX0 b).2.1 := by decide +kernel
theorem tyX0_ok : ∀ k, k < 3 → parseFieldDescriptor (TX0 k).2.2.1 = some (tyX0 k) := by decide +kernel
abbrev cX0_init : ByteArray := prog_2_method_1_code
def yX0_init : MethodName := ⟨RX0, "<init>", "()V"⟩
abbrev cX0_copyFrom : ByteArray := prog_2_method_2_code
def yX0_copyFrom : MethodName := ⟨RX0, "copyFrom", "(LPulledWires$BitLog;)V"⟩
abbrev cX0_add : ByteArray := prog_2_method_3_code
def yX0_add : MethodName := ⟨RX0, "add", "(IIII)V"⟩
abbrev cX0_tell : ByteArray := prog_2_method_4_code
def yX0_tell : MethodName := ⟨RX0, "tell", "(II)I"⟩
def RX1 : String := "PulledWires$Listener"
def TX1 : u_T := fun k => match k with
  | 0 => ("PulledWires$Listener", "address", "I", false)
  | 1 => ("PulledWires$Listener", "hold", "I", false)
  | 2 => ("PulledWires$Listener", "stuck", "I", false)
  | 3 => ("PulledWires$Listener", "wordsTaken", "I", false)
  | _ => ("PulledWires$Listener", "latestWord", "I", false)
def tyX1 : Nat → FieldType := fun k => match k with
  | 0 => .int
  | 1 => .int
  | 2 => .int
  | 3 => .int
  | _ => .int
abbrev wsX10 : List Cond := u_ws RX1 TX1 5
theorem nmX1 : ∀ a, a < 5 → ∀ b, b < 5 → a ≠ b → (TX1 a).2.1 ≠ (TX1 b).2.1 := by decide +kernel
theorem tyX1_ok : ∀ k, k < 5 → parseFieldDescriptor (TX1 k).2.2.1 = some (tyX1 k) := by decide +kernel
abbrev cX1_init : ByteArray := prog_3_method_1_code
def yX1_init : MethodName := ⟨RX1, "<init>", "()V"⟩
abbrev cX1_copyFrom : ByteArray := prog_3_method_2_code
def yX1_copyFrom : MethodName := ⟨RX1, "copyFrom", "(LPulledWires$Listener;)V"⟩
abbrev cX1_takeWord : ByteArray := prog_3_method_3_code
def yX1_takeWord : MethodName := ⟨RX1, "takeWord", "(I)V"⟩
def RX2 : String := "PulledWires$OrderText"
def TX2 : u_T := fun k => match k with
  | 0 => ("PulledWires$OrderText", "characters", "[C", true)
  | 1 => ("PulledWires$OrderText", "numbers", "[I", true)
  | 2 => ("PulledWires$OrderText", "length", "I", false)
  | 3 => ("PulledWires$OrderText", "at", "I", false)
  | _ => ("PulledWires$OrderText", "kind", "I", false)
def tyX2 : Nat → FieldType := fun k => match k with
  | 0 => .array .char
  | 1 => .array .int
  | 2 => .int
  | 3 => .int
  | _ => .int
abbrev wsX20 : List Cond := u_ws RX2 TX2 5
theorem nmX2 : ∀ a, a < 5 → ∀ b, b < 5 → a ≠ b → (TX2 a).2.1 ≠ (TX2 b).2.1 := by decide +kernel
theorem tyX2_ok : ∀ k, k < 5 → parseFieldDescriptor (TX2 k).2.2.1 = some (tyX2 k) := by decide +kernel
abbrev cX2_init : ByteArray := prog_4_method_1_code
def yX2_init : MethodName := ⟨RX2, "<init>", "()V"⟩
abbrev cX2_append : ByteArray := prog_4_method_2_code
def yX2_append : MethodName := ⟨RX2, "append", "(C)I"⟩
abbrev cX2_empty : ByteArray := prog_4_method_3_code
def yX2_empty : MethodName := ⟨RX2, "empty", "()I"⟩
abbrev cX2_rewind : ByteArray := prog_4_method_4_code
def yX2_rewind : MethodName := ⟨RX2, "rewind", "()V"⟩
abbrev cX2_number : ByteArray := prog_4_method_5_code
def yX2_number : MethodName := ⟨RX2, "number", "(I)I"⟩
abbrev cX2_countOrders : ByteArray := prog_4_method_6_code
def yX2_countOrders : MethodName := ⟨RX2, "countOrders", "()I"⟩
abbrev cX2_readOrder : ByteArray := prog_4_method_7_code
def yX2_readOrder : MethodName := ⟨RX2, "readOrder", "()Z"⟩
abbrev cX2_skipSeparator : ByteArray := prog_4_method_8_code
def yX2_skipSeparator : MethodName := ⟨RX2, "skipSeparator", "()Z"⟩
abbrev cX2_readName : ByteArray := prog_4_method_9_code
def yX2_readName : MethodName := ⟨RX2, "readName", "()Z"⟩
abbrev cX2_sameCharacters : ByteArray := prog_4_method_10_code
def yX2_sameCharacters : MethodName := ⟨RX2, "sameCharacters", "(Ljava/lang/String;)I"⟩
abbrev cX2_readNumbers : ByteArray := prog_4_method_11_code
def yX2_readNumbers : MethodName := ⟨RX2, "readNumbers", "()Z"⟩
abbrev cX2_readNumber : ByteArray := prog_4_method_12_code
def yX2_readNumber : MethodName := ⟨RX2, "readNumber", "(I)Z"⟩
abbrev cX2_skip : ByteArray := prog_4_method_13_code
def yX2_skip : MethodName := ⟨RX2, "skip", "(C)Z"⟩
abbrev cX2_isCharacter : ByteArray := prog_4_method_14_code
def yX2_isCharacter : MethodName := ⟨RX2, "isCharacter", "(IC)Z"⟩
abbrev cX2_digitHere : ByteArray := prog_4_method_15_code
def yX2_digitHere : MethodName := ⟨RX2, "digitHere", "()I"⟩
abbrev cX2_nameOf : ByteArray := prog_4_method_16_code
def yX2_nameOf : MethodName := ⟨RX2, "nameOf", "(I)Ljava/lang/String;"⟩
abbrev cX2_leastOf : ByteArray := prog_4_method_17_code
def yX2_leastOf : MethodName := ⟨RX2, "leastOf", "(I)I"⟩
abbrev cX2_mostOf : ByteArray := prog_4_method_18_code
def yX2_mostOf : MethodName := ⟨RX2, "mostOf", "(I)I"⟩
def RX3 : String := "PulledWires$Speaker"
def TX3 : u_T := fun k => match k with
  | 0 => ("PulledWires$Speaker", "parts", "[I", true)
  | 1 => ("PulledWires$Speaker", "size", "I", false)
  | 2 => ("PulledWires$Speaker", "talking", "Z", false)
  | 3 => ("PulledWires$Speaker", "came", "I", false)
  | 4 => ("PulledWires$Speaker", "lost", "I", false)
  | 5 => ("PulledWires$Speaker", "failed", "I", false)
  | 6 => ("PulledWires$Speaker", "dropped", "I", false)
  | _ => ("PulledWires$Speaker", "failuresOfFirst", "I", false)
def tyX3 : Nat → FieldType := fun k => match k with
  | 0 => .array .int
  | 1 => .int
  | 2 => .boolean
  | 3 => .int
  | 4 => .int
  | 5 => .int
  | 6 => .int
  | _ => .int
abbrev wsX30 : List Cond := u_ws RX3 TX3 8
theorem nmX3 : ∀ a, a < 8 → ∀ b, b < 8 → a ≠ b → (TX3 a).2.1 ≠ (TX3 b).2.1 := by decide +kernel
theorem tyX3_ok : ∀ k, k < 8 → parseFieldDescriptor (TX3 k).2.2.1 = some (tyX3 k) := by decide +kernel
abbrev cX3_init : ByteArray := prog_5_method_1_code
def yX3_init : MethodName := ⟨RX3, "<init>", "()V"⟩
abbrev cX3_copyFrom : ByteArray := prog_5_method_2_code
def yX3_copyFrom : MethodName := ⟨RX3, "copyFrom", "(LPulledWires$Speaker;)V"⟩
abbrev cX3_append : ByteArray := prog_5_method_3_code
def yX3_append : MethodName := ⟨RX3, "append", "(III)V"⟩
abbrev cX3_removeLast : ByteArray := prog_5_method_4_code
def yX3_removeLast : MethodName := ⟨RX3, "removeLast", "()V"⟩
abbrev cX3_removeFirst : ByteArray := prog_5_method_5_code
def yX3_removeFirst : MethodName := ⟨RX3, "removeFirst", "()V"⟩
abbrev cX3_lose : ByteArray := prog_5_method_6_code
def yX3_lose : MethodName := ⟨RX3, "lose", "()V"⟩
abbrev cX3_bringMessage : ByteArray := prog_5_method_7_code
def yX3_bringMessage : MethodName := ⟨RX3, "bringMessage", "()V"⟩
abbrev cX3_failMessage : ByteArray := prog_5_method_8_code
def yX3_failMessage : MethodName := ⟨RX3, "failMessage", "(I)V"⟩
abbrev cX3_part : ByteArray := prog_5_method_9_code
def yX3_part : MethodName := ⟨RX3, "part", "(II)I"⟩
abbrev cX3_partsAt : ByteArray := prog_5_method_10_code
def yX3_partsAt : MethodName := ⟨RX3, "partsAt", "(I)I"⟩
def RX4 : String := "PulledWires$State"
def TX4 : u_T := fun k => match k with
  | 0 => ("PulledWires$State", "speakers", "[LPulledWires$Speaker;", true)
  | 1 => ("PulledWires$State", "listeners", "[LPulledWires$Listener;", true)
  | 2 => ("PulledWires$State", "settings", "[I", true)
  | 3 => ("PulledWires$State", "log", "LPulledWires$BitLog;", true)
  | 4 => ("PulledWires$State", "clock", "I", false)
  | 5 => ("PulledWires$State", "over", "I", false)
  | 6 => ("PulledWires$State", "held", "I", false)
  | 7 => ("PulledWires$State", "free", "I", false)
  | 8 => ("PulledWires$State", "stuckInRow", "I", false)
  | 9 => ("PulledWires$State", "talks", "I", false)
  | _ => ("PulledWires$State", "shakes", "I", false)
def tyX4 : Nat → FieldType := fun k => match k with
  | 0 => .array (.object "PulledWires$Speaker")
  | 1 => .array (.object "PulledWires$Listener")
  | 2 => .array .int
  | 3 => .object "PulledWires$BitLog"
  | 4 => .int
  | 5 => .int
  | 6 => .int
  | 7 => .int
  | 8 => .int
  | 9 => .int
  | _ => .int
abbrev wsX40 : List Cond := u_ws RX4 TX4 11
theorem nmX4 : ∀ a, a < 11 → ∀ b, b < 11 → a ≠ b → (TX4 a).2.1 ≠ (TX4 b).2.1 := by decide +kernel
theorem tyX4_ok : ∀ k, k < 11 → parseFieldDescriptor (TX4 k).2.2.1 = some (tyX4 k) := by decide +kernel
abbrev cX4_init : ByteArray := prog_6_method_1_code
def yX4_init : MethodName := ⟨RX4, "<init>", "()V"⟩
abbrev cX4_copyFrom : ByteArray := prog_6_method_2_code
def yX4_copyFrom : MethodName := ⟨RX4, "copyFrom", "(LPulledWires$State;)V"⟩
abbrev cX4_addMessage : ByteArray := prog_6_method_3_code
def yX4_addMessage : MethodName := ⟨RX4, "addMessage", "(IIII)I"⟩
abbrev cX4_dropLast : ByteArray := prog_6_method_4_code
def yX4_dropLast : MethodName := ⟨RX4, "dropLast", "(I)I"⟩
abbrev cX4_giveAddress : ByteArray := prog_6_method_5_code
def yX4_giveAddress : MethodName := ⟨RX4, "giveAddress", "(II)I"⟩
abbrev cX4_giveHold : ByteArray := prog_6_method_6_code
def yX4_giveHold : MethodName := ⟨RX4, "giveHold", "(II)I"⟩
abbrev cX4_makeStuck : ByteArray := prog_6_method_7_code
def yX4_makeStuck : MethodName := ⟨RX4, "makeStuck", "(II)I"⟩
abbrev cX4_changeSetting : ByteArray := prog_6_method_8_code
def yX4_changeSetting : MethodName := ⟨RX4, "changeSetting", "(II)I"⟩
abbrev cX4_passTicks : ByteArray := prog_6_method_9_code
def yX4_passTicks : MethodName := ⟨RX4, "passTicks", "(I)I"⟩
abbrev cX4_nextTick : ByteArray := prog_6_method_10_code
def yX4_nextTick : MethodName := ⟨RX4, "nextTick", "()I"⟩
abbrev cX4_tick : ByteArray := prog_6_method_11_code
def yX4_tick : MethodName := ⟨RX4, "tick", "()V"⟩
abbrev cX4_stuckTick : ByteArray := prog_6_method_12_code
def yX4_stuckTick : MethodName := ⟨RX4, "stuckTick", "()V"⟩
abbrev cX4_sendBit : ByteArray := prog_6_method_13_code
def yX4_sendBit : MethodName := ⟨RX4, "sendBit", "()V"⟩
abbrev cX4_awaitAnswer : ByteArray := prog_6_method_14_code
def yX4_awaitAnswer : MethodName := ⟨RX4, "awaitAnswer", "()V"⟩
abbrev cX4_freeTick : ByteArray := prog_6_method_15_code
def yX4_freeTick : MethodName := ⟨RX4, "freeTick", "()V"⟩
abbrev cX4_lose : ByteArray := prog_6_method_16_code
def yX4_lose : MethodName := ⟨RX4, "lose", "(I)V"⟩
abbrev cX4_endTalkIfEmpty : ByteArray := prog_6_method_17_code
def yX4_endTalkIfEmpty : MethodName := ⟨RX4, "endTalkIfEmpty", "()V"⟩
abbrev cX4_speakerAt : ByteArray := prog_6_method_18_code
def yX4_speakerAt : MethodName := ⟨RX4, "speakerAt", "(I)LPulledWires$Speaker;"⟩
abbrev cX4_listenerAt : ByteArray := prog_6_method_19_code
def yX4_listenerAt : MethodName := ⟨RX4, "listenerAt", "(I)LPulledWires$Listener;"⟩
abbrev cX4_listenerWith : ByteArray := prog_6_method_20_code
def yX4_listenerWith : MethodName := ⟨RX4, "listenerWith", "(I)LPulledWires$Listener;"⟩
abbrev cX4_listenersWithAddress : ByteArray := prog_6_method_21_code
def yX4_listenersWithAddress : MethodName := ⟨RX4, "listenersWithAddress", "()I"⟩
abbrev cX4_stuckListeners : ByteArray := prog_6_method_22_code
def yX4_stuckListeners : MethodName := ⟨RX4, "stuckListeners", "()I"⟩
abbrev cX4_holdFor : ByteArray := prog_6_method_23_code
def yX4_holdFor : MethodName := ⟨RX4, "holdFor", "(I)I"⟩
abbrev cX4_setting : ByteArray := prog_6_method_24_code
def yX4_setting : MethodName := ⟨RX4, "setting", "(I)I"⟩
abbrev cX4_messagesInLines : ByteArray := prog_6_method_25_code
def yX4_messagesInLines : MethodName := ⟨RX4, "messagesInLines", "()I"⟩
abbrev cX4_messagesThatCame : ByteArray := prog_6_method_26_code
def yX4_messagesThatCame : MethodName := ⟨RX4, "messagesThatCame", "()I"⟩
abbrev cX4_cameFrom : ByteArray := prog_6_method_27_code
def yX4_cameFrom : MethodName := ⟨RX4, "cameFrom", "(I)I"⟩
abbrev cX4_isIn : ByteArray := prog_6_method_28_code
def yX4_isIn : MethodName := ⟨RX4, "isIn", "(II)Z"⟩
abbrev cX4_talkers : ByteArray := prog_6_method_29_code
def yX4_talkers : MethodName := ⟨RX4, "talkers", "()I"⟩
abbrev cX4_speakersWithMessage : ByteArray := prog_6_method_30_code
def yX4_speakersWithMessage : MethodName := ⟨RX4, "speakersWithMessage", "()I"⟩
abbrev cX4_sendersOf : ByteArray := prog_6_method_31_code
def yX4_sendersOf : MethodName := ⟨RX4, "sendersOf", "(III)I"⟩
abbrev cX4_endsAt : ByteArray := prog_6_method_32_code
def yX4_endsAt : MethodName := ⟨RX4, "endsAt", "(LPulledWires$Speaker;I)Z"⟩
abbrev cX4_endingAt : ByteArray := prog_6_method_33_code
def yX4_endingAt : MethodName := ⟨RX4, "endingAt", "(II)I"⟩
abbrev cX4_partOfTalk : ByteArray := prog_6_method_34_code
def yX4_partOfTalk : MethodName := ⟨RX4, "partOfTalk", "(I)I"⟩
def RX5 : String := "PulledWires"
def TX5 : u_T := fun k => match k with
  | 0 => ("PulledWires", "now", "LPulledWires$State;", true)
  | 1 => ("PulledWires", "snapshot", "LPulledWires$State;", true)
  | 2 => ("PulledWires", "history", "[LPulledWires$State;", true)
  | 3 => ("PulledWires", "text", "LPulledWires$OrderText;", true)
  | 4 => ("PulledWires", "spare", "LPulledWires$State;", false)
  | 5 => ("PulledWires", "historySize", "I", false)
  | 6 => ("PulledWires", "hasSnapshot", "Z", false)
  | 7 => ("PulledWires", "stoppedOrder", "I", false)
  | _ => ("PulledWires", "stoppedError", "I", false)
def tyX5 : Nat → FieldType := fun k => match k with
  | 0 => .object "PulledWires$State"
  | 1 => .object "PulledWires$State"
  | 2 => .array (.object "PulledWires$State")
  | 3 => .object "PulledWires$OrderText"
  | 4 => .object "PulledWires$State"
  | 5 => .int
  | 6 => .boolean
  | 7 => .int
  | _ => .int
abbrev wsX50 : List Cond := u_ws RX5 TX5 9
theorem nmX5 : ∀ a, a < 9 → ∀ b, b < 9 → a ≠ b → (TX5 a).2.1 ≠ (TX5 b).2.1 := by decide +kernel
theorem tyX5_ok : ∀ k, k < 9 → parseFieldDescriptor (TX5 k).2.2.1 = some (tyX5 k) := by decide +kernel
abbrev cX5_init : ByteArray := prog_1_method_1_code
def yX5_init : MethodName := ⟨RX5, "<init>", "()V"⟩
abbrev cX5_say : ByteArray := prog_1_method_2_code
def yX5_say : MethodName := ⟨RX5, "say", "(IIII)I"⟩
abbrev cX5_takeBack : ByteArray := prog_1_method_3_code
def yX5_takeBack : MethodName := ⟨RX5, "takeBack", "(I)I"⟩
abbrev cX5_hear : ByteArray := prog_1_method_4_code
def yX5_hear : MethodName := ⟨RX5, "hear", "(II)I"⟩
abbrev cX5_hold : ByteArray := prog_1_method_5_code
def yX5_hold : MethodName := ⟨RX5, "hold", "(II)I"⟩
abbrev cX5_stick : ByteArray := prog_1_method_6_code
def yX5_stick : MethodName := ⟨RX5, "stick", "(II)I"⟩
abbrev cX5_set : ByteArray := prog_1_method_7_code
def yX5_set : MethodName := ⟨RX5, "set", "(II)I"⟩
abbrev cX5_run : ByteArray := prog_1_method_8_code
def yX5_run : MethodName := ⟨RX5, "run", "(I)I"⟩
abbrev cX5_type : ByteArray := prog_1_method_9_code
def yX5_type : MethodName := ⟨RX5, "type", "(C)I"⟩
abbrev cX5_clearText : ByteArray := prog_1_method_10_code
def yX5_clearText : MethodName := ⟨RX5, "clearText", "()I"⟩
abbrev cX5_perform : ByteArray := prog_1_method_11_code
def yX5_perform : MethodName := ⟨RX5, "perform", "()I"⟩
abbrev cX5_stopped : ByteArray := prog_1_method_12_code
def yX5_stopped : MethodName := ⟨RX5, "stopped", "(I)I"⟩
abbrev cX5_undo : ByteArray := prog_1_method_13_code
def yX5_undo : MethodName := ⟨RX5, "undo", "()I"⟩
abbrev cX5_keep : ByteArray := prog_1_method_14_code
def yX5_keep : MethodName := ⟨RX5, "keep", "()I"⟩
abbrev cX5_restore : ByteArray := prog_1_method_15_code
def yX5_restore : MethodName := ⟨RX5, "restore", "()I"⟩
abbrev cX5_speaker : ByteArray := prog_1_method_16_code
def yX5_speaker : MethodName := ⟨RX5, "speaker", "(II)I"⟩
abbrev cX5_message : ByteArray := prog_1_method_17_code
def yX5_message : MethodName := ⟨RX5, "message", "(III)I"⟩
abbrev cX5_listener : ByteArray := prog_1_method_18_code
def yX5_listener : MethodName := ⟨RX5, "listener", "(II)I"⟩
abbrev cX5_bit : ByteArray := prog_1_method_19_code
def yX5_bit : MethodName := ⟨RX5, "bit", "(II)I"⟩
abbrev cX5_winners : ByteArray := prog_1_method_20_code
def yX5_winners : MethodName := ⟨RX5, "winners", "()I"⟩
abbrev cX5_emptyIn : ByteArray := prog_1_method_21_code
def yX5_emptyIn : MethodName := ⟨RX5, "emptyIn", "()I"⟩
abbrev cX5_ifRun : ByteArray := prog_1_method_22_code
def yX5_ifRun : MethodName := ⟨RX5, "ifRun", "(II)I"⟩
abbrev cX5_count : ByteArray := prog_1_method_23_code
def yX5_count : MethodName := ⟨RX5, "count", "(I)I"⟩
abbrev cX5_recorded : ByteArray := prog_1_method_24_code
def yX5_recorded : MethodName := ⟨RX5, "recorded", "(I)I"⟩
abbrev cX5_carryOutOrder : ByteArray := prog_1_method_25_code
def yX5_carryOutOrder : MethodName := ⟨RX5, "carryOutOrder", "()I"⟩
abbrev cX5_isIndex : ByteArray := prog_1_method_26_code
def yX5_isIndex : MethodName := ⟨RX5, "isIndex", "(II)Z"⟩
abbrev cX5_isPlace : ByteArray := prog_1_method_27_code
def yX5_isPlace : MethodName := ⟨RX5, "isPlace", "(I)Z"⟩
def RX6 : String := "PulledWiresModel"
def TX6 : u_T := fun k => match k with
  | 0 => ("PulledWiresModel", "s", "[I", true)
  | 1 => ("PulledWiresModel", "aside", "[I", true)
  | 2 => ("PulledWiresModel", "before", "[I", true)
  | 3 => ("PulledWiresModel", "known", "I", false)
  | 4 => ("PulledWiresModel", "kept", "[I", true)
  | 5 => ("PulledWiresModel", "isKept", "Z", false)
  | 6 => ("PulledWiresModel", "text", "[I", true)
  | 7 => ("PulledWiresModel", "length", "I", false)
  | 8 => ("PulledWiresModel", "stopPlace", "I", false)
  | 9 => ("PulledWiresModel", "stopError", "I", false)
  | 10 => ("PulledWiresModel", "place", "I", false)
  | 11 => ("PulledWiresModel", "isWrong", "Z", false)
  | 12 => ("PulledWiresModel", "letter", "I", false)
  | 13 => ("PulledWiresModel", "one", "I", false)
  | 14 => ("PulledWiresModel", "two", "I", false)
  | 15 => ("PulledWiresModel", "three", "I", false)
  | _ => ("PulledWiresModel", "four", "I", false)
def tyX6 : Nat → FieldType := fun k => match k with
  | 0 => .array .int
  | 1 => .array .int
  | 2 => .array .int
  | 3 => .int
  | 4 => .array .int
  | 5 => .boolean
  | 6 => .array .int
  | 7 => .int
  | 8 => .int
  | 9 => .int
  | 10 => .int
  | 11 => .boolean
  | 12 => .int
  | 13 => .int
  | 14 => .int
  | 15 => .int
  | _ => .int
abbrev wsX60 : List Cond := u_ws RX6 TX6 17
theorem nmX6 : ∀ a, a < 17 → ∀ b, b < 17 → a ≠ b → (TX6 a).2.1 ≠ (TX6 b).2.1 := by decide +kernel
theorem tyX6_ok : ∀ k, k < 17 → parseFieldDescriptor (TX6 k).2.2.1 = some (tyX6 k) := by decide +kernel
abbrev cX6_init : ByteArray := prog_8_method_1_code
def yX6_init : MethodName := ⟨RX6, "<init>", "()V"⟩
abbrev cX6_in : ByteArray := prog_8_method_3_code
def yX6_in : MethodName := ⟨RX6, "in", "(III)Z"⟩
abbrev cX6_of : ByteArray := prog_8_method_4_code
def yX6_of : MethodName := ⟨RX6, "of", "(II)I"⟩
abbrev cX6_ofListener : ByteArray := prog_8_method_5_code
def yX6_ofListener : MethodName := ⟨RX6, "ofListener", "(II)I"⟩
abbrev cX6_inMessage : ByteArray := prog_8_method_6_code
def yX6_inMessage : MethodName := ⟨RX6, "inMessage", "(III)I"⟩
abbrev cX6_isOne : ByteArray := prog_8_method_7_code
def yX6_isOne : MethodName := ⟨RX6, "isOne", "(I)Z"⟩
abbrev cX6_putAside : ByteArray := prog_8_method_8_code
def yX6_putAside : MethodName := ⟨RX6, "putAside", "()V"⟩
abbrev cX6_putBack : ByteArray := prog_8_method_9_code
def yX6_putBack : MethodName := ⟨RX6, "putBack", "()V"⟩
abbrev cX6_act : ByteArray := prog_8_method_10_code
def yX6_act : MethodName := ⟨RX6, "act", "(I)I"⟩
abbrev cX6_bitsOf : ByteArray := prog_8_method_11_code
def yX6_bitsOf : MethodName := ⟨RX6, "bitsOf", "(I)I"⟩
abbrev cX6_isAnswer : ByteArray := prog_8_method_12_code
def yX6_isAnswer : MethodName := ⟨RX6, "isAnswer", "(I)Z"⟩
abbrev cX6_bitAt : ByteArray := prog_8_method_13_code
def yX6_bitAt : MethodName := ⟨RX6, "bitAt", "(II)I"⟩
abbrev cX6_dropFirst : ByteArray := prog_8_method_14_code
def yX6_dropFirst : MethodName := ⟨RX6, "dropFirst", "(I)V"⟩
abbrev cX6_isTalking : ByteArray := prog_8_method_15_code
def yX6_isTalking : MethodName := ⟨RX6, "isTalking", "(I)Z"⟩
abbrev cX6_talking : ByteArray := prog_8_method_16_code
def yX6_talking : MethodName := ⟨RX6, "talking", "()I"⟩
abbrev cX6_firstTalking : ByteArray := prog_8_method_17_code
def yX6_firstTalking : MethodName := ⟨RX6, "firstTalking", "()I"⟩
abbrev cX6_listenerOf : ByteArray := prog_8_method_18_code
def yX6_listenerOf : MethodName := ⟨RX6, "listenerOf", "(I)I"⟩
abbrev cX6_logs : ByteArray := prog_8_method_19_code
def yX6_logs : MethodName := ⟨RX6, "logs", "(III)V"⟩
abbrev cX6_lose : ByteArray := prog_8_method_20_code
def yX6_lose : MethodName := ⟨RX6, "lose", "()I"⟩
abbrev cX6_endsIfEmpty : ByteArray := prog_8_method_21_code
def yX6_endsIfEmpty : MethodName := ⟨RX6, "endsIfEmpty", "()V"⟩
abbrev cX6_stuck : ByteArray := prog_8_method_22_code
def yX6_stuck : MethodName := ⟨RX6, "stuck", "()I"⟩
abbrev cX6_tickStuck : ByteArray := prog_8_method_23_code
def yX6_tickStuck : MethodName := ⟨RX6, "tickStuck", "()V"⟩
abbrev cX6_tickBit : ByteArray := prog_8_method_24_code
def yX6_tickBit : MethodName := ⟨RX6, "tickBit", "()V"⟩
abbrev cX6_tickAnswered : ByteArray := prog_8_method_25_code
def yX6_tickAnswered : MethodName := ⟨RX6, "tickAnswered", "(I)V"⟩
abbrev cX6_tickUnanswered : ByteArray := prog_8_method_26_code
def yX6_tickUnanswered : MethodName := ⟨RX6, "tickUnanswered", "()V"⟩
abbrev cX6_messages : ByteArray := prog_8_method_27_code
def yX6_messages : MethodName := ⟨RX6, "messages", "()I"⟩
abbrev cX6_tickFree : ByteArray := prog_8_method_28_code
def yX6_tickFree : MethodName := ⟨RX6, "tickFree", "()V"⟩
abbrev cX6_next : ByteArray := prog_8_method_29_code
def yX6_next : MethodName := ⟨RX6, "next", "()I"⟩
abbrev cX6_tick : ByteArray := prog_8_method_30_code
def yX6_tick : MethodName := ⟨RX6, "tick", "()V"⟩
abbrev cX6_came : ByteArray := prog_8_method_31_code
def yX6_came : MethodName := ⟨RX6, "came", "()I"⟩
abbrev cX6_says : ByteArray := prog_8_method_32_code
def yX6_says : MethodName := ⟨RX6, "says", "(IIII)I"⟩
abbrev cX6_hears : ByteArray := prog_8_method_33_code
def yX6_hears : MethodName := ⟨RX6, "hears", "(II)I"⟩
abbrev cX6_holds : ByteArray := prog_8_method_34_code
def yX6_holds : MethodName := ⟨RX6, "holds", "(II)I"⟩
abbrev cX6_sticks : ByteArray := prog_8_method_35_code
def yX6_sticks : MethodName := ⟨RX6, "sticks", "(II)I"⟩
abbrev cX6_runs : ByteArray := prog_8_method_36_code
def yX6_runs : MethodName := ⟨RX6, "runs", "(I)I"⟩
abbrev cX6_takesBack : ByteArray := prog_8_method_37_code
def yX6_takesBack : MethodName := ⟨RX6, "takesBack", "(I)I"⟩
abbrev cX6_most : ByteArray := prog_8_method_38_code
def yX6_most : MethodName := ⟨RX6, "most", "(I)I"⟩
abbrev cX6_sets : ByteArray := prog_8_method_39_code
def yX6_sets : MethodName := ⟨RX6, "sets", "(II)I"⟩
abbrev cX6_say : ByteArray := prog_8_method_40_code
def yX6_say : MethodName := ⟨RX6, "say", "(IIII)I"⟩
abbrev cX6_takeBack : ByteArray := prog_8_method_41_code
def yX6_takeBack : MethodName := ⟨RX6, "takeBack", "(I)I"⟩
abbrev cX6_hear : ByteArray := prog_8_method_42_code
def yX6_hear : MethodName := ⟨RX6, "hear", "(II)I"⟩
abbrev cX6_hold : ByteArray := prog_8_method_43_code
def yX6_hold : MethodName := ⟨RX6, "hold", "(II)I"⟩
abbrev cX6_stick : ByteArray := prog_8_method_44_code
def yX6_stick : MethodName := ⟨RX6, "stick", "(II)I"⟩
abbrev cX6_set : ByteArray := prog_8_method_45_code
def yX6_set : MethodName := ⟨RX6, "set", "(II)I"⟩
abbrev cX6_run : ByteArray := prog_8_method_46_code
def yX6_run : MethodName := ⟨RX6, "run", "(I)I"⟩
abbrev cX6_type : ByteArray := prog_8_method_47_code
def yX6_type : MethodName := ⟨RX6, "type", "(C)I"⟩
abbrev cX6_clearText : ByteArray := prog_8_method_48_code
def yX6_clearText : MethodName := ⟨RX6, "clearText", "()I"⟩
abbrev cX6_sign : ByteArray := prog_8_method_49_code
def yX6_sign : MethodName := ⟨RX6, "sign", "(I)V"⟩
abbrev cX6_isNext : ByteArray := prog_8_method_50_code
def yX6_isNext : MethodName := ⟨RX6, "isNext", "(I)Z"⟩
abbrev cX6_isDigit : ByteArray := prog_8_method_51_code
def yX6_isDigit : MethodName := ⟨RX6, "isDigit", "()Z"⟩
abbrev cX6_number : ByteArray := prog_8_method_52_code
def yX6_number : MethodName := ⟨RX6, "number", "(II)I"⟩
abbrev cX6_order : ByteArray := prog_8_method_53_code
def yX6_order : MethodName := ⟨RX6, "order", "()V"⟩
abbrev cX6_does : ByteArray := prog_8_method_54_code
def yX6_does : MethodName := ⟨RX6, "does", "()I"⟩
abbrev cX6_go : ByteArray := prog_8_method_55_code
def yX6_go : MethodName := ⟨RX6, "go", "(Z)I"⟩
abbrev cX6_perform : ByteArray := prog_8_method_56_code
def yX6_perform : MethodName := ⟨RX6, "perform", "()I"⟩
abbrev cX6_stopped : ByteArray := prog_8_method_57_code
def yX6_stopped : MethodName := ⟨RX6, "stopped", "(I)I"⟩
abbrev cX6_undo : ByteArray := prog_8_method_58_code
def yX6_undo : MethodName := ⟨RX6, "undo", "()I"⟩
abbrev cX6_keep : ByteArray := prog_8_method_59_code
def yX6_keep : MethodName := ⟨RX6, "keep", "()I"⟩
abbrev cX6_restore : ByteArray := prog_8_method_60_code
def yX6_restore : MethodName := ⟨RX6, "restore", "()I"⟩
abbrev cX6_speaker : ByteArray := prog_8_method_61_code
def yX6_speaker : MethodName := ⟨RX6, "speaker", "(II)I"⟩
abbrev cX6_ticksOf : ByteArray := prog_8_method_62_code
def yX6_ticksOf : MethodName := ⟨RX6, "ticksOf", "(II)I"⟩
abbrev cX6_message : ByteArray := prog_8_method_63_code
def yX6_message : MethodName := ⟨RX6, "message", "(III)I"⟩
abbrev cX6_listener : ByteArray := prog_8_method_64_code
def yX6_listener : MethodName := ⟨RX6, "listener", "(II)I"⟩
abbrev cX6_bit : ByteArray := prog_8_method_65_code
def yX6_bit : MethodName := ⟨RX6, "bit", "(II)I"⟩
abbrev cX6_winners : ByteArray := prog_8_method_66_code
def yX6_winners : MethodName := ⟨RX6, "winners", "()I"⟩
abbrev cX6_emptyIn : ByteArray := prog_8_method_67_code
def yX6_emptyIn : MethodName := ⟨RX6, "emptyIn", "()I"⟩
abbrev cX6_ifRun : ByteArray := prog_8_method_68_code
def yX6_ifRun : MethodName := ⟨RX6, "ifRun", "(II)I"⟩
abbrev cX6_count : ByteArray := prog_8_method_69_code
def yX6_count : MethodName := ⟨RX6, "count", "(I)I"⟩
def RJ6 : String := "java/lang/Integer"
def TJ6 : u_T := fun k => match k with
  | _ => ("", "", "", false)
def tyJ6 : Nat → FieldType := fun k => match k with
  | _ => .int
abbrev wsJ60 : List Cond := u_ws RJ6 TJ6 0
theorem nmJ6 : ∀ a, a < 0 → ∀ b, b < 0 → a ≠ b → (TJ6 a).2.1 ≠ (TJ6 b).2.1 := by decide +kernel
theorem tyJ6_ok : ∀ k, k < 0 → parseFieldDescriptor (TJ6 k).2.2.1 = some (tyJ6 k) := by decide +kernel
abbrev cJ6_bitCount_0f7a4 : ByteArray := prog_9_method_49_code
def yJ6_bitCount_0f7a4 : MethodName := ⟨RJ6, "bitCount", "(I)I"⟩
def RJ9 : String := "java/lang/Math"
def TJ9 : u_T := fun k => match k with
  | _ => ("", "", "", false)
def tyJ9 : Nat → FieldType := fun k => match k with
  | _ => .int
abbrev wsJ90 : List Cond := u_ws RJ9 TJ9 0
theorem nmJ9 : ∀ a, a < 0 → ∀ b, b < 0 → a ≠ b → (TJ9 a).2.1 ≠ (TJ9 b).2.1 := by decide +kernel
theorem tyJ9_ok : ∀ k, k < 0 → parseFieldDescriptor (TJ9 k).2.2.1 = some (tyJ9 k) := by decide +kernel
abbrev cJ9_floorMod_7cf53 : ByteArray := prog_10_method_50_code
def yJ9_floorMod_7cf53 : MethodName := ⟨RJ9, "floorMod", "(II)I"⟩
abbrev cJ9_max_7cf53 : ByteArray := prog_10_method_65_code
def yJ9_max_7cf53 : MethodName := ⟨RJ9, "max", "(II)I"⟩
abbrev cJ9_min_7cf53 : ByteArray := prog_10_method_69_code
def yJ9_min_7cf53 : MethodName := ⟨RJ9, "min", "(II)I"⟩
def RJ0 : String := "java/lang/String"
def TJ0 : u_T := fun k => match k with
  | _ => ("", "", "", false)
def tyJ0 : Nat → FieldType := fun k => match k with
  | _ => .int
abbrev wsJ00 : List Cond := u_ws RJ0 TJ0 0
theorem nmJ0 : ∀ a, a < 0 → ∀ b, b < 0 → a ≠ b → (TJ0 a).2.1 ≠ (TJ0 b).2.1 := by decide +kernel
theorem tyJ0_ok : ∀ k, k < 0 → parseFieldDescriptor (TJ0 k).2.2.1 = some (tyJ0 k) := by decide +kernel
abbrev cJ0_length_8abf5 : ByteArray := prog_11_method_54_code
def yJ0_length_8abf5 : MethodName := ⟨RJ0, "length", "()I"⟩
abbrev cJ0_charAt_5068e : ByteArray := prog_11_method_56_code
def yJ0_charAt_5068e : MethodName := ⟨RJ0, "charAt", "(I)C"⟩
abbrev cJ0_coder_7d493 : ByteArray := prog_11_method_152_code
def yJ0_coder_7d493 : MethodName := ⟨RJ0, "coder", "()B"⟩
abbrev cJ0_isLatin1_aae02 : ByteArray := prog_11_method_154_code
def yJ0_isLatin1_aae02 : MethodName := ⟨RJ0, "isLatin1", "()Z"⟩
abbrev cJ0_checkIndex_df160 : ByteArray := prog_11_method_155_code
def yJ0_checkIndex_df160 : MethodName := ⟨RJ0, "checkIndex", "(II)V"⟩
def RJ1 : String := "java/lang/StringLatin1"
def TJ1 : u_T := fun k => match k with
  | _ => ("", "", "", false)
def tyJ1 : Nat → FieldType := fun k => match k with
  | _ => .int
abbrev wsJ10 : List Cond := u_ws RJ1 TJ1 0
theorem nmJ1 : ∀ a, a < 0 → ∀ b, b < 0 → a ≠ b → (TJ1 a).2.1 ≠ (TJ1 b).2.1 := by decide +kernel
theorem tyJ1_ok : ∀ k, k < 0 → parseFieldDescriptor (TJ1 k).2.2.1 = some (tyJ1 k) := by decide +kernel
abbrev cJ1_charAt_3b067 : ByteArray := prog_12_method_2_code
def yJ1_charAt_3b067 : MethodName := ⟨RJ1, "charAt", "([BI)C"⟩
def RJ2 : String := "java/lang/StringUTF16"
def TJ2 : u_T := fun k => match k with
  | _ => ("", "", "", false)
def tyJ2 : Nat → FieldType := fun k => match k with
  | _ => .int
abbrev wsJ20 : List Cond := u_ws RJ2 TJ2 0
theorem nmJ2 : ∀ a, a < 0 → ∀ b, b < 0 → a ≠ b → (TJ2 a).2.1 ≠ (TJ2 b).2.1 := by decide +kernel
theorem tyJ2_ok : ∀ k, k < 0 → parseFieldDescriptor (TJ2 k).2.2.1 = some (tyJ2 k) := by decide +kernel
abbrev cJ2_getChar_3b067 : ByteArray := prog_13_method_5_code
def yJ2_getChar_3b067 : MethodName := ⟨RJ2, "getChar", "([BI)C"⟩
abbrev cJ2_length_9d52b : ByteArray := prog_13_method_6_code
def yJ2_length_9d52b : MethodName := ⟨RJ2, "length", "([B)I"⟩
abbrev cJ2_charAt_3b067 : ByteArray := prog_13_method_83_code
def yJ2_charAt_3b067 : MethodName := ⟨RJ2, "charAt", "([BI)C"⟩
abbrev cJ2_checkIndex_2214a : ByteArray := prog_13_method_91_code
def yJ2_checkIndex_2214a : MethodName := ⟨RJ2, "checkIndex", "(I[B)V"⟩
def RJ10 : String := "java/lang/System"
def TJ10 : u_T := fun k => match k with
  | _ => ("", "", "", false)
def tyJ10 : Nat → FieldType := fun k => match k with
  | _ => .int
abbrev wsJ100 : List Cond := u_ws RJ10 TJ10 0
theorem nmJ10 : ∀ a, a < 0 → ∀ b, b < 0 → a ≠ b → (TJ10 a).2.1 ≠ (TJ10 b).2.1 := by decide +kernel
theorem tyJ10_ok : ∀ k, k < 0 → parseFieldDescriptor (TJ10 k).2.2.1 = some (tyJ10 k) := by decide +kernel
def RJ3 : String := "jdk/internal/util/Preconditions"
def TJ3 : u_T := fun k => match k with
  | _ => ("", "", "", false)
def tyJ3 : Nat → FieldType := fun k => match k with
  | _ => .int
abbrev wsJ30 : List Cond := u_ws RJ3 TJ3 0
theorem nmJ3 : ∀ a, a < 0 → ∀ b, b < 0 → a ≠ b → (TJ3 a).2.1 ≠ (TJ3 b).2.1 := by decide +kernel
theorem tyJ3_ok : ∀ k, k < 0 → parseFieldDescriptor (TJ3 k).2.2.1 = some (tyJ3 k) := by decide +kernel
abbrev cJ3_checkIndex_8e157 : ByteArray := prog_15_method_11_code
def yJ3_checkIndex_8e157 : MethodName := ⟨RJ3, "checkIndex", "(IILjava/util/function/BiFunction;)I"⟩
def RL : String := "PulledWiresLaw"
abbrev cL_law : ByteArray := code
def yL_law : MethodName := ⟨RL, "law", "([I)Z"⟩
abbrev vwCl : List vw_C := [(RX0, TX0, 3), (RX1, TX1, 5), (RX2, TX2, 5), (RX3, TX3, 8), (RX4, TX4, 11), (RX5, TX5, 9), (RX6, TX6, 17)]
end
section
/-! THE FLAT MACHINE. Objects have numbers 0 .. 136 in the order in which the law makes them (numbers from 1000 on are the constants that were there before); what they hold is a number (I) or the number of another object (R). X says: from here the machine comes to a state with F. -/
abbrev MI : Type := Nat → Nat → Int32
abbrev MR : Type := Nat → Nat → Option Nat
abbrev GX : Type := (Nat × (Nat → Nat)) × va_G × (Nat → ClassId)
abbrev CX : Type := Program × Launch × Env × State × MethodId × Array Value × List Frame × Method × Code
abbrev MT : Type := MethodName × ByteArray × Nat × Option FieldType × Room × Nat
/-- kind and length of each object -/
def xkL : List (Nat × Nat) :=
  let sp : List (Nat × Nat) := [(3, 0), (8, 15)]
  let stt : List (Nat × Nat) := [(4, 0), (10, 4), (9, 4), (8, 3), (0, 0), (8, 256)] ++ sp ++ sp ++ sp ++ sp ++ [(1, 0), (1, 0), (1, 0), (1, 0)]
  [(5, 0)] ++ stt ++ stt ++ [(11, 4), (2, 0), (7, 80), (8, 4)] ++ stt ++ stt ++ stt ++ stt ++ stt ++ [(6, 0), (8, 375), (8, 375), (8, 1500), (8, 375), (8, 80)]
def xkd (i : Nat) : Nat := (xkL.getD i (99, 0)).1
def xln (i : Nat) : Nat := (xkL.getD i (99, 0)).2
/-- slot k of an object of a kind holds an object -/
def xrf (c k : Nat) : Bool := match c with
  | 0 => k == 0
  | 2 => decide (k < 2)
  | 3 => k == 0
  | 4 => decide (k < 4)
  | 5 => decide (k < 5)
  | 6 => (k == 0) || (k == 1) || (k == 2) || (k == 4) || (k == 6)
  | 9 => true
  | 10 => true
  | 11 => true
  | _ => false
def xN (c : Nat) : Nat := [3, 5, 5, 8, 11, 9, 17].getD c 0
def xad (g : GX) (i : Nat) : Nat := if i < 1000 then g.1.1 + i else g.1.2 (i - 1000)
def xv (g : GX) : Value → Value
  | .ref i => .ref (xad g i)
  | v => v
def xval (g : GX) (I : MI) (R : MR) (c i k : Nat) : Value := if xrf c k = true then va_rf ((R i k).map (xad g)) else .int (I i k)
def xat (g : GX) (I : MI) (R : MR) (H : Heap) (i : Nat) : Prop :=
  (xkd i < 7 → t_OB (xad g i) (g.2.1.1 (xkd i)) (xN (xkd i)) (g.2.1.2 (xkd i)) H (xval g I R (xkd i) i)) ∧
  (¬ xkd i < 7 → H[xad g i]? = some (arrV (g.2.2 (xkd i)) (xln i) (xval g I R (xkd i) i)))
def xRep (g : GX) (n : Nat) (I : MI) (R : MR) (H : Heap) : Prop := n ≤ 137 ∧ g.1.1 + n ≤ H.size ∧ (n < 137 → H.size = g.1.1 + n) ∧ ∀ i, i < n → xat g I R H i
/-- the words that every method may use -/
def XT : List Cond := lw_tbl.filter goodWord
/-- the words of nest mates -/
def xNW : List Cond := lw_tbl.filter (fun w => match w with
  | .methodLinkNest .. => true
  | .fieldLinkNest .. => true
  | _ => false)
/-- the array kinds' element types -/
def xTy (c : Nat) : FieldType := match c with
  | 7 => .char
  | 8 => .int
  | 9 => .object RX1
  | 10 => .object RX3
  | _ => .object RX4
def xTys (g : GX) : List (ClassId × FieldType) := [(g.2.2 7, .char), (g.2.2 8, .int), (g.2.2 9, .object RX1), (g.2.2 10, .object RX3), (g.2.2 11, .object RX4)]
def xTexts : List (Nat × String × List Int32) := [(97, "say", [115, 97, 121]), (99, "hear", [104, 101, 97, 114]), (101, "hold", [104, 111, 108, 100]), (103, "stick", [115, 116, 105, 99, 107]), (105, "run", [114, 117, 110])]
/-- what is known of the machine's tables -/
def xKV (g : GX) (U : State) : Prop := va_K g.2.1 vwCl (xTys g) U ∧ (∀ w ∈ xNW, va_Nw w U) ∧ (va_AO RX1 U ∧ va_AO RX3 U ∧ va_AO RX4 U) ∧
  (vk_R RX2 97 "say" (g.1.2 0) U ∧ vk_R RX2 99 "hear" (g.1.2 1) U ∧ vk_R RX2 101 "hold" (g.1.2 2) U ∧ vk_R RX2 103 "stick" (g.1.2 3) U ∧ vk_R RX2 105 "run" (g.1.2 4) U)
/-- what is known of the constants' cells: five texts, their bytes at 10 .. 14, MOST_SETTING at 5 -/
def xKH (g : GX) (U : State) (H : Heap) : Prop :=
  vk_S 5 [3, 4, 4, 5, 3] [[115, 97, 121], [104, 101, 97, 114], [104, 111, 108, 100], [115, 116, 105, 99, 107], [114, 117, 110]] g.1.2 (fun i => g.1.2 (10 + i)) (fun q => g.1.1 ≤ q) U H ∧
  va_Z "java/lang/String" "COMPACT_STRINGS" "Z" (.int 1) (fun q => g.1.1 ≤ q) U H ∧
  va_Z "PulledWires" "MOST_SETTING" "[I" (.ref (g.1.2 5)) (fun q => g.1.1 ≤ q) U H ∧
  va_T .int (g.1.2 5) 3 (fun j => .int (([20, 9, 99] : List Int32).getD j 0)) (fun q => g.1.1 ≤ q) U H
/-- locals: some values known -/
def xp (g : GX) (ls : List (Option Value)) : List (Nat × Value) := ls.zipIdx.filterMap (fun q => q.1.map (fun v => (q.2, xv g v)))
def XL (g : GX) (nL : Nat) (ls : List (Option Value)) (lsA : Array Slot) : Prop := lv_has lsA nL (xp g ls) ∧ ls.length = nL ∧ ∀ v, some v ∈ ls → v.category = 1
def xOk (g : GX) (cx : CX) (mt : MT) : Prop :=
  cx.1.tables.exec = Jvm.exec ∧ cx.2.2.2.2.2.2.2.2.code = mt.2.1 ∧ cx.2.2.2.2.2.2.2.1.sig.returnType = mt.2.2.2.1 ∧ cx.2.2.2.2.2.2.2.2.maxLocals = mt.2.2.1 ∧
  cx.2.2.2.1.vm.findClass mt.1.cls = some cx.2.2.2.2.1.cls ∧ cx.2.2.2.2.2.2.2.1.locks = false ∧ (∀ w ∈ XT, w.before cx.2.2.2.2.2.1 cx.2.2.2.1 = true) ∧ cx.2.2.2.2.2.2.2.1.name = mt.1.name ∧
  xKV g cx.2.2.2.1 ∧ g.1.1 ≤ cx.2.2.2.1.heap.size ∧ xKH g cx.2.2.2.1 cx.2.2.2.1.heap
def X (g : GX) (cx : CX) (mt : MT) (F : State → Prop) (cs : Nat × Nat) (pc : Nat) (ls : List (Option Value)) (st : List Value) (n : Nat) (I : MI) (R : MR) : Prop :=
  xOk g cx mt → ∀ (H : Heap) (locs : List Loc) (lsA : Array Slot), xRep g n I R H → va_S (fun q => g.1.1 ≤ q) cx.2.2.2.1.heap H locs → XL g mt.2.2.1 ls lsA →
    W cx.1 cx.2.1 cx.2.2.1 mt.2.2.2.2.1 cx.2.2.2.1 cx.2.2.2.2.1 cx.2.2.2.2.2.1 cx.2.2.2.2.2.2.1 cx.2.2.2.2.2.2.2.1 cx.2.2.2.2.2.2.2.2 H locs cs.1 cs.2 F (F0 cx.2.2.2.2.1 pc lsA (st.map (xv g)))
abbrev XQ : Type := Option Value → Nat → MI → MR → Prop
def xPc (g : GX) (av : List Value) (n : Nat) (I : MI) (R : MR) : Array Value → State → Prop := fun v U => v = (av.map (xv g)).toArray ∧ xRep g n I R U.heap ∧ xKV g U ∧ g.1.1 ≤ U.heap.size ∧ xKH g U U.heap
def xQc (g : GX) (Q : XQ) : Array Value → State → Outcome → State → Prop := fun _ st o t => ∃ (r : Option Value) (n : Nat) (I : MI) (R : MR), o = .returned (r.map (xv g)) ∧ Q r n I R ∧ xRep g n I R t.heap ∧ st.heap.size ≤ t.heap.size ∧ ∀ q : Nat, q < g.1.1 → t.heap[q]? = st.heap[q]?
def xF (g : GX) (cx : CX) (mt : MT) (Q : XQ) : State → Prop := MQ cx.2.2.2.2.2.2.1 (xQc g Q) cx.2.2.2.2.2.1 cx.2.2.2.1 mt.2.2.2.2.1.cells mt.2.2.2.2.1.slots (fun q => g.1.1 ≤ q)
/-- a method's contract: from these arguments and contents it returns, with Q -/
def Sp (mt : MT) (av : List Value) (n : Nat) (I : MI) (R : MR) (Q : XQ) : Prop := ∀ (g : GX) (l : Launch), Met l mt.1 (.code mt.1 mt.2.1 mt.2.2.1 mt.2.2.2.1 :: XT) mt.2.2.2.2.1 (xPc g av n I R) (xQc g Q) mt.2.2.2.2.1.cells mt.2.2.2.2.1.slots (fun q => g.1.1 ≤ q)
theorem xv_cat (g : GX) (v : Value) : (xv g v).category = v.category := by cases v <;> rfl
theorem xad_lo (g : GX) {i : Nat} (h : i < 1000) : xad g i = g.1.1 + i := by simp [xad, h]
theorem xad_inj (g : GX) {i j : Nat} (hi : i < 1000) (hj : j < 1000) (h : xad g i = xad g j) : i = j := by rw [xad_lo g hi, xad_lo g hj] at h; omega
theorem xp_mem {g : GX} {ls : List (Option Value)} {i : Nat} {v : Value} (h : ls[i]? = some (some v)) : (i, xv g v) ∈ xp g ls := by
  refine List.mem_filterMap.mpr ⟨(some v, i), ?_, rfl⟩
  exact List.mem_zipIdx_iff_getElem?.mpr h
theorem xp_of {g : GX} {ls : List (Option Value)} {q : Nat × Value} (h : q ∈ xp g ls) : ∃ v, ls[q.1]? = some (some v) ∧ q.2 = xv g v := by
  obtain ⟨⟨o, i⟩, h1, h2⟩ := List.mem_filterMap.mp h
  cases o with
  | none => cases h2
  | some v =>
    have h3 := List.mem_zipIdx_iff_getElem?.mp h1
    cases h2
    exact ⟨v, h3, rfl⟩
theorem XL.get {g : GX} {nL : Nat} {ls : List (Option Value)} {lsA : Array Slot} (h : XL g nL ls lsA) {i : Nat} {v : Value} (hi : ls[i]? = some (some v)) : lsA[i]? = some (.val (xv g v)) := h.1.2.2 _ (xp_mem hi)
theorem XL.put {g : GX} {nL : Nat} {ls : List (Option Value)} {lsA ls' : Array Slot} (h : XL g nL ls lsA) {i : Nat} {v : Value} (hc : v.category = 1)
    (h' : lv_has ls' nL ((i, xv g v) :: (xp g ls).filter (fun q => !(q.1 == i) && !(q.1 + 1 == i && q.2.category == 2)))) : XL g nL (ls.set i (some v)) ls' := by
  refine ⟨⟨h'.1, h'.2.1, fun q hq => ?_⟩, by rw [List.length_set]; exact h.2.1, fun w hw => ?_⟩
  · obtain ⟨w, h1, h2⟩ := xp_of hq
    by_cases hqi : q.1 = i
    · have hlt : i < ls.length := by
        have h3 := (List.getElem?_eq_some_iff.mp h1).1
        rw [List.length_set] at h3
        omega
      rw [hqi, List.getElem?_set_self hlt] at h1
      cases h1
      have h4 := h'.2.2 (i, xv g v) List.mem_cons_self
      rw [hqi, h2]
      exact h4
    · rw [List.getElem?_set_ne (Ne.symm hqi)] at h1
      have hw1 : w.category = 1 := h.2.2 w (List.mem_of_getElem? h1)
      refine h'.2.2 q (List.mem_cons_of_mem _ (List.mem_filter.mpr ⟨?_, ?_⟩))
      · have := xp_mem (g := g) h1
        rw [← h2] at this
        exact this
      · have hcat : q.2.category = 1 := by rw [h2, xv_cat]; exact hw1
        simp [hqi, hcat]
  · rcases List.mem_or_eq_of_mem_set hw with h1 | h1
    · exact h.2.2 w h1
    · cases h1; exact hc
theorem XL.weak {g : GX} {nL : Nat} {ls ls2 : List (Option Value)} {lsA : Array Slot} (h : XL g nL ls lsA) (hl : ls2.length = ls.length) (hw : ∀ (i : Nat) (v : Value), ls2[i]? = some (some v) → ls[i]? = some (some v)) : XL g nL ls2 lsA := by
  refine ⟨⟨h.1.1, h.1.2.1, fun q hq => ?_⟩, hl.trans h.2.1, fun v hv => ?_⟩
  · obtain ⟨v, h1, h2⟩ := xp_of hq
    rw [h2]
    exact h.get (hw _ _ h1)
  · obtain ⟨i, hi⟩ := List.getElem?_of_mem hv
    exact h.2.2 v (List.mem_of_getElem? (hw i v hi))
end
section
section XR
variable {g : GX} {cx : CX} {mt : MT} {F : State → Prop} {cs : Nat × Nat} {pc : Nat} {ls : List (Option Value)} {st : List Value} {n : Nat} {I : MI} {R : MR}

theorem x_iadd {x y : Int32} (hd : decode mt.2.1 pc = .ok (.iadd, 1)) (k : X g cx mt F cs (pc + 1) ls (.int (x + y) :: st) n I R) : X g cx mt F cs pc ls (.int y :: .int x :: st) n I R := fun ok H locs lsA hR hS hL => lv_iadd ok.1 ok.2.1 hd (k ok H locs lsA hR hS hL)
theorem x_isub {x y : Int32} (hd : decode mt.2.1 pc = .ok (.isub, 1)) (k : X g cx mt F cs (pc + 1) ls (.int (x - y) :: st) n I R) : X g cx mt F cs pc ls (.int y :: .int x :: st) n I R := fun ok H locs lsA hR hS hL => lv_isub ok.1 ok.2.1 hd (k ok H locs lsA hR hS hL)
theorem x_imul {x y : Int32} (hd : decode mt.2.1 pc = .ok (.imul, 1)) (k : X g cx mt F cs (pc + 1) ls (.int (x * y) :: st) n I R) : X g cx mt F cs pc ls (.int y :: .int x :: st) n I R := fun ok H locs lsA hR hS hL => lv_imul ok.1 ok.2.1 hd (k ok H locs lsA hR hS hL)
theorem x_iand {x y : Int32} (hd : decode mt.2.1 pc = .ok (.iand, 1)) (k : X g cx mt F cs (pc + 1) ls (.int (x &&& y) :: st) n I R) : X g cx mt F cs pc ls (.int y :: .int x :: st) n I R := fun ok H locs lsA hR hS hL => lv_iand ok.1 ok.2.1 hd (k ok H locs lsA hR hS hL)
theorem x_ior {x y : Int32} (hd : decode mt.2.1 pc = .ok (.ior, 1)) (k : X g cx mt F cs (pc + 1) ls (.int (x ||| y) :: st) n I R) : X g cx mt F cs pc ls (.int y :: .int x :: st) n I R := fun ok H locs lsA hR hS hL => lv_ior ok.1 ok.2.1 hd (k ok H locs lsA hR hS hL)
theorem x_ixor {x y : Int32} (hd : decode mt.2.1 pc = .ok (.ixor, 1)) (k : X g cx mt F cs (pc + 1) ls (.int (x ^^^ y) :: st) n I R) : X g cx mt F cs pc ls (.int y :: .int x :: st) n I R := fun ok H locs lsA hR hS hL => lv_ixor ok.1 ok.2.1 hd (k ok H locs lsA hR hS hL)
theorem x_ishl {x y : Int32} (hd : decode mt.2.1 pc = .ok (.ishl, 1)) (k : X g cx mt F cs (pc + 1) ls (.int (x <<< (y &&& 31)) :: st) n I R) : X g cx mt F cs pc ls (.int y :: .int x :: st) n I R := fun ok H locs lsA hR hS hL => lv_ishl ok.1 ok.2.1 hd (k ok H locs lsA hR hS hL)
theorem x_ishr {x y : Int32} (hd : decode mt.2.1 pc = .ok (.ishr, 1)) (k : X g cx mt F cs (pc + 1) ls (.int (x >>> (y &&& 31)) :: st) n I R) : X g cx mt F cs pc ls (.int y :: .int x :: st) n I R := fun ok H locs lsA hR hS hL => lv_ishr ok.1 ok.2.1 hd (k ok H locs lsA hR hS hL)
theorem x_iushr {x y : Int32} (hd : decode mt.2.1 pc = .ok (.iushr, 1)) (k : X g cx mt F cs (pc + 1) ls (.int ((x.toUInt32 >>> (y.toUInt32 &&& Int32.toUInt32 31)).toInt32) :: st) n I R) : X g cx mt F cs pc ls (.int y :: .int x :: st) n I R := fun ok H locs lsA hR hS hL => lv_iushr ok.1 ok.2.1 hd rfl (k ok H locs lsA hR hS hL)
theorem x_idiv {x y : Int32} (hd : decode mt.2.1 pc = .ok (.idiv, 1)) (hne : ¬ y = 0) (k : X g cx mt F cs (pc + 1) ls (.int (x / y) :: st) n I R) : X g cx mt F cs pc ls (.int y :: .int x :: st) n I R := fun ok H locs lsA hR hS hL => lv_idiv ok.1 ok.2.1 hd hne (k ok H locs lsA hR hS hL)
theorem x_irem {x y : Int32} (hd : decode mt.2.1 pc = .ok (.irem, 1)) (hne : ¬ y = 0) (k : X g cx mt F cs (pc + 1) ls (.int (x - x / y * y) :: st) n I R) : X g cx mt F cs pc ls (.int y :: .int x :: st) n I R := fun ok H locs lsA hR hS hL => lv_irem ok.1 ok.2.1 hd hne (k ok H locs lsA hR hS hL)
theorem x_i2c {x : Int32} (hd : decode mt.2.1 pc = .ok (.i2c, 1)) (k : X g cx mt F cs (pc + 1) ls (.int ((x.toUInt32 % 65536).toInt32) :: st) n I R) : X g cx mt F cs pc ls (.int x :: st) n I R := fun ok H locs lsA hR hS hL => lv_i2c ok.1 ok.2.1 hd rfl (k ok H locs lsA hR hS hL)
theorem x_iconst {c : Int} (v : Int32) (hd : decode mt.2.1 pc = .ok (.iconst c, 1)) (hv : Int32.ofInt c = v) (k : X g cx mt F cs (pc + 1) ls (.int v :: st) n I R) : X g cx mt F cs pc ls (st) n I R := fun ok H locs lsA hR hS hL => lv_iconst ok.1 ok.2.1 hd hv (k ok H locs lsA hR hS hL)
theorem x_bipush {c : Int} (v : Int32) (hd : decode mt.2.1 pc = .ok (.bipush c, 2)) (hv : (Int8.ofInt c).toInt32 = v) (k : X g cx mt F cs (pc + 2) ls (.int v :: st) n I R) : X g cx mt F cs pc ls (st) n I R := fun ok H locs lsA hR hS hL => lv_bipush ok.1 ok.2.1 hd hv (k ok H locs lsA hR hS hL)
theorem x_sipush {c : Int} (v : Int32) (hd : decode mt.2.1 pc = .ok (.sipush c, 3)) (hv : (Int16.ofInt c).toInt32 = v) (k : X g cx mt F cs (pc + 3) ls (.int v :: st) n I R) : X g cx mt F cs pc ls (st) n I R := fun ok H locs lsA hR hS hL => lv_sipush ok.1 ok.2.1 hd hv (k ok H locs lsA hR hS hL)
theorem x_null (hd : decode mt.2.1 pc = .ok (.aconst_null, 1)) (k : X g cx mt F cs (pc + 1) ls (.null :: st) n I R) : X g cx mt F cs pc ls (st) n I R := fun ok H locs lsA hR hS hL => lv_null ok.1 ok.2.1 hd (k ok H locs lsA hR hS hL)
theorem x_ldc {idx : Nat} (v : Int32) (hw : Cond.constant mt.1.cls idx v ∈ XT) (hd : decode mt.2.1 pc = .ok (.ldc idx, 2)) (k : X g cx mt F cs (pc + 2) ls (.int v :: st) n I R) : X g cx mt F cs pc ls (st) n I R := fun ok H locs lsA hR hS hL => lv_ldc ok.1 ok.2.1 ok.2.2.2.2.1 (ok.2.2.2.2.2.2.1 _ hw) hd (k ok H locs lsA hR hS hL)
theorem x_ldcw {idx : Nat} (v : Int32) (hw : Cond.constant mt.1.cls idx v ∈ XT) (hd : decode mt.2.1 pc = .ok (.ldc_w idx, 3)) (k : X g cx mt F cs (pc + 3) ls (.int v :: st) n I R) : X g cx mt F cs pc ls (st) n I R := fun ok H locs lsA hR hS hL => lv_ldcw ok.1 ok.2.1 ok.2.2.2.2.1 (ok.2.2.2.2.2.2.1 _ hw) hd (k ok H locs lsA hR hS hL)
theorem x_iload_n {c : Fin 4} {i : Nat} {v : Int32} (hd : decode mt.2.1 pc = .ok (.iload_n c, 1)) (hi : (c : Nat) = i) (hl : ls[i]? = some (some (.int v))) (k : X g cx mt F cs (pc + 1) ls (.int v :: st) n I R) : X g cx mt F cs pc ls (st) n I R := fun ok H locs lsA hR hS hL => lv_iload_n ok.1 ok.2.1 hd hi (hL.get hl) (k ok H locs lsA hR hS hL)
theorem x_iload {i : Nat} {v : Int32} (hd : decode mt.2.1 pc = .ok (.iload i, 2)) (hl : ls[i]? = some (some (.int v))) (k : X g cx mt F cs (pc + 2) ls (.int v :: st) n I R) : X g cx mt F cs pc ls (st) n I R := fun ok H locs lsA hR hS hL => lv_iload ok.1 ok.2.1 hd (hL.get hl) (k ok H locs lsA hR hS hL)
theorem x_aload_n {c : Fin 4} {i : Nat} {v : Nat} (hd : decode mt.2.1 pc = .ok (.aload_n c, 1)) (hi : (c : Nat) = i) (hl : ls[i]? = some (some (.ref v))) (k : X g cx mt F cs (pc + 1) ls (.ref v :: st) n I R) : X g cx mt F cs pc ls (st) n I R := fun ok H locs lsA hR hS hL => lv_aload_n ok.1 ok.2.1 hd hi (hL.get hl) (k ok H locs lsA hR hS hL)
theorem x_aload {i : Nat} {v : Nat} (hd : decode mt.2.1 pc = .ok (.aload i, 2)) (hl : ls[i]? = some (some (.ref v))) (k : X g cx mt F cs (pc + 2) ls (.ref v :: st) n I R) : X g cx mt F cs pc ls (st) n I R := fun ok H locs lsA hR hS hL => lv_aload ok.1 ok.2.1 hd (hL.get hl) (k ok H locs lsA hR hS hL)
theorem x_aload_nN {c : Fin 4} {i : Nat} (hd : decode mt.2.1 pc = .ok (.aload_n c, 1)) (hi : (c : Nat) = i) (hl : ls[i]? = some (some .null)) (k : X g cx mt F cs (pc + 1) ls (.null :: st) n I R) : X g cx mt F cs pc ls (st) n I R := fun ok H locs lsA hR hS hL => lv_aload_nN ok.1 ok.2.1 hd hi (hL.get hl) (k ok H locs lsA hR hS hL)
theorem x_aloadN {i : Nat} (hd : decode mt.2.1 pc = .ok (.aload i, 2)) (hl : ls[i]? = some (some .null)) (k : X g cx mt F cs (pc + 2) ls (.null :: st) n I R) : X g cx mt F cs pc ls (st) n I R := fun ok H locs lsA hR hS hL => lv_aloadN ok.1 ok.2.1 hd (hL.get hl) (k ok H locs lsA hR hS hL)
theorem x_istore_n {c : Fin 4} {i : Nat} {v : Int32} (hd : decode mt.2.1 pc = .ok (.istore_n c, 1)) (hi : (c : Nat) = i) (hn : i < mt.2.2.1) (k : X g cx mt F cs (pc + 1) (ls.set i (some (.int v))) (st) n I R) : X g cx mt F cs pc ls (.int v :: st) n I R := fun ok H locs lsA hR hS hL => lv_istore_n ok.1 ok.2.1 hd hi hL.1 hn rfl (fun ls2 h2 => k ok H locs ls2 hR hS (hL.put rfl h2))
theorem x_istore {i : Nat} {v : Int32} (hd : decode mt.2.1 pc = .ok (.istore i, 2)) (hn : i < mt.2.2.1) (k : X g cx mt F cs (pc + 2) (ls.set i (some (.int v))) (st) n I R) : X g cx mt F cs pc ls (.int v :: st) n I R := fun ok H locs lsA hR hS hL => lv_istore ok.1 ok.2.1 hd hL.1 hn rfl (fun ls2 h2 => k ok H locs ls2 hR hS (hL.put rfl h2))
theorem x_astore_n {c : Fin 4} {i : Nat} {v : Nat} (hd : decode mt.2.1 pc = .ok (.astore_n c, 1)) (hi : (c : Nat) = i) (hn : i < mt.2.2.1) (k : X g cx mt F cs (pc + 1) (ls.set i (some (.ref v))) (st) n I R) : X g cx mt F cs pc ls (.ref v :: st) n I R := fun ok H locs lsA hR hS hL => lv_astore_n ok.1 ok.2.1 hd hi hL.1 hn rfl (fun ls2 h2 => k ok H locs ls2 hR hS (hL.put rfl h2))
theorem x_astore {i : Nat} {v : Nat} (hd : decode mt.2.1 pc = .ok (.astore i, 2)) (hn : i < mt.2.2.1) (k : X g cx mt F cs (pc + 2) (ls.set i (some (.ref v))) (st) n I R) : X g cx mt F cs pc ls (.ref v :: st) n I R := fun ok H locs lsA hR hS hL => lv_astore ok.1 ok.2.1 hd hL.1 hn rfl (fun ls2 h2 => k ok H locs ls2 hR hS (hL.put rfl h2))
theorem x_astore_nN {c : Fin 4} {i : Nat}  (hd : decode mt.2.1 pc = .ok (.astore_n c, 1)) (hi : (c : Nat) = i) (hn : i < mt.2.2.1) (k : X g cx mt F cs (pc + 1) (ls.set i (some (.null))) (st) n I R) : X g cx mt F cs pc ls (.null :: st) n I R := fun ok H locs lsA hR hS hL => lv_astore_nN ok.1 ok.2.1 hd hi hL.1 hn rfl (fun ls2 h2 => k ok H locs ls2 hR hS (hL.put rfl h2))
theorem x_astoreN {i : Nat}  (hd : decode mt.2.1 pc = .ok (.astore i, 2)) (hn : i < mt.2.2.1) (k : X g cx mt F cs (pc + 2) (ls.set i (some (.null))) (st) n I R) : X g cx mt F cs pc ls (.null :: st) n I R := fun ok H locs lsA hR hS hL => lv_astoreN ok.1 ok.2.1 hd hL.1 hn rfl (fun ls2 h2 => k ok H locs ls2 hR hS (hL.put rfl h2))
theorem x_iinc {i : Nat} {c : Int} {x : Int32} (v : Int32) (hd : decode mt.2.1 pc = .ok (.iinc i c, 3)) (hl : ls[i]? = some (some (.int x))) (hv : x + Int32.ofInt c = v) (hn : i < mt.2.2.1) (k : X g cx mt F cs (pc + 3) (ls.set i (some (.int v))) (st) n I R) : X g cx mt F cs pc ls (st) n I R := fun ok H locs lsA hR hS hL => by
  have hm : (i, Value.int x) ∈ xp g ls := xp_mem (g := g) hl
  obtain ⟨j, hj⟩ := List.getElem?_of_mem hm
  exact lv_iinc ok.1 ok.2.1 hd hL.1 hj hv hn rfl (fun ls2 h2 => k ok H locs ls2 hR hS (hL.put rfl h2))
theorem x_dup {v : Value} (hd : decode mt.2.1 pc = .ok (.dup, 1)) (hv : v.category = 1) (k : X g cx mt F cs (pc + 1) ls (v :: v :: st) n I R) : X g cx mt F cs pc ls (v :: st) n I R := fun ok H locs lsA hR hS hL => lv_dup ok.1 ok.2.1 hd ((xv_cat g v).trans hv) (k ok H locs lsA hR hS hL)
theorem x_pop {v : Value} (hd : decode mt.2.1 pc = .ok (.pop, 1)) (hv : v.category = 1) (k : X g cx mt F cs (pc + 1) ls (st) n I R) : X g cx mt F cs pc ls (v :: st) n I R := fun ok H locs lsA hR hS hL => lv_pop ok.1 ok.2.1 hd ((xv_cat g v).trans hv) (k ok H locs lsA hR hS hL)
theorem x_dup2 {v w : Value} (hd : decode mt.2.1 pc = .ok (.dup2, 1)) (hv : v.category = 1) (hw : w.category = 1) (k : X g cx mt F cs (pc + 1) ls (v :: w :: v :: w :: st) n I R) : X g cx mt F cs pc ls (v :: w :: st) n I R := fun ok H locs lsA hR hS hL => lv_dup2_11 ok.1 ok.2.1 hd ((xv_cat g v).trans hv) ((xv_cat g w).trans hw) (k ok H locs lsA hR hS hL)
theorem x_goto {off : Int} (tgt : Nat) (hd : decode mt.2.1 pc = .ok (.goto off, 3)) (ht : (pc : Int) + off = (tgt : Int)) (k : X g cx mt F cs tgt ls (st) n I R) : X g cx mt F cs pc ls (st) n I R := fun ok H locs lsA hR hS hL => lv_goto ok.1 ok.2.1 hd ht (k ok H locs lsA hR hS hL)
theorem x_if_eq {x : Int32} {off : Int} (tgt : Nat) (hd : decode mt.2.1 pc = .ok (.ifCond .eq off, 3)) (ht : (pc : Int) + off = (tgt : Int)) (kt : x = 0 → X g cx mt F cs tgt ls (st) n I R) (kf : ¬ x = 0 → X g cx mt F cs (pc + 3) ls (st) n I R) : X g cx mt F cs pc ls (.int x :: st) n I R := fun ok H locs lsA hR hS hL => lv_if_eq ok.1 ok.2.1 hd ht (fun h => kt h ok H locs lsA hR hS hL) (fun h => kf h ok H locs lsA hR hS hL)
theorem x_if_eqT {x : Int32} {off : Int} (tgt : Nat) (hd : decode mt.2.1 pc = .ok (.ifCond .eq off, 3)) (ht : (pc : Int) + off = (tgt : Int)) (h : x = 0) (kt : X g cx mt F cs tgt ls (st) n I R) : X g cx mt F cs pc ls (.int x :: st) n I R := x_if_eq tgt hd ht (fun _ => kt) (fun q => absurd h q)
theorem x_if_eqF {x : Int32} {off : Int} (hd : decode mt.2.1 pc = .ok (.ifCond .eq off, 3)) (h : ¬ x = 0) (kf : X g cx mt F cs (pc + 3) ls (st) n I R) (tgt : Nat := ((pc : Int) + off).toNat) (ht : (pc : Int) + off = (tgt : Int) := by decide) : X g cx mt F cs pc ls (.int x :: st) n I R := x_if_eq tgt hd ht (fun q => absurd q h) (fun _ => kf)
theorem x_icmp_eq {x y : Int32} {off : Int} (tgt : Nat) (hd : decode mt.2.1 pc = .ok (.if_icmp .eq off, 3)) (ht : (pc : Int) + off = (tgt : Int)) (kt : x = y → X g cx mt F cs tgt ls (st) n I R) (kf : ¬ x = y → X g cx mt F cs (pc + 3) ls (st) n I R) : X g cx mt F cs pc ls (.int y :: .int x :: st) n I R := fun ok H locs lsA hR hS hL => lv_icmp_eq ok.1 ok.2.1 hd ht (fun h => kt h ok H locs lsA hR hS hL) (fun h => kf h ok H locs lsA hR hS hL)
theorem x_icmp_eqT {x y : Int32} {off : Int} (tgt : Nat) (hd : decode mt.2.1 pc = .ok (.if_icmp .eq off, 3)) (ht : (pc : Int) + off = (tgt : Int)) (h : x = y) (kt : X g cx mt F cs tgt ls (st) n I R) : X g cx mt F cs pc ls (.int y :: .int x :: st) n I R := x_icmp_eq tgt hd ht (fun _ => kt) (fun q => absurd h q)
theorem x_icmp_eqF {x y : Int32} {off : Int} (hd : decode mt.2.1 pc = .ok (.if_icmp .eq off, 3)) (h : ¬ x = y) (kf : X g cx mt F cs (pc + 3) ls (st) n I R) (tgt : Nat := ((pc : Int) + off).toNat) (ht : (pc : Int) + off = (tgt : Int) := by decide) : X g cx mt F cs pc ls (.int y :: .int x :: st) n I R := x_icmp_eq tgt hd ht (fun q => absurd q h) (fun _ => kf)
theorem x_if_lt {x : Int32} {off : Int} (tgt : Nat) (hd : decode mt.2.1 pc = .ok (.ifCond .lt off, 3)) (ht : (pc : Int) + off = (tgt : Int)) (kt : x < 0 → X g cx mt F cs tgt ls (st) n I R) (kf : ¬ x < 0 → X g cx mt F cs (pc + 3) ls (st) n I R) : X g cx mt F cs pc ls (.int x :: st) n I R := fun ok H locs lsA hR hS hL => lv_if_lt ok.1 ok.2.1 hd ht (fun h => kt h ok H locs lsA hR hS hL) (fun h => kf h ok H locs lsA hR hS hL)
theorem x_if_ltT {x : Int32} {off : Int} (tgt : Nat) (hd : decode mt.2.1 pc = .ok (.ifCond .lt off, 3)) (ht : (pc : Int) + off = (tgt : Int)) (h : x < 0) (kt : X g cx mt F cs tgt ls (st) n I R) : X g cx mt F cs pc ls (.int x :: st) n I R := x_if_lt tgt hd ht (fun _ => kt) (fun q => absurd h q)
theorem x_if_ltF {x : Int32} {off : Int} (hd : decode mt.2.1 pc = .ok (.ifCond .lt off, 3)) (h : ¬ x < 0) (kf : X g cx mt F cs (pc + 3) ls (st) n I R) (tgt : Nat := ((pc : Int) + off).toNat) (ht : (pc : Int) + off = (tgt : Int) := by decide) : X g cx mt F cs pc ls (.int x :: st) n I R := x_if_lt tgt hd ht (fun q => absurd q h) (fun _ => kf)
theorem x_icmp_lt {x y : Int32} {off : Int} (tgt : Nat) (hd : decode mt.2.1 pc = .ok (.if_icmp .lt off, 3)) (ht : (pc : Int) + off = (tgt : Int)) (kt : x < y → X g cx mt F cs tgt ls (st) n I R) (kf : ¬ x < y → X g cx mt F cs (pc + 3) ls (st) n I R) : X g cx mt F cs pc ls (.int y :: .int x :: st) n I R := fun ok H locs lsA hR hS hL => lv_icmp_lt ok.1 ok.2.1 hd ht (fun h => kt h ok H locs lsA hR hS hL) (fun h => kf h ok H locs lsA hR hS hL)
theorem x_icmp_ltT {x y : Int32} {off : Int} (tgt : Nat) (hd : decode mt.2.1 pc = .ok (.if_icmp .lt off, 3)) (ht : (pc : Int) + off = (tgt : Int)) (h : x < y) (kt : X g cx mt F cs tgt ls (st) n I R) : X g cx mt F cs pc ls (.int y :: .int x :: st) n I R := x_icmp_lt tgt hd ht (fun _ => kt) (fun q => absurd h q)
theorem x_icmp_ltF {x y : Int32} {off : Int} (hd : decode mt.2.1 pc = .ok (.if_icmp .lt off, 3)) (h : ¬ x < y) (kf : X g cx mt F cs (pc + 3) ls (st) n I R) (tgt : Nat := ((pc : Int) + off).toNat) (ht : (pc : Int) + off = (tgt : Int) := by decide) : X g cx mt F cs pc ls (.int y :: .int x :: st) n I R := x_icmp_lt tgt hd ht (fun q => absurd q h) (fun _ => kf)
theorem x_if_gt {x : Int32} {off : Int} (tgt : Nat) (hd : decode mt.2.1 pc = .ok (.ifCond .gt off, 3)) (ht : (pc : Int) + off = (tgt : Int)) (kt : 0 < x → X g cx mt F cs tgt ls (st) n I R) (kf : ¬ 0 < x → X g cx mt F cs (pc + 3) ls (st) n I R) : X g cx mt F cs pc ls (.int x :: st) n I R := fun ok H locs lsA hR hS hL => lv_if_gt ok.1 ok.2.1 hd ht (fun h => kt h ok H locs lsA hR hS hL) (fun h => kf h ok H locs lsA hR hS hL)
theorem x_if_gtT {x : Int32} {off : Int} (tgt : Nat) (hd : decode mt.2.1 pc = .ok (.ifCond .gt off, 3)) (ht : (pc : Int) + off = (tgt : Int)) (h : 0 < x) (kt : X g cx mt F cs tgt ls (st) n I R) : X g cx mt F cs pc ls (.int x :: st) n I R := x_if_gt tgt hd ht (fun _ => kt) (fun q => absurd h q)
theorem x_if_gtF {x : Int32} {off : Int} (hd : decode mt.2.1 pc = .ok (.ifCond .gt off, 3)) (h : ¬ 0 < x) (kf : X g cx mt F cs (pc + 3) ls (st) n I R) (tgt : Nat := ((pc : Int) + off).toNat) (ht : (pc : Int) + off = (tgt : Int) := by decide) : X g cx mt F cs pc ls (.int x :: st) n I R := x_if_gt tgt hd ht (fun q => absurd q h) (fun _ => kf)
theorem x_icmp_gt {x y : Int32} {off : Int} (tgt : Nat) (hd : decode mt.2.1 pc = .ok (.if_icmp .gt off, 3)) (ht : (pc : Int) + off = (tgt : Int)) (kt : y < x → X g cx mt F cs tgt ls (st) n I R) (kf : ¬ y < x → X g cx mt F cs (pc + 3) ls (st) n I R) : X g cx mt F cs pc ls (.int y :: .int x :: st) n I R := fun ok H locs lsA hR hS hL => lv_icmp_gt ok.1 ok.2.1 hd ht (fun h => kt h ok H locs lsA hR hS hL) (fun h => kf h ok H locs lsA hR hS hL)
theorem x_icmp_gtT {x y : Int32} {off : Int} (tgt : Nat) (hd : decode mt.2.1 pc = .ok (.if_icmp .gt off, 3)) (ht : (pc : Int) + off = (tgt : Int)) (h : y < x) (kt : X g cx mt F cs tgt ls (st) n I R) : X g cx mt F cs pc ls (.int y :: .int x :: st) n I R := x_icmp_gt tgt hd ht (fun _ => kt) (fun q => absurd h q)
theorem x_icmp_gtF {x y : Int32} {off : Int} (hd : decode mt.2.1 pc = .ok (.if_icmp .gt off, 3)) (h : ¬ y < x) (kf : X g cx mt F cs (pc + 3) ls (st) n I R) (tgt : Nat := ((pc : Int) + off).toNat) (ht : (pc : Int) + off = (tgt : Int) := by decide) : X g cx mt F cs pc ls (.int y :: .int x :: st) n I R := x_icmp_gt tgt hd ht (fun q => absurd q h) (fun _ => kf)
theorem x_if_le {x : Int32} {off : Int} (tgt : Nat) (hd : decode mt.2.1 pc = .ok (.ifCond .le off, 3)) (ht : (pc : Int) + off = (tgt : Int)) (kt : x ≤ 0 → X g cx mt F cs tgt ls (st) n I R) (kf : ¬ x ≤ 0 → X g cx mt F cs (pc + 3) ls (st) n I R) : X g cx mt F cs pc ls (.int x :: st) n I R := fun ok H locs lsA hR hS hL => lv_if_le ok.1 ok.2.1 hd ht (fun h => kt h ok H locs lsA hR hS hL) (fun h => kf h ok H locs lsA hR hS hL)
theorem x_if_leT {x : Int32} {off : Int} (tgt : Nat) (hd : decode mt.2.1 pc = .ok (.ifCond .le off, 3)) (ht : (pc : Int) + off = (tgt : Int)) (h : x ≤ 0) (kt : X g cx mt F cs tgt ls (st) n I R) : X g cx mt F cs pc ls (.int x :: st) n I R := x_if_le tgt hd ht (fun _ => kt) (fun q => absurd h q)
theorem x_if_leF {x : Int32} {off : Int} (hd : decode mt.2.1 pc = .ok (.ifCond .le off, 3)) (h : ¬ x ≤ 0) (kf : X g cx mt F cs (pc + 3) ls (st) n I R) (tgt : Nat := ((pc : Int) + off).toNat) (ht : (pc : Int) + off = (tgt : Int) := by decide) : X g cx mt F cs pc ls (.int x :: st) n I R := x_if_le tgt hd ht (fun q => absurd q h) (fun _ => kf)
theorem x_icmp_le {x y : Int32} {off : Int} (tgt : Nat) (hd : decode mt.2.1 pc = .ok (.if_icmp .le off, 3)) (ht : (pc : Int) + off = (tgt : Int)) (kt : x ≤ y → X g cx mt F cs tgt ls (st) n I R) (kf : ¬ x ≤ y → X g cx mt F cs (pc + 3) ls (st) n I R) : X g cx mt F cs pc ls (.int y :: .int x :: st) n I R := fun ok H locs lsA hR hS hL => lv_icmp_le ok.1 ok.2.1 hd ht (fun h => kt h ok H locs lsA hR hS hL) (fun h => kf h ok H locs lsA hR hS hL)
theorem x_icmp_leT {x y : Int32} {off : Int} (tgt : Nat) (hd : decode mt.2.1 pc = .ok (.if_icmp .le off, 3)) (ht : (pc : Int) + off = (tgt : Int)) (h : x ≤ y) (kt : X g cx mt F cs tgt ls (st) n I R) : X g cx mt F cs pc ls (.int y :: .int x :: st) n I R := x_icmp_le tgt hd ht (fun _ => kt) (fun q => absurd h q)
theorem x_icmp_leF {x y : Int32} {off : Int} (hd : decode mt.2.1 pc = .ok (.if_icmp .le off, 3)) (h : ¬ x ≤ y) (kf : X g cx mt F cs (pc + 3) ls (st) n I R) (tgt : Nat := ((pc : Int) + off).toNat) (ht : (pc : Int) + off = (tgt : Int) := by decide) : X g cx mt F cs pc ls (.int y :: .int x :: st) n I R := x_icmp_le tgt hd ht (fun q => absurd q h) (fun _ => kf)
theorem x_if_ge {x : Int32} {off : Int} (tgt : Nat) (hd : decode mt.2.1 pc = .ok (.ifCond .ge off, 3)) (ht : (pc : Int) + off = (tgt : Int)) (kt : 0 ≤ x → X g cx mt F cs tgt ls (st) n I R) (kf : ¬ 0 ≤ x → X g cx mt F cs (pc + 3) ls (st) n I R) : X g cx mt F cs pc ls (.int x :: st) n I R := fun ok H locs lsA hR hS hL => lv_if_ge ok.1 ok.2.1 hd ht (fun h => kt h ok H locs lsA hR hS hL) (fun h => kf h ok H locs lsA hR hS hL)
theorem x_if_geT {x : Int32} {off : Int} (tgt : Nat) (hd : decode mt.2.1 pc = .ok (.ifCond .ge off, 3)) (ht : (pc : Int) + off = (tgt : Int)) (h : 0 ≤ x) (kt : X g cx mt F cs tgt ls (st) n I R) : X g cx mt F cs pc ls (.int x :: st) n I R := x_if_ge tgt hd ht (fun _ => kt) (fun q => absurd h q)
theorem x_if_geF {x : Int32} {off : Int} (hd : decode mt.2.1 pc = .ok (.ifCond .ge off, 3)) (h : ¬ 0 ≤ x) (kf : X g cx mt F cs (pc + 3) ls (st) n I R) (tgt : Nat := ((pc : Int) + off).toNat) (ht : (pc : Int) + off = (tgt : Int) := by decide) : X g cx mt F cs pc ls (.int x :: st) n I R := x_if_ge tgt hd ht (fun q => absurd q h) (fun _ => kf)
theorem x_icmp_ge {x y : Int32} {off : Int} (tgt : Nat) (hd : decode mt.2.1 pc = .ok (.if_icmp .ge off, 3)) (ht : (pc : Int) + off = (tgt : Int)) (kt : y ≤ x → X g cx mt F cs tgt ls (st) n I R) (kf : ¬ y ≤ x → X g cx mt F cs (pc + 3) ls (st) n I R) : X g cx mt F cs pc ls (.int y :: .int x :: st) n I R := fun ok H locs lsA hR hS hL => lv_icmp_ge ok.1 ok.2.1 hd ht (fun h => kt h ok H locs lsA hR hS hL) (fun h => kf h ok H locs lsA hR hS hL)
theorem x_icmp_geT {x y : Int32} {off : Int} (tgt : Nat) (hd : decode mt.2.1 pc = .ok (.if_icmp .ge off, 3)) (ht : (pc : Int) + off = (tgt : Int)) (h : y ≤ x) (kt : X g cx mt F cs tgt ls (st) n I R) : X g cx mt F cs pc ls (.int y :: .int x :: st) n I R := x_icmp_ge tgt hd ht (fun _ => kt) (fun q => absurd h q)
theorem x_icmp_geF {x y : Int32} {off : Int} (hd : decode mt.2.1 pc = .ok (.if_icmp .ge off, 3)) (h : ¬ y ≤ x) (kf : X g cx mt F cs (pc + 3) ls (st) n I R) (tgt : Nat := ((pc : Int) + off).toNat) (ht : (pc : Int) + off = (tgt : Int) := by decide) : X g cx mt F cs pc ls (.int y :: .int x :: st) n I R := x_icmp_ge tgt hd ht (fun q => absurd q h) (fun _ => kf)
theorem x_if_ne {x : Int32} {off : Int} (tgt : Nat) (hd : decode mt.2.1 pc = .ok (.ifCond .ne off, 3)) (ht : (pc : Int) + off = (tgt : Int)) (kt : ¬ x = 0 → X g cx mt F cs tgt ls (st) n I R) (kf : x = 0 → X g cx mt F cs (pc + 3) ls (st) n I R) : X g cx mt F cs pc ls (.int x :: st) n I R := fun ok H locs lsA hR hS hL => lv_if_ne ok.1 ok.2.1 hd ht (fun h => kt h ok H locs lsA hR hS hL) (fun h => kf h ok H locs lsA hR hS hL)
theorem x_if_neT {x : Int32} {off : Int} (tgt : Nat) (hd : decode mt.2.1 pc = .ok (.ifCond .ne off, 3)) (ht : (pc : Int) + off = (tgt : Int)) (h : ¬ x = 0) (kt : X g cx mt F cs tgt ls (st) n I R) : X g cx mt F cs pc ls (.int x :: st) n I R := x_if_ne tgt hd ht (fun _ => kt) (fun q => absurd q h)
theorem x_if_neF {x : Int32} {off : Int} (hd : decode mt.2.1 pc = .ok (.ifCond .ne off, 3)) (h : x = 0) (kf : X g cx mt F cs (pc + 3) ls (st) n I R) (tgt : Nat := ((pc : Int) + off).toNat) (ht : (pc : Int) + off = (tgt : Int) := by decide) : X g cx mt F cs pc ls (.int x :: st) n I R := x_if_ne tgt hd ht (fun q => absurd h q) (fun _ => kf)
theorem x_icmp_ne {x y : Int32} {off : Int} (tgt : Nat) (hd : decode mt.2.1 pc = .ok (.if_icmp .ne off, 3)) (ht : (pc : Int) + off = (tgt : Int)) (kt : ¬ x = y → X g cx mt F cs tgt ls (st) n I R) (kf : x = y → X g cx mt F cs (pc + 3) ls (st) n I R) : X g cx mt F cs pc ls (.int y :: .int x :: st) n I R := fun ok H locs lsA hR hS hL => lv_icmp_ne ok.1 ok.2.1 hd ht (fun h => kt h ok H locs lsA hR hS hL) (fun h => kf h ok H locs lsA hR hS hL)
theorem x_icmp_neT {x y : Int32} {off : Int} (tgt : Nat) (hd : decode mt.2.1 pc = .ok (.if_icmp .ne off, 3)) (ht : (pc : Int) + off = (tgt : Int)) (h : ¬ x = y) (kt : X g cx mt F cs tgt ls (st) n I R) : X g cx mt F cs pc ls (.int y :: .int x :: st) n I R := x_icmp_ne tgt hd ht (fun _ => kt) (fun q => absurd q h)
theorem x_icmp_neF {x y : Int32} {off : Int} (hd : decode mt.2.1 pc = .ok (.if_icmp .ne off, 3)) (h : x = y) (kf : X g cx mt F cs (pc + 3) ls (st) n I R) (tgt : Nat := ((pc : Int) + off).toNat) (ht : (pc : Int) + off = (tgt : Int) := by decide) : X g cx mt F cs pc ls (.int y :: .int x :: st) n I R := x_icmp_ne tgt hd ht (fun q => absurd h q) (fun _ => kf)
theorem x_ifnonnull {j : Nat} {off : Int} (tgt : Nat) (hd : decode mt.2.1 pc = .ok (.ifnonnull off, 3)) (ht : (pc : Int) + off = (tgt : Int)) (k : X g cx mt F cs tgt ls (st) n I R) : X g cx mt F cs pc ls (.ref j :: st) n I R := fun ok H locs lsA hR hS hL => lv_ifnonnull ok.1 ok.2.1 hd ht (k ok H locs lsA hR hS hL)
theorem x_ifnonnullN {off : Int} (hd : decode mt.2.1 pc = .ok (.ifnonnull off, 3)) (k : X g cx mt F cs (pc + 3) ls (st) n I R) : X g cx mt F cs pc ls (.null :: st) n I R := fun ok H locs lsA hR hS hL => lv_ifnonnullN ok.1 ok.2.1 hd (k ok H locs lsA hR hS hL)
theorem x_ifnull {j : Nat} {off : Int} (hd : decode mt.2.1 pc = .ok (.ifnull off, 3)) (k : X g cx mt F cs (pc + 3) ls (st) n I R) : X g cx mt F cs pc ls (.ref j :: st) n I R := fun ok H locs lsA hR hS hL => lv_ifnull ok.1 ok.2.1 hd (k ok H locs lsA hR hS hL)
theorem x_ifnullN {off : Int} (tgt : Nat) (hd : decode mt.2.1 pc = .ok (.ifnull off, 3)) (ht : (pc : Int) + off = (tgt : Int)) (k : X g cx mt F cs tgt ls (st) n I R) : X g cx mt F cs pc ls (.null :: st) n I R := fun ok H locs lsA hR hS hL => lv_ifnullN ok.1 ok.2.1 hd ht (k ok H locs lsA hR hS hL)
theorem x_acmp_eqT {a : Nat} {off : Int} (tgt : Nat) (hd : decode mt.2.1 pc = .ok (.if_acmp .eq off, 3)) (ht : (pc : Int) + off = (tgt : Int)) (k : X g cx mt F cs tgt ls (st) n I R) : X g cx mt F cs pc ls (.ref a :: .ref a :: st) n I R := fun ok H locs lsA hR hS hL => lv_acmp_eq (rx := some (xad g a)) (ry := some (xad g a)) ok.1 ok.2.1 hd ht (fun _ => k ok H locs lsA hR hS hL) (fun q => absurd rfl q)
theorem x_acmp_eqF {a b : Nat} {off : Int} (tgt : Nat) (ht : (pc : Int) + off = (tgt : Int)) (hd : decode mt.2.1 pc = .ok (.if_acmp .eq off, 3)) (ha : a < 1000) (hb : b < 1000) (hne : a ≠ b) (k : X g cx mt F cs (pc + 3) ls (st) n I R) : X g cx mt F cs pc ls (.ref a :: .ref b :: st) n I R := fun ok H locs lsA hR hS hL => lv_acmp_eq (rx := some (xad g b)) (ry := some (xad g a)) ok.1 ok.2.1 hd ht (fun q => absurd (xad_inj g hb ha (Option.some.inj q)).symm hne) (fun _ => k ok H locs lsA hR hS hL)
theorem x_tableIn {dflt lo hi : Int} {offs : Array Int} {len : Nat} {x : Int32} {off : Int} (tgt : Nat) (hd : decode mt.2.1 pc = .ok (.tableswitch dflt lo hi offs, len)) (h1 : ¬ x.toInt < lo) (h2 : ¬ hi < x.toInt) (ho : offs[(x.toInt - lo).toNat]? = some off) (ht : (pc : Int) + off = (tgt : Int)) (k : X g cx mt F cs tgt ls (st) n I R) : X g cx mt F cs pc ls (.int x :: st) n I R := fun ok H locs lsA hR hS hL => lv_tableIn ok.1 ok.2.1 hd h1 h2 ho ht (k ok H locs lsA hR hS hL)
theorem x_tableOut {dflt lo hi : Int} {offs : Array Int} {len : Nat} {x : Int32} (tgt : Nat) (hd : decode mt.2.1 pc = .ok (.tableswitch dflt lo hi offs, len)) (h : x.toInt < lo ∨ hi < x.toInt) (ht : (pc : Int) + dflt = (tgt : Int)) (k : X g cx mt F cs tgt ls (st) n I R) : X g cx mt F cs pc ls (.int x :: st) n I R := fun ok H locs lsA hR hS hL => lv_tableOut ok.1 ok.2.1 hd h ht (k ok H locs lsA hR hS hL)
theorem x_lookup {dflt : Int} {ps : Array (Int × Int)} {len : Nat} {x : Int32} {off : Int} (tgt : Nat) (hd : decode mt.2.1 pc = .ok (.lookupswitch dflt ps, len)) (hp : (ps.toList.zip (ps.toList.drop 1)).all (fun (a, next) => a.1 < next.1) = true) (ho : Op.lookupswitch.offset ps.toList dflt x.toInt = off) (ht : (pc : Int) + off = (tgt : Int)) (k : X g cx mt F cs tgt ls (st) n I R) : X g cx mt F cs pc ls (.int x :: st) n I R := fun ok H locs lsA hR hS hL => lv_lookup ok.1 ok.2.1 hd hp ho ht (k ok H locs lsA hR hS hL)
theorem x_top {x : Int32} (k : ∀ y : Int32, y = x → X g cx mt F cs pc ls (.int y :: st) n I R) : X g cx mt F cs pc ls (.int x :: st) n I R := k x rfl
theorem x_weak (ls2 : List (Option Value)) (hl : ls2.length = ls.length) (hw : ∀ (i : Nat) (v : Value), ls2[i]? = some (some v) → ls[i]? = some (some v)) (k : X g cx mt F cs pc ls2 (st) n I R) : X g cx mt F cs pc ls (st) n I R := fun ok H locs lsA hR hS hL => k ok H locs lsA hR hS (hL.weak hl hw)
end XR
end
section
def xuI (I : MI) (i k : Nat) (x : Int32) : MI := fun a b => if a = i ∧ b = k then x else I a b
def xuR (R : MR) (i k : Nat) (x : Option Nat) : MR := fun a b => if a = i ∧ b = k then x else R a b
def FL (own : String) (idx c k : Nat) : Prop := ∃ (C : String) (T : u_T) (N : Nat), vwCl[c]? = some (C, T, N) ∧ k < N ∧ N = xN c ∧ c < 7 ∧ Cond.fieldLink own idx (T k).1 (T k).2.1 (T k).2.2.1 ∈ XT ∧ ∀ w ∈ u_ws C T N, w ∈ XT
def FP (c k : Nat) (fin : Bool) (ty : FieldType) : Prop := ∃ (C : String) (T : u_T) (N : Nat) (t0 : Nat → FieldType), vwCl[c]? = some (C, T, N) ∧ (∀ k, k < N → parseFieldDescriptor (T k).2.2.1 = some (t0 k)) ∧ (∀ a, a < N → ∀ b, b < N → a ≠ b → (T a).2.1 ≠ (T b).2.1) ∧ (T k).2.2.2 = fin ∧ parseFieldDescriptor (T k).2.2.1 = some ty ∧ (T k).1 = C
theorem xval_I {g : GX} {I : MI} {R : MR} {c i k : Nat} (h : xrf c k = false) : xval g I R c i k = .int (I i k) := by simp [xval, h]
theorem xval_R {g : GX} {I : MI} {R : MR} {c i k : Nat} (h : xrf c k = true) : xval g I R c i k = va_rf ((R i k).map (xad g)) := by simp [xval, h]
theorem xval_uI {g : GX} {I : MI} {R : MR} {c i k : Nat} {x : Int32} (h : xrf c k = false) : xval g (xuI I i k x) R c i = updV (xval g I R c i) k (.int x) := by
  funext j
  by_cases hj : j = k
  · subst hj
    simp [xval, xuI, updV, h]
  · simp [xval, xuI, updV, hj]
theorem xval_uR {g : GX} {I : MI} {R : MR} {c i k : Nat} {x : Option Nat} (h : xrf c k = true) : xval g I (xuR R i k x) c i = updV (xval g I R c i) k (va_rf (x.map (xad g))) := by
  funext j
  by_cases hj : j = k
  · subst hj
    simp [xval, xuR, updV, h]
  · simp [xval, xuR, updV, hj]
theorem xat.kept {g : GX} {I I' : MI} {R R' : MR} {H H' : Heap} {j : Nat} (h : xat g I R H j) (hH : H'[xad g j]? = H[xad g j]?) (hv : xval g I' R' (xkd j) j = xval g I R (xkd j) j) : xat g I' R' H' j := by
  refine ⟨fun hk => ?_, fun hk => ?_⟩
  · rw [hv]; exact (h.1 hk).kept hH
  · rw [hv, hH]; exact h.2 hk
theorem xRep.put {g : GX} {n : Nat} {I I' : MI} {R R' : MR} {H H' : Heap} {i : Nat} (h : xRep g n I R H) (hi : i < n) (hI : ∀ j, j ≠ i → I' j = I j) (hR : ∀ j, j ≠ i → R' j = R j) (hsz : H'.size = H.size) (ho : ∀ q, q ≠ xad g i → H'[q]? = H[q]?) (hat : xat g I' R' H' i) : xRep g n I' R' H' := by
  obtain ⟨h1, h2, h3, h4⟩ := h
  refine ⟨h1, by rw [hsz]; exact h2, fun hn => by rw [hsz]; exact h3 hn, fun j hj => ?_⟩
  by_cases hji : j = i
  · subst hji; exact hat
  · refine (h4 j hj).kept (ho _ fun e => hji (xad_inj g (by omega) (by omega) e)) ?_
    funext k
    simp only [xval, hI j hji, hR j hji]
theorem xuI_ne {I : MI} {i k j : Nat} {x : Int32} (h : j ≠ i) : xuI I i k x j = I j := by funext b; simp [xuI, h]
theorem xuR_ne {R : MR} {i k j : Nat} {x : Option Nat} (h : j ≠ i) : xuR R i k x j = R j := by funext b; simp [xuR, h]
theorem xS_put {g : GX} {H0 H H' : Heap} {locs : List Loc} {i k : Nat} (hi : i < 1000) (hS : va_S (fun q => g.1.1 ≤ q) H0 H locs) (e2 : H'.size = H.size) (e3 : ∀ q, q ≠ xad g i → H'[q]? = H[q]?) : va_S (fun q => g.1.1 ≤ q) H0 H' (locs ++ [⟨xad g i, k⟩]) :=
  hS.put e2 e3 (by show g.1.1 ≤ xad g i; rw [xad_lo g hi]; omega)
section XH
variable {g : GX} {cx : CX} {mt : MT} {F : State → Prop} {cs : Nat × Nat} {pc : Nat} {ls : List (Option Value)} {st : List Value} {n : Nat} {I : MI} {R : MR}
theorem xRep.obj {H : Heap} {i c : Nat} (h : xRep g n I R H) (hi : i < n) (hk : xkd i = c) (hc : c < 7) : t_OB (xad g i) (g.2.1.1 c) (xN c) (g.2.1.2 c) H (xval g I R c i) := by
  subst hk; exact (h.2.2.2 i hi).1 hc
theorem xRep.arr {H : Heap} {i c : Nat} (h : xRep g n I R H) (hi : i < n) (hk : xkd i = c) (hc : ¬ c < 7) : H[xad g i]? = some (arrV (g.2.2 c) (xln i) (xval g I R c i)) := by
  subst hk; exact (h.2.2.2 i hi).2 hc
theorem x_get {idx c k i : Nat} {v : Value} (fl : FL mt.1.cls idx c k) (hd : decode mt.2.1 pc = .ok (.getfield idx, 3)) (hk : xkd i = c) (hi : i < n) (hv : xval g I R c i k = xv g v)
    (kk : X g cx mt F cs (pc + 3) ls (v :: st) n I R) : X g cx mt F cs pc ls (.ref i :: st) n I R := by
  intro ok H locs lsA hR hS hL
  obtain ⟨C, T, N, hc, hkN, hN, hc7, hlink, hin⟩ := fl
  subst hN
  obtain ⟨cell, q1, q2, q3, q4⟩ := hR.obj hi hk hc7
  have hts := ok.2.2.2.2.2.2.1
  obtain ⟨hSl, hfc, kC, hkC, hkind⟩ := ok.2.2.2.2.2.2.2.2.1.1.1 c _ hc
  obtain ⟨cf, kf, fi, f, hf, hsl⟩ := hSl k hkN
  refine W.getf ok.1 ok.2.1 ok.2.2.2.2.1 (hts _ hlink) hf (u_facts hfc hkC (u_lays hts hin hkN) hf).1 q1 (by rw [q3]; exact fun h => by cases h) (v := xv g v) ?_ rfl rfl hd (kk ok H locs lsA hR hS hL)
  rw [hsl, q4 k hkN, hv]
theorem x_getI {idx c k i : Nat} (fl : FL mt.1.cls idx c k) (hd : decode mt.2.1 pc = .ok (.getfield idx, 3)) (hk : xkd i = c) (hi : i < n) (hr : xrf c k = false)
    (kk : X g cx mt F cs (pc + 3) ls (.int (I i k) :: st) n I R) : X g cx mt F cs pc ls (.ref i :: st) n I R := x_get (v := .int (I i k)) fl hd hk hi (xval_I hr) kk
theorem x_getR {idx c k i j : Nat} (fl : FL mt.1.cls idx c k) (hd : decode mt.2.1 pc = .ok (.getfield idx, 3)) (hk : xkd i = c) (hi : i < n) (hr : xrf c k = true) (hj : R i k = some j)
    (kk : X g cx mt F cs (pc + 3) ls (.ref j :: st) n I R) : X g cx mt F cs pc ls (.ref i :: st) n I R := x_get (v := .ref j) fl hd hk hi (by rw [xval_R hr, hj]; rfl) kk
theorem x_put {idx c k i : Nat} {v : Value} {ty : FieldType} {I' : MI} {R' : MR} (fl : FL mt.1.cls idx c k) (fp : FP c k false ty) (hd : decode mt.2.1 pc = .ok (.putfield idx, 3)) (hk : xkd i = c) (hi : i < n)
    (hn : narrow ty (xv g v) = xv g v) (hfit : fits ty (xv g v) = true) (hI : ∀ j, j ≠ i → I' j = I j) (hRR : ∀ j, j ≠ i → R' j = R j) (hu : xval g I' R' c i = updV (xval g I R c i) k (xv g v))
    (kk : X g cx mt F cs (pc + 3) ls st n I' R') : X g cx mt F cs pc ls (v :: .ref i :: st) n I R := by
  intro ok H locs lsA hR hS hL
  obtain ⟨C, T, N, hc, hkN, hN, hc7, hlink, hin⟩ := fl
  obtain ⟨C', T', N', t0, hc', hty, hnm, hfin, hdty, -⟩ := fp
  have he := Option.some.inj (hc.symm.trans hc')
  cases he
  subst hN
  have hob := hR.obj hi hk hc7
  obtain ⟨cell, q1, q2, q3, q4⟩ := hob
  have hts := ok.2.2.2.2.2.2.1
  have hap := va_apart (own := mt.1.cls) hts hin t0 hty hnm ok.2.2.2.2.2.2.2.2.1.1 hc
  obtain ⟨hSl, hfc, kC, hkC, hkind⟩ := ok.2.2.2.2.2.2.2.2.1.1.1 c _ hc
  obtain ⟨cf, kf, fi, f, hf, hsl⟩ := hSl k hkN
  have hlay := hts _ (hin _ (u_in_lay hkN))
  unfold u_lay at hlay
  rw [if_neg (by rw [hfin]; decide)] at hlay
  have hst := (u_facts hfc hkC (u_lays hts hin hkN) hf).1
  have h6 := u_store hfc hkC hkind hlay hf hdty hn hfit
  refine W.putK ok.1 ok.2.1 (f := f) ⟨ok.2.2.2.2.1, hts _ hlink, ⟨_, _, _, hf⟩, hst⟩ (by rw [q2]; exact h6) q1 q3 (by rw [hsl]; exact k2_hasslot (q4 k hkN)) rfl rfl hd fun H' e1 e2 e3 => ?_
  rw [hsl] at e1 ⊢
  have hn0 := hR.1
  refine kk ok H' _ lsA (hR.put hi hI hRR e2 e3 ⟨fun h7 => ?_, fun h7 => absurd (by rw [hk]; exact hc7) h7⟩) (xS_put (by omega) hS e2 e3) hL
  rw [hk, hu]
  exact ⟨_, e1, q2, q3, t_set q4 hap hkN _⟩
theorem x_putI {idx c k i : Nat} {x : Int32} {ty : FieldType} (fl : FL mt.1.cls idx c k) (fp : FP c k false ty) (hd : decode mt.2.1 pc = .ok (.putfield idx, 3)) (hk : xkd i = c) (hi : i < n) (hr : xrf c k = false)
    (hn : narrow ty (.int x) = .int x) (hfit : fits ty (.int x) = true)
    (kk : X g cx mt F cs (pc + 3) ls st n (xuI I i k x) R) : X g cx mt F cs pc ls (.int x :: .ref i :: st) n I R :=
  x_put (v := .int x) fl fp hd hk hi hn hfit (fun _ h => xuI_ne h) (fun _ _ => rfl) (xval_uI hr) kk
theorem x_putR {idx c k i j : Nat} {ty : FieldType} (fl : FL mt.1.cls idx c k) (fp : FP c k false ty) (hd : decode mt.2.1 pc = .ok (.putfield idx, 3)) (hk : xkd i = c) (hi : i < n) (hr : xrf c k = true)
    (hn : ∀ a, narrow ty (.ref a) = .ref a) (hfit : ∀ a, fits ty (.ref a) = true)
    (kk : X g cx mt F cs (pc + 3) ls st n I (xuR R i k (some j))) : X g cx mt F cs pc ls (.ref j :: .ref i :: st) n I R :=
  x_put (v := .ref j) fl fp hd hk hi (hn _) (hfit _) (fun _ _ => rfl) (fun _ h => xuR_ne h) (xval_uR hr) kk
theorem x_putF {idx c k i : Nat} {v : Value} {ty : FieldType} {I' : MI} {R' : MR} (fl : FL mt.1.cls idx c k) (fp : FP c k true ty) (hini : mt.1.name = "<init>") (hcls : vwCl[c]?.map (fun q => q.1) = some mt.1.cls) (hd : decode mt.2.1 pc = .ok (.putfield idx, 3)) (hk : xkd i = c) (hi : i < n)
    (hn : narrow ty (xv g v) = xv g v) (hfit : fits ty (xv g v) = true) (hI : ∀ j, j ≠ i → I' j = I j) (hRR : ∀ j, j ≠ i → R' j = R j) (hu : xval g I' R' c i = updV (xval g I R c i) k (xv g v))
    (kk : X g cx mt F cs (pc + 3) ls st n I' R') : X g cx mt F cs pc ls (v :: .ref i :: st) n I R := by
  intro ok H locs lsA hR hS hL
  obtain ⟨C, T, N, hc, hkN, hN, hc7, hlink, hin⟩ := fl
  obtain ⟨C', T', N', t0, hc', hty, hnm, hfin, hdty, hdecl⟩ := fp
  have he := Option.some.inj (hc.symm.trans hc')
  cases he
  subst hN
  have hob := hR.obj hi hk hc7
  obtain ⟨cell, q1, q2, q3, q4⟩ := hob
  have hts := ok.2.2.2.2.2.2.1
  have hap := va_apart (own := mt.1.cls) hts hin t0 hty hnm ok.2.2.2.2.2.2.2.2.1.1 hc
  obtain ⟨hSl, hfc, kC, hkC, hkind⟩ := ok.2.2.2.2.2.2.2.2.1.1.1 c _ hc
  obtain ⟨cf, kf, fi, f, hf, hsl⟩ := hSl k hkN
  have hlay := hts _ (hin _ (u_in_lay hkN))
  unfold u_lay at hlay
  rw [if_pos hfin] at hlay
  have hst := (u_facts hfc hkC (u_lays hts hin hkN) hf).1
  have hown := ok.2.2.2.2.1
  have hC : C = mt.1.cls := by rw [hc] at hcls; exact Option.some.inj hcls
  have hcf : cx.2.2.2.2.1.cls = cf := by
    obtain ⟨_, _, c', _, _, _, -, -, hf', -, -, -, hown2, -⟩ := Cond.laysFinal_spec hlay
    have e1 : c' = cf := by have := hf.symm.trans hf'; simp at this; exact this.1.symm
    rw [hdecl, hC] at hown2
    rw [← e1]; exact Option.some.inj (hown.symm.trans hown2)
  have h6 := u_fits hfc hkC hkind (Or.inr hlay) hf hdty hn hfit
  refine W.putFinK ok.1 ok.2.1 hown (hts _ hlink) hf hst hcf (ok.2.2.2.2.2.2.2.1.trans hini) (by rw [q2]; exact h6) q1 q3 (by rw [hsl]; exact k2_hasslot (q4 k hkN)) rfl rfl hd fun H' e1 e2 e3 => ?_
  rw [hsl] at e1 ⊢
  have hn0 := hR.1
  refine kk ok H' _ lsA (hR.put hi hI hRR e2 e3 ⟨fun h7 => ?_, fun h7 => absurd (by rw [hk]; exact hc7) h7⟩) (xS_put (by omega) hS e2 e3) hL
  rw [hk, hu]
  exact ⟨_, e1, q2, q3, t_set q4 hap hkN _⟩
theorem xin {x : Int32} {j N : Nat} (h0 : ¬ x < 0) (hj : x.toNatClampNeg = j) (hlt : j < N) : ¬ (x < 0 ∨ N ≤ x.toNatClampNeg) := by
  rw [hj]
  rintro (h | h)
  · exact h0 h
  · omega
theorem x_iald {i j : Nat} {x : Int32} (hd : decode mt.2.1 pc = .ok (.iaload, 1)) (hk : xkd i = 8) (hi : i < n) (h0 : ¬ x < 0) (hj : x.toNatClampNeg = j) (hlt : j < xln i)
    (kk : X g cx mt F cs (pc + 1) ls (.int (I i j) :: st) n I R) : X g cx mt F cs pc ls (.int x :: .ref i :: st) n I R := by
  intro ok H locs lsA hR hS hL
  have hc := hR.arr hi hk (by decide)
  refine W.iald (v := .int (I i j)) ok.1 ok.2.1 hc ((ok.2.2.2.2.2.2.2.2.1.1.2 1 _ rfl).1 _ _) (fun q => by cases q) (by rw [arrV_size]; exact xin h0 hj hlt) ?_ rfl rfl hd (kk ok H locs lsA hR hS hL)
  rw [hj, arrV_read _ _ hlt]; rfl
theorem x_cald {i j : Nat} {x : Int32} (hd : decode mt.2.1 pc = .ok (.caload, 1)) (hk : xkd i = 7) (hi : i < n) (h0 : ¬ x < 0) (hj : x.toNatClampNeg = j) (hlt : j < xln i)
    (kk : X g cx mt F cs (pc + 1) ls (.int (I i j) :: st) n I R) : X g cx mt F cs pc ls (.int x :: .ref i :: st) n I R := by
  intro ok H locs lsA hR hS hL
  have hc := hR.arr hi hk (by decide)
  refine W.cald (v := .int (I i j)) ok.1 ok.2.1 hc ((ok.2.2.2.2.2.2.2.2.1.1.2 0 _ rfl).1 _ _) (fun q => by cases q) (by rw [arrV_size]; exact xin h0 hj hlt) ?_ rfl rfl hd (kk ok H locs lsA hR hS hL)
  rw [hj, arrV_read _ _ hlt]; rfl
theorem x_aald {i j a c : Nat} {x : Int32} (hc : 9 ≤ c ∧ c ≤ 11) (hd : decode mt.2.1 pc = .ok (.aaload, 1)) (hk : xkd i = c) (hi : i < n) (h0 : ¬ x < 0) (hj : x.toNatClampNeg = j) (hlt : j < xln i) (ha : R i j = some a)
    (kk : X g cx mt F cs (pc + 1) ls (.ref a :: st) n I R) : X g cx mt F cs pc ls (.int x :: .ref i :: st) n I R := by
  intro ok H locs lsA hR hS hL
  have hcell := hR.arr hi hk (by omega)
  obtain ⟨ty, hty, hA⟩ : ∃ ty : FieldType, ty.isReference = true ∧ ArrOfT cx.2.2.2.1 (g.2.2 c) ty := by
    rcases (show c = 9 ∨ c = 10 ∨ c = 11 by omega) with rfl | rfl | rfl
    · exact ⟨.object RX1, rfl, (ok.2.2.2.2.2.2.2.2.1.1.2 2 _ rfl).1⟩
    · exact ⟨.object RX3, rfl, (ok.2.2.2.2.2.2.2.2.1.1.2 3 _ rfl).1⟩
    · exact ⟨.object RX4, rfl, (ok.2.2.2.2.2.2.2.2.1.1.2 4 _ rfl).1⟩
  refine W.aald (v := .ref (xad g a)) ok.1 ok.2.1 hcell (hA _ _) hty (fun q => by cases q) (by rw [arrV_size]; exact xin h0 hj hlt) ?_ rfl rfl hd (kk ok H locs lsA hR hS hL)
  have hx : xrf c j = true := by rcases (show c = 9 ∨ c = 10 ∨ c = 11 by omega) with rfl | rfl | rfl <;> rfl
  rw [hj, arrV_read _ _ hlt, xval_R hx, ha]; rfl
theorem x_iast {i j : Nat} {x y : Int32} (hd : decode mt.2.1 pc = .ok (.iastore, 1)) (hk : xkd i = 8) (hi : i < n) (h0 : ¬ x < 0) (hj : x.toNatClampNeg = j) (hlt : j < xln i)
    (kk : X g cx mt F cs (pc + 1) ls st n (xuI I i j y) R) : X g cx mt F cs pc ls (.int y :: .int x :: .ref i :: st) n I R := by
  intro ok H locs lsA hR hS hL
  have hc := hR.arr hi hk (by decide)
  have hn0 := hR.1
  refine W.iast ok.1 ok.2.1 hc ((ok.2.2.2.2.2.2.2.2.1.1.2 1 _ rfl).1 _ _) (fun q => by cases q) (by rw [arrV_size]; exact xin h0 hj hlt) rfl rfl hd fun H1 e z oq => ?_
  refine kk ok H1 _ lsA (hR.put hi (fun _ h => xuI_ne h) (fun _ _ => rfl) z oq ⟨fun h7 => absurd h7 (by rw [hk]; decide), fun h7 => ?_⟩) (xS_put (by omega) hS z oq) hL
  rw [e, hj, arrV_store, hk, xval_uI rfl]
theorem x_cast {i j : Nat} {x y : Int32} (hd : decode mt.2.1 pc = .ok (.castore, 1)) (hk : xkd i = 7) (hi : i < n) (h0 : ¬ x < 0) (hj : x.toNatClampNeg = j) (hlt : j < xln i) (hy : narrow .char (.int y) = .int y)
    (kk : X g cx mt F cs (pc + 1) ls st n (xuI I i j y) R) : X g cx mt F cs pc ls (.int y :: .int x :: .ref i :: st) n I R := by
  intro ok H locs lsA hR hS hL
  have hc := hR.arr hi hk (by decide)
  have hn0 := hR.1
  refine W.cast ok.1 ok.2.1 hc ((ok.2.2.2.2.2.2.2.2.1.1.2 0 _ rfl).1 _ _) (fun q => by cases q) (by rw [arrV_size]; exact xin h0 hj hlt) rfl rfl hd fun H1 e z oq => ?_
  refine kk ok H1 _ lsA (hR.put hi (fun _ h => xuI_ne h) (fun _ _ => rfl) z oq ⟨fun h7 => absurd h7 (by rw [hk]; decide), fun h7 => ?_⟩) (xS_put (by omega) hS z oq) hL
  rw [e, hj, hy, arrV_store, hk, xval_uI rfl]
theorem x_alen {i c : Nat} {v : Int32} (hd : decode mt.2.1 pc = .ok (.arraylength, 1)) (hk : xkd i = c) (hc : 7 ≤ c ∧ c ≤ 11) (hi : i < n) (hv : Int32.ofNat (xln i) = v)
    (kk : X g cx mt F cs (pc + 1) ls (.int v :: st) n I R) : X g cx mt F cs pc ls (.ref i :: st) n I R := by
  intro ok H locs lsA hR hS hL
  have hcell := hR.arr hi hk (by omega)
  obtain ⟨ty, hA⟩ : ∃ ty : FieldType, ArrOfT cx.2.2.2.1 (g.2.2 c) ty := by
    rcases (show c = 7 ∨ c = 8 ∨ c = 9 ∨ c = 10 ∨ c = 11 by omega) with rfl | rfl | rfl | rfl | rfl
    · exact ⟨.char, (ok.2.2.2.2.2.2.2.2.1.1.2 0 _ rfl).1⟩
    · exact ⟨.int, (ok.2.2.2.2.2.2.2.2.1.1.2 1 _ rfl).1⟩
    · exact ⟨.object RX1, (ok.2.2.2.2.2.2.2.2.1.1.2 2 _ rfl).1⟩
    · exact ⟨.object RX3, (ok.2.2.2.2.2.2.2.2.1.1.2 3 _ rfl).1⟩
    · exact ⟨.object RX4, (ok.2.2.2.2.2.2.2.2.1.1.2 4 _ rfl).1⟩
  exact W.alen (n := v) ok.1 ok.2.1 hcell (hA _ _) (by rw [arrV_size]; exact hv) rfl rfl hd (kk ok H locs lsA hR hS hL)
end XH
end
section
theorem xNW_warm {w : Cond} (hw : w ∈ xNW) {s U : State} (hW : s.WarmedH U.vm) (h : va_Nw w s) : va_Nw w U := by
  have h1 := (List.mem_filter.mp hw).2
  revert h
  split at h1
  · exact fun h => va_Nw.warmM hW h
  · exact fun h => va_Nw.warmF hW h
  · cases h1
theorem xNW_same {w : Cond} (hw : w ∈ xNW) {u U : State} (hv : u.vm = U.vm) (h : va_Nw w u) : va_Nw w U := by
  have h1 := (List.mem_filter.mp hw).2
  revert h
  split at h1
  · exact fun h => va_Nw.same rfl hv h
  · exact fun h => va_Nw.same rfl hv h
  · cases h1
theorem xKV.warm {g : GX} {s U : State} (hW : s.WarmedH U.vm) (h : xKV g s) : xKV g U :=
  ⟨va_K.moved hW.alike h.1, fun w hw => xNW_warm hw hW (h.2.1 w hw), ⟨va_AO.moved hW.alike h.2.2.1.1, va_AO.moved hW.alike h.2.2.1.2.1, va_AO.moved hW.alike h.2.2.1.2.2⟩,
   vk_R.warm hW h.2.2.2.1, vk_R.warm hW h.2.2.2.2.1, vk_R.warm hW h.2.2.2.2.2.1, vk_R.warm hW h.2.2.2.2.2.2.1, vk_R.warm hW h.2.2.2.2.2.2.2⟩
theorem x_alike {u U : State} (hv : u.vm = U.vm) : u.vm.Alike U.vm := by rw [← hv]; exact Vm.Alike.refl u.vm
theorem xKV.same {g : GX} {u U : State} (hv : u.vm = U.vm) (h : xKV g u) : xKV g U :=
  ⟨va_K.moved (x_alike hv) h.1, fun w hw => xNW_same hw hv (h.2.1 w hw), ⟨va_AO.moved (x_alike hv) h.2.2.1.1, va_AO.moved (x_alike hv) h.2.2.1.2.1, va_AO.moved (x_alike hv) h.2.2.1.2.2⟩,
   vk_R.same hv.symm h.2.2.2.1, vk_R.same hv.symm h.2.2.2.2.1, vk_R.same hv.symm h.2.2.2.2.2.1, vk_R.same hv.symm h.2.2.2.2.2.2.1, vk_R.same hv.symm h.2.2.2.2.2.2.2⟩
theorem xKH.moved {g : GX} {u U : State} {H : Heap} (hvm : u.vm.Alike U.vm) (h : xKH g u H) : xKH g U H := ⟨h.1.moved hvm, h.2.1.moved hvm, h.2.2.1.moved hvm, h.2.2.2.moved hvm⟩
theorem xKH.kept {g : GX} {U : State} {H H1 : Heap} (h : xKH g U H) (hq : ∀ a : Nat, a < H.size → ¬ g.1.1 ≤ a → H1[a]? = H[a]?) : xKH g U H1 := ⟨h.1.kept hq, h.2.1.kept hq, h.2.2.1.kept hq, h.2.2.2.kept hq⟩
theorem xPc.blind (g : GX) (av : List Value) (n : Nat) (I : MI) (R : MR) : FrameBlind (xPc g av n I R) := fun a U f mk q => ⟨q.1, q.2.1, xKV.same (u := U) (U := U.calling f mk a) rfl q.2.2.1, q.2.2.2.1, xKH.moved (u := U) (U := U.calling f mk a) (x_alike rfl) q.2.2.2.2⟩
theorem x_good : GoodIn XT XT := fun w hw => ⟨hw, good_of_word (List.mem_filter.mp hw).2⟩
theorem x_goodC {c : Cond} (hc : c ∈ XT) : GoodIn XT (c :: XT) := fun w hw => by
  rcases List.mem_cons.mp hw with rfl | h
  · exact x_good _ hc
  · exact x_good _ h
theorem lv_args_mem : ∀ (vs : List Value) (k i : Nat) (v : Value), (∀ w ∈ vs, w.category = 1) → vs[i]? = some v → (k + i, v) ∈ lv_args k vs := by
  intro vs
  induction vs with
  | nil => intro k i v _ h; simp at h
  | cons w vs ih =>
    intro k i v hc h
    have hw : w.category = 1 := hc w List.mem_cons_self
    cases i with
    | zero =>
      simp at h
      subst h
      exact List.mem_cons_self
    | succ i =>
      have h' : vs[i]? = some v := by simpa using h
      have := ih (k + 1) i v (fun z hz => hc z (List.mem_cons_of_mem _ hz)) h'
      rw [show k + (i + 1) = k + 1 + i by omega]
      show _ ∈ (k, w) :: lv_args (if w.category = 2 then k + 2 else k + 1) vs
      rw [if_neg (by omega)]
      exact List.mem_cons_of_mem _ this
theorem lg_sl1 : ∀ (vs : List Value), (∀ w ∈ vs, w.category = 1) → (lg_sl vs).length = vs.length := by
  intro vs
  induction vs with
  | nil => intro _; rfl
  | cons w vs ih =>
    intro hc
    have hw : w.category = 1 := hc w List.mem_cons_self
    have h := ih (fun z hz => hc z (List.mem_cons_of_mem _ hz))
    unfold lg_sl at h ⊢
    rw [List.flatMap_cons, List.length_append, h, if_neg (by omega)]
    simp
    omega
/-- the locals at a method's entry -/
def xEn (av : List Value) (nL : Nat) : List (Option Value) := av.map some ++ List.replicate (nL - av.length) none
theorem XL.entry (g : GX) {av : List Value} {nL : Nat} (hc : ∀ v ∈ av, v.category = 1) (hl : av.length ≤ nL) : XL g nL (xEn av nL) ((lg_sl (av.map (xv g)) ++ List.replicate (nL - (lg_sl (av.map (xv g))).length) Slot.unset).toArray) := by
  have hc' : ∀ w ∈ av.map (xv g), w.category = 1 := fun w hw => by
    obtain ⟨v, hv, rfl⟩ := List.mem_map.mp hw
    rw [xv_cat]; exact hc v hv
  have h1 := lg_sl1 _ hc'
  have h2 := lv_entry (av.map (xv g)) (n := nL) (by rw [h1, List.length_map]; exact hl)
  refine ⟨⟨h2.1, h2.2.1, fun q hq => ?_⟩, by simp [xEn]; omega, fun v hv => ?_⟩
  · obtain ⟨v, h3, h4⟩ := xp_of hq
    have h5 : av[q.1]? = some v := by
      unfold xEn at h3
      by_cases hlt : q.1 < av.length
      · rw [List.getElem?_append_left (by simpa using hlt)] at h3
        simpa using h3
      · rw [List.getElem?_append_right (by simpa using Nat.not_lt.mp hlt)] at h3
        have := List.mem_of_getElem? h3
        simp [List.mem_replicate] at this
    have h6 := lv_args_mem (av.map (xv g)) 0 q.1 (xv g v) hc' (by rw [List.getElem?_map, h5]; rfl)
    rw [Nat.zero_add] at h6
    have h7 := h2.2.2 _ h6
    rw [h4]; exact h7
  · unfold xEn at hv
    rcases List.mem_append.mp hv with h | h
    · obtain ⟨w, hw, e⟩ := List.mem_map.mp h
      cases e; exact hc _ hw
    · simp [List.mem_replicate] at h
theorem Sp.mk {mt : MT} {av : List Value} {n : Nat} {I : MI} {R : MR} {Q : XQ} (hp : plainName mt.1.cls = true) (hc : ∀ v ∈ av, v.category = 1) (hl : av.length ≤ mt.2.2.1)
    (h : ∀ (g : GX) (cx : CX), X g cx mt (xF g cx mt Q) (0, 0) 0 (xEn av mt.2.2.1) [] n I R) : Sp mt av n I R Q := by
  intro g l
  refine Met.ofW (cc := mt.2.1) (maxL := mt.2.2.1) (ret := mt.2.2.2.1) hp rfl ?_
  intro p e s m args below meth c s₁ B hml hv
  obtain ⟨rfl, hR, hKV, hb, hKH⟩ := hv
  have hts := atoms_spec (ws := Cond.code mt.1 mt.2.1 mt.2.2.1 mt.2.2.2.1 :: XT) B.pre
  rw [lg_entry_eq]
  exact h g (p, l, e, s, m, _, below, meth, c) ⟨B.exec, B.bytes, B.returns, hml, findClass_of_methodNamed B.named, B.notSynchronized, fun w hw => hts w (List.mem_cons_of_mem _ hw), (name_of_methodNamed B.named B.method).1, hKV, hb, hKH⟩ s.heap [] _ hR va_S.rf (XL.entry g hc hl)
/-- a weaker end -/
theorem Sp.imp {mt : MT} {av : List Value} {n : Nat} {I : MI} {R : MR} {Q Q' : XQ} (h : Sp mt av n I R Q) (hq : ∀ r n' I' R', Q r n' I' R' → Q' r n' I' R') : Sp mt av n I R Q' := by
  intro g l p e ha hc hk s m args below hf happ hpre hkk
  obtain ⟨k, o, h1, h2, h3, h4⟩ := h g l p e ha hc hk s m args below hf happ hpre hkk
  obtain ⟨⟨r, n', I', R', q1, q2, q3⟩, h5⟩ := h4
  exact ⟨k, o, h1, h2, h3, ⟨r, n', I', R', q1, hq _ _ _ _ q2, q3⟩, h5⟩
section XE
variable {g : GX} {cx : CX} {mt : MT} {F : State → Prop} {cs : Nat × Nat} {pc : Nat} {ls : List (Option Value)} {st : List Value} {n : Nat} {I : MI} {R : MR} {Q : XQ}
theorem xQc_of {cx : CX} {t : State} {H : Heap} {locs : List Loc} {r : Option Value} (ok : xOk g cx mt) (hR : xRep g n I R H) (hS : va_S (fun q => g.1.1 ≤ q) cx.2.2.2.1.heap H locs) (ht : t.heap = H) (hq : Q r n I R) : xQc g Q cx.2.2.2.2.2.1 cx.2.2.2.1 (.returned (r.map (xv g))) t := by
  subst ht
  exact ⟨r, n, I, R, rfl, hq, hR, hS.1, fun q h => hS.2.1 q (Nat.lt_of_lt_of_le h ok.2.2.2.2.2.2.2.2.2.1) (by omega)⟩
theorem x_iret {v : Int32} (hd : decode mt.2.1 pc = .ok (.ireturn, 1)) (hr : mt.2.2.2.1 = some .int) (hc : cs.1 ≤ mt.2.2.2.2.1.cells) (hs : cs.2 ≤ mt.2.2.2.2.1.slots) (hq : Q (some (.int v)) n I R) : X g cx mt (xF g cx mt Q) cs pc ls [.int v] n I R := by
  intro ok H locs lsA hR hS hL
  exact W.widen hc hs (W.iret (Qc := xQc g Q) ok.1 ok.2.1 (ok.2.2.1.trans hr) (fun t ht _ => xQc_of (r := some (.int v)) ok hR hS ht hq) hS.2.2 hd ok.2.2.2.2.2.1)
theorem x_zret {v : Int32} {ty : FieldType} (hd : decode mt.2.1 pc = .ok (.ireturn, 1)) (hr : mt.2.2.2.1 = some ty) (hn : narrow ty (.int v) = .int v) (hc : cs.1 ≤ mt.2.2.2.2.1.cells) (hs : cs.2 ≤ mt.2.2.2.2.1.slots) (hq : Q (some (.int v)) n I R) : X g cx mt (xF g cx mt Q) cs pc ls [.int v] n I R := by
  intro ok H locs lsA hR hS hL
  exact W.widen hc hs (W.zret (Qc := xQc g Q) ok.1 ok.2.1 (ok.2.2.1.trans hr) hn (fun t ht _ => xQc_of (r := some (.int v)) ok hR hS ht hq) hS.2.2 hd ok.2.2.2.2.2.1)
theorem x_vret (hd : decode mt.2.1 pc = .ok (.return_, 1)) (hr : mt.2.2.2.1 = none) (hc : cs.1 ≤ mt.2.2.2.2.1.cells) (hs : cs.2 ≤ mt.2.2.2.2.1.slots) (hq : Q none n I R) : X g cx mt (xF g cx mt Q) cs pc ls [] n I R := by
  intro ok H locs lsA hR hS hL
  exact W.widen hc hs (W.vret (Qc := xQc g Q) ok.1 ok.2.1 (ok.2.2.1.trans hr) (fun t ht _ => xQc_of (r := none) ok hR hS ht hq) hS.2.2 hd ok.2.2.2.2.2.1)
theorem x_aret {v : Value} {rt : FieldType} (hd : decode mt.2.1 pc = .ok (.areturn, 1)) (hr : mt.2.2.2.1 = some rt) (hrt : (∃ n, rt = .object n) ∨ ∃ t, rt = .array t) (hv : v = .null ∨ ∃ a, v = .ref a) (hc : cs.1 ≤ mt.2.2.2.2.1.cells) (hs : cs.2 ≤ mt.2.2.2.2.1.slots) (hq : Q (some v) n I R) : X g cx mt (xF g cx mt Q) cs pc ls [v] n I R := by
  intro ok H locs lsA hR hS hL
  have hv' : xv g v = .null ∨ ∃ a, xv g v = .ref a := by
    rcases hv with rfl | ⟨a, rfl⟩
    · exact Or.inl rfl
    · exact Or.inr ⟨_, rfl⟩
  exact W.widen hc hs (W.aret (Qc := xQc g Q) ok.1 ok.2.1 (ok.2.2.1.trans hr) hrt hv' (fun t ht _ => xQc_of (r := some v) ok hR hS ht hq) hS.2.2 hd ok.2.2.2.2.2.1)
/-- behind a call -/
theorem x_behind {mt' : MT} {cs' : Nat × Nat} {st0 : List Value} {Q' : XQ} {a : Array Value} (ok : xOk g cx mt) {H : Heap} {locs : List Loc} {lsA : Array Slot} (hS : va_S (fun q => g.1.1 ≤ q) cx.2.2.2.1.heap H locs) (hL : XL g mt.2.2.1 ls lsA)
    (hcs : (cs.1 + mt'.2.2.2.2.1.cells, cs.2 + mt'.2.2.2.2.1.slots) = cs')
    (hr : va_Run cx.1 cx.2.1 cx.2.2.1 mt.2.2.2.2.1 cx.2.2.2.1 cx.2.2.2.2.1 cx.2.2.2.2.2.1 cx.2.2.2.2.2.2.1 cx.2.2.2.2.2.2.2.1 cx.2.2.2.2.2.2.2.2 H locs cs.1 cs.2 mt'.2.2.2.2.1.cells mt'.2.2.2.2.1.slots (F0 cx.2.2.2.2.1 pc lsA (st0.map (xv g))) (st.map (xv g)) (xQc g Q' a) (fun q => g.1.1 ≤ q))
    (k : ∀ (r : Option Value) (n' : Nat) (I' : MI) (R' : MR), Q' r n' I' R' → X g cx mt F cs' (pc + 3) ls (r.toList ++ st) n' I' R') :
    W cx.1 cx.2.1 cx.2.2.1 mt.2.2.2.2.1 cx.2.2.2.1 cx.2.2.2.2.1 cx.2.2.2.2.2.1 cx.2.2.2.2.2.2.1 cx.2.2.2.2.2.2.2.1 cx.2.2.2.2.2.2.2.2 H locs cs.1 cs.2 F (F0 cx.2.2.2.2.1 pc lsA (st0.map (xv g))) := by
  intro T hT X0
  subst hcs
  obtain ⟨v, st₀, t, T', L, h0, X', hL', e1, e2, ⟨r, n', I', R', hv, hQ, hR', hz, hk⟩, stp⟩ := hr T hT X0
  cases hv
  rw [h0] at hz hk
  have hb := ok.2.2.2.2.2.2.2.2.2.1
  have hstk : (r.map (xv g)).toList ++ st.map (xv g) = (r.toList ++ st).map (xv g) := by cases r <;> rfl
  obtain ⟨t2, a1, b1⟩ := k r n' I' R' hQ ok T'.heap (locs ++ L) lsA (by rw [e1]; exact hR') ⟨Nat.le_trans hS.1 (by rw [e1]; exact hz), fun q h1 h2 => by
      rw [e1, hk q (Nat.not_le.mp h2)]; exact hS.2.1 q h1 h2, fun q hq => by
      rcases List.mem_append.mp hq with h | h
      · exact hS.2.2 q h
      · exact hL' q h⟩ hL T' rfl X'
  refine ⟨t2, stp t2 ?_, b1⟩
  show Steps _ _ _ (T'.setTop (F0 _ _ _ ((r.map (xv g)).toList ++ st.map (xv g)))) t2
  rw [hstk]
  exact a1
def xM (mt : MT) : Prop := Cond.code mt.1 mt.2.1 mt.2.2.1 mt.2.2.2.1 ∈ XT ∧ Cond.initialized mt.1.cls ∈ XT ∧ (mt.1.cls ≠ "java/lang/invoke/MethodHandle" ∧ mt.1.cls ≠ "java/lang/invoke/VarHandle" ∧ (parseMethodDescriptor mt.1.desc).map (fun d => d.parameters.length) = some mt.2.2.2.2.2)
def xMV (mt : MT) (c : Nat) : Prop := xM mt ∧ Cond.instanceMethod mt.1 ∈ XT ∧ Cond.selects mt.1.cls mt.1 mt.1 ∈ XT ∧ c < 7 ∧ vwCl[c]?.map (fun q => q.1) = some mt.1.cls
def xMS (mt : MT) : Prop := xM mt ∧ Cond.static mt.1 ∈ XT
def xMI (mt : MT) : Prop := xM mt ∧ Cond.instanceMethod mt.1 ∈ XT ∧ mt.1.name = "<init>" ∧ mt.2.2.2.1 = none
abbrev xRoom (mt mt' : MT) : Prop := mt'.2.2.2.2.1.frames + 1 ≤ mt.2.2.2.2.1.frames ∧ 8 + (mt'.2.2.1 + 11) + mt'.2.2.2.2.1.locals ≤ mt.2.2.2.2.1.locals
theorem xPS {cx : CX} (ok : xOk g cx mt) {H : Heap} {locs : List Loc} {av : List Value} (hR : xRep g n I R H) (hS : va_S (fun q => g.1.1 ≤ q) cx.2.2.2.1.heap H locs) : ∀ U : State, U.heap = H → cx.2.2.2.1.WarmedH U.vm → xPc g av n I R (av.map (xv g)).toArray U := by
  intro U hU hW
  subst hU
  refine ⟨rfl, hR, xKV.warm hW ok.2.2.2.2.2.2.2.2.1, by have := hR.2.1; omega, xKH.moved hW.alike (ok.2.2.2.2.2.2.2.2.2.2.kept (fun a h1 h2 => hS.2.1 a h1 h2))⟩
theorem x_cats {st : List Value} (h : (st.map fun v => v.category).sum ≤ 8) : ((st.map (xv g)).map fun v => v.category).sum ≤ 8 := by
  rw [List.map_map]
  have : (st.map ((fun v : Value => v.category) ∘ xv g)) = st.map fun v => v.category := List.map_congr_left fun v _ => xv_cat g v
  rw [this]; exact h
theorem x_recv {cx : CX} (ok : xOk g cx mt) {H : Heap} {b c : Nat} {C : String} (hR : xRep g n I R H) (hk : xkd b = c) (hb : b < n) (hc : c < 7) (hC : vwCl[c]?.map (fun q => q.1) = some C) : ∃ cellB : Cell, H[xad g b]? = some cellB ∧ cellB.vm.isStatics = false ∧ cx.2.2.2.1.vm.findClass C = some cellB.cls := by
  obtain ⟨cell, q1, q2, q3, -⟩ := hR.obj hb hk hc
  cases hq : vwCl[c]? with
  | none => rw [hq] at hC; cases hC
  | some q =>
    rw [hq] at hC
    have hK := (ok.2.2.2.2.2.2.2.2.1.1.1 c q hq).2.1
    refine ⟨cell, q1, by rw [q3]; rfl, ?_⟩
    rw [q2, ← Option.some.inj hC]
    exact hK
theorem x_callS {mt' : MT} {idx : Nat} {av : List Value} {Q' : XQ} {st0 : List Value} (hsp : Sp mt' av n I R Q') (hm : xMS mt') (hl : Cond.methodLink mt.1.cls idx mt'.1 ∈ XT) (hroom : xRoom mt mt') (hd : decode mt.2.1 pc = .ok (.invokestatic idx, 3)) (hst : st0 = av.reverse ++ st) (hn : av.length = mt'.2.2.2.2.2) (hcat : (st.map fun v => v.category).sum ≤ 8)
    (k : ∀ (r : Option Value) (n' : Nat) (I' : MI) (R' : MR), Q' r n' I' R' → X g cx mt F (cs.1 + mt'.2.2.2.2.1.cells, cs.2 + mt'.2.2.2.2.1.slots) (pc + 3) ls (r.toList ++ st) n' I' R') (hcells : cs.1 + mt'.2.2.2.2.1.cells ≤ mt.2.2.2.2.1.cells ∧ cs.2 + mt'.2.2.2.2.1.slots ≤ mt.2.2.2.2.1.slots := by decide) : X g cx mt F cs pc ls st0 n I R := by
  intro ok H locs lsA hR hS hL
  have hts := ok.2.2.2.2.2.2.1
  refine x_behind (mt' := mt') ok hS hL rfl (va_runS (Ts := XT) (nL := mt.2.2.1) (n := mt'.2.2.2.2.2) (bytes := mt'.2.1) (maxL := mt'.2.2.1) (ret := mt'.2.2.2.1) (As := av.map (xv g)) (rest := st.map (xv g)) ⟨ok.1, ok.2.1, ok.2.2.2.1, ok.2.2.2.2.1, hts⟩ (hsp g cx.2.1) ⟨callB_of _ hts (x_goodC hm.1.1) rfl rfl rfl (hts _ hm.1.2.1) (hts _ hl) hm.1.2.2 hroom, hts _ hm.2⟩ ⟨xPc.blind g av n I R, xPS ok hR hS⟩ rfl (by rw [List.length_map]; exact hn) hL.1.1 ?_ (lv_room (x_cats hcat)) hd hcells) k
  show st0.map (xv g) = _
  rw [hst, List.map_append, List.map_reverse]
theorem x_callSN {mt' : MT} {idx : Nat} {host : String} {av : List Value} {Q' : XQ} {st0 : List Value} (hsp : Sp mt' av n I R Q') (hm : xMS mt') (hl : Cond.methodLinkNest mt.1.cls idx mt'.1 host ∈ xNW) (hroom : xRoom mt mt') (hd : decode mt.2.1 pc = .ok (.invokestatic idx, 3)) (hst : st0 = av.reverse ++ st) (hn : av.length = mt'.2.2.2.2.2) (hcat : (st.map fun v => v.category).sum ≤ 8)
    (k : ∀ (r : Option Value) (n' : Nat) (I' : MI) (R' : MR), Q' r n' I' R' → X g cx mt F (cs.1 + mt'.2.2.2.2.1.cells, cs.2 + mt'.2.2.2.2.1.slots) (pc + 3) ls (r.toList ++ st) n' I' R') (hcells : cs.1 + mt'.2.2.2.2.1.cells ≤ mt.2.2.2.2.1.cells ∧ cs.2 + mt'.2.2.2.2.1.slots ≤ mt.2.2.2.2.1.slots := by decide) : X g cx mt F cs pc ls st0 n I R := by
  intro ok H locs lsA hR hS hL
  have hts := ok.2.2.2.2.2.2.1
  refine x_behind (mt' := mt') ok hS hL rfl (va_runSN (Ts := XT) (nL := mt.2.2.1) (n := mt'.2.2.2.2.2) (bytes := mt'.2.1) (maxL := mt'.2.2.1) (ret := mt'.2.2.2.1) (As := av.map (xv g)) (rest := st.map (xv g)) ⟨ok.1, ok.2.1, ok.2.2.2.1, ok.2.2.2.2.1, hts⟩ (hsp g cx.2.1) ⟨va_cnB _ hts (x_goodC hm.1.1) rfl rfl rfl (ok.2.2.2.2.2.2.2.2.1.2.1 _ hl) (hts _ hm.1.2.1) hm.1.2.2 hroom, hts _ hm.2, trivial⟩ ⟨xPc.blind g av n I R, xPS ok hR hS⟩ rfl (by rw [List.length_map]; exact hn) hL.1.1 ?_ (lv_room (x_cats hcat)) hd hcells) k
  show st0.map (xv g) = _
  rw [hst, List.map_append, List.map_reverse]
theorem x_callV {mt' : MT} {idx b c : Nat} {av : List Value} {Q' : XQ} {st0 : List Value} (hsp : Sp mt' (.ref b :: av) n I R Q') (hm : xMV mt' c) (hl : Cond.methodLink mt.1.cls idx mt'.1 ∈ XT) (hroom : xRoom mt mt') (hd : decode mt.2.1 pc = .ok (.invokevirtual idx, 3)) (hk : xkd b = c) (hb : b < n) (hst : st0 = av.reverse ++ .ref b :: st) (hn : av.length = mt'.2.2.2.2.2) (hcat : (st.map fun v => v.category).sum ≤ 8)
    (k : ∀ (r : Option Value) (n' : Nat) (I' : MI) (R' : MR), Q' r n' I' R' → X g cx mt F (cs.1 + mt'.2.2.2.2.1.cells, cs.2 + mt'.2.2.2.2.1.slots) (pc + 3) ls (r.toList ++ st) n' I' R') (hcells : cs.1 + mt'.2.2.2.2.1.cells ≤ mt.2.2.2.2.1.cells ∧ cs.2 + mt'.2.2.2.2.1.slots ≤ mt.2.2.2.2.1.slots := by decide) : X g cx mt F cs pc ls st0 n I R := by
  intro ok H locs lsA hR hS hL
  have hts := ok.2.2.2.2.2.2.1
  refine x_behind (mt' := mt') ok hS hL rfl (va_runV (Ts := XT) (C := mt'.1.cls) (b := xad g b) (nL := mt.2.2.1) (n := mt'.2.2.2.2.2) (bytes := mt'.2.1) (maxL := mt'.2.2.1) (ret := mt'.2.2.2.1) (As := av.map (xv g)) (rest := st.map (xv g)) ⟨ok.1, ok.2.1, ok.2.2.2.1, ok.2.2.2.2.1, hts⟩ (hsp g cx.2.1) ⟨callB_of _ hts (x_goodC hm.1.1) rfl rfl rfl (hts _ hm.1.2.1) (hts _ hl) hm.1.2.2 hroom, hts _ hm.2.1, hts _ hm.2.2.1⟩ ⟨xPc.blind g (.ref b :: av) n I R, x_recv ok hR hk hb hm.2.2.2.1 hm.2.2.2.2, xPS (av := .ref b :: av) ok hR hS⟩ rfl (by rw [List.length_map]; exact hn) hL.1.1 ?_ (lv_room (x_cats hcat)) hd hcells) k
  show st0.map (xv g) = _
  rw [hst, List.map_append, List.map_reverse]; rfl
theorem x_callI {mt' : MT} {idx b : Nat} {av : List Value} {Q' : XQ} {st0 : List Value} (hsp : Sp mt' (.ref b :: av) n I R Q') (hm : xMI mt') (hl : Cond.methodLink mt.1.cls idx mt'.1 ∈ XT) (hroom : xRoom mt mt') (hd : decode mt.2.1 pc = .ok (.invokespecial idx, 3)) (hst : st0 = av.reverse ++ .ref b :: st) (hn : av.length = mt'.2.2.2.2.2) (hcat : (st.map fun v => v.category).sum ≤ 8)
    (k : ∀ (r : Option Value) (n' : Nat) (I' : MI) (R' : MR), Q' r n' I' R' → X g cx mt F (cs.1 + mt'.2.2.2.2.1.cells, cs.2 + mt'.2.2.2.2.1.slots) (pc + 3) ls (r.toList ++ st) n' I' R') (hcells : cs.1 + mt'.2.2.2.2.1.cells ≤ mt.2.2.2.2.1.cells ∧ cs.2 + mt'.2.2.2.2.1.slots ≤ mt.2.2.2.2.1.slots := by decide) : X g cx mt F cs pc ls st0 n I R := by
  intro ok H locs lsA hR hS hL
  have hts := ok.2.2.2.2.2.2.1
  have hret := hm.2.2.2
  refine x_behind (mt' := mt') ok hS hL rfl (va_runI (Ts := XT) (b := xad g b) (nL := mt.2.2.1) (n := mt'.2.2.2.2.2) (bytes := mt'.2.1) (maxL := mt'.2.2.1) (As := av.map (xv g)) (rest := st.map (xv g)) ⟨ok.1, ok.2.1, ok.2.2.2.1, ok.2.2.2.2.1, hts⟩ (hsp g cx.2.1) ⟨callB_of (ret := none) _ hts (x_goodC hm.1.1) (by rw [hret]) rfl rfl (hts _ hm.1.2.1) (hts _ hl) hm.1.2.2 hroom, hm.2.2.1, hts _ hm.2.1⟩ ⟨xPc.blind g (.ref b :: av) n I R, xPS (av := .ref b :: av) ok hR hS⟩ rfl (by rw [List.length_map]; exact hn) hL.1.1 ?_ (lv_room (x_cats hcat)) hd hcells) k
  show st0.map (xv g) = _
  rw [hst, List.map_append, List.map_reverse]; rfl
theorem x_callIN {mt' : MT} {idx b : Nat} {host : String} {av : List Value} {Q' : XQ} {st0 : List Value} (hsp : Sp mt' (.ref b :: av) n I R Q') (hm : xMI mt') (hl : Cond.methodLinkNest mt.1.cls idx mt'.1 host ∈ xNW) (hroom : xRoom mt mt') (hd : decode mt.2.1 pc = .ok (.invokespecial idx, 3)) (hst : st0 = av.reverse ++ .ref b :: st) (hn : av.length = mt'.2.2.2.2.2) (hcat : (st.map fun v => v.category).sum ≤ 8)
    (k : ∀ (r : Option Value) (n' : Nat) (I' : MI) (R' : MR), Q' r n' I' R' → X g cx mt F (cs.1 + mt'.2.2.2.2.1.cells, cs.2 + mt'.2.2.2.2.1.slots) (pc + 3) ls (r.toList ++ st) n' I' R') (hcells : cs.1 + mt'.2.2.2.2.1.cells ≤ mt.2.2.2.2.1.cells ∧ cs.2 + mt'.2.2.2.2.1.slots ≤ mt.2.2.2.2.1.slots := by decide) : X g cx mt F cs pc ls st0 n I R := by
  intro ok H locs lsA hR hS hL
  have hts := ok.2.2.2.2.2.2.1
  have hret := hm.2.2.2
  refine x_behind (mt' := mt') ok hS hL rfl (va_runIN (Ts := XT) (host := host) (b := xad g b) (nL := mt.2.2.1) (n := mt'.2.2.2.2.2) (bytes := mt'.2.1) (maxL := mt'.2.2.1) (As := av.map (xv g)) (rest := st.map (xv g)) ⟨ok.1, ok.2.1, ok.2.2.2.1, ok.2.2.2.2.1, hts⟩ (hsp g cx.2.1) ⟨va_cnB (ret := none) _ hts (x_goodC hm.1.1) (by rw [hret]) rfl rfl (ok.2.2.2.2.2.2.2.2.1.2.1 _ hl) (hts _ hm.1.2.1) hm.1.2.2 hroom, hm.2.2.1, hts _ hm.2.1⟩ ⟨xPc.blind g (.ref b :: av) n I R, xPS (av := .ref b :: av) ok hR hS⟩ rfl (by rw [List.length_map]; exact hn) hL.1.1 ?_ (lv_room (x_cats hcat)) hd hcells) k
  show st0.map (xv g) = _
  rw [hst, List.map_append, List.map_reverse]; rfl
end XE
end
section
/-- what is not made yet is blank -/
def xBl (I : MI) (R : MR) (n : Nat) : Prop := ∀ k, I n k = 0 ∧ R n k = none
theorem xat.new {g : GX} {n : Nat} {I : MI} {R : MR} {H H' : Heap} (h : xRep g n I R H) (hn : n < 137) (hsz : H'.size = H.size + 1) (ho : ∀ q, q < H.size → H'[q]? = H[q]?) (hat : xat g I R H' n) : xRep g (n + 1) I R H' := by
  obtain ⟨h1, h2, h3, h4⟩ := h
  have h3' := h3 hn
  refine ⟨by omega, by omega, fun _ => by omega, fun j hj => ?_⟩
  by_cases hjn : j = n
  · subst hjn; exact hat
  · have hj' : j < n := by omega
    exact (h4 j hj').kept (ho _ (by rw [xad_lo g (by omega)]; omega)) rfl
theorem xS_new {g : GX} {H0 H H' : Heap} {locs : List Loc} (hS : va_S (fun q => g.1.1 ≤ q) H0 H locs) (hsz : H'.size = H.size + 1) (ho : ∀ q, q < H.size → H'[q]? = H[q]?) : va_S (fun q => g.1.1 ≤ q) H0 H' locs :=
  ⟨by have := hS.1; omega, fun q h1 h2 => by rw [ho q (Nat.lt_of_lt_of_le h1 hS.1)]; exact hS.2.1 q h1 h2, hS.2.2⟩
section XMK
variable {g : GX} {cx : CX} {mt : MT} {F : State → Prop} {cs : Nat × Nat} {pc : Nat} {ls : List (Option Value)} {st : List Value} {n : Nat} {I : MI} {R : MR} {Q : XQ}
theorem x_new {idx c : Nat} {C : String} {T : u_T} {N : Nat} (ty : Nat → FieldType) (hc : vwCl[c]? = some (C, T, N)) (hN : N = xN c) (hc7 : c < 7) (hty : ∀ k, k < N → parseFieldDescriptor (T k).2.2.1 = some (ty k)) (hdef : ∀ k, k < N → defaultValue (ty k) = if xrf c k = true then .null else .int 0)
    (hin : ∀ w ∈ u_ws C T N, w ∈ XT) (h1 : Cond.classLink mt.1.cls idx C ∈ XT) (h2 : Cond.instantiable C N ∈ XT) (h3 : Cond.initialized C ∈ XT) (hk : xkd n = c) (hn : n < 137) (hb : xBl I R n) (hcl : cs.1 + 1 ≤ mt.2.2.2.2.1.cells) (hsl : cs.2 + N ≤ mt.2.2.2.2.1.slots)
    (hd : decode mt.2.1 pc = .ok (.new idx, 3)) (kk : X g cx mt F (cs.1 + 1, cs.2 + N) (pc + 3) ls (.ref n :: st) (n + 1) I R) : X g cx mt F cs pc ls st n I R := by
  intro ok H locs lsA hR hS hL
  have hts := ok.2.2.2.2.2.2.1
  have hsz := hR.2.2.1 hn
  have had : xad g n = H.size := by rw [xad_lo g (by omega)]; omega
  have hKn := ok.2.2.2.2.2.2.2.2.1.1.1 c _ hc
  refine W.newcK ok.1 ok.2.1 ok.2.2.2.2.1 (hts _ h1) (hts _ h2) (hts _ h3) rfl hd hcl hsl hKn.2.1 rfl fun H1 kC hkC e1 z1 o1 => ?_
  have hob := u_born ty hts hin hKn hkC e1 hty
  have := kk ok H1 locs lsA (xat.new hR hn z1 o1 ⟨fun h7 => ?_, fun h7 => absurd (by rw [hk]; exact hc7) h7⟩) (xS_new hS z1 o1) hL
  · rw [← had]; exact this
  · rw [hk, had]
    subst hN
    refine hob.to fun k hkN => ?_
    rw [hdef k hkN]
    simp only [xval, (hb k).1, (hb k).2]
    rfl
theorem x_newaI {x : Int32} {N : Nat} (h1 : Cond.arrayClass .int ∈ XT) (hk : xkd n = 8) (hln : xln n = N) (hn : n < 137) (hb : xBl I R n) (h0 : ¬ x < 0) (hx : x.toNatClampNeg = N) (hN : N ≤ 2000) (hcl : cs.1 + 1 ≤ mt.2.2.2.2.1.cells) (hsl : cs.2 + N ≤ mt.2.2.2.2.1.slots)
    (hd : decode mt.2.1 pc = .ok (.newarray .int, 2)) (kk : X g cx mt F (cs.1 + 1, cs.2 + N) (pc + 2) ls (.ref n :: st) (n + 1) I R) : X g cx mt F cs pc ls (.int x :: st) n I R := by
  intro ok H locs lsA hR hS hL
  have hts := ok.2.2.2.2.2.2.1
  have hsz := hR.2.2.1 hn
  have had : xad g n = H.size := by rw [xad_lo g (by omega)]; omega
  refine va_newaK (atype := .int) ok.1 ok.2.1 (hts _ h1) rfl hd rfl h0 hx (by show N * 4 ≤ _; omega) hcl hsl rfl fun H1 cA e1 z1 o1 hAr hNm => ?_
  have hcA : cA = g.2.2 8 := Option.some.inj (hNm.symm.trans (ok.2.2.2.2.2.2.2.2.1.1.2 1 _ rfl).2)
  have := kk ok H1 locs lsA (xat.new hR hn z1 o1 ⟨fun h7 => absurd h7 (by rw [hk]; decide), fun h7 => ?_⟩) (xS_new hS z1 o1) hL
  · rw [← had]; exact this
  · rw [had, e1, hcA, hk, hln]
    congr 1
    congr 1
    funext k
    show Value.int 0 = xval g I R 8 n k
    rw [xval_I rfl, (hb k).1]
theorem x_newaC {x : Int32} {N : Nat} (h1 : Cond.arrayClass .char ∈ XT) (hk : xkd n = 7) (hln : xln n = N) (hn : n < 137) (hb : xBl I R n) (h0 : ¬ x < 0) (hx : x.toNatClampNeg = N) (hN : N ≤ 2000) (hcl : cs.1 + 1 ≤ mt.2.2.2.2.1.cells) (hsl : cs.2 + N ≤ mt.2.2.2.2.1.slots)
    (hd : decode mt.2.1 pc = .ok (.newarray .char, 2)) (kk : X g cx mt F (cs.1 + 1, cs.2 + N) (pc + 2) ls (.ref n :: st) (n + 1) I R) : X g cx mt F cs pc ls (.int x :: st) n I R := by
  intro ok H locs lsA hR hS hL
  have hts := ok.2.2.2.2.2.2.1
  have hsz := hR.2.2.1 hn
  have had : xad g n = H.size := by rw [xad_lo g (by omega)]; omega
  refine va_newaK (atype := .char) ok.1 ok.2.1 (hts _ h1) rfl hd rfl h0 hx (by show N * 2 ≤ _; omega) hcl hsl rfl fun H1 cA e1 z1 o1 hAr hNm => ?_
  have hcA : cA = g.2.2 7 := Option.some.inj (hNm.symm.trans (ok.2.2.2.2.2.2.2.2.1.1.2 0 _ rfl).2)
  have := kk ok H1 locs lsA (xat.new hR hn z1 o1 ⟨fun h7 => absurd h7 (by rw [hk]; decide), fun h7 => ?_⟩) (xS_new hS z1 o1) hL
  · rw [← had]; exact this
  · rw [had, e1, hcA, hk, hln]
    congr 1
    congr 1
    funext k
    show Value.int 0 = xval g I R 7 n k
    rw [xval_I rfl, (hb k).1]
/-- the array kinds of objects: kind, its element's kind and class -/
def xAk (c ci : Nat) (C : String) : Prop := (c = 9 ∧ ci = 1 ∧ C = RX1) ∨ (c = 10 ∧ ci = 3 ∧ C = RX3) ∨ (c = 11 ∧ ci = 4 ∧ C = RX4)
theorem xAk_facts {c ci : Nat} {C : String} (h : xAk c ci C) {cx : CX} (ok : xOk g cx mt) : 9 ≤ c ∧ c ≤ 11 ∧ ci < 7 ∧ (∀ k, xrf c k = true) ∧ va_AO C cx.2.2.2.1 ∧ ArrOfT cx.2.2.2.1 (g.2.2 c) (.object C) ∧ va_RA cx.2.2.2.1 (g.2.2 c) (.object C) ∧ ClassAt cx.2.2.2.1 C (g.2.1.1 ci) := by
  have hK := ok.2.2.2.2.2.2.2.2.1.1
  have hA := ok.2.2.2.2.2.2.2.2.1.2.2.1
  rcases h with ⟨rfl, rfl, rfl⟩ | ⟨rfl, rfl, rfl⟩ | ⟨rfl, rfl, rfl⟩
  · exact ⟨by omega, by omega, by omega, fun _ => rfl, hA.1, (hK.2 2 _ rfl).1, (hK.2 2 _ rfl).2, (hK.1 1 _ rfl).2⟩
  · exact ⟨by omega, by omega, by omega, fun _ => rfl, hA.2.1, (hK.2 3 _ rfl).1, (hK.2 3 _ rfl).2, (hK.1 3 _ rfl).2⟩
  · exact ⟨by omega, by omega, by omega, fun _ => rfl, hA.2.2, (hK.2 4 _ rfl).1, (hK.2 4 _ rfl).2, (hK.1 4 _ rfl).2⟩
theorem x_anewa {x : Int32} {N c ci idx : Nat} {C : String} (hak : xAk c ci C) (h1 : Cond.classLink mt.1.cls idx C ∈ XT) (hk : xkd n = c) (hln : xln n = N) (hn : n < 137) (hb : xBl I R n) (h0 : ¬ x < 0) (hx : x.toNatClampNeg = N) (hN : N ≤ 2000) (hcl : cs.1 + 1 ≤ mt.2.2.2.2.1.cells) (hsl : cs.2 + N ≤ mt.2.2.2.2.1.slots)
    (hd : decode mt.2.1 pc = .ok (.anewarray idx, 3)) (kk : X g cx mt F (cs.1 + 1, cs.2 + N) (pc + 3) ls (.ref n :: st) (n + 1) I R) : X g cx mt F cs pc ls (.int x :: st) n I R := by
  intro ok H locs lsA hR hS hL
  have hts := ok.2.2.2.2.2.2.1
  have hsz := hR.2.2.1 hn
  have had : xad g n = H.size := by rw [xad_lo g (by omega)]; omega
  obtain ⟨g1, g2, -, g4, g5, -, g7, -⟩ := xAk_facts hak ok
  obtain ⟨-, -, -, -, -, g9⟩ := g7
  subst hx
  refine W.anew ok.1 ok.2.1 ok.2.2.2.2.1 (hts _ h1) (va_AO.use g5) rfl hd rfl h0 (by omega) hcl hsl fun cA kA comp f1 f2 f3 f4 => ?_
  have hcA : cA = g.2.2 c := Option.some.inj (f1.symm.trans g9)
  generalize hH1 : H.push ({ cls := cA, slots := Array.replicate x.toNatClampNeg .null, vm := .none } : Cell) = H1
  have z1 : H1.size = H.size + 1 := by rw [← hH1, Array.size_push]
  have e1 : H1[H.size]? = some (arrV cA x.toNatClampNeg (fun _ => .null)) := by rw [← hH1, Array.getElem?_push_size, ← arrV_new]
  have o1 : ∀ q : Nat, q < H.size → H1[q]? = H[q]? := fun q hq => by rw [← hH1, Array.getElem?_push, if_neg (Nat.ne_of_lt hq)]
  have := kk ok H1 locs lsA (xat.new hR hn z1 o1 ⟨fun h7 => absurd h7 (by rw [hk]; omega), fun h7 => ?_⟩) (xS_new hS z1 o1) hL
  · rw [← had]; exact this
  · rw [had, e1, hcA, hk, hln]
    congr 1
    congr 1
    funext k
    rw [xval_R (g4 k), (hb k).2]; rfl
theorem x_aast {i j v c ci : Nat} {C : String} {x : Int32} (hak : xAk c ci C) (hd : decode mt.2.1 pc = .ok (.aastore, 1)) (hk : xkd i = c) (hi : i < n) (h0 : ¬ x < 0) (hj : x.toNatClampNeg = j) (hlt : j < xln i) (hv : xkd v = ci) (hvn : v < n)
    (kk : X g cx mt F cs (pc + 1) ls st n I (xuR R i j (some v))) : X g cx mt F cs pc ls (.ref v :: .int x :: .ref i :: st) n I R := by
  intro ok H locs lsA hR hS hL
  obtain ⟨g1, g2, g3, g4, g5, g6, g7, hcls⟩ := xAk_facts hak ok
  have hcell := hR.arr hi hk (by omega)
  obtain ⟨cellV, q1, q2, q3, -⟩ := hR.obj hvn hv g3
  obtain ⟨kA, comp, k1, k2, k3, -⟩ := g7
  have hcomp : comp = g.2.1.1 ci := Option.some.inj (k3.symm.trans hcls.1)
  subst hcomp
  obtain ⟨kC, hkC, hkind⟩ := id hcls.2
  have hn0 := hR.1
  refine W.aast ok.1 ok.2.1 hcell (fun q h => by cases h) (fun h => by cases h) k1 k2 rfl hkC ⟨h0, by rw [arrV_size, hj]; exact hlt⟩ q1 (fun q h => by rw [q3] at h; cases h) (by rw [q2]; exact hkC) (by rw [q2]; exact va_assign hcls) rfl rfl hd fun H1 e z oq => ?_
  refine kk ok H1 _ lsA (hR.put hi (fun _ _ => rfl) (fun _ h => xuR_ne h) z oq ⟨fun h7 => absurd h7 (by rw [hk]; omega), fun h7 => ?_⟩) (xS_put (by omega) hS z oq) hL
  rw [e, hj, arrV_store, hk, xval_uR (g4 j)]
  rfl
theorem x_objInit {idx b : Nat} (h1 : Cond.methodLink mt.1.cls idx Lib.objectInit ∈ XT) (h2 : Cond.instanceMethod Lib.objectInit ∈ XT) (h3 : Cond.code Lib.objectInit ⟨#[0xb1]⟩ 1 none ∈ XT) (hd : decode mt.2.1 pc = .ok (.invokespecial idx, 3)) (hf : 1 ≤ mt.2.2.2.2.1.frames) (hcat : (st.map fun v => v.category).sum ≤ 8) (hlo : 20 ≤ mt.2.2.2.2.1.locals)
    (kk : X g cx mt F cs (pc + 3) ls st n I R) : X g cx mt F cs pc ls (.ref b :: st) n I R := by
  intro ok H locs lsA hR hS hL
  have hts := ok.2.2.2.2.2.2.1
  have hc := x_cats (g := g) hcat
  exact W.objInit ok.1 ok.2.1 ok.2.2.2.2.1 (hts _ h1) (hts _ h2) (hts _ h3) rfl (by rw [ok.2.2.2.1]; exact hL.1.1) rfl hd hf (by show 2 * 0 + _ + 12 ≤ _; omega) (kk ok H locs lsA hR hS hL)
def xuC (I : MI) (a a0 sp dp m : Nat) : MI := fun x => if x = a then va_cpy (I a0) (I a) sp dp m else I x
theorem x_copy {idx a0 a jsp jdp jn : Nat} {sp dp len : Int32} (h1 : Cond.methodLink mt.1.cls idx arraycopyName ∈ XT) (h2 : Cond.native arraycopyName ∈ XT) (h3 : Cond.static arraycopyName ∈ XT) (h4 : Cond.initialized "java/lang/System" ∈ XT)
    (hk0 : xkd a0 = 8) (hk : xkd a = 8) (ha0 : a0 < n) (ha : a < n) (hsp : ¬ sp < 0) (hdp : ¬ dp < 0) (hlen : ¬ len < 0) (esp : sp.toNatClampNeg = jsp) (edp : dp.toNatClampNeg = jdp) (en : len.toNatClampNeg = jn) (b0 : jsp + jn ≤ xln a0) (b1 : jdp + jn ≤ xln a)
    (hf : 1 ≤ mt.2.2.2.2.1.frames) (hcat : (st.map fun v => v.category).sum ≤ 8) (hlo : 8 + (nativeFrameWords "java/lang/System" "arraycopy" 5 + 11) ≤ mt.2.2.2.2.1.locals) (hn : n = 137) (hd : decode mt.2.1 pc = .ok (.invokestatic idx, 3))
    (kk : X g cx mt F cs (pc + 3) ls st n (xuC I a a0 jsp jdp jn) R) : X g cx mt F cs pc ls (.int len :: .int dp :: .ref a :: .int sp :: .ref a0 :: st) n I R := by
  intro ok H locs lsA hR hS hL
  subst esp; subst edp; subst en
  have hts := ok.2.2.2.2.2.2.1
  have hc := x_cats (g := g) hcat
  have hK := ok.2.2.2.2.2.2.2.2.1.1
  -- the two arrays first, all others behind them
  have hent : ∀ i, i < n → xkd i = 8 → va_at g.2.1 vwCl (xad g i, .inl (g.2.2 8, (xln i, .inl (I i)))) H := fun i hi hki => by
    have := hR.arr hi hki (by decide)
    show H[xad g i]? = some (vp_cell _ _)
    rw [this, vp_cell_i]
    congr 1
  let ent : Nat → va_E := fun i => if xkd i < 7 then .inr (xkd i, (List.range (xN (xkd i))).map (xval g I R (xkd i) i)) else if xkd i = 8 then .inl (g.2.2 8, (xln i, .inl (I i))) else if xkd i = 7 then .inl (g.2.2 7, (xln i, .inl (I i))) else .inl (g.2.2 (xkd i), (xln i, .inr (.inr (.inr (.inr (fun k => (R i k).map (xad g)))))))
  have hkdd : ∀ i, i < 137 → xkd i ≤ 11 := by decide +kernel
  have hxN : ∀ c, c < 7 → ∃ r, vwCl[c]? = some r ∧ r.2.2 = xN c := by
    intro c hc
    rcases (show c = 0 ∨ c = 1 ∨ c = 2 ∨ c = 3 ∨ c = 4 ∨ c = 5 ∨ c = 6 by omega) with rfl | rfl | rfl | rfl | rfl | rfl | rfl <;> exact ⟨_, rfl, rfl⟩
  have hgo : ∀ (I' : MI) (H1 : Heap) (i : Nat), i < n → (va_at g.2.1 vwCl (xad g i, if xkd i < 7 then .inr (xkd i, (List.range (xN (xkd i))).map (xval g I' R (xkd i) i)) else if xkd i = 8 then .inl (g.2.2 8, (xln i, .inl (I' i))) else if xkd i = 7 then .inl (g.2.2 7, (xln i, .inl (I' i))) else .inl (g.2.2 (xkd i), (xln i, .inr (.inr (.inr (.inr (fun k => (R i k).map (xad g)))))))) H1 ↔ xat g I' R H1 i) := by
    intro I' H1 i hi
    have hkle := hkdd i (by omega)
    by_cases h7 : xkd i < 7
    · rw [if_pos h7]
      obtain ⟨r, hr1, hr2⟩ := hxN _ h7
      constructor
      · rintro ⟨r', hr', hob⟩
        refine ⟨fun _ => ?_, fun h => absurd h7 h⟩
        cases hr1.symm.trans hr'
        rw [← hr2]
        refine hob.to fun k hk => ?_
        show ((List.range (xN (xkd i))).map _).getD k Value.null = _
        rw [← hr2, List.getD_eq_getElem?_getD, List.getElem?_map, List.getElem?_range hk]
        rfl
      · intro h
        refine ⟨r, hr1, ?_⟩
        have hob := h.1 h7
        rw [← hr2] at hob
        refine hob.to fun k hk => ?_
        show _ = ((List.range (xN (xkd i))).map _).getD k Value.null
        rw [← hr2, List.getD_eq_getElem?_getD, List.getElem?_map, List.getElem?_range hk]
        rfl
    · rw [if_neg h7]
      have key : ∀ x : vp_A, vp_cell (g.2.2 (xkd i)) x = arrV (g.2.2 (xkd i)) (xln i) (xval g I' R (xkd i) i) → (va_at g.2.1 vwCl (xad g i, .inl (g.2.2 (xkd i), x)) H1 ↔ xat g I' R H1 i) := by
        intro x hx
        constructor
        · intro h
          refine ⟨fun h' => absurd h' h7, fun _ => ?_⟩
          have h' : H1[xad g i]? = some (vp_cell (g.2.2 (xkd i)) x) := h
          rw [h', hx]
        · intro h
          show H1[xad g i]? = some (vp_cell (g.2.2 (xkd i)) x)
          rw [h.2 h7, hx]
      by_cases h8 : xkd i = 8
      · rw [if_pos h8, ← h8]
        refine key _ ?_
        rw [vp_cell_i]; congr 1; funext k; rw [xval_I (by rw [h8]; rfl)]
      · rw [if_neg h8]
        by_cases h77 : xkd i = 7
        · rw [if_pos h77, ← h77]
          refine key _ ?_
          rw [vp_cell_i]; congr 1; funext k; rw [xval_I (by rw [h77]; rfl)]
        · rw [if_neg h77]
          refine key _ ?_
          rw [vp_cell_q]; congr 1; funext k; rw [xval_R]
          rcases (show xkd i = 9 ∨ xkd i = 10 ∨ xkd i = 11 by omega) with e | e | e <;> rw [e] <;> rfl
  have hP : va_P g.2.1 vwCl ((List.range n).map fun i => (xad g i, ent i)) H := fun k q hq => by
    rw [List.getElem?_map] at hq
    by_cases hk' : k < n
    · rw [List.getElem?_range hk'] at hq
      cases hq
      exact (hgo I H k hk').mpr (hR.2.2.2 k hk')
    · rw [List.getElem?_eq_none (by simpa using hk')] at hq; cases hq
  have hD : va_D (fun q => g.1.1 ≤ q) ((List.range n).map fun i => (xad g i, ent i)) := by
    refine ⟨fun i j p q hi hj hpq => ?_, fun k q hq => ?_⟩
    · rw [List.getElem?_map] at hi hj
      by_cases hi' : i < n
      · by_cases hj' : j < n
        · rw [List.getElem?_range hi'] at hi
          rw [List.getElem?_range hj'] at hj
          cases hi; cases hj
          exact xad_inj g (by omega) (by omega) hpq
        · rw [List.getElem?_eq_none (by simpa using hj')] at hj; cases hj
      · rw [List.getElem?_eq_none (by simpa using hi')] at hi; cases hi
    · rw [List.getElem?_map] at hq
      by_cases hk' : k < n
      · rw [List.getElem?_range hk'] at hq
        cases hq
        show g.1.1 ≤ xad g k
        rw [xad_lo g (by omega)]; omega
      · rw [List.getElem?_eq_none (by simpa using hk')] at hq; cases hq
  have hat : ∀ i, i < n → xkd i = 8 → ((List.range n).map fun i => (xad g i, ent i))[i]? = some (xad g i, .inl (g.2.2 8, (xln i, .inl (I i)))) := fun i hi h8 => by
    rw [List.getElem?_map, List.getElem?_range hi]
    show some (xad g i, ent i) = _
    simp only [ent]
    rw [if_neg (by omega), if_pos h8]
  refine va_copyi (A := fun q => g.1.1 ≤ q) (D := g.2.1) (cl := vwCl) (tys := xTys g) ok.1 ok.2.1 (by rw [ok.2.2.2.1]; exact hL.1.1.symm) ok.2.2.2.2.1 (hts _ h1) (hts _ h2) (hts _ h3) (hts _ h4) hK hP hD hS a0 a 1 1 (hat a0 ha0 hk0) (hat a ha hk) rfl rfl rfl hsp hdp hlen b0 b1 (fun _ _ => rfl) hf (by omega) hd (fun H1 locs1 hP1 hD1 hS1 => ?_)
  refine kk ok H1 locs1 lsA ⟨hR.1, ?_, fun h => by omega, fun i hi => ?_⟩ hS1 hL
  · -- the heap has not become smaller
    have h136 : g.1.1 + 136 < H1.size := by
      have hq : ((((List.range n).map fun i => (xad g i, ent i))).set a (xad g a, .inl (g.2.2 8, (xln a, .inl (va_cpy (I a0) (I a) sp.toNatClampNeg dp.toNatClampNeg len.toNatClampNeg)))))[136]? = some (xad g 136, ent 136) ∨ a = 136 := by
        by_cases h : a = 136
        · exact Or.inr h
        · left
          rw [List.getElem?_set_ne h, List.getElem?_map, List.getElem?_range (by omega)]; rfl
      rcases hq with hq | hq
      · have := (hP1 136 _ hq).lt
        rw [show ((xad g 136, ent 136) : Nat × va_E).1 = xad g 136 from rfl, xad_lo g (by omega)] at this
        exact this
      · have hq2 : ((((List.range n).map fun i => (xad g i, ent i))).set a (xad g a, .inl (g.2.2 8, (xln a, .inl (va_cpy (I a0) (I a) sp.toNatClampNeg dp.toNatClampNeg len.toNatClampNeg)))))[a]? = some (xad g a, .inl (g.2.2 8, (xln a, .inl (va_cpy (I a0) (I a) sp.toNatClampNeg dp.toNatClampNeg len.toNatClampNeg)))) := by
          rw [List.getElem?_set_self (by simp; omega)]
        have := (hP1 a _ hq2).lt
        rw [show ((xad g a, Sum.inl (g.2.2 8, (xln a, Sum.inl (va_cpy (I a0) (I a) sp.toNatClampNeg dp.toNatClampNeg len.toNatClampNeg)))) : Nat × va_E).1 = xad g a from rfl, xad_lo g (by omega), hq] at this
        exact this
    omega
  · refine (hgo _ H1 i hi).mp ?_
    by_cases hia : i = a
    · subst hia
      have hq2 := hP1 i _ (List.getElem?_set_self (by simp; omega))
      rw [if_neg (by omega), if_pos hk]
      simp only [xuC]
      exact hq2
    · have hq := hP1 i (xad g i, ent i) (by rw [List.getElem?_set_ne (Ne.symm hia), List.getElem?_map, List.getElem?_range hi]; rfl)
      have hval : xval g (xuC I a a0 sp.toNatClampNeg dp.toNatClampNeg len.toNatClampNeg) R (xkd i) i = xval g I R (xkd i) i := by
        funext k
        simp only [xval, xuC, if_neg hia]
      rw [hval]
      simp only [xuC, if_neg hia]
      exact hq
end XMK
end
