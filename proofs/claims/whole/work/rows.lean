section
/-- a private method of a class that the tables say can be made, by its rows of tables_1 -/
def lw_okq (q : MethodName × Nat) : Prop := (q.1.cls ≠ "java/lang/invoke/MethodHandle" ∧ q.1.cls ≠ "java/lang/invoke/VarHandle") ∧ Cond.instantiable q.1.cls q.2 ∈ tables_1 ∧ Cond.privateMethod q.1 ∈ tables_1 ∧ Cond.instanceMethod q.1 ∈ tables_1
theorem lw_p0 : lw_okq (⟨"OtherName", "nameAll", "()V"⟩, 11) := ⟨⟨by decide +kernel, by decide +kernel⟩, List.mem_of_getElem? (i := 15) (by decide +kernel), List.mem_of_getElem? (i := 383) (by decide +kernel), List.mem_of_getElem? (i := 384) (by decide +kernel)⟩
theorem lw_p1 : lw_okq (⟨"OtherName$Names", "ofOneWithParents", "(I[ILOtherName$Law;)I"⟩, 3) := ⟨⟨by decide +kernel, by decide +kernel⟩, List.mem_of_getElem? (i := 145) (by decide +kernel), List.mem_of_getElem? (i := 391) (by decide +kernel), List.mem_of_getElem? (i := 392) (by decide +kernel)⟩
theorem lw_p2 : lw_okq (⟨"OtherName$Names", "isTaken", "(I[I)Z"⟩, 3) := ⟨⟨by decide +kernel, by decide +kernel⟩, List.mem_of_getElem? (i := 145) (by decide +kernel), List.mem_of_getElem? (i := 395) (by decide +kernel), List.mem_of_getElem? (i := 396) (by decide +kernel)⟩
theorem lw_p3 : lw_okq (⟨"OtherName$Names", "byRule", "(II[I)I"⟩, 3) := ⟨⟨by decide +kernel, by decide +kernel⟩, List.mem_of_getElem? (i := 145) (by decide +kernel), List.mem_of_getElem? (i := 399) (by decide +kernel), List.mem_of_getElem? (i := 400) (by decide +kernel)⟩
theorem lw_p4 : lw_okq (⟨"OtherName$Names", "ofMotherOf", "(I)I"⟩, 3) := ⟨⟨by decide +kernel, by decide +kernel⟩, List.mem_of_getElem? (i := 145) (by decide +kernel), List.mem_of_getElem? (i := 403) (by decide +kernel), List.mem_of_getElem? (i := 404) (by decide +kernel)⟩
theorem lw_p5 : lw_okq (⟨"OtherName$Names", "rowWith", "(II)I"⟩, 3) := ⟨⟨by decide +kernel, by decide +kernel⟩, List.mem_of_getElem? (i := 145) (by decide +kernel), List.mem_of_getElem? (i := 407) (by decide +kernel), List.mem_of_getElem? (i := 408) (by decide +kernel)⟩
theorem lw_p6 : lw_okq (⟨"OtherName$Folk", "steps", "(II)I"⟩, 11) := ⟨⟨by decide +kernel, by decide +kernel⟩, List.mem_of_getElem? (i := 74) (by decide +kernel), List.mem_of_getElem? (i := 457) (by decide +kernel), List.mem_of_getElem? (i := 458) (by decide +kernel)⟩
theorem lw_p7 : lw_okq (⟨"OtherName$Names", "isWrong", "(I)Z"⟩, 3) := ⟨⟨by decide +kernel, by decide +kernel⟩, List.mem_of_getElem? (i := 145) (by decide +kernel), List.mem_of_getElem? (i := 501) (by decide +kernel), List.mem_of_getElem? (i := 502) (by decide +kernel)⟩
theorem lw_p8 : lw_okq (⟨"OtherName$Mending", "findFounders", "()I"⟩, 7) := ⟨⟨by decide +kernel, by decide +kernel⟩, List.mem_of_getElem? (i := 163) (by decide +kernel), List.mem_of_getElem? (i := 521) (by decide +kernel), List.mem_of_getElem? (i := 522) (by decide +kernel)⟩
theorem lw_p9 : lw_okq (⟨"OtherName$Mending", "callFounders", "(I)V"⟩, 7) := ⟨⟨by decide +kernel, by decide +kernel⟩, List.mem_of_getElem? (i := 163) (by decide +kernel), List.mem_of_getElem? (i := 526) (by decide +kernel), List.mem_of_getElem? (i := 527) (by decide +kernel)⟩
theorem lw_p10 : lw_okq (⟨"OtherName$Mending", "keepBest", "()V"⟩, 7) := ⟨⟨by decide +kernel, by decide +kernel⟩, List.mem_of_getElem? (i := 163) (by decide +kernel), List.mem_of_getElem? (i := 532) (by decide +kernel), List.mem_of_getElem? (i := 533) (by decide +kernel)⟩
theorem lw_p11 : lw_okq (⟨"OtherName$Guessing", "findGaps", "()I"⟩, 9) := ⟨⟨by decide +kernel, by decide +kernel⟩, List.mem_of_getElem? (i := 192) (by decide +kernel), List.mem_of_getElem? (i := 548) (by decide +kernel), List.mem_of_getElem? (i := 549) (by decide +kernel)⟩
theorem lw_p12 : lw_okq (⟨"OtherName$Guessing", "fillGaps", "(I)V"⟩, 9) := ⟨⟨by decide +kernel, by decide +kernel⟩, List.mem_of_getElem? (i := 192) (by decide +kernel), List.mem_of_getElem? (i := 552) (by decide +kernel), List.mem_of_getElem? (i := 553) (by decide +kernel)⟩
theorem lw_p13 : lw_okq (⟨"OtherName$Guessing", "noteWay", "()V"⟩, 9) := ⟨⟨by decide +kernel, by decide +kernel⟩, List.mem_of_getElem? (i := 192) (by decide +kernel), List.mem_of_getElem? (i := 559) (by decide +kernel), List.mem_of_getElem? (i := 560) (by decide +kernel)⟩
theorem lw_p14 : lw_okq (⟨"OtherName$LawSearch", "setTried", "(I)V"⟩, 5) := ⟨⟨by decide +kernel, by decide +kernel⟩, List.mem_of_getElem? (i := 228) (by decide +kernel), List.mem_of_getElem? (i := 575) (by decide +kernel), List.mem_of_getElem? (i := 576) (by decide +kernel)⟩
theorem lw_p15 : lw_okq (⟨"OtherName$LawSearch", "noteFit", "()V"⟩, 5) := ⟨⟨by decide +kernel, by decide +kernel⟩, List.mem_of_getElem? (i := 228) (by decide +kernel), List.mem_of_getElem? (i := 581) (by decide +kernel), List.mem_of_getElem? (i := 582) (by decide +kernel)⟩
def lw_privs_1 : List (MethodName × Nat) := [(⟨"OtherName", "nameAll", "()V"⟩, 11), (⟨"OtherName$Names", "ofOneWithParents", "(I[ILOtherName$Law;)I"⟩, 3), (⟨"OtherName$Names", "isTaken", "(I[I)Z"⟩, 3), (⟨"OtherName$Names", "byRule", "(II[I)I"⟩, 3), (⟨"OtherName$Names", "ofMotherOf", "(I)I"⟩, 3), (⟨"OtherName$Names", "rowWith", "(II)I"⟩, 3), (⟨"OtherName$Folk", "steps", "(II)I"⟩, 11), (⟨"OtherName$Names", "isWrong", "(I)Z"⟩, 3), (⟨"OtherName$Mending", "findFounders", "()I"⟩, 7), (⟨"OtherName$Mending", "callFounders", "(I)V"⟩, 7), (⟨"OtherName$Mending", "keepBest", "()V"⟩, 7), (⟨"OtherName$Guessing", "findGaps", "()I"⟩, 9), (⟨"OtherName$Guessing", "fillGaps", "(I)V"⟩, 9), (⟨"OtherName$Guessing", "noteWay", "()V"⟩, 9), (⟨"OtherName$LawSearch", "setTried", "(I)V"⟩, 5), (⟨"OtherName$LawSearch", "noteFit", "()V"⟩, 5)]
theorem lw_r1 : ∀ q ∈ lw_privs_1, lw_okq q := List.forall_mem_cons.mpr ⟨lw_p0, List.forall_mem_cons.mpr ⟨lw_p1, List.forall_mem_cons.mpr ⟨lw_p2, List.forall_mem_cons.mpr ⟨lw_p3, List.forall_mem_cons.mpr ⟨lw_p4, List.forall_mem_cons.mpr ⟨lw_p5, List.forall_mem_cons.mpr ⟨lw_p6, List.forall_mem_cons.mpr ⟨lw_p7, List.forall_mem_cons.mpr ⟨lw_p8, List.forall_mem_cons.mpr ⟨lw_p9, List.forall_mem_cons.mpr ⟨lw_p10, List.forall_mem_cons.mpr ⟨lw_p11, List.forall_mem_cons.mpr ⟨lw_p12, List.forall_mem_cons.mpr ⟨lw_p13, List.forall_mem_cons.mpr ⟨lw_p14, List.forall_mem_cons.mpr ⟨lw_p15, fun _ h => absurd h List.not_mem_nil⟩⟩⟩⟩⟩⟩⟩⟩⟩⟩⟩⟩⟩⟩⟩⟩
theorem lw_p16 : lw_okq (⟨"OtherName$Couples", "findWomen", "()V"⟩, 7) := ⟨⟨by decide +kernel, by decide +kernel⟩, List.mem_of_getElem? (i := 252) (by decide +kernel), List.mem_of_getElem? (i := 623) (by decide +kernel), List.mem_of_getElem? (i := 624) (by decide +kernel)⟩
theorem lw_p17 : lw_okq (⟨"OtherName$Couples", "mostFrom", "(II)I"⟩, 7) := ⟨⟨by decide +kernel, by decide +kernel⟩, List.mem_of_getElem? (i := 252) (by decide +kernel), List.mem_of_getElem? (i := 628) (by decide +kernel), List.mem_of_getElem? (i := 629) (by decide +kernel)⟩
theorem lw_p18 : lw_okq (⟨"OtherName$Couples", "leastWife", "(III)I"⟩, 7) := ⟨⟨by decide +kernel, by decide +kernel⟩, List.mem_of_getElem? (i := 252) (by decide +kernel), List.mem_of_getElem? (i := 635) (by decide +kernel), List.mem_of_getElem? (i := 636) (by decide +kernel)⟩
theorem lw_p19 : lw_okq (⟨"OtherName", "generationsOf", "(I)I"⟩, 11) := ⟨⟨by decide +kernel, by decide +kernel⟩, List.mem_of_getElem? (i := 15) (by decide +kernel), List.mem_of_getElem? (i := 643) (by decide +kernel), List.mem_of_getElem? (i := 644) (by decide +kernel)⟩
theorem lw_p20 : lw_okq (⟨"OtherName", "digestOfPerson", "(JI)J"⟩, 11) := ⟨⟨by decide +kernel, by decide +kernel⟩, List.mem_of_getElem? (i := 15) (by decide +kernel), List.mem_of_getElem? (i := 684) (by decide +kernel), List.mem_of_getElem? (i := 685) (by decide +kernel)⟩
theorem lw_p21 : lw_okq (⟨"OtherNameModel", "faultOf", "()I"⟩, 36) := ⟨⟨by decide +kernel, by decide +kernel⟩, List.mem_of_getElem? (i := 690) (by decide +kernel), List.mem_of_getElem? (i := 819) (by decide +kernel), List.mem_of_getElem? (i := 820) (by decide +kernel)⟩
theorem lw_p22 : lw_okq (⟨"OtherNameModel", "go", "(I)Z"⟩, 36) := ⟨⟨by decide +kernel, by decide +kernel⟩, List.mem_of_getElem? (i := 690) (by decide +kernel), List.mem_of_getElem? (i := 823) (by decide +kernel), List.mem_of_getElem? (i := 824) (by decide +kernel)⟩
theorem lw_p23 : lw_okq (⟨"OtherNameModel", "areParents", "(III)Z"⟩, 36) := ⟨⟨by decide +kernel, by decide +kernel⟩, List.mem_of_getElem? (i := 690) (by decide +kernel), List.mem_of_getElem? (i := 849) (by decide +kernel), List.mem_of_getElem? (i := 850) (by decide +kernel)⟩
theorem lw_p24 : lw_okq (⟨"OtherNameModel", "leastMan", "()I"⟩, 36) := ⟨⟨by decide +kernel, by decide +kernel⟩, List.mem_of_getElem? (i := 690) (by decide +kernel), List.mem_of_getElem? (i := 856) (by decide +kernel), List.mem_of_getElem? (i := 857) (by decide +kernel)⟩
theorem lw_p25 : lw_okq (⟨"OtherNameModel", "isPerson", "(I)Z"⟩, 36) := ⟨⟨by decide +kernel, by decide +kernel⟩, List.mem_of_getElem? (i := 690) (by decide +kernel), List.mem_of_getElem? (i := 860) (by decide +kernel), List.mem_of_getElem? (i := 861) (by decide +kernel)⟩
theorem lw_p26 : lw_okq (⟨"OtherNameModel", "tell", "(II)I"⟩, 36) := ⟨⟨by decide +kernel, by decide +kernel⟩, List.mem_of_getElem? (i := 690) (by decide +kernel), List.mem_of_getElem? (i := 869) (by decide +kernel), List.mem_of_getElem? (i := 870) (by decide +kernel)⟩
theorem lw_p27 : lw_okq (⟨"OtherNameModel", "reckon", "()V"⟩, 36) := ⟨⟨by decide +kernel, by decide +kernel⟩, List.mem_of_getElem? (i := 690) (by decide +kernel), List.mem_of_getElem? (i := 873) (by decide +kernel), List.mem_of_getElem? (i := 874) (by decide +kernel)⟩
theorem lw_p28 : lw_okq (⟨"OtherNameModel", "asItIs", "()V"⟩, 36) := ⟨⟨by decide +kernel, by decide +kernel⟩, List.mem_of_getElem? (i := 690) (by decide +kernel), List.mem_of_getElem? (i := 877) (by decide +kernel), List.mem_of_getElem? (i := 878) (by decide +kernel)⟩
theorem lw_p29 : lw_okq (⟨"OtherNameModel", "layNames", "()V"⟩, 36) := ⟨⟨by decide +kernel, by decide +kernel⟩, List.mem_of_getElem? (i := 690) (by decide +kernel), List.mem_of_getElem? (i := 881) (by decide +kernel), List.mem_of_getElem? (i := 882) (by decide +kernel)⟩
theorem lw_p30 : lw_okq (⟨"OtherNameModel", "nameOf", "(I)I"⟩, 36) := ⟨⟨by decide +kernel, by decide +kernel⟩, List.mem_of_getElem? (i := 690) (by decide +kernel), List.mem_of_getElem? (i := 885) (by decide +kernel), List.mem_of_getElem? (i := 886) (by decide +kernel)⟩
theorem lw_p31 : lw_okq (⟨"OtherNameModel", "nameBy", "(II)I"⟩, 36) := ⟨⟨by decide +kernel, by decide +kernel⟩, List.mem_of_getElem? (i := 690) (by decide +kernel), List.mem_of_getElem? (i := 889) (by decide +kernel), List.mem_of_getElem? (i := 890) (by decide +kernel)⟩
def lw_privs_2 : List (MethodName × Nat) := [(⟨"OtherName$Couples", "findWomen", "()V"⟩, 7), (⟨"OtherName$Couples", "mostFrom", "(II)I"⟩, 7), (⟨"OtherName$Couples", "leastWife", "(III)I"⟩, 7), (⟨"OtherName", "generationsOf", "(I)I"⟩, 11), (⟨"OtherName", "digestOfPerson", "(JI)J"⟩, 11), (⟨"OtherNameModel", "faultOf", "()I"⟩, 36), (⟨"OtherNameModel", "go", "(I)Z"⟩, 36), (⟨"OtherNameModel", "areParents", "(III)Z"⟩, 36), (⟨"OtherNameModel", "leastMan", "()I"⟩, 36), (⟨"OtherNameModel", "isPerson", "(I)Z"⟩, 36), (⟨"OtherNameModel", "tell", "(II)I"⟩, 36), (⟨"OtherNameModel", "reckon", "()V"⟩, 36), (⟨"OtherNameModel", "asItIs", "()V"⟩, 36), (⟨"OtherNameModel", "layNames", "()V"⟩, 36), (⟨"OtherNameModel", "nameOf", "(I)I"⟩, 36), (⟨"OtherNameModel", "nameBy", "(II)I"⟩, 36)]
theorem lw_r2 : ∀ q ∈ lw_privs_2, lw_okq q := List.forall_mem_cons.mpr ⟨lw_p16, List.forall_mem_cons.mpr ⟨lw_p17, List.forall_mem_cons.mpr ⟨lw_p18, List.forall_mem_cons.mpr ⟨lw_p19, List.forall_mem_cons.mpr ⟨lw_p20, List.forall_mem_cons.mpr ⟨lw_p21, List.forall_mem_cons.mpr ⟨lw_p22, List.forall_mem_cons.mpr ⟨lw_p23, List.forall_mem_cons.mpr ⟨lw_p24, List.forall_mem_cons.mpr ⟨lw_p25, List.forall_mem_cons.mpr ⟨lw_p26, List.forall_mem_cons.mpr ⟨lw_p27, List.forall_mem_cons.mpr ⟨lw_p28, List.forall_mem_cons.mpr ⟨lw_p29, List.forall_mem_cons.mpr ⟨lw_p30, List.forall_mem_cons.mpr ⟨lw_p31, fun _ h => absurd h List.not_mem_nil⟩⟩⟩⟩⟩⟩⟩⟩⟩⟩⟩⟩⟩⟩⟩⟩
theorem lw_p32 : lw_okq (⟨"OtherNameModel", "rowOf", "(II)I"⟩, 36) := ⟨⟨by decide +kernel, by decide +kernel⟩, List.mem_of_getElem? (i := 690) (by decide +kernel), List.mem_of_getElem? (i := 893) (by decide +kernel), List.mem_of_getElem? (i := 894) (by decide +kernel)⟩
theorem lw_p33 : lw_okq (⟨"OtherNameModel", "generationOf", "(I)I"⟩, 36) := ⟨⟨by decide +kernel, by decide +kernel⟩, List.mem_of_getElem? (i := 690) (by decide +kernel), List.mem_of_getElem? (i := 897) (by decide +kernel), List.mem_of_getElem? (i := 898) (by decide +kernel)⟩
theorem lw_p34 : lw_okq (⟨"OtherNameModel", "aliveMany", "()I"⟩, 36) := ⟨⟨by decide +kernel, by decide +kernel⟩, List.mem_of_getElem? (i := 690) (by decide +kernel), List.mem_of_getElem? (i := 918) (by decide +kernel), List.mem_of_getElem? (i := 919) (by decide +kernel)⟩
theorem lw_p35 : lw_okq (⟨"OtherNameModel", "tellWrong", "(I)I"⟩, 36) := ⟨⟨by decide +kernel, by decide +kernel⟩, List.mem_of_getElem? (i := 690) (by decide +kernel), List.mem_of_getElem? (i := 926) (by decide +kernel), List.mem_of_getElem? (i := 927) (by decide +kernel)⟩
theorem lw_p36 : lw_okq (⟨"OtherNameModel", "wrongMany", "()I"⟩, 36) := ⟨⟨by decide +kernel, by decide +kernel⟩, List.mem_of_getElem? (i := 690) (by decide +kernel), List.mem_of_getElem? (i := 930) (by decide +kernel), List.mem_of_getElem? (i := 931) (by decide +kernel)⟩
theorem lw_p37 : lw_okq (⟨"OtherNameModel", "aloneMany", "()I"⟩, 36) := ⟨⟨by decide +kernel, by decide +kernel⟩, List.mem_of_getElem? (i := 690) (by decide +kernel), List.mem_of_getElem? (i := 938) (by decide +kernel), List.mem_of_getElem? (i := 939) (by decide +kernel)⟩
theorem lw_p38 : lw_okq (⟨"OtherNameModel", "layWays", "()I"⟩, 36) := ⟨⟨by decide +kernel, by decide +kernel⟩, List.mem_of_getElem? (i := 690) (by decide +kernel), List.mem_of_getElem? (i := 946) (by decide +kernel), List.mem_of_getElem? (i := 947) (by decide +kernel)⟩
theorem lw_p39 : lw_okq (⟨"OtherNameModel", "isMan", "(II)Z"⟩, 36) := ⟨⟨by decide +kernel, by decide +kernel⟩, List.mem_of_getElem? (i := 690) (by decide +kernel), List.mem_of_getElem? (i := 950) (by decide +kernel), List.mem_of_getElem? (i := 951) (by decide +kernel)⟩
theorem lw_p40 : lw_okq (⟨"OtherNameModel", "sureNow", "(I)I"⟩, 36) := ⟨⟨by decide +kernel, by decide +kernel⟩, List.mem_of_getElem? (i := 690) (by decide +kernel), List.mem_of_getElem? (i := 958) (by decide +kernel), List.mem_of_getElem? (i := 959) (by decide +kernel)⟩
theorem lw_p41 : lw_okq (⟨"OtherNameModel", "layLaws", "()V"⟩, 36) := ⟨⟨by decide +kernel, by decide +kernel⟩, List.mem_of_getElem? (i := 690) (by decide +kernel), List.mem_of_getElem? (i := 966) (by decide +kernel), List.mem_of_getElem? (i := 967) (by decide +kernel)⟩
theorem lw_p42 : lw_okq (⟨"OtherNameModel", "tryLaw", "(III)V"⟩, 36) := ⟨⟨by decide +kernel, by decide +kernel⟩, List.mem_of_getElem? (i := 690) (by decide +kernel), List.mem_of_getElem? (i := 970) (by decide +kernel), List.mem_of_getElem? (i := 971) (by decide +kernel)⟩
theorem lw_p43 : lw_okq (⟨"OtherNameModel", "nearOf", "(II)I"⟩, 36) := ⟨⟨by decide +kernel, by decide +kernel⟩, List.mem_of_getElem? (i := 690) (by decide +kernel), List.mem_of_getElem? (i := 978) (by decide +kernel), List.mem_of_getElem? (i := 979) (by decide +kernel)⟩
theorem lw_p44 : lw_okq (⟨"OtherNameModel", "laySteps", "(I[I)V"⟩, 36) := ⟨⟨by decide +kernel, by decide +kernel⟩, List.mem_of_getElem? (i := 690) (by decide +kernel), List.mem_of_getElem? (i := 982) (by decide +kernel), List.mem_of_getElem? (i := 983) (by decide +kernel)⟩
theorem lw_p45 : lw_okq (⟨"OtherNameModel", "kinOf", "(I)I"⟩, 36) := ⟨⟨by decide +kernel, by decide +kernel⟩, List.mem_of_getElem? (i := 690) (by decide +kernel), List.mem_of_getElem? (i := 990) (by decide +kernel), List.mem_of_getElem? (i := 991) (by decide +kernel)⟩
theorem lw_p46 : lw_okq (⟨"OtherNameModel", "mayWed", "(II)Z"⟩, 36) := ⟨⟨by decide +kernel, by decide +kernel⟩, List.mem_of_getElem? (i := 690) (by decide +kernel), List.mem_of_getElem? (i := 998) (by decide +kernel), List.mem_of_getElem? (i := 999) (by decide +kernel)⟩
theorem lw_p47 : lw_okq (⟨"OtherNameModel", "layCouples", "()I"⟩, 36) := ⟨⟨by decide +kernel, by decide +kernel⟩, List.mem_of_getElem? (i := 690) (by decide +kernel), List.mem_of_getElem? (i := 1008) (by decide +kernel), List.mem_of_getElem? (i := 1009) (by decide +kernel)⟩
def lw_privs_3 : List (MethodName × Nat) := [(⟨"OtherNameModel", "rowOf", "(II)I"⟩, 36), (⟨"OtherNameModel", "generationOf", "(I)I"⟩, 36), (⟨"OtherNameModel", "aliveMany", "()I"⟩, 36), (⟨"OtherNameModel", "tellWrong", "(I)I"⟩, 36), (⟨"OtherNameModel", "wrongMany", "()I"⟩, 36), (⟨"OtherNameModel", "aloneMany", "()I"⟩, 36), (⟨"OtherNameModel", "layWays", "()I"⟩, 36), (⟨"OtherNameModel", "isMan", "(II)Z"⟩, 36), (⟨"OtherNameModel", "sureNow", "(I)I"⟩, 36), (⟨"OtherNameModel", "layLaws", "()V"⟩, 36), (⟨"OtherNameModel", "tryLaw", "(III)V"⟩, 36), (⟨"OtherNameModel", "nearOf", "(II)I"⟩, 36), (⟨"OtherNameModel", "laySteps", "(I[I)V"⟩, 36), (⟨"OtherNameModel", "kinOf", "(I)I"⟩, 36), (⟨"OtherNameModel", "mayWed", "(II)Z"⟩, 36), (⟨"OtherNameModel", "layCouples", "()I"⟩, 36)]
theorem lw_r3 : ∀ q ∈ lw_privs_3, lw_okq q := List.forall_mem_cons.mpr ⟨lw_p32, List.forall_mem_cons.mpr ⟨lw_p33, List.forall_mem_cons.mpr ⟨lw_p34, List.forall_mem_cons.mpr ⟨lw_p35, List.forall_mem_cons.mpr ⟨lw_p36, List.forall_mem_cons.mpr ⟨lw_p37, List.forall_mem_cons.mpr ⟨lw_p38, List.forall_mem_cons.mpr ⟨lw_p39, List.forall_mem_cons.mpr ⟨lw_p40, List.forall_mem_cons.mpr ⟨lw_p41, List.forall_mem_cons.mpr ⟨lw_p42, List.forall_mem_cons.mpr ⟨lw_p43, List.forall_mem_cons.mpr ⟨lw_p44, List.forall_mem_cons.mpr ⟨lw_p45, List.forall_mem_cons.mpr ⟨lw_p46, List.forall_mem_cons.mpr ⟨lw_p47, fun _ h => absurd h List.not_mem_nil⟩⟩⟩⟩⟩⟩⟩⟩⟩⟩⟩⟩⟩⟩⟩⟩
theorem lw_p48 : lw_okq (⟨"OtherNameModel", "layMost", "()V"⟩, 36) := ⟨⟨by decide +kernel, by decide +kernel⟩, List.mem_of_getElem? (i := 690) (by decide +kernel), List.mem_of_getElem? (i := 1012) (by decide +kernel), List.mem_of_getElem? (i := 1013) (by decide +kernel)⟩
theorem lw_p49 : lw_okq (⟨"OtherNameModel", "lastsOf", "(I)I"⟩, 36) := ⟨⟨by decide +kernel, by decide +kernel⟩, List.mem_of_getElem? (i := 690) (by decide +kernel), List.mem_of_getElem? (i := 1020) (by decide +kernel), List.mem_of_getElem? (i := 1021) (by decide +kernel)⟩
theorem lw_p50 : lw_okq (⟨"OtherNameModel", "countOf", "(I)I"⟩, 36) := ⟨⟨by decide +kernel, by decide +kernel⟩, List.mem_of_getElem? (i := 690) (by decide +kernel), List.mem_of_getElem? (i := 1036) (by decide +kernel), List.mem_of_getElem? (i := 1037) (by decide +kernel)⟩
theorem lw_p51 : lw_okq (⟨"OtherNameModel", "writtenMany", "()I"⟩, 36) := ⟨⟨by decide +kernel, by decide +kernel⟩, List.mem_of_getElem? (i := 690) (by decide +kernel), List.mem_of_getElem? (i := 1040) (by decide +kernel), List.mem_of_getElem? (i := 1041) (by decide +kernel)⟩
theorem lw_p52 : lw_okq (⟨"OtherNameModel", "say", "(J)V"⟩, 36) := ⟨⟨by decide +kernel, by decide +kernel⟩, List.mem_of_getElem? (i := 690) (by decide +kernel), List.mem_of_getElem? (i := 1049) (by decide +kernel), List.mem_of_getElem? (i := 1050) (by decide +kernel)⟩
def lw_privs_4 : List (MethodName × Nat) := [(⟨"OtherNameModel", "layMost", "()V"⟩, 36), (⟨"OtherNameModel", "lastsOf", "(I)I"⟩, 36), (⟨"OtherNameModel", "countOf", "(I)I"⟩, 36), (⟨"OtherNameModel", "writtenMany", "()I"⟩, 36), (⟨"OtherNameModel", "say", "(J)V"⟩, 36)]
theorem lw_r4 : ∀ q ∈ lw_privs_4, lw_okq q := List.forall_mem_cons.mpr ⟨lw_p48, List.forall_mem_cons.mpr ⟨lw_p49, List.forall_mem_cons.mpr ⟨lw_p50, List.forall_mem_cons.mpr ⟨lw_p51, List.forall_mem_cons.mpr ⟨lw_p52, fun _ h => absurd h List.not_mem_nil⟩⟩⟩⟩⟩
def lw_privs : List (MethodName × Nat) := lw_privs_1 ++ (lw_privs_2 ++ (lw_privs_3 ++ (lw_privs_4)))
def lw_tbl : List Cond := k2_sels lw_privs ++ tables_1
theorem lw_privs_ok : ∀ q ∈ lw_privs, lw_okq q := by
  show ∀ q ∈ lw_privs_1 ++ (lw_privs_2 ++ (lw_privs_3 ++ (lw_privs_4))), lw_okq q
  exact List.forall_mem_append.mpr ⟨lw_r1, List.forall_mem_append.mpr ⟨lw_r2, List.forall_mem_append.mpr ⟨lw_r3, lw_r4⟩⟩⟩
end
section
/-! ===== BEGIN words of one list among another's, by their places ===== -/
theorem goodIn_r {big : List Cond} (ws : List Cond) (ps : List Nat) (hp : ws = ps.filterMap (fun i => big[i]?)) (h : ws.all goodWord = true) : GoodIn big ws := by
  intro w hw
  have h1 := List.all_eq_true.mp h w hw
  rw [hp] at hw
  obtain ⟨i, -, hi⟩ := List.mem_filterMap.mp hw
  have hm : w ∈ big := by first | exact List.mem_of_getElem? hi | exact List.getElem?_mem hi
  exact ⟨hm, good_of_word h1⟩
theorem goodIn_app {big a b : List Cond} (ha : GoodIn big a) (hb : GoodIn big b) : GoodIn big (a ++ b) := fun w h => (List.mem_append.mp h).elim (ha w) (hb w)
theorem goodIn_ca {big a b : List Cond} {c : Cond} (ha : GoodIn big (c :: a)) (hb : GoodIn big b) : GoodIn big (c :: (a ++ b)) := fun w h => (List.mem_cons.mp h).elim (fun e => ha w (List.mem_cons.mpr (Or.inl e))) (fun h => (List.mem_append.mp h).elim (fun h => ha w (List.mem_cons.mpr (Or.inr h))) (hb w))
theorem goodIn_sub {big ws : List Cond} (hm : ∀ w ∈ ws, w ∈ big) (h : ws.all goodWord = true) : GoodIn big ws := fun w hw => ⟨hm w hw, good_of_word (List.all_eq_true.mp h w hw)⟩
/-! ===== END ===== -/

/-! ===== BEGIN printed: names, fields, word lists, decode rows ===== -/
def RX0 : String := "OtherName$Couples"
def TX0 : u_T := fun k => match k with
  | 0 => ("OtherName$Couples", "most", "I", false)
  | 1 => ("OtherName$Couples", "spouse", "[I", true)
  | 2 => ("OtherName$Couples", "womenFor", "[I", true)
  | 3 => ("OtherName$Couples", "husband", "[I", true)
  | 4 => ("OtherName$Couples", "asked", "I", false)
  | 5 => ("OtherName$Couples", "folk", "LOtherName$Folk;", true)
  | _ => ("OtherName$Couples", "names", "LOtherName$Names;", true)
def tyX0 : Nat → FieldType := fun k => match k with
  | 0 => .int
  | 1 => .array .int
  | 2 => .array .int
  | 3 => .array .int
  | 4 => .int
  | 5 => .object "OtherName$Folk"
  | _ => .object "OtherName$Names"
abbrev wsX00 : List Cond := u_ws RX0 TX0 7
theorem nmX0 : ∀ a, a < 7 → ∀ b, b < 7 → a ≠ b → (TX0 a).2.1 ≠ (TX0 b).2.1 := by decide +kernel
theorem tyX0_ok : ∀ k, k < 7 → parseFieldDescriptor (TX0 k).2.2.1 = some (tyX0 k) := by decide +kernel
abbrev cX0_init : ByteArray := prog_2_method_1_code
def yX0_init : MethodName := ⟨RX0, "<init>", "(LOtherName$Folk;LOtherName$Names;)V"⟩
abbrev cX0_allowed : ByteArray := prog_2_method_2_code
def yX0_allowed : MethodName := ⟨RX0, "allowed", "(II)Z"⟩
abbrev cX0_wedAll : ByteArray := prog_2_method_3_code
def yX0_wedAll : MethodName := ⟨RX0, "wedAll", "()V"⟩
abbrev cX0_findWomen : ByteArray := prog_2_method_4_code
def yX0_findWomen : MethodName := ⟨RX0, "findWomen", "()V"⟩
abbrev cX0_leastWife : ByteArray := prog_2_method_5_code
def yX0_leastWife : MethodName := ⟨RX0, "leastWife", "(III)I"⟩
abbrev cX0_mostFrom : ByteArray := prog_2_method_6_code
def yX0_mostFrom : MethodName := ⟨RX0, "mostFrom", "(II)I"⟩
abbrev cX0_findsWife : ByteArray := prog_2_method_7_code
def yX0_findsWife : MethodName := ⟨RX0, "findsWife", "(LOtherName$Couples;II)Z"⟩
def RX1 : String := "OtherName$Folk"
def TX1 : u_T := fun k => match k with
  | 0 => ("OtherName$Folk", "size", "I", false)
  | 1 => ("OtherName$Folk", "kind", "[I", true)
  | 2 => ("OtherName$Folk", "sex", "[I", true)
  | 3 => ("OtherName$Folk", "father", "[I", true)
  | 4 => ("OtherName$Folk", "mother", "[I", true)
  | 5 => ("OtherName$Folk", "gap", "[Z", true)
  | 6 => ("OtherName$Folk", "generation", "[I", true)
  | 7 => ("OtherName$Folk", "told", "[I", true)
  | 8 => ("OtherName$Folk", "written", "[I", true)
  | 9 => ("OtherName$Folk", "alive", "[Z", true)
  | _ => ("OtherName$Folk", "up", "[I", true)
def tyX1 : Nat → FieldType := fun k => match k with
  | 0 => .int
  | 1 => .array .int
  | 2 => .array .int
  | 3 => .array .int
  | 4 => .array .int
  | 5 => .array .boolean
  | 6 => .array .int
  | 7 => .array .int
  | 8 => .array .int
  | 9 => .array .boolean
  | _ => .array .int
abbrev wsX10 : List Cond := u_ws RX1 TX1 11
theorem nmX1 : ∀ a, a < 11 → ∀ b, b < 11 → a ≠ b → (TX1 a).2.1 ≠ (TX1 b).2.1 := by decide +kernel
theorem tyX1_ok : ∀ k, k < 11 → parseFieldDescriptor (TX1 k).2.2.1 = some (tyX1 k) := by decide +kernel
abbrev cX1_init : ByteArray := prog_3_method_1_code
def yX1_init : MethodName := ⟨RX1, "<init>", "()V"⟩
abbrev cX1_has : ByteArray := prog_3_method_2_code
def yX1_has : MethodName := ⟨RX1, "has", "(I)Z"⟩
abbrev cX1_isOfSex : ByteArray := prog_3_method_3_code
def yX1_isOfSex : MethodName := ⟨RX1, "isOfSex", "(II)Z"⟩
abbrev cX1_isFounder : ByteArray := prog_3_method_4_code
def yX1_isFounder : MethodName := ⟨RX1, "isFounder", "(I)Z"⟩
abbrev cX1_fitsAsFather : ByteArray := prog_3_method_5_code
def yX1_fitsAsFather : MethodName := ⟨RX1, "fitsAsFather", "(I)Z"⟩
abbrev cX1_leastMan : ByteArray := prog_3_method_6_code
def yX1_leastMan : MethodName := ⟨RX1, "leastMan", "()I"⟩
abbrev cX1_gaps : ByteArray := prog_3_method_7_code
def yX1_gaps : MethodName := ⟨RX1, "gaps", "()I"⟩
abbrev cX1_living : ByteArray := prog_3_method_8_code
def yX1_living : MethodName := ⟨RX1, "living", "()I"⟩
abbrev cX1_entries : ByteArray := prog_3_method_9_code
def yX1_entries : MethodName := ⟨RX1, "entries", "()I"⟩
abbrev cX1_founders : ByteArray := prog_3_method_10_code
def yX1_founders : MethodName := ⟨RX1, "founders", "()I"⟩
abbrev cX1_add : ByteArray := prog_3_method_11_code
def yX1_add : MethodName := ⟨RX1, "add", "(IIIII)I"⟩
abbrev cX1_steps : ByteArray := prog_3_method_12_code
def yX1_steps : MethodName := ⟨RX1, "steps", "(II)I"⟩
abbrev cX1_oneMore : ByteArray := prog_3_method_13_code
def yX1_oneMore : MethodName := ⟨RX1, "oneMore", "(II)I"⟩
abbrev cX1_distance : ByteArray := prog_3_method_14_code
def yX1_distance : MethodName := ⟨RX1, "distance", "(II)I"⟩
abbrev cX1_nearestLiving : ByteArray := prog_3_method_15_code
def yX1_nearestLiving : MethodName := ⟨RX1, "nearestLiving", "(I)I"⟩
def RX2 : String := "OtherName$Guessing"
def TX2 : u_T := fun k => match k with
  | 0 => ("OtherName$Guessing", "found", "I", false)
  | 1 => ("OtherName$Guessing", "certain", "[I", true)
  | 2 => ("OtherName$Guessing", "gaps", "I", false)
  | 3 => ("OtherName$Guessing", "at", "[I", true)
  | 4 => ("OtherName$Guessing", "choices", "[I", true)
  | 5 => ("OtherName$Guessing", "men", "[I", true)
  | 6 => ("OtherName$Guessing", "fathers", "[I", true)
  | 7 => ("OtherName$Guessing", "folk", "LOtherName$Folk;", true)
  | _ => ("OtherName$Guessing", "trial", "LOtherName$Names;", true)
def tyX2 : Nat → FieldType := fun k => match k with
  | 0 => .int
  | 1 => .array .int
  | 2 => .int
  | 3 => .array .int
  | 4 => .array .int
  | 5 => .array .int
  | 6 => .array .int
  | 7 => .object "OtherName$Folk"
  | _ => .object "OtherName$Names"
abbrev wsX20 : List Cond := u_ws RX2 TX2 9
theorem nmX2 : ∀ a, a < 9 → ∀ b, b < 9 → a ≠ b → (TX2 a).2.1 ≠ (TX2 b).2.1 := by decide +kernel
theorem tyX2_ok : ∀ k, k < 9 → parseFieldDescriptor (TX2 k).2.2.1 = some (tyX2 k) := by decide +kernel
abbrev cX2_init : ByteArray := prog_4_method_1_code
def yX2_init : MethodName := ⟨RX2, "<init>", "(LOtherName$Folk;LOtherName$Names;)V"⟩
abbrev cX2_search : ByteArray := prog_4_method_2_code
def yX2_search : MethodName := ⟨RX2, "search", "(LOtherName$Law;)V"⟩
abbrev cX2_findGaps : ByteArray := prog_4_method_3_code
def yX2_findGaps : MethodName := ⟨RX2, "findGaps", "()I"⟩
abbrev cX2_fillGaps : ByteArray := prog_4_method_4_code
def yX2_fillGaps : MethodName := ⟨RX2, "fillGaps", "(I)V"⟩
abbrev cX2_noteWay : ByteArray := prog_4_method_5_code
def yX2_noteWay : MethodName := ⟨RX2, "noteWay", "()V"⟩
def RX3 : String := "OtherName$Image"
def TX3 : u_T := fun k => match k with
  | 0 => ("OtherName$Image", "there", "Z", false)
  | 1 => ("OtherName$Image", "size", "I", false)
  | 2 => ("OtherName$Image", "told", "[I", true)
  | 3 => ("OtherName$Image", "written", "[I", true)
  | _ => ("OtherName$Image", "alive", "[Z", true)
def tyX3 : Nat → FieldType := fun k => match k with
  | 0 => .boolean
  | 1 => .int
  | 2 => .array .int
  | 3 => .array .int
  | _ => .array .boolean
abbrev wsX30 : List Cond := u_ws RX3 TX3 5
theorem nmX3 : ∀ a, a < 5 → ∀ b, b < 5 → a ≠ b → (TX3 a).2.1 ≠ (TX3 b).2.1 := by decide +kernel
theorem tyX3_ok : ∀ k, k < 5 → parseFieldDescriptor (TX3 k).2.2.1 = some (tyX3 k) := by decide +kernel
abbrev cX3_init : ByteArray := prog_5_method_1_code
def yX3_init : MethodName := ⟨RX3, "<init>", "()V"⟩
abbrev cX3_keep : ByteArray := prog_5_method_2_code
def yX3_keep : MethodName := ⟨RX3, "keep", "(LOtherName$Folk;)V"⟩
abbrev cX3_giveBack : ByteArray := prog_5_method_3_code
def yX3_giveBack : MethodName := ⟨RX3, "giveBack", "(LOtherName$Folk;)V"⟩
def RX4 : String := "OtherName$Law"
def TX4 : u_T := fun k => match k with
  | 0 => ("OtherName$Law", "first", "I", false)
  | 1 => ("OtherName$Law", "every", "I", false)
  | 2 => ("OtherName$Law", "second", "I", false)
  | _ => ("OtherName$Law", "twins", "I", false)
def tyX4 : Nat → FieldType := fun k => match k with
  | 0 => .int
  | 1 => .int
  | 2 => .int
  | _ => .int
abbrev wsX40 : List Cond := u_ws RX4 TX4 4
theorem nmX4 : ∀ a, a < 4 → ∀ b, b < 4 → a ≠ b → (TX4 a).2.1 ≠ (TX4 b).2.1 := by decide +kernel
theorem tyX4_ok : ∀ k, k < 4 → parseFieldDescriptor (TX4 k).2.2.1 = some (tyX4 k) := by decide +kernel
abbrev cX4_init : ByteArray := prog_6_method_1_code
def yX4_init : MethodName := ⟨RX4, "<init>", "(IIII)V"⟩
def RX5 : String := "OtherName$LawSearch"
def TX5 : u_T := fun k => match k with
  | 0 => ("OtherName$LawSearch", "fits", "I", false)
  | 1 => ("OtherName$LawSearch", "firstFit", "LOtherName$Law;", true)
  | 2 => ("OtherName$LawSearch", "tried", "LOtherName$Law;", true)
  | 3 => ("OtherName$LawSearch", "folk", "LOtherName$Folk;", true)
  | _ => ("OtherName$LawSearch", "trial", "LOtherName$Names;", true)
def tyX5 : Nat → FieldType := fun k => match k with
  | 0 => .int
  | 1 => .object "OtherName$Law"
  | 2 => .object "OtherName$Law"
  | 3 => .object "OtherName$Folk"
  | _ => .object "OtherName$Names"
abbrev wsX50 : List Cond := u_ws RX5 TX5 5
theorem nmX5 : ∀ a, a < 5 → ∀ b, b < 5 → a ≠ b → (TX5 a).2.1 ≠ (TX5 b).2.1 := by decide +kernel
theorem tyX5_ok : ∀ k, k < 5 → parseFieldDescriptor (TX5 k).2.2.1 = some (tyX5 k) := by decide +kernel
abbrev cX5_init : ByteArray := prog_7_method_1_code
def yX5_init : MethodName := ⟨RX5, "<init>", "(LOtherName$Folk;LOtherName$Names;)V"⟩
abbrev cX5_search : ByteArray := prog_7_method_2_code
def yX5_search : MethodName := ⟨RX5, "search", "(I)V"⟩
abbrev cX5_tells : ByteArray := prog_7_method_3_code
def yX5_tells : MethodName := ⟨RX5, "tells", "(I)I"⟩
abbrev cX5_setTried : ByteArray := prog_7_method_4_code
def yX5_setTried : MethodName := ⟨RX5, "setTried", "(I)V"⟩
abbrev cX5_noteFit : ByteArray := prog_7_method_5_code
def yX5_noteFit : MethodName := ⟨RX5, "noteFit", "()V"⟩
def RX6 : String := "OtherName$Mending"
def TX6 : u_T := fun k => match k with
  | 0 => ("OtherName$Mending", "fewest", "I", false)
  | 1 => ("OtherName$Mending", "founders", "I", false)
  | 2 => ("OtherName$Mending", "at", "[I", true)
  | 3 => ("OtherName$Mending", "best", "[I", true)
  | 4 => ("OtherName$Mending", "told", "[I", true)
  | 5 => ("OtherName$Mending", "folk", "LOtherName$Folk;", true)
  | _ => ("OtherName$Mending", "trial", "LOtherName$Names;", true)
def tyX6 : Nat → FieldType := fun k => match k with
  | 0 => .int
  | 1 => .int
  | 2 => .array .int
  | 3 => .array .int
  | 4 => .array .int
  | 5 => .object "OtherName$Folk"
  | _ => .object "OtherName$Names"
abbrev wsX60 : List Cond := u_ws RX6 TX6 7
theorem nmX6 : ∀ a, a < 7 → ∀ b, b < 7 → a ≠ b → (TX6 a).2.1 ≠ (TX6 b).2.1 := by decide +kernel
theorem tyX6_ok : ∀ k, k < 7 → parseFieldDescriptor (TX6 k).2.2.1 = some (tyX6 k) := by decide +kernel
abbrev cX6_init : ByteArray := prog_8_method_1_code
def yX6_init : MethodName := ⟨RX6, "<init>", "(LOtherName$Folk;LOtherName$Names;)V"⟩
abbrev cX6_search : ByteArray := prog_8_method_2_code
def yX6_search : MethodName := ⟨RX6, "search", "(LOtherName$Law;)V"⟩
abbrev cX6_nameOfFounder : ByteArray := prog_8_method_3_code
def yX6_nameOfFounder : MethodName := ⟨RX6, "nameOfFounder", "(I)I"⟩
abbrev cX6_findFounders : ByteArray := prog_8_method_4_code
def yX6_findFounders : MethodName := ⟨RX6, "findFounders", "()I"⟩
abbrev cX6_callFounders : ByteArray := prog_8_method_5_code
def yX6_callFounders : MethodName := ⟨RX6, "callFounders", "(I)V"⟩
abbrev cX6_keepBest : ByteArray := prog_8_method_6_code
def yX6_keepBest : MethodName := ⟨RX6, "keepBest", "()V"⟩
def RX7 : String := "OtherName$Names"
def TX7 : u_T := fun k => match k with
  | 0 => ("OtherName$Names", "of", "[I", true)
  | 1 => ("OtherName$Names", "row", "[I", true)
  | _ => ("OtherName$Names", "folk", "LOtherName$Folk;", true)
def tyX7 : Nat → FieldType := fun k => match k with
  | 0 => .array .int
  | 1 => .array .int
  | _ => .object "OtherName$Folk"
abbrev wsX70 : List Cond := u_ws RX7 TX7 3
theorem nmX7 : ∀ a, a < 3 → ∀ b, b < 3 → a ≠ b → (TX7 a).2.1 ≠ (TX7 b).2.1 := by decide +kernel
theorem tyX7_ok : ∀ k, k < 3 → parseFieldDescriptor (TX7 k).2.2.1 = some (tyX7 k) := by decide +kernel
abbrev cX7_init : ByteArray := prog_9_method_1_code
def yX7_init : MethodName := ⟨RX7, "<init>", "(LOtherName$Folk;)V"⟩
abbrev cX7_give : ByteArray := prog_9_method_2_code
def yX7_give : MethodName := ⟨RX7, "give", "([I[ILOtherName$Law;)V"⟩
abbrev cX7_ofOneWithParents : ByteArray := prog_9_method_3_code
def yX7_ofOneWithParents : MethodName := ⟨RX7, "ofOneWithParents", "(I[ILOtherName$Law;)I"⟩
abbrev cX7_isTaken : ByteArray := prog_9_method_4_code
def yX7_isTaken : MethodName := ⟨RX7, "isTaken", "(I[I)Z"⟩
abbrev cX7_rowWith : ByteArray := prog_9_method_5_code
def yX7_rowWith : MethodName := ⟨RX7, "rowWith", "(II)I"⟩
abbrev cX7_byRule : ByteArray := prog_9_method_6_code
def yX7_byRule : MethodName := ⟨RX7, "byRule", "(II[I)I"⟩
abbrev cX7_ofMotherOf : ByteArray := prog_9_method_7_code
def yX7_ofMotherOf : MethodName := ⟨RX7, "ofMotherOf", "(I)I"⟩
abbrev cX7_isWrong : ByteArray := prog_9_method_8_code
def yX7_isWrong : MethodName := ⟨RX7, "isWrong", "(I)Z"⟩
abbrev cX7_errors : ByteArray := prog_9_method_9_code
def yX7_errors : MethodName := ⟨RX7, "errors", "()I"⟩
abbrev cX7_firstError : ByteArray := prog_9_method_10_code
def yX7_firstError : MethodName := ⟨RX7, "firstError", "()I"⟩
def RX8 : String := "OtherName$Page"
def TX8 : u_T := fun k => match k with
  | 0 => ("OtherName$Page", "codes", "[I", true)
  | _ => ("OtherName$Page", "length", "I", false)
def tyX8 : Nat → FieldType := fun k => match k with
  | 0 => .array .int
  | _ => .int
abbrev wsX80 : List Cond := u_ws RX8 TX8 2
theorem nmX8 : ∀ a, a < 2 → ∀ b, b < 2 → a ≠ b → (TX8 a).2.1 ≠ (TX8 b).2.1 := by decide +kernel
theorem tyX8_ok : ∀ k, k < 2 → parseFieldDescriptor (TX8 k).2.2.1 = some (tyX8 k) := by decide +kernel
abbrev cX8_init : ByteArray := prog_10_method_1_code
def yX8_init : MethodName := ⟨RX8, "<init>", "()V"⟩
abbrev cX8_add : ByteArray := prog_10_method_2_code
def yX8_add : MethodName := ⟨RX8, "add", "(I)V"⟩
abbrev cX8_firstFault : ByteArray := prog_10_method_3_code
def yX8_firstFault : MethodName := ⟨RX8, "firstFault", "()I"⟩
abbrev cX8_isLaw : ByteArray := prog_10_method_4_code
def yX8_isLaw : MethodName := ⟨RX8, "isLaw", "()Z"⟩
abbrev cX8_readInto : ByteArray := prog_10_method_5_code
def yX8_readInto : MethodName := ⟨RX8, "readInto", "(LOtherName$Law;)V"⟩
abbrev cX8_next : ByteArray := prog_10_method_6_code
def yX8_next : MethodName := ⟨RX8, "next", "(II)I"⟩
abbrev cX8_isEvery : ByteArray := prog_10_method_7_code
def yX8_isEvery : MethodName := ⟨RX8, "isEvery", "(I)Z"⟩
abbrev cX8_ruleOf : ByteArray := prog_10_method_8_code
def yX8_ruleOf : MethodName := ⟨RX8, "ruleOf", "(I)I"⟩
def RX9 : String := "OtherName"
def TX9 : u_T := fun k => match k with
  | 0 => ("OtherName", "page", "LOtherName$Page;", true)
  | 1 => ("OtherName", "theLaw", "LOtherName$Law;", true)
  | 2 => ("OtherName", "folk", "LOtherName$Folk;", true)
  | 3 => ("OtherName", "names", "LOtherName$Names;", true)
  | 4 => ("OtherName", "mending", "LOtherName$Mending;", true)
  | 5 => ("OtherName", "guessing", "LOtherName$Guessing;", true)
  | 6 => ("OtherName", "lawSearch", "LOtherName$LawSearch;", true)
  | 7 => ("OtherName", "pairs", "LOtherName$Couples;", true)
  | 8 => ("OtherName", "kept", "LOtherName$Image;", true)
  | 9 => ("OtherName", "lawsRead", "I", false)
  | _ => ("OtherName", "mendings", "I", false)
def tyX9 : Nat → FieldType := fun k => match k with
  | 0 => .object "OtherName$Page"
  | 1 => .object "OtherName$Law"
  | 2 => .object "OtherName$Folk"
  | 3 => .object "OtherName$Names"
  | 4 => .object "OtherName$Mending"
  | 5 => .object "OtherName$Guessing"
  | 6 => .object "OtherName$LawSearch"
  | 7 => .object "OtherName$Couples"
  | 8 => .object "OtherName$Image"
  | 9 => .int
  | _ => .int
abbrev wsX90 : List Cond := u_ws RX9 TX9 11
theorem nmX9 : ∀ a, a < 11 → ∀ b, b < 11 → a ≠ b → (TX9 a).2.1 ≠ (TX9 b).2.1 := by decide +kernel
theorem tyX9_ok : ∀ k, k < 11 → parseFieldDescriptor (TX9 k).2.2.1 = some (tyX9 k) := by decide +kernel
abbrev cX9_init : ByteArray := prog_1_method_1_code
def yX9_init : MethodName := ⟨RX9, "<init>", "()V"⟩
abbrev cX9_letters : ByteArray := prog_1_method_2_code
def yX9_letters : MethodName := ⟨RX9, "letters", "(J)I"⟩
abbrev cX9_blank : ByteArray := prog_1_method_3_code
def yX9_blank : MethodName := ⟨RX9, "blank", "()I"⟩
abbrev cX9_fault : ByteArray := prog_1_method_4_code
def yX9_fault : MethodName := ⟨RX9, "fault", "()I"⟩
abbrev cX9_law : ByteArray := prog_1_method_5_code
def yX9_law : MethodName := ⟨RX9, "law", "()I"⟩
abbrev cX9_lawTold : ByteArray := prog_1_method_6_code
def yX9_lawTold : MethodName := ⟨RX9, "lawTold", "(I)I"⟩
abbrev cX9_person : ByteArray := prog_1_method_7_code
def yX9_person : MethodName := ⟨RX9, "person", "(IIIII)I"⟩
abbrev cX9_about : ByteArray := prog_1_method_8_code
def yX9_about : MethodName := ⟨RX9, "about", "(II)I"⟩
abbrev cX9_as : ByteArray := prog_1_method_9_code
def yX9_as : MethodName := ⟨RX9, "as", "(II)I"⟩
abbrev cX9_call : ByteArray := prog_1_method_10_code
def yX9_call : MethodName := ⟨RX9, "call", "(II)I"⟩
abbrev cX9_write : ByteArray := prog_1_method_11_code
def yX9_write : MethodName := ⟨RX9, "write", "(II)I"⟩
abbrev cX9_dies : ByteArray := prog_1_method_12_code
def yX9_dies : MethodName := ⟨RX9, "dies", "(I)I"⟩
abbrev cX9_wrong : ByteArray := prog_1_method_13_code
def yX9_wrong : MethodName := ⟨RX9, "wrong", "(I)I"⟩
abbrev cX9_mended : ByteArray := prog_1_method_14_code
def yX9_mended : MethodName := ⟨RX9, "mended", "(I)I"⟩
abbrev cX9_ways : ByteArray := prog_1_method_15_code
def yX9_ways : MethodName := ⟨RX9, "ways", "()I"⟩
abbrev cX9_sure : ByteArray := prog_1_method_16_code
def yX9_sure : MethodName := ⟨RX9, "sure", "(I)I"⟩
abbrev cX9_laws : ByteArray := prog_1_method_17_code
def yX9_laws : MethodName := ⟨RX9, "laws", "(I)I"⟩
abbrev cX9_near : ByteArray := prog_1_method_18_code
def yX9_near : MethodName := ⟨RX9, "near", "(II)I"⟩
abbrev cX9_kin : ByteArray := prog_1_method_19_code
def yX9_kin : MethodName := ⟨RX9, "kin", "(I)I"⟩
abbrev cX9_may : ByteArray := prog_1_method_20_code
def yX9_may : MethodName := ⟨RX9, "may", "(II)I"⟩
abbrev cX9_couples : ByteArray := prog_1_method_21_code
def yX9_couples : MethodName := ⟨RX9, "couples", "(I)I"⟩
abbrev cX9_lasts : ByteArray := prog_1_method_22_code
def yX9_lasts : MethodName := ⟨RX9, "lasts", "(I)I"⟩
abbrev cX9_image : ByteArray := prog_1_method_23_code
def yX9_image : MethodName := ⟨RX9, "image", "()I"⟩
abbrev cX9_restore : ByteArray := prog_1_method_24_code
def yX9_restore : MethodName := ⟨RX9, "restore", "()I"⟩
abbrev cX9_count : ByteArray := prog_1_method_25_code
def yX9_count : MethodName := ⟨RX9, "count", "(I)I"⟩
abbrev cX9_digest : ByteArray := prog_1_method_26_code
def yX9_digest : MethodName := ⟨RX9, "digest", "()J"⟩
abbrev cX9_digestOfPerson : ByteArray := prog_1_method_27_code
def yX9_digestOfPerson : MethodName := ⟨RX9, "digestOfPerson", "(JI)J"⟩
abbrev cX9_nameAll : ByteArray := prog_1_method_28_code
def yX9_nameAll : MethodName := ⟨RX9, "nameAll", "()V"⟩
abbrev cX9_generationsOf : ByteArray := prog_1_method_29_code
def yX9_generationsOf : MethodName := ⟨RX9, "generationsOf", "(I)I"⟩
abbrev cX9_byteOf : ByteArray := prog_1_method_30_code
def yX9_byteOf : MethodName := ⟨RX9, "byteOf", "(JI)I"⟩
abbrev cX9_isKind : ByteArray := prog_1_method_31_code
def yX9_isKind : MethodName := ⟨RX9, "isKind", "(I)Z"⟩
abbrev cX9_isName : ByteArray := prog_1_method_32_code
def yX9_isName : MethodName := ⟨RX9, "isName", "(I)Z"⟩
def RX10 : String := "OtherNameModel"
def TX10 : u_T := fun k => match k with
  | 0 => ("OtherNameModel", "page", "[I", true)
  | 1 => ("OtherNameModel", "pageMany", "I", false)
  | 2 => ("OtherNameModel", "rules", "[I", true)
  | 3 => ("OtherNameModel", "readRules", "[I", true)
  | 4 => ("OtherNameModel", "lawsRead", "I", false)
  | 5 => ("OtherNameModel", "state", "I", false)
  | 6 => ("OtherNameModel", "people", "I", false)
  | 7 => ("OtherNameModel", "gaps", "I", false)
  | 8 => ("OtherNameModel", "kinds", "[I", true)
  | 9 => ("OtherNameModel", "sexes", "[I", true)
  | 10 => ("OtherNameModel", "fathers", "[I", true)
  | 11 => ("OtherNameModel", "mothers", "[I", true)
  | 12 => ("OtherNameModel", "told", "[I", true)
  | 13 => ("OtherNameModel", "written", "[I", true)
  | 14 => ("OtherNameModel", "alive", "[I", true)
  | 15 => ("OtherNameModel", "counts", "[I", true)
  | 16 => ("OtherNameModel", "names", "[I", true)
  | 17 => ("OtherNameModel", "by", "[I", true)
  | 18 => ("OtherNameModel", "first", "[I", true)
  | 19 => ("OtherNameModel", "law", "[I", true)
  | 20 => ("OtherNameModel", "high", "[I", true)
  | 21 => ("OtherNameModel", "done", "I", false)
  | 22 => ("OtherNameModel", "alone", "[I", true)
  | 23 => ("OtherNameModel", "bestNames", "[I", true)
  | 24 => ("OtherNameModel", "mayBe", "[I", true)
  | 25 => ("OtherNameModel", "open", "[I", true)
  | 26 => ("OtherNameModel", "fit", "[I", true)
  | 27 => ("OtherNameModel", "stepsOne", "[I", true)
  | 28 => ("OtherNameModel", "stepsTwo", "[I", true)
  | 29 => ("OtherNameModel", "most", "[I", true)
  | 30 => ("OtherNameModel", "mates", "[I", true)
  | 31 => ("OtherNameModel", "womenFor", "[I", true)
  | 32 => ("OtherNameModel", "keptMany", "I", false)
  | 33 => ("OtherNameModel", "keptGaps", "I", false)
  | 34 => ("OtherNameModel", "keptRows", "[I", true)
  | _ => ("OtherNameModel", "hash", "J", false)
def tyX10 : Nat → FieldType := fun k => match k with
  | 0 => .array .int
  | 1 => .int
  | 2 => .array .int
  | 3 => .array .int
  | 4 => .int
  | 5 => .int
  | 6 => .int
  | 7 => .int
  | 8 => .array .int
  | 9 => .array .int
  | 10 => .array .int
  | 11 => .array .int
  | 12 => .array .int
  | 13 => .array .int
  | 14 => .array .int
  | 15 => .array .int
  | 16 => .array .int
  | 17 => .array .int
  | 18 => .array .int
  | 19 => .array .int
  | 20 => .array .int
  | 21 => .int
  | 22 => .array .int
  | 23 => .array .int
  | 24 => .array .int
  | 25 => .array .int
  | 26 => .array .int
  | 27 => .array .int
  | 28 => .array .int
  | 29 => .array .int
  | 30 => .array .int
  | 31 => .array .int
  | 32 => .int
  | 33 => .int
  | 34 => .array .int
  | _ => .long
abbrev wsX100 : List Cond := u_ws RX10 TX10 36
theorem nmX10 : ∀ a, a < 36 → ∀ b, b < 36 → a ≠ b → (TX10 a).2.1 ≠ (TX10 b).2.1 := by decide +kernel
theorem tyX10_ok : ∀ k, k < 36 → parseFieldDescriptor (TX10 k).2.2.1 = some (tyX10 k) := by decide +kernel
abbrev cX10_init : ByteArray := prog_12_method_1_code
def yX10_init : MethodName := ⟨RX10, "<init>", "()V"⟩
abbrev cX10_in : ByteArray := prog_12_method_2_code
def yX10_in : MethodName := ⟨RX10, "in", "(JJJ)Z"⟩
abbrev cX10_letters : ByteArray := prog_12_method_3_code
def yX10_letters : MethodName := ⟨RX10, "letters", "(J)I"⟩
abbrev cX10_blank : ByteArray := prog_12_method_4_code
def yX10_blank : MethodName := ⟨RX10, "blank", "()I"⟩
abbrev cX10_ruleOf : ByteArray := prog_12_method_5_code
def yX10_ruleOf : MethodName := ⟨RX10, "ruleOf", "(I)I"⟩
abbrev cX10_go : ByteArray := prog_12_method_6_code
def yX10_go : MethodName := ⟨RX10, "go", "(I)Z"⟩
abbrev cX10_faultOf : ByteArray := prog_12_method_7_code
def yX10_faultOf : MethodName := ⟨RX10, "faultOf", "()I"⟩
abbrev cX10_fault : ByteArray := prog_12_method_8_code
def yX10_fault : MethodName := ⟨RX10, "fault", "()I"⟩
abbrev cX10_law : ByteArray := prog_12_method_9_code
def yX10_law : MethodName := ⟨RX10, "law", "()I"⟩
abbrev cX10_lawTold : ByteArray := prog_12_method_10_code
def yX10_lawTold : MethodName := ⟨RX10, "lawTold", "(I)I"⟩
abbrev cX10_isPerson : ByteArray := prog_12_method_11_code
def yX10_isPerson : MethodName := ⟨RX10, "isPerson", "(I)Z"⟩
abbrev cX10_isAlone : ByteArray := prog_12_method_12_code
def yX10_isAlone : MethodName := ⟨RX10, "isAlone", "(I)Z"⟩
abbrev cX10_leastMan : ByteArray := prog_12_method_13_code
def yX10_leastMan : MethodName := ⟨RX10, "leastMan", "()I"⟩
abbrev cX10_areParents : ByteArray := prog_12_method_14_code
def yX10_areParents : MethodName := ⟨RX10, "areParents", "(III)Z"⟩
abbrev cX10_person : ByteArray := prog_12_method_15_code
def yX10_person : MethodName := ⟨RX10, "person", "(IIIII)I"⟩
abbrev cX10_nameBy : ByteArray := prog_12_method_16_code
def yX10_nameBy : MethodName := ⟨RX10, "nameBy", "(II)I"⟩
abbrev cX10_rowOf : ByteArray := prog_12_method_17_code
def yX10_rowOf : MethodName := ⟨RX10, "rowOf", "(II)I"⟩
abbrev cX10_nameOf : ByteArray := prog_12_method_18_code
def yX10_nameOf : MethodName := ⟨RX10, "nameOf", "(I)I"⟩
abbrev cX10_layNames : ByteArray := prog_12_method_19_code
def yX10_layNames : MethodName := ⟨RX10, "layNames", "()V"⟩
abbrev cX10_asItIs : ByteArray := prog_12_method_20_code
def yX10_asItIs : MethodName := ⟨RX10, "asItIs", "()V"⟩
abbrev cX10_reckon : ByteArray := prog_12_method_21_code
def yX10_reckon : MethodName := ⟨RX10, "reckon", "()V"⟩
abbrev cX10_wrongMany : ByteArray := prog_12_method_22_code
def yX10_wrongMany : MethodName := ⟨RX10, "wrongMany", "()I"⟩
abbrev cX10_generationOf : ByteArray := prog_12_method_23_code
def yX10_generationOf : MethodName := ⟨RX10, "generationOf", "(I)I"⟩
abbrev cX10_tell : ByteArray := prog_12_method_24_code
def yX10_tell : MethodName := ⟨RX10, "tell", "(II)I"⟩
abbrev cX10_about : ByteArray := prog_12_method_25_code
def yX10_about : MethodName := ⟨RX10, "about", "(II)I"⟩
abbrev cX10_as : ByteArray := prog_12_method_26_code
def yX10_as : MethodName := ⟨RX10, "as", "(II)I"⟩
abbrev cX10_call : ByteArray := prog_12_method_27_code
def yX10_call : MethodName := ⟨RX10, "call", "(II)I"⟩
abbrev cX10_write : ByteArray := prog_12_method_28_code
def yX10_write : MethodName := ⟨RX10, "write", "(II)I"⟩
abbrev cX10_aliveMany : ByteArray := prog_12_method_29_code
def yX10_aliveMany : MethodName := ⟨RX10, "aliveMany", "()I"⟩
abbrev cX10_dies : ByteArray := prog_12_method_30_code
def yX10_dies : MethodName := ⟨RX10, "dies", "(I)I"⟩
abbrev cX10_tellWrong : ByteArray := prog_12_method_31_code
def yX10_tellWrong : MethodName := ⟨RX10, "tellWrong", "(I)I"⟩
abbrev cX10_wrong : ByteArray := prog_12_method_32_code
def yX10_wrong : MethodName := ⟨RX10, "wrong", "(I)I"⟩
abbrev cX10_aloneMany : ByteArray := prog_12_method_33_code
def yX10_aloneMany : MethodName := ⟨RX10, "aloneMany", "()I"⟩
abbrev cX10_mended : ByteArray := prog_12_method_34_code
def yX10_mended : MethodName := ⟨RX10, "mended", "(I)I"⟩
abbrev cX10_isMan : ByteArray := prog_12_method_35_code
def yX10_isMan : MethodName := ⟨RX10, "isMan", "(II)Z"⟩
abbrev cX10_layWays : ByteArray := prog_12_method_36_code
def yX10_layWays : MethodName := ⟨RX10, "layWays", "()I"⟩
abbrev cX10_ways : ByteArray := prog_12_method_37_code
def yX10_ways : MethodName := ⟨RX10, "ways", "()I"⟩
abbrev cX10_sureNow : ByteArray := prog_12_method_38_code
def yX10_sureNow : MethodName := ⟨RX10, "sureNow", "(I)I"⟩
abbrev cX10_sure : ByteArray := prog_12_method_39_code
def yX10_sure : MethodName := ⟨RX10, "sure", "(I)I"⟩
abbrev cX10_tryLaw : ByteArray := prog_12_method_40_code
def yX10_tryLaw : MethodName := ⟨RX10, "tryLaw", "(III)V"⟩
abbrev cX10_layLaws : ByteArray := prog_12_method_41_code
def yX10_layLaws : MethodName := ⟨RX10, "layLaws", "()V"⟩
abbrev cX10_laws : ByteArray := prog_12_method_42_code
def yX10_laws : MethodName := ⟨RX10, "laws", "(I)I"⟩
abbrev cX10_laySteps : ByteArray := prog_12_method_43_code
def yX10_laySteps : MethodName := ⟨RX10, "laySteps", "(I[I)V"⟩
abbrev cX10_nearOf : ByteArray := prog_12_method_44_code
def yX10_nearOf : MethodName := ⟨RX10, "nearOf", "(II)I"⟩
abbrev cX10_near : ByteArray := prog_12_method_45_code
def yX10_near : MethodName := ⟨RX10, "near", "(II)I"⟩
abbrev cX10_kinOf : ByteArray := prog_12_method_46_code
def yX10_kinOf : MethodName := ⟨RX10, "kinOf", "(I)I"⟩
abbrev cX10_kin : ByteArray := prog_12_method_47_code
def yX10_kin : MethodName := ⟨RX10, "kin", "(I)I"⟩
abbrev cX10_mayWed : ByteArray := prog_12_method_48_code
def yX10_mayWed : MethodName := ⟨RX10, "mayWed", "(II)Z"⟩
abbrev cX10_may : ByteArray := prog_12_method_49_code
def yX10_may : MethodName := ⟨RX10, "may", "(II)I"⟩
abbrev cX10_layMost : ByteArray := prog_12_method_50_code
def yX10_layMost : MethodName := ⟨RX10, "layMost", "()V"⟩
abbrev cX10_layCouples : ByteArray := prog_12_method_51_code
def yX10_layCouples : MethodName := ⟨RX10, "layCouples", "()I"⟩
abbrev cX10_couples : ByteArray := prog_12_method_52_code
def yX10_couples : MethodName := ⟨RX10, "couples", "(I)I"⟩
abbrev cX10_lastsOf : ByteArray := prog_12_method_53_code
def yX10_lastsOf : MethodName := ⟨RX10, "lastsOf", "(I)I"⟩
abbrev cX10_lasts : ByteArray := prog_12_method_54_code
def yX10_lasts : MethodName := ⟨RX10, "lasts", "(I)I"⟩
abbrev cX10_image : ByteArray := prog_12_method_55_code
def yX10_image : MethodName := ⟨RX10, "image", "()I"⟩
abbrev cX10_restore : ByteArray := prog_12_method_56_code
def yX10_restore : MethodName := ⟨RX10, "restore", "()I"⟩
abbrev cX10_writtenMany : ByteArray := prog_12_method_57_code
def yX10_writtenMany : MethodName := ⟨RX10, "writtenMany", "()I"⟩
abbrev cX10_countOf : ByteArray := prog_12_method_58_code
def yX10_countOf : MethodName := ⟨RX10, "countOf", "(I)I"⟩
abbrev cX10_count : ByteArray := prog_12_method_59_code
def yX10_count : MethodName := ⟨RX10, "count", "(I)I"⟩
abbrev cX10_say : ByteArray := prog_12_method_60_code
def yX10_say : MethodName := ⟨RX10, "say", "(J)V"⟩
abbrev cX10_digest : ByteArray := prog_12_method_61_code
def yX10_digest : MethodName := ⟨RX10, "digest", "()J"⟩
def RJ6 : String := "java/lang/Integer"
def TJ6 : u_T := fun k => match k with
  | _ => ("", "", "", false)
def tyJ6 : Nat → FieldType := fun k => match k with
  | _ => .int
abbrev wsJ60 : List Cond := u_ws RJ6 TJ6 0
theorem nmJ6 : ∀ a, a < 0 → ∀ b, b < 0 → a ≠ b → (TJ6 a).2.1 ≠ (TJ6 b).2.1 := by decide +kernel
theorem tyJ6_ok : ∀ k, k < 0 → parseFieldDescriptor (TJ6 k).2.2.1 = some (tyJ6 k) := by decide +kernel
abbrev cJ6_bitCount_0f7a4 : ByteArray := prog_13_method_49_code
def yJ6_bitCount_0f7a4 : MethodName := ⟨RJ6, "bitCount", "(I)I"⟩
def RJ9 : String := "java/lang/Math"
def TJ9 : u_T := fun k => match k with
  | _ => ("", "", "", false)
def tyJ9 : Nat → FieldType := fun k => match k with
  | _ => .int
abbrev wsJ90 : List Cond := u_ws RJ9 TJ9 0
theorem nmJ9 : ∀ a, a < 0 → ∀ b, b < 0 → a ≠ b → (TJ9 a).2.1 ≠ (TJ9 b).2.1 := by decide +kernel
theorem tyJ9_ok : ∀ k, k < 0 → parseFieldDescriptor (TJ9 k).2.2.1 = some (tyJ9 k) := by decide +kernel
abbrev cJ9_max_7cf53 : ByteArray := prog_14_method_65_code
def yJ9_max_7cf53 : MethodName := ⟨RJ9, "max", "(II)I"⟩
abbrev cJ9_min_7cf53 : ByteArray := prog_14_method_69_code
def yJ9_min_7cf53 : MethodName := ⟨RJ9, "min", "(II)I"⟩
def RL : String := "OtherNameLaw"
abbrev cL_law : ByteArray := code
def yL_law : MethodName := ⟨RL, "law", "([I)Z"⟩
set_option maxRecDepth 20000 in
abbrev vwCl : List vw_C := [(RX0, TX0, 7), (RX1, TX1, 11), (RX2, TX2, 9), (RX3, TX3, 5), (RX4, TX4, 4), (RX5, TX5, 5), (RX6, TX6, 7), (RX7, TX7, 3), (RX8, TX8, 2), (RX9, TX9, 11), (RX10, TX10, 36)]
theorem am_inl {big ws : List Cond} (ps : List Nat) (h : ps.map (fun i => big[i]?) = ws.map some) : ∀ w ∈ ws, w ∈ big := by
  intro w hw
  have h1 : some w ∈ ws.map some := List.mem_map.mpr ⟨w, hw, rfl⟩
  rw [← h] at h1
  obtain ⟨i, -, hi⟩ := List.mem_map.mp h1
  exact List.mem_of_getElem? hi
set_option maxRecDepth 20000 in
theorem inX0 : ∀ w ∈ wsX00, w ∈ lw_tbl := am_inl [319, 321, 323, 325, 327, 329, 331] (by decide +kernel)
set_option maxRecDepth 20000 in
theorem inX1 : ∀ w ∈ wsX10, w ∈ lw_tbl := am_inl [173, 175, 177, 179, 181, 183, 185, 187, 189, 191, 193] (by decide +kernel)
set_option maxRecDepth 20000 in
theorem inX2 : ∀ w ∈ wsX20, w ∈ lw_tbl := am_inl [261, 263, 265, 267, 269, 271, 273, 275, 277] (by decide +kernel)
set_option maxRecDepth 20000 in
theorem inX3 : ∀ w ∈ wsX30, w ∈ lw_tbl := am_inl [346, 348, 350, 352, 354] (by decide +kernel)
set_option maxRecDepth 20000 in
theorem inX4 : ∀ w ∈ wsX40, w ∈ lw_tbl := am_inl [117, 119, 121, 123] (by decide +kernel)
set_option maxRecDepth 20000 in
theorem inX5 : ∀ w ∈ wsX50, w ∈ lw_tbl := am_inl [293, 295, 297, 299, 301] (by decide +kernel)
set_option maxRecDepth 20000 in
theorem inX6 : ∀ w ∈ wsX60, w ∈ lw_tbl := am_inl [229, 231, 233, 235, 237, 239, 241] (by decide +kernel)
set_option maxRecDepth 20000 in
theorem inX7 : ∀ w ∈ wsX70, w ∈ lw_tbl := am_inl [208, 210, 212] (by decide +kernel)
set_option maxRecDepth 20000 in
theorem inX8 : ∀ w ∈ wsX80, w ∈ lw_tbl := am_inl [85, 87] (by decide +kernel)
set_option maxRecDepth 20000 in
theorem inX9 : ∀ w ∈ wsX90, w ∈ lw_tbl := am_inl [368, 370, 372, 374, 376, 378, 380, 382, 384, 386, 388] (by decide +kernel)
set_option maxRecDepth 20000 in
theorem inX10 : ∀ w ∈ wsX100, w ∈ lw_tbl := am_inl [785, 787, 789, 791, 793, 795, 797, 799, 801, 803, 805, 807, 809, 811, 813, 815, 817, 819, 821, 823, 825, 827, 829, 831, 833, 835, 837, 839, 841, 843, 845, 847, 849, 851, 853, 855] (by decide +kernel)
end
section
/-! the tables of the abstract machine -/
abbrev am_NM : Nat := 143
def am_code : Nat → ByteArray := fun k => match k with
  | 0 => cX0_allowed
  | 1 => cX0_wedAll
  | 2 => cX0_findWomen
  | 3 => cX0_leastWife
  | 4 => cX0_mostFrom
  | 5 => cX0_findsWife
  | 6 => cX1_has
  | 7 => cX1_isOfSex
  | 8 => cX1_isFounder
  | 9 => cX1_fitsAsFather
  | 10 => cX1_leastMan
  | 11 => cX1_gaps
  | 12 => cX1_living
  | 13 => cX1_entries
  | 14 => cX1_founders
  | 15 => cX1_add
  | 16 => cX1_steps
  | 17 => cX1_oneMore
  | 18 => cX1_distance
  | 19 => cX1_nearestLiving
  | 20 => cX2_search
  | 21 => cX2_findGaps
  | 22 => cX2_fillGaps
  | 23 => cX2_noteWay
  | 24 => cX3_keep
  | 25 => cX3_giveBack
  | 26 => cX5_search
  | 27 => cX5_tells
  | 28 => cX5_setTried
  | 29 => cX5_noteFit
  | 30 => cX6_search
  | 31 => cX6_nameOfFounder
  | 32 => cX6_findFounders
  | 33 => cX6_callFounders
  | 34 => cX6_keepBest
  | 35 => cX7_give
  | 36 => cX7_ofOneWithParents
  | 37 => cX7_isTaken
  | 38 => cX7_rowWith
  | 39 => cX7_byRule
  | 40 => cX7_ofMotherOf
  | 41 => cX7_isWrong
  | 42 => cX7_errors
  | 43 => cX7_firstError
  | 44 => cX8_add
  | 45 => cX8_firstFault
  | 46 => cX8_isLaw
  | 47 => cX8_readInto
  | 48 => cX8_next
  | 49 => cX8_isEvery
  | 50 => cX8_ruleOf
  | 51 => cX9_letters
  | 52 => cX9_blank
  | 53 => cX9_fault
  | 54 => cX9_law
  | 55 => cX9_lawTold
  | 56 => cX9_person
  | 57 => cX9_about
  | 58 => cX9_as
  | 59 => cX9_call
  | 60 => cX9_write
  | 61 => cX9_dies
  | 62 => cX9_wrong
  | 63 => cX9_mended
  | 64 => cX9_ways
  | 65 => cX9_sure
  | 66 => cX9_laws
  | 67 => cX9_near
  | 68 => cX9_kin
  | 69 => cX9_may
  | 70 => cX9_couples
  | 71 => cX9_lasts
  | 72 => cX9_image
  | 73 => cX9_restore
  | 74 => cX9_count
  | 75 => cX9_digest
  | 76 => cX9_digestOfPerson
  | 77 => cX9_nameAll
  | 78 => cX9_generationsOf
  | 79 => cX9_byteOf
  | 80 => cX9_isKind
  | 81 => cX9_isName
  | 82 => cX10_in
  | 83 => cX10_letters
  | 84 => cX10_blank
  | 85 => cX10_ruleOf
  | 86 => cX10_go
  | 87 => cX10_faultOf
  | 88 => cX10_fault
  | 89 => cX10_law
  | 90 => cX10_lawTold
  | 91 => cX10_isPerson
  | 92 => cX10_isAlone
  | 93 => cX10_leastMan
  | 94 => cX10_areParents
  | 95 => cX10_person
  | 96 => cX10_nameBy
  | 97 => cX10_rowOf
  | 98 => cX10_nameOf
  | 99 => cX10_layNames
  | 100 => cX10_asItIs
  | 101 => cX10_reckon
  | 102 => cX10_wrongMany
  | 103 => cX10_generationOf
  | 104 => cX10_tell
  | 105 => cX10_about
  | 106 => cX10_as
  | 107 => cX10_call
  | 108 => cX10_write
  | 109 => cX10_aliveMany
  | 110 => cX10_dies
  | 111 => cX10_tellWrong
  | 112 => cX10_wrong
  | 113 => cX10_aloneMany
  | 114 => cX10_mended
  | 115 => cX10_isMan
  | 116 => cX10_layWays
  | 117 => cX10_ways
  | 118 => cX10_sureNow
  | 119 => cX10_sure
  | 120 => cX10_tryLaw
  | 121 => cX10_layLaws
  | 122 => cX10_laws
  | 123 => cX10_laySteps
  | 124 => cX10_nearOf
  | 125 => cX10_near
  | 126 => cX10_kinOf
  | 127 => cX10_kin
  | 128 => cX10_mayWed
  | 129 => cX10_may
  | 130 => cX10_layMost
  | 131 => cX10_layCouples
  | 132 => cX10_couples
  | 133 => cX10_lastsOf
  | 134 => cX10_lasts
  | 135 => cX10_image
  | 136 => cX10_restore
  | 137 => cX10_writtenMany
  | 138 => cX10_countOf
  | 139 => cX10_count
  | 140 => cX10_say
  | 141 => cX10_digest
  | 142 => cJ6_bitCount_0f7a4
  | _ => ⟨#[]⟩
def am_y : Nat → MethodName := fun k => match k with
  | 0 => yX0_allowed
  | 1 => yX0_wedAll
  | 2 => yX0_findWomen
  | 3 => yX0_leastWife
  | 4 => yX0_mostFrom
  | 5 => yX0_findsWife
  | 6 => yX1_has
  | 7 => yX1_isOfSex
  | 8 => yX1_isFounder
  | 9 => yX1_fitsAsFather
  | 10 => yX1_leastMan
  | 11 => yX1_gaps
  | 12 => yX1_living
  | 13 => yX1_entries
  | 14 => yX1_founders
  | 15 => yX1_add
  | 16 => yX1_steps
  | 17 => yX1_oneMore
  | 18 => yX1_distance
  | 19 => yX1_nearestLiving
  | 20 => yX2_search
  | 21 => yX2_findGaps
  | 22 => yX2_fillGaps
  | 23 => yX2_noteWay
  | 24 => yX3_keep
  | 25 => yX3_giveBack
  | 26 => yX5_search
  | 27 => yX5_tells
  | 28 => yX5_setTried
  | 29 => yX5_noteFit
  | 30 => yX6_search
  | 31 => yX6_nameOfFounder
  | 32 => yX6_findFounders
  | 33 => yX6_callFounders
  | 34 => yX6_keepBest
  | 35 => yX7_give
  | 36 => yX7_ofOneWithParents
  | 37 => yX7_isTaken
  | 38 => yX7_rowWith
  | 39 => yX7_byRule
  | 40 => yX7_ofMotherOf
  | 41 => yX7_isWrong
  | 42 => yX7_errors
  | 43 => yX7_firstError
  | 44 => yX8_add
  | 45 => yX8_firstFault
  | 46 => yX8_isLaw
  | 47 => yX8_readInto
  | 48 => yX8_next
  | 49 => yX8_isEvery
  | 50 => yX8_ruleOf
  | 51 => yX9_letters
  | 52 => yX9_blank
  | 53 => yX9_fault
  | 54 => yX9_law
  | 55 => yX9_lawTold
  | 56 => yX9_person
  | 57 => yX9_about
  | 58 => yX9_as
  | 59 => yX9_call
  | 60 => yX9_write
  | 61 => yX9_dies
  | 62 => yX9_wrong
  | 63 => yX9_mended
  | 64 => yX9_ways
  | 65 => yX9_sure
  | 66 => yX9_laws
  | 67 => yX9_near
  | 68 => yX9_kin
  | 69 => yX9_may
  | 70 => yX9_couples
  | 71 => yX9_lasts
  | 72 => yX9_image
  | 73 => yX9_restore
  | 74 => yX9_count
  | 75 => yX9_digest
  | 76 => yX9_digestOfPerson
  | 77 => yX9_nameAll
  | 78 => yX9_generationsOf
  | 79 => yX9_byteOf
  | 80 => yX9_isKind
  | 81 => yX9_isName
  | 82 => yX10_in
  | 83 => yX10_letters
  | 84 => yX10_blank
  | 85 => yX10_ruleOf
  | 86 => yX10_go
  | 87 => yX10_faultOf
  | 88 => yX10_fault
  | 89 => yX10_law
  | 90 => yX10_lawTold
  | 91 => yX10_isPerson
  | 92 => yX10_isAlone
  | 93 => yX10_leastMan
  | 94 => yX10_areParents
  | 95 => yX10_person
  | 96 => yX10_nameBy
  | 97 => yX10_rowOf
  | 98 => yX10_nameOf
  | 99 => yX10_layNames
  | 100 => yX10_asItIs
  | 101 => yX10_reckon
  | 102 => yX10_wrongMany
  | 103 => yX10_generationOf
  | 104 => yX10_tell
  | 105 => yX10_about
  | 106 => yX10_as
  | 107 => yX10_call
  | 108 => yX10_write
  | 109 => yX10_aliveMany
  | 110 => yX10_dies
  | 111 => yX10_tellWrong
  | 112 => yX10_wrong
  | 113 => yX10_aloneMany
  | 114 => yX10_mended
  | 115 => yX10_isMan
  | 116 => yX10_layWays
  | 117 => yX10_ways
  | 118 => yX10_sureNow
  | 119 => yX10_sure
  | 120 => yX10_tryLaw
  | 121 => yX10_layLaws
  | 122 => yX10_laws
  | 123 => yX10_laySteps
  | 124 => yX10_nearOf
  | 125 => yX10_near
  | 126 => yX10_kinOf
  | 127 => yX10_kin
  | 128 => yX10_mayWed
  | 129 => yX10_may
  | 130 => yX10_layMost
  | 131 => yX10_layCouples
  | 132 => yX10_couples
  | 133 => yX10_lastsOf
  | 134 => yX10_lasts
  | 135 => yX10_image
  | 136 => yX10_restore
  | 137 => yX10_writtenMany
  | 138 => yX10_countOf
  | 139 => yX10_count
  | 140 => yX10_say
  | 141 => yX10_digest
  | 142 => yJ6_bitCount_0f7a4
  | _ => objectInit
def am_mxl : Nat → Nat := fun k => match k with
  | 0 => 4
  | 1 => 5
  | 2 => 3
  | 3 => 6
  | 4 => 5
  | 5 => 5
  | 6 => 2
  | 7 => 3
  | 8 => 2
  | 9 => 2
  | 10 => 2
  | 11 => 3
  | 12 => 3
  | 13 => 3
  | 14 => 3
  | 15 => 8
  | 16 => 3
  | 17 => 2
  | 18 => 7
  | 19 => 6
  | 20 => 4
  | 21 => 4
  | 22 => 5
  | 23 => 2
  | 24 => 3
  | 25 => 3
  | 26 => 3
  | 27 => 2
  | 28 => 3
  | 29 => 1
  | 30 => 4
  | 31 => 2
  | 32 => 3
  | 33 => 4
  | 34 => 2
  | 35 => 5
  | 36 => 6
  | 37 => 4
  | 38 => 3
  | 39 => 6
  | 40 => 3
  | 41 => 2
  | 42 => 3
  | 43 => 2
  | 44 => 2
  | 45 => 3
  | 46 => 3
  | 47 => 4
  | 48 => 3
  | 49 => 1
  | 50 => 1
  | 51 => 7
  | 52 => 2
  | 53 => 1
  | 54 => 1
  | 55 => 2
  | 56 => 9
  | 57 => 3
  | 58 => 5
  | 59 => 4
  | 60 => 4
  | 61 => 2
  | 62 => 2
  | 63 => 2
  | 64 => 1
  | 65 => 2
  | 66 => 2
  | 67 => 3
  | 68 => 2
  | 69 => 3
  | 70 => 3
  | 71 => 2
  | 72 => 1
  | 73 => 1
  | 74 => 2
  | 75 => 4
  | 76 => 7
  | 77 => 1
  | 78 => 4
  | 79 => 3
  | 80 => 1
  | 81 => 1
  | 82 => 6
  | 83 => 9
  | 84 => 2
  | 85 => 1
  | 86 => 3
  | 87 => 2
  | 88 => 1
  | 89 => 2
  | 90 => 2
  | 91 => 2
  | 92 => 1
  | 93 => 2
  | 94 => 5
  | 95 => 6
  | 96 => 5
  | 97 => 5
  | 98 => 4
  | 99 => 2
  | 100 => 2
  | 101 => 1
  | 102 => 3
  | 103 => 5
  | 104 => 3
  | 105 => 3
  | 106 => 4
  | 107 => 4
  | 108 => 4
  | 109 => 3
  | 110 => 2
  | 111 => 3
  | 112 => 2
  | 113 => 3
  | 114 => 8
  | 115 => 3
  | 116 => 8
  | 117 => 1
  | 118 => 3
  | 119 => 3
  | 120 => 4
  | 121 => 4
  | 122 => 2
  | 123 => 5
  | 124 => 6
  | 125 => 3
  | 126 => 6
  | 127 => 2
  | 128 => 5
  | 129 => 3
  | 130 => 6
  | 131 => 6
  | 132 => 3
  | 133 => 5
  | 134 => 2
  | 135 => 2
  | 136 => 2
  | 137 => 3
  | 138 => 2
  | 139 => 2
  | 140 => 3
  | 141 => 5
  | 142 => 1
  | _ => 0
def am_rt : Nat → Option FieldType := fun k => match k with
  | 0 => (some .boolean)
  | 1 => none
  | 2 => none
  | 3 => (some .int)
  | 4 => (some .int)
  | 5 => (some .boolean)
  | 6 => (some .boolean)
  | 7 => (some .boolean)
  | 8 => (some .boolean)
  | 9 => (some .boolean)
  | 10 => (some .int)
  | 11 => (some .int)
  | 12 => (some .int)
  | 13 => (some .int)
  | 14 => (some .int)
  | 15 => (some .int)
  | 16 => (some .int)
  | 17 => (some .int)
  | 18 => (some .int)
  | 19 => (some .int)
  | 20 => none
  | 21 => (some .int)
  | 22 => none
  | 23 => none
  | 24 => none
  | 25 => none
  | 26 => none
  | 27 => (some .int)
  | 28 => none
  | 29 => none
  | 30 => none
  | 31 => (some .int)
  | 32 => (some .int)
  | 33 => none
  | 34 => none
  | 35 => none
  | 36 => (some .int)
  | 37 => (some .boolean)
  | 38 => (some .int)
  | 39 => (some .int)
  | 40 => (some .int)
  | 41 => (some .boolean)
  | 42 => (some .int)
  | 43 => (some .int)
  | 44 => none
  | 45 => (some .int)
  | 46 => (some .boolean)
  | 47 => none
  | 48 => (some .int)
  | 49 => (some .boolean)
  | 50 => (some .int)
  | 51 => (some .int)
  | 52 => (some .int)
  | 53 => (some .int)
  | 54 => (some .int)
  | 55 => (some .int)
  | 56 => (some .int)
  | 57 => (some .int)
  | 58 => (some .int)
  | 59 => (some .int)
  | 60 => (some .int)
  | 61 => (some .int)
  | 62 => (some .int)
  | 63 => (some .int)
  | 64 => (some .int)
  | 65 => (some .int)
  | 66 => (some .int)
  | 67 => (some .int)
  | 68 => (some .int)
  | 69 => (some .int)
  | 70 => (some .int)
  | 71 => (some .int)
  | 72 => (some .int)
  | 73 => (some .int)
  | 74 => (some .int)
  | 75 => (some .long)
  | 76 => (some .long)
  | 77 => none
  | 78 => (some .int)
  | 79 => (some .int)
  | 80 => (some .boolean)
  | 81 => (some .boolean)
  | 82 => (some .boolean)
  | 83 => (some .int)
  | 84 => (some .int)
  | 85 => (some .int)
  | 86 => (some .boolean)
  | 87 => (some .int)
  | 88 => (some .int)
  | 89 => (some .int)
  | 90 => (some .int)
  | 91 => (some .boolean)
  | 92 => (some .boolean)
  | 93 => (some .int)
  | 94 => (some .boolean)
  | 95 => (some .int)
  | 96 => (some .int)
  | 97 => (some .int)
  | 98 => (some .int)
  | 99 => none
  | 100 => none
  | 101 => none
  | 102 => (some .int)
  | 103 => (some .int)
  | 104 => (some .int)
  | 105 => (some .int)
  | 106 => (some .int)
  | 107 => (some .int)
  | 108 => (some .int)
  | 109 => (some .int)
  | 110 => (some .int)
  | 111 => (some .int)
  | 112 => (some .int)
  | 113 => (some .int)
  | 114 => (some .int)
  | 115 => (some .boolean)
  | 116 => (some .int)
  | 117 => (some .int)
  | 118 => (some .int)
  | 119 => (some .int)
  | 120 => none
  | 121 => none
  | 122 => (some .int)
  | 123 => none
  | 124 => (some .int)
  | 125 => (some .int)
  | 126 => (some .int)
  | 127 => (some .int)
  | 128 => (some .boolean)
  | 129 => (some .int)
  | 130 => none
  | 131 => (some .int)
  | 132 => (some .int)
  | 133 => (some .int)
  | 134 => (some .int)
  | 135 => (some .int)
  | 136 => (some .int)
  | 137 => (some .int)
  | 138 => (some .int)
  | 139 => (some .int)
  | 140 => none
  | 141 => (some .long)
  | 142 => (some .int)
  | _ => none
def am_cl : Nat → Nat := fun k => match k with
  | 0 => 0
  | 1 => 0
  | 2 => 0
  | 3 => 0
  | 4 => 0
  | 5 => 0
  | 6 => 1
  | 7 => 1
  | 8 => 1
  | 9 => 1
  | 10 => 1
  | 11 => 1
  | 12 => 1
  | 13 => 1
  | 14 => 1
  | 15 => 1
  | 16 => 1
  | 17 => 1
  | 18 => 1
  | 19 => 1
  | 20 => 2
  | 21 => 2
  | 22 => 2
  | 23 => 2
  | 24 => 3
  | 25 => 3
  | 26 => 5
  | 27 => 5
  | 28 => 5
  | 29 => 5
  | 30 => 6
  | 31 => 6
  | 32 => 6
  | 33 => 6
  | 34 => 6
  | 35 => 7
  | 36 => 7
  | 37 => 7
  | 38 => 7
  | 39 => 7
  | 40 => 7
  | 41 => 7
  | 42 => 7
  | 43 => 7
  | 44 => 8
  | 45 => 8
  | 46 => 8
  | 47 => 8
  | 48 => 8
  | 49 => 8
  | 50 => 8
  | 51 => 9
  | 52 => 9
  | 53 => 9
  | 54 => 9
  | 55 => 9
  | 56 => 9
  | 57 => 9
  | 58 => 9
  | 59 => 9
  | 60 => 9
  | 61 => 9
  | 62 => 9
  | 63 => 9
  | 64 => 9
  | 65 => 9
  | 66 => 9
  | 67 => 9
  | 68 => 9
  | 69 => 9
  | 70 => 9
  | 71 => 9
  | 72 => 9
  | 73 => 9
  | 74 => 9
  | 75 => 9
  | 76 => 9
  | 77 => 9
  | 78 => 9
  | 79 => 9
  | 80 => 9
  | 81 => 9
  | 82 => 10
  | 83 => 10
  | 84 => 10
  | 85 => 10
  | 86 => 10
  | 87 => 10
  | 88 => 10
  | 89 => 10
  | 90 => 10
  | 91 => 10
  | 92 => 10
  | 93 => 10
  | 94 => 10
  | 95 => 10
  | 96 => 10
  | 97 => 10
  | 98 => 10
  | 99 => 10
  | 100 => 10
  | 101 => 10
  | 102 => 10
  | 103 => 10
  | 104 => 10
  | 105 => 10
  | 106 => 10
  | 107 => 10
  | 108 => 10
  | 109 => 10
  | 110 => 10
  | 111 => 10
  | 112 => 10
  | 113 => 10
  | 114 => 10
  | 115 => 10
  | 116 => 10
  | 117 => 10
  | 118 => 10
  | 119 => 10
  | 120 => 10
  | 121 => 10
  | 122 => 10
  | 123 => 10
  | 124 => 10
  | 125 => 10
  | 126 => 10
  | 127 => 10
  | 128 => 10
  | 129 => 10
  | 130 => 10
  | 131 => 10
  | 132 => 10
  | 133 => 10
  | 134 => 10
  | 135 => 10
  | 136 => 10
  | 137 => 10
  | 138 => 10
  | 139 => 10
  | 140 => 10
  | 141 => 10
  | 142 => 11
  | _ => 0
def am_st : Nat → Bool := fun k => match k with
  | 0 => false
  | 1 => false
  | 2 => false
  | 3 => false
  | 4 => false
  | 5 => true
  | 6 => false
  | 7 => false
  | 8 => false
  | 9 => false
  | 10 => false
  | 11 => false
  | 12 => false
  | 13 => false
  | 14 => false
  | 15 => false
  | 16 => false
  | 17 => true
  | 18 => false
  | 19 => false
  | 20 => false
  | 21 => false
  | 22 => false
  | 23 => false
  | 24 => false
  | 25 => false
  | 26 => false
  | 27 => false
  | 28 => false
  | 29 => false
  | 30 => false
  | 31 => false
  | 32 => false
  | 33 => false
  | 34 => false
  | 35 => false
  | 36 => false
  | 37 => false
  | 38 => false
  | 39 => false
  | 40 => false
  | 41 => false
  | 42 => false
  | 43 => false
  | 44 => false
  | 45 => false
  | 46 => false
  | 47 => false
  | 48 => true
  | 49 => true
  | 50 => true
  | 51 => false
  | 52 => false
  | 53 => false
  | 54 => false
  | 55 => false
  | 56 => false
  | 57 => false
  | 58 => false
  | 59 => false
  | 60 => false
  | 61 => false
  | 62 => false
  | 63 => false
  | 64 => false
  | 65 => false
  | 66 => false
  | 67 => false
  | 68 => false
  | 69 => false
  | 70 => false
  | 71 => false
  | 72 => false
  | 73 => false
  | 74 => false
  | 75 => false
  | 76 => false
  | 77 => false
  | 78 => false
  | 79 => true
  | 80 => true
  | 81 => true
  | 82 => true
  | 83 => false
  | 84 => false
  | 85 => true
  | 86 => false
  | 87 => false
  | 88 => false
  | 89 => false
  | 90 => false
  | 91 => false
  | 92 => true
  | 93 => false
  | 94 => false
  | 95 => false
  | 96 => false
  | 97 => false
  | 98 => false
  | 99 => false
  | 100 => false
  | 101 => false
  | 102 => false
  | 103 => false
  | 104 => false
  | 105 => false
  | 106 => false
  | 107 => false
  | 108 => false
  | 109 => false
  | 110 => false
  | 111 => false
  | 112 => false
  | 113 => false
  | 114 => false
  | 115 => false
  | 116 => false
  | 117 => false
  | 118 => false
  | 119 => false
  | 120 => false
  | 121 => false
  | 122 => false
  | 123 => false
  | 124 => false
  | 125 => false
  | 126 => false
  | 127 => false
  | 128 => false
  | 129 => false
  | 130 => false
  | 131 => false
  | 132 => false
  | 133 => false
  | 134 => false
  | 135 => false
  | 136 => false
  | 137 => false
  | 138 => false
  | 139 => false
  | 140 => false
  | 141 => false
  | 142 => true
  | _ => false
def am_np : Nat → Nat := fun k => match k with
  | 0 => 2
  | 1 => 0
  | 2 => 0
  | 3 => 3
  | 4 => 2
  | 5 => 3
  | 6 => 1
  | 7 => 2
  | 8 => 1
  | 9 => 1
  | 10 => 0
  | 11 => 0
  | 12 => 0
  | 13 => 0
  | 14 => 0
  | 15 => 5
  | 16 => 2
  | 17 => 2
  | 18 => 2
  | 19 => 1
  | 20 => 1
  | 21 => 0
  | 22 => 1
  | 23 => 0
  | 24 => 1
  | 25 => 1
  | 26 => 1
  | 27 => 1
  | 28 => 1
  | 29 => 0
  | 30 => 1
  | 31 => 1
  | 32 => 0
  | 33 => 1
  | 34 => 0
  | 35 => 3
  | 36 => 3
  | 37 => 2
  | 38 => 2
  | 39 => 3
  | 40 => 1
  | 41 => 1
  | 42 => 0
  | 43 => 0
  | 44 => 1
  | 45 => 0
  | 46 => 0
  | 47 => 1
  | 48 => 2
  | 49 => 1
  | 50 => 1
  | 51 => 1
  | 52 => 0
  | 53 => 0
  | 54 => 0
  | 55 => 1
  | 56 => 5
  | 57 => 2
  | 58 => 2
  | 59 => 2
  | 60 => 2
  | 61 => 1
  | 62 => 1
  | 63 => 1
  | 64 => 0
  | 65 => 1
  | 66 => 1
  | 67 => 2
  | 68 => 1
  | 69 => 2
  | 70 => 1
  | 71 => 1
  | 72 => 0
  | 73 => 0
  | 74 => 1
  | 75 => 0
  | 76 => 2
  | 77 => 0
  | 78 => 1
  | 79 => 2
  | 80 => 1
  | 81 => 1
  | 82 => 3
  | 83 => 1
  | 84 => 0
  | 85 => 1
  | 86 => 1
  | 87 => 0
  | 88 => 0
  | 89 => 0
  | 90 => 1
  | 91 => 1
  | 92 => 1
  | 93 => 0
  | 94 => 3
  | 95 => 5
  | 96 => 2
  | 97 => 2
  | 98 => 1
  | 99 => 0
  | 100 => 0
  | 101 => 0
  | 102 => 0
  | 103 => 1
  | 104 => 2
  | 105 => 2
  | 106 => 2
  | 107 => 2
  | 108 => 2
  | 109 => 0
  | 110 => 1
  | 111 => 1
  | 112 => 1
  | 113 => 0
  | 114 => 1
  | 115 => 2
  | 116 => 0
  | 117 => 0
  | 118 => 1
  | 119 => 1
  | 120 => 3
  | 121 => 0
  | 122 => 1
  | 123 => 2
  | 124 => 2
  | 125 => 2
  | 126 => 1
  | 127 => 1
  | 128 => 2
  | 129 => 2
  | 130 => 0
  | 131 => 0
  | 132 => 1
  | 133 => 1
  | 134 => 1
  | 135 => 0
  | 136 => 0
  | 137 => 0
  | 138 => 1
  | 139 => 1
  | 140 => 1
  | 141 => 0
  | 142 => 1
  | _ => 0
def am_R : Nat → String := fun k => match k with
  | 0 => RX0
  | 1 => RX1
  | 2 => RX2
  | 3 => RX3
  | 4 => RX4
  | 5 => RX5
  | 6 => RX6
  | 7 => RX7
  | 8 => RX8
  | 9 => RX9
  | 10 => RX10
  | 11 => RJ6
  | _ => ""
def am_pco : Nat → Nat := fun k => match k with
  | 0 => 665
  | 1 => 674
  | 2 => 678
  | 3 => 690
  | 4 => 683
  | 5 => 686
  | 6 => 489
  | 7 => 485
  | 8 => 505
  | 9 => 477
  | 10 => 481
  | 11 => 497
  | 12 => 544
  | 13 => 728
  | 14 => 568
  | 15 => 501
  | 16 => 512
  | 17 => 515
  | 18 => 648
  | 19 => 656
  | 20 => 599
  | 21 => 603
  | 22 => 607
  | 23 => 614
  | 24 => 712
  | 25 => 720
  | 26 => 626
  | 27 => 640
  | 28 => 630
  | 29 => 636
  | 30 => 572
  | 31 => 591
  | 32 => 576
  | 33 => 581
  | 34 => 587
  | 35 => 442
  | 36 => 446
  | 37 => 450
  | 38 => 462
  | 39 => 454
  | 40 => 458
  | 41 => 556
  | 42 => 552
  | 43 => 560
  | 44 => 401
  | 45 => 413
  | 46 => 430
  | 47 => 434
  | 48 => 416
  | 49 => 422
  | 50 => 419
  | 51 => 394
  | 52 => 405
  | 53 => 409
  | 54 => 426
  | 55 => 466
  | 56 => 470
  | 57 => 522
  | 58 => 527
  | 59 => 531
  | 60 => 536
  | 61 => 540
  | 62 => 548
  | 63 => 564
  | 64 => 595
  | 65 => 618
  | 66 => 622
  | 67 => 644
  | 68 => 652
  | 69 => 661
  | 70 => 670
  | 71 => 694
  | 72 => 708
  | 73 => 716
  | 74 => 724
  | 75 => 732
  | 76 => 739
  | 77 => 438
  | 78 => 698
  | 79 => 397
  | 80 => 473
  | 81 => 493
  | 82 => 886
  | 83 => 861
  | 84 => 866
  | 85 => 881
  | 86 => 878
  | 87 => 874
  | 88 => 870
  | 89 => 890
  | 90 => 894
  | 91 => 915
  | 92 => 907
  | 93 => 911
  | 94 => 904
  | 95 => 899
  | 96 => 944
  | 97 => 948
  | 98 => 940
  | 99 => 936
  | 100 => 932
  | 101 => 928
  | 102 => 985
  | 103 => 952
  | 104 => 924
  | 105 => 920
  | 106 => 956
  | 107 => 960
  | 108 => 964
  | 109 => 973
  | 110 => 969
  | 111 => 981
  | 112 => 977
  | 113 => 993
  | 114 => 989
  | 115 => 1005
  | 116 => 1001
  | 117 => 997
  | 118 => 1013
  | 119 => 1009
  | 120 => 1025
  | 121 => 1021
  | 122 => 1017
  | 123 => 1037
  | 124 => 1033
  | 125 => 1029
  | 126 => 1045
  | 127 => 1041
  | 128 => 1053
  | 129 => 1049
  | 130 => 1067
  | 131 => 1063
  | 132 => 1057
  | 133 => 1075
  | 134 => 1071
  | 135 => 1079
  | 136 => 1083
  | 137 => 1095
  | 138 => 1091
  | 139 => 1087
  | 140 => 1104
  | 141 => 1099
  | 142 => 701
  | _ => 0
def am_pin : Nat → Nat := fun k => match k with
  | 0 => 62
  | 1 => 62
  | 2 => 62
  | 3 => 62
  | 4 => 62
  | 5 => 62
  | 6 => 57
  | 7 => 57
  | 8 => 57
  | 9 => 57
  | 10 => 57
  | 11 => 57
  | 12 => 57
  | 13 => 57
  | 14 => 57
  | 15 => 57
  | 16 => 57
  | 17 => 57
  | 18 => 57
  | 19 => 57
  | 20 => 60
  | 21 => 60
  | 22 => 60
  | 23 => 60
  | 24 => 63
  | 25 => 63
  | 26 => 61
  | 27 => 61
  | 28 => 61
  | 29 => 61
  | 30 => 59
  | 31 => 59
  | 32 => 59
  | 33 => 59
  | 34 => 59
  | 35 => 58
  | 36 => 58
  | 37 => 58
  | 38 => 58
  | 39 => 58
  | 40 => 58
  | 41 => 58
  | 42 => 58
  | 43 => 58
  | 44 => 55
  | 45 => 55
  | 46 => 55
  | 47 => 55
  | 48 => 55
  | 49 => 55
  | 50 => 55
  | 51 => 54
  | 52 => 54
  | 53 => 54
  | 54 => 54
  | 55 => 54
  | 56 => 54
  | 57 => 54
  | 58 => 54
  | 59 => 54
  | 60 => 54
  | 61 => 54
  | 62 => 54
  | 63 => 54
  | 64 => 54
  | 65 => 54
  | 66 => 54
  | 67 => 54
  | 68 => 54
  | 69 => 54
  | 70 => 54
  | 71 => 54
  | 72 => 54
  | 73 => 54
  | 74 => 54
  | 75 => 54
  | 76 => 54
  | 77 => 54
  | 78 => 54
  | 79 => 54
  | 80 => 54
  | 81 => 54
  | 82 => 64
  | 83 => 64
  | 84 => 64
  | 85 => 64
  | 86 => 64
  | 87 => 64
  | 88 => 64
  | 89 => 64
  | 90 => 64
  | 91 => 64
  | 92 => 64
  | 93 => 64
  | 94 => 64
  | 95 => 64
  | 96 => 64
  | 97 => 64
  | 98 => 64
  | 99 => 64
  | 100 => 64
  | 101 => 64
  | 102 => 64
  | 103 => 64
  | 104 => 64
  | 105 => 64
  | 106 => 64
  | 107 => 64
  | 108 => 64
  | 109 => 64
  | 110 => 64
  | 111 => 64
  | 112 => 64
  | 113 => 64
  | 114 => 64
  | 115 => 64
  | 116 => 64
  | 117 => 64
  | 118 => 64
  | 119 => 64
  | 120 => 64
  | 121 => 64
  | 122 => 64
  | 123 => 64
  | 124 => 64
  | 125 => 64
  | 126 => 64
  | 127 => 64
  | 128 => 64
  | 129 => 64
  | 130 => 64
  | 131 => 64
  | 132 => 64
  | 133 => 64
  | 134 => 64
  | 135 => 64
  | 136 => 64
  | 137 => 64
  | 138 => 64
  | 139 => 64
  | 140 => 64
  | 141 => 64
  | 142 => 66
  | _ => 0
def am_pa : Nat → Nat := fun k => match k with
  | 0 => 663
  | 1 => 672
  | 2 => 677
  | 3 => 689
  | 4 => 682
  | 5 => 685
  | 6 => 487
  | 7 => 483
  | 8 => 503
  | 9 => 475
  | 10 => 479
  | 11 => 495
  | 12 => 542
  | 13 => 726
  | 14 => 566
  | 15 => 499
  | 16 => 511
  | 17 => 514
  | 18 => 646
  | 19 => 654
  | 20 => 597
  | 21 => 602
  | 22 => 606
  | 23 => 613
  | 24 => 710
  | 25 => 718
  | 26 => 624
  | 27 => 638
  | 28 => 629
  | 29 => 635
  | 30 => 570
  | 31 => 589
  | 32 => 575
  | 33 => 580
  | 34 => 586
  | 35 => 440
  | 36 => 445
  | 37 => 449
  | 38 => 461
  | 39 => 453
  | 40 => 457
  | 41 => 555
  | 42 => 550
  | 43 => 558
  | 44 => 399
  | 45 => 411
  | 46 => 428
  | 47 => 432
  | 48 => 415
  | 49 => 421
  | 50 => 418
  | 51 => 392
  | 52 => 403
  | 53 => 407
  | 54 => 424
  | 55 => 464
  | 56 => 468
  | 57 => 520
  | 58 => 525
  | 59 => 529
  | 60 => 534
  | 61 => 538
  | 62 => 546
  | 63 => 562
  | 64 => 593
  | 65 => 616
  | 66 => 620
  | 67 => 642
  | 68 => 650
  | 69 => 659
  | 70 => 668
  | 71 => 692
  | 72 => 706
  | 73 => 714
  | 74 => 722
  | 75 => 730
  | 76 => 738
  | 77 => 437
  | 78 => 697
  | 79 => 396
  | 80 => 472
  | 81 => 492
  | 82 => 885
  | 83 => 859
  | 84 => 864
  | 85 => 880
  | 86 => 877
  | 87 => 873
  | 88 => 868
  | 89 => 888
  | 90 => 892
  | 91 => 914
  | 92 => 906
  | 93 => 910
  | 94 => 903
  | 95 => 897
  | 96 => 943
  | 97 => 947
  | 98 => 939
  | 99 => 935
  | 100 => 931
  | 101 => 927
  | 102 => 984
  | 103 => 951
  | 104 => 923
  | 105 => 918
  | 106 => 954
  | 107 => 958
  | 108 => 962
  | 109 => 972
  | 110 => 967
  | 111 => 980
  | 112 => 975
  | 113 => 992
  | 114 => 987
  | 115 => 1004
  | 116 => 1000
  | 117 => 995
  | 118 => 1012
  | 119 => 1007
  | 120 => 1024
  | 121 => 1020
  | 122 => 1015
  | 123 => 1036
  | 124 => 1032
  | 125 => 1027
  | 126 => 1044
  | 127 => 1039
  | 128 => 1052
  | 129 => 1047
  | 130 => 1066
  | 131 => 1062
  | 132 => 1055
  | 133 => 1074
  | 134 => 1069
  | 135 => 1077
  | 136 => 1081
  | 137 => 1094
  | 138 => 1090
  | 139 => 1085
  | 140 => 1103
  | 141 => 1097
  | 142 => 700
  | _ => 0
def am_pb : Nat → Nat := fun k => match k with
  | 0 => 664
  | 1 => 673
  | 2 => 16
  | 3 => 18
  | 4 => 17
  | 5 => 0
  | 6 => 488
  | 7 => 484
  | 8 => 504
  | 9 => 476
  | 10 => 480
  | 11 => 496
  | 12 => 543
  | 13 => 727
  | 14 => 567
  | 15 => 500
  | 16 => 6
  | 17 => 0
  | 18 => 647
  | 19 => 655
  | 20 => 598
  | 21 => 11
  | 22 => 12
  | 23 => 13
  | 24 => 711
  | 25 => 719
  | 26 => 625
  | 27 => 639
  | 28 => 14
  | 29 => 15
  | 30 => 571
  | 31 => 590
  | 32 => 8
  | 33 => 9
  | 34 => 10
  | 35 => 441
  | 36 => 1
  | 37 => 2
  | 38 => 5
  | 39 => 3
  | 40 => 4
  | 41 => 7
  | 42 => 551
  | 43 => 559
  | 44 => 400
  | 45 => 412
  | 46 => 429
  | 47 => 433
  | 48 => 0
  | 49 => 0
  | 50 => 0
  | 51 => 393
  | 52 => 404
  | 53 => 408
  | 54 => 425
  | 55 => 465
  | 56 => 469
  | 57 => 521
  | 58 => 526
  | 59 => 530
  | 60 => 535
  | 61 => 539
  | 62 => 547
  | 63 => 563
  | 64 => 594
  | 65 => 617
  | 66 => 621
  | 67 => 643
  | 68 => 651
  | 69 => 660
  | 70 => 669
  | 71 => 693
  | 72 => 707
  | 73 => 715
  | 74 => 723
  | 75 => 731
  | 76 => 20
  | 77 => 0
  | 78 => 19
  | 79 => 0
  | 80 => 0
  | 81 => 0
  | 82 => 0
  | 83 => 860
  | 84 => 865
  | 85 => 0
  | 86 => 22
  | 87 => 21
  | 88 => 869
  | 89 => 889
  | 90 => 893
  | 91 => 25
  | 92 => 0
  | 93 => 24
  | 94 => 23
  | 95 => 898
  | 96 => 31
  | 97 => 32
  | 98 => 30
  | 99 => 29
  | 100 => 28
  | 101 => 27
  | 102 => 36
  | 103 => 33
  | 104 => 26
  | 105 => 919
  | 106 => 955
  | 107 => 959
  | 108 => 963
  | 109 => 34
  | 110 => 968
  | 111 => 35
  | 112 => 976
  | 113 => 37
  | 114 => 988
  | 115 => 39
  | 116 => 38
  | 117 => 996
  | 118 => 40
  | 119 => 1008
  | 120 => 42
  | 121 => 41
  | 122 => 1016
  | 123 => 44
  | 124 => 43
  | 125 => 1028
  | 126 => 45
  | 127 => 1040
  | 128 => 46
  | 129 => 1048
  | 130 => 48
  | 131 => 47
  | 132 => 1056
  | 133 => 49
  | 134 => 1070
  | 135 => 1078
  | 136 => 1082
  | 137 => 51
  | 138 => 50
  | 139 => 1086
  | 140 => 52
  | 141 => 1098
  | 142 => 0
  | _ => 0
def am_maths : List (Nat × Nat × Bool × Nat) := [(1, 62, true, 506), (1, 74, false, 516), (2, 80, true, 608)]
/-- calls: the class, the place in its pool, the method -/
def am_calls : List (Nat × Nat × Nat × Nat) := [(0, 43, 18, 666), (0, 47, 2, 675), (0, 50, 4, 680), (0, 60, 3, 687), (0, 64, 0, 679), (0, 71, 5, 684), (1, 47, 6, 486), (1, 51, 10, 478), (1, 55, 7, 482), (1, 59, 8, 502), (1, 68, 16, 509), (1, 71, 17, 513), (1, 77, 18, 657), (10, 104, 85, 879), (10, 112, 82, 884), (10, 116, 86, 875), (10, 120, 87, 871), (10, 132, 92, 905), (10, 135, 93, 908), (10, 138, 91, 912), (10, 143, 94, 901), (10, 152, 96, 941), (10, 156, 97, 945), (10, 159, 98, 937), (10, 162, 100, 929), (10, 165, 99, 933), (10, 168, 101, 925), (10, 171, 103, 949), (10, 174, 104, 921), (10, 179, 109, 970), (10, 182, 102, 982), (10, 185, 111, 978), (10, 188, 113, 990), (10, 194, 115, 1002), (10, 198, 116, 998), (10, 201, 118, 1010), (10, 204, 120, 1022), (10, 208, 121, 1018), (10, 211, 123, 1034), (10, 215, 124, 1030), (10, 218, 126, 1042), (10, 221, 128, 1050), (10, 224, 130, 1064), (10, 231, 131, 1060), (10, 234, 133, 1072), (10, 240, 137, 1092), (10, 243, 138, 1088), (10, 254, 140, 1101), (2, 35, 21, 600), (2, 51, 22, 604), (2, 58, 35, 609), (2, 64, 43, 610), (2, 67, 23, 611), (5, 38, 28, 627), (5, 51, 35, 631), (5, 57, 43, 632), (5, 61, 29, 633), (6, 29, 32, 573), (6, 37, 33, 578), (6, 46, 35, 582), (6, 52, 42, 583), (6, 55, 34, 584), (6, 64, 8, 577), (7, 31, 36, 443), (7, 35, 38, 459), (7, 42, 37, 447), (7, 51, 39, 451), (7, 64, 40, 455), (7, 71, 41, 553), (8, 19, 48, 414), (8, 34, 50, 417), (8, 41, 49, 420), (9, 78, 79, 395), (9, 86, 44, 398), (9, 90, 45, 410), (9, 94, 46, 427), (9, 98, 47, 431), (9, 105, 77, 435), (9, 120, 80, 471), (9, 124, 9, 474), (9, 127, 7, 490), (9, 131, 81, 491), (9, 137, 11, 494), (9, 140, 15, 498), (9, 143, 6, 523), (9, 175, 8, 532), (9, 181, 12, 541), (9, 184, 42, 549), (9, 187, 43, 557), (9, 190, 14, 565), (9, 196, 30, 569), (9, 202, 31, 588), (9, 206, 20, 596), (9, 213, 26, 623), (9, 215, 27, 637), (9, 218, 18, 645), (9, 222, 19, 653), (9, 225, 0, 662), (9, 228, 1, 671), (9, 237, 78, 695), (9, 240, 24, 709), (9, 247, 25, 717), (9, 250, 13, 725), (9, 257, 55, 735), (9, 260, 76, 736), (9, 267, 74, 741), (9, 270, 57, 740), (9, 273, 35, 439), (9, 277, 142, 699)]
/-- fields: the class, the place in its pool, the class of the object, the slot -/
def am_flds : List (Nat × Nat × Nat × Nat × Nat) := [(0, 9, 0, 1, 312), (0, 15, 0, 2, 314), (0, 18, 0, 3, 315), (0, 21, 0, 5, 317), (0, 25, 0, 6, 318), (0, 29, 1, 2, 143), (0, 34, 1, 9, 169), (0, 38, 7, 0, 204), (0, 53, 0, 0, 310), (0, 57, 1, 0, 136), (0, 68, 0, 4, 316), (1, 9, 1, 1, 139), (1, 15, 1, 2, 142), (1, 18, 1, 3, 146), (1, 21, 1, 4, 151), (1, 24, 1, 5, 154), (1, 28, 1, 6, 157), (1, 31, 1, 7, 159), (1, 34, 1, 8, 164), (1, 37, 1, 9, 168), (1, 40, 1, 10, 172), (1, 43, 1, 0, 132), (10, 7, 10, 0, 749), (10, 13, 10, 2, 751), (10, 16, 10, 3, 752), (10, 19, 10, 8, 757), (10, 22, 10, 9, 758), (10, 25, 10, 10, 759), (10, 28, 10, 11, 760), (10, 31, 10, 12, 761), (10, 34, 10, 13, 762), (10, 37, 10, 14, 763), (10, 40, 10, 15, 764), (10, 43, 10, 16, 765), (10, 46, 10, 17, 766), (10, 49, 10, 18, 767), (10, 52, 10, 19, 768), (10, 55, 10, 20, 769), (10, 58, 10, 22, 771), (10, 61, 10, 23, 772), (10, 64, 10, 24, 773), (10, 67, 10, 25, 774), (10, 70, 10, 26, 775), (10, 73, 10, 27, 776), (10, 76, 10, 28, 777), (10, 80, 10, 29, 778), (10, 83, 10, 30, 779), (10, 86, 10, 31, 780), (10, 89, 10, 34, 783), (10, 92, 10, 32, 781), (10, 98, 10, 1, 750), (10, 101, 10, 5, 754), (10, 124, 10, 4, 753), (10, 129, 10, 6, 755), (10, 149, 10, 7, 756), (10, 191, 10, 21, 770), (10, 237, 10, 33, 782), (10, 248, 10, 35, 784), (2, 9, 2, 1, 252), (2, 15, 2, 3, 255), (2, 18, 2, 4, 256), (2, 21, 2, 5, 257), (2, 24, 2, 6, 258), (2, 27, 2, 7, 259), (2, 31, 2, 8, 260), (2, 39, 2, 0, 250), (2, 43, 1, 0, 135), (2, 48, 1, 3, 147), (2, 55, 1, 7, 162), (2, 70, 2, 2, 254), (2, 73, 1, 5, 155), (2, 77, 1, 2, 144), (3, 9, 3, 2, 343), (3, 15, 3, 3, 344), (3, 18, 3, 4, 345), (3, 22, 3, 0, 340), (3, 26, 1, 0, 133), (3, 32, 3, 1, 342), (3, 33, 1, 7, 160), (3, 34, 1, 8, 165), (3, 35, 1, 9, 170), (4, 7, 4, 0, 97), (4, 13, 4, 1, 102), (4, 16, 4, 2, 107), (4, 19, 4, 3, 112), (5, 14, 5, 1, 289), (5, 20, 5, 2, 290), (5, 23, 5, 3, 291), (5, 27, 5, 4, 292), (5, 31, 5, 0, 288), (5, 35, 4, 3, 113), (5, 42, 1, 3, 148), (5, 48, 1, 7, 161), (5, 64, 4, 0, 98), (5, 67, 4, 1, 103), (5, 70, 4, 2, 108), (6, 9, 6, 2, 224), (6, 15, 6, 3, 225), (6, 18, 6, 4, 226), (6, 21, 6, 5, 227), (6, 25, 6, 6, 228), (6, 33, 6, 0, 221), (6, 41, 1, 3, 149), (6, 58, 6, 1, 223), (6, 61, 1, 0, 137), (7, 9, 7, 0, 203), (7, 15, 7, 1, 206), (7, 18, 7, 2, 207), (7, 22, 1, 0, 134), (7, 28, 1, 4, 152), (7, 39, 1, 1, 140), (7, 46, 4, 3, 114), (7, 55, 4, 0, 99), (7, 58, 4, 1, 104), (7, 61, 4, 2, 109), (7, 68, 1, 8, 166), (8, 9, 8, 0, 81), (8, 15, 8, 1, 83), (8, 23, 4, 1, 105), (8, 28, 4, 2, 110), (8, 31, 4, 3, 115), (8, 38, 4, 0, 100), (9, 10, 9, 0, 357), (9, 21, 9, 1, 358), (9, 28, 9, 2, 359), (9, 37, 9, 3, 360), (9, 46, 9, 4, 361), (9, 53, 9, 5, 362), (9, 60, 9, 6, 363), (9, 67, 9, 7, 364), (9, 74, 9, 8, 365), (9, 82, 8, 1, 84), (9, 102, 9, 9, 366), (9, 108, 4, 0, 101), (9, 111, 4, 1, 106), (9, 114, 4, 2, 111), (9, 117, 4, 3, 116), (9, 134, 1, 0, 138), (9, 146, 1, 1, 141), (9, 150, 1, 2, 145), (9, 153, 1, 5, 156), (9, 157, 1, 3, 150), (9, 160, 1, 4, 153), (9, 163, 7, 0, 205), (9, 166, 1, 8, 167), (9, 169, 1, 9, 171), (9, 172, 1, 6, 158), (9, 178, 1, 7, 163), (9, 193, 9, 10, 367), (9, 199, 6, 0, 222), (9, 207, 2, 0, 251), (9, 210, 2, 1, 253), (9, 231, 0, 0, 311), (9, 234, 0, 1, 313), (9, 243, 3, 0, 341), (9, 264, 8, 0, 82)]
def am_kis : List (Nat × Nat × Int32 × Nat) := [(11, 265, 1431655765, 702), (11, 266, 858993459, 703), (11, 267, 252645135, 704), (10, 79, 53248, 748)]
def am_kls : List (Nat × Nat × Int64 × Nat) := [(10, 96, 255, 862), (10, 108, 50, 882), (10, 110, 53, 883), (10, 127, 3, 895), (10, 141, 4, 900), (10, 147, 5, 916), (10, 177, -1, 965), (10, 227, 10, 1058), (10, 229, 21, 1059), (10, 246, 31, 1105), (10, 252, 601, 1100), (9, 253, 601, 733), (9, 255, 31, 734)]
/-- the cells: an array (of booleans or not, its length) or an object (its class, its fields: 0 an int, 1 the long, 2 a boolean, k + 3 the cell k) -/
def am_shl : List ((Bool × Nat) ⊕ (Nat × List Nat)) := [.inr (9, [4, 6, 7, 18, 24, 28, 34, 37, 41, 0, 0]), .inr (8, [5, 0]), .inl (false, 16), .inr (4, [0, 0, 0, 0]), .inr (1, [0, 8, 9, 10, 11, 12, 13, 14, 15, 16, 17]), .inl (false, 12), .inl (false, 12), .inl (false, 12), .inl (false, 12), .inl (true, 12), .inl (false, 12), .inl (false, 12), .inl (false, 12), .inl (true, 12), .inl (false, 144), .inr (7, [19, 20, 7]), .inl (false, 12), .inl (false, 12), .inr (7, [22, 23, 7]), .inl (false, 12), .inl (false, 12), .inr (6, [0, 0, 25, 26, 27, 7, 21]), .inl (false, 4), .inl (false, 4), .inl (false, 12), .inr (2, [0, 29, 0, 30, 31, 32, 33, 7, 21]), .inl (false, 12), .inl (false, 3), .inl (false, 3), .inl (false, 12), .inl (false, 12), .inr (5, [0, 35, 36, 7, 21]), .inr (4, [0, 0, 0, 0]), .inr (4, [0, 0, 0, 0]), .inr (0, [0, 38, 39, 40, 0, 7, 18]), .inl (false, 12), .inl (false, 12), .inl (false, 12), .inr (3, [2, 0, 42, 43, 44]), .inl (false, 12), .inl (false, 12), .inl (true, 12), .inr (10, [46, 0, 47, 48, 0, 0, 0, 0, 49, 50, 51, 52, 53, 54, 55, 56, 57, 58, 59, 60, 61, 0, 62, 63, 64, 65, 66, 67, 68, 69, 70, 71, 0, 0, 72, 1]), .inl (false, 16), .inl (false, 4), .inl (false, 4), .inl (false, 12), .inl (false, 12), .inl (false, 12), .inl (false, 12), .inl (false, 12), .inl (false, 12), .inl (false, 12), .inl (false, 12), .inl (false, 12), .inl (false, 12), .inl (false, 12), .inl (false, 4), .inl (false, 12), .inl (false, 12), .inl (false, 4), .inl (false, 12), .inl (false, 3), .inl (false, 4), .inl (false, 12), .inl (false, 12), .inl (false, 53248), .inl (false, 12), .inl (false, 12), .inl (false, 36)]
abbrev am_N : Nat := 70
def am_mr (own idx : Nat) : Option Nat := (am_calls.find? (fun q => q.1 == own && q.2.1 == idx)).map (fun q => q.2.2.1)
def am_fr (own idx : Nat) : Option (Nat × Nat) := (am_flds.find? (fun q => q.1 == own && q.2.1 == idx)).map (fun q => (q.2.2.1, q.2.2.2.1))
def am_mm (own idx : Nat) : Option Bool := (am_maths.find? (fun q => q.1 == own && q.2.1 == idx)).map (fun q => q.2.2.1)
def am_ki (own idx : Nat) : Option Int32 := (am_kis.find? (fun q => q.1 == own && q.2.1 == idx)).map (fun q => q.2.2.1)
def am_kl (own idx : Nat) : Option Int64 := (am_kls.find? (fun q => q.1 == own && q.2.1 == idx)).map (fun q => q.2.2.1)
def am_sh (k : Nat) : Option ((Bool × Nat) ⊕ (Nat × List Nat)) := am_shl[k]?
/-! the abstract machine: a reference is the number of a cell; the cells' numbers are σ, the one long is τ -/
abbrev am_St : Type := Nat → Nat → Int32
abbrev am_X : Type := Nat × List Value × List Value × am_St × Int64
abbrev am_Rs : Type := Option Value × am_St × Int64
abbrev am_Res : Type := Option (Option Value ⊕ am_X ⊕ (Nat × List Value × List Value))
def am_up (σ : am_St) (k j : Nat) (v : Int32) : am_St := fun a => if a = k then upd (σ a) j v else σ a
def am_set1 (ls : List Value) (i : Nat) (v : Value) : List Value := match i with
  | 0 => ls.set 0 v
  | j + 1 => (match ls[j]? with
    | some w => if w.category = 2 then ls.set j .null else ls
    | none => ls).set (j + 1) v
def am_set2 (ls : List Value) (i : Nat) (v : Value) : List Value := (am_set1 ls i v).set (i + 1) .null
def am_nx (pc : Nat) (ls st : List Value) (σ : am_St) (τ : Int64) : am_Res := some (.inr (.inl (pc, ls, st, σ, τ)))
def am_tg (pc : Nat) (off : Int) : Nat := ((pc : Int) + off).toNat
def am_cond (c : ClassFile.Cond) (x y : Int32) : Bool := match c with
  | .eq => decide (x = y)
  | .ne => decide (¬ x = y)
  | .lt => decide (x < y)
  | .ge => decide (y ≤ x)
  | .gt => decide (y < x)
  | .le => decide (x ≤ y)
def am_jmp (pc : Nat) (off : Int) (ls st : List Value) (σ : am_St) (τ : Int64) : am_Res := if 0 ≤ (pc : Int) + off then am_nx (am_tg pc off) ls st σ τ else none
def am_fv0 (σ : am_St) (τ : Int64) (k j f : Nat) : Value := match f with
  | 0 => .int (σ k j)
  | 1 => .long τ
  | 2 => .int (σ k j)
  | t + 3 => .ref t
def am_cats (st : List Value) : Nat := (st.map fun v => v.category).sum
def am_flat (as : List Value) : List Value := as.flatMap fun v => if v.category = 2 then [v, .null] else [v]
def am_en (n : Nat) (as : List Value) : List Value := am_flat as ++ List.replicate (n - (am_flat as).length) .null
def am_ldi (pc : Nat) (v : Value) (ls st : List Value) (σ : am_St) (τ : Int64) : am_Res := match v with
  | .int x => am_nx pc ls (.int x :: st) σ τ
  | _ => none
def am_ldl (pc : Nat) (v : Value) (ls st : List Value) (σ : am_St) (τ : Int64) : am_Res := match v with
  | .long x => am_nx pc ls (.long x :: st) σ τ
  | _ => none
def am_lda (pc : Nat) (v : Value) (ls st : List Value) (σ : am_St) (τ : Int64) : am_Res := match v with
  | .ref x => am_nx pc ls (.ref x :: st) σ τ
  | _ => none
def am_sti (pc mx i : Nat) (ls st : List Value) (σ : am_St) (τ : Int64) : am_Res := match st with
  | .int x :: st => if i < mx then am_nx pc (am_set1 ls i (.int x)) st σ τ else none
  | _ => none
def am_stl (pc mx i : Nat) (ls st : List Value) (σ : am_St) (τ : Int64) : am_Res := match st with
  | .long x :: st => if i + 1 < mx then am_nx pc (am_set2 ls i (.long x)) st σ τ else none
  | _ => none
def am_iin (pc mx i : Nat) (n : Int) (v : Value) (ls st : List Value) (σ : am_St) (τ : Int64) : am_Res := match v with
  | .int x => if i < mx then am_nx pc (am_set1 ls i (.int (x + Int32.ofInt n))) st σ τ else none
  | _ => none
def am_i1 (f : Int32 → Value) (pc : Nat) (ls st : List Value) (σ : am_St) (τ : Int64) : am_Res := match st with
  | .int x :: st => am_nx (pc + 1) ls (f x :: st) σ τ
  | _ => none
def am_i2 (f : Int32 → Int32 → Int32) (pc : Nat) (ls st : List Value) (σ : am_St) (τ : Int64) : am_Res := match st with
  | .int y :: .int x :: st => am_nx (pc + 1) ls (.int (f x y) :: st) σ τ
  | _ => none
def am_d2 (f : Int32 → Int32 → Int32) (pc : Nat) (ls st : List Value) (σ : am_St) (τ : Int64) : am_Res := match st with
  | .int y :: .int x :: st => if y = 0 then none else am_nx (pc + 1) ls (.int (f x y) :: st) σ τ
  | _ => none
def am_l2 (f : Int64 → Int64 → Int64) (pc : Nat) (ls st : List Value) (σ : am_St) (τ : Int64) : am_Res := match st with
  | .long y :: .long x :: st => am_nx (pc + 1) ls (.long (f x y) :: st) σ τ
  | _ => none
def am_getf (own i pc : Nat) (ls st : List Value) (σ : am_St) (τ : Int64) : am_Res := match st with
  | .ref k :: st => match am_fr own i, am_sh k with
    | some (ci, j), some (.inr (cj, fds)) => if ci = cj then (match fds[j]? with
      | some f => am_nx pc ls (am_fv0 σ τ k j f :: st) σ τ
      | none => none) else none
    | _, _ => none
  | _ => none
def am_putf (own i pc : Nat) (ls st : List Value) (σ : am_St) (τ : Int64) : am_Res := match st with
  | .int x :: .ref k :: st => match am_fr own i, am_sh k with
    | some (ci, j), some (.inr (cj, fds)) => if ci = cj then (match fds[j]? with
      | some 0 => am_nx pc ls st (am_up σ k j x) τ
      | some 2 => if x = 0 ∨ x = 1 then am_nx pc ls st (am_up σ k j x) τ else none
      | _ => none) else none
    | _, _ => none
  | .long x :: .ref k :: st => match am_fr own i with
    | some (ci, j) => if k = 42 ∧ ci = 10 ∧ j = 35 then am_nx pc ls st σ x else none
    | none => none
  | _ => none
def am_ald (z : Bool) (pc : Nat) (ls st : List Value) (σ : am_St) (τ : Int64) : am_Res := match st with
  | .int i :: .ref k :: st => match am_sh k with
    | some (.inl (z', n)) => if z' = z ∧ ¬ (i < 0 ∨ n ≤ i.toNatClampNeg) then am_nx (pc + 1) ls (.int (σ k i.toNatClampNeg) :: st) σ τ else none
    | _ => none
  | _ => none
def am_ast (z : Bool) (pc : Nat) (ls st : List Value) (σ : am_St) (τ : Int64) : am_Res := match st with
  | .int x :: .int i :: .ref k :: st => match am_sh k with
    | some (.inl (z', n)) => if z' = z ∧ ¬ (i < 0 ∨ n ≤ i.toNatClampNeg) then am_nx (pc + 1) ls st (am_up σ k i.toNatClampNeg (if z = true then vp_nar .boolean x else x)) τ else none
    | _ => none
  | _ => none
def am_invv (own i : Nat) (st : List Value) : am_Res := match am_mr own i with
  | some q => if am_st q = false ∧ q < am_NM then (match st.drop (am_np q) with
    | .ref k :: rest => (match am_sh k with
      | some (.inr (ci, _)) => if ci = am_cl q ∧ am_np q ≤ st.length ∧ am_cats rest ≤ 8 ∧ (am_flat (.ref k :: (st.take (am_np q)).reverse)).length ≤ am_mxl q then some (.inr (.inr (q, .ref k :: (st.take (am_np q)).reverse, rest))) else none
      | _ => none)
    | _ => none) else none
  | none => none
def am_invs (own i : Nat) (st : List Value) : am_Res := match am_mr own i with
  | some q => if am_st q = true ∧ q < am_NM ∧ am_np q ≤ st.length ∧ am_cats (st.drop (am_np q)) ≤ 8 ∧ (am_flat ((st.take (am_np q)).reverse)).length ≤ am_mxl q then some (.inr (.inr (q, (st.take (am_np q)).reverse, st.drop (am_np q)))) else none
  | none => none
def am_mth (b : Bool) (pc : Nat) (ls st : List Value) (σ : am_St) (τ : Int64) : am_Res := match st with
  | .int y :: .int x :: st => if am_cats st ≤ 8 then am_nx (pc + 3) ls (.int (if b = true then (if x < y then y else x) else (if y < x then y else x)) :: st) σ τ else none
  | _ => none
def am_iret (m : Nat) (st : List Value) : am_Res := match st, am_rt m with
  | [.int v], some .int => some (.inl (some (.int v)))
  | [.int v], some .boolean => if v = 0 ∨ v = 1 then some (.inl (some (.int v))) else none
  | _, _ => none
def am_lret (m : Nat) (st : List Value) : am_Res := match st, am_rt m with
  | [.long v], some .long => some (.inl (some (.long v)))
  | _, _ => none
def am_vret (m : Nat) (st : List Value) : am_Res := match st, am_rt m with
  | [], none => some (.inl none)
  | _, _ => none
def am_op (ins : Instr) (len m pc : Nat) (ls st : List Value) (σ : am_St) (τ : Int64) : am_Res := match ins, len with
  | .iconst n, 1 => am_nx (pc + 1) ls (.int (Int32.ofInt n) :: st) σ τ
  | .bipush n, 2 => am_nx (pc + 2) ls (.int (Int8.ofInt n).toInt32 :: st) σ τ
  | .sipush n, 3 => am_nx (pc + 3) ls (.int (Int16.ofInt n).toInt32 :: st) σ τ
  | .lconst n, 1 => am_nx (pc + 1) ls (.long (Int64.ofNat (n : Nat)) :: st) σ τ
  | .ldc_w i, 3 => (match am_ki (am_cl m) i with | some v => am_nx (pc + 3) ls (.int v :: st) σ τ | none => none)
  | .ldc2_w i, 3 => (match am_kl (am_cl m) i with | some v => am_nx (pc + 3) ls (.long v :: st) σ τ | none => none)
  | .iload_n k, 1 => am_ldi (pc + 1) (ls.getD k .null) ls st σ τ
  | .iload k, 2 => am_ldi (pc + 2) (ls.getD k .null) ls st σ τ
  | .lload_n k, 1 => am_ldl (pc + 1) (ls.getD k .null) ls st σ τ
  | .lload k, 2 => am_ldl (pc + 2) (ls.getD k .null) ls st σ τ
  | .aload_n k, 1 => am_lda (pc + 1) (ls.getD k .null) ls st σ τ
  | .aload k, 2 => am_lda (pc + 2) (ls.getD k .null) ls st σ τ
  | .istore_n k, 1 => am_sti (pc + 1) (am_mxl m) k ls st σ τ
  | .istore k, 2 => am_sti (pc + 2) (am_mxl m) k ls st σ τ
  | .lstore_n k, 1 => am_stl (pc + 1) (am_mxl m) k ls st σ τ
  | .lstore k, 2 => am_stl (pc + 2) (am_mxl m) k ls st σ τ
  | .iinc i n, 3 => am_iin (pc + 3) (am_mxl m) i n (ls.getD i .null) ls st σ τ
  | .iadd, 1 => am_i2 (fun x y => x + y) pc ls st σ τ
  | .isub, 1 => am_i2 (fun x y => x - y) pc ls st σ τ
  | .imul, 1 => am_i2 (fun x y => x * y) pc ls st σ τ
  | .iand, 1 => am_i2 (fun x y => x &&& y) pc ls st σ τ
  | .ior, 1 => am_i2 (fun x y => x ||| y) pc ls st σ τ
  | .ixor, 1 => am_i2 (fun x y => x ^^^ y) pc ls st σ τ
  | .ishl, 1 => am_i2 (fun x y => x <<< (y &&& 31)) pc ls st σ τ
  | .ishr, 1 => am_i2 (fun x y => x >>> (y &&& 31)) pc ls st σ τ
  | .iushr, 1 => am_i2 (fun x y => (x.toUInt32 >>> (y.toUInt32 &&& Int32.toUInt32 31)).toInt32) pc ls st σ τ
  | .idiv, 1 => am_d2 (fun x y => x / y) pc ls st σ τ
  | .irem, 1 => am_d2 (fun x y => x - x / y * y) pc ls st σ τ
  | .ladd, 1 => am_l2 (fun x y => x + y) pc ls st σ τ
  | .lmul, 1 => am_l2 (fun x y => x * y) pc ls st σ τ
  | .land, 1 => am_l2 (fun x y => x &&& y) pc ls st σ τ
  | .lushr, 1 => (match st with | .int y :: .long x :: st => am_nx (pc + 1) ls (.long (x.toUInt64 >>> (y.toInt64.toUInt64 &&& Int64.toUInt64 63)).toInt64 :: st) σ τ | _ => none)
  | .lcmp, 1 => (match st with | .long y :: .long x :: st => am_nx (pc + 1) ls (.int (lg_cmp x y) :: st) σ τ | _ => none)
  | .i2l, 1 => (match st with | .int x :: st => am_nx (pc + 1) ls (.long x.toInt64 :: st) σ τ | _ => none)
  | .l2i, 1 => (match st with | .long x :: st => am_nx (pc + 1) ls (.int x.toInt32 :: st) σ τ | _ => none)
  | .dup, 1 => (match st with | v :: st => if v.category = 1 then am_nx (pc + 1) ls (v :: v :: st) σ τ else none | _ => none)
  | .dup2, 1 => (match st with | v :: w :: st => if v.category = 1 ∧ w.category = 1 then am_nx (pc + 1) ls (v :: w :: v :: w :: st) σ τ else none | _ => none)
  | .goto off, 3 => am_jmp pc off ls st σ τ
  | .ifCond c off, 3 => (match st with | .int x :: st => if 0 ≤ (pc : Int) + off then am_nx (if am_cond c x 0 = true then am_tg pc off else pc + 3) ls st σ τ else none | _ => none)
  | .if_icmp c off, 3 => (match st with | .int y :: .int x :: st => if 0 ≤ (pc : Int) + off then am_nx (if am_cond c x y = true then am_tg pc off else pc + 3) ls st σ τ else none | _ => none)
  | .tableswitch dflt lo hi offs, _ => (match st with
    | .int x :: st => if x.toInt < lo ∨ hi < x.toInt then am_jmp pc dflt ls st σ τ else (match offs[(x.toInt - lo).toNat]? with | some off => am_jmp pc off ls st σ τ | none => none)
    | _ => none)
  | .lookupswitch dflt ps, _ => (match st with
    | .int x :: st => if (ps.toList.zip (ps.toList.drop 1)).all (fun (a, next) => a.1 < next.1) = true then am_jmp pc (Op.lookupswitch.offset ps.toList dflt x.toInt) ls st σ τ else none
    | _ => none)
  | .getfield i, 3 => am_getf (am_cl m) i (pc + 3) ls st σ τ
  | .putfield i, 3 => am_putf (am_cl m) i (pc + 3) ls st σ τ
  | .iaload, 1 => am_ald false pc ls st σ τ
  | .baload, 1 => am_ald true pc ls st σ τ
  | .iastore, 1 => am_ast false pc ls st σ τ
  | .bastore, 1 => am_ast true pc ls st σ τ
  | .invokevirtual i, 3 => am_invv (am_cl m) i st
  | .invokestatic i, 3 => (match am_mm (am_cl m) i with
    | some b => am_mth b pc ls st σ τ
    | none => am_invs (am_cl m) i st)
  | .ireturn, 1 => am_iret m st
  | .lreturn, 1 => am_lret m st
  | .return_, 1 => am_vret m st
  | _, _ => none
def am_step (m pc : Nat) (ls st : List Value) (σ : am_St) (τ : Int64) : am_Res := match decode (am_code m) pc with
  | .ok (ins, len) => am_op ins len m pc ls st σ τ
  | .error _ => none
/-- n steps at most, calls d deep at most -/
def am_ev : Nat → Nat → Nat → Nat → List Value → List Value → am_St → Int64 → Option am_Rs
  | 0, _, _, _, _, _, _, _ => none
  | n + 1, d, m, pc, ls, st, σ, τ => match am_step m pc ls st σ τ with
    | none => none
    | some (.inl v) => some (v, σ, τ)
    | some (.inr (.inl (pc', ls', st', σ', τ'))) => am_ev n d m pc' ls' st' σ' τ'
    | some (.inr (.inr (q, as, rest))) => match d with
      | 0 => none
      | d' + 1 => match am_ev n d' q 0 (am_en (am_mxl q) as) [] σ τ with
        | none => none
        | some (v, σ', τ') => am_ev n (d' + 1) m (pc + 3) ls (v.toList ++ rest) σ' τ'
theorem am_mono : ∀ (n d m pc : Nat) (ls st : List Value) (σ : am_St) (τ : Int64) (r : am_Rs), am_ev n d m pc ls st σ τ = some r → am_ev (n + 1) d m pc ls st σ τ = some r := by
  intro n
  induction n with
  | zero => intro d m pc ls st σ τ r h; cases h
  | succ n ih =>
    intro d m pc ls st σ τ r h
    rw [am_ev] at h ⊢
    cases hs : am_step m pc ls st σ τ with
    | none => rw [hs] at h; cases h
    | some x =>
      rw [hs] at h
      match x, h with
      | .inl v, h => exact h
      | .inr (.inl (pc', ls', st', σ', τ')), h => exact ih _ _ _ _ _ _ _ _ h
      | .inr (.inr (q, as, rest)), h =>
        match d, h with
        | 0, h => cases h
        | d' + 1, h =>
          dsimp only at h ⊢
          cases hc : am_ev n d' q 0 (am_en (am_mxl q) as) [] σ τ with
          | none => rw [hc] at h; cases h
          | some y =>
            obtain ⟨v, σ', τ'⟩ := y
            rw [hc] at h
            rw [ih _ _ _ _ _ _ _ _ hc]
            exact ih _ _ _ _ _ _ _ _ h
theorem am_mono_le {n k : Nat} (hk : n ≤ k) {d m pc : Nat} {ls st : List Value} {σ : am_St} {τ : Int64} {r : am_Rs} (h : am_ev n d m pc ls st σ τ = some r) : am_ev k d m pc ls st σ τ = some r := by
  induction hk with
  | refl => exact h
  | step _ ih => exact am_mono _ _ _ _ _ _ _ _ _ ih
theorem am_det {n k d m pc : Nat} {ls st : List Value} {σ : am_St} {τ : Int64} {r r' : am_Rs} (h : am_ev n d m pc ls st σ τ = some r) (h' : am_ev k d m pc ls st σ τ = some r') : r = r' := by
  have h1 := am_mono_le (Nat.le_max_left n k) h
  have h2 := am_mono_le (Nat.le_max_right n k) h'
  exact Option.some.inj (h1.symm.trans h2)
/-- the machine without a count of its steps -/
noncomputable def am_run (d m pc : Nat) (ls st : List Value) (σ : am_St) (τ : Int64) : Option am_Rs :=
  @dite (Option am_Rs) (∃ n r, am_ev n d m pc ls st σ τ = some r) (Classical.propDecidable _) (fun h => some h.choose_spec.choose) (fun _ => none)
theorem am_run_iff {d m pc : Nat} {ls st : List Value} {σ : am_St} {τ : Int64} {r : am_Rs} : am_run d m pc ls st σ τ = some r ↔ ∃ n, am_ev n d m pc ls st σ τ = some r := by
  unfold am_run
  constructor
  · intro h
    split at h
    · rename_i hh
      have := hh.choose_spec.choose_spec
      cases h
      exact ⟨_, this⟩
    · cases h
  · rintro ⟨n, h⟩
    have hh : ∃ n r, am_ev n d m pc ls st σ τ = some r := ⟨n, r, h⟩
    rw [dif_pos hh]
    exact congrArg some (am_det hh.choose_spec.choose_spec h)
theorem am_run_ext {d m pc d' m' pc' : Nat} {ls st ls' st' : List Value} {σ σ' : am_St} {τ τ' : Int64} (h : ∀ r, (∃ n, am_ev n d m pc ls st σ τ = some r) ↔ ∃ n, am_ev n d' m' pc' ls' st' σ' τ' = some r) : am_run d m pc ls st σ τ = am_run d' m' pc' ls' st' σ' τ' := by
  apply Option.ext
  intro r
  exact am_run_iff.trans ((h r).trans am_run_iff.symm)
theorem am_run_next {d m pc : Nat} {ls st : List Value} {σ : am_St} {τ : Int64} {pc' : Nat} {ls' st' : List Value} {σ' : am_St} {τ' : Int64} (h : am_step m pc ls st σ τ = am_nx pc' ls' st' σ' τ') : am_run d m pc ls st σ τ = am_run d m pc' ls' st' σ' τ' := by
  apply am_run_ext
  intro r
  constructor
  · rintro ⟨n, hn⟩
    cases n with
    | zero => cases hn
    | succ n => rw [am_ev, h] at hn; exact ⟨n, hn⟩
  · rintro ⟨n, hn⟩
    exact ⟨n + 1, by rw [am_ev, h]; exact hn⟩
theorem am_run_ret {d m pc : Nat} {ls st : List Value} {σ : am_St} {τ : Int64} {v : Option Value} (h : am_step m pc ls st σ τ = some (.inl v)) : am_run d m pc ls st σ τ = some (v, σ, τ) :=
  am_run_iff.mpr ⟨1, by rw [am_ev, h]⟩
noncomputable def am_call (d q : Nat) (as : List Value) (σ : am_St) (τ : Int64) : Option am_Rs := am_run d q 0 (am_en (am_mxl q) as) [] σ τ
theorem am_run_call {d m pc : Nat} {ls st : List Value} {σ : am_St} {τ : Int64} {q : Nat} {as rest : List Value} (h : am_step m pc ls st σ τ = some (.inr (.inr (q, as, rest)))) : am_run (d + 1) m pc ls st σ τ = (am_call d q as σ τ).bind (fun r => am_run (d + 1) m (pc + 3) ls (r.1.toList ++ rest) r.2.1 r.2.2) := by
  apply Option.ext
  intro r
  rw [am_run_iff, Option.bind_eq_some_iff]
  unfold am_call
  constructor
  · rintro ⟨n, hn⟩
    cases n with
    | zero => cases hn
    | succ n =>
      rw [am_ev, h] at hn
      dsimp only at hn
      cases hc : am_ev n d q 0 (am_en (am_mxl q) as) [] σ τ with
      | none => rw [hc] at hn; cases hn
      | some y =>
        rw [hc] at hn
        exact ⟨y, am_run_iff.mpr ⟨n, hc⟩, am_run_iff.mpr ⟨n, hn⟩⟩
  · rintro ⟨y, h1, h2⟩
    obtain ⟨n, h1⟩ := am_run_iff.mp h1
    obtain ⟨k, h2⟩ := am_run_iff.mp h2
    refine ⟨max n k + 1, ?_⟩
    rw [am_ev, h]
    dsimp only
    rw [am_mono_le (Nat.le_max_left n k) h1]
    exact am_mono_le (Nat.le_max_right n k) h2
end
section
/-! what the tables hold -/
def am_fchk (q : Nat × Nat × Nat × Nat × Nat) : Bool := match vwCl[q.2.2.1]? with
  | some (C, T, N) => decide (q.2.2.2.1 < N) && decide (lw_tbl[q.2.2.2.2]? = some (Cond.fieldLink (am_R q.1) q.2.1 C (T q.2.2.2.1).2.1 (T q.2.2.2.1).2.2.1)) && decide ((T q.2.2.2.1).1 = C)
  | none => false
def am_schj (T : u_T) (f : Option Nat) (j : Nat) : Bool := match f with
  | some 0 => decide (parseFieldDescriptor (T j).2.2.1 = some .int) && decide ((T j).2.2.2 = false)
  | some 1 => decide (parseFieldDescriptor (T j).2.2.1 = some .long) && decide ((T j).2.2.2 = false)
  | some 2 => decide (parseFieldDescriptor (T j).2.2.1 = some .boolean) && decide ((T j).2.2.2 = false)
  | some (t + 3) => decide (t < am_N)
  | none => false
def am_schk (x : (Bool × Nat) ⊕ (Nat × List Nat)) : Bool := match x with
  | .inl _ => true
  | .inr (ci, fds) => match vwCl[ci]? with
    | some (C, T, N) => decide (fds.length = N) && decide (C = am_R ci) && (List.range N).all (fun j => am_schj T fds[j]? j)
    | none => false
def am_mchk (q : Nat) : Bool := plainName (am_y q).cls && decide ((am_y q).cls = am_R (am_cl q)) && decide ((am_y q).cls ≠ "java/lang/invoke/MethodHandle") && decide ((am_y q).cls ≠ "java/lang/invoke/VarHandle") && decide ((parseMethodDescriptor (am_y q).desc).map (fun d => d.parameters.length) = some (am_np q)) && decide (am_mxl q ≤ 40) && decide (lw_tbl[am_pin q]? = some (Cond.initialized (am_y q).cls)) && (if am_st q = true then decide (lw_tbl[am_pa q]? = some (Cond.static (am_y q))) else decide (lw_tbl[am_pa q]? = some (Cond.instanceMethod (am_y q))) && decide (lw_tbl[am_pb q]? = some (Cond.selects (am_y q).cls (am_y q) (am_y q))))
def am_cchk (q : Nat × Nat × Nat × Nat) : Bool := decide (lw_tbl[q.2.2.2]? = some (Cond.methodLink (am_R q.1) q.2.1 (am_y q.2.2.1)))
set_option maxRecDepth 20000 in
theorem am_fok : am_flds.all am_fchk = true := by decide +kernel
set_option maxRecDepth 20000 in
theorem am_sok : am_shl.all am_schk = true := by decide +kernel
set_option maxRecDepth 20000 in
theorem am_mok0 : (List.range am_NM).all am_mchk = true := by decide +kernel
set_option maxRecDepth 20000 in
theorem am_cok : am_calls.all am_cchk = true := by decide +kernel
set_option maxRecDepth 20000 in
theorem am_kiok : am_kis.all (fun q => decide (lw_tbl[q.2.2.2]? = some (Cond.constant (am_R q.1) q.2.1 q.2.2.1))) = true := by decide +kernel
set_option maxRecDepth 20000 in
theorem am_klok : am_kls.all (fun q => decide (lw_tbl[q.2.2.2]? = some (Cond.constantLong (am_R q.1) q.2.1 q.2.2.1))) = true := by decide +kernel
/-- the words that calls may hand on -/
def am_tb : List Cond := lw_tbl.filter goodWord
theorem am_tb_of {w : Cond} (h : w ∈ lw_tbl) (hg : goodWord w = true) : w ∈ am_tb := List.mem_filter.mpr ⟨h, hg⟩
theorem am_fr_ok {own i ci j : Nat} (h : am_fr own i = some (ci, j)) : ∃ (C : String) (T : u_T) (N : Nat), vwCl[ci]? = some (C, T, N) ∧ j < N ∧ Cond.fieldLink (am_R own) i C (T j).2.1 (T j).2.2.1 ∈ am_tb ∧ (T j).1 = C := by
  unfold am_fr at h
  obtain ⟨q, h1, h2⟩ := Option.map_eq_some_iff.mp h
  have h3 := List.find?_some h1
  have h4 := List.all_eq_true.mp am_fok q (List.mem_of_find?_eq_some h1)
  simp only [Bool.and_eq_true, beq_iff_eq] at h3
  obtain ⟨a, b, x, y, z⟩ := q
  dsimp only at h2 h3
  obtain ⟨rfl, rfl⟩ := h3
  cases h2
  unfold am_fchk at h4
  dsimp only at h4
  split at h4
  · rename_i C T N hc
    simp only [Bool.and_eq_true, decide_eq_true_eq] at h4
    exact ⟨C, T, N, hc, h4.1.1, am_tb_of (List.mem_of_getElem? h4.1.2) rfl, h4.2⟩
  · cases h4
theorem am_sh_ok {k ci : Nat} {fds : List Nat} (h : am_sh k = some (.inr (ci, fds))) : ∃ (C : String) (T : u_T) (N : Nat), vwCl[ci]? = some (C, T, N) ∧ fds.length = N ∧ C = am_R ci ∧ ∀ j, j < N → am_schj T fds[j]? j = true := by
  have h4 := List.all_eq_true.mp am_sok _ (List.mem_of_getElem? h)
  unfold am_schk at h4
  dsimp only at h4
  split at h4
  · rename_i C T N hc
    simp only [Bool.and_eq_true, decide_eq_true_eq] at h4
    exact ⟨C, T, N, hc, h4.1.1, h4.1.2, fun j hj => List.all_eq_true.mp h4.2 j (List.mem_range.mpr hj)⟩
  · cases h4
theorem am_lay_in {C : String} {T : u_T} {N : Nat} (h : ∀ w ∈ u_ws C T N, w ∈ lw_tbl) : ∀ w ∈ u_ws C T N, w ∈ am_tb := by
  intro w hw
  refine am_tb_of (h w hw) ?_
  obtain ⟨k, -, rfl⟩ := List.mem_map.mp hw
  unfold u_lay
  split <;> rfl
theorem am_cls_ok {ci : Nat} {C : String} {T : u_T} {N : Nat} (h : vwCl[ci]? = some (C, T, N)) : (∀ w ∈ u_ws C T N, w ∈ am_tb) ∧ (∃ ty0 : Nat → FieldType, ∀ k, k < N → parseFieldDescriptor (T k).2.2.1 = some (ty0 k)) ∧ ∀ a, a < N → ∀ b, b < N → a ≠ b → (T a).2.1 ≠ (T b).2.1 := by
  match ci, h with
  | 0, h => cases h; exact ⟨am_lay_in inX0, ⟨tyX0, tyX0_ok⟩, nmX0⟩
  | 1, h => cases h; exact ⟨am_lay_in inX1, ⟨tyX1, tyX1_ok⟩, nmX1⟩
  | 2, h => cases h; exact ⟨am_lay_in inX2, ⟨tyX2, tyX2_ok⟩, nmX2⟩
  | 3, h => cases h; exact ⟨am_lay_in inX3, ⟨tyX3, tyX3_ok⟩, nmX3⟩
  | 4, h => cases h; exact ⟨am_lay_in inX4, ⟨tyX4, tyX4_ok⟩, nmX4⟩
  | 5, h => cases h; exact ⟨am_lay_in inX5, ⟨tyX5, tyX5_ok⟩, nmX5⟩
  | 6, h => cases h; exact ⟨am_lay_in inX6, ⟨tyX6, tyX6_ok⟩, nmX6⟩
  | 7, h => cases h; exact ⟨am_lay_in inX7, ⟨tyX7, tyX7_ok⟩, nmX7⟩
  | 8, h => cases h; exact ⟨am_lay_in inX8, ⟨tyX8, tyX8_ok⟩, nmX8⟩
  | 9, h => cases h; exact ⟨am_lay_in inX9, ⟨tyX9, tyX9_ok⟩, nmX9⟩
  | 10, h => cases h; exact ⟨am_lay_in inX10, ⟨tyX10, tyX10_ok⟩, nmX10⟩
  | ci + 11, h => cases h
set_option maxRecDepth 20000 in
theorem am_cd0 : lw_tbl[665]? = some (Cond.code (am_y 0) (am_code 0) (am_mxl 0) (am_rt 0)) := rfl
set_option maxRecDepth 20000 in
theorem am_cd1 : lw_tbl[674]? = some (Cond.code (am_y 1) (am_code 1) (am_mxl 1) (am_rt 1)) := rfl
set_option maxRecDepth 20000 in
theorem am_cd2 : lw_tbl[678]? = some (Cond.code (am_y 2) (am_code 2) (am_mxl 2) (am_rt 2)) := rfl
set_option maxRecDepth 20000 in
theorem am_cd3 : lw_tbl[690]? = some (Cond.code (am_y 3) (am_code 3) (am_mxl 3) (am_rt 3)) := rfl
set_option maxRecDepth 20000 in
theorem am_cd4 : lw_tbl[683]? = some (Cond.code (am_y 4) (am_code 4) (am_mxl 4) (am_rt 4)) := rfl
set_option maxRecDepth 20000 in
theorem am_cd5 : lw_tbl[686]? = some (Cond.code (am_y 5) (am_code 5) (am_mxl 5) (am_rt 5)) := rfl
set_option maxRecDepth 20000 in
theorem am_cd6 : lw_tbl[489]? = some (Cond.code (am_y 6) (am_code 6) (am_mxl 6) (am_rt 6)) := rfl
set_option maxRecDepth 20000 in
theorem am_cd7 : lw_tbl[485]? = some (Cond.code (am_y 7) (am_code 7) (am_mxl 7) (am_rt 7)) := rfl
set_option maxRecDepth 20000 in
theorem am_cd8 : lw_tbl[505]? = some (Cond.code (am_y 8) (am_code 8) (am_mxl 8) (am_rt 8)) := rfl
set_option maxRecDepth 20000 in
theorem am_cd9 : lw_tbl[477]? = some (Cond.code (am_y 9) (am_code 9) (am_mxl 9) (am_rt 9)) := rfl
set_option maxRecDepth 20000 in
theorem am_cd10 : lw_tbl[481]? = some (Cond.code (am_y 10) (am_code 10) (am_mxl 10) (am_rt 10)) := rfl
set_option maxRecDepth 20000 in
theorem am_cd11 : lw_tbl[497]? = some (Cond.code (am_y 11) (am_code 11) (am_mxl 11) (am_rt 11)) := rfl
set_option maxRecDepth 20000 in
theorem am_cd12 : lw_tbl[544]? = some (Cond.code (am_y 12) (am_code 12) (am_mxl 12) (am_rt 12)) := rfl
set_option maxRecDepth 20000 in
theorem am_cd13 : lw_tbl[728]? = some (Cond.code (am_y 13) (am_code 13) (am_mxl 13) (am_rt 13)) := rfl
set_option maxRecDepth 20000 in
theorem am_cd14 : lw_tbl[568]? = some (Cond.code (am_y 14) (am_code 14) (am_mxl 14) (am_rt 14)) := rfl
set_option maxRecDepth 20000 in
theorem am_cd15 : lw_tbl[501]? = some (Cond.code (am_y 15) (am_code 15) (am_mxl 15) (am_rt 15)) := rfl
set_option maxRecDepth 20000 in
theorem am_cd16 : lw_tbl[512]? = some (Cond.code (am_y 16) (am_code 16) (am_mxl 16) (am_rt 16)) := rfl
set_option maxRecDepth 20000 in
theorem am_cd17 : lw_tbl[515]? = some (Cond.code (am_y 17) (am_code 17) (am_mxl 17) (am_rt 17)) := rfl
set_option maxRecDepth 20000 in
theorem am_cd18 : lw_tbl[648]? = some (Cond.code (am_y 18) (am_code 18) (am_mxl 18) (am_rt 18)) := rfl
set_option maxRecDepth 20000 in
theorem am_cd19 : lw_tbl[656]? = some (Cond.code (am_y 19) (am_code 19) (am_mxl 19) (am_rt 19)) := rfl
set_option maxRecDepth 20000 in
theorem am_cd20 : lw_tbl[599]? = some (Cond.code (am_y 20) (am_code 20) (am_mxl 20) (am_rt 20)) := rfl
set_option maxRecDepth 20000 in
theorem am_cd21 : lw_tbl[603]? = some (Cond.code (am_y 21) (am_code 21) (am_mxl 21) (am_rt 21)) := rfl
set_option maxRecDepth 20000 in
theorem am_cd22 : lw_tbl[607]? = some (Cond.code (am_y 22) (am_code 22) (am_mxl 22) (am_rt 22)) := rfl
set_option maxRecDepth 20000 in
theorem am_cd23 : lw_tbl[614]? = some (Cond.code (am_y 23) (am_code 23) (am_mxl 23) (am_rt 23)) := rfl
set_option maxRecDepth 20000 in
theorem am_cd24 : lw_tbl[712]? = some (Cond.code (am_y 24) (am_code 24) (am_mxl 24) (am_rt 24)) := rfl
set_option maxRecDepth 20000 in
theorem am_cd25 : lw_tbl[720]? = some (Cond.code (am_y 25) (am_code 25) (am_mxl 25) (am_rt 25)) := rfl
set_option maxRecDepth 20000 in
theorem am_cd26 : lw_tbl[626]? = some (Cond.code (am_y 26) (am_code 26) (am_mxl 26) (am_rt 26)) := rfl
set_option maxRecDepth 20000 in
theorem am_cd27 : lw_tbl[640]? = some (Cond.code (am_y 27) (am_code 27) (am_mxl 27) (am_rt 27)) := rfl
set_option maxRecDepth 20000 in
theorem am_cd28 : lw_tbl[630]? = some (Cond.code (am_y 28) (am_code 28) (am_mxl 28) (am_rt 28)) := rfl
set_option maxRecDepth 20000 in
theorem am_cd29 : lw_tbl[636]? = some (Cond.code (am_y 29) (am_code 29) (am_mxl 29) (am_rt 29)) := rfl
set_option maxRecDepth 20000 in
theorem am_cd30 : lw_tbl[572]? = some (Cond.code (am_y 30) (am_code 30) (am_mxl 30) (am_rt 30)) := rfl
set_option maxRecDepth 20000 in
theorem am_cd31 : lw_tbl[591]? = some (Cond.code (am_y 31) (am_code 31) (am_mxl 31) (am_rt 31)) := rfl
set_option maxRecDepth 20000 in
theorem am_cd32 : lw_tbl[576]? = some (Cond.code (am_y 32) (am_code 32) (am_mxl 32) (am_rt 32)) := rfl
set_option maxRecDepth 20000 in
theorem am_cd33 : lw_tbl[581]? = some (Cond.code (am_y 33) (am_code 33) (am_mxl 33) (am_rt 33)) := rfl
set_option maxRecDepth 20000 in
theorem am_cd34 : lw_tbl[587]? = some (Cond.code (am_y 34) (am_code 34) (am_mxl 34) (am_rt 34)) := rfl
set_option maxRecDepth 20000 in
theorem am_cd35 : lw_tbl[442]? = some (Cond.code (am_y 35) (am_code 35) (am_mxl 35) (am_rt 35)) := rfl
set_option maxRecDepth 20000 in
theorem am_cd36 : lw_tbl[446]? = some (Cond.code (am_y 36) (am_code 36) (am_mxl 36) (am_rt 36)) := rfl
set_option maxRecDepth 20000 in
theorem am_cd37 : lw_tbl[450]? = some (Cond.code (am_y 37) (am_code 37) (am_mxl 37) (am_rt 37)) := rfl
set_option maxRecDepth 20000 in
theorem am_cd38 : lw_tbl[462]? = some (Cond.code (am_y 38) (am_code 38) (am_mxl 38) (am_rt 38)) := rfl
set_option maxRecDepth 20000 in
theorem am_cd39 : lw_tbl[454]? = some (Cond.code (am_y 39) (am_code 39) (am_mxl 39) (am_rt 39)) := rfl
set_option maxRecDepth 20000 in
theorem am_cd40 : lw_tbl[458]? = some (Cond.code (am_y 40) (am_code 40) (am_mxl 40) (am_rt 40)) := rfl
set_option maxRecDepth 20000 in
theorem am_cd41 : lw_tbl[556]? = some (Cond.code (am_y 41) (am_code 41) (am_mxl 41) (am_rt 41)) := rfl
set_option maxRecDepth 20000 in
theorem am_cd42 : lw_tbl[552]? = some (Cond.code (am_y 42) (am_code 42) (am_mxl 42) (am_rt 42)) := rfl
set_option maxRecDepth 20000 in
theorem am_cd43 : lw_tbl[560]? = some (Cond.code (am_y 43) (am_code 43) (am_mxl 43) (am_rt 43)) := rfl
set_option maxRecDepth 20000 in
theorem am_cd44 : lw_tbl[401]? = some (Cond.code (am_y 44) (am_code 44) (am_mxl 44) (am_rt 44)) := rfl
set_option maxRecDepth 20000 in
theorem am_cd45 : lw_tbl[413]? = some (Cond.code (am_y 45) (am_code 45) (am_mxl 45) (am_rt 45)) := rfl
set_option maxRecDepth 20000 in
theorem am_cd46 : lw_tbl[430]? = some (Cond.code (am_y 46) (am_code 46) (am_mxl 46) (am_rt 46)) := rfl
set_option maxRecDepth 20000 in
theorem am_cd47 : lw_tbl[434]? = some (Cond.code (am_y 47) (am_code 47) (am_mxl 47) (am_rt 47)) := rfl
set_option maxRecDepth 20000 in
theorem am_cd48 : lw_tbl[416]? = some (Cond.code (am_y 48) (am_code 48) (am_mxl 48) (am_rt 48)) := rfl
set_option maxRecDepth 20000 in
theorem am_cd49 : lw_tbl[422]? = some (Cond.code (am_y 49) (am_code 49) (am_mxl 49) (am_rt 49)) := rfl
set_option maxRecDepth 20000 in
theorem am_cd50 : lw_tbl[419]? = some (Cond.code (am_y 50) (am_code 50) (am_mxl 50) (am_rt 50)) := rfl
set_option maxRecDepth 20000 in
theorem am_cd51 : lw_tbl[394]? = some (Cond.code (am_y 51) (am_code 51) (am_mxl 51) (am_rt 51)) := rfl
set_option maxRecDepth 20000 in
theorem am_cd52 : lw_tbl[405]? = some (Cond.code (am_y 52) (am_code 52) (am_mxl 52) (am_rt 52)) := rfl
set_option maxRecDepth 20000 in
theorem am_cd53 : lw_tbl[409]? = some (Cond.code (am_y 53) (am_code 53) (am_mxl 53) (am_rt 53)) := rfl
set_option maxRecDepth 20000 in
theorem am_cd54 : lw_tbl[426]? = some (Cond.code (am_y 54) (am_code 54) (am_mxl 54) (am_rt 54)) := rfl
set_option maxRecDepth 20000 in
theorem am_cd55 : lw_tbl[466]? = some (Cond.code (am_y 55) (am_code 55) (am_mxl 55) (am_rt 55)) := rfl
set_option maxRecDepth 20000 in
theorem am_cd56 : lw_tbl[470]? = some (Cond.code (am_y 56) (am_code 56) (am_mxl 56) (am_rt 56)) := rfl
set_option maxRecDepth 20000 in
theorem am_cd57 : lw_tbl[522]? = some (Cond.code (am_y 57) (am_code 57) (am_mxl 57) (am_rt 57)) := rfl
set_option maxRecDepth 20000 in
theorem am_cd58 : lw_tbl[527]? = some (Cond.code (am_y 58) (am_code 58) (am_mxl 58) (am_rt 58)) := rfl
set_option maxRecDepth 20000 in
theorem am_cd59 : lw_tbl[531]? = some (Cond.code (am_y 59) (am_code 59) (am_mxl 59) (am_rt 59)) := rfl
set_option maxRecDepth 20000 in
theorem am_cd60 : lw_tbl[536]? = some (Cond.code (am_y 60) (am_code 60) (am_mxl 60) (am_rt 60)) := rfl
set_option maxRecDepth 20000 in
theorem am_cd61 : lw_tbl[540]? = some (Cond.code (am_y 61) (am_code 61) (am_mxl 61) (am_rt 61)) := rfl
set_option maxRecDepth 20000 in
theorem am_cd62 : lw_tbl[548]? = some (Cond.code (am_y 62) (am_code 62) (am_mxl 62) (am_rt 62)) := rfl
set_option maxRecDepth 20000 in
theorem am_cd63 : lw_tbl[564]? = some (Cond.code (am_y 63) (am_code 63) (am_mxl 63) (am_rt 63)) := rfl
set_option maxRecDepth 20000 in
theorem am_cd64 : lw_tbl[595]? = some (Cond.code (am_y 64) (am_code 64) (am_mxl 64) (am_rt 64)) := rfl
set_option maxRecDepth 20000 in
theorem am_cd65 : lw_tbl[618]? = some (Cond.code (am_y 65) (am_code 65) (am_mxl 65) (am_rt 65)) := rfl
set_option maxRecDepth 20000 in
theorem am_cd66 : lw_tbl[622]? = some (Cond.code (am_y 66) (am_code 66) (am_mxl 66) (am_rt 66)) := rfl
set_option maxRecDepth 20000 in
theorem am_cd67 : lw_tbl[644]? = some (Cond.code (am_y 67) (am_code 67) (am_mxl 67) (am_rt 67)) := rfl
set_option maxRecDepth 20000 in
theorem am_cd68 : lw_tbl[652]? = some (Cond.code (am_y 68) (am_code 68) (am_mxl 68) (am_rt 68)) := rfl
set_option maxRecDepth 20000 in
theorem am_cd69 : lw_tbl[661]? = some (Cond.code (am_y 69) (am_code 69) (am_mxl 69) (am_rt 69)) := rfl
set_option maxRecDepth 20000 in
theorem am_cd70 : lw_tbl[670]? = some (Cond.code (am_y 70) (am_code 70) (am_mxl 70) (am_rt 70)) := rfl
set_option maxRecDepth 20000 in
theorem am_cd71 : lw_tbl[694]? = some (Cond.code (am_y 71) (am_code 71) (am_mxl 71) (am_rt 71)) := rfl
set_option maxRecDepth 20000 in
theorem am_cd72 : lw_tbl[708]? = some (Cond.code (am_y 72) (am_code 72) (am_mxl 72) (am_rt 72)) := rfl
set_option maxRecDepth 20000 in
theorem am_cd73 : lw_tbl[716]? = some (Cond.code (am_y 73) (am_code 73) (am_mxl 73) (am_rt 73)) := rfl
set_option maxRecDepth 20000 in
theorem am_cd74 : lw_tbl[724]? = some (Cond.code (am_y 74) (am_code 74) (am_mxl 74) (am_rt 74)) := rfl
set_option maxRecDepth 20000 in
theorem am_cd75 : lw_tbl[732]? = some (Cond.code (am_y 75) (am_code 75) (am_mxl 75) (am_rt 75)) := rfl
set_option maxRecDepth 20000 in
theorem am_cd76 : lw_tbl[739]? = some (Cond.code (am_y 76) (am_code 76) (am_mxl 76) (am_rt 76)) := rfl
set_option maxRecDepth 20000 in
theorem am_cd77 : lw_tbl[438]? = some (Cond.code (am_y 77) (am_code 77) (am_mxl 77) (am_rt 77)) := rfl
set_option maxRecDepth 20000 in
theorem am_cd78 : lw_tbl[698]? = some (Cond.code (am_y 78) (am_code 78) (am_mxl 78) (am_rt 78)) := rfl
set_option maxRecDepth 20000 in
theorem am_cd79 : lw_tbl[397]? = some (Cond.code (am_y 79) (am_code 79) (am_mxl 79) (am_rt 79)) := rfl
set_option maxRecDepth 20000 in
theorem am_cd80 : lw_tbl[473]? = some (Cond.code (am_y 80) (am_code 80) (am_mxl 80) (am_rt 80)) := rfl
set_option maxRecDepth 20000 in
theorem am_cd81 : lw_tbl[493]? = some (Cond.code (am_y 81) (am_code 81) (am_mxl 81) (am_rt 81)) := rfl
set_option maxRecDepth 20000 in
theorem am_cd82 : lw_tbl[886]? = some (Cond.code (am_y 82) (am_code 82) (am_mxl 82) (am_rt 82)) := rfl
set_option maxRecDepth 20000 in
theorem am_cd83 : lw_tbl[861]? = some (Cond.code (am_y 83) (am_code 83) (am_mxl 83) (am_rt 83)) := rfl
set_option maxRecDepth 20000 in
theorem am_cd84 : lw_tbl[866]? = some (Cond.code (am_y 84) (am_code 84) (am_mxl 84) (am_rt 84)) := rfl
set_option maxRecDepth 20000 in
theorem am_cd85 : lw_tbl[881]? = some (Cond.code (am_y 85) (am_code 85) (am_mxl 85) (am_rt 85)) := rfl
set_option maxRecDepth 20000 in
theorem am_cd86 : lw_tbl[878]? = some (Cond.code (am_y 86) (am_code 86) (am_mxl 86) (am_rt 86)) := rfl
set_option maxRecDepth 20000 in
theorem am_cd87 : lw_tbl[874]? = some (Cond.code (am_y 87) (am_code 87) (am_mxl 87) (am_rt 87)) := rfl
set_option maxRecDepth 20000 in
theorem am_cd88 : lw_tbl[870]? = some (Cond.code (am_y 88) (am_code 88) (am_mxl 88) (am_rt 88)) := rfl
set_option maxRecDepth 20000 in
theorem am_cd89 : lw_tbl[890]? = some (Cond.code (am_y 89) (am_code 89) (am_mxl 89) (am_rt 89)) := rfl
set_option maxRecDepth 20000 in
theorem am_cd90 : lw_tbl[894]? = some (Cond.code (am_y 90) (am_code 90) (am_mxl 90) (am_rt 90)) := rfl
set_option maxRecDepth 20000 in
theorem am_cd91 : lw_tbl[915]? = some (Cond.code (am_y 91) (am_code 91) (am_mxl 91) (am_rt 91)) := rfl
set_option maxRecDepth 20000 in
theorem am_cd92 : lw_tbl[907]? = some (Cond.code (am_y 92) (am_code 92) (am_mxl 92) (am_rt 92)) := rfl
set_option maxRecDepth 20000 in
theorem am_cd93 : lw_tbl[911]? = some (Cond.code (am_y 93) (am_code 93) (am_mxl 93) (am_rt 93)) := rfl
set_option maxRecDepth 20000 in
theorem am_cd94 : lw_tbl[904]? = some (Cond.code (am_y 94) (am_code 94) (am_mxl 94) (am_rt 94)) := rfl
set_option maxRecDepth 20000 in
theorem am_cd95 : lw_tbl[899]? = some (Cond.code (am_y 95) (am_code 95) (am_mxl 95) (am_rt 95)) := rfl
set_option maxRecDepth 20000 in
theorem am_cd96 : lw_tbl[944]? = some (Cond.code (am_y 96) (am_code 96) (am_mxl 96) (am_rt 96)) := rfl
set_option maxRecDepth 20000 in
theorem am_cd97 : lw_tbl[948]? = some (Cond.code (am_y 97) (am_code 97) (am_mxl 97) (am_rt 97)) := rfl
set_option maxRecDepth 20000 in
theorem am_cd98 : lw_tbl[940]? = some (Cond.code (am_y 98) (am_code 98) (am_mxl 98) (am_rt 98)) := rfl
set_option maxRecDepth 20000 in
theorem am_cd99 : lw_tbl[936]? = some (Cond.code (am_y 99) (am_code 99) (am_mxl 99) (am_rt 99)) := rfl
set_option maxRecDepth 20000 in
theorem am_cd100 : lw_tbl[932]? = some (Cond.code (am_y 100) (am_code 100) (am_mxl 100) (am_rt 100)) := rfl
set_option maxRecDepth 20000 in
theorem am_cd101 : lw_tbl[928]? = some (Cond.code (am_y 101) (am_code 101) (am_mxl 101) (am_rt 101)) := rfl
set_option maxRecDepth 20000 in
theorem am_cd102 : lw_tbl[985]? = some (Cond.code (am_y 102) (am_code 102) (am_mxl 102) (am_rt 102)) := rfl
set_option maxRecDepth 20000 in
theorem am_cd103 : lw_tbl[952]? = some (Cond.code (am_y 103) (am_code 103) (am_mxl 103) (am_rt 103)) := rfl
set_option maxRecDepth 20000 in
theorem am_cd104 : lw_tbl[924]? = some (Cond.code (am_y 104) (am_code 104) (am_mxl 104) (am_rt 104)) := rfl
set_option maxRecDepth 20000 in
theorem am_cd105 : lw_tbl[920]? = some (Cond.code (am_y 105) (am_code 105) (am_mxl 105) (am_rt 105)) := rfl
set_option maxRecDepth 20000 in
theorem am_cd106 : lw_tbl[956]? = some (Cond.code (am_y 106) (am_code 106) (am_mxl 106) (am_rt 106)) := rfl
set_option maxRecDepth 20000 in
theorem am_cd107 : lw_tbl[960]? = some (Cond.code (am_y 107) (am_code 107) (am_mxl 107) (am_rt 107)) := rfl
set_option maxRecDepth 20000 in
theorem am_cd108 : lw_tbl[964]? = some (Cond.code (am_y 108) (am_code 108) (am_mxl 108) (am_rt 108)) := rfl
set_option maxRecDepth 20000 in
theorem am_cd109 : lw_tbl[973]? = some (Cond.code (am_y 109) (am_code 109) (am_mxl 109) (am_rt 109)) := rfl
set_option maxRecDepth 20000 in
theorem am_cd110 : lw_tbl[969]? = some (Cond.code (am_y 110) (am_code 110) (am_mxl 110) (am_rt 110)) := rfl
set_option maxRecDepth 20000 in
theorem am_cd111 : lw_tbl[981]? = some (Cond.code (am_y 111) (am_code 111) (am_mxl 111) (am_rt 111)) := rfl
set_option maxRecDepth 20000 in
theorem am_cd112 : lw_tbl[977]? = some (Cond.code (am_y 112) (am_code 112) (am_mxl 112) (am_rt 112)) := rfl
set_option maxRecDepth 20000 in
theorem am_cd113 : lw_tbl[993]? = some (Cond.code (am_y 113) (am_code 113) (am_mxl 113) (am_rt 113)) := rfl
set_option maxRecDepth 20000 in
theorem am_cd114 : lw_tbl[989]? = some (Cond.code (am_y 114) (am_code 114) (am_mxl 114) (am_rt 114)) := rfl
set_option maxRecDepth 20000 in
theorem am_cd115 : lw_tbl[1005]? = some (Cond.code (am_y 115) (am_code 115) (am_mxl 115) (am_rt 115)) := rfl
set_option maxRecDepth 20000 in
theorem am_cd116 : lw_tbl[1001]? = some (Cond.code (am_y 116) (am_code 116) (am_mxl 116) (am_rt 116)) := rfl
set_option maxRecDepth 20000 in
theorem am_cd117 : lw_tbl[997]? = some (Cond.code (am_y 117) (am_code 117) (am_mxl 117) (am_rt 117)) := rfl
set_option maxRecDepth 20000 in
theorem am_cd118 : lw_tbl[1013]? = some (Cond.code (am_y 118) (am_code 118) (am_mxl 118) (am_rt 118)) := rfl
set_option maxRecDepth 20000 in
theorem am_cd119 : lw_tbl[1009]? = some (Cond.code (am_y 119) (am_code 119) (am_mxl 119) (am_rt 119)) := rfl
set_option maxRecDepth 20000 in
theorem am_cd120 : lw_tbl[1025]? = some (Cond.code (am_y 120) (am_code 120) (am_mxl 120) (am_rt 120)) := rfl
set_option maxRecDepth 20000 in
theorem am_cd121 : lw_tbl[1021]? = some (Cond.code (am_y 121) (am_code 121) (am_mxl 121) (am_rt 121)) := rfl
set_option maxRecDepth 20000 in
theorem am_cd122 : lw_tbl[1017]? = some (Cond.code (am_y 122) (am_code 122) (am_mxl 122) (am_rt 122)) := rfl
set_option maxRecDepth 20000 in
theorem am_cd123 : lw_tbl[1037]? = some (Cond.code (am_y 123) (am_code 123) (am_mxl 123) (am_rt 123)) := rfl
set_option maxRecDepth 20000 in
theorem am_cd124 : lw_tbl[1033]? = some (Cond.code (am_y 124) (am_code 124) (am_mxl 124) (am_rt 124)) := rfl
set_option maxRecDepth 20000 in
theorem am_cd125 : lw_tbl[1029]? = some (Cond.code (am_y 125) (am_code 125) (am_mxl 125) (am_rt 125)) := rfl
set_option maxRecDepth 20000 in
theorem am_cd126 : lw_tbl[1045]? = some (Cond.code (am_y 126) (am_code 126) (am_mxl 126) (am_rt 126)) := rfl
set_option maxRecDepth 20000 in
theorem am_cd127 : lw_tbl[1041]? = some (Cond.code (am_y 127) (am_code 127) (am_mxl 127) (am_rt 127)) := rfl
set_option maxRecDepth 20000 in
theorem am_cd128 : lw_tbl[1053]? = some (Cond.code (am_y 128) (am_code 128) (am_mxl 128) (am_rt 128)) := rfl
set_option maxRecDepth 20000 in
theorem am_cd129 : lw_tbl[1049]? = some (Cond.code (am_y 129) (am_code 129) (am_mxl 129) (am_rt 129)) := rfl
set_option maxRecDepth 20000 in
theorem am_cd130 : lw_tbl[1067]? = some (Cond.code (am_y 130) (am_code 130) (am_mxl 130) (am_rt 130)) := rfl
set_option maxRecDepth 20000 in
theorem am_cd131 : lw_tbl[1063]? = some (Cond.code (am_y 131) (am_code 131) (am_mxl 131) (am_rt 131)) := rfl
set_option maxRecDepth 20000 in
theorem am_cd132 : lw_tbl[1057]? = some (Cond.code (am_y 132) (am_code 132) (am_mxl 132) (am_rt 132)) := rfl
set_option maxRecDepth 20000 in
theorem am_cd133 : lw_tbl[1075]? = some (Cond.code (am_y 133) (am_code 133) (am_mxl 133) (am_rt 133)) := rfl
set_option maxRecDepth 20000 in
theorem am_cd134 : lw_tbl[1071]? = some (Cond.code (am_y 134) (am_code 134) (am_mxl 134) (am_rt 134)) := rfl
set_option maxRecDepth 20000 in
theorem am_cd135 : lw_tbl[1079]? = some (Cond.code (am_y 135) (am_code 135) (am_mxl 135) (am_rt 135)) := rfl
set_option maxRecDepth 20000 in
theorem am_cd136 : lw_tbl[1083]? = some (Cond.code (am_y 136) (am_code 136) (am_mxl 136) (am_rt 136)) := rfl
set_option maxRecDepth 20000 in
theorem am_cd137 : lw_tbl[1095]? = some (Cond.code (am_y 137) (am_code 137) (am_mxl 137) (am_rt 137)) := rfl
set_option maxRecDepth 20000 in
theorem am_cd138 : lw_tbl[1091]? = some (Cond.code (am_y 138) (am_code 138) (am_mxl 138) (am_rt 138)) := rfl
set_option maxRecDepth 20000 in
theorem am_cd139 : lw_tbl[1087]? = some (Cond.code (am_y 139) (am_code 139) (am_mxl 139) (am_rt 139)) := rfl
set_option maxRecDepth 20000 in
theorem am_cd140 : lw_tbl[1104]? = some (Cond.code (am_y 140) (am_code 140) (am_mxl 140) (am_rt 140)) := rfl
set_option maxRecDepth 20000 in
theorem am_cd141 : lw_tbl[1099]? = some (Cond.code (am_y 141) (am_code 141) (am_mxl 141) (am_rt 141)) := rfl
set_option maxRecDepth 20000 in
theorem am_cd142 : lw_tbl[701]? = some (Cond.code (am_y 142) (am_code 142) (am_mxl 142) (am_rt 142)) := rfl
set_option maxRecDepth 20000 in
theorem am_cd : ∀ q, q < am_NM → lw_tbl[am_pco q]? = some (Cond.code (am_y q) (am_code q) (am_mxl q) (am_rt q)) := fun q hq => match q, hq with
  | 0, _ => am_cd0
  | 1, _ => am_cd1
  | 2, _ => am_cd2
  | 3, _ => am_cd3
  | 4, _ => am_cd4
  | 5, _ => am_cd5
  | 6, _ => am_cd6
  | 7, _ => am_cd7
  | 8, _ => am_cd8
  | 9, _ => am_cd9
  | 10, _ => am_cd10
  | 11, _ => am_cd11
  | 12, _ => am_cd12
  | 13, _ => am_cd13
  | 14, _ => am_cd14
  | 15, _ => am_cd15
  | 16, _ => am_cd16
  | 17, _ => am_cd17
  | 18, _ => am_cd18
  | 19, _ => am_cd19
  | 20, _ => am_cd20
  | 21, _ => am_cd21
  | 22, _ => am_cd22
  | 23, _ => am_cd23
  | 24, _ => am_cd24
  | 25, _ => am_cd25
  | 26, _ => am_cd26
  | 27, _ => am_cd27
  | 28, _ => am_cd28
  | 29, _ => am_cd29
  | 30, _ => am_cd30
  | 31, _ => am_cd31
  | 32, _ => am_cd32
  | 33, _ => am_cd33
  | 34, _ => am_cd34
  | 35, _ => am_cd35
  | 36, _ => am_cd36
  | 37, _ => am_cd37
  | 38, _ => am_cd38
  | 39, _ => am_cd39
  | 40, _ => am_cd40
  | 41, _ => am_cd41
  | 42, _ => am_cd42
  | 43, _ => am_cd43
  | 44, _ => am_cd44
  | 45, _ => am_cd45
  | 46, _ => am_cd46
  | 47, _ => am_cd47
  | 48, _ => am_cd48
  | 49, _ => am_cd49
  | 50, _ => am_cd50
  | 51, _ => am_cd51
  | 52, _ => am_cd52
  | 53, _ => am_cd53
  | 54, _ => am_cd54
  | 55, _ => am_cd55
  | 56, _ => am_cd56
  | 57, _ => am_cd57
  | 58, _ => am_cd58
  | 59, _ => am_cd59
  | 60, _ => am_cd60
  | 61, _ => am_cd61
  | 62, _ => am_cd62
  | 63, _ => am_cd63
  | 64, _ => am_cd64
  | 65, _ => am_cd65
  | 66, _ => am_cd66
  | 67, _ => am_cd67
  | 68, _ => am_cd68
  | 69, _ => am_cd69
  | 70, _ => am_cd70
  | 71, _ => am_cd71
  | 72, _ => am_cd72
  | 73, _ => am_cd73
  | 74, _ => am_cd74
  | 75, _ => am_cd75
  | 76, _ => am_cd76
  | 77, _ => am_cd77
  | 78, _ => am_cd78
  | 79, _ => am_cd79
  | 80, _ => am_cd80
  | 81, _ => am_cd81
  | 82, _ => am_cd82
  | 83, _ => am_cd83
  | 84, _ => am_cd84
  | 85, _ => am_cd85
  | 86, _ => am_cd86
  | 87, _ => am_cd87
  | 88, _ => am_cd88
  | 89, _ => am_cd89
  | 90, _ => am_cd90
  | 91, _ => am_cd91
  | 92, _ => am_cd92
  | 93, _ => am_cd93
  | 94, _ => am_cd94
  | 95, _ => am_cd95
  | 96, _ => am_cd96
  | 97, _ => am_cd97
  | 98, _ => am_cd98
  | 99, _ => am_cd99
  | 100, _ => am_cd100
  | 101, _ => am_cd101
  | 102, _ => am_cd102
  | 103, _ => am_cd103
  | 104, _ => am_cd104
  | 105, _ => am_cd105
  | 106, _ => am_cd106
  | 107, _ => am_cd107
  | 108, _ => am_cd108
  | 109, _ => am_cd109
  | 110, _ => am_cd110
  | 111, _ => am_cd111
  | 112, _ => am_cd112
  | 113, _ => am_cd113
  | 114, _ => am_cd114
  | 115, _ => am_cd115
  | 116, _ => am_cd116
  | 117, _ => am_cd117
  | 118, _ => am_cd118
  | 119, _ => am_cd119
  | 120, _ => am_cd120
  | 121, _ => am_cd121
  | 122, _ => am_cd122
  | 123, _ => am_cd123
  | 124, _ => am_cd124
  | 125, _ => am_cd125
  | 126, _ => am_cd126
  | 127, _ => am_cd127
  | 128, _ => am_cd128
  | 129, _ => am_cd129
  | 130, _ => am_cd130
  | 131, _ => am_cd131
  | 132, _ => am_cd132
  | 133, _ => am_cd133
  | 134, _ => am_cd134
  | 135, _ => am_cd135
  | 136, _ => am_cd136
  | 137, _ => am_cd137
  | 138, _ => am_cd138
  | 139, _ => am_cd139
  | 140, _ => am_cd140
  | 141, _ => am_cd141
  | 142, _ => am_cd142
  | q + 143, hq => absurd hq (by show ¬ q + 143 < 143; omega)
def am_Mok (q : Nat) : Prop := Cond.code (am_y q) (am_code q) (am_mxl q) (am_rt q) ∈ am_tb ∧ plainName (am_y q).cls = true ∧ (am_y q).cls = am_R (am_cl q) ∧ (am_y q).cls ≠ "java/lang/invoke/MethodHandle" ∧ (am_y q).cls ≠ "java/lang/invoke/VarHandle" ∧ (parseMethodDescriptor (am_y q).desc).map (fun d => d.parameters.length) = some (am_np q) ∧ am_mxl q ≤ 40 ∧ Cond.initialized (am_y q).cls ∈ am_tb ∧ (am_st q = true → Cond.static (am_y q) ∈ am_tb) ∧ (am_st q = false → Cond.instanceMethod (am_y q) ∈ am_tb ∧ Cond.selects (am_y q).cls (am_y q) (am_y q) ∈ am_tb)
theorem am_mok {q : Nat} (hq : q < am_NM) : am_Mok q := by
  have h := List.all_eq_true.mp am_mok0 q (List.mem_range.mpr hq)
  unfold am_mchk at h
  simp only [Bool.and_eq_true, decide_eq_true_eq] at h
  obtain ⟨⟨⟨⟨⟨⟨⟨h2, h3⟩, h4⟩, h5⟩, h6⟩, h7⟩, h8⟩, h9⟩ := h
  refine ⟨am_tb_of (List.mem_of_getElem? (am_cd q hq)) rfl, h2, h3, h4, h5, h6, h7, am_tb_of (List.mem_of_getElem? h8) rfl, fun hs => ?_, fun hs => ?_⟩
  · rw [if_pos hs] at h9
    exact am_tb_of (List.mem_of_getElem? (of_decide_eq_true h9)) rfl
  · rw [if_neg (by rw [hs]; decide)] at h9
    simp only [Bool.and_eq_true, decide_eq_true_eq] at h9
    exact ⟨am_tb_of (List.mem_of_getElem? h9.1) rfl, am_tb_of (List.mem_of_getElem? h9.2) rfl⟩
theorem am_mr_ok {own i q : Nat} (h : am_mr own i = some q) : Cond.methodLink (am_R own) i (am_y q) ∈ am_tb := by
  unfold am_mr at h
  obtain ⟨x, h1, h2⟩ := Option.map_eq_some_iff.mp h
  have h3 := List.find?_some h1
  have h4 := List.all_eq_true.mp am_cok x (List.mem_of_find?_eq_some h1)
  simp only [Bool.and_eq_true, beq_iff_eq] at h3
  obtain ⟨a, b, y, z⟩ := x
  dsimp only at h2 h3
  obtain ⟨rfl, rfl⟩ := h3
  subst h2
  exact am_tb_of (List.mem_of_getElem? (of_decide_eq_true h4)) rfl
theorem am_ki_ok {own i : Nat} {v : Int32} (h : am_ki own i = some v) : Cond.constant (am_R own) i v ∈ am_tb := by
  unfold am_ki at h
  obtain ⟨x, h1, h2⟩ := Option.map_eq_some_iff.mp h
  have h3 := List.find?_some h1
  have h4 := List.all_eq_true.mp am_kiok x (List.mem_of_find?_eq_some h1)
  simp only [Bool.and_eq_true, beq_iff_eq] at h3
  obtain ⟨a, b, y, z⟩ := x
  dsimp only at h2 h3
  obtain ⟨rfl, rfl⟩ := h3
  subst h2
  exact am_tb_of (List.mem_of_getElem? (of_decide_eq_true h4)) rfl
theorem am_kl_ok {own i : Nat} {v : Int64} (h : am_kl own i = some v) : Cond.constantLong (am_R own) i v ∈ am_tb := by
  unfold am_kl at h
  obtain ⟨x, h1, h2⟩ := Option.map_eq_some_iff.mp h
  have h3 := List.find?_some h1
  have h4 := List.all_eq_true.mp am_klok x (List.mem_of_find?_eq_some h1)
  simp only [Bool.and_eq_true, beq_iff_eq] at h3
  obtain ⟨a, b, y, z⟩ := x
  dsimp only at h2 h3
  obtain ⟨rfl, rfl⟩ := h3
  subst h2
  exact am_tb_of (List.mem_of_getElem? (of_decide_eq_true h4)) rfl
theorem am_goodIn {ws : List Cond} (h : ∀ w ∈ ws, w ∈ am_tb) : GoodIn am_tb ws := fun w hw => ⟨h w hw, good_of_word (List.mem_filter.mp (h w hw)).2⟩
def am_mName (b : Bool) : MethodName := if b = true then Lib.Math.max.name else Lib.Math.min.name
set_option maxRecDepth 20000 in
theorem am_mxok : am_maths.all (fun q => decide (lw_tbl[q.2.2.2]? = some (Cond.methodLink (am_R q.1) q.2.1 (am_mName q.2.2.1)))) = true := by decide +kernel
theorem am_mm_ok {own i : Nat} {v : Bool} (h : am_mm own i = some v) : Cond.methodLink (am_R own) i (am_mName v) ∈ am_tb := by
  unfold am_mm at h
  obtain ⟨x, h1, h2⟩ := Option.map_eq_some_iff.mp h
  have h3 := List.find?_some h1
  have h4 := List.all_eq_true.mp am_mxok x (List.mem_of_find?_eq_some h1)
  simp only [Bool.and_eq_true, beq_iff_eq] at h3
  obtain ⟨a, b, y, z⟩ := x
  dsimp only at h2 h3
  obtain ⟨rfl, rfl⟩ := h3
  subst h2
  exact am_tb_of (List.mem_of_getElem? (of_decide_eq_true h4)) rfl
set_option maxRecDepth 20000 in
theorem am_mx1 : Cond.code Lib.Math.max.name Lib.Math.max.code 2 (some .int) ∈ am_tb := am_tb_of (List.mem_of_getElem? (i := 508) (by decide +kernel)) rfl
set_option maxRecDepth 20000 in
theorem am_mx2 : Cond.code Lib.Math.min.name Lib.Math.min.code 2 (some .int) ∈ am_tb := am_tb_of (List.mem_of_getElem? (i := 518) (by decide +kernel)) rfl
set_option maxRecDepth 20000 in
theorem am_mx3 : Cond.static Lib.Math.max.name ∈ am_tb := am_tb_of (List.mem_of_getElem? (i := 507) (by decide +kernel)) rfl
set_option maxRecDepth 20000 in
theorem am_mx4 : Cond.static Lib.Math.min.name ∈ am_tb := am_tb_of (List.mem_of_getElem? (i := 517) (by decide +kernel)) rfl
set_option maxRecDepth 20000 in
theorem am_mx5 : Cond.initialized "java/lang/Math" ∈ am_tb := am_tb_of (List.mem_of_getElem? (i := 65) (by decide +kernel)) rfl
end
section
/-! the abstract machine is sound: what it answers, the machine answers -/
section AMS
variable {p : Program} {l : Launch} {e : Env} {R : Room} {s : State} {mi : MethodId} {args : Array Value} {below : List Frame} {meth : Method} {c : Code} {H : Heap} {locs : List Loc} {cells slots : Nat} {Q : State → Prop}
variable {dC : Nat → ClassId} {dI : Nat → Nat → Nat} {adr : Nat → Nat} {cI cZ : ClassId} {A : Nat → Prop} {H0 : Heap}
variable {m pc : Nat} {ls st : List Value} {σ : am_St} {τ : Int64} {lsj : Array Slot}
theorem am_if {cc : ByteArray} {rest : List Value} (hx : p.tables.exec = Jvm.exec) (hb : c.code = cc) {x : Int32} {off : Int} {tgt : Nat} (cd : ClassFile.Cond) (hd : decode cc pc = .ok (.ifCond cd off, 3)) (ht : (pc : Int) + off = (tgt : Int)) (kt : am_cond cd x 0 = true → W p l e R s mi args below meth c H locs cells slots Q (F0 mi tgt lsj rest)) (kf : am_cond cd x 0 = false → W p l e R s mi args below meth c H locs cells slots Q (F0 mi (pc + 3) lsj rest)) : W p l e R s mi args below meth c H locs cells slots Q (F0 mi pc lsj (.int x :: rest)) := by
  cases cd
  · exact lv_if_eq hx hb hd ht (fun h => kt (decide_eq_true h)) (fun h => kf (decide_eq_false h))
  · exact lv_if_ne hx hb hd ht (fun h => kt (decide_eq_true h)) (fun h => kf (decide_eq_false (fun n => n h)))
  · exact lv_if_lt hx hb hd ht (fun h => kt (decide_eq_true h)) (fun h => kf (decide_eq_false h))
  · exact lv_if_ge hx hb hd ht (fun h => kt (decide_eq_true h)) (fun h => kf (decide_eq_false h))
  · exact lv_if_gt hx hb hd ht (fun h => kt (decide_eq_true h)) (fun h => kf (decide_eq_false h))
  · exact lv_if_le hx hb hd ht (fun h => kt (decide_eq_true h)) (fun h => kf (decide_eq_false h))
theorem am_icmp {cc : ByteArray} {rest : List Value} (hx : p.tables.exec = Jvm.exec) (hb : c.code = cc) {x y : Int32} {off : Int} {tgt : Nat} (cd : ClassFile.Cond) (hd : decode cc pc = .ok (.if_icmp cd off, 3)) (ht : (pc : Int) + off = (tgt : Int)) (kt : am_cond cd x y = true → W p l e R s mi args below meth c H locs cells slots Q (F0 mi tgt lsj rest)) (kf : am_cond cd x y = false → W p l e R s mi args below meth c H locs cells slots Q (F0 mi (pc + 3) lsj rest)) : W p l e R s mi args below meth c H locs cells slots Q (F0 mi pc lsj (.int y :: .int x :: rest)) := by
  cases cd
  · exact lv_icmp_eq hx hb hd ht (fun h => kt (decide_eq_true h)) (fun h => kf (decide_eq_false h))
  · exact lv_icmp_ne hx hb hd ht (fun h => kt (decide_eq_true h)) (fun h => kf (decide_eq_false (fun n => n h)))
  · exact lv_icmp_lt hx hb hd ht (fun h => kt (decide_eq_true h)) (fun h => kf (decide_eq_false h))
  · exact lv_icmp_ge hx hb hd ht (fun h => kt (decide_eq_true h)) (fun h => kf (decide_eq_false h))
  · exact lv_icmp_gt hx hb hd ht (fun h => kt (decide_eq_true h)) (fun h => kf (decide_eq_false h))
  · exact lv_icmp_le hx hb hd ht (fun h => kt (decide_eq_true h)) (fun h => kf (decide_eq_false h))
end AMS
theorem am_nx_inj {a a' : Nat} {b b' d d' : List Value} {σ σ' : am_St} {τ τ' : Int64} (h : am_nx a b d σ τ = am_nx a' b' d' σ' τ') : a = a' ∧ b = b' ∧ d = d' ∧ σ = σ' ∧ τ = τ' := by
  simpa [am_nx] using h
theorem am_tg_ok {pc : Nat} {off : Int} (h : 0 ≤ (pc : Int) + off) : (pc : Int) + off = (am_tg pc off : Int) := (Int.toNat_of_nonneg h).symm
theorem am_jmp_inj {pc a' : Nat} {off : Int} {b b' d d' : List Value} {σ σ' : am_St} {τ τ' : Int64} (h : am_jmp pc off b d σ τ = am_nx a' b' d' σ' τ') : (pc : Int) + off = (a' : Int) ∧ b = b' ∧ d = d' ∧ σ = σ' ∧ τ = τ' := by
  unfold am_jmp at h
  split at h
  · rename_i h0
    obtain ⟨rfl, h2⟩ := am_nx_inj h
    exact ⟨am_tg_ok h0, h2⟩
  · cases h
/-- an abstract value's meaning -/
def am_cv (adr : Nat → Nat) (v : Value) : Value := match v with
  | .ref k => .ref (adr k)
  | v => v
theorem am_cv_cat (adr : Nat → Nat) (v : Value) : (am_cv adr v).category = v.category := by cases v <;> rfl
theorem am_cats_cv (adr : Nat → Nat) (st : List Value) : ((st.map (am_cv adr)).map fun v => v.category).sum = am_cats st := by
  unfold am_cats
  rw [List.map_map]
  congr 1
  apply List.map_congr_left
  intro v _
  exact am_cv_cat adr v
/-- the locals that are held -/
def am_la (adr : Nat → Nat) (ls : List Value) : List (Nat × Value) := (List.range ls.length).filterMap fun i => match ls[i]? with
  | some Value.null => none
  | some v => some (i, am_cv adr v)
  | none => none
theorem am_la_mem {adr : Nat → Nat} {ls : List Value} {q : Nat × Value} : q ∈ am_la adr ls ↔ ∃ v, ls[q.1]? = some v ∧ v ≠ .null ∧ q.2 = am_cv adr v := by
  unfold am_la
  rw [List.mem_filterMap]
  constructor
  · rintro ⟨i, -, h⟩
    split at h
    · cases h
    · rename_i v hv hi
      cases h
      exact ⟨v, hi, fun h => hv h, rfl⟩
    · cases h
  · rintro ⟨v, h1, h2, h3⟩
    obtain ⟨i, w⟩ := q
    dsimp only at h1 h3
    subst h3
    refine ⟨i, List.mem_range.mpr (List.getElem?_eq_some_iff.mp h1).1, ?_⟩
    rw [h1]
    cases v <;> first | rfl | exact absurd rfl h2
theorem am_la_get {adr : Nat → Nat} {ls : List Value} {lsj : Array Slot} {n i : Nat} {v : Value} (hl : lv_has lsj n (am_la adr ls)) (h : ls.getD i .null = v) (hv : v ≠ .null) : lsj[i]? = some (.val (am_cv adr v)) := by
  refine hl.2.2 (i, am_cv adr v) (am_la_mem.mpr ⟨v, ?_, hv, rfl⟩)
  rw [List.getD_eq_getElem?_getD] at h
  show ls[i]? = some v
  cases hi : ls[i]? with
  | none => rw [hi] at h; exact absurd h.symm hv
  | some w => rw [hi] at h; exact congrArg some h
theorem am_set_self {l : List Value} {j : Nat} {v w : Value} (h : (l.set j v)[j]? = some w) : w = v := by
  rw [List.getElem?_set_self'] at h
  obtain ⟨z, -, hz⟩ := Option.map_eq_some_iff.mp h
  exact hz.symm
theorem am_set1_get {ls : List Value} {i j : Nat} {v w : Value} (h : (am_set1 ls i v)[j]? = some w) (hw : w ≠ .null) : (j = i ∧ w = v) ∨ (j ≠ i ∧ ls[j]? = some w ∧ ¬ (j + 1 = i ∧ w.category = 2)) := by
  unfold am_set1 at h
  cases i with
  | zero =>
    dsimp only at h
    by_cases hj : j = 0
    · subst hj
      rw [List.getElem?_set] at h
      simp only [if_true] at h
      split at h
      · left; exact ⟨rfl, (Option.some.inj h).symm⟩
      · cases h
    · right
      rw [List.getElem?_set_ne (Ne.symm hj)] at h
      exact ⟨hj, h, fun q => by omega⟩
  | succ i =>
    dsimp only at h
    by_cases hj : j = i + 1
    · subst hj
      left
      exact ⟨rfl, am_set_self h⟩
    · right
      rw [List.getElem?_set_ne (Ne.symm hj)] at h
      refine ⟨hj, ?_⟩
      cases hi : ls[i]? with
      | none =>
        rw [hi] at h
        refine ⟨h, fun q => ?_⟩
        have : j = i := by omega
        subst this
        dsimp only at h
        rw [hi] at h
        cases h
      | some x =>
        rw [hi] at h
        dsimp only at h
        split at h
        · rename_i hc
          by_cases hji : j = i
          · subst hji
            rw [List.getElem?_set] at h
            simp only [if_true] at h
            split at h
            · exact absurd (Option.some.inj h).symm hw
            · cases h
          · rw [List.getElem?_set_ne (Ne.symm hji)] at h
            exact ⟨h, fun q => by omega⟩
        · rename_i hc
          refine ⟨h, fun q => ?_⟩
          have : j = i := by omega
          subst this
          rw [hi] at h
          cases h
          exact hc q.2
theorem am_la_set1 {adr : Nat → Nat} {ls : List Value} {lsj : Array Slot} {n i : Nat} {v : Value} (h : lv_has lsj n ((i, am_cv adr v) :: (am_la adr ls).filter (fun q => !(q.1 == i) && !(q.1 + 1 == i && q.2.category == 2)))) : lv_has lsj n (am_la adr (am_set1 ls i v)) := by
  refine ⟨h.1, h.2.1, fun q hq => h.2.2 q ?_⟩
  obtain ⟨w, h1, h2, h3⟩ := am_la_mem.mp hq
  obtain ⟨j, x⟩ := q
  dsimp only at h1 h3
  rcases am_set1_get h1 h2 with ⟨rfl, rfl⟩ | ⟨g1, g2, g3⟩
  · subst h3; exact List.mem_cons_self
  · refine List.mem_cons_of_mem _ (List.mem_filter.mpr ⟨am_la_mem.mpr ⟨w, g2, h2, h3⟩, ?_⟩)
    subst h3
    simp only [Bool.and_eq_true, Bool.not_eq_true', beq_eq_false_iff_ne, ne_eq, Bool.and_eq_false_iff, am_cv_cat]
    refine ⟨g1, ?_⟩
    by_cases hj : j + 1 = i
    · right; exact fun q => g3 ⟨hj, q⟩
    · left; exact hj
theorem am_la_set2 {adr : Nat → Nat} {ls : List Value} {lsj : Array Slot} {n i : Nat} {v : Value} (h : lv_has lsj n ((i, am_cv adr v) :: (am_la adr ls).filter (fun q => !(q.1 == i) && (!(q.1 == i + 1) && !(q.1 + 1 == i && q.2.category == 2))))) : lv_has lsj n (am_la adr (am_set2 ls i v)) := by
  refine ⟨h.1, h.2.1, fun q hq => h.2.2 q ?_⟩
  obtain ⟨w, h1, h2, h3⟩ := am_la_mem.mp hq
  obtain ⟨j, x⟩ := q
  dsimp only at h1 h3
  unfold am_set2 at h1
  have hj : j ≠ i + 1 := by
    rintro rfl
    rw [List.getElem?_set] at h1
    simp only [if_true] at h1
    split at h1
    · exact h2 (Option.some.inj h1).symm
    · cases h1
  rw [List.getElem?_set_ne (Ne.symm hj)] at h1
  rcases am_set1_get h1 h2 with ⟨rfl, rfl⟩ | ⟨g1, g2, g3⟩
  · subst h3; exact List.mem_cons_self
  · refine List.mem_cons_of_mem _ (List.mem_filter.mpr ⟨am_la_mem.mpr ⟨w, g2, h2, h3⟩, ?_⟩)
    subst h3
    simp only [Bool.and_eq_true, Bool.not_eq_true', beq_eq_false_iff_ne, ne_eq, Bool.and_eq_false_iff, am_cv_cat]
    refine ⟨g1, hj, ?_⟩
    by_cases hj : j + 1 = i
    · right; exact fun q => g3 ⟨hj, q⟩
    · left; exact hj
/-! the world -/
def am_fv (adr : Nat → Nat) (σ : am_St) (τ : Int64) (k j f : Nat) : Value := am_cv adr (am_fv0 σ τ k j f)
def am_wc (adr : Nat → Nat) (cI cZ : ClassId) (σ : am_St) (τ : Int64) (k : Nat) : va_E := match am_sh k with
  | some (.inl (z, n)) => .inl (if z = true then cZ else cI, n, .inl (σ k))
  | some (.inr (ci, fds)) => .inr (ci, (List.range fds.length).map (fun j => am_fv adr σ τ k j (fds.getD j 0)))
  | none => .inr (0, [])
def am_ws (adr : Nat → Nat) (cI cZ : ClassId) (σ : am_St) (τ : Int64) : va_W := (List.range am_N).map (fun k => (adr k, am_wc adr cI cZ σ τ k))
theorem am_ws_get {adr : Nat → Nat} {cI cZ : ClassId} {σ : am_St} {τ : Int64} {k : Nat} (hk : k < am_N) : (am_ws adr cI cZ σ τ)[k]? = some (adr k, am_wc adr cI cZ σ τ k) := by
  unfold am_ws
  rw [List.getElem?_map, List.getElem?_range hk]
  rfl
theorem am_shl_len : am_shl.length = am_N := by decide +kernel
theorem am_sh_lt {k : Nat} {x : (Bool × Nat) ⊕ (Nat × List Nat)} (h : am_sh k = some x) : k < am_N := by
  rw [← am_shl_len]
  exact (List.getElem?_eq_some_iff.mp h).1
theorem am_ws_set {adr : Nat → Nat} {cI cZ : ClassId} {σ σ' : am_St} {τ τ' : Int64} (k : Nat) (ee : va_E) (he : ee = am_wc adr cI cZ σ' τ' k) (hne : ∀ a, a < am_N → a ≠ k → am_wc adr cI cZ σ τ a = am_wc adr cI cZ σ' τ' a) : (am_ws adr cI cZ σ τ).set k (adr k, ee) = am_ws adr cI cZ σ' τ' := by
  subst he
  apply List.ext_getElem?
  intro a
  by_cases ha : a < am_N
  · by_cases hk : a = k
    · subst hk
      rw [List.getElem?_set]
      have : a < (am_ws adr cI cZ σ τ).length := by unfold am_ws; rw [List.length_map, List.length_range]; exact ha
      simp [this, am_ws_get ha]
    · rw [List.getElem?_set_ne (Ne.symm hk), am_ws_get ha, am_ws_get ha, hne a ha hk]
  · have h1 : ((am_ws adr cI cZ σ τ).set k (adr k, am_wc adr cI cZ σ' τ' k)).length ≤ a := by unfold am_ws; rw [List.length_set, List.length_map, List.length_range]; omega
    have h2 : (am_ws adr cI cZ σ' τ').length ≤ a := by unfold am_ws; rw [List.length_map, List.length_range]; omega
    rw [List.getElem?_eq_none h1, List.getElem?_eq_none h2]
theorem am_up_ne {σ : am_St} {k j a : Nat} {v : Int32} (h : a ≠ k) : am_up σ k j v a = σ a := by
  unfold am_up; rw [if_neg h]
theorem am_up_eq {σ : am_St} {k j : Nat} {v : Int32} : am_up σ k j v k = upd (σ k) j v := by
  unfold am_up; rw [if_pos rfl]
theorem am_fv_up_ne {adr : Nat → Nat} {σ : am_St} {τ : Int64} {k j a i f : Nat} {v : Int32} (h : a ≠ k) : am_fv adr (am_up σ k j v) τ a i f = am_fv adr σ τ a i f := by
  unfold am_fv am_fv0
  split <;> first | rw [am_up_ne h] | rfl
theorem am_wc_up_ne {adr : Nat → Nat} {cI cZ : ClassId} {σ : am_St} {τ : Int64} {k j a : Nat} {v : Int32} (h : a ≠ k) : am_wc adr cI cZ σ τ a = am_wc adr cI cZ (am_up σ k j v) τ a := by
  unfold am_wc
  split
  · rw [am_up_ne h]
  · congr 3
    funext i
    rw [am_fv_up_ne h]
  · rfl

theorem am_fs_up {adr : Nat → Nat} {σ : am_St} {τ : Int64} {k j : Nat} {fds : List Nat} {x : Int32} (hf : fds[j]? = some 0 ∨ fds[j]? = some 2) : ((List.range fds.length).map (fun i => am_fv adr σ τ k i (fds.getD i 0))).set j (.int x) = (List.range fds.length).map (fun i => am_fv adr (am_up σ k j x) τ k i (fds.getD i 0)) := by
  apply List.ext_getElem?
  intro i
  by_cases hi : i < fds.length
  · by_cases hj : i = j
    · subst hj
      rw [List.getElem?_set]
      simp only [List.length_map, List.length_range, hi, if_true, List.getElem?_map, List.getElem?_range hi, Option.map_some]
      congr 1
      have hd : fds.getD i 0 = 0 ∨ fds.getD i 0 = 2 := by
        rw [List.getD_eq_getElem?_getD]
        rcases hf with h | h <;> rw [h] <;> simp
      unfold am_fv am_fv0
      rcases hd with h | h <;> rw [h] <;> simp [am_cv, am_up_eq, upd]
    · rw [List.getElem?_set_ne (Ne.symm hj)]
      simp only [List.getElem?_map, List.getElem?_range hi, Option.map_some]
      congr 1
      unfold am_fv am_fv0
      split <;> simp [am_up_eq, upd, hj]
  · rw [List.getElem?_eq_none (by rw [List.length_set, List.length_map, List.length_range]; omega), List.getElem?_eq_none (by rw [List.length_map, List.length_range]; omega)]
def am_ty (cI cZ : ClassId) : List (ClassId × FieldType) := [(cI, .int), (cZ, .boolean)]
/-- a frame of the method m: the machine, its code, the tables' words -/
def am_Cx (p : Program) (s : State) (mi : MethodId) (args : Array Value) (meth : Method) (c : Code) (dC : Nat → ClassId) (dI : Nat → Nat → Nat) (cI cZ : ClassId) (m : Nat) : Prop := p.tables.exec = Jvm.exec ∧ c.code = am_code m ∧ c.maxLocals = am_mxl m ∧ s.vm.findClass (am_R (am_cl m)) = some mi.cls ∧ (∀ w ∈ am_tb, w.before args s = true) ∧ meth.sig.returnType = am_rt m ∧ meth.locks = false ∧ va_K (dC, dI) vwCl (am_ty cI cZ) s
def am_Wd (dC : Nat → ClassId) (dI : Nat → Nat → Nat) (adr : Nat → Nat) (cI cZ : ClassId) (A : Nat → Prop) (σ : am_St) (τ : Int64) (H : Heap) : Prop := va_P (dC, dI) vwCl (am_ws adr cI cZ σ τ) H ∧ va_D A (am_ws adr cI cZ σ τ)
section AMN
variable {p : Program} {l : Launch} {e : Env} {R : Room} {s : State} {mi : MethodId} {args : Array Value} {below : List Frame} {meth : Method} {c : Code} {H : Heap} {locs : List Loc} {cells slots : Nat} {Q : State → Prop}
variable {dC : Nat → ClassId} {dI : Nat → Nat → Nat} {adr : Nat → Nat} {cI cZ : ClassId} {A : Nat → Prop} {H0 : Heap}
variable {m pc : Nat} {ls st : List Value} {σ : am_St} {τ : Int64} {lsj : Array Slot}
theorem am_obj {k ci : Nat} {fds : List Nat} (h : am_sh k = some (.inr (ci, fds))) : (am_ws adr cI cZ σ τ)[k]? = some (adr k, .inr (ci, (List.range fds.length).map (fun j => am_fv adr σ τ k j (fds.getD j 0)))) := by
  rw [am_ws_get (am_sh_lt h)]
  unfold am_wc
  rw [h]
theorem am_arr {k n : Nat} {z : Bool} (h : am_sh k = some (.inl (z, n))) : (am_ws adr cI cZ σ τ)[k]? = some (adr k, .inl (if z = true then cZ else cI, n, .inl (σ k))) := by
  rw [am_ws_get (am_sh_lt h)]
  unfold am_wc
  rw [h]
theorem am_arr_set {k n j : Nat} {z : Bool} {x : Int32} (h : am_sh k = some (.inl (z, n))) : (am_ws adr cI cZ σ τ).set k (adr k, .inl (if z = true then cZ else cI, n, .inl (upd (σ k) j x))) = am_ws adr cI cZ (am_up σ k j x) τ := by
  refine am_ws_set k _ ?_ (fun a _ ha => am_wc_up_ne ha)
  unfold am_wc
  rw [h]
  dsimp only
  rw [am_up_eq]
theorem am_obj_set {k ci j : Nat} {fds : List Nat} {x : Int32} (h : am_sh k = some (.inr (ci, fds))) (hf : fds[j]? = some 0 ∨ fds[j]? = some 2) : (am_ws adr cI cZ σ τ).set k (adr k, .inr (ci, ((List.range fds.length).map (fun j => am_fv adr σ τ k j (fds.getD j 0))).set j (.int x))) = am_ws adr cI cZ (am_up σ k j x) τ := by
  refine am_ws_set k _ ?_ (fun a _ ha => am_wc_up_ne ha)
  unfold am_wc
  rw [h]
  dsimp only
  rw [am_fs_up hf]
/-- putting a number into an object's field -/
theorem am_put1 {cc : ByteArray} {rest : List Value} {own ci j i k : Nat} {fds : List Nat} {x : Int32} {ty : FieldType} (hx : p.tables.exec = Jvm.exec) (hb : c.code = cc) (hts : ∀ w ∈ am_tb, w.before args s = true) (hown : s.vm.findClass (am_R own) = some mi.cls) (hK : va_K (dC, dI) vwCl (am_ty cI cZ) s) (hW : am_Wd dC dI adr cI cZ A σ τ H) (hS : va_S A H0 H locs) (hfr : am_fr own i = some (ci, j)) (hsh : am_sh k = some (.inr (ci, fds))) (hf : (fds[j]? = some 0 ∧ ty = .int) ∨ (fds[j]? = some 2 ∧ ty = .boolean)) (hn : narrow ty (.int x) = .int x) (hfit : fits ty (.int x) = true) (hd : decode cc pc = .ok (.putfield i, 3))
    (kk : ∀ (H1 : Heap) (locs1 : List Loc), am_Wd dC dI adr cI cZ A (am_up σ k j x) τ H1 → va_S A H0 H1 locs1 → W p l e R s mi args below meth c H1 locs1 cells slots Q (F0 mi (pc + 3) lsj rest)) : W p l e R s mi args below meth c H locs cells slots Q (F0 mi pc lsj (.int x :: .ref (adr k) :: rest)) := by
  obtain ⟨C, T, N, hcl, hj, hlk, hT1⟩ := am_fr_ok hfr
  obtain ⟨C2, T2, N2, hcl2, hlen, hC, hall⟩ := am_sh_ok hsh
  cases hcl.symm.trans hcl2
  obtain ⟨h1, ⟨ty0, h2⟩, h3⟩ := am_cls_ok hcl
  have hj4 := hall j hj
  have hty : parseFieldDescriptor (T j).2.2.1 = some ty ∧ (T j).2.2.2 = false := by
    rcases hf with ⟨hf, rfl⟩ | ⟨hf, rfl⟩
    · rw [hf] at hj4; simp only [am_schj, Bool.and_eq_true, decide_eq_true_eq] at hj4; exact hj4
    · rw [hf] at hj4; simp only [am_schj, Bool.and_eq_true, decide_eq_true_eq] at hj4; exact hj4
  have hset := am_obj_set (adr := adr) (cI := cI) (cZ := cZ) (σ := σ) (τ := τ) (x := x) hsh (hf.imp And.left And.left)
  refine va_put (D := (dC, dI)) hx hb hts h1 ty0 h2 h3 hown hK hW.1 hW.2 hS k (am_obj hsh) hcl j hj (hts _ hlk) (fun x h => by rw [hT1] at h; exact h) hty.2 hty.1 hn hfit (by rw [List.length_map, List.length_range, hlen]; exact hj) hd (fun H1 locs1 g1 g2 g3 => ?_)
  rw [hset] at g1 g2
  exact kk H1 locs1 ⟨g1, g2⟩ g3
end AMN
end
section
/-! one step of the abstract machine is one step of the machine -/
section AMX
variable {p : Program} {l : Launch} {e : Env} {R : Room} {s : State} {mi : MethodId} {args : Array Value} {below : List Frame} {meth : Method} {c : Code} {H : Heap} {locs : List Loc} {cells slots : Nat} {Q : State → Prop}
variable {dC : Nat → ClassId} {dI : Nat → Nat → Nat} {adr : Nat → Nat} {cI cZ : ClassId} {A : Nat → Prop} {H0 : Heap}
variable {m pc : Nat} {ls st : List Value} {σ : am_St} {τ : Int64} {lsj : Array Slot}
theorem am_n_ldi {cc : ByteArray} {n i pc' pc0 : Nat} {ls' st' : List Value} {σ' : am_St} {τ' : Int64} (hl : lv_has lsj n (am_la adr ls)) (h : am_ldi pc0 (ls.getD i .null) ls st σ τ = am_nx pc' ls' st' σ' τ') : ∃ x : Int32, lsj[i]? = some (.val (.int x)) ∧ pc' = pc0 ∧ ls' = ls ∧ st' = .int x :: st ∧ σ' = σ ∧ τ' = τ := by
  unfold am_ldi at h
  split at h
  · rename_i x hx
    obtain ⟨rfl, rfl, rfl, rfl, rfl⟩ := am_nx_inj h
    exact ⟨x, am_la_get hl hx (fun q => by cases q), rfl, rfl, rfl, rfl, rfl⟩
  · cases h
theorem am_n_ldl {cc : ByteArray} {n i pc' pc0 : Nat} {ls' st' : List Value} {σ' : am_St} {τ' : Int64} (hl : lv_has lsj n (am_la adr ls)) (h : am_ldl pc0 (ls.getD i .null) ls st σ τ = am_nx pc' ls' st' σ' τ') : ∃ x : Int64, lsj[i]? = some (.val (.long x)) ∧ pc' = pc0 ∧ ls' = ls ∧ st' = .long x :: st ∧ σ' = σ ∧ τ' = τ := by
  unfold am_ldl at h
  split at h
  · rename_i x hx
    obtain ⟨rfl, rfl, rfl, rfl, rfl⟩ := am_nx_inj h
    exact ⟨x, am_la_get hl hx (fun q => by cases q), rfl, rfl, rfl, rfl, rfl⟩
  · cases h
theorem am_n_lda {cc : ByteArray} {n i pc' pc0 : Nat} {ls' st' : List Value} {σ' : am_St} {τ' : Int64} (hl : lv_has lsj n (am_la adr ls)) (h : am_lda pc0 (ls.getD i .null) ls st σ τ = am_nx pc' ls' st' σ' τ') : ∃ x : Nat, lsj[i]? = some (.val (.ref (adr x))) ∧ pc' = pc0 ∧ ls' = ls ∧ st' = .ref x :: st ∧ σ' = σ ∧ τ' = τ := by
  unfold am_lda at h
  split at h
  · rename_i x hx
    obtain ⟨rfl, rfl, rfl, rfl, rfl⟩ := am_nx_inj h
    exact ⟨x, am_la_get hl hx (fun q => by cases q), rfl, rfl, rfl, rfl, rfl⟩
  · cases h
theorem am_n_sti {n i pc' pc0 : Nat} {ls' st' : List Value} {σ' : am_St} {τ' : Int64} (h : am_sti pc0 n i ls st σ τ = am_nx pc' ls' st' σ' τ') : ∃ x : Int32, st = .int x :: st' ∧ i < n ∧ pc' = pc0 ∧ ls' = am_set1 ls i (.int x) ∧ σ' = σ ∧ τ' = τ := by
  unfold am_sti at h
  split at h
  · split at h
    · rename_i x st2 hi
      obtain ⟨rfl, rfl, rfl, rfl, rfl⟩ := am_nx_inj h
      exact ⟨x, rfl, hi, rfl, rfl, rfl, rfl⟩
    · cases h
  · cases h
theorem am_n_stl {n i pc' pc0 : Nat} {ls' st' : List Value} {σ' : am_St} {τ' : Int64} (h : am_stl pc0 n i ls st σ τ = am_nx pc' ls' st' σ' τ') : ∃ x : Int64, st = .long x :: st' ∧ i + 1 < n ∧ pc' = pc0 ∧ ls' = am_set2 ls i (.long x) ∧ σ' = σ ∧ τ' = τ := by
  unfold am_stl at h
  split at h
  · split at h
    · rename_i x st2 hi
      obtain ⟨rfl, rfl, rfl, rfl, rfl⟩ := am_nx_inj h
      exact ⟨x, rfl, hi, rfl, rfl, rfl, rfl⟩
    · cases h
  · cases h
theorem am_n_i2 {f : Int32 → Int32 → Int32} {pc' : Nat} {ls' st' : List Value} {σ' : am_St} {τ' : Int64} (h : am_i2 f pc ls st σ τ = am_nx pc' ls' st' σ' τ') : ∃ (x y : Int32) (st2 : List Value), st = .int y :: .int x :: st2 ∧ pc' = pc + 1 ∧ ls' = ls ∧ st' = .int (f x y) :: st2 ∧ σ' = σ ∧ τ' = τ := by
  unfold am_i2 at h
  split at h
  · obtain ⟨rfl, rfl, rfl, rfl, rfl⟩ := am_nx_inj h
    exact ⟨_, _, _, rfl, rfl, rfl, rfl, rfl, rfl⟩
  · cases h
theorem am_n_d2 {f : Int32 → Int32 → Int32} {pc' : Nat} {ls' st' : List Value} {σ' : am_St} {τ' : Int64} (h : am_d2 f pc ls st σ τ = am_nx pc' ls' st' σ' τ') : ∃ (x y : Int32) (st2 : List Value), ¬ y = 0 ∧ st = .int y :: .int x :: st2 ∧ pc' = pc + 1 ∧ ls' = ls ∧ st' = .int (f x y) :: st2 ∧ σ' = σ ∧ τ' = τ := by
  unfold am_d2 at h
  split at h
  · split at h
    · cases h
    · rename_i hy
      obtain ⟨rfl, rfl, rfl, rfl, rfl⟩ := am_nx_inj h
      exact ⟨_, _, _, hy, rfl, rfl, rfl, rfl, rfl, rfl⟩
  · cases h
theorem am_n_l2 {f : Int64 → Int64 → Int64} {pc' : Nat} {ls' st' : List Value} {σ' : am_St} {τ' : Int64} (h : am_l2 f pc ls st σ τ = am_nx pc' ls' st' σ' τ') : ∃ (x y : Int64) (st2 : List Value), st = .long y :: .long x :: st2 ∧ pc' = pc + 1 ∧ ls' = ls ∧ st' = .long (f x y) :: st2 ∧ σ' = σ ∧ τ' = τ := by
  unfold am_l2 at h
  split at h
  · obtain ⟨rfl, rfl, rfl, rfl, rfl⟩ := am_nx_inj h
    exact ⟨_, _, _, rfl, rfl, rfl, rfl, rfl, rfl⟩
  · cases h
theorem am_n_getf {cc : ByteArray} {own i pc' : Nat} {ls' st' : List Value} {σ' : am_St} {τ' : Int64} (hx : p.tables.exec = Jvm.exec) (hb : c.code = cc) (hts : ∀ w ∈ am_tb, w.before args s = true) (hown : s.vm.findClass (am_R own) = some mi.cls) (hK : va_K (dC, dI) vwCl (am_ty cI cZ) s) (hW : am_Wd dC dI adr cI cZ A σ τ H) (hd : decode cc pc = .ok (.getfield i, 3)) (h : am_getf own i (pc + 3) ls st σ τ = am_nx pc' ls' st' σ' τ')
    (kk : ls' = ls → σ' = σ → τ' = τ → W p l e R s mi args below meth c H locs cells slots Q (F0 mi pc' lsj (st'.map (am_cv adr)))) : W p l e R s mi args below meth c H locs cells slots Q (F0 mi pc lsj (st.map (am_cv adr))) := by
  unfold am_getf at h
  split at h
  · rename_i k st2
    split at h
    · rename_i ci j cj fds hfr hsh
      split at h
      · rename_i hc
        subst hc
        split at h
        · rename_i f hf
          obtain ⟨rfl, rfl, rfl, rfl, rfl⟩ := am_nx_inj h
          obtain ⟨C, T, N, hcl, hj, hlk, hT1⟩ := am_fr_ok hfr
          have hlt : j < fds.length := (List.getElem?_eq_some_iff.mp hf).1
          refine va_get (D := (dC, dI)) (v := am_fv adr σ τ k j f) hx hb hts (am_cls_ok hcl).1 hown hK hW.1 k (am_obj hsh) hcl j hj (hts _ hlk) (fun x h => by rw [hT1] at h; exact h) ?_ hd (kk rfl rfl rfl)
          rw [List.getElem?_map, List.getElem?_range hlt, Option.map_some, List.getD_eq_getElem?_getD, hf]
          rfl
        · cases h
      · cases h
    · cases h
  · cases h
theorem am_nb {x : Int32} (h : x = 0 ∨ x = 1) : narrow .boolean (.int x) = .int x ∧ fits .boolean (.int x) = true := by
  rcases h with rfl | rfl <;> decide
def am_f42 : List Nat := match am_sh 42 with
  | some (.inr (_, fds)) => fds
  | _ => []
theorem am_sh42 : am_sh 42 = some (.inr (10, am_f42)) := rfl
theorem am_f42a : ∀ i, i < am_f42.length → i ≠ 35 → am_f42.getD i 0 ≠ 1 := by decide +kernel
theorem am_f42b : am_f42[35]? = some 1 := by decide +kernel
theorem am_no1 : (List.range am_N).all (fun a => decide (a = 42) || (match am_sh a with | some (.inr (_, fds)) => fds.all (fun f => decide (f ≠ 1)) | _ => true)) = true := by decide +kernel
theorem am_fv_no1 {σ : am_St} {τ τ' : Int64} {k j f : Nat} (h : f ≠ 1) : am_fv adr σ τ k j f = am_fv adr σ τ' k j f := by
  unfold am_fv am_fv0
  split <;> first | rfl | exact absurd rfl h
theorem am_wc_no1 {σ : am_St} {τ τ' : Int64} {a : Nat} (ha : a < am_N) (h : a ≠ 42) : am_wc adr cI cZ σ τ a = am_wc adr cI cZ σ τ' a := by
  have h1 := List.all_eq_true.mp am_no1 a (List.mem_range.mpr ha)
  simp only [Bool.or_eq_true, decide_eq_true_eq, h, false_or] at h1
  unfold am_wc
  split
  · rfl
  · rename_i ci fds hs
    rw [hs] at h1
    dsimp only at h1
    congr 2
    apply List.map_congr_left
    intro j hj
    have hj := List.mem_range.mp hj
    apply am_fv_no1
    rw [List.getD_eq_getElem?_getD, List.getElem?_eq_getElem hj]
    have h2 := List.all_eq_true.mp h1 _ (List.getElem_mem hj)
    exact of_decide_eq_true h2
  · rfl
theorem am_long_set {x : Int64} : (am_ws adr cI cZ σ τ).set 42 (adr 42, .inr (10, ((List.range am_f42.length).map (fun j => am_fv adr σ τ 42 j (am_f42.getD j 0))).set 35 (.long x))) = am_ws adr cI cZ σ x := by
  refine am_ws_set 42 _ ?_ (fun a ha hn => am_wc_no1 ha hn)
  unfold am_wc
  rw [am_sh42]
  dsimp only
  congr 2
theorem am_putL {cc : ByteArray} {rest : List Value} {own i : Nat} {x : Int64} (hx : p.tables.exec = Jvm.exec) (hb : c.code = cc) (hts : ∀ w ∈ am_tb, w.before args s = true) (hown : s.vm.findClass (am_R own) = some mi.cls) (hK : va_K (dC, dI) vwCl (am_ty cI cZ) s) (hW : am_Wd dC dI adr cI cZ A σ τ H) (hS : va_S A H0 H locs) (hfr : am_fr own i = some (10, 35)) (hd : decode cc pc = .ok (.putfield i, 3))
    (kk : ∀ (H1 : Heap) (locs1 : List Loc), am_Wd dC dI adr cI cZ A σ x H1 → va_S A H0 H1 locs1 → W p l e R s mi args below meth c H1 locs1 cells slots Q (F0 mi (pc + 3) lsj rest)) : W p l e R s mi args below meth c H locs cells slots Q (F0 mi pc lsj (.long x :: .ref (adr 42) :: rest)) := by
  obtain ⟨C, T, N, hcl, hj, hlk, hT1⟩ := am_fr_ok hfr
  obtain ⟨C2, T2, N2, hcl2, hlen, hC, hall⟩ := am_sh_ok am_sh42
  cases hcl.symm.trans hcl2
  obtain ⟨h1, ⟨ty0, h2⟩, h3⟩ := am_cls_ok hcl
  have hj4 := hall 35 hj
  rw [am_f42b] at hj4
  simp only [am_schj, Bool.and_eq_true, decide_eq_true_eq] at hj4
  refine va_put (D := (dC, dI)) (ty := .long) hx hb hts h1 ty0 h2 h3 hown hK hW.1 hW.2 hS 42 (am_obj am_sh42) hcl 35 hj (hts _ hlk) (fun x h => by rw [hT1] at h; exact h) hj4.2 hj4.1 rfl rfl (by rw [List.length_map, List.length_range, hlen]; exact hj) hd (fun H1 locs1 g1 g2 g3 => ?_)
  rw [am_long_set] at g1 g2
  exact kk H1 locs1 ⟨g1, g2⟩ g3
theorem am_n_putf {cc : ByteArray} {own i pc' : Nat} {ls' st' : List Value} {σ' : am_St} {τ' : Int64} (hx : p.tables.exec = Jvm.exec) (hb : c.code = cc) (hts : ∀ w ∈ am_tb, w.before args s = true) (hown : s.vm.findClass (am_R own) = some mi.cls) (hK : va_K (dC, dI) vwCl (am_ty cI cZ) s) (hW : am_Wd dC dI adr cI cZ A σ τ H) (hS : va_S A H0 H locs) (hd : decode cc pc = .ok (.putfield i, 3)) (h : am_putf own i (pc + 3) ls st σ τ = am_nx pc' ls' st' σ' τ')
    (kk : ls' = ls → ∀ (H1 : Heap) (locs1 : List Loc), am_Wd dC dI adr cI cZ A σ' τ' H1 → va_S A H0 H1 locs1 → W p l e R s mi args below meth c H1 locs1 cells slots Q (F0 mi pc' lsj (st'.map (am_cv adr)))) : W p l e R s mi args below meth c H locs cells slots Q (F0 mi pc lsj (st.map (am_cv adr))) := by
  unfold am_putf at h
  split at h
  · rename_i x k st2
    split at h
    · rename_i ci j cj fds hfr hsh
      split at h
      · rename_i hc
        subst hc
        split at h
        · rename_i hf
          obtain ⟨rfl, rfl, rfl, rfl, rfl⟩ := am_nx_inj h
          exact am_put1 hx hb hts hown hK hW hS hfr hsh (Or.inl ⟨hf, rfl⟩) (vp_nar_int x) rfl hd (kk rfl)
        · rename_i hf
          split at h
          · rename_i hn
            obtain ⟨rfl, rfl, rfl, rfl, rfl⟩ := am_nx_inj h
            exact am_put1 hx hb hts hown hK hW hS hfr hsh (Or.inr ⟨hf, rfl⟩) (am_nb hn).1 (am_nb hn).2 hd (kk rfl)
          · cases h
        · cases h
      · cases h
    · cases h
  · rename_i x k st2
    split at h
    · rename_i ci j hfr
      split at h
      · rename_i hc
        obtain ⟨rfl, rfl, rfl⟩ := hc
        obtain ⟨rfl, rfl, rfl, rfl, rfl⟩ := am_nx_inj h
        exact am_putL hx hb hts hown hK hW hS hfr hd (kk rfl)
      · cases h
    · cases h
  · cases h
theorem am_nn_v {own i pc' : Nat} {ls' st' : List Value} {σ' : am_St} {τ' : Int64} : ¬ am_invv own i st = am_nx pc' ls' st' σ' τ' := by
  intro h
  unfold am_invv am_nx at h
  repeat' split at h
  all_goals cases h
theorem am_nn_s {own i pc' : Nat} {ls' st' : List Value} {σ' : am_St} {τ' : Int64} : ¬ am_invs own i st = am_nx pc' ls' st' σ' τ' := by
  intro h
  unfold am_invs am_nx at h
  repeat' split at h
  all_goals cases h
theorem am_nn_i {m pc' : Nat} {ls' st' : List Value} {σ' : am_St} {τ' : Int64} : ¬ am_iret m st = am_nx pc' ls' st' σ' τ' := by
  intro h
  unfold am_iret am_nx at h
  repeat' split at h
  all_goals cases h
theorem am_nn_l {m pc' : Nat} {ls' st' : List Value} {σ' : am_St} {τ' : Int64} : ¬ am_lret m st = am_nx pc' ls' st' σ' τ' := by
  intro h
  unfold am_lret am_nx at h
  repeat' split at h
  all_goals cases h
theorem am_nn_r {m pc' : Nat} {ls' st' : List Value} {σ' : am_St} {τ' : Int64} : ¬ am_vret m st = am_nx pc' ls' st' σ' τ' := by
  intro h
  unfold am_vret am_nx at h
  repeat' split at h
  all_goals cases h
theorem am_next {ins : Instr} {len pc' : Nat} {ls' st' : List Value} {σ' : am_St} {τ' : Int64} (C : am_Cx p s mi args meth c dC dI cI cZ m) (hR : 1 ≤ R.frames ∧ 64 ≤ R.locals ∧ cells ≤ R.cells ∧ slots ≤ R.slots) (hW : am_Wd dC dI adr cI cZ A σ τ H) (hS : va_S A H0 H locs) (hl : lv_has lsj (am_mxl m) (am_la adr ls)) (hd : decode (am_code m) pc = .ok (ins, len)) (h : am_op ins len m pc ls st σ τ = am_nx pc' ls' st' σ' τ')
    (kk : ∀ (H1 : Heap) (locs1 : List Loc) (lsj1 : Array Slot), am_Wd dC dI adr cI cZ A σ' τ' H1 → va_S A H0 H1 locs1 → lv_has lsj1 (am_mxl m) (am_la adr ls') → W p l e R s mi args below meth c H1 locs1 cells slots Q (F0 mi pc' lsj1 (st'.map (am_cv adr)))) : W p l e R s mi args below meth c H locs cells slots Q (F0 mi pc lsj (st.map (am_cv adr))) := by
  obtain ⟨hx, hb, hml, hown, hts, hr, hlocks, hK⟩ := C
  unfold am_op at h
  split at h
  case h_1 => obtain ⟨rfl, rfl, rfl, rfl, rfl⟩ := am_nx_inj h; exact lv_iconst hx hb hd rfl (kk H locs lsj hW hS hl)
  case h_2 => obtain ⟨rfl, rfl, rfl, rfl, rfl⟩ := am_nx_inj h; exact lv_bipush hx hb hd rfl (kk H locs lsj hW hS hl)
  case h_3 => obtain ⟨rfl, rfl, rfl, rfl, rfl⟩ := am_nx_inj h; exact lv_sipush hx hb hd rfl (kk H locs lsj hW hS hl)
  case h_4 => obtain ⟨rfl, rfl, rfl, rfl, rfl⟩ := am_nx_inj h; exact lv_lconst hx hb hd rfl (kk H locs lsj hW hS hl)
  case h_5 =>
    split at h
    · rename_i hk
      obtain ⟨rfl, rfl, rfl, rfl, rfl⟩ := am_nx_inj h
      exact lv_ldcw hx hb hown (hts _ (am_ki_ok hk)) hd (kk H locs lsj hW hS hl)
    · cases h
  case h_6 =>
    split at h
    · rename_i hk
      obtain ⟨rfl, rfl, rfl, rfl, rfl⟩ := am_nx_inj h
      exact lv_ldc2 hx hb hown (hts _ (am_kl_ok hk)) hd (kk H locs lsj hW hS hl)
    · cases h
  case h_7 => obtain ⟨x, g, rfl, rfl, rfl, rfl, rfl⟩ := am_n_ldi (cc := am_code m) hl h; exact lv_iload_n hx hb hd rfl g (kk H locs lsj hW hS hl)
  case h_8 => obtain ⟨x, g, rfl, rfl, rfl, rfl, rfl⟩ := am_n_ldi (cc := am_code m) hl h; exact lv_iload hx hb hd g (kk H locs lsj hW hS hl)
  case h_9 => obtain ⟨x, g, rfl, rfl, rfl, rfl, rfl⟩ := am_n_ldl (cc := am_code m) hl h; exact lv_lload_n hx hb hd rfl g (kk H locs lsj hW hS hl)
  case h_10 => obtain ⟨x, g, rfl, rfl, rfl, rfl, rfl⟩ := am_n_ldl (cc := am_code m) hl h; exact lv_lload hx hb hd g (kk H locs lsj hW hS hl)
  case h_11 => obtain ⟨x, g, rfl, rfl, rfl, rfl, rfl⟩ := am_n_lda (cc := am_code m) hl h; exact lv_aload_n hx hb hd rfl g (kk H locs lsj hW hS hl)
  case h_12 => obtain ⟨x, g, rfl, rfl, rfl, rfl, rfl⟩ := am_n_lda (cc := am_code m) hl h; exact lv_aload hx hb hd g (kk H locs lsj hW hS hl)
  case h_13 => obtain ⟨x, rfl, hi, rfl, rfl, rfl, rfl⟩ := am_n_sti h; exact lv_istore_n hx hb hd rfl hl hi rfl (fun ls1 h1 => kk H locs ls1 hW hS (am_la_set1 h1))
  case h_14 => obtain ⟨x, rfl, hi, rfl, rfl, rfl, rfl⟩ := am_n_sti h; exact lv_istore hx hb hd hl hi rfl (fun ls1 h1 => kk H locs ls1 hW hS (am_la_set1 h1))
  case h_15 => obtain ⟨x, rfl, hi, rfl, rfl, rfl, rfl⟩ := am_n_stl h; exact lv_lstore_n hx hb hd rfl hl hi rfl (fun ls1 h1 => kk H locs ls1 hW hS (am_la_set2 h1))
  case h_16 => obtain ⟨x, rfl, hi, rfl, rfl, rfl, rfl⟩ := am_n_stl h; exact lv_lstore hx hb hd hl hi rfl (fun ls1 h1 => kk H locs ls1 hW hS (am_la_set2 h1))
  case h_17 i n =>
    unfold am_iin at h
    split at h
    · rename_i x hg
      split at h
      · rename_i hi
        obtain ⟨rfl, rfl, rfl, rfl, rfl⟩ := am_nx_inj h
        obtain ⟨k, hk⟩ := List.getElem?_of_mem (am_la_mem.mpr ⟨.int x, (show ls[i]? = some (.int x) by
          rw [List.getD_eq_getElem?_getD] at hg
          cases hz : ls[i]? with
          | none => rw [hz] at hg; cases hg
          | some w => rw [hz] at hg; exact congrArg some hg), (fun q => by cases q), rfl⟩ : (i, Value.int x) ∈ am_la adr ls)
        exact lv_iinc hx hb hd hl hk rfl hi rfl (fun ls1 h1 => kk H locs ls1 hW hS (am_la_set1 h1))
      · cases h
    · cases h
  case h_18 => obtain ⟨x, y, st2, rfl, rfl, rfl, rfl, rfl, rfl⟩ := am_n_i2 h; exact lv_iadd hx hb hd (kk H locs lsj hW hS hl)
  case h_19 => obtain ⟨x, y, st2, rfl, rfl, rfl, rfl, rfl, rfl⟩ := am_n_i2 h; exact lv_isub hx hb hd (kk H locs lsj hW hS hl)
  case h_20 => obtain ⟨x, y, st2, rfl, rfl, rfl, rfl, rfl, rfl⟩ := am_n_i2 h; exact lv_imul hx hb hd (kk H locs lsj hW hS hl)
  case h_21 => obtain ⟨x, y, st2, rfl, rfl, rfl, rfl, rfl, rfl⟩ := am_n_i2 h; exact lv_iand hx hb hd (kk H locs lsj hW hS hl)
  case h_22 => obtain ⟨x, y, st2, rfl, rfl, rfl, rfl, rfl, rfl⟩ := am_n_i2 h; exact lv_ior hx hb hd (kk H locs lsj hW hS hl)
  case h_23 => obtain ⟨x, y, st2, rfl, rfl, rfl, rfl, rfl, rfl⟩ := am_n_i2 h; exact lv_ixor hx hb hd (kk H locs lsj hW hS hl)
  case h_24 => obtain ⟨x, y, st2, rfl, rfl, rfl, rfl, rfl, rfl⟩ := am_n_i2 h; exact lv_ishl hx hb hd (kk H locs lsj hW hS hl)
  case h_25 => obtain ⟨x, y, st2, rfl, rfl, rfl, rfl, rfl, rfl⟩ := am_n_i2 h; exact lv_ishr hx hb hd (kk H locs lsj hW hS hl)
  case h_26 => obtain ⟨x, y, st2, rfl, rfl, rfl, rfl, rfl, rfl⟩ := am_n_i2 h; exact lv_iushr hx hb hd rfl (kk H locs lsj hW hS hl)
  case h_27 => obtain ⟨x, y, st2, hy, rfl, rfl, rfl, rfl, rfl, rfl⟩ := am_n_d2 h; exact lv_idiv hx hb hd hy (kk H locs lsj hW hS hl)
  case h_28 => obtain ⟨x, y, st2, hy, rfl, rfl, rfl, rfl, rfl, rfl⟩ := am_n_d2 h; exact lv_irem hx hb hd hy (kk H locs lsj hW hS hl)
  case h_29 => obtain ⟨x, y, st2, rfl, rfl, rfl, rfl, rfl, rfl⟩ := am_n_l2 h; exact lv_ladd hx hb hd (kk H locs lsj hW hS hl)
  case h_30 => obtain ⟨x, y, st2, rfl, rfl, rfl, rfl, rfl, rfl⟩ := am_n_l2 h; exact lv_lmul hx hb hd (kk H locs lsj hW hS hl)
  case h_31 => obtain ⟨x, y, st2, rfl, rfl, rfl, rfl, rfl, rfl⟩ := am_n_l2 h; exact lv_land hx hb hd (kk H locs lsj hW hS hl)
  case h_32 => (split at h; · obtain ⟨rfl, rfl, rfl, rfl, rfl⟩ := am_nx_inj h; exact lv_lushr hx hb hd rfl (kk H locs lsj hW hS hl)); cases h
  case h_33 => (split at h; · obtain ⟨rfl, rfl, rfl, rfl, rfl⟩ := am_nx_inj h; exact W.lcmp hx hb hd (kk H locs lsj hW hS hl)); cases h
  case h_34 => (split at h; · obtain ⟨rfl, rfl, rfl, rfl, rfl⟩ := am_nx_inj h; exact lv_i2l hx hb hd rfl (kk H locs lsj hW hS hl)); cases h
  case h_35 => (split at h; · obtain ⟨rfl, rfl, rfl, rfl, rfl⟩ := am_nx_inj h; exact lv_l2i hx hb hd rfl (kk H locs lsj hW hS hl)); cases h
  case h_36 =>
    split at h
    · split at h
      · rename_i hv
        obtain ⟨rfl, rfl, rfl, rfl, rfl⟩ := am_nx_inj h
        exact lv_dup hx hb hd (by rw [am_cv_cat]; exact hv) (kk H locs lsj hW hS hl)
      · cases h
    · cases h
  case h_37 =>
    split at h
    · split at h
      · rename_i hv
        obtain ⟨rfl, rfl, rfl, rfl, rfl⟩ := am_nx_inj h
        exact lv_dup2_11 hx hb hd (by rw [am_cv_cat]; exact hv.1) (by rw [am_cv_cat]; exact hv.2) (kk H locs lsj hW hS hl)
      · cases h
    · cases h
  case h_38 => obtain ⟨ht, rfl, rfl, rfl, rfl⟩ := am_jmp_inj h; exact lv_goto hx hb hd ht (kk H locs lsj hW hS hl)
  case h_39 cd off =>
    split at h
    · split at h
      · rename_i h0
        obtain ⟨rfl, rfl, rfl, rfl, rfl⟩ := am_nx_inj h
        refine am_if hx hb cd hd (am_tg_ok h0) (fun hc => ?_) (fun hc => ?_)
        · have k2 := kk H locs lsj hW hS hl
          rw [if_pos hc] at k2
          exact k2
        · have k2 := kk H locs lsj hW hS hl
          rw [if_neg (by rw [hc]; decide)] at k2
          exact k2
      · cases h
    · cases h
  case h_40 cd off =>
    split at h
    · split at h
      · rename_i h0
        obtain ⟨rfl, rfl, rfl, rfl, rfl⟩ := am_nx_inj h
        refine am_icmp hx hb cd hd (am_tg_ok h0) (fun hc => ?_) (fun hc => ?_)
        · have k2 := kk H locs lsj hW hS hl
          rw [if_pos hc] at k2
          exact k2
        · have k2 := kk H locs lsj hW hS hl
          rw [if_neg (by rw [hc]; decide)] at k2
          exact k2
      · cases h
    · cases h
  case h_41 =>
    split at h
    · split at h
      · rename_i hc
        obtain ⟨ht, rfl, rfl, rfl, rfl⟩ := am_jmp_inj h
        exact lv_tableOut hx hb hd hc ht (kk H locs lsj hW hS hl)
      · rename_i hc
        split at h
        · rename_i ho
          obtain ⟨ht, rfl, rfl, rfl, rfl⟩ := am_jmp_inj h
          exact lv_tableIn hx hb hd (fun q => hc (Or.inl q)) (fun q => hc (Or.inr q)) ho ht (kk H locs lsj hW hS hl)
        · cases h
    · cases h
  case h_42 =>
    split at h
    · split at h
      · rename_i hc
        obtain ⟨ht, rfl, rfl, rfl, rfl⟩ := am_jmp_inj h
        exact lv_lookup hx hb hd hc rfl ht (kk H locs lsj hW hS hl)
      · cases h
    · cases h
  case h_43 => exact am_n_getf hx hb hts hown hK hW hd h (fun e1 e2 e3 => by subst e1; subst e2; subst e3; exact kk H locs lsj hW hS hl)
  case h_44 => exact am_n_putf hx hb hts hown hK hW hS hd h (fun e1 H1 locs1 g1 g2 => by subst e1; exact kk H1 locs1 lsj g1 g2 hl)
  case h_45 =>
    unfold am_ald at h
    split at h
    · split at h
      · rename_i z n hs
        split at h
        · rename_i hc
          obtain ⟨rfl, hc⟩ := hc
          obtain ⟨rfl, rfl, rfl, rfl, rfl⟩ := am_nx_inj h
          exact va_iald hx hb hK hW.1 _ 0 (am_arr hs) rfl hc hd (kk H locs lsj hW hS hl)
        · cases h
      · cases h
    · cases h
  case h_46 =>
    unfold am_ald at h
    split at h
    · split at h
      · rename_i z n hs
        split at h
        · rename_i hc
          obtain ⟨rfl, hc⟩ := hc
          obtain ⟨rfl, rfl, rfl, rfl, rfl⟩ := am_nx_inj h
          exact va_zald hx hb hK hW.1 _ 1 (am_arr hs) rfl hc hd (kk H locs lsj hW hS hl)
        · cases h
      · cases h
    · cases h
  case h_47 =>
    unfold am_ast at h
    split at h
    · split at h
      · rename_i z n hs
        split at h
        · rename_i hc
          obtain ⟨rfl, hc⟩ := hc
          obtain ⟨rfl, rfl, rfl, rfl, rfl⟩ := am_nx_inj h
          refine va_iast hx hb hK hW.1 hW.2 hS _ 0 (am_arr hs) rfl hc hd (fun H1 locs1 g1 g2 g3 => ?_)
          rw [am_arr_set hs] at g1 g2
          exact kk H1 locs1 lsj ⟨g1, g2⟩ g3 hl
        · cases h
      · cases h
    · cases h
  case h_48 =>
    unfold am_ast at h
    split at h
    · split at h
      · rename_i z n hs
        split at h
        · rename_i hc
          obtain ⟨rfl, hc⟩ := hc
          obtain ⟨rfl, rfl, rfl, rfl, rfl⟩ := am_nx_inj h
          refine va_zast hx hb hK hW.1 hW.2 hS _ 1 (am_arr hs) rfl hc hd (fun H1 locs1 g1 g2 g3 => ?_)
          rw [am_arr_set hs] at g1 g2
          exact kk H1 locs1 lsj ⟨g1, g2⟩ g3 hl
        · cases h
      · cases h
    · cases h
  case h_49 => exact absurd h am_nn_v
  case h_50 =>
    split at h
    · rename_i b hm
      unfold am_mth at h
      split at h
      · split at h
        · rename_i hc
          obtain ⟨rfl, rfl, rfl, rfl, rfl⟩ := am_nx_inj h
          have hlk := am_mm_ok hm
          have hc2 := am_cats_cv adr
          cases b
          · exact va_mmin hx hb (hml.trans hl.1.symm) hown (hts _ hlk) (hts _ am_mx4) (hts _ am_mx5) (hts _ am_mx2) hR.1 (by rw [am_cats_cv]; omega) hR.2.2.1 hR.2.2.2 hd (kk H locs lsj hW hS hl)
          · exact va_mmax hx hb (hml.trans hl.1.symm) hown (hts _ hlk) (hts _ am_mx3) (hts _ am_mx5) (hts _ am_mx1) hR.1 (by rw [am_cats_cv]; omega) hR.2.2.1 hR.2.2.2 hd (kk H locs lsj hW hS hl)
        · cases h
      · cases h
    · exact absurd h am_nn_s
  case h_51 => exact absurd h am_nn_i
  case h_52 => exact absurd h am_nn_l
  case h_53 => exact absurd h am_nn_r
  all_goals cases h
end AMX
end
section
/-! whole runs of the abstract machine are sound: returns, calls, contracts -/
theorem am_op_call {ins : Instr} {len m pc : Nat} {ls st : List Value} {σ : am_St} {τ : Int64} {x : Nat × List Value × List Value} (h : am_op ins len m pc ls st σ τ = some (.inr (.inr x))) : (∃ i, ins = .invokevirtual i ∧ len = 3 ∧ am_invv (am_cl m) i st = some (.inr (.inr x))) ∨ (∃ i, ins = .invokestatic i ∧ len = 3 ∧ am_invs (am_cl m) i st = some (.inr (.inr x))) := by
  unfold am_op at h
  split at h
  case h_49 => exact Or.inl ⟨_, rfl, rfl, h⟩
  case h_50 =>
    split at h
    · exfalso
      unfold am_mth am_nx at h
      repeat' split at h
      all_goals cases h
    · exact Or.inr ⟨_, rfl, rfl, h⟩
  all_goals
    exfalso
    (try simp only [am_nx, am_jmp, am_ldi, am_ldl, am_lda, am_sti, am_stl, am_iin, am_i2, am_d2, am_l2, am_getf, am_putf, am_ald, am_ast, am_iret, am_lret, am_vret] at h)
    repeat' split at h
    all_goals cases h
theorem am_op_ret {ins : Instr} {len m pc : Nat} {ls st : List Value} {σ : am_St} {τ : Int64} {v : Option Value} (h : am_op ins len m pc ls st σ τ = some (.inl v)) : (ins = .ireturn ∧ len = 1 ∧ am_iret m st = some (.inl v)) ∨ (ins = .lreturn ∧ len = 1 ∧ am_lret m st = some (.inl v)) ∨ (ins = .return_ ∧ len = 1 ∧ am_vret m st = some (.inl v)) := by
  unfold am_op at h
  split at h
  case h_51 => exact Or.inl ⟨rfl, rfl, h⟩
  case h_52 => exact Or.inr (Or.inl ⟨rfl, rfl, h⟩)
  case h_53 => exact Or.inr (Or.inr ⟨rfl, rfl, h⟩)
  all_goals
    exfalso
    (try simp only [am_nx, am_jmp, am_ldi, am_ldl, am_lda, am_sti, am_stl, am_iin, am_i2, am_d2, am_l2, am_getf, am_putf, am_ald, am_ast, am_mth, am_invv, am_invs] at h)
    repeat' split at h
    all_goals cases h
/-- what holds behind a method: its answer, the world, nothing else changed -/
def am_Qc (dC : Nat → ClassId) (dI : Nat → Nat → Nat) (adr : Nat → Nat) (cI cZ : ClassId) (A : Nat → Prop) (v : Option Value) (σ : am_St) (τ : Int64) : Array Value → State → Outcome → State → Prop := fun _ st o t => (o = .returned (v.map (am_cv adr)) ∧ va_P (dC, dI) vwCl (am_ws adr cI cZ σ τ) t.heap ∧ va_K (dC, dI) vwCl (am_ty cI cZ) t ∧ va_D A (am_ws adr cI cZ σ τ)) ∧ va_F A st t
section AMC
variable {p : Program} {l : Launch} {e : Env} {R : Room} {s : State} {mi : MethodId} {args : Array Value} {below : List Frame} {meth : Method} {c : Code} {H : Heap} {locs : List Loc} {cells slots : Nat} {Q : State → Prop}
variable {dC : Nat → ClassId} {dI : Nat → Nat → Nat} {adr : Nat → Nat} {cI cZ : ClassId} {A : Nat → Prop} {H0 : Heap}
variable {m pc : Nat} {ls st : List Value} {σ : am_St} {τ : Int64} {lsj : Array Slot}
theorem am_rets {ins : Instr} {len : Nat} {v : Option Value} (C : am_Cx p s mi args meth c dC dI cI cZ m) (hW : am_Wd dC dI adr cI cZ A σ τ H) (hS : va_S A s.heap H locs) (hd : decode (am_code m) pc = .ok (ins, len)) (h : am_op ins len m pc ls st σ τ = some (.inl v)) : W p l e R s mi args below meth c H locs cells slots (MQ below (am_Qc dC dI adr cI cZ A v σ τ) args s cells slots A) (F0 mi pc lsj (st.map (am_cv adr))) := by
  obtain ⟨hx, hb, hml, hown, hts, hr, hlocks, hK⟩ := C
  rcases am_op_ret h with ⟨rfl, rfl, g⟩ | ⟨rfl, rfl, g⟩ | ⟨rfl, rfl, g⟩
  · unfold am_iret at g
    split at g
    · rename_i x hrt
      cases g
      rw [hrt] at hr
      exact W.iret hx hb hr (fun t ht hw => ⟨⟨rfl, by rw [ht]; exact hW.1, va_K.moved hw.alike hK, hW.2⟩, hS.F ht⟩) hS.2.2 hd
    · rename_i x hrt
      split at g
      · rename_i hv
        cases g
        rw [hrt] at hr
        exact W.zret hx hb hr (am_nb hv).1 (fun t ht hw => ⟨⟨rfl, by rw [ht]; exact hW.1, va_K.moved hw.alike hK, hW.2⟩, hS.F ht⟩) hS.2.2 hd
      · cases g
    · cases g
  · unfold am_lret at g
    split at g
    · rename_i x hrt
      cases g
      rw [hrt] at hr
      exact W.lret hx hb hr (fun t ht hw => ⟨⟨rfl, by rw [ht]; exact hW.1, va_K.moved hw.alike hK, hW.2⟩, hS.F ht⟩) hS.2.2 hd
    · cases g
  · unfold am_vret at g
    split at g
    · rename_i hrt
      cases g
      rw [hrt] at hr
      exact W.vret hx hb hr (fun t ht hw => ⟨⟨rfl, by rw [ht]; exact hW.1, va_K.moved hw.alike hK, hW.2⟩, hS.F ht⟩) hS.2.2 hd
    · cases g
/-- behind a call -/
theorem am_goes {mc ms : Nat} {A1 : Nat → Prop} {a : Array Value} {rest st0 : List Value} {v : Option Value} {free : Addr → Prop} (hr : va_Run p l e R s mi args below meth c H locs cells slots mc ms (F0 mi pc lsj st0) rest (am_Qc dC dI adr cI cZ A1 v σ τ a) free) (hS : va_S A H0 H locs) (hA : ∀ q, A1 q → A q) (hf : ∀ q, free q → A q)
    (kk : ∀ (H1 : Heap) (locs1 : List Loc), am_Wd dC dI adr cI cZ A σ τ H1 → va_S A H0 H1 locs1 → W p l e R s mi args below meth c H1 locs1 (cells + mc) (slots + ms) Q (F0 mi (pc + 3) lsj ((v.map (am_cv adr)).toList ++ rest))) : W p l e R s mi args below meth c H locs cells slots Q (F0 mi pc lsj st0) := by
  intro T hT X
  obtain ⟨v', st₀, t, T', L, h0, X', hL, e1, e2, ⟨⟨hv, hP, hK, hD⟩, hz, hk⟩, st⟩ := hr T hT X
  cases hv
  rw [h0] at hz hk
  obtain ⟨t2, a1, b1⟩ := kk T'.heap (locs ++ L) ⟨by rw [e1]; exact hP, hD.weaken (fun _ q _ h => hA q.1 h)⟩
    ⟨Nat.le_trans hS.1 (by rw [e1]; exact hz), fun q h1 h2 => by rw [e1, hk q (Nat.lt_of_lt_of_le h1 hS.1) (fun z => h2 (hA q z))]; exact hS.2.1 q h1 h2, fun q hq => by
      rcases List.mem_append.mp hq with h | h
      · exact hS.2.2 q h
      · exact hf _ (hL q h)⟩ T' rfl X'
  exact ⟨t2, st t2 a1, b1⟩
end AMC
theorem am_flat_args {adr : Nat → Nat} : ∀ (as : List Value) (j i : Nat) (v : Value), (am_flat as)[i]? = some v → v ≠ .null → (j + i, am_cv adr v) ∈ lv_args j (as.map (am_cv adr)) := by
  intro as
  induction as with
  | nil => intro j i v h; cases h
  | cons w as ih =>
    intro j i v h hv
    have e : am_flat (w :: as) = (if w.category = 2 then [w, .null] else [w]) ++ am_flat as := rfl
    rw [e] at h
    show _ ∈ (j, am_cv adr w) :: lv_args (if (am_cv adr w).category = 2 then j + 2 else j + 1) (as.map (am_cv adr))
    rw [am_cv_cat]
    by_cases hc : w.category = 2
    · rw [if_pos hc] at h ⊢
      match i, h with
      | 0, h => cases h; exact List.mem_cons_self
      | 1, h => cases h; exact absurd rfl hv
      | i + 2, h =>
        have := ih (j + 2) i v h hv
        rw [show j + (i + 2) = j + 2 + i by omega]
        exact List.mem_cons_of_mem _ this
    · rw [if_neg hc] at h ⊢
      match i, h with
      | 0, h => cases h; exact List.mem_cons_self
      | i + 1, h =>
        have := ih (j + 1) i v h hv
        rw [show j + (i + 1) = j + 1 + i by omega]
        exact List.mem_cons_of_mem _ this
theorem am_flat_len {adr : Nat → Nat} (as : List Value) : (lg_sl (as.map (am_cv adr))).length = (am_flat as).length := by
  induction as with
  | nil => rfl
  | cons w as ih =>
    have e : am_flat (w :: as) = (if w.category = 2 then [w, .null] else [w]) ++ am_flat as := rfl
    have e2 : lg_sl ((w :: as).map (am_cv adr)) = (if (am_cv adr w).category = 2 then [Slot.val (am_cv adr w), Slot.second] else [Slot.val (am_cv adr w)]) ++ lg_sl (as.map (am_cv adr)) := rfl
    rw [e, e2, List.length_append, List.length_append, ih, am_cv_cat]
    split <;> rfl
theorem am_entry {adr : Nat → Nat} {as : List Value} {n : Nat} {lsj : Array Slot} (h : lv_has lsj n (lv_args 0 (as.map (am_cv adr)))) : lv_has lsj n (am_la adr (am_en n as)) := by
  refine ⟨h.1, h.2.1, fun q hq => h.2.2 q ?_⟩
  obtain ⟨v, h1, h2, h3⟩ := am_la_mem.mp hq
  obtain ⟨i, x⟩ := q
  dsimp only at h1 h3
  subst h3
  unfold am_en at h1
  by_cases hi : i < (am_flat as).length
  · rw [List.getElem?_append_left hi] at h1
    have := am_flat_args (adr := adr) as 0 i v h1 h2
    rwa [Nat.zero_add] at this
  · rw [List.getElem?_append_right (by omega), List.getElem?_replicate] at h1
    split at h1
    · exact absurd (Option.some.inj h1).symm h2
    · cases h1
def am_rm (d : Nat) : Room := { frames := d + 1, cells := 0, slots := 0, locals := 64 * (d + 1) }
abbrev am_wds (q : Nat) : List Cond := Cond.code (am_y q) (am_code q) (am_mxl q) (am_rt q) :: am_tb
def am_Snd (l : Launch) (n : Nat) : Prop := ∀ (d m pc : Nat) (ls st : List Value) (σ : am_St) (τ : Int64) (v : Option Value) (σ' : am_St) (τ' : Int64), am_ev n d m pc ls st σ τ = some (v, σ', τ') → ∀ (p : Program) (e : Env) (R : Room) (s : State) (mi : MethodId) (args : Array Value) (below : List Frame) (meth : Method) (c : Code) (H : Heap) (locs : List Loc) (lsj : Array Slot) (dC : Nat → ClassId) (dI : Nat → Nat → Nat) (adr : Nat → Nat) (cI cZ : ClassId) (A : Nat → Prop), am_Cx p s mi args meth c dC dI cI cZ m → (∀ q, s.heap.size ≤ q → A q) → d + 1 ≤ R.frames ∧ 64 * (d + 1) ≤ R.locals → am_Wd dC dI adr cI cZ A σ τ H → va_S A s.heap H locs → lv_has lsj (am_mxl m) (am_la adr ls) → W p l e R s mi args below meth c H locs 0 0 (MQ below (am_Qc dC dI adr cI cZ A v σ' τ') args s 0 0 A) (F0 mi pc lsj (st.map (am_cv adr)))
/-- a method's start -/
abbrev am_Pc (dC : Nat → ClassId) (dI : Nat → Nat → Nat) (adr : Nat → Nat) (cI cZ : ClassId) (sz : Nat) (as : List Value) (σ : am_St) (τ : Int64) : Array Value → State → Prop := va_Pc (as.map (am_cv adr)) (fun U => U.heap.size = sz ∧ va_P (dC, dI) vwCl (am_ws adr cI cZ σ τ) U.heap ∧ va_K (dC, dI) vwCl (am_ty cI cZ) U ∧ va_D (fun _ => True) (am_ws adr cI cZ σ τ))
theorem am_met {l : Launch} {n d q : Nat} {as : List Value} {σ σ' : am_St} {τ τ' : Int64} {v : Option Value} {dC : Nat → ClassId} {dI : Nat → Nat → Nat} {adr : Nat → Nat} {cI cZ : ClassId} {sz : Nat} (IH : am_Snd l n) (hq : q < am_NM) (hlen : (am_flat as).length ≤ am_mxl q) (hev : am_ev n d q 0 (am_en (am_mxl q) as) [] σ τ = some (v, σ', τ')) : Met l (am_y q) (am_wds q) (am_rm d) (am_Pc dC dI adr cI cZ sz as σ τ) (am_Qc dC dI adr cI cZ (va_A (am_ws adr cI cZ σ τ) sz) v σ' τ') 0 0 (va_A (am_ws adr cI cZ σ τ) sz) := by
  refine Met.ofW (cc := am_code q) (maxL := am_mxl q) (ret := am_rt q) (am_mok hq).2.1 rfl ?_
  intro p e s m args below meth c s₁ B hml hv
  obtain ⟨rfl, hsz, hP, hK, hD0⟩ := hv
  have hts := atoms_spec (ws := am_wds q) B.pre
  have hown : s.vm.findClass (am_y q).cls = some m.cls := findClass_of_methodNamed B.named
  subst hsz
  have hD := hD0.self (sz := s.heap.size)
  have hl := lv_entry (as.map (am_cv adr)) (n := am_mxl q) (by rw [am_flat_len]; exact hlen)
  rw [lg_entry_eq]
  generalize (lg_sl (as.map (am_cv adr)) ++ List.replicate (am_mxl q - (lg_sl (as.map (am_cv adr))).length) Slot.unset).toArray = lsj at hl ⊢
  exact IH d q 0 (am_en (am_mxl q) as) [] σ τ v σ' τ' hev p e _ s m _ below meth c s.heap [] lsj dC dI adr cI cZ (va_A (am_ws adr cI cZ σ τ) s.heap.size) ⟨B.exec, B.bytes, hml, by rw [← (am_mok hq).2.2.1]; exact hown, fun w hw => hts w (List.mem_cons_of_mem _ hw), B.returns, B.notSynchronized, hK⟩ (fun q h => Or.inr h) ⟨Nat.le_refl _, Nat.le_refl _⟩ ⟨hP, hD⟩ va_S.rf (am_entry hl)
theorem am_blind {dC : Nat → ClassId} {dI : Nat → Nat → Nat} {adr : Nat → Nat} {cI cZ : ClassId} {sz : Nat} {as : List Value} {σ : am_St} {τ : Int64} : FrameBlind (am_Pc dC dI adr cI cZ sz as σ τ) := by
  intro a U g mk q
  obtain ⟨q0, q1, qP, qK, qD⟩ := q
  exact ⟨q0, q1, qP, va_K.moved (u := U) (U := U.calling g mk a) (Vm.Alike.refl U.vm) qK, qD⟩
theorem am_freeA {adr : Nat → Nat} {cI cZ : ClassId} {A : Nat → Prop} {H0 H : Heap} {locs : List Loc} {σ : am_St} {τ : Int64} (hD : va_D A (am_ws adr cI cZ σ τ)) (hS : va_S A H0 H locs) (hA : ∀ q, H0.size ≤ q → A q) : ∀ q, va_A (am_ws adr cI cZ σ τ) H.size q → A q := by
  intro q h
  rcases h with ⟨k, ee, h⟩ | h
  · exact hD.2 k (q, ee) h
  · exact hA q (Nat.le_trans hS.1 h)
section AMV
variable {p : Program} {l : Launch} {e : Env} {R : Room} {s : State} {mi : MethodId} {args : Array Value} {below : List Frame} {meth : Method} {c : Code} {H : Heap} {locs : List Loc} {cells slots : Nat} {Q : State → Prop}
variable {dC : Nat → ClassId} {dI : Nat → Nat → Nat} {adr : Nat → Nat} {cI cZ : ClassId} {A : Nat → Prop} {H0 : Heap}
variable {m pc : Nat} {ls st : List Value} {σ : am_St} {τ : Int64} {lsj : Array Slot}
theorem am_pre {sz : Nat} {as : List Value} (hK : va_K (dC, dI) vwCl (am_ty cI cZ) s) (hW : am_Wd dC dI adr cI cZ A σ τ H) : ∀ U : State, U.heap = H → s.WarmedH U.vm → am_Pc dC dI adr cI cZ H.size as σ τ (as.map (am_cv adr)).toArray U := fun U hU hw => ⟨rfl, by rw [hU], by rw [hU]; exact hW.1, va_K.moved hw.alike hK, hW.2.weaken (fun _ _ _ _ => trivial)⟩
/-- a call of a method of an object, from any method whose words hold -/
theorem am_callV {cc : ByteArray} {own : String} {i q k ci d nL : Nat} {fds : List Nat} {as rest : List Value} {v : Option Value} {σ' : am_St} {τ' : Int64} (hx : p.tables.exec = Jvm.exec) (hb : c.code = cc) (hml : c.maxLocals = nL) (hown : s.vm.findClass own = some mi.cls) (hts : ∀ w ∈ am_tb, w.before args s = true) (hlk : Cond.methodLink own i (am_y q) ∈ am_tb) (hq : q < am_NM) (hst : am_st q = false) (hsh : am_sh k = some (.inr (ci, fds))) (hci : ci = am_cl q) (hn : as.length = am_np q) (hc : am_cats rest ≤ 8) (hK : va_K (dC, dI) vwCl (am_ty cI cZ) s) (hW : am_Wd dC dI adr cI cZ A σ τ H) (hS : va_S A H0 H locs) (hA : ∀ q, H0.size ≤ q → A q) (hsz : lsj.size = nL) (hR : d + 2 ≤ R.frames ∧ 64 * (d + 2) ≤ R.locals ∧ cells ≤ R.cells ∧ slots ≤ R.slots) (hd : decode cc pc = .ok (.invokevirtual i, 3))
    (hM : Met l (am_y q) (am_wds q) (am_rm d) (am_Pc dC dI adr cI cZ H.size (.ref k :: as) σ τ) (am_Qc dC dI adr cI cZ (va_A (am_ws adr cI cZ σ τ) H.size) v σ' τ') 0 0 (va_A (am_ws adr cI cZ σ τ) H.size))
    (kk : ∀ (H1 : Heap) (locs1 : List Loc), am_Wd dC dI adr cI cZ A σ' τ' H1 → va_S A H0 H1 locs1 → W p l e R s mi args below meth c H1 locs1 cells slots Q (F0 mi (pc + 3) lsj ((v.toList ++ rest).map (am_cv adr)))) : W p l e R s mi args below meth c H locs cells slots Q (F0 mi pc lsj ((as.reverse ++ .ref k :: rest).map (am_cv adr))) := by
  obtain ⟨m1, m2, m3, m4, m5, m6, m7, m8, m9, m10⟩ := am_mok hq
  obtain ⟨m10, m11⟩ := m10 hst
  have hF := am_freeA hW.2 hS hA
  obtain ⟨C2, T2, N2, hcl2, hlen, hC, hall⟩ := am_sh_ok hsh
  have hG : GoodIn am_tb (wsV own i (am_y q).cls (am_y q) (am_wds q)) := am_goodIn (by
    intro w hw
    unfold wsV at hw
    simp only [List.mem_append, List.mem_cons, List.not_mem_nil, or_false] at hw
    rcases hw with (rfl | rfl | rfl | rfl) | rfl | hw
    · exact hlk
    · exact m10
    · exact m11
    · exact m8
    · exact m1
    · exact hw)
  have hrecv : ∃ cellB : Cell, H[adr k]? = some cellB ∧ cellB.vm.isStatics = false ∧ s.vm.findClass (am_y q).cls = some cellB.cls := by
    have := va_recv hK hW.1 hcl2 (am_obj hsh)
    dsimp only at this
    rw [hC, hci, ← m3] at this
    exact this
  refine am_goes (rest := rest.map (am_cv adr)) (va_runV (As := as.map (am_cv adr)) (b := adr k) (n := am_np q) ⟨hx, hb, hml, hown, hts⟩ hM (cwV (am_np q) hts hG rfl rfl rfl ⟨rfl, m4, m5, m6⟩ ⟨by show d + 1 + 1 ≤ _; omega, by show 8 + (am_mxl q + 11) + 64 * (d + 1) ≤ _; omega⟩) ⟨am_blind, hrecv, am_pre (sz := 0) hK hW⟩ rfl (by rw [List.length_map]; exact hn) hsz ?_ (lv_room (by rw [am_cats_cv]; exact hc)) hd ⟨by omega, by omega⟩) hS hF hF (fun H1 locs1 g1 g2 => ?_)
  · show (as.reverse ++ Value.ref k :: rest).map (am_cv adr) = _
    rw [List.map_append, List.map_reverse]
    rfl
  · have := kk H1 locs1 g1 g2
    rw [List.map_append] at this
    cases v <;> exact this
theorem am_callS {cc : ByteArray} {own : String} {i q d nL : Nat} {as rest : List Value} {v : Option Value} {σ' : am_St} {τ' : Int64} (hx : p.tables.exec = Jvm.exec) (hb : c.code = cc) (hml : c.maxLocals = nL) (hown : s.vm.findClass own = some mi.cls) (hts : ∀ w ∈ am_tb, w.before args s = true) (hlk : Cond.methodLink own i (am_y q) ∈ am_tb) (hq : q < am_NM) (hst : am_st q = true) (hn : as.length = am_np q) (hc : am_cats rest ≤ 8) (hK : va_K (dC, dI) vwCl (am_ty cI cZ) s) (hW : am_Wd dC dI adr cI cZ A σ τ H) (hS : va_S A H0 H locs) (hA : ∀ q, H0.size ≤ q → A q) (hsz : lsj.size = nL) (hR : d + 2 ≤ R.frames ∧ 64 * (d + 2) ≤ R.locals ∧ cells ≤ R.cells ∧ slots ≤ R.slots) (hd : decode cc pc = .ok (.invokestatic i, 3))
    (hM : Met l (am_y q) (am_wds q) (am_rm d) (am_Pc dC dI adr cI cZ H.size as σ τ) (am_Qc dC dI adr cI cZ (va_A (am_ws adr cI cZ σ τ) H.size) v σ' τ') 0 0 (va_A (am_ws adr cI cZ σ τ) H.size))
    (kk : ∀ (H1 : Heap) (locs1 : List Loc), am_Wd dC dI adr cI cZ A σ' τ' H1 → va_S A H0 H1 locs1 → W p l e R s mi args below meth c H1 locs1 cells slots Q (F0 mi (pc + 3) lsj ((v.toList ++ rest).map (am_cv adr)))) : W p l e R s mi args below meth c H locs cells slots Q (F0 mi pc lsj ((as.reverse ++ rest).map (am_cv adr))) := by
  obtain ⟨m1, m2, m3, m4, m5, m6, m7, m8, m9, m10⟩ := am_mok hq
  have m9 := m9 hst
  have hF := am_freeA hW.2 hS hA
  have hG : GoodIn am_tb (am_wds q) := am_goodIn (by
    intro w hw
    rcases List.mem_cons.mp hw with rfl | hw
    · exact m1
    · exact hw)
  refine am_goes (rest := rest.map (am_cv adr)) (va_runS (As := as.map (am_cv adr)) (n := am_np q) ⟨hx, hb, hml, hown, hts⟩ hM ⟨callB_of (am_np q) hts hG rfl rfl rfl (hts _ m8) (hts _ hlk) ⟨m4, m5, m6⟩ ⟨by show d + 1 + 1 ≤ _; omega, by show 8 + (am_mxl q + 11) + 64 * (d + 1) ≤ _; omega⟩, hts _ m9⟩ ⟨am_blind, am_pre (sz := 0) hK hW⟩ rfl (by rw [List.length_map]; exact hn) hsz ?_ (lv_room (by rw [am_cats_cv]; exact hc)) hd ⟨by omega, by omega⟩) hS hF hF (fun H1 locs1 g1 g2 => ?_)
  · show (as.reverse ++ rest).map (am_cv adr) = _
    rw [List.map_append, List.map_reverse]
  · have := kk H1 locs1 g1 g2
    rw [List.map_append] at this
    cases v <;> exact this
end AMV
theorem am_sound (l : Launch) : ∀ n, am_Snd l n := by
  intro n
  induction n with
  | zero => intro d m pc ls st σ τ v σ' τ' h; cases h
  | succ n ih =>
    intro d m pc ls st σ τ v σ' τ' h p e R s mi args below meth c H locs lsj dC dI adr cI cZ A C hA hR hW hS hl
    rw [am_ev] at h
    cases hs : am_step m pc ls st σ τ with
    | none => rw [hs] at h; cases h
    | some x =>
      rw [hs] at h
      have hst := hs
      unfold am_step at hst
      cases hdec : decode (am_code m) pc with
      | error er => rw [hdec] at hst; cases hst
      | ok y =>
        obtain ⟨ins, len⟩ := y
        rw [hdec] at hst
        dsimp only at hst
        match x, hst, h with
        | .inl w, hst, h =>
          cases h
          exact am_rets C hW hS hdec hst
        | .inr (.inl (pc', ls', st', σ1, τ1)), hst, h =>
          refine am_next C ⟨by omega, by omega, Nat.zero_le _, Nat.zero_le _⟩ hW hS hl hdec hst (fun H1 locs1 lsj1 g1 g2 g3 => ?_)
          exact ih d m pc' ls' st' σ1 τ1 v σ' τ' h p e R s mi args below meth c H1 locs1 lsj1 dC dI adr cI cZ A C hA hR g1 g2 g3
        | .inr (.inr (q, as, rest)), hst, h =>
          match d, h, hR with
          | 0, h, _ => cases h
          | d' + 1, h, hR =>
            dsimp only at h
            cases hc : am_ev n d' q 0 (am_en (am_mxl q) as) [] σ τ with
            | none => rw [hc] at h; cases h
            | some z =>
              obtain ⟨w, σ1, τ1⟩ := z
              rw [hc] at h
              dsimp only at h
              obtain ⟨hx, hb, hml, hown, hts, hr, hlocks, hK⟩ := id C
              have goon : ∀ (H1 : Heap) (locs1 : List Loc), am_Wd dC dI adr cI cZ A σ1 τ1 H1 → va_S A s.heap H1 locs1 → W p l e R s mi args below meth c H1 locs1 0 0 (MQ below (am_Qc dC dI adr cI cZ A v σ' τ') args s 0 0 A) (F0 mi (pc + 3) lsj ((w.toList ++ rest).map (am_cv adr))) := fun H1 locs1 g1 g2 => ih (d' + 1) m (pc + 3) ls (w.toList ++ rest) σ1 τ1 v σ' τ' h p e R s mi args below meth c H1 locs1 lsj dC dI adr cI cZ A C hA hR g1 g2 hl
              rcases am_op_call hst with ⟨i, rfl, rfl, hi⟩ | ⟨i, rfl, rfl, hi⟩
              · unfold am_invv at hi
                split at hi
                · rename_i q0 hmr
                  split at hi
                  · rename_i hq0
                    split at hi
                    · rename_i k rest0 hdrop
                      split at hi
                      · rename_i ci fds hsh
                        split at hi
                        · rename_i hcc
                          cases hi
                          obtain ⟨hc1, hc2, hc3, hc4⟩ := hcc
                          have e1 : st = (st.take (am_np q)).reverse.reverse ++ .ref k :: rest := by
                            rw [List.reverse_reverse, ← hdrop, List.take_append_drop]
                          rw [e1]
                          exact am_callV (cc := am_code m) (nL := am_mxl m) (d := d') hx hb hml hown hts (am_mr_ok hmr) hq0.2 hq0.1 hsh hc1 (by rw [List.length_reverse, List.length_take]; omega) hc3 hK hW hS hA hl.1 ⟨by omega, by omega, Nat.zero_le _, Nat.zero_le _⟩ hdec (am_met ih hq0.2 hc4 hc) goon
                        · cases hi
                      · cases hi
                    · cases hi
                  · cases hi
                · cases hi
              · unfold am_invs at hi
                split at hi
                · rename_i q0 hmr
                  split at hi
                  · rename_i hcc
                    cases hi
                    obtain ⟨hc0, hc1, hc2, hc3, hc4⟩ := hcc
                    have e1 : st = (st.take (am_np q)).reverse.reverse ++ st.drop (am_np q) := by
                      rw [List.reverse_reverse, List.take_append_drop]
                    have goal := am_callS (cc := am_code m) (nL := am_mxl m) (d := d') hx hb hml hown hts (am_mr_ok hmr) hc1 hc0 (by rw [List.length_reverse, List.length_take]; omega) hc3 hK hW hS hA hl.1 ⟨by omega, by omega, Nat.zero_le _, Nat.zero_le _⟩ hdec (am_met ih hc1 hc4 hc) goon
                    rw [← e1] at goal
                    exact goal
                  · cases hi
                · cases hi
/-- a method's contract, out of a run of the abstract machine -/
theorem am_contract (l : Launch) {d q : Nat} {as : List Value} {σ σ' : am_St} {τ τ' : Int64} {v : Option Value} {dC : Nat → ClassId} {dI : Nat → Nat → Nat} {adr : Nat → Nat} {cI cZ : ClassId} {sz : Nat} (hq : q < am_NM) (hlen : (am_flat as).length ≤ am_mxl q) (h : am_call d q as σ τ = some (v, σ', τ')) : Met l (am_y q) (am_wds q) (am_rm d) (am_Pc dC dI adr cI cZ sz as σ τ) (am_Qc dC dI adr cI cZ (va_A (am_ws adr cI cZ σ τ) sz) v σ' τ') 0 0 (va_A (am_ws adr cI cZ σ τ) sz) := by
  obtain ⟨n, hn⟩ := am_run_iff.mp h
  exact am_met (am_sound l n) hq hlen hn
end
section
/-! rules of the abstract machine, an instruction each, as equations -/
section AMR
variable {d m pc : Nat} {ls st : List Value} {σ : am_St} {τ : Int64}
theorem am_run_none (h : am_step m pc ls st σ τ = none) : am_run d m pc ls st σ τ = none := by
  cases hr : am_run d m pc ls st σ τ with
  | none => rfl
  | some r =>
    obtain ⟨n, hn⟩ := am_run_iff.mp hr
    cases n with
    | zero => cases hn
    | succ n => rw [am_ev, h] at hn; cases hn
theorem am_step_eq {ins : Instr} {len : Nat} (hd : decode (am_code m) pc = .ok (ins, len)) : am_step m pc ls st σ τ = am_op ins len m pc ls st σ τ := by
  unfold am_step
  rw [hd]
/-- a long that is overwritten in its second half is gone -/
def am_nl (v : Value) : Value := if v.category = 2 then .null else v
theorem am_nl_i (x : Int32) : am_nl (.int x) = .int x := rfl
theorem am_nl_r (x : Nat) : am_nl (.ref x) = .ref x := rfl
theorem am_nl_n : am_nl .null = .null := rfl
theorem am_nl_l (x : Int64) : am_nl (.long x) = .null := rfl
theorem rr_next {ins : Instr} {len pc' : Nat} {ls' st' : List Value} {σ' : am_St} {τ' : Int64} (hd : decode (am_code m) pc = .ok (ins, len)) (h : am_op ins len m pc ls st σ τ = am_nx pc' ls' st' σ' τ') : am_run d m pc ls st σ τ = am_run d m pc' ls' st' σ' τ' := am_run_next ((am_step_eq hd).trans h)
theorem rr_iconst {n : Int} (v : Int32) (hd : decode (am_code m) pc = .ok (.iconst n, 1)) (hv : Int32.ofInt n = v) : am_run d m pc ls st σ τ = am_run d m (pc + 1) ls (.int v :: st) σ τ := by subst hv; exact rr_next hd rfl
theorem rr_bipush {n : Int} (v : Int32) (hd : decode (am_code m) pc = .ok (.bipush n, 2)) (hv : (Int8.ofInt n).toInt32 = v) : am_run d m pc ls st σ τ = am_run d m (pc + 2) ls (.int v :: st) σ τ := by subst hv; exact rr_next hd rfl
theorem rr_sipush {n : Int} (v : Int32) (hd : decode (am_code m) pc = .ok (.sipush n, 3)) (hv : (Int16.ofInt n).toInt32 = v) : am_run d m pc ls st σ τ = am_run d m (pc + 3) ls (.int v :: st) σ τ := by subst hv; exact rr_next hd rfl
theorem rr_lconst {n : Fin 2} (v : Int64) (hd : decode (am_code m) pc = .ok (.lconst n, 1)) (hv : Int64.ofNat (n : Nat) = v) : am_run d m pc ls st σ τ = am_run d m (pc + 1) ls (.long v :: st) σ τ := by subst hv; exact rr_next hd rfl
theorem rr_ldcw {i : Nat} (v : Int32) (hd : decode (am_code m) pc = .ok (.ldc_w i, 3)) (hv : am_ki (am_cl m) i = some v) : am_run d m pc ls st σ τ = am_run d m (pc + 3) ls (.int v :: st) σ τ := rr_next hd (by show (match am_ki (am_cl m) i with | some v => am_nx (pc + 3) ls (.int v :: st) σ τ | none => none) = _; rw [hv])
theorem rr_ldc2 {i : Nat} (v : Int64) (hd : decode (am_code m) pc = .ok (.ldc2_w i, 3)) (hv : am_kl (am_cl m) i = some v) : am_run d m pc ls st σ τ = am_run d m (pc + 3) ls (.long v :: st) σ τ := rr_next hd (by show (match am_kl (am_cl m) i with | some v => am_nx (pc + 3) ls (.long v :: st) σ τ | none => none) = _; rw [hv])
theorem rr_iload_n {k : Fin 4} {x : Int32} (hd : decode (am_code m) pc = .ok (.iload_n k, 1)) (hv : ls.getD k .null = .int x) : am_run d m pc ls st σ τ = am_run d m (pc + 1) ls (.int x :: st) σ τ := rr_next hd (by show am_ldi _ (ls.getD k .null) _ _ _ _ = _; rw [hv]; rfl)
theorem rr_iload {k : Nat} {x : Int32} (hd : decode (am_code m) pc = .ok (.iload k, 2)) (hv : ls.getD k .null = .int x) : am_run d m pc ls st σ τ = am_run d m (pc + 2) ls (.int x :: st) σ τ := rr_next hd (by show am_ldi _ (ls.getD k .null) _ _ _ _ = _; rw [hv]; rfl)
theorem rr_lload_n {k : Fin 4} {x : Int64} (hd : decode (am_code m) pc = .ok (.lload_n k, 1)) (hv : ls.getD k .null = .long x) : am_run d m pc ls st σ τ = am_run d m (pc + 1) ls (.long x :: st) σ τ := rr_next hd (by show am_ldl _ (ls.getD k .null) _ _ _ _ = _; rw [hv]; rfl)
theorem rr_lload {k : Nat} {x : Int64} (hd : decode (am_code m) pc = .ok (.lload k, 2)) (hv : ls.getD k .null = .long x) : am_run d m pc ls st σ τ = am_run d m (pc + 2) ls (.long x :: st) σ τ := rr_next hd (by show am_ldl _ (ls.getD k .null) _ _ _ _ = _; rw [hv]; rfl)
theorem rr_aload_n {k : Fin 4} {x : Nat} (hd : decode (am_code m) pc = .ok (.aload_n k, 1)) (hv : ls.getD k .null = .ref x) : am_run d m pc ls st σ τ = am_run d m (pc + 1) ls (.ref x :: st) σ τ := rr_next hd (by show am_lda _ (ls.getD k .null) _ _ _ _ = _; rw [hv]; rfl)
theorem rr_aload {k : Nat} {x : Nat} (hd : decode (am_code m) pc = .ok (.aload k, 2)) (hv : ls.getD k .null = .ref x) : am_run d m pc ls st σ τ = am_run d m (pc + 2) ls (.ref x :: st) σ τ := rr_next hd (by show am_lda _ (ls.getD k .null) _ _ _ _ = _; rw [hv]; rfl)
theorem rr_istore_n {k : Fin 4} {x : Int32} (ls' : List Value) (hd : decode (am_code m) pc = .ok (.istore_n k, 1)) (hk : (k : Nat) < am_mxl m) (hl : am_set1 ls k (.int x) = ls') : am_run d m pc ls (.int x :: st) σ τ = am_run d m (pc + 1) ls' st σ τ := rr_next hd (by show (if (k : Nat) < am_mxl m then _ else none) = _; rw [if_pos hk, hl])
theorem rr_istore {k : Nat} {x : Int32} (ls' : List Value) (hd : decode (am_code m) pc = .ok (.istore k, 2)) (hk : (k : Nat) < am_mxl m) (hl : am_set1 ls k (.int x) = ls') : am_run d m pc ls (.int x :: st) σ τ = am_run d m (pc + 2) ls' st σ τ := rr_next hd (by show (if (k : Nat) < am_mxl m then _ else none) = _; rw [if_pos hk, hl])
theorem rr_lstore_n {k : Fin 4} {x : Int64} (ls' : List Value) (hd : decode (am_code m) pc = .ok (.lstore_n k, 1)) (hk : (k : Nat) + 1 < am_mxl m) (hl : am_set2 ls k (.long x) = ls') : am_run d m pc ls (.long x :: st) σ τ = am_run d m (pc + 1) ls' st σ τ := rr_next hd (by show (if (k : Nat) + 1 < am_mxl m then _ else none) = _; rw [if_pos hk, hl])
theorem rr_lstore {k : Nat} {x : Int64} (ls' : List Value) (hd : decode (am_code m) pc = .ok (.lstore k, 2)) (hk : (k : Nat) + 1 < am_mxl m) (hl : am_set2 ls k (.long x) = ls') : am_run d m pc ls (.long x :: st) σ τ = am_run d m (pc + 2) ls' st σ τ := rr_next hd (by show (if (k : Nat) + 1 < am_mxl m then _ else none) = _; rw [if_pos hk, hl])
theorem rr_iinc {k : Nat} {n : Int} {x : Int32} (w : Int32) (ls' : List Value) (hd : decode (am_code m) pc = .ok (.iinc k n, 3)) (hv : ls.getD k .null = .int x) (hk : k < am_mxl m) (hw : Int32.ofInt n = w) (hl : am_set1 ls k (.int (x + w)) = ls') : am_run d m pc ls st σ τ = am_run d m (pc + 3) ls' st σ τ := by
  subst hw
  exact rr_next hd (by show am_iin _ _ k n (ls.getD k .null) _ _ _ _ = _; rw [hv]; show (if k < am_mxl m then _ else none) = _; rw [if_pos hk, hl])
theorem rr_iadd {x y : Int32} (hd : decode (am_code m) pc = .ok (.iadd, 1)) : am_run d m pc ls (.int y :: .int x :: st) σ τ = am_run d m (pc + 1) ls (.int (x + y) :: st) σ τ := rr_next hd rfl
theorem rr_isub {x y : Int32} (hd : decode (am_code m) pc = .ok (.isub, 1)) : am_run d m pc ls (.int y :: .int x :: st) σ τ = am_run d m (pc + 1) ls (.int (x - y) :: st) σ τ := rr_next hd rfl
theorem rr_imul {x y : Int32} (hd : decode (am_code m) pc = .ok (.imul, 1)) : am_run d m pc ls (.int y :: .int x :: st) σ τ = am_run d m (pc + 1) ls (.int (x * y) :: st) σ τ := rr_next hd rfl
theorem rr_iand {x y : Int32} (hd : decode (am_code m) pc = .ok (.iand, 1)) : am_run d m pc ls (.int y :: .int x :: st) σ τ = am_run d m (pc + 1) ls (.int (x &&& y) :: st) σ τ := rr_next hd rfl
theorem rr_ior {x y : Int32} (hd : decode (am_code m) pc = .ok (.ior, 1)) : am_run d m pc ls (.int y :: .int x :: st) σ τ = am_run d m (pc + 1) ls (.int (x ||| y) :: st) σ τ := rr_next hd rfl
theorem rr_ixor {x y : Int32} (hd : decode (am_code m) pc = .ok (.ixor, 1)) : am_run d m pc ls (.int y :: .int x :: st) σ τ = am_run d m (pc + 1) ls (.int (x ^^^ y) :: st) σ τ := rr_next hd rfl
theorem rr_ishl {x y : Int32} (hd : decode (am_code m) pc = .ok (.ishl, 1)) : am_run d m pc ls (.int y :: .int x :: st) σ τ = am_run d m (pc + 1) ls (.int (x <<< (y &&& 31)) :: st) σ τ := rr_next hd rfl
theorem rr_ishr {x y : Int32} (hd : decode (am_code m) pc = .ok (.ishr, 1)) : am_run d m pc ls (.int y :: .int x :: st) σ τ = am_run d m (pc + 1) ls (.int (x >>> (y &&& 31)) :: st) σ τ := rr_next hd rfl
theorem rr_iushr {x y : Int32} (hd : decode (am_code m) pc = .ok (.iushr, 1)) : am_run d m pc ls (.int y :: .int x :: st) σ τ = am_run d m (pc + 1) ls (.int (x.toUInt32 >>> (y.toUInt32 &&& Int32.toUInt32 31)).toInt32 :: st) σ τ := rr_next hd rfl
theorem rr_idiv {x y : Int32} (hd : decode (am_code m) pc = .ok (.idiv, 1)) : am_run d m pc ls (.int y :: .int x :: st) σ τ = if y = 0 then none else am_run d m (pc + 1) ls (.int (x / y) :: st) σ τ := by
  split
  · rename_i h; exact am_run_none ((am_step_eq hd).trans (by show (if y = 0 then none else _) = _; rw [if_pos h]))
  · rename_i h; exact rr_next hd (by show (if y = 0 then none else _) = _; rw [if_neg h])
theorem rr_irem {x y : Int32} (hd : decode (am_code m) pc = .ok (.irem, 1)) : am_run d m pc ls (.int y :: .int x :: st) σ τ = if y = 0 then none else am_run d m (pc + 1) ls (.int (x - x / y * y) :: st) σ τ := by
  split
  · rename_i h; exact am_run_none ((am_step_eq hd).trans (by show (if y = 0 then none else _) = _; rw [if_pos h]))
  · rename_i h; exact rr_next hd (by show (if y = 0 then none else _) = _; rw [if_neg h])
theorem rr_ladd {x y : Int64} (hd : decode (am_code m) pc = .ok (.ladd, 1)) : am_run d m pc ls (.long y :: .long x :: st) σ τ = am_run d m (pc + 1) ls (.long (x + y) :: st) σ τ := rr_next hd rfl
theorem rr_lmul {x y : Int64} (hd : decode (am_code m) pc = .ok (.lmul, 1)) : am_run d m pc ls (.long y :: .long x :: st) σ τ = am_run d m (pc + 1) ls (.long (x * y) :: st) σ τ := rr_next hd rfl
theorem rr_land {x y : Int64} (hd : decode (am_code m) pc = .ok (.land, 1)) : am_run d m pc ls (.long y :: .long x :: st) σ τ = am_run d m (pc + 1) ls (.long (x &&& y) :: st) σ τ := rr_next hd rfl
theorem rr_lushr {x : Int64} {y : Int32} (hd : decode (am_code m) pc = .ok (.lushr, 1)) : am_run d m pc ls (.int y :: .long x :: st) σ τ = am_run d m (pc + 1) ls (.long (x.toUInt64 >>> (y.toInt64.toUInt64 &&& Int64.toUInt64 63)).toInt64 :: st) σ τ := rr_next hd rfl
theorem rr_lcmp {x y : Int64} (hd : decode (am_code m) pc = .ok (.lcmp, 1)) : am_run d m pc ls (.long y :: .long x :: st) σ τ = am_run d m (pc + 1) ls (.int (lg_cmp x y) :: st) σ τ := rr_next hd rfl
theorem rr_i2l {x : Int32} (hd : decode (am_code m) pc = .ok (.i2l, 1)) : am_run d m pc ls (.int x :: st) σ τ = am_run d m (pc + 1) ls (.long x.toInt64 :: st) σ τ := rr_next hd rfl
theorem rr_l2i {x : Int64} (hd : decode (am_code m) pc = .ok (.l2i, 1)) : am_run d m pc ls (.long x :: st) σ τ = am_run d m (pc + 1) ls (.int x.toInt32 :: st) σ τ := rr_next hd rfl
theorem rr_dup_i {x : Int32} (hd : decode (am_code m) pc = .ok (.dup, 1)) : am_run d m pc ls (.int x :: st) σ τ = am_run d m (pc + 1) ls (.int x :: .int x :: st) σ τ := rr_next hd rfl
theorem rr_dup_r {x : Nat} (hd : decode (am_code m) pc = .ok (.dup, 1)) : am_run d m pc ls (.ref x :: st) σ τ = am_run d m (pc + 1) ls (.ref x :: .ref x :: st) σ τ := rr_next hd rfl
theorem rr_dup2 {x : Int32} {y : Nat} (hd : decode (am_code m) pc = .ok (.dup2, 1)) : am_run d m pc ls (.int x :: .ref y :: st) σ τ = am_run d m (pc + 1) ls (.int x :: .ref y :: .int x :: .ref y :: st) σ τ := rr_next hd rfl
theorem rr_goto {off : Int} (tgt : Nat) (hd : decode (am_code m) pc = .ok (.goto off, 3)) (ht : (pc : Int) + off = (tgt : Int)) : am_run d m pc ls st σ τ = am_run d m tgt ls st σ τ := rr_next hd (by show (if 0 ≤ (pc : Int) + off then am_nx (am_tg pc off) ls st σ τ else none) = _; rw [if_pos (by omega)]; unfold am_tg; rw [ht]; rfl)
theorem rr_if {cd : ClassFile.Cond} {off : Int} {x : Int32} (tgt : Nat) (hd : decode (am_code m) pc = .ok (.ifCond cd off, 3)) (ht : (pc : Int) + off = (tgt : Int)) : am_run d m pc ls (.int x :: st) σ τ = if am_cond cd x 0 = true then am_run d m tgt ls st σ τ else am_run d m (pc + 3) ls st σ τ := by
  rw [rr_next (pc' := if am_cond cd x 0 = true then tgt else pc + 3) hd (by show (if 0 ≤ (pc : Int) + off then _ else none) = _; rw [if_pos (by omega)]; unfold am_tg; rw [ht]; rfl)]
  split <;> rfl
theorem rr_icmp {cd : ClassFile.Cond} {off : Int} {x y : Int32} (tgt : Nat) (hd : decode (am_code m) pc = .ok (.if_icmp cd off, 3)) (ht : (pc : Int) + off = (tgt : Int)) : am_run d m pc ls (.int y :: .int x :: st) σ τ = if am_cond cd x y = true then am_run d m tgt ls st σ τ else am_run d m (pc + 3) ls st σ τ := by
  rw [rr_next (pc' := if am_cond cd x y = true then tgt else pc + 3) hd (by show (if 0 ≤ (pc : Int) + off then _ else none) = _; rw [if_pos (by omega)]; unfold am_tg; rw [ht]; rfl)]
  split <;> rfl
theorem am_sel {α : Type} {P : Prop} [Decidable P] {a b : α} : (if decide P = true then a else b) = if P then a else b := by simp
theorem am_seln {α : Type} {P : Prop} [Decidable P] {a b : α} : (if decide (¬ P) = true then a else b) = if P then b else a := by
  by_cases h : P <;> simp [h]
/-- where a switch goes -/
def am_sw (x : Int32) (lo : Int) (ts : List Nat) (dt : Nat) : Nat := match ts with
  | [] => dt
  | t :: ts => if x.toInt = lo then t else am_sw x (lo + 1) ts dt
theorem am_sw_out {x : Int32} {dt : Nat} : ∀ (ts : List Nat) (lo : Int), (x.toInt < lo ∨ lo + ts.length ≤ x.toInt) → am_sw x lo ts dt = dt := by
  intro ts
  induction ts with
  | nil => intro lo _; rfl
  | cons t ts ih =>
    intro lo h
    unfold am_sw
    rw [List.length_cons] at h
    rw [if_neg (by omega)]
    exact ih (lo + 1) (by omega)
theorem am_sw_in {x : Int32} {dt t : Nat} : ∀ (ts : List Nat) (lo : Int), ¬ x.toInt < lo → ts[(x.toInt - lo).toNat]? = some t → am_sw x lo ts dt = t := by
  intro ts
  induction ts with
  | nil => intro lo _ h; cases h
  | cons t0 ts ih =>
    intro lo h hs
    unfold am_sw
    by_cases he : x.toInt = lo
    · rw [if_pos he]
      rw [he, Int.sub_self] at hs
      exact Option.some.inj hs
    · rw [if_neg he]
      apply ih (lo + 1) (by omega)
      rw [show (x.toInt - lo).toNat = (x.toInt - (lo + 1)).toNat + 1 by omega] at hs
      exact hs
theorem rr_tsw {dflt lo hi : Int} {offs : Array Int} {len : Nat} {x : Int32} (ts : List Nat) (dt : Nat) (hd : decode (am_code m) pc = .ok (.tableswitch dflt lo hi offs, len)) (hdt : (pc : Int) + dflt = (dt : Int)) (hts : offs.toList.map (fun o => (pc : Int) + o) = ts.map (fun t : Nat => (t : Int))) (hhi : hi + 1 = lo + offs.size) : am_run d m pc ls (.int x :: st) σ τ = am_run d m (am_sw x lo ts dt) ls st σ τ := by
  have hlen : offs.size = ts.length := by
    have := congrArg List.length hts
    simpa using this
  refine rr_next hd ?_
  show (if x.toInt < lo ∨ hi < x.toInt then am_jmp pc dflt ls st σ τ else (match offs[(x.toInt - lo).toNat]? with | some off => am_jmp pc off ls st σ τ | none => none)) = _
  have jmp : ∀ (off : Int) (t : Nat), (pc : Int) + off = (t : Int) → am_jmp pc off ls st σ τ = am_nx t ls st σ τ := by
    intro off t h
    unfold am_jmp am_tg
    rw [if_pos (by omega), h]
    rfl
  split
  · rename_i h
    rw [jmp _ _ hdt, am_sw_out ts lo (by omega)]
  · rename_i h
    have hk : (x.toInt - lo).toNat < offs.size := by omega
    rw [Array.getElem?_eq_getElem hk]
    dsimp only
    have h1 : (offs.toList.map (fun o => (pc : Int) + o))[(x.toInt - lo).toNat]? = some ((pc : Int) + offs[(x.toInt - lo).toNat]) := by simp [hk]
    rw [hts, List.getElem?_map] at h1
    cases ht : ts[(x.toInt - lo).toNat]? with
    | none => rw [ht] at h1; cases h1
    | some t =>
      rw [ht] at h1
      rw [jmp _ t (Option.some.inj h1).symm, am_sw_in ts lo (by omega) ht]
def am_lsw (x : Int32) (ts : List (Int × Nat)) (dt : Nat) : Nat := match ts with
  | [] => dt
  | t :: ts => if x.toInt = t.1 then t.2 else am_lsw x ts dt
theorem am_lsw_ok {x : Int32} {dflt : Int} {dt : Nat} (hdt : (pc : Int) + dflt = (dt : Int)) : ∀ (ps : List (Int × Int)) (ts : List (Int × Nat)), ps.map (fun o => (o.1, (pc : Int) + o.2)) = ts.map (fun t => (t.1, (t.2 : Int))) → (pc : Int) + Op.lookupswitch.offset ps dflt x.toInt = (am_lsw x ts dt : Int) := by
  intro ps
  induction ps with
  | nil =>
    intro ts h
    cases ts with
    | nil => exact hdt
    | cons t ts => cases h
  | cons q ps ih =>
    intro ts h
    cases ts with
    | nil => cases h
    | cons t ts =>
      simp only [List.map_cons, List.cons.injEq, Prod.mk.injEq] at h
      obtain ⟨a, o⟩ := q
      rw [Op.lookupswitch.offset_cons]
      unfold am_lsw
      dsimp only at h
      by_cases hx : a = x.toInt
      · rw [if_pos hx, if_pos (by rw [← h.1.1]; exact hx.symm)]
        exact h.1.2
      · rw [if_neg hx, if_neg (by rw [← h.1.1]; exact fun q => hx q.symm)]
        exact ih ts h.2
theorem rr_lsw {dflt : Int} {ps : Array (Int × Int)} {len : Nat} {x : Int32} (ts : List (Int × Nat)) (dt : Nat) (hd : decode (am_code m) pc = .ok (.lookupswitch dflt ps, len)) (hdt : (pc : Int) + dflt = (dt : Int)) (hts : ps.toList.map (fun o => (o.1, (pc : Int) + o.2)) = ts.map (fun t => (t.1, (t.2 : Int)))) (hs : (ps.toList.zip (ps.toList.drop 1)).all (fun (a, next) => a.1 < next.1) = true) : am_run d m pc ls (.int x :: st) σ τ = am_run d m (am_lsw x ts dt) ls st σ τ := by
  refine rr_next hd ?_
  show (if (ps.toList.zip (ps.toList.drop 1)).all (fun (a, next) => a.1 < next.1) = true then am_jmp pc (Op.lookupswitch.offset ps.toList dflt x.toInt) ls st σ τ else none) = _
  rw [if_pos hs]
  have h := am_lsw_ok (x := x) hdt ps.toList ts hts
  unfold am_jmp am_tg
  rw [if_pos (by omega), h]
  rfl
/-! fields, arrays -/
def am_gf (k ci j : Nat) (σ : am_St) (τ : Int64) (f : Value → Option am_Rs) : Option am_Rs := match am_sh k with
  | some (.inr (cj, fds)) => if ci = cj then (match fds[j]? with
    | some x => f (am_fv0 σ τ k j x)
    | none => none) else none
  | _ => none
theorem rr_getf {i k ci j : Nat} (hd : decode (am_code m) pc = .ok (.getfield i, 3)) (hf : am_fr (am_cl m) i = some (ci, j)) : am_run d m pc ls (.ref k :: st) σ τ = am_gf k ci j σ τ (fun v => am_run d m (pc + 3) ls (v :: st) σ τ) := by
  have e : am_op (.getfield i) 3 m pc ls (.ref k :: st) σ τ = (match am_fr (am_cl m) i, am_sh k with
    | some (ci, j), some (.inr (cj, fds)) => if ci = cj then (match fds[j]? with
      | some f => am_nx (pc + 3) ls (am_fv0 σ τ k j f :: st) σ τ
      | none => none) else none
    | _, _ => none) := rfl
  rw [hf] at e
  unfold am_gf
  split
  · rename_i cj fds hs
    rw [hs] at e
    dsimp only at e
    split
    · rename_i hc
      rw [if_pos hc] at e
      split
      · rename_i x hx
        rw [hx] at e
        exact rr_next hd e
      · rename_i hx
        rw [hx] at e
        exact am_run_none ((am_step_eq hd).trans e)
    · rename_i hc
      rw [if_neg hc] at e
      exact am_run_none ((am_step_eq hd).trans e)
  · rename_i hs
    refine am_run_none ((am_step_eq hd).trans (e.trans ?_))
    split
    · rename_i h2; exact absurd h2 (hs _ _)
    · rfl
def am_pf (k ci j : Nat) (x : Int32) (σ : am_St) (f : am_St → Option am_Rs) : Option am_Rs := match am_sh k with
  | some (.inr (cj, fds)) => if ci = cj then (match fds[j]? with
    | some 0 => f (am_up σ k j x)
    | some 2 => if x = 0 ∨ x = 1 then f (am_up σ k j x) else none
    | _ => none) else none
  | _ => none
theorem rr_putf {i k ci j : Nat} {x : Int32} (hd : decode (am_code m) pc = .ok (.putfield i, 3)) (hf : am_fr (am_cl m) i = some (ci, j)) : am_run d m pc ls (.int x :: .ref k :: st) σ τ = am_pf k ci j x σ (fun σ' => am_run d m (pc + 3) ls st σ' τ) := by
  have e : am_op (.putfield i) 3 m pc ls (.int x :: .ref k :: st) σ τ = (match am_fr (am_cl m) i, am_sh k with
    | some (ci, j), some (.inr (cj, fds)) => if ci = cj then (match fds[j]? with
      | some 0 => am_nx (pc + 3) ls st (am_up σ k j x) τ
      | some 2 => if x = 0 ∨ x = 1 then am_nx (pc + 3) ls st (am_up σ k j x) τ else none
      | _ => none) else none
    | _, _ => none) := rfl
  rw [hf] at e
  unfold am_pf
  split
  · rename_i cj fds hs
    rw [hs] at e
    dsimp only at e
    split
    · rename_i hc
      rw [if_pos hc] at e
      split
      · rename_i hx
        rw [hx] at e
        exact rr_next hd e
      · rename_i hx
        rw [hx] at e
        (try dsimp only at e)
        split
        · rename_i hb
          rw [if_pos hb] at e
          exact rr_next hd e
        · rename_i hb
          rw [if_neg hb] at e
          exact am_run_none ((am_step_eq hd).trans e)
      · rename_i h0 h2
        refine am_run_none ((am_step_eq hd).trans (e.trans ?_))
        split
        · rename_i hx; exact absurd hx h0
        · rename_i hx; exact absurd hx h2
        · rfl
    · rename_i hc
      rw [if_neg hc] at e
      exact am_run_none ((am_step_eq hd).trans e)
  · rename_i hs
    refine am_run_none ((am_step_eq hd).trans (e.trans ?_))
    split
    · rename_i h2; exact absurd h2 (hs _ _)
    · rfl
theorem rr_putl {i : Nat} {x : Int64} (hd : decode (am_code m) pc = .ok (.putfield i, 3)) (hf : am_fr (am_cl m) i = some (10, 35)) : am_run d m pc ls (.long x :: .ref 42 :: st) σ τ = am_run d m (pc + 3) ls st σ x := by
  refine rr_next hd ?_
  show (match am_fr (am_cl m) i with
    | some (ci, j) => if 42 = 42 ∧ ci = 10 ∧ j = 35 then am_nx (pc + 3) ls st σ x else none
    | none => none) = _
  rw [hf]
  rfl
def am_ix (i : Int32) (n : Nat) : Prop := ¬ (i < 0 ∨ n ≤ i.toNatClampNeg)
theorem am_ix_n {j n : Nat} (hj : j < 2 ^ 31) : am_ix (nI j) n = (j < n) := by
  unfold am_ix
  apply propext
  rw [nI_clamp hj]
  constructor
  · intro h; rcases Nat.lt_or_ge j n with q | q
    · exact q
    · exact absurd (Or.inr q) h
  · intro h q
    rcases q with q | q
    · exact nI_pos hj q
    · omega
def am_ai (z : Bool) (k : Nat) (i : Int32) (f : Nat → Option am_Rs) : Option am_Rs := match am_sh k with
  | some (.inl (z', n)) => if z' = z ∧ ¬ (i < 0 ∨ n ≤ i.toNatClampNeg) then f i.toNatClampNeg else none
  | _ => none
theorem rr_ald {z : Bool} {ins : Instr} {i : Int32} {k : Nat} (hd : decode (am_code m) pc = .ok (ins, 1)) (hz : ∀ (st : List Value), am_op ins 1 m pc ls st σ τ = am_ald z pc ls st σ τ) : am_run d m pc ls (.int i :: .ref k :: st) σ τ = am_ai z k i (fun j => am_run d m (pc + 1) ls (.int (σ k j) :: st) σ τ) := by
  have e : am_op ins 1 m pc ls (.int i :: .ref k :: st) σ τ = (match am_sh k with
    | some (.inl (z', n)) => if z' = z ∧ ¬ (i < 0 ∨ n ≤ i.toNatClampNeg) then am_nx (pc + 1) ls (.int (σ k i.toNatClampNeg) :: st) σ τ else none
    | _ => none) := (hz _).trans rfl
  unfold am_ai
  split
  · rename_i z' n hs
    rw [hs] at e
    dsimp only at e
    split
    · rename_i hc; rw [if_pos hc] at e; exact rr_next hd e
    · rename_i hc; rw [if_neg hc] at e; exact am_run_none ((am_step_eq hd).trans e)
  · rename_i hs
    refine am_run_none ((am_step_eq hd).trans (e.trans ?_))
    split
    · rename_i h2; exact absurd h2 (hs _ _)
    · rfl
theorem rr_iald {i : Int32} {k : Nat} (hd : decode (am_code m) pc = .ok (.iaload, 1)) : am_run d m pc ls (.int i :: .ref k :: st) σ τ = am_ai false k i (fun j => am_run d m (pc + 1) ls (.int (σ k j) :: st) σ τ) := rr_ald hd (fun _ => rfl)
theorem rr_bald {i : Int32} {k : Nat} (hd : decode (am_code m) pc = .ok (.baload, 1)) : am_run d m pc ls (.int i :: .ref k :: st) σ τ = am_ai true k i (fun j => am_run d m (pc + 1) ls (.int (σ k j) :: st) σ τ) := rr_ald hd (fun _ => rfl)
theorem rr_ast {z : Bool} {ins : Instr} {i x : Int32} {k : Nat} (hd : decode (am_code m) pc = .ok (ins, 1)) (hz : ∀ (st : List Value), am_op ins 1 m pc ls st σ τ = am_ast z pc ls st σ τ) : am_run d m pc ls (.int x :: .int i :: .ref k :: st) σ τ = am_ai z k i (fun j => am_run d m (pc + 1) ls st (am_up σ k j (if z = true then vp_nar .boolean x else x)) τ) := by
  have e : am_op ins 1 m pc ls (.int x :: .int i :: .ref k :: st) σ τ = (match am_sh k with
    | some (.inl (z', n)) => if z' = z ∧ ¬ (i < 0 ∨ n ≤ i.toNatClampNeg) then am_nx (pc + 1) ls st (am_up σ k i.toNatClampNeg (if z = true then vp_nar .boolean x else x)) τ else none
    | _ => none) := (hz _).trans rfl
  unfold am_ai
  split
  · rename_i z' n hs
    rw [hs] at e
    dsimp only at e
    split
    · rename_i hc; rw [if_pos hc] at e; exact rr_next hd e
    · rename_i hc; rw [if_neg hc] at e; exact am_run_none ((am_step_eq hd).trans e)
  · rename_i hs
    refine am_run_none ((am_step_eq hd).trans (e.trans ?_))
    split
    · rename_i h2; exact absurd h2 (hs _ _)
    · rfl
theorem rr_iast {i x : Int32} {k : Nat} (hd : decode (am_code m) pc = .ok (.iastore, 1)) : am_run d m pc ls (.int x :: .int i :: .ref k :: st) σ τ = am_ai false k i (fun j => am_run d m (pc + 1) ls st (am_up σ k j x) τ) := rr_ast hd (fun _ => rfl)
theorem rr_bast {i x : Int32} {k : Nat} (hd : decode (am_code m) pc = .ok (.bastore, 1)) : am_run d m pc ls (.int x :: .int i :: .ref k :: st) σ τ = am_ai true k i (fun j => am_run d m (pc + 1) ls st (am_up σ k j (vp_nar .boolean x)) τ) := rr_ast hd (fun _ => rfl)
/-! calls, returns -/
def am_kc (k : Nat) : Nat := match am_sh k with
  | some (.inr (ci, _)) => ci
  | _ => 1000
theorem am_run_call0 {q : Nat} {as rest : List Value} (h : am_step m pc ls st σ τ = some (.inr (.inr (q, as, rest)))) : am_run 0 m pc ls st σ τ = none := by
  cases hr : am_run 0 m pc ls st σ τ with
  | none => rfl
  | some r =>
    obtain ⟨n, hn⟩ := am_run_iff.mp hr
    cases n with
    | zero => cases hn
    | succ n => rw [am_ev, h] at hn; cases hn
theorem rr_invv {i q k : Nat} (as : List Value) (hd : decode (am_code m) pc = .ok (.invokevirtual i, 3)) (hm : am_mr (am_cl m) i = some q) (hq : am_st q = false ∧ q < am_NM) (hn : as.length = am_np q) (hf : (am_flat (.ref k :: as)).length ≤ am_mxl q) (hk : am_kc k = am_cl q) (hc : am_cats st ≤ 8) : am_run (d + 1) m pc ls (as.reverse ++ .ref k :: st) σ τ = (am_call d q (.ref k :: as) σ τ).bind (fun r => am_run (d + 1) m (pc + 3) ls (r.1.toList ++ st) r.2.1 r.2.2) := by
  apply am_run_call
  rw [am_step_eq hd]
  show am_invv (am_cl m) i (as.reverse ++ .ref k :: st) = _
  unfold am_invv
  rw [hm]
  dsimp only
  have hl : as.reverse.length = am_np q := by rw [List.length_reverse]; exact hn
  rw [if_pos hq, ← hl, List.drop_left, List.take_left, List.reverse_reverse]
  dsimp only
  unfold am_kc at hk
  split at hk
  · rename_i ci fds hs
    rw [hs]
    dsimp only
    rw [if_pos ⟨hk, by rw [List.length_append]; omega, hc, hf⟩]
  · exfalso
    have : ∀ c : Nat, c < am_NM → am_cl c ≠ 1000 := by decide +kernel
    exact this q hq.2 hk.symm
theorem rr_invs {i q : Nat} (as : List Value) (hd : decode (am_code m) pc = .ok (.invokestatic i, 3)) (hmm : am_mm (am_cl m) i = none) (hm : am_mr (am_cl m) i = some q) (hq : am_st q = true ∧ q < am_NM) (hn : as.length = am_np q) (hf : (am_flat as).length ≤ am_mxl q) (hc : am_cats st ≤ 8) : am_run (d + 1) m pc ls (as.reverse ++ st) σ τ = (am_call d q as σ τ).bind (fun r => am_run (d + 1) m (pc + 3) ls (r.1.toList ++ st) r.2.1 r.2.2) := by
  apply am_run_call
  rw [am_step_eq hd]
  show (match am_mm (am_cl m) i with
    | some b => am_mth b pc ls (as.reverse ++ st) σ τ
    | none => am_invs (am_cl m) i (as.reverse ++ st)) = _
  rw [hmm]
  show am_invs (am_cl m) i (as.reverse ++ st) = _
  unfold am_invs
  rw [hm]
  dsimp only
  have hl : as.reverse.length = am_np q := by rw [List.length_reverse]; exact hn
  rw [← hl, List.drop_left, List.take_left, List.reverse_reverse, if_pos ⟨hq.1, hq.2, by rw [List.length_append]; omega, hc, hf⟩]
theorem rr_max {i : Nat} {x y : Int32} (hd : decode (am_code m) pc = .ok (.invokestatic i, 3)) (hm : am_mm (am_cl m) i = some true) (hc : am_cats st ≤ 8) : am_run d m pc ls (.int y :: .int x :: st) σ τ = am_run d m (pc + 3) ls (.int (if x < y then y else x) :: st) σ τ := by
  refine rr_next hd ?_
  show (match am_mm (am_cl m) i with
    | some b => am_mth b pc ls (.int y :: .int x :: st) σ τ
    | none => am_invs (am_cl m) i (.int y :: .int x :: st)) = _
  rw [hm]
  show (if am_cats st ≤ 8 then _ else none) = _
  rw [if_pos hc]
  rfl
theorem rr_min {i : Nat} {x y : Int32} (hd : decode (am_code m) pc = .ok (.invokestatic i, 3)) (hm : am_mm (am_cl m) i = some false) (hc : am_cats st ≤ 8) : am_run d m pc ls (.int y :: .int x :: st) σ τ = am_run d m (pc + 3) ls (.int (if y < x then y else x) :: st) σ τ := by
  refine rr_next hd ?_
  show (match am_mm (am_cl m) i with
    | some b => am_mth b pc ls (.int y :: .int x :: st) σ τ
    | none => am_invs (am_cl m) i (.int y :: .int x :: st)) = _
  rw [hm]
  show (if am_cats st ≤ 8 then _ else none) = _
  rw [if_pos hc]
  rfl
theorem rr_iret {x : Int32} (hd : decode (am_code m) pc = .ok (.ireturn, 1)) (hr : am_rt m = some .int) : am_run d m pc ls [.int x] σ τ = some (some (.int x), σ, τ) := by
  refine am_run_ret ((am_step_eq hd).trans ?_)
  show am_iret m [.int x] = _
  unfold am_iret
  rw [hr]
theorem rr_zret {x : Int32} (hd : decode (am_code m) pc = .ok (.ireturn, 1)) (hr : am_rt m = some .boolean) (hx : x = 0 ∨ x = 1) : am_run d m pc ls [.int x] σ τ = some (some (.int x), σ, τ) := by
  refine am_run_ret ((am_step_eq hd).trans ?_)
  show am_iret m [.int x] = _
  unfold am_iret
  rw [hr]
  dsimp only
  rw [if_pos hx]
theorem rr_lret {x : Int64} (hd : decode (am_code m) pc = .ok (.lreturn, 1)) (hr : am_rt m = some .long) : am_run d m pc ls [.long x] σ τ = some (some (.long x), σ, τ) := by
  refine am_run_ret ((am_step_eq hd).trans ?_)
  show am_lret m [.long x] = _
  unfold am_lret
  rw [hr]
theorem rr_vret (hd : decode (am_code m) pc = .ok (.return_, 1)) (hr : am_rt m = none) : am_run d m pc ls [] σ τ = some (none, σ, τ) := by
  refine am_run_ret ((am_step_eq hd).trans ?_)
  show am_vret m [] = _
  unfold am_vret
  rw [hr]
end AMR
end
