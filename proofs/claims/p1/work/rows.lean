section
-- ===== PART A: goes FIRST, ahead of the names: the tables' words, and 'selects' of the private methods out of them =====
/-- a private method of a class that the tables say can be made, by its rows of tables_1 -/
def lw_okq (q : MethodName × Nat) : Prop := (q.1.cls ≠ "java/lang/invoke/MethodHandle" ∧ q.1.cls ≠ "java/lang/invoke/VarHandle") ∧ Cond.instantiable q.1.cls q.2 ∈ tables_1 ∧ Cond.privateMethod q.1 ∈ tables_1 ∧ Cond.instanceMethod q.1 ∈ tables_1
theorem lw_p0 : lw_okq (⟨"GreyRoute$Words", "packOwnWords", "()V"⟩, 7) := ⟨⟨by decide +kernel, by decide +kernel⟩, List.mem_of_getElem? (i := 294) (by decide +kernel), List.mem_of_getElem? (i := 300) (by decide +kernel), List.mem_of_getElem? (i := 301) (by decide +kernel)⟩
theorem lw_p1 : lw_okq (⟨"GreyRoute", "refuse", "(I)I"⟩, 13) := ⟨⟨by decide +kernel, by decide +kernel⟩, List.mem_of_getElem? (i := 23) (by decide +kernel), List.mem_of_getElem? (i := 545) (by decide +kernel), List.mem_of_getElem? (i := 546) (by decide +kernel)⟩
theorem lw_p2 : lw_okq (⟨"GreyRoute", "deny", "(I)Z"⟩, 13) := ⟨⟨by decide +kernel, by decide +kernel⟩, List.mem_of_getElem? (i := 23) (by decide +kernel), List.mem_of_getElem? (i := 561) (by decide +kernel), List.mem_of_getElem? (i := 562) (by decide +kernel)⟩
theorem lw_p3 : lw_okq (⟨"GreyRoute$Words", "isWordOrNumber", "()Z"⟩, 7) := ⟨⟨by decide +kernel, by decide +kernel⟩, List.mem_of_getElem? (i := 294) (by decide +kernel), List.mem_of_getElem? (i := 586) (by decide +kernel), List.mem_of_getElem? (i := 587) (by decide +kernel)⟩
theorem lw_p4 : lw_okq (⟨"GreyRoute$Words", "takeWord", "()V"⟩, 7) := ⟨⟨by decide +kernel, by decide +kernel⟩, List.mem_of_getElem? (i := 294) (by decide +kernel), List.mem_of_getElem? (i := 597) (by decide +kernel), List.mem_of_getElem? (i := 598) (by decide +kernel)⟩
theorem lw_p5 : lw_okq (⟨"GreyRoute$Words", "findOwnWord", "()V"⟩, 7) := ⟨⟨by decide +kernel, by decide +kernel⟩, List.mem_of_getElem? (i := 294) (by decide +kernel), List.mem_of_getElem? (i := 601) (by decide +kernel), List.mem_of_getElem? (i := 602) (by decide +kernel)⟩
theorem lw_p6 : lw_okq (⟨"GreyRoute$Words", "takeNumber", "()V"⟩, 7) := ⟨⟨by decide +kernel, by decide +kernel⟩, List.mem_of_getElem? (i := 294) (by decide +kernel), List.mem_of_getElem? (i := 608) (by decide +kernel), List.mem_of_getElem? (i := 609) (by decide +kernel)⟩
theorem lw_p7 : lw_okq (⟨"GreyRoute$Reader", "readStatement", "()Z"⟩, 5) := ⟨⟨by decide +kernel, by decide +kernel⟩, List.mem_of_getElem? (i := 292) (by decide +kernel), List.mem_of_getElem? (i := 612) (by decide +kernel), List.mem_of_getElem? (i := 613) (by decide +kernel)⟩
theorem lw_p8 : lw_okq (⟨"GreyRoute$Reader", "unfit", "()Z"⟩, 5) := ⟨⟨by decide +kernel, by decide +kernel⟩, List.mem_of_getElem? (i := 292) (by decide +kernel), List.mem_of_getElem? (i := 616) (by decide +kernel), List.mem_of_getElem? (i := 617) (by decide +kernel)⟩
theorem lw_p9 : lw_okq (⟨"GreyRoute$Reader", "wrong", "(II)Z"⟩, 5) := ⟨⟨by decide +kernel, by decide +kernel⟩, List.mem_of_getElem? (i := 292) (by decide +kernel), List.mem_of_getElem? (i := 620) (by decide +kernel), List.mem_of_getElem? (i := 621) (by decide +kernel)⟩
theorem lw_p10 : lw_okq (⟨"GreyRoute$Reader", "another", "(Z)Z"⟩, 5) := ⟨⟨by decide +kernel, by decide +kernel⟩, List.mem_of_getElem? (i := 292) (by decide +kernel), List.mem_of_getElem? (i := 624) (by decide +kernel), List.mem_of_getElem? (i := 625) (by decide +kernel)⟩
theorem lw_p11 : lw_okq (⟨"GreyRoute$Reader", "readPlace", "()Z"⟩, 5) := ⟨⟨by decide +kernel, by decide +kernel⟩, List.mem_of_getElem? (i := 292) (by decide +kernel), List.mem_of_getElem? (i := 629) (by decide +kernel), List.mem_of_getElem? (i := 630) (by decide +kernel)⟩
theorem lw_p12 : lw_okq (⟨"GreyRoute$Reader", "newName", "()I"⟩, 5) := ⟨⟨by decide +kernel, by decide +kernel⟩, List.mem_of_getElem? (i := 292) (by decide +kernel), List.mem_of_getElem? (i := 633) (by decide +kernel), List.mem_of_getElem? (i := 634) (by decide +kernel)⟩
theorem lw_p13 : lw_okq (⟨"GreyRoute$Reader", "readStreet", "()Z"⟩, 5) := ⟨⟨by decide +kernel, by decide +kernel⟩, List.mem_of_getElem? (i := 292) (by decide +kernel), List.mem_of_getElem? (i := 649) (by decide +kernel), List.mem_of_getElem? (i := 650) (by decide +kernel)⟩
theorem lw_p14 : lw_okq (⟨"GreyRoute$Reader", "knownPlace", "()I"⟩, 5) := ⟨⟨by decide +kernel, by decide +kernel⟩, List.mem_of_getElem? (i := 292) (by decide +kernel), List.mem_of_getElem? (i := 653) (by decide +kernel), List.mem_of_getElem? (i := 654) (by decide +kernel)⟩
theorem lw_p15 : lw_okq (⟨"GreyRoute$Reader", "takeOwn", "(I)Z"⟩, 5) := ⟨⟨by decide +kernel, by decide +kernel⟩, List.mem_of_getElem? (i := 292) (by decide +kernel), List.mem_of_getElem? (i := 658) (by decide +kernel), List.mem_of_getElem? (i := 659) (by decide +kernel)⟩
def lw_privs_1 : List (MethodName × Nat) := [(⟨"GreyRoute$Words", "packOwnWords", "()V"⟩, 7), (⟨"GreyRoute", "refuse", "(I)I"⟩, 13), (⟨"GreyRoute", "deny", "(I)Z"⟩, 13), (⟨"GreyRoute$Words", "isWordOrNumber", "()Z"⟩, 7), (⟨"GreyRoute$Words", "takeWord", "()V"⟩, 7), (⟨"GreyRoute$Words", "findOwnWord", "()V"⟩, 7), (⟨"GreyRoute$Words", "takeNumber", "()V"⟩, 7), (⟨"GreyRoute$Reader", "readStatement", "()Z"⟩, 5), (⟨"GreyRoute$Reader", "unfit", "()Z"⟩, 5), (⟨"GreyRoute$Reader", "wrong", "(II)Z"⟩, 5), (⟨"GreyRoute$Reader", "another", "(Z)Z"⟩, 5), (⟨"GreyRoute$Reader", "readPlace", "()Z"⟩, 5), (⟨"GreyRoute$Reader", "newName", "()I"⟩, 5), (⟨"GreyRoute$Reader", "readStreet", "()Z"⟩, 5), (⟨"GreyRoute$Reader", "knownPlace", "()I"⟩, 5), (⟨"GreyRoute$Reader", "takeOwn", "(I)Z"⟩, 5)]
theorem lw_r1 : ∀ q ∈ lw_privs_1, lw_okq q := List.forall_mem_cons.mpr ⟨lw_p0, List.forall_mem_cons.mpr ⟨lw_p1, List.forall_mem_cons.mpr ⟨lw_p2, List.forall_mem_cons.mpr ⟨lw_p3, List.forall_mem_cons.mpr ⟨lw_p4, List.forall_mem_cons.mpr ⟨lw_p5, List.forall_mem_cons.mpr ⟨lw_p6, List.forall_mem_cons.mpr ⟨lw_p7, List.forall_mem_cons.mpr ⟨lw_p8, List.forall_mem_cons.mpr ⟨lw_p9, List.forall_mem_cons.mpr ⟨lw_p10, List.forall_mem_cons.mpr ⟨lw_p11, List.forall_mem_cons.mpr ⟨lw_p12, List.forall_mem_cons.mpr ⟨lw_p13, List.forall_mem_cons.mpr ⟨lw_p14, List.forall_mem_cons.mpr ⟨lw_p15, fun _ h => absurd h List.not_mem_nil⟩⟩⟩⟩⟩⟩⟩⟩⟩⟩⟩⟩⟩⟩⟩⟩
theorem lw_p16 : lw_okq (⟨"GreyRoute$Town", "isSpot", "(I)Z"⟩, 19) := ⟨⟨by decide +kernel, by decide +kernel⟩, List.mem_of_getElem? (i := 177) (by decide +kernel), List.mem_of_getElem? (i := 670) (by decide +kernel), List.mem_of_getElem? (i := 671) (by decide +kernel)⟩
theorem lw_p17 : lw_okq (⟨"GreyRoute$Reader", "number", "(II)I"⟩, 5) := ⟨⟨by decide +kernel, by decide +kernel⟩, List.mem_of_getElem? (i := 292) (by decide +kernel), List.mem_of_getElem? (i := 674) (by decide +kernel), List.mem_of_getElem? (i := 675) (by decide +kernel)⟩
theorem lw_p18 : lw_okq (⟨"GreyRoute$Reader", "readStep", "()Z"⟩, 5) := ⟨⟨by decide +kernel, by decide +kernel⟩, List.mem_of_getElem? (i := 292) (by decide +kernel), List.mem_of_getElem? (i := 682) (by decide +kernel), List.mem_of_getElem? (i := 683) (by decide +kernel)⟩
theorem lw_p19 : lw_okq (⟨"GreyRoute$Reader", "readThing", "()Z"⟩, 5) := ⟨⟨by decide +kernel, by decide +kernel⟩, List.mem_of_getElem? (i := 292) (by decide +kernel), List.mem_of_getElem? (i := 699) (by decide +kernel), List.mem_of_getElem? (i := 700) (by decide +kernel)⟩
theorem lw_p20 : lw_okq (⟨"GreyRoute$Reader", "beginCode", "(Z)Z"⟩, 5) := ⟨⟨by decide +kernel, by decide +kernel⟩, List.mem_of_getElem? (i := 292) (by decide +kernel), List.mem_of_getElem? (i := 711) (by decide +kernel), List.mem_of_getElem? (i := 712) (by decide +kernel)⟩
theorem lw_p21 : lw_okq (⟨"GreyRoute$Reader", "readSum", "(I)Z"⟩, 5) := ⟨⟨by decide +kernel, by decide +kernel⟩, List.mem_of_getElem? (i := 292) (by decide +kernel), List.mem_of_getElem? (i := 715) (by decide +kernel), List.mem_of_getElem? (i := 716) (by decide +kernel)⟩
theorem lw_p22 : lw_okq (⟨"GreyRoute$Reader", "readProduct", "(I)Z"⟩, 5) := ⟨⟨by decide +kernel, by decide +kernel⟩, List.mem_of_getElem? (i := 292) (by decide +kernel), List.mem_of_getElem? (i := 719) (by decide +kernel), List.mem_of_getElem? (i := 720) (by decide +kernel)⟩
theorem lw_p23 : lw_okq (⟨"GreyRoute$Reader", "readPart", "(I)Z"⟩, 5) := ⟨⟨by decide +kernel, by decide +kernel⟩, List.mem_of_getElem? (i := 292) (by decide +kernel), List.mem_of_getElem? (i := 723) (by decide +kernel), List.mem_of_getElem? (i := 724) (by decide +kernel)⟩
theorem lw_p24 : lw_okq (⟨"GreyRoute$Reader", "takeOpening", "(ZI)Z"⟩, 5) := ⟨⟨by decide +kernel, by decide +kernel⟩, List.mem_of_getElem? (i := 292) (by decide +kernel), List.mem_of_getElem? (i := 738) (by decide +kernel), List.mem_of_getElem? (i := 739) (by decide +kernel)⟩
theorem lw_p25 : lw_okq (⟨"GreyRoute$Reader", "takeSign", "(I)Z"⟩, 5) := ⟨⟨by decide +kernel, by decide +kernel⟩, List.mem_of_getElem? (i := 292) (by decide +kernel), List.mem_of_getElem? (i := 742) (by decide +kernel), List.mem_of_getElem? (i := 743) (by decide +kernel)⟩
theorem lw_p26 : lw_okq (⟨"GreyRoute$Reader", "readFigure", "(IZ)Z"⟩, 5) := ⟨⟨by decide +kernel, by decide +kernel⟩, List.mem_of_getElem? (i := 292) (by decide +kernel), List.mem_of_getElem? (i := 746) (by decide +kernel), List.mem_of_getElem? (i := 747) (by decide +kernel)⟩
theorem lw_p27 : lw_okq (⟨"GreyRoute$Reader", "readOfTwo", "(II)Z"⟩, 5) := ⟨⟨by decide +kernel, by decide +kernel⟩, List.mem_of_getElem? (i := 292) (by decide +kernel), List.mem_of_getElem? (i := 750) (by decide +kernel), List.mem_of_getElem? (i := 751) (by decide +kernel)⟩
theorem lw_p28 : lw_okq (⟨"GreyRoute$Reader", "readIf", "(I)Z"⟩, 5) := ⟨⟨by decide +kernel, by decide +kernel⟩, List.mem_of_getElem? (i := 292) (by decide +kernel), List.mem_of_getElem? (i := 754) (by decide +kernel), List.mem_of_getElem? (i := 755) (by decide +kernel)⟩
theorem lw_p29 : lw_okq (⟨"GreyRoute$Reader", "readTest", "(I)Z"⟩, 5) := ⟨⟨by decide +kernel, by decide +kernel⟩, List.mem_of_getElem? (i := 292) (by decide +kernel), List.mem_of_getElem? (i := 758) (by decide +kernel), List.mem_of_getElem? (i := 759) (by decide +kernel)⟩
theorem lw_p30 : lw_okq (⟨"GreyRoute$Reader", "readBoth", "(I)Z"⟩, 5) := ⟨⟨by decide +kernel, by decide +kernel⟩, List.mem_of_getElem? (i := 292) (by decide +kernel), List.mem_of_getElem? (i := 762) (by decide +kernel), List.mem_of_getElem? (i := 763) (by decide +kernel)⟩
theorem lw_p31 : lw_okq (⟨"GreyRoute$Reader", "readFact", "(I)Z"⟩, 5) := ⟨⟨by decide +kernel, by decide +kernel⟩, List.mem_of_getElem? (i := 292) (by decide +kernel), List.mem_of_getElem? (i := 766) (by decide +kernel), List.mem_of_getElem? (i := 767) (by decide +kernel)⟩
def lw_privs_2 : List (MethodName × Nat) := [(⟨"GreyRoute$Town", "isSpot", "(I)Z"⟩, 19), (⟨"GreyRoute$Reader", "number", "(II)I"⟩, 5), (⟨"GreyRoute$Reader", "readStep", "()Z"⟩, 5), (⟨"GreyRoute$Reader", "readThing", "()Z"⟩, 5), (⟨"GreyRoute$Reader", "beginCode", "(Z)Z"⟩, 5), (⟨"GreyRoute$Reader", "readSum", "(I)Z"⟩, 5), (⟨"GreyRoute$Reader", "readProduct", "(I)Z"⟩, 5), (⟨"GreyRoute$Reader", "readPart", "(I)Z"⟩, 5), (⟨"GreyRoute$Reader", "takeOpening", "(ZI)Z"⟩, 5), (⟨"GreyRoute$Reader", "takeSign", "(I)Z"⟩, 5), (⟨"GreyRoute$Reader", "readFigure", "(IZ)Z"⟩, 5), (⟨"GreyRoute$Reader", "readOfTwo", "(II)Z"⟩, 5), (⟨"GreyRoute$Reader", "readIf", "(I)Z"⟩, 5), (⟨"GreyRoute$Reader", "readTest", "(I)Z"⟩, 5), (⟨"GreyRoute$Reader", "readBoth", "(I)Z"⟩, 5), (⟨"GreyRoute$Reader", "readFact", "(I)Z"⟩, 5)]
theorem lw_r2 : ∀ q ∈ lw_privs_2, lw_okq q := List.forall_mem_cons.mpr ⟨lw_p16, List.forall_mem_cons.mpr ⟨lw_p17, List.forall_mem_cons.mpr ⟨lw_p18, List.forall_mem_cons.mpr ⟨lw_p19, List.forall_mem_cons.mpr ⟨lw_p20, List.forall_mem_cons.mpr ⟨lw_p21, List.forall_mem_cons.mpr ⟨lw_p22, List.forall_mem_cons.mpr ⟨lw_p23, List.forall_mem_cons.mpr ⟨lw_p24, List.forall_mem_cons.mpr ⟨lw_p25, List.forall_mem_cons.mpr ⟨lw_p26, List.forall_mem_cons.mpr ⟨lw_p27, List.forall_mem_cons.mpr ⟨lw_p28, List.forall_mem_cons.mpr ⟨lw_p29, List.forall_mem_cons.mpr ⟨lw_p30, List.forall_mem_cons.mpr ⟨lw_p31, fun _ h => absurd h List.not_mem_nil⟩⟩⟩⟩⟩⟩⟩⟩⟩⟩⟩⟩⟩⟩⟩⟩
theorem lw_p32 : lw_okq (⟨"GreyRoute$Reader", "readComparison", "(I)Z"⟩, 5) := ⟨⟨by decide +kernel, by decide +kernel⟩, List.mem_of_getElem? (i := 292) (by decide +kernel), List.mem_of_getElem? (i := 770) (by decide +kernel), List.mem_of_getElem? (i := 771) (by decide +kernel)⟩
theorem lw_p33 : lw_okq (⟨"GreyRoute$Reader", "endCode", "()Z"⟩, 5) := ⟨⟨by decide +kernel, by decide +kernel⟩, List.mem_of_getElem? (i := 292) (by decide +kernel), List.mem_of_getElem? (i := 774) (by decide +kernel), List.mem_of_getElem? (i := 775) (by decide +kernel)⟩
theorem lw_p34 : lw_okq (⟨"GreyRoute$Reader", "readHeat", "()Z"⟩, 5) := ⟨⟨by decide +kernel, by decide +kernel⟩, List.mem_of_getElem? (i := 292) (by decide +kernel), List.mem_of_getElem? (i := 782) (by decide +kernel), List.mem_of_getElem? (i := 783) (by decide +kernel)⟩
theorem lw_p35 : lw_okq (⟨"GreyRoute$Reader", "readHot", "()Z"⟩, 5) := ⟨⟨by decide +kernel, by decide +kernel⟩, List.mem_of_getElem? (i := 292) (by decide +kernel), List.mem_of_getElem? (i := 786) (by decide +kernel), List.mem_of_getElem? (i := 787) (by decide +kernel)⟩
theorem lw_p36 : lw_okq (⟨"GreyRoute", "toldAsKept", "()I"⟩, 13) := ⟨⟨by decide +kernel, by decide +kernel⟩, List.mem_of_getElem? (i := 23) (by decide +kernel), List.mem_of_getElem? (i := 824) (by decide +kernel), List.mem_of_getElem? (i := 825) (by decide +kernel)⟩
theorem lw_p37 : lw_okq (⟨"GreyRoute", "isPlace", "(I)Z"⟩, 13) := ⟨⟨by decide +kernel, by decide +kernel⟩, List.mem_of_getElem? (i := 23) (by decide +kernel), List.mem_of_getElem? (i := 835) (by decide +kernel), List.mem_of_getElem? (i := 836) (by decide +kernel)⟩
theorem lw_p38 : lw_okq (⟨"GreyRoute", "isThing", "(I)Z"⟩, 13) := ⟨⟨by decide +kernel, by decide +kernel⟩, List.mem_of_getElem? (i := 23) (by decide +kernel), List.mem_of_getElem? (i := 842) (by decide +kernel), List.mem_of_getElem? (i := 843) (by decide +kernel)⟩
theorem lw_p39 : lw_okq (⟨"GreyRoute", "isStreet", "(I)Z"⟩, 13) := ⟨⟨by decide +kernel, by decide +kernel⟩, List.mem_of_getElem? (i := 23) (by decide +kernel), List.mem_of_getElem? (i := 850) (by decide +kernel), List.mem_of_getElem? (i := 851) (by decide +kernel)⟩
theorem lw_p40 : lw_okq (⟨"GreyRoute$Ways", "shortenOver", "(II)V"⟩, 2) := ⟨⟨by decide +kernel, by decide +kernel⟩, List.mem_of_getElem? (i := 415) (by decide +kernel), List.mem_of_getElem? (i := 865) (by decide +kernel), List.mem_of_getElem? (i := 866) (by decide +kernel)⟩
theorem lw_p41 : lw_okq (⟨"GreyRoute", "goThisYear", "()V"⟩, 13) := ⟨⟨by decide +kernel, by decide +kernel⟩, List.mem_of_getElem? (i := 23) (by decide +kernel), List.mem_of_getElem? (i := 888) (by decide +kernel), List.mem_of_getElem? (i := 889) (by decide +kernel)⟩
theorem lw_p42 : lw_okq (⟨"GreyRoute$Pageant", "beginRoute", "(LGreyRoute$Town;LGreyRoute$State;I)V"⟩, 16) := ⟨⟨by decide +kernel, by decide +kernel⟩, List.mem_of_getElem? (i := 407) (by decide +kernel), List.mem_of_getElem? (i := 896) (by decide +kernel), List.mem_of_getElem? (i := 897) (by decide +kernel)⟩
theorem lw_p43 : lw_okq (⟨"GreyRoute$Pageant", "gatherPulls", "(LGreyRoute$State;I)V"⟩, 16) := ⟨⟨by decide +kernel, by decide +kernel⟩, List.mem_of_getElem? (i := 407) (by decide +kernel), List.mem_of_getElem? (i := 902) (by decide +kernel), List.mem_of_getElem? (i := 903) (by decide +kernel)⟩
theorem lw_p44 : lw_okq (⟨"GreyRoute$Pageant", "goRound", "()V"⟩, 16) := ⟨⟨by decide +kernel, by decide +kernel⟩, List.mem_of_getElem? (i := 407) (by decide +kernel), List.mem_of_getElem? (i := 911) (by decide +kernel), List.mem_of_getElem? (i := 912) (by decide +kernel)⟩
theorem lw_p45 : lw_okq (⟨"GreyRoute$Ways", "next", "(II)I"⟩, 2) := ⟨⟨by decide +kernel, by decide +kernel⟩, List.mem_of_getElem? (i := 415) (by decide +kernel), List.mem_of_getElem? (i := 921) (by decide +kernel), List.mem_of_getElem? (i := 922) (by decide +kernel)⟩
theorem lw_p46 : lw_okq (⟨"GreyRoute$Pageant", "standingAt", "(I)I"⟩, 16) := ⟨⟨by decide +kernel, by decide +kernel⟩, List.mem_of_getElem? (i := 407) (by decide +kernel), List.mem_of_getElem? (i := 938) (by decide +kernel), List.mem_of_getElem? (i := 939) (by decide +kernel)⟩
theorem lw_p47 : lw_okq (⟨"GreyRoute$Sums", "figure", "(I)I"⟩, 2) := ⟨⟨by decide +kernel, by decide +kernel⟩, List.mem_of_getElem? (i := 428) (by decide +kernel), List.mem_of_getElem? (i := 949) (by decide +kernel), List.mem_of_getElem? (i := 950) (by decide +kernel)⟩
def lw_privs_3 : List (MethodName × Nat) := [(⟨"GreyRoute$Reader", "readComparison", "(I)Z"⟩, 5), (⟨"GreyRoute$Reader", "endCode", "()Z"⟩, 5), (⟨"GreyRoute$Reader", "readHeat", "()Z"⟩, 5), (⟨"GreyRoute$Reader", "readHot", "()Z"⟩, 5), (⟨"GreyRoute", "toldAsKept", "()I"⟩, 13), (⟨"GreyRoute", "isPlace", "(I)Z"⟩, 13), (⟨"GreyRoute", "isThing", "(I)Z"⟩, 13), (⟨"GreyRoute", "isStreet", "(I)Z"⟩, 13), (⟨"GreyRoute$Ways", "shortenOver", "(II)V"⟩, 2), (⟨"GreyRoute", "goThisYear", "()V"⟩, 13), (⟨"GreyRoute$Pageant", "beginRoute", "(LGreyRoute$Town;LGreyRoute$State;I)V"⟩, 16), (⟨"GreyRoute$Pageant", "gatherPulls", "(LGreyRoute$State;I)V"⟩, 16), (⟨"GreyRoute$Pageant", "goRound", "()V"⟩, 16), (⟨"GreyRoute$Ways", "next", "(II)I"⟩, 2), (⟨"GreyRoute$Pageant", "standingAt", "(I)I"⟩, 16), (⟨"GreyRoute$Sums", "figure", "(I)I"⟩, 2)]
theorem lw_r3 : ∀ q ∈ lw_privs_3, lw_okq q := List.forall_mem_cons.mpr ⟨lw_p32, List.forall_mem_cons.mpr ⟨lw_p33, List.forall_mem_cons.mpr ⟨lw_p34, List.forall_mem_cons.mpr ⟨lw_p35, List.forall_mem_cons.mpr ⟨lw_p36, List.forall_mem_cons.mpr ⟨lw_p37, List.forall_mem_cons.mpr ⟨lw_p38, List.forall_mem_cons.mpr ⟨lw_p39, List.forall_mem_cons.mpr ⟨lw_p40, List.forall_mem_cons.mpr ⟨lw_p41, List.forall_mem_cons.mpr ⟨lw_p42, List.forall_mem_cons.mpr ⟨lw_p43, List.forall_mem_cons.mpr ⟨lw_p44, List.forall_mem_cons.mpr ⟨lw_p45, List.forall_mem_cons.mpr ⟨lw_p46, List.forall_mem_cons.mpr ⟨lw_p47, fun _ h => absurd h List.not_mem_nil⟩⟩⟩⟩⟩⟩⟩⟩⟩⟩⟩⟩⟩⟩⟩⟩
theorem lw_p48 : lw_okq (⟨"GreyRoute$Sums", "join", "(II)I"⟩, 2) := ⟨⟨by decide +kernel, by decide +kernel⟩, List.mem_of_getElem? (i := 428) (by decide +kernel), List.mem_of_getElem? (i := 953) (by decide +kernel), List.mem_of_getElem? (i := 954) (by decide +kernel)⟩
theorem lw_p49 : lw_okq (⟨"GreyRoute$Half", "openPlaces", "(LGreyRoute$Town;I)V"⟩, 8) := ⟨⟨by decide +kernel, by decide +kernel⟩, List.mem_of_getElem? (i := 142) (by decide +kernel), List.mem_of_getElem? (i := 1070) (by decide +kernel), List.mem_of_getElem? (i := 1071) (by decide +kernel)⟩
theorem lw_p50 : lw_okq (⟨"GreyRoute$Half", "mayBe", "(II)Z"⟩, 8) := ⟨⟨by decide +kernel, by decide +kernel⟩, List.mem_of_getElem? (i := 142) (by decide +kernel), List.mem_of_getElem? (i := 1079) (by decide +kernel), List.mem_of_getElem? (i := 1080) (by decide +kernel)⟩
theorem lw_p51 : lw_okq (⟨"GreyRoute$Half", "leastOnward", "(LGreyRoute$Town;II)I"⟩, 8) := ⟨⟨by decide +kernel, by decide +kernel⟩, List.mem_of_getElem? (i := 142) (by decide +kernel), List.mem_of_getElem? (i := 1102) (by decide +kernel), List.mem_of_getElem? (i := 1103) (by decide +kernel)⟩
theorem lw_p52 : lw_okq (⟨"GreyRoute$Half", "mostAt", "(LGreyRoute$Town;I)J"⟩, 8) := ⟨⟨by decide +kernel, by decide +kernel⟩, List.mem_of_getElem? (i := 142) (by decide +kernel), List.mem_of_getElem? (i := 1114) (by decide +kernel), List.mem_of_getElem? (i := 1115) (by decide +kernel)⟩
theorem lw_p53 : lw_okq (⟨"GreyRoute", "canPass", "(I)Z"⟩, 13) := ⟨⟨by decide +kernel, by decide +kernel⟩, List.mem_of_getElem? (i := 23) (by decide +kernel), List.mem_of_getElem? (i := 1125) (by decide +kernel), List.mem_of_getElem? (i := 1126) (by decide +kernel)⟩
theorem lw_p54 : lw_okq (⟨"GreyRoute", "passOneYear", "(I)V"⟩, 13) := ⟨⟨by decide +kernel, by decide +kernel⟩, List.mem_of_getElem? (i := 23) (by decide +kernel), List.mem_of_getElem? (i := 1138) (by decide +kernel), List.mem_of_getElem? (i := 1139) (by decide +kernel)⟩
theorem lw_p55 : lw_okq (⟨"GreyRoute", "draw", "(I)I"⟩, 13) := ⟨⟨by decide +kernel, by decide +kernel⟩, List.mem_of_getElem? (i := 23) (by decide +kernel), List.mem_of_getElem? (i := 1155) (by decide +kernel), List.mem_of_getElem? (i := 1156) (by decide +kernel)⟩
theorem lw_p56 : lw_okq (⟨"GreyRouteModel", "refuses", "(I)I"⟩, 78) := ⟨⟨by decide +kernel, by decide +kernel⟩, List.mem_of_getElem? (i := 1243) (by decide +kernel), List.mem_of_getElem? (i := 1489) (by decide +kernel), List.mem_of_getElem? (i := 1490) (by decide +kernel)⟩
theorem lw_p57 : lw_okq (⟨"GreyRouteModel", "put", "(I)V"⟩, 78) := ⟨⟨by decide +kernel, by decide +kernel⟩, List.mem_of_getElem? (i := 1243) (by decide +kernel), List.mem_of_getElem? (i := 1493) (by decide +kernel), List.mem_of_getElem? (i := 1494) (by decide +kernel)⟩
theorem lw_p58 : lw_okq (⟨"GreyRouteModel", "ahead", "()V"⟩, 78) := ⟨⟨by decide +kernel, by decide +kernel⟩, List.mem_of_getElem? (i := 1243) (by decide +kernel), List.mem_of_getElem? (i := 1505) (by decide +kernel), List.mem_of_getElem? (i := 1506) (by decide +kernel)⟩
theorem lw_p59 : lw_okq (⟨"GreyRouteModel", "statement", "()V"⟩, 78) := ⟨⟨by decide +kernel, by decide +kernel⟩, List.mem_of_getElem? (i := 1243) (by decide +kernel), List.mem_of_getElem? (i := 1515) (by decide +kernel), List.mem_of_getElem? (i := 1516) (by decide +kernel)⟩
theorem lw_p60 : lw_okq (⟨"GreyRouteModel", "lex", "()V"⟩, 78) := ⟨⟨by decide +kernel, by decide +kernel⟩, List.mem_of_getElem? (i := 1243) (by decide +kernel), List.mem_of_getElem? (i := 1519) (by decide +kernel), List.mem_of_getElem? (i := 1520) (by decide +kernel)⟩
theorem lw_p61 : lw_okq (⟨"GreyRouteModel", "blame", "(II)V"⟩, 78) := ⟨⟨by decide +kernel, by decide +kernel⟩, List.mem_of_getElem? (i := 1243) (by decide +kernel), List.mem_of_getElem? (i := 1523) (by decide +kernel), List.mem_of_getElem? (i := 1524) (by decide +kernel)⟩
theorem lw_p62 : lw_okq (⟨"GreyRouteModel", "isWord", "(J)Z"⟩, 78) := ⟨⟨by decide +kernel, by decide +kernel⟩, List.mem_of_getElem? (i := 1243) (by decide +kernel), List.mem_of_getElem? (i := 1528) (by decide +kernel), List.mem_of_getElem? (i := 1529) (by decide +kernel)⟩
theorem lw_p63 : lw_okq (⟨"GreyRouteModel", "placing", "()V"⟩, 78) := ⟨⟨by decide +kernel, by decide +kernel⟩, List.mem_of_getElem? (i := 1243) (by decide +kernel), List.mem_of_getElem? (i := 1532) (by decide +kernel), List.mem_of_getElem? (i := 1533) (by decide +kernel)⟩
def lw_privs_4 : List (MethodName × Nat) := [(⟨"GreyRoute$Sums", "join", "(II)I"⟩, 2), (⟨"GreyRoute$Half", "openPlaces", "(LGreyRoute$Town;I)V"⟩, 8), (⟨"GreyRoute$Half", "mayBe", "(II)Z"⟩, 8), (⟨"GreyRoute$Half", "leastOnward", "(LGreyRoute$Town;II)I"⟩, 8), (⟨"GreyRoute$Half", "mostAt", "(LGreyRoute$Town;I)J"⟩, 8), (⟨"GreyRoute", "canPass", "(I)Z"⟩, 13), (⟨"GreyRoute", "passOneYear", "(I)V"⟩, 13), (⟨"GreyRoute", "draw", "(I)I"⟩, 13), (⟨"GreyRouteModel", "refuses", "(I)I"⟩, 78), (⟨"GreyRouteModel", "put", "(I)V"⟩, 78), (⟨"GreyRouteModel", "ahead", "()V"⟩, 78), (⟨"GreyRouteModel", "statement", "()V"⟩, 78), (⟨"GreyRouteModel", "lex", "()V"⟩, 78), (⟨"GreyRouteModel", "blame", "(II)V"⟩, 78), (⟨"GreyRouteModel", "isWord", "(J)Z"⟩, 78), (⟨"GreyRouteModel", "placing", "()V"⟩, 78)]
theorem lw_r4 : ∀ q ∈ lw_privs_4, lw_okq q := List.forall_mem_cons.mpr ⟨lw_p48, List.forall_mem_cons.mpr ⟨lw_p49, List.forall_mem_cons.mpr ⟨lw_p50, List.forall_mem_cons.mpr ⟨lw_p51, List.forall_mem_cons.mpr ⟨lw_p52, List.forall_mem_cons.mpr ⟨lw_p53, List.forall_mem_cons.mpr ⟨lw_p54, List.forall_mem_cons.mpr ⟨lw_p55, List.forall_mem_cons.mpr ⟨lw_p56, List.forall_mem_cons.mpr ⟨lw_p57, List.forall_mem_cons.mpr ⟨lw_p58, List.forall_mem_cons.mpr ⟨lw_p59, List.forall_mem_cons.mpr ⟨lw_p60, List.forall_mem_cons.mpr ⟨lw_p61, List.forall_mem_cons.mpr ⟨lw_p62, List.forall_mem_cons.mpr ⟨lw_p63, fun _ h => absurd h List.not_mem_nil⟩⟩⟩⟩⟩⟩⟩⟩⟩⟩⟩⟩⟩⟩⟩⟩
theorem lw_p64 : lw_okq (⟨"GreyRouteModel", "counts", "(Z)Z"⟩, 78) := ⟨⟨by decide +kernel, by decide +kernel⟩, List.mem_of_getElem? (i := 1243) (by decide +kernel), List.mem_of_getElem? (i := 1536) (by decide +kernel), List.mem_of_getElem? (i := 1537) (by decide +kernel)⟩
theorem lw_p65 : lw_okq (⟨"GreyRouteModel", "fresh", "()J"⟩, 78) := ⟨⟨by decide +kernel, by decide +kernel⟩, List.mem_of_getElem? (i := 1243) (by decide +kernel), List.mem_of_getElem? (i := 1540) (by decide +kernel), List.mem_of_getElem? (i := 1541) (by decide +kernel)⟩
theorem lw_p66 : lw_okq (⟨"GreyRouteModel", "isOwn", "(J)Z"⟩, 78) := ⟨⟨by decide +kernel, by decide +kernel⟩, List.mem_of_getElem? (i := 1243) (by decide +kernel), List.mem_of_getElem? (i := 1544) (by decide +kernel), List.mem_of_getElem? (i := 1545) (by decide +kernel)⟩
theorem lw_p67 : lw_okq (⟨"GreyRouteModel", "named", "(IJ)I"⟩, 78) := ⟨⟨by decide +kernel, by decide +kernel⟩, List.mem_of_getElem? (i := 1243) (by decide +kernel), List.mem_of_getElem? (i := 1573) (by decide +kernel), List.mem_of_getElem? (i := 1574) (by decide +kernel)⟩
theorem lw_p68 : lw_okq (⟨"GreyRouteModel", "manyOf", "(II)I"⟩, 78) := ⟨⟨by decide +kernel, by decide +kernel⟩, List.mem_of_getElem? (i := 1243) (by decide +kernel), List.mem_of_getElem? (i := 1577) (by decide +kernel), List.mem_of_getElem? (i := 1578) (by decide +kernel)⟩
theorem lw_p69 : lw_okq (⟨"GreyRouteModel", "nameOf", "(III)J"⟩, 78) := ⟨⟨by decide +kernel, by decide +kernel⟩, List.mem_of_getElem? (i := 1243) (by decide +kernel), List.mem_of_getElem? (i := 1581) (by decide +kernel), List.mem_of_getElem? (i := 1582) (by decide +kernel)⟩
theorem lw_p70 : lw_okq (⟨"GreyRouteModel", "streeting", "()V"⟩, 78) := ⟨⟨by decide +kernel, by decide +kernel⟩, List.mem_of_getElem? (i := 1243) (by decide +kernel), List.mem_of_getElem? (i := 1585) (by decide +kernel), List.mem_of_getElem? (i := 1586) (by decide +kernel)⟩
theorem lw_p71 : lw_okq (⟨"GreyRouteModel", "knownBut", "(I)I"⟩, 78) := ⟨⟨by decide +kernel, by decide +kernel⟩, List.mem_of_getElem? (i := 1243) (by decide +kernel), List.mem_of_getElem? (i := 1589) (by decide +kernel), List.mem_of_getElem? (i := 1590) (by decide +kernel)⟩
theorem lw_p72 : lw_okq (⟨"GreyRouteModel", "must", "(J)V"⟩, 78) := ⟨⟨by decide +kernel, by decide +kernel⟩, List.mem_of_getElem? (i := 1243) (by decide +kernel), List.mem_of_getElem? (i := 1596) (by decide +kernel), List.mem_of_getElem? (i := 1597) (by decide +kernel)⟩
theorem lw_p73 : lw_okq (⟨"GreyRouteModel", "between", "(III)I"⟩, 78) := ⟨⟨by decide +kernel, by decide +kernel⟩, List.mem_of_getElem? (i := 1243) (by decide +kernel), List.mem_of_getElem? (i := 1600) (by decide +kernel), List.mem_of_getElem? (i := 1601) (by decide +kernel)⟩
theorem lw_p74 : lw_okq (⟨"GreyRouteModel", "number", "(II)I"⟩, 78) := ⟨⟨by decide +kernel, by decide +kernel⟩, List.mem_of_getElem? (i := 1243) (by decide +kernel), List.mem_of_getElem? (i := 1604) (by decide +kernel), List.mem_of_getElem? (i := 1605) (by decide +kernel)⟩
theorem lw_p75 : lw_okq (⟨"GreyRouteModel", "stepping", "()V"⟩, 78) := ⟨⟨by decide +kernel, by decide +kernel⟩, List.mem_of_getElem? (i := 1243) (by decide +kernel), List.mem_of_getElem? (i := 1611) (by decide +kernel), List.mem_of_getElem? (i := 1612) (by decide +kernel)⟩
theorem lw_p76 : lw_okq (⟨"GreyRouteModel", "thinging", "()V"⟩, 78) := ⟨⟨by decide +kernel, by decide +kernel⟩, List.mem_of_getElem? (i := 1243) (by decide +kernel), List.mem_of_getElem? (i := 1615) (by decide +kernel), List.mem_of_getElem? (i := 1616) (by decide +kernel)⟩
theorem lw_p77 : lw_okq (⟨"GreyRouteModel", "reading", "(I)V"⟩, 78) := ⟨⟨by decide +kernel, by decide +kernel⟩, List.mem_of_getElem? (i := 1243) (by decide +kernel), List.mem_of_getElem? (i := 1619) (by decide +kernel), List.mem_of_getElem? (i := 1620) (by decide +kernel)⟩
theorem lw_p78 : lw_okq (⟨"GreyRouteModel", "reads", "(Z)V"⟩, 78) := ⟨⟨by decide +kernel, by decide +kernel⟩, List.mem_of_getElem? (i := 1243) (by decide +kernel), List.mem_of_getElem? (i := 1623) (by decide +kernel), List.mem_of_getElem? (i := 1624) (by decide +kernel)⟩
theorem lw_p79 : lw_okq (⟨"GreyRouteModel", "pushes", "(I)V"⟩, 78) := ⟨⟨by decide +kernel, by decide +kernel⟩, List.mem_of_getElem? (i := 1243) (by decide +kernel), List.mem_of_getElem? (i := 1627) (by decide +kernel), List.mem_of_getElem? (i := 1628) (by decide +kernel)⟩
def lw_privs_5 : List (MethodName × Nat) := [(⟨"GreyRouteModel", "counts", "(Z)Z"⟩, 78), (⟨"GreyRouteModel", "fresh", "()J"⟩, 78), (⟨"GreyRouteModel", "isOwn", "(J)Z"⟩, 78), (⟨"GreyRouteModel", "named", "(IJ)I"⟩, 78), (⟨"GreyRouteModel", "manyOf", "(II)I"⟩, 78), (⟨"GreyRouteModel", "nameOf", "(III)J"⟩, 78), (⟨"GreyRouteModel", "streeting", "()V"⟩, 78), (⟨"GreyRouteModel", "knownBut", "(I)I"⟩, 78), (⟨"GreyRouteModel", "must", "(J)V"⟩, 78), (⟨"GreyRouteModel", "between", "(III)I"⟩, 78), (⟨"GreyRouteModel", "number", "(II)I"⟩, 78), (⟨"GreyRouteModel", "stepping", "()V"⟩, 78), (⟨"GreyRouteModel", "thinging", "()V"⟩, 78), (⟨"GreyRouteModel", "reading", "(I)V"⟩, 78), (⟨"GreyRouteModel", "reads", "(Z)V"⟩, 78), (⟨"GreyRouteModel", "pushes", "(I)V"⟩, 78)]
theorem lw_r5 : ∀ q ∈ lw_privs_5, lw_okq q := List.forall_mem_cons.mpr ⟨lw_p64, List.forall_mem_cons.mpr ⟨lw_p65, List.forall_mem_cons.mpr ⟨lw_p66, List.forall_mem_cons.mpr ⟨lw_p67, List.forall_mem_cons.mpr ⟨lw_p68, List.forall_mem_cons.mpr ⟨lw_p69, List.forall_mem_cons.mpr ⟨lw_p70, List.forall_mem_cons.mpr ⟨lw_p71, List.forall_mem_cons.mpr ⟨lw_p72, List.forall_mem_cons.mpr ⟨lw_p73, List.forall_mem_cons.mpr ⟨lw_p74, List.forall_mem_cons.mpr ⟨lw_p75, List.forall_mem_cons.mpr ⟨lw_p76, List.forall_mem_cons.mpr ⟨lw_p77, List.forall_mem_cons.mpr ⟨lw_p78, List.forall_mem_cons.mpr ⟨lw_p79, fun _ h => absurd h List.not_mem_nil⟩⟩⟩⟩⟩⟩⟩⟩⟩⟩⟩⟩⟩⟩⟩⟩
theorem lw_p80 : lw_okq (⟨"GreyRouteModel", "operand", "()Z"⟩, 78) := ⟨⟨by decide +kernel, by decide +kernel⟩, List.mem_of_getElem? (i := 1243) (by decide +kernel), List.mem_of_getElem? (i := 1631) (by decide +kernel), List.mem_of_getElem? (i := 1632) (by decide +kernel)⟩
theorem lw_p81 : lw_okq (⟨"GreyRouteModel", "holdsBack", "(I)V"⟩, 78) := ⟨⟨by decide +kernel, by decide +kernel⟩, List.mem_of_getElem? (i := 1243) (by decide +kernel), List.mem_of_getElem? (i := 1638) (by decide +kernel), List.mem_of_getElem? (i := 1639) (by decide +kernel)⟩
theorem lw_p82 : lw_okq (⟨"GreyRouteModel", "isSign", "(I)Z"⟩, 78) := ⟨⟨by decide +kernel, by decide +kernel⟩, List.mem_of_getElem? (i := 1243) (by decide +kernel), List.mem_of_getElem? (i := 1642) (by decide +kernel), List.mem_of_getElem? (i := 1643) (by decide +kernel)⟩
theorem lw_p83 : lw_okq (⟨"GreyRouteModel", "opens", "(I)V"⟩, 78) := ⟨⟨by decide +kernel, by decide +kernel⟩, List.mem_of_getElem? (i := 1243) (by decide +kernel), List.mem_of_getElem? (i := 1646) (by decide +kernel), List.mem_of_getElem? (i := 1647) (by decide +kernel)⟩
theorem lw_p84 : lw_okq (⟨"GreyRouteModel", "add", "(II)V"⟩, 78) := ⟨⟨by decide +kernel, by decide +kernel⟩, List.mem_of_getElem? (i := 1243) (by decide +kernel), List.mem_of_getElem? (i := 1650) (by decide +kernel), List.mem_of_getElem? (i := 1651) (by decide +kernel)⟩
theorem lw_p85 : lw_okq (⟨"GreyRouteModel", "goesOn", "()Z"⟩, 78) := ⟨⟨by decide +kernel, by decide +kernel⟩, List.mem_of_getElem? (i := 1243) (by decide +kernel), List.mem_of_getElem? (i := 1654) (by decide +kernel), List.mem_of_getElem? (i := 1655) (by decide +kernel)⟩
theorem lw_p86 : lw_okq (⟨"GreyRouteModel", "joins", "(I)V"⟩, 78) := ⟨⟨by decide +kernel, by decide +kernel⟩, List.mem_of_getElem? (i := 1243) (by decide +kernel), List.mem_of_getElem? (i := 1658) (by decide +kernel), List.mem_of_getElem? (i := 1659) (by decide +kernel)⟩
theorem lw_p87 : lw_okq (⟨"GreyRouteModel", "heating", "(Z)V"⟩, 78) := ⟨⟨by decide +kernel, by decide +kernel⟩, List.mem_of_getElem? (i := 1243) (by decide +kernel), List.mem_of_getElem? (i := 1665) (by decide +kernel), List.mem_of_getElem? (i := 1666) (by decide +kernel)⟩
theorem lw_p88 : lw_okq (⟨"GreyRouteModel", "finishes", "(I)V"⟩, 78) := ⟨⟨by decide +kernel, by decide +kernel⟩, List.mem_of_getElem? (i := 1243) (by decide +kernel), List.mem_of_getElem? (i := 1669) (by decide +kernel), List.mem_of_getElem? (i := 1670) (by decide +kernel)⟩
theorem lw_p89 : lw_okq (⟨"GreyRouteModel", "must", "(I)V"⟩, 78) := ⟨⟨by decide +kernel, by decide +kernel⟩, List.mem_of_getElem? (i := 1243) (by decide +kernel), List.mem_of_getElem? (i := 1673) (by decide +kernel), List.mem_of_getElem? (i := 1674) (by decide +kernel)⟩
theorem lw_p90 : lw_okq (⟨"GreyRouteModel", "begin", "()V"⟩, 78) := ⟨⟨by decide +kernel, by decide +kernel⟩, List.mem_of_getElem? (i := 1243) (by decide +kernel), List.mem_of_getElem? (i := 1677) (by decide +kernel), List.mem_of_getElem? (i := 1678) (by decide +kernel)⟩
theorem lw_p91 : lw_okq (⟨"GreyRouteModel", "slot", "(I)I"⟩, 78) := ⟨⟨by decide +kernel, by decide +kernel⟩, List.mem_of_getElem? (i := 1243) (by decide +kernel), List.mem_of_getElem? (i := 1693) (by decide +kernel), List.mem_of_getElem? (i := 1694) (by decide +kernel)⟩
theorem lw_p92 : lw_okq (⟨"GreyRouteModel", "copies", "(II)V"⟩, 78) := ⟨⟨by decide +kernel, by decide +kernel⟩, List.mem_of_getElem? (i := 1243) (by decide +kernel), List.mem_of_getElem? (i := 1697) (by decide +kernel), List.mem_of_getElem? (i := 1698) (by decide +kernel)⟩
theorem lw_p93 : lw_okq (⟨"GreyRouteModel", "isPlace", "(I)Z"⟩, 78) := ⟨⟨by decide +kernel, by decide +kernel⟩, List.mem_of_getElem? (i := 1243) (by decide +kernel), List.mem_of_getElem? (i := 1721) (by decide +kernel), List.mem_of_getElem? (i := 1722) (by decide +kernel)⟩
theorem lw_p94 : lw_okq (⟨"GreyRouteModel", "measures", "(I)V"⟩, 78) := ⟨⟨by decide +kernel, by decide +kernel⟩, List.mem_of_getElem? (i := 1243) (by decide +kernel), List.mem_of_getElem? (i := 1725) (by decide +kernel), List.mem_of_getElem? (i := 1726) (by decide +kernel)⟩
theorem lw_p95 : lw_okq (⟨"GreyRouteModel", "heatNow", "()I"⟩, 78) := ⟨⟨by decide +kernel, by decide +kernel⟩, List.mem_of_getElem? (i := 1243) (by decide +kernel), List.mem_of_getElem? (i := 1742) (by decide +kernel), List.mem_of_getElem? (i := 1743) (by decide +kernel)⟩
def lw_privs_6 : List (MethodName × Nat) := [(⟨"GreyRouteModel", "operand", "()Z"⟩, 78), (⟨"GreyRouteModel", "holdsBack", "(I)V"⟩, 78), (⟨"GreyRouteModel", "isSign", "(I)Z"⟩, 78), (⟨"GreyRouteModel", "opens", "(I)V"⟩, 78), (⟨"GreyRouteModel", "add", "(II)V"⟩, 78), (⟨"GreyRouteModel", "goesOn", "()Z"⟩, 78), (⟨"GreyRouteModel", "joins", "(I)V"⟩, 78), (⟨"GreyRouteModel", "heating", "(Z)V"⟩, 78), (⟨"GreyRouteModel", "finishes", "(I)V"⟩, 78), (⟨"GreyRouteModel", "must", "(I)V"⟩, 78), (⟨"GreyRouteModel", "begin", "()V"⟩, 78), (⟨"GreyRouteModel", "slot", "(I)I"⟩, 78), (⟨"GreyRouteModel", "copies", "(II)V"⟩, 78), (⟨"GreyRouteModel", "isPlace", "(I)Z"⟩, 78), (⟨"GreyRouteModel", "measures", "(I)V"⟩, 78), (⟨"GreyRouteModel", "heatNow", "()I"⟩, 78)]
theorem lw_r6 : ∀ q ∈ lw_privs_6, lw_okq q := List.forall_mem_cons.mpr ⟨lw_p80, List.forall_mem_cons.mpr ⟨lw_p81, List.forall_mem_cons.mpr ⟨lw_p82, List.forall_mem_cons.mpr ⟨lw_p83, List.forall_mem_cons.mpr ⟨lw_p84, List.forall_mem_cons.mpr ⟨lw_p85, List.forall_mem_cons.mpr ⟨lw_p86, List.forall_mem_cons.mpr ⟨lw_p87, List.forall_mem_cons.mpr ⟨lw_p88, List.forall_mem_cons.mpr ⟨lw_p89, List.forall_mem_cons.mpr ⟨lw_p90, List.forall_mem_cons.mpr ⟨lw_p91, List.forall_mem_cons.mpr ⟨lw_p92, List.forall_mem_cons.mpr ⟨lw_p93, List.forall_mem_cons.mpr ⟨lw_p94, List.forall_mem_cons.mpr ⟨lw_p95, fun _ h => absurd h List.not_mem_nil⟩⟩⟩⟩⟩⟩⟩⟩⟩⟩⟩⟩⟩⟩⟩⟩
theorem lw_p96 : lw_okq (⟨"GreyRouteModel", "runs", "(IIII)V"⟩, 78) := ⟨⟨by decide +kernel, by decide +kernel⟩, List.mem_of_getElem? (i := 1243) (by decide +kernel), List.mem_of_getElem? (i := 1746) (by decide +kernel), List.mem_of_getElem? (i := 1747) (by decide +kernel)⟩
theorem lw_p97 : lw_okq (⟨"GreyRouteModel", "walks", "(II)V"⟩, 78) := ⟨⟨by decide +kernel, by decide +kernel⟩, List.mem_of_getElem? (i := 1243) (by decide +kernel), List.mem_of_getElem? (i := 1750) (by decide +kernel), List.mem_of_getElem? (i := 1751) (by decide +kernel)⟩
theorem lw_p98 : lw_okq (⟨"GreyRouteModel", "onward", "(III)I"⟩, 78) := ⟨⟨by decide +kernel, by decide +kernel⟩, List.mem_of_getElem? (i := 1243) (by decide +kernel), List.mem_of_getElem? (i := 1754) (by decide +kernel), List.mem_of_getElem? (i := 1755) (by decide +kernel)⟩
theorem lw_p99 : lw_okq (⟨"GreyRouteModel", "appends", "(II)V"⟩, 78) := ⟨⟨by decide +kernel, by decide +kernel⟩, List.mem_of_getElem? (i := 1243) (by decide +kernel), List.mem_of_getElem? (i := 1758) (by decide +kernel), List.mem_of_getElem? (i := 1759) (by decide +kernel)⟩
theorem lw_p100 : lw_okq (⟨"GreyRouteModel", "stands", "(IIII)I"⟩, 78) := ⟨⟨by decide +kernel, by decide +kernel⟩, List.mem_of_getElem? (i := 1243) (by decide +kernel), List.mem_of_getElem? (i := 1762) (by decide +kernel), List.mem_of_getElem? (i := 1763) (by decide +kernel)⟩
theorem lw_p101 : lw_okq (⟨"GreyRouteModel", "isTold", "(I)Z"⟩, 78) := ⟨⟨by decide +kernel, by decide +kernel⟩, List.mem_of_getElem? (i := 1243) (by decide +kernel), List.mem_of_getElem? (i := 1766) (by decide +kernel), List.mem_of_getElem? (i := 1767) (by decide +kernel)⟩
theorem lw_p102 : lw_okq (⟨"GreyRouteModel", "pulls", "(III)I"⟩, 78) := ⟨⟨by decide +kernel, by decide +kernel⟩, List.mem_of_getElem? (i := 1243) (by decide +kernel), List.mem_of_getElem? (i := 1770) (by decide +kernel), List.mem_of_getElem? (i := 1771) (by decide +kernel)⟩
theorem lw_p103 : lw_okq (⟨"GreyRouteModel", "reckons", "(I)J"⟩, 78) := ⟨⟨by decide +kernel, by decide +kernel⟩, List.mem_of_getElem? (i := 1243) (by decide +kernel), List.mem_of_getElem? (i := 1774) (by decide +kernel), List.mem_of_getElem? (i := 1775) (by decide +kernel)⟩
theorem lw_p104 : lw_okq (⟨"GreyRouteModel", "pairs", "()I"⟩, 78) := ⟨⟨by decide +kernel, by decide +kernel⟩, List.mem_of_getElem? (i := 1243) (by decide +kernel), List.mem_of_getElem? (i := 1790) (by decide +kernel), List.mem_of_getElem? (i := 1791) (by decide +kernel)⟩
theorem lw_p105 : lw_okq (⟨"GreyRouteModel", "longest", "()I"⟩, 78) := ⟨⟨by decide +kernel, by decide +kernel⟩, List.mem_of_getElem? (i := 1243) (by decide +kernel), List.mem_of_getElem? (i := 1802) (by decide +kernel), List.mem_of_getElem? (i := 1803) (by decide +kernel)⟩
theorem lw_p106 : lw_okq (⟨"GreyRouteModel", "comesBy", "(I)Z"⟩, 78) := ⟨⟨by decide +kernel, by decide +kernel⟩, List.mem_of_getElem? (i := 1243) (by decide +kernel), List.mem_of_getElem? (i := 1814) (by decide +kernel), List.mem_of_getElem? (i := 1815) (by decide +kernel)⟩
theorem lw_p107 : lw_okq (⟨"GreyRouteModel", "isAhead", "(III)Z"⟩, 78) := ⟨⟨by decide +kernel, by decide +kernel⟩, List.mem_of_getElem? (i := 1243) (by decide +kernel), List.mem_of_getElem? (i := 1826) (by decide +kernel), List.mem_of_getElem? (i := 1827) (by decide +kernel)⟩
theorem lw_p108 : lw_okq (⟨"GreyRouteModel", "passes", "(II)V"⟩, 78) := ⟨⟨by decide +kernel, by decide +kernel⟩, List.mem_of_getElem? (i := 1243) (by decide +kernel), List.mem_of_getElem? (i := 1830) (by decide +kernel), List.mem_of_getElem? (i := 1831) (by decide +kernel)⟩
theorem lw_p109 : lw_okq (⟨"GreyRouteModel", "writesDown", "(I)V"⟩, 78) := ⟨⟨by decide +kernel, by decide +kernel⟩, List.mem_of_getElem? (i := 1243) (by decide +kernel), List.mem_of_getElem? (i := 1834) (by decide +kernel), List.mem_of_getElem? (i := 1835) (by decide +kernel)⟩
theorem lw_p110 : lw_okq (⟨"GreyRouteModel", "isClever", "(II)Z"⟩, 78) := ⟨⟨by decide +kernel, by decide +kernel⟩, List.mem_of_getElem? (i := 1243) (by decide +kernel), List.mem_of_getElem? (i := 1838) (by decide +kernel), List.mem_of_getElem? (i := 1839) (by decide +kernel)⟩
theorem lw_p111 : lw_okq (⟨"GreyRouteModel", "leavesOut", "()V"⟩, 78) := ⟨⟨by decide +kernel, by decide +kernel⟩, List.mem_of_getElem? (i := 1243) (by decide +kernel), List.mem_of_getElem? (i := 1842) (by decide +kernel), List.mem_of_getElem? (i := 1843) (by decide +kernel)⟩
def lw_privs_7 : List (MethodName × Nat) := [(⟨"GreyRouteModel", "runs", "(IIII)V"⟩, 78), (⟨"GreyRouteModel", "walks", "(II)V"⟩, 78), (⟨"GreyRouteModel", "onward", "(III)I"⟩, 78), (⟨"GreyRouteModel", "appends", "(II)V"⟩, 78), (⟨"GreyRouteModel", "stands", "(IIII)I"⟩, 78), (⟨"GreyRouteModel", "isTold", "(I)Z"⟩, 78), (⟨"GreyRouteModel", "pulls", "(III)I"⟩, 78), (⟨"GreyRouteModel", "reckons", "(I)J"⟩, 78), (⟨"GreyRouteModel", "pairs", "()I"⟩, 78), (⟨"GreyRouteModel", "longest", "()I"⟩, 78), (⟨"GreyRouteModel", "comesBy", "(I)Z"⟩, 78), (⟨"GreyRouteModel", "isAhead", "(III)Z"⟩, 78), (⟨"GreyRouteModel", "passes", "(II)V"⟩, 78), (⟨"GreyRouteModel", "writesDown", "(I)V"⟩, 78), (⟨"GreyRouteModel", "isClever", "(II)Z"⟩, 78), (⟨"GreyRouteModel", "leavesOut", "()V"⟩, 78)]
theorem lw_r7 : ∀ q ∈ lw_privs_7, lw_okq q := List.forall_mem_cons.mpr ⟨lw_p96, List.forall_mem_cons.mpr ⟨lw_p97, List.forall_mem_cons.mpr ⟨lw_p98, List.forall_mem_cons.mpr ⟨lw_p99, List.forall_mem_cons.mpr ⟨lw_p100, List.forall_mem_cons.mpr ⟨lw_p101, List.forall_mem_cons.mpr ⟨lw_p102, List.forall_mem_cons.mpr ⟨lw_p103, List.forall_mem_cons.mpr ⟨lw_p104, List.forall_mem_cons.mpr ⟨lw_p105, List.forall_mem_cons.mpr ⟨lw_p106, List.forall_mem_cons.mpr ⟨lw_p107, List.forall_mem_cons.mpr ⟨lw_p108, List.forall_mem_cons.mpr ⟨lw_p109, List.forall_mem_cons.mpr ⟨lw_p110, List.forall_mem_cons.mpr ⟨lw_p111, fun _ h => absurd h List.not_mem_nil⟩⟩⟩⟩⟩⟩⟩⟩⟩⟩⟩⟩⟩⟩⟩⟩
theorem lw_p112 : lw_okq (⟨"GreyRouteModel", "isAsWas", "()Z"⟩, 78) := ⟨⟨by decide +kernel, by decide +kernel⟩, List.mem_of_getElem? (i := 1243) (by decide +kernel), List.mem_of_getElem? (i := 1854) (by decide +kernel), List.mem_of_getElem? (i := 1855) (by decide +kernel)⟩
theorem lw_p113 : lw_okq (⟨"GreyRouteModel", "fills", "(I)J"⟩, 78) := ⟨⟨by decide +kernel, by decide +kernel⟩, List.mem_of_getElem? (i := 1243) (by decide +kernel), List.mem_of_getElem? (i := 1866) (by decide +kernel), List.mem_of_getElem? (i := 1867) (by decide +kernel)⟩
theorem lw_p114 : lw_okq (⟨"GreyRouteModel", "canBe", "(II)Z"⟩, 78) := ⟨⟨by decide +kernel, by decide +kernel⟩, List.mem_of_getElem? (i := 1243) (by decide +kernel), List.mem_of_getElem? (i := 1870) (by decide +kernel), List.mem_of_getElem? (i := 1871) (by decide +kernel)⟩
theorem lw_p115 : lw_okq (⟨"GreyRouteModel", "keeps", "()V"⟩, 78) := ⟨⟨by decide +kernel, by decide +kernel⟩, List.mem_of_getElem? (i := 1243) (by decide +kernel), List.mem_of_getElem? (i := 1891) (by decide +kernel), List.mem_of_getElem? (i := 1892) (by decide +kernel)⟩
theorem lw_p116 : lw_okq (⟨"GreyRouteModel", "draw", "(I)I"⟩, 78) := ⟨⟨by decide +kernel, by decide +kernel⟩, List.mem_of_getElem? (i := 1243) (by decide +kernel), List.mem_of_getElem? (i := 1899) (by decide +kernel), List.mem_of_getElem? (i := 1900) (by decide +kernel)⟩
theorem lw_p117 : lw_okq (⟨"GreyRouteModel", "writes", "(I)V"⟩, 78) := ⟨⟨by decide +kernel, by decide +kernel⟩, List.mem_of_getElem? (i := 1243) (by decide +kernel), List.mem_of_getElem? (i := 1935) (by decide +kernel), List.mem_of_getElem? (i := 1936) (by decide +kernel)⟩
theorem lw_p118 : lw_okq (⟨"GreyRouteModel", "comesOn", "(I)Z"⟩, 78) := ⟨⟨by decide +kernel, by decide +kernel⟩, List.mem_of_getElem? (i := 1243) (by decide +kernel), List.mem_of_getElem? (i := 1947) (by decide +kernel), List.mem_of_getElem? (i := 1948) (by decide +kernel)⟩
theorem lw_p119 : lw_okq (⟨"GreyRouteModel", "stepOn", "(II)Z"⟩, 78) := ⟨⟨by decide +kernel, by decide +kernel⟩, List.mem_of_getElem? (i := 1243) (by decide +kernel), List.mem_of_getElem? (i := 1951) (by decide +kernel), List.mem_of_getElem? (i := 1952) (by decide +kernel)⟩
def lw_privs_8 : List (MethodName × Nat) := [(⟨"GreyRouteModel", "isAsWas", "()Z"⟩, 78), (⟨"GreyRouteModel", "fills", "(I)J"⟩, 78), (⟨"GreyRouteModel", "canBe", "(II)Z"⟩, 78), (⟨"GreyRouteModel", "keeps", "()V"⟩, 78), (⟨"GreyRouteModel", "draw", "(I)I"⟩, 78), (⟨"GreyRouteModel", "writes", "(I)V"⟩, 78), (⟨"GreyRouteModel", "comesOn", "(I)Z"⟩, 78), (⟨"GreyRouteModel", "stepOn", "(II)Z"⟩, 78)]
theorem lw_r8 : ∀ q ∈ lw_privs_8, lw_okq q := List.forall_mem_cons.mpr ⟨lw_p112, List.forall_mem_cons.mpr ⟨lw_p113, List.forall_mem_cons.mpr ⟨lw_p114, List.forall_mem_cons.mpr ⟨lw_p115, List.forall_mem_cons.mpr ⟨lw_p116, List.forall_mem_cons.mpr ⟨lw_p117, List.forall_mem_cons.mpr ⟨lw_p118, List.forall_mem_cons.mpr ⟨lw_p119, fun _ h => absurd h List.not_mem_nil⟩⟩⟩⟩⟩⟩⟩⟩
def lw_privs : List (MethodName × Nat) := lw_privs_1 ++ (lw_privs_2 ++ (lw_privs_3 ++ (lw_privs_4 ++ (lw_privs_5 ++ (lw_privs_6 ++ (lw_privs_7 ++ (lw_privs_8)))))))
def lw_tbl : List Cond := k2_sels lw_privs ++ tables_1
theorem lw_privs_ok : ∀ q ∈ lw_privs, lw_okq q := by
  show ∀ q ∈ lw_privs_1 ++ (lw_privs_2 ++ (lw_privs_3 ++ (lw_privs_4 ++ (lw_privs_5 ++ (lw_privs_6 ++ (lw_privs_7 ++ (lw_privs_8))))))), lw_okq q
  exact List.forall_mem_append.mpr ⟨lw_r1, List.forall_mem_append.mpr ⟨lw_r2, List.forall_mem_append.mpr ⟨lw_r3, List.forall_mem_append.mpr ⟨lw_r4, List.forall_mem_append.mpr ⟨lw_r5, List.forall_mem_append.mpr ⟨lw_r6, List.forall_mem_append.mpr ⟨lw_r7, lw_r8⟩⟩⟩⟩⟩⟩⟩
end
section
def RX0 : String := "GreyRoute$Bytes"
def TX0 : u_T := fun k => match k with
  | 0 => ("GreyRoute$Bytes", "row", "[B", true)
  | _ => ("GreyRoute$Bytes", "size", "I", false)
def tyX0 : Nat → FieldType := fun k => match k with
  | 0 => .array .byte
  | _ => .int
theorem nmX0 : ∀ a, a < 2 → ∀ b, b < 2 → a ≠ b → (TX0 a).2.1 ≠ (TX0 b).2.1 := by decide +kernel
theorem tyX0_ok : ∀ k, k < 2 → parseFieldDescriptor (TX0 k).2.2.1 = some (tyX0 k) := by decide +kernel
abbrev cX0_init : ByteArray := prog_2_method_1_code
def yX0_init : MethodName := ⟨RX0, "<init>", "(I)V"⟩
abbrev cX0_put : ByteArray := prog_2_method_2_code
def yX0_put : MethodName := ⟨RX0, "put", "(I)V"⟩
abbrev cX0_putNumber : ByteArray := prog_2_method_3_code
def yX0_putNumber : MethodName := ⟨RX0, "putNumber", "(I)V"⟩
abbrev cX0_at : ByteArray := prog_2_method_4_code
def yX0_at : MethodName := ⟨RX0, "at", "(I)I"⟩
abbrev cX0_cut : ByteArray := prog_2_method_5_code
def yX0_cut : MethodName := ⟨RX0, "cut", "(I)V"⟩
def RX1 : String := "GreyRoute$Half"
def TX1 : u_T := fun k => match k with
  | 0 => ("GreyRoute$Half", "numbers", "[I", true)
  | 1 => ("GreyRoute$Half", "spots", "[I", true)
  | 2 => ("GreyRoute$Half", "open", "[I", true)
  | 3 => ("GreyRoute$Half", "onward", "[J", true)
  | 4 => ("GreyRoute$Half", "toward", "[J", true)
  | 5 => ("GreyRoute$Half", "count", "I", false)
  | 6 => ("GreyRoute$Half", "askedStep", "I", false)
  | _ => ("GreyRoute$Half", "askedLeft", "J", false)
def tyX1 : Nat → FieldType := fun k => match k with
  | 0 => .array .int
  | 1 => .array .int
  | 2 => .array .int
  | 3 => .array .long
  | 4 => .array .long
  | 5 => .int
  | 6 => .int
  | _ => .long
theorem nmX1 : ∀ a, a < 8 → ∀ b, b < 8 → a ≠ b → (TX1 a).2.1 ≠ (TX1 b).2.1 := by decide +kernel
theorem tyX1_ok : ∀ k, k < 8 → parseFieldDescriptor (TX1 k).2.2.1 = some (tyX1 k) := by decide +kernel
abbrev cX1_init : ByteArray := prog_3_method_1_code
def yX1_init : MethodName := ⟨RX1, "<init>", "()V"⟩
abbrev cX1_clear : ByteArray := prog_3_method_2_code
def yX1_clear : MethodName := ⟨RX1, "clear", "()V"⟩
abbrev cX1_fits : ByteArray := prog_3_method_3_code
def yX1_fits : MethodName := ⟨RX1, "fits", "(LGreyRoute$Bytes;I)Z"⟩
abbrev cX1_take : ByteArray := prog_3_method_4_code
def yX1_take : MethodName := ⟨RX1, "take", "(LGreyRoute$Bytes;)V"⟩
abbrev cX1_capped : ByteArray := prog_3_method_5_code
def yX1_capped : MethodName := ⟨RX1, "capped", "(J)I"⟩
abbrev cX1_openPlaces : ByteArray := prog_3_method_6_code
def yX1_openPlaces : MethodName := ⟨RX1, "openPlaces", "(LGreyRoute$Town;I)V"⟩
abbrev cX1_mayBe : ByteArray := prog_3_method_7_code
def yX1_mayBe : MethodName := ⟨RX1, "mayBe", "(II)Z"⟩
abbrev cX1_countRoutes : ByteArray := prog_3_method_8_code
def yX1_countRoutes : MethodName := ⟨RX1, "countRoutes", "(LGreyRoute$Town;I)J"⟩
abbrev cX1_sumBeside : ByteArray := prog_3_method_9_code
def yX1_sumBeside : MethodName := ⟨RX1, "sumBeside", "(LGreyRoute$Town;[JII)J"⟩
abbrev cX1_sumOf : ByteArray := prog_3_method_10_code
def yX1_sumOf : MethodName := ⟨RX1, "sumOf", "(LGreyRoute$Town;[JI)J"⟩
abbrev cX1_placeOfFirst : ByteArray := prog_3_method_11_code
def yX1_placeOfFirst : MethodName := ⟨RX1, "placeOfFirst", "(LGreyRoute$Town;II)I"⟩
abbrev cX1_leastOnward : ByteArray := prog_3_method_12_code
def yX1_leastOnward : MethodName := ⟨RX1, "leastOnward", "(LGreyRoute$Town;II)I"⟩
abbrev cX1_ask : ByteArray := prog_3_method_13_code
def yX1_ask : MethodName := ⟨RX1, "ask", "(LGreyRoute$Town;I)V"⟩
abbrev cX1_mostAt : ByteArray := prog_3_method_14_code
def yX1_mostAt : MethodName := ⟨RX1, "mostAt", "(LGreyRoute$Town;I)J"⟩
def RX2 : String := "GreyRoute$Pageant"
def TX2 : u_T := fun k => match k with
  | 0 => ("GreyRoute$Pageant", "route", "LGreyRoute$Route;", true)
  | 1 => ("GreyRoute$Pageant", "stood", "[I", true)
  | 2 => ("GreyRoute$Pageant", "comes", "[I", true)
  | 3 => ("GreyRoute$Pageant", "been", "[I", true)
  | 4 => ("GreyRoute$Pageant", "pulls", "[I", true)
  | 5 => ("GreyRoute$Pageant", "stoodByPlace", "[I", true)
  | 6 => ("GreyRoute$Pageant", "between", "[I", true)
  | 7 => ("GreyRoute$Pageant", "before", "LGreyRoute$Route;", true)
  | 8 => ("GreyRoute$Pageant", "ways", "LGreyRoute$Ways;", true)
  | 9 => ("GreyRoute$Pageant", "sums", "LGreyRoute$Sums;", true)
  | 10 => ("GreyRoute$Pageant", "town", "LGreyRoute$Town;", false)
  | 11 => ("GreyRoute$Pageant", "shutBits", "I", false)
  | 12 => ("GreyRoute$Pageant", "year", "I", false)
  | 13 => ("GreyRoute$Pageant", "time", "I", false)
  | 14 => ("GreyRoute$Pageant", "standing", "I", false)
  | _ => ("GreyRoute$Pageant", "pairs", "I", false)
def tyX2 : Nat → FieldType := fun k => match k with
  | 0 => .object "GreyRoute$Route"
  | 1 => .array .int
  | 2 => .array .int
  | 3 => .array .int
  | 4 => .array .int
  | 5 => .array .int
  | 6 => .array .int
  | 7 => .object "GreyRoute$Route"
  | 8 => .object "GreyRoute$Ways"
  | 9 => .object "GreyRoute$Sums"
  | 10 => .object "GreyRoute$Town"
  | 11 => .int
  | 12 => .int
  | 13 => .int
  | 14 => .int
  | _ => .int
theorem nmX2 : ∀ a, a < 16 → ∀ b, b < 16 → a ≠ b → (TX2 a).2.1 ≠ (TX2 b).2.1 := by decide +kernel
theorem tyX2_ok : ∀ k, k < 16 → parseFieldDescriptor (TX2 k).2.2.1 = some (tyX2 k) := by decide +kernel
abbrev cX2_init : ByteArray := prog_4_method_1_code
def yX2_init : MethodName := ⟨RX2, "<init>", "(LGreyRoute$Town;)V"⟩
abbrev cX2_begin : ByteArray := prog_4_method_2_code
def yX2_begin : MethodName := ⟨RX2, "begin", "(LGreyRoute$Town;LGreyRoute$State;)V"⟩
abbrev cX2_beginRoute : ByteArray := prog_4_method_3_code
def yX2_beginRoute : MethodName := ⟨RX2, "beginRoute", "(LGreyRoute$Town;LGreyRoute$State;I)V"⟩
abbrev cX2_gatherPulls : ByteArray := prog_4_method_4_code
def yX2_gatherPulls : MethodName := ⟨RX2, "gatherPulls", "(LGreyRoute$State;I)V"⟩
abbrev cX2_go : ByteArray := prog_4_method_5_code
def yX2_go : MethodName := ⟨RX2, "go", "(I)V"⟩
abbrev cX2_pass : ByteArray := prog_4_method_6_code
def yX2_pass : MethodName := ⟨RX2, "pass", "()V"⟩
abbrev cX2_leavesRoute : ByteArray := prog_4_method_7_code
def yX2_leavesRoute : MethodName := ⟨RX2, "leavesRoute", "(I)Z"⟩
abbrev cX2_leaveIn : ByteArray := prog_4_method_8_code
def yX2_leaveIn : MethodName := ⟨RX2, "leaveIn", "(LGreyRoute$State;)V"⟩
abbrev cX2_goRound : ByteArray := prog_4_method_9_code
def yX2_goRound : MethodName := ⟨RX2, "goRound", "()V"⟩
abbrev cX2_standingAt : ByteArray := prog_4_method_10_code
def yX2_standingAt : MethodName := ⟨RX2, "standingAt", "(I)I"⟩
abbrev cX2_standsWithin : ByteArray := prog_4_method_11_code
def yX2_standsWithin : MethodName := ⟨RX2, "standsWithin", "(ILGreyRoute$State;I)Z"⟩
abbrev cX2_comesBy : ByteArray := prog_4_method_12_code
def yX2_comesBy : MethodName := ⟨RX2, "comesBy", "(LGreyRoute$Town;LGreyRoute$State;II)Z"⟩
abbrev cX2_sumByPlace : ByteArray := prog_4_method_13_code
def yX2_sumByPlace : MethodName := ⟨RX2, "sumByPlace", "()V"⟩
abbrev cX2_seenFrom : ByteArray := prog_4_method_14_code
def yX2_seenFrom : MethodName := ⟨RX2, "seenFrom", "(I)I"⟩
def RX3 : String := "GreyRoute$Past"
def TX3 : u_T := fun k => match k with
  | 0 => ("GreyRoute$Past", "keptYears", "[I", true)
  | 1 => ("GreyRoute$Past", "keptSteps", "[I", true)
  | 2 => ("GreyRoute$Past", "keptTimes", "[I", true)
  | 3 => ("GreyRoute$Past", "acts", "[LGreyRoute$State;", true)
  | 4 => ("GreyRoute$Past", "nextAct", "I", false)
  | _ => ("GreyRoute$Past", "actCount", "I", false)
def tyX3 : Nat → FieldType := fun k => match k with
  | 0 => .array .int
  | 1 => .array .int
  | 2 => .array .int
  | 3 => .array (.object "GreyRoute$State")
  | 4 => .int
  | _ => .int
theorem nmX3 : ∀ a, a < 6 → ∀ b, b < 6 → a ≠ b → (TX3 a).2.1 ≠ (TX3 b).2.1 := by decide +kernel
theorem tyX3_ok : ∀ k, k < 6 → parseFieldDescriptor (TX3 k).2.2.1 = some (tyX3 k) := by decide +kernel
abbrev cX3_init : ByteArray := prog_5_method_1_code
def yX3_init : MethodName := ⟨RX3, "<init>", "()V"⟩
abbrev cX3_forgetActs : ByteArray := prog_5_method_2_code
def yX3_forgetActs : MethodName := ⟨RX3, "forgetActs", "()V"⟩
abbrev cX3_remember : ByteArray := prog_5_method_3_code
def yX3_remember : MethodName := ⟨RX3, "remember", "(LGreyRoute$State;)V"⟩
abbrev cX3_takeBack : ByteArray := prog_5_method_4_code
def yX3_takeBack : MethodName := ⟨RX3, "takeBack", "(LGreyRoute$State;)Z"⟩
abbrev cX3_keep : ByteArray := prog_5_method_5_code
def yX3_keep : MethodName := ⟨RX3, "keep", "(LGreyRoute$State;LGreyRoute$Pageant;)V"⟩
abbrev cX3_keptOf : ByteArray := prog_5_method_6_code
def yX3_keptOf : MethodName := ⟨RX3, "keptOf", "(II)I"⟩
def RX4 : String := "GreyRoute$Reader"
def TX4 : u_T := fun k => match k with
  | 0 => ("GreyRoute$Reader", "words", "LGreyRoute$Words;", true)
  | 1 => ("GreyRoute$Reader", "town", "LGreyRoute$Town;", false)
  | 2 => ("GreyRoute$Reader", "inClever", "Z", false)
  | 3 => ("GreyRoute$Reader", "fault", "I", false)
  | _ => ("GreyRoute$Reader", "faultAt", "I", false)
def tyX4 : Nat → FieldType := fun k => match k with
  | 0 => .object "GreyRoute$Words"
  | 1 => .object "GreyRoute$Town"
  | 2 => .boolean
  | 3 => .int
  | _ => .int
theorem nmX4 : ∀ a, a < 5 → ∀ b, b < 5 → a ≠ b → (TX4 a).2.1 ≠ (TX4 b).2.1 := by decide +kernel
theorem tyX4_ok : ∀ k, k < 5 → parseFieldDescriptor (TX4 k).2.2.1 = some (tyX4 k) := by decide +kernel
abbrev cX4_init : ByteArray := prog_6_method_1_code
def yX4_init : MethodName := ⟨RX4, "<init>", "(LGreyRoute$Words;LGreyRoute$Town;)V"⟩
abbrev cX4_read : ByteArray := prog_6_method_2_code
def yX4_read : MethodName := ⟨RX4, "read", "(LGreyRoute$Town;)Z"⟩
abbrev cX4_wrong : ByteArray := prog_6_method_3_code
def yX4_wrong : MethodName := ⟨RX4, "wrong", "(II)Z"⟩
abbrev cX4_unfit : ByteArray := prog_6_method_4_code
def yX4_unfit : MethodName := ⟨RX4, "unfit", "()Z"⟩
abbrev cX4_readStatement : ByteArray := prog_6_method_5_code
def yX4_readStatement : MethodName := ⟨RX4, "readStatement", "()Z"⟩
abbrev cX4_another : ByteArray := prog_6_method_6_code
def yX4_another : MethodName := ⟨RX4, "another", "(Z)Z"⟩
abbrev cX4_readPlace : ByteArray := prog_6_method_7_code
def yX4_readPlace : MethodName := ⟨RX4, "readPlace", "()Z"⟩
abbrev cX4_readStreet : ByteArray := prog_6_method_8_code
def yX4_readStreet : MethodName := ⟨RX4, "readStreet", "()Z"⟩
abbrev cX4_readStep : ByteArray := prog_6_method_9_code
def yX4_readStep : MethodName := ⟨RX4, "readStep", "()Z"⟩
abbrev cX4_readThing : ByteArray := prog_6_method_10_code
def yX4_readThing : MethodName := ⟨RX4, "readThing", "()Z"⟩
abbrev cX4_beginCode : ByteArray := prog_6_method_11_code
def yX4_beginCode : MethodName := ⟨RX4, "beginCode", "(Z)Z"⟩
abbrev cX4_endCode : ByteArray := prog_6_method_12_code
def yX4_endCode : MethodName := ⟨RX4, "endCode", "()Z"⟩
abbrev cX4_readHeat : ByteArray := prog_6_method_13_code
def yX4_readHeat : MethodName := ⟨RX4, "readHeat", "()Z"⟩
abbrev cX4_readHot : ByteArray := prog_6_method_14_code
def yX4_readHot : MethodName := ⟨RX4, "readHot", "()Z"⟩
abbrev cX4_newName : ByteArray := prog_6_method_15_code
def yX4_newName : MethodName := ⟨RX4, "newName", "()I"⟩
abbrev cX4_knownPlace : ByteArray := prog_6_method_16_code
def yX4_knownPlace : MethodName := ⟨RX4, "knownPlace", "()I"⟩
abbrev cX4_number : ByteArray := prog_6_method_17_code
def yX4_number : MethodName := ⟨RX4, "number", "(II)I"⟩
abbrev cX4_takeOwn : ByteArray := prog_6_method_18_code
def yX4_takeOwn : MethodName := ⟨RX4, "takeOwn", "(I)Z"⟩
abbrev cX4_takeSign : ByteArray := prog_6_method_19_code
def yX4_takeSign : MethodName := ⟨RX4, "takeSign", "(I)Z"⟩
abbrev cX4_takeOpening : ByteArray := prog_6_method_20_code
def yX4_takeOpening : MethodName := ⟨RX4, "takeOpening", "(ZI)Z"⟩
abbrev cX4_readSum : ByteArray := prog_6_method_21_code
def yX4_readSum : MethodName := ⟨RX4, "readSum", "(I)Z"⟩
abbrev cX4_readProduct : ByteArray := prog_6_method_22_code
def yX4_readProduct : MethodName := ⟨RX4, "readProduct", "(I)Z"⟩
abbrev cX4_readPart : ByteArray := prog_6_method_23_code
def yX4_readPart : MethodName := ⟨RX4, "readPart", "(I)Z"⟩
abbrev cX4_readFigure : ByteArray := prog_6_method_24_code
def yX4_readFigure : MethodName := ⟨RX4, "readFigure", "(IZ)Z"⟩
abbrev cX4_readOfTwo : ByteArray := prog_6_method_25_code
def yX4_readOfTwo : MethodName := ⟨RX4, "readOfTwo", "(II)Z"⟩
abbrev cX4_readIf : ByteArray := prog_6_method_26_code
def yX4_readIf : MethodName := ⟨RX4, "readIf", "(I)Z"⟩
abbrev cX4_readTest : ByteArray := prog_6_method_27_code
def yX4_readTest : MethodName := ⟨RX4, "readTest", "(I)Z"⟩
abbrev cX4_readBoth : ByteArray := prog_6_method_28_code
def yX4_readBoth : MethodName := ⟨RX4, "readBoth", "(I)Z"⟩
abbrev cX4_readFact : ByteArray := prog_6_method_29_code
def yX4_readFact : MethodName := ⟨RX4, "readFact", "(I)Z"⟩
abbrev cX4_readComparison : ByteArray := prog_6_method_30_code
def yX4_readComparison : MethodName := ⟨RX4, "readComparison", "(I)Z"⟩
def RX5 : String := "GreyRoute$Route"
def TX5 : u_T := fun k => match k with
  | 0 => ("GreyRoute$Route", "spots", "[I", true)
  | 1 => ("GreyRoute$Route", "minutes", "[I", true)
  | _ => ("GreyRoute$Route", "count", "I", false)
def tyX5 : Nat → FieldType := fun k => match k with
  | 0 => .array .int
  | 1 => .array .int
  | _ => .int
theorem nmX5 : ∀ a, a < 3 → ∀ b, b < 3 → a ≠ b → (TX5 a).2.1 ≠ (TX5 b).2.1 := by decide +kernel
theorem tyX5_ok : ∀ k, k < 3 → parseFieldDescriptor (TX5 k).2.2.1 = some (tyX5 k) := by decide +kernel
abbrev cX5_init : ByteArray := prog_7_method_1_code
def yX5_init : MethodName := ⟨RX5, "<init>", "()V"⟩
abbrev cX5_copy : ByteArray := prog_7_method_2_code
def yX5_copy : MethodName := ⟨RX5, "copy", "(LGreyRoute$Route;)V"⟩
abbrev cX5_isLike : ByteArray := prog_7_method_3_code
def yX5_isLike : MethodName := ⟨RX5, "isLike", "(LGreyRoute$Route;)Z"⟩
abbrev cX5_append : ByteArray := prog_7_method_4_code
def yX5_append : MethodName := ⟨RX5, "append", "(II)Z"⟩
abbrev cX5_cutTo : ByteArray := prog_7_method_5_code
def yX5_cutTo : MethodName := ⟨RX5, "cutTo", "(I)V"⟩
abbrev cX5_lastSpot : ByteArray := prog_7_method_6_code
def yX5_lastSpot : MethodName := ⟨RX5, "lastSpot", "()I"⟩
abbrev cX5_holds : ByteArray := prog_7_method_7_code
def yX5_holds : MethodName := ⟨RX5, "holds", "(I)Z"⟩
abbrev cX5_beenAhead : ByteArray := prog_7_method_8_code
def yX5_beenAhead : MethodName := ⟨RX5, "beenAhead", "(I)I"⟩
abbrev cX5_insert : ByteArray := prog_7_method_9_code
def yX5_insert : MethodName := ⟨RX5, "insert", "(I[II)Z"⟩
abbrev cX5_leaveOutFirstLoop : ByteArray := prog_7_method_10_code
def yX5_leaveOutFirstLoop : MethodName := ⟨RX5, "leaveOutFirstLoop", "()V"⟩
def RX6 : String := "GreyRoute$State"
def TX6 : u_T := fun k => match k with
  | 0 => ("GreyRoute$State", "year", "I", false)
  | 1 => ("GreyRoute$State", "shutBits", "I", false)
  | 2 => ("GreyRoute$State", "thingSpots", "[I", true)
  | 3 => ("GreyRoute$State", "route", "LGreyRoute$Route;", true)
  | _ => ("GreyRoute$State", "keptCount", "I", false)
def tyX6 : Nat → FieldType := fun k => match k with
  | 0 => .int
  | 1 => .int
  | 2 => .array .int
  | 3 => .object "GreyRoute$Route"
  | _ => .int
theorem nmX6 : ∀ a, a < 5 → ∀ b, b < 5 → a ≠ b → (TX6 a).2.1 ≠ (TX6 b).2.1 := by decide +kernel
theorem tyX6_ok : ∀ k, k < 5 → parseFieldDescriptor (TX6 k).2.2.1 = some (tyX6 k) := by decide +kernel
abbrev cX6_init : ByteArray := prog_8_method_1_code
def yX6_init : MethodName := ⟨RX6, "<init>", "()V"⟩
abbrev cX6_beginIn : ByteArray := prog_8_method_2_code
def yX6_beginIn : MethodName := ⟨RX6, "beginIn", "(LGreyRoute$Town;)V"⟩
abbrev cX6_copy : ByteArray := prog_8_method_3_code
def yX6_copy : MethodName := ⟨RX6, "copy", "(LGreyRoute$State;)V"⟩
abbrev cX6_write : ByteArray := prog_8_method_4_code
def yX6_write : MethodName := ⟨RX6, "write", "(LGreyRoute$Bytes;LGreyRoute$Town;)V"⟩
abbrev cX6_checkByte : ByteArray := prog_8_method_5_code
def yX6_checkByte : MethodName := ⟨RX6, "checkByte", "(LGreyRoute$Bytes;I)I"⟩
abbrev cX6_isImage : ByteArray := prog_8_method_6_code
def yX6_isImage : MethodName := ⟨RX6, "isImage", "(LGreyRoute$Bytes;LGreyRoute$Town;)Z"⟩
abbrev cX6_yearIn : ByteArray := prog_8_method_7_code
def yX6_yearIn : MethodName := ⟨RX6, "yearIn", "(LGreyRoute$Bytes;)I"⟩
abbrev cX6_areSteps : ByteArray := prog_8_method_8_code
def yX6_areSteps : MethodName := ⟨RX6, "areSteps", "(LGreyRoute$Bytes;LGreyRoute$Town;II)Z"⟩
abbrev cX6_take : ByteArray := prog_8_method_9_code
def yX6_take : MethodName := ⟨RX6, "take", "(LGreyRoute$Bytes;LGreyRoute$Town;)V"⟩
def RX7 : String := "GreyRoute$Sums"
def TX7 : u_T := fun k => match k with
  | 0 => ("GreyRoute$Sums", "waiting", "[I", true)
  | _ => ("GreyRoute$Sums", "figures", "[I", true)
def tyX7 : Nat → FieldType := fun k => match k with
  | 0 => .array .int
  | _ => .array .int
theorem nmX7 : ∀ a, a < 2 → ∀ b, b < 2 → a ≠ b → (TX7 a).2.1 ≠ (TX7 b).2.1 := by decide +kernel
theorem tyX7_ok : ∀ k, k < 2 → parseFieldDescriptor (TX7 k).2.2.1 = some (tyX7 k) := by decide +kernel
abbrev cX7_init : ByteArray := prog_9_method_1_code
def yX7_init : MethodName := ⟨RX7, "<init>", "()V"⟩
abbrev cX7_codeOf : ByteArray := prog_9_method_2_code
def yX7_codeOf : MethodName := ⟨RX7, "codeOf", "(II)I"⟩
abbrev cX7_work : ByteArray := prog_9_method_3_code
def yX7_work : MethodName := ⟨RX7, "work", "([II)I"⟩
abbrev cX7_figure : ByteArray := prog_9_method_4_code
def yX7_figure : MethodName := ⟨RX7, "figure", "(I)I"⟩
abbrev cX7_join : ByteArray := prog_9_method_5_code
def yX7_join : MethodName := ⟨RX7, "join", "(II)I"⟩
abbrev cX7_ofTwo : ByteArray := prog_9_method_6_code
def yX7_ofTwo : MethodName := ⟨RX7, "ofTwo", "(III)I"⟩
abbrev cX7_limited : ByteArray := prog_9_method_7_code
def yX7_limited : MethodName := ⟨RX7, "limited", "(J)I"⟩
def RX8 : String := "GreyRoute$Town"
def TX8 : u_T := fun k => match k with
  | 0 => ("GreyRoute$Town", "statements", "I", false)
  | 1 => ("GreyRoute$Town", "placeCount", "I", false)
  | 2 => ("GreyRoute$Town", "placeNames", "[I", true)
  | 3 => ("GreyRoute$Town", "streetCount", "I", false)
  | 4 => ("GreyRoute$Town", "streetFrom", "[I", true)
  | 5 => ("GreyRoute$Town", "streetTo", "[I", true)
  | 6 => ("GreyRoute$Town", "streetPaces", "[I", true)
  | 7 => ("GreyRoute$Town", "links", "[I", true)
  | 8 => ("GreyRoute$Town", "thingCount", "I", false)
  | 9 => ("GreyRoute$Town", "thingNames", "[I", true)
  | 10 => ("GreyRoute$Town", "thingSpots", "[I", true)
  | 11 => ("GreyRoute$Town", "thingPulls", "[I", true)
  | 12 => ("GreyRoute$Town", "told", "LGreyRoute$Route;", true)
  | 13 => ("GreyRoute$Town", "heat", "I", false)
  | 14 => ("GreyRoute$Town", "hot", "I", false)
  | 15 => ("GreyRoute$Town", "code", "[I", true)
  | 16 => ("GreyRoute$Town", "codeCount", "I", false)
  | 17 => ("GreyRoute$Town", "standsFrom", "I", false)
  | _ => ("GreyRoute$Town", "cleverFrom", "I", false)
def tyX8 : Nat → FieldType := fun k => match k with
  | 0 => .int
  | 1 => .int
  | 2 => .array .int
  | 3 => .int
  | 4 => .array .int
  | 5 => .array .int
  | 6 => .array .int
  | 7 => .array .int
  | 8 => .int
  | 9 => .array .int
  | 10 => .array .int
  | 11 => .array .int
  | 12 => .object "GreyRoute$Route"
  | 13 => .int
  | 14 => .int
  | 15 => .array .int
  | 16 => .int
  | 17 => .int
  | _ => .int
theorem nmX8 : ∀ a, a < 19 → ∀ b, b < 19 → a ≠ b → (TX8 a).2.1 ≠ (TX8 b).2.1 := by decide +kernel
theorem tyX8_ok : ∀ k, k < 19 → parseFieldDescriptor (TX8 k).2.2.1 = some (tyX8 k) := by decide +kernel
abbrev cX8_init : ByteArray := prog_10_method_1_code
def yX8_init : MethodName := ⟨RX8, "<init>", "()V"⟩
abbrev cX8_clear : ByteArray := prog_10_method_2_code
def yX8_clear : MethodName := ⟨RX8, "clear", "()V"⟩
abbrev cX8_hasStands : ByteArray := prog_10_method_3_code
def yX8_hasStands : MethodName := ⟨RX8, "hasStands", "()Z"⟩
abbrev cX8_hasClever : ByteArray := prog_10_method_4_code
def yX8_hasClever : MethodName := ⟨RX8, "hasClever", "()Z"⟩
abbrev cX8_addPlace : ByteArray := prog_10_method_5_code
def yX8_addPlace : MethodName := ⟨RX8, "addPlace", "(I)Z"⟩
abbrev cX8_addStreet : ByteArray := prog_10_method_6_code
def yX8_addStreet : MethodName := ⟨RX8, "addStreet", "(III)Z"⟩
abbrev cX8_addThing : ByteArray := prog_10_method_7_code
def yX8_addThing : MethodName := ⟨RX8, "addThing", "(III)Z"⟩
abbrev cX8_addCode : ByteArray := prog_10_method_8_code
def yX8_addCode : MethodName := ⟨RX8, "addCode", "(II)V"⟩
abbrev cX8_placeNamed : ByteArray := prog_10_method_9_code
def yX8_placeNamed : MethodName := ⟨RX8, "placeNamed", "(I)I"⟩
abbrev cX8_isNamed : ByteArray := prog_10_method_10_code
def yX8_isNamed : MethodName := ⟨RX8, "isNamed", "(I)Z"⟩
abbrev cX8_isSpot : ByteArray := prog_10_method_11_code
def yX8_isSpot : MethodName := ⟨RX8, "isSpot", "(I)Z"⟩
abbrev cX8_streetBetween : ByteArray := prog_10_method_12_code
def yX8_streetBetween : MethodName := ⟨RX8, "streetBetween", "(II)I"⟩
abbrev cX8_pacesBetween : ByteArray := prog_10_method_13_code
def yX8_pacesBetween : MethodName := ⟨RX8, "pacesBetween", "(II)I"⟩
abbrev cX8_canFollow : ByteArray := prog_10_method_14_code
def yX8_canFollow : MethodName := ⟨RX8, "canFollow", "(LGreyRoute$Route;I)Z"⟩
def RX9 : String := "GreyRoute$Ways"
def TX9 : u_T := fun k => match k with
  | 0 => ("GreyRoute$Ways", "direct", "[I", true)
  | _ => ("GreyRoute$Ways", "shortest", "[I", true)
def tyX9 : Nat → FieldType := fun k => match k with
  | 0 => .array .int
  | _ => .array .int
theorem nmX9 : ∀ a, a < 2 → ∀ b, b < 2 → a ≠ b → (TX9 a).2.1 ≠ (TX9 b).2.1 := by decide +kernel
theorem tyX9_ok : ∀ k, k < 2 → parseFieldDescriptor (TX9 k).2.2.1 = some (tyX9 k) := by decide +kernel
abbrev cX9_init : ByteArray := prog_11_method_1_code
def yX9_init : MethodName := ⟨RX9, "<init>", "()V"⟩
abbrev cX9_measure : ByteArray := prog_11_method_2_code
def yX9_measure : MethodName := ⟨RX9, "measure", "(LGreyRoute$Town;I)V"⟩
abbrev cX9_shortenOver : ByteArray := prog_11_method_3_code
def yX9_shortenOver : MethodName := ⟨RX9, "shortenOver", "(II)V"⟩
abbrev cX9_isSpot : ByteArray := prog_11_method_4_code
def yX9_isSpot : MethodName := ⟨RX9, "isSpot", "(I)Z"⟩
abbrev cX9_paces : ByteArray := prog_11_method_5_code
def yX9_paces : MethodName := ⟨RX9, "paces", "(II)I"⟩
abbrev cX9_next : ByteArray := prog_11_method_6_code
def yX9_next : MethodName := ⟨RX9, "next", "(II)I"⟩
abbrev cX9_between : ByteArray := prog_11_method_7_code
def yX9_between : MethodName := ⟨RX9, "between", "(II[I)I"⟩
def RX10 : String := "GreyRoute$Words"
def TX10 : u_T := fun k => match k with
  | 0 => ("GreyRoute$Words", "text", "LGreyRoute$Bytes;", true)
  | 1 => ("GreyRoute$Words", "ownWords", "[I", true)
  | 2 => ("GreyRoute$Words", "at", "I", false)
  | 3 => ("GreyRoute$Words", "kind", "I", false)
  | 4 => ("GreyRoute$Words", "value", "I", false)
  | 5 => ("GreyRoute$Words", "start", "I", false)
  | _ => ("GreyRoute$Words", "spot", "I", false)
def tyX10 : Nat → FieldType := fun k => match k with
  | 0 => .object "GreyRoute$Bytes"
  | 1 => .array .int
  | 2 => .int
  | 3 => .int
  | 4 => .int
  | 5 => .int
  | _ => .int
theorem nmX10 : ∀ a, a < 7 → ∀ b, b < 7 → a ≠ b → (TX10 a).2.1 ≠ (TX10 b).2.1 := by decide +kernel
theorem tyX10_ok : ∀ k, k < 7 → parseFieldDescriptor (TX10 k).2.2.1 = some (tyX10 k) := by decide +kernel
abbrev cX10_init : ByteArray := prog_12_method_1_code
def yX10_init : MethodName := ⟨RX10, "<init>", "(LGreyRoute$Bytes;)V"⟩
abbrev cX10_packOwnWords : ByteArray := prog_12_method_2_code
def yX10_packOwnWords : MethodName := ⟨RX10, "packOwnWords", "()V"⟩
abbrev cX10_filledUp : ByteArray := prog_12_method_3_code
def yX10_filledUp : MethodName := ⟨RX10, "filledUp", "(II)I"⟩
abbrev cX10_letterNumber : ByteArray := prog_12_method_4_code
def yX10_letterNumber : MethodName := ⟨RX10, "letterNumber", "(I)I"⟩
abbrev cX10_letterOf : ByteArray := prog_12_method_5_code
def yX10_letterOf : MethodName := ⟨RX10, "letterOf", "(II)I"⟩
abbrev cX10_isLetter : ByteArray := prog_12_method_6_code
def yX10_isLetter : MethodName := ⟨RX10, "isLetter", "(I)Z"⟩
abbrev cX10_isDigit : ByteArray := prog_12_method_7_code
def yX10_isDigit : MethodName := ⟨RX10, "isDigit", "(I)Z"⟩
abbrev cX10_rewind : ByteArray := prog_12_method_8_code
def yX10_rewind : MethodName := ⟨RX10, "rewind", "()V"⟩
abbrev cX10_advance : ByteArray := prog_12_method_9_code
def yX10_advance : MethodName := ⟨RX10, "advance", "()V"⟩
abbrev cX10_isWordOrNumber : ByteArray := prog_12_method_10_code
def yX10_isWordOrNumber : MethodName := ⟨RX10, "isWordOrNumber", "()Z"⟩
abbrev cX10_takeWord : ByteArray := prog_12_method_11_code
def yX10_takeWord : MethodName := ⟨RX10, "takeWord", "()V"⟩
abbrev cX10_findOwnWord : ByteArray := prog_12_method_12_code
def yX10_findOwnWord : MethodName := ⟨RX10, "findOwnWord", "()V"⟩
abbrev cX10_takeNumber : ByteArray := prog_12_method_13_code
def yX10_takeNumber : MethodName := ⟨RX10, "takeNumber", "()V"⟩
abbrev cX10_isOwn : ByteArray := prog_12_method_14_code
def yX10_isOwn : MethodName := ⟨RX10, "isOwn", "(I)Z"⟩
abbrev cX10_isSign : ByteArray := prog_12_method_15_code
def yX10_isSign : MethodName := ⟨RX10, "isSign", "(I)Z"⟩
def RX11 : String := "GreyRoute"
def TX11 : u_T := fun k => match k with
  | 0 => ("GreyRoute", "tape", "LGreyRoute$Bytes;", true)
  | 1 => ("GreyRoute", "picture", "LGreyRoute$Bytes;", true)
  | 2 => ("GreyRoute", "now", "LGreyRoute$State;", true)
  | 3 => ("GreyRoute", "past", "LGreyRoute$Past;", true)
  | 4 => ("GreyRoute", "rows", "LGreyRoute$Half;", true)
  | 5 => ("GreyRoute", "refused", "[I", true)
  | 6 => ("GreyRoute", "reader", "LGreyRoute$Reader;", true)
  | 7 => ("GreyRoute", "pageant", "LGreyRoute$Pageant;", true)
  | 8 => ("GreyRoute", "theTown", "LGreyRoute$Town;", false)
  | 9 => ("GreyRoute", "spareTown", "LGreyRoute$Town;", false)
  | 10 => ("GreyRoute", "latestFault", "I", false)
  | 11 => ("GreyRoute", "latestFaultAt", "I", false)
  | _ => ("GreyRoute", "chanceSeed", "I", false)
def tyX11 : Nat → FieldType := fun k => match k with
  | 0 => .object "GreyRoute$Bytes"
  | 1 => .object "GreyRoute$Bytes"
  | 2 => .object "GreyRoute$State"
  | 3 => .object "GreyRoute$Past"
  | 4 => .object "GreyRoute$Half"
  | 5 => .array .int
  | 6 => .object "GreyRoute$Reader"
  | 7 => .object "GreyRoute$Pageant"
  | 8 => .object "GreyRoute$Town"
  | 9 => .object "GreyRoute$Town"
  | 10 => .int
  | 11 => .int
  | _ => .int
theorem nmX11 : ∀ a, a < 13 → ∀ b, b < 13 → a ≠ b → (TX11 a).2.1 ≠ (TX11 b).2.1 := by decide +kernel
theorem tyX11_ok : ∀ k, k < 13 → parseFieldDescriptor (TX11 k).2.2.1 = some (tyX11 k) := by decide +kernel
abbrev cX11_init : ByteArray := prog_1_method_1_code
def yX11_init : MethodName := ⟨RX11, "<init>", "()V"⟩
abbrev cX11_feed : ByteArray := prog_1_method_2_code
def yX11_feed : MethodName := ⟨RX11, "feed", "(IIIII)I"⟩
abbrev cX11_end : ByteArray := prog_1_method_3_code
def yX11_end : MethodName := ⟨RX11, "end", "(I)Z"⟩
abbrev cX11_town : ByteArray := prog_1_method_4_code
def yX11_town : MethodName := ⟨RX11, "town", "()I"⟩
abbrev cX11_fault : ByteArray := prog_1_method_5_code
def yX11_fault : MethodName := ⟨RX11, "fault", "(I)I"⟩
abbrev cX11_has : ByteArray := prog_1_method_6_code
def yX11_has : MethodName := ⟨RX11, "has", "(I)I"⟩
abbrev cX11_letter : ByteArray := prog_1_method_7_code
def yX11_letter : MethodName := ⟨RX11, "letter", "(III)I"⟩
abbrev cX11_street : ByteArray := prog_1_method_8_code
def yX11_street : MethodName := ⟨RX11, "street", "(II)I"⟩
abbrev cX11_way : ByteArray := prog_1_method_9_code
def yX11_way : MethodName := ⟨RX11, "way", "(II)I"⟩
abbrev cX11_thing : ByteArray := prog_1_method_10_code
def yX11_thing : MethodName := ⟨RX11, "thing", "(II)I"⟩
abbrev cX11_step : ByteArray := prog_1_method_11_code
def yX11_step : MethodName := ⟨RX11, "step", "(II)I"⟩
abbrev cX11_year : ByteArray := prog_1_method_12_code
def yX11_year : MethodName := ⟨RX11, "year", "(I)I"⟩
abbrev cX11_goes : ByteArray := prog_1_method_13_code
def yX11_goes : MethodName := ⟨RX11, "goes", "(II)I"⟩
abbrev cX11_wall : ByteArray := prog_1_method_14_code
def yX11_wall : MethodName := ⟨RX11, "wall", "()I"⟩
abbrev cX11_away : ByteArray := prog_1_method_15_code
def yX11_away : MethodName := ⟨RX11, "away", "(I)I"⟩
abbrev cX11_by : ByteArray := prog_1_method_16_code
def yX11_by : MethodName := ⟨RX11, "by", "(I)I"⟩
abbrev cX11_seats : ByteArray := prog_1_method_17_code
def yX11_seats : MethodName := ⟨RX11, "seats", "(I)I"⟩
abbrev cX11_later : ByteArray := prog_1_method_18_code
def yX11_later : MethodName := ⟨RX11, "later", "(II)I"⟩
abbrev cX11_missed : ByteArray := prog_1_method_19_code
def yX11_missed : MethodName := ⟨RX11, "missed", "(I)I"⟩
abbrev cX11_held : ByteArray := prog_1_method_20_code
def yX11_held : MethodName := ⟨RX11, "held", "()I"⟩
abbrev cX11_half : ByteArray := prog_1_method_21_code
def yX11_half : MethodName := ⟨RX11, "half", "()I"⟩
abbrev cX11_filled : ByteArray := prog_1_method_22_code
def yX11_filled : MethodName := ⟨RX11, "filled", "(I)I"⟩
abbrev cX11_filling : ByteArray := prog_1_method_23_code
def yX11_filling : MethodName := ⟨RX11, "filling", "(II)I"⟩
abbrev cX11_asked : ByteArray := prog_1_method_24_code
def yX11_asked : MethodName := ⟨RX11, "asked", "(II)I"⟩
abbrev cX11_years : ByteArray := prog_1_method_25_code
def yX11_years : MethodName := ⟨RX11, "years", "(I)I"⟩
abbrev cX11_chance : ByteArray := prog_1_method_26_code
def yX11_chance : MethodName := ⟨RX11, "chance", "(I)I"⟩
abbrev cX11_shut : ByteArray := prog_1_method_27_code
def yX11_shut : MethodName := ⟨RX11, "shut", "(II)Z"⟩
abbrev cX11_move : ByteArray := prog_1_method_28_code
def yX11_move : MethodName := ⟨RX11, "move", "(II)Z"⟩
abbrev cX11_teach : ByteArray := prog_1_method_29_code
def yX11_teach : MethodName := ⟨RX11, "teach", "(II)Z"⟩
abbrev cX11_forget : ByteArray := prog_1_method_30_code
def yX11_forget : MethodName := ⟨RX11, "forget", "()Z"⟩
abbrev cX11_undo : ByteArray := prog_1_method_31_code
def yX11_undo : MethodName := ⟨RX11, "undo", "()Z"⟩
abbrev cX11_seed : ByteArray := prog_1_method_32_code
def yX11_seed : MethodName := ⟨RX11, "seed", "(I)Z"⟩
abbrev cX11_kept : ByteArray := prog_1_method_33_code
def yX11_kept : MethodName := ⟨RX11, "kept", "(II)I"⟩
abbrev cX11_image : ByteArray := prog_1_method_34_code
def yX11_image : MethodName := ⟨RX11, "image", "()I"⟩
abbrev cX11_octet : ByteArray := prog_1_method_35_code
def yX11_octet : MethodName := ⟨RX11, "octet", "(I)I"⟩
abbrev cX11_on : ByteArray := prog_1_method_36_code
def yX11_on : MethodName := ⟨RX11, "on", "()Z"⟩
abbrev cX11_status : ByteArray := prog_1_method_37_code
def yX11_status : MethodName := ⟨RX11, "status", "(I)I"⟩
abbrev cX11_refuse : ByteArray := prog_1_method_38_code
def yX11_refuse : MethodName := ⟨RX11, "refuse", "(I)I"⟩
abbrev cX11_deny : ByteArray := prog_1_method_39_code
def yX11_deny : MethodName := ⟨RX11, "deny", "(I)Z"⟩
abbrev cX11_isPlace : ByteArray := prog_1_method_40_code
def yX11_isPlace : MethodName := ⟨RX11, "isPlace", "(I)Z"⟩
abbrev cX11_isStreet : ByteArray := prog_1_method_41_code
def yX11_isStreet : MethodName := ⟨RX11, "isStreet", "(I)Z"⟩
abbrev cX11_isThing : ByteArray := prog_1_method_42_code
def yX11_isThing : MethodName := ⟨RX11, "isThing", "(I)Z"⟩
abbrev cX11_toldAsKept : ByteArray := prog_1_method_43_code
def yX11_toldAsKept : MethodName := ⟨RX11, "toldAsKept", "()I"⟩
abbrev cX11_canPass : ByteArray := prog_1_method_44_code
def yX11_canPass : MethodName := ⟨RX11, "canPass", "(I)Z"⟩
abbrev cX11_goThisYear : ByteArray := prog_1_method_45_code
def yX11_goThisYear : MethodName := ⟨RX11, "goThisYear", "()V"⟩
abbrev cX11_passOneYear : ByteArray := prog_1_method_46_code
def yX11_passOneYear : MethodName := ⟨RX11, "passOneYear", "(I)V"⟩
abbrev cX11_draw : ByteArray := prog_1_method_47_code
def yX11_draw : MethodName := ⟨RX11, "draw", "(I)I"⟩
def RX12 : String := "GreyRouteModel"
def TX12 : u_T := fun k => match k with
  | 0 => ("GreyRouteModel", "tape", "[I", true)
  | 1 => ("GreyRouteModel", "taped", "I", false)
  | 2 => ("GreyRouteModel", "size", "I", false)
  | 3 => ("GreyRouteModel", "sign", "I", false)
  | 4 => ("GreyRouteModel", "signAt", "I", false)
  | 5 => ("GreyRouteModel", "signEnd", "I", false)
  | 6 => ("GreyRouteModel", "value", "I", false)
  | 7 => ("GreyRouteModel", "word", "J", false)
  | 8 => ("GreyRouteModel", "faultKind", "I", false)
  | 9 => ("GreyRouteModel", "faultPlace", "I", false)
  | 10 => ("GreyRouteModel", "toldKind", "I", false)
  | 11 => ("GreyRouteModel", "toldPlace", "I", false)
  | 12 => ("GreyRouteModel", "lexAt", "I", false)
  | 13 => ("GreyRouteModel", "bank", "I", false)
  | 14 => ("GreyRouteModel", "places", "[I", true)
  | 15 => ("GreyRouteModel", "streets", "[I", true)
  | 16 => ("GreyRouteModel", "fromOf", "[I", true)
  | 17 => ("GreyRouteModel", "toOf", "[I", true)
  | 18 => ("GreyRouteModel", "pacesOf", "[I", true)
  | 19 => ("GreyRouteModel", "streetAt", "[I", true)
  | 20 => ("GreyRouteModel", "steps", "[I", true)
  | 21 => ("GreyRouteModel", "stepTold", "[I", true)
  | 22 => ("GreyRouteModel", "minutesTold", "[I", true)
  | 23 => ("GreyRouteModel", "things", "[I", true)
  | 24 => ("GreyRouteModel", "thingTold", "[I", true)
  | 25 => ("GreyRouteModel", "pullOf", "[I", true)
  | 26 => ("GreyRouteModel", "heatTold", "[I", true)
  | 27 => ("GreyRouteModel", "hotTold", "[I", true)
  | 28 => ("GreyRouteModel", "sumFrom", "[I", true)
  | 29 => ("GreyRouteModel", "sumBehind", "[I", true)
  | 30 => ("GreyRouteModel", "codeSort", "[I", true)
  | 31 => ("GreyRouteModel", "codeValue", "[I", true)
  | 32 => ("GreyRouteModel", "placeName", "[J", true)
  | 33 => ("GreyRouteModel", "thingName", "[J", true)
  | 34 => ("GreyRouteModel", "codes", "I", false)
  | 35 => ("GreyRouteModel", "in", "I", false)
  | 36 => ("GreyRouteModel", "isClever", "Z", false)
  | 37 => ("GreyRouteModel", "frame", "[I", true)
  | 38 => ("GreyRouteModel", "phase", "[I", true)
  | 39 => ("GreyRouteModel", "begins", "[Z", true)
  | 40 => ("GreyRouteModel", "pair", "[I", true)
  | 41 => ("GreyRouteModel", "base", "[I", true)
  | 42 => ("GreyRouteModel", "deep", "I", false)
  | 43 => ("GreyRouteModel", "open", "I", false)
  | 44 => ("GreyRouteModel", "ops", "[I", true)
  | 45 => ("GreyRouteModel", "opMany", "I", false)
  | 46 => ("GreyRouteModel", "operand", "Z", false)
  | 47 => ("GreyRouteModel", "refused", "[I", true)
  | 48 => ("GreyRouteModel", "yearOf", "[I", true)
  | 49 => ("GreyRouteModel", "shutOf", "[I", true)
  | 50 => ("GreyRouteModel", "thingAt", "[I", true)
  | 51 => ("GreyRouteModel", "stepMany", "[I", true)
  | 52 => ("GreyRouteModel", "stepPlace", "[I", true)
  | 53 => ("GreyRouteModel", "stepMinutes", "[I", true)
  | 54 => ("GreyRouteModel", "keptMany", "[I", true)
  | 55 => ("GreyRouteModel", "keptRow", "[I", true)
  | 56 => ("GreyRouteModel", "undoFirst", "I", false)
  | 57 => ("GreyRouteModel", "undos", "I", false)
  | 58 => ("GreyRouteModel", "seeds", "J", false)
  | 59 => ("GreyRouteModel", "stack", "[J", true)
  | 60 => ("GreyRouteModel", "askedOf", "[I", true)
  | 61 => ("GreyRouteModel", "distance", "[I", true)
  | 62 => ("GreyRouteModel", "goMany", "I", false)
  | 63 => ("GreyRouteModel", "goPlace", "[I", true)
  | 64 => ("GreyRouteModel", "goTold", "[I", true)
  | 65 => ("GreyRouteModel", "goStands", "[I", true)
  | 66 => ("GreyRouteModel", "goTime", "[I", true)
  | 67 => ("GreyRouteModel", "time", "I", false)
  | 68 => ("GreyRouteModel", "wasMany", "I", false)
  | 69 => ("GreyRouteModel", "wasPlace", "[I", true)
  | 70 => ("GreyRouteModel", "wasMinutes", "[I", true)
  | 71 => ("GreyRouteModel", "rows", "I", false)
  | 72 => ("GreyRouteModel", "rowNumber", "[I", true)
  | 73 => ("GreyRouteModel", "rowPlace", "[I", true)
  | 74 => ("GreyRouteModel", "onFrom", "[J", true)
  | 75 => ("GreyRouteModel", "upTo", "[J", true)
  | 76 => ("GreyRouteModel", "out", "[I", true)
  | _ => ("GreyRouteModel", "outs", "I", false)
def tyX12 : Nat → FieldType := fun k => match k with
  | 0 => .array .int
  | 1 => .int
  | 2 => .int
  | 3 => .int
  | 4 => .int
  | 5 => .int
  | 6 => .int
  | 7 => .long
  | 8 => .int
  | 9 => .int
  | 10 => .int
  | 11 => .int
  | 12 => .int
  | 13 => .int
  | 14 => .array .int
  | 15 => .array .int
  | 16 => .array .int
  | 17 => .array .int
  | 18 => .array .int
  | 19 => .array .int
  | 20 => .array .int
  | 21 => .array .int
  | 22 => .array .int
  | 23 => .array .int
  | 24 => .array .int
  | 25 => .array .int
  | 26 => .array .int
  | 27 => .array .int
  | 28 => .array .int
  | 29 => .array .int
  | 30 => .array .int
  | 31 => .array .int
  | 32 => .array .long
  | 33 => .array .long
  | 34 => .int
  | 35 => .int
  | 36 => .boolean
  | 37 => .array .int
  | 38 => .array .int
  | 39 => .array .boolean
  | 40 => .array .int
  | 41 => .array .int
  | 42 => .int
  | 43 => .int
  | 44 => .array .int
  | 45 => .int
  | 46 => .boolean
  | 47 => .array .int
  | 48 => .array .int
  | 49 => .array .int
  | 50 => .array .int
  | 51 => .array .int
  | 52 => .array .int
  | 53 => .array .int
  | 54 => .array .int
  | 55 => .array .int
  | 56 => .int
  | 57 => .int
  | 58 => .long
  | 59 => .array .long
  | 60 => .array .int
  | 61 => .array .int
  | 62 => .int
  | 63 => .array .int
  | 64 => .array .int
  | 65 => .array .int
  | 66 => .array .int
  | 67 => .int
  | 68 => .int
  | 69 => .array .int
  | 70 => .array .int
  | 71 => .int
  | 72 => .array .int
  | 73 => .array .int
  | 74 => .array .long
  | 75 => .array .long
  | 76 => .array .int
  | _ => .int
theorem nmX12 : ∀ a, a < 78 → ∀ b, b < 78 → a ≠ b → (TX12 a).2.1 ≠ (TX12 b).2.1 := by decide +kernel
theorem tyX12_ok : ∀ k, k < 78 → parseFieldDescriptor (TX12 k).2.2.1 = some (tyX12 k) := by decide +kernel
abbrev cX12_init : ByteArray := prog_14_method_1_code
def yX12_init : MethodName := ⟨RX12, "<init>", "()V"⟩
abbrev cX12_is : ByteArray := prog_14_method_2_code
def yX12_is : MethodName := ⟨RX12, "is", "(III)Z"⟩
abbrev cX12_put : ByteArray := prog_14_method_3_code
def yX12_put : MethodName := ⟨RX12, "put", "(I)V"⟩
abbrev cX12_feed : ByteArray := prog_14_method_4_code
def yX12_feed : MethodName := ⟨RX12, "feed", "(IIIII)I"⟩
abbrev cX12_end : ByteArray := prog_14_method_5_code
def yX12_end : MethodName := ⟨RX12, "end", "(I)Z"⟩
abbrev cX12_blame : ByteArray := prog_14_method_6_code
def yX12_blame : MethodName := ⟨RX12, "blame", "(II)V"⟩
abbrev cX12_isLetter : ByteArray := prog_14_method_7_code
def yX12_isLetter : MethodName := ⟨RX12, "isLetter", "(I)Z"⟩
abbrev cX12_isDigit : ByteArray := prog_14_method_8_code
def yX12_isDigit : MethodName := ⟨RX12, "isDigit", "(I)Z"⟩
abbrev cX12_lex : ByteArray := prog_14_method_9_code
def yX12_lex : MethodName := ⟨RX12, "lex", "()V"⟩
abbrev cX12_ahead : ByteArray := prog_14_method_10_code
def yX12_ahead : MethodName := ⟨RX12, "ahead", "()V"⟩
abbrev cX12_isSign : ByteArray := prog_14_method_11_code
def yX12_isSign : MethodName := ⟨RX12, "isSign", "(I)Z"⟩
abbrev cX12_isWord : ByteArray := prog_14_method_12_code
def yX12_isWord : MethodName := ⟨RX12, "isWord", "(J)Z"⟩
abbrev cX12_must : ByteArray := prog_14_method_13_code
def yX12_must : MethodName := ⟨RX12, "must", "(I)V"⟩
abbrev cX12_isOwn : ByteArray := prog_14_method_14_code
def yX12_isOwn : MethodName := ⟨RX12, "isOwn", "(J)Z"⟩
abbrev cX12_manyOf : ByteArray := prog_14_method_15_code
def yX12_manyOf : MethodName := ⟨RX12, "manyOf", "(II)I"⟩
abbrev cX12_nameOf : ByteArray := prog_14_method_16_code
def yX12_nameOf : MethodName := ⟨RX12, "nameOf", "(III)J"⟩
abbrev cX12_named : ByteArray := prog_14_method_17_code
def yX12_named : MethodName := ⟨RX12, "named", "(IJ)I"⟩
abbrev cX12_number : ByteArray := prog_14_method_18_code
def yX12_number : MethodName := ⟨RX12, "number", "(II)I"⟩
abbrev cX12_add : ByteArray := prog_14_method_19_code
def yX12_add : MethodName := ⟨RX12, "add", "(II)V"⟩
abbrev cX12_rank : ByteArray := prog_14_method_20_code
def yX12_rank : MethodName := ⟨RX12, "rank", "(I)I"⟩
abbrev cX12_joins : ByteArray := prog_14_method_21_code
def yX12_joins : MethodName := ⟨RX12, "joins", "(I)V"⟩
abbrev cX12_holdsBack : ByteArray := prog_14_method_22_code
def yX12_holdsBack : MethodName := ⟨RX12, "holdsBack", "(I)V"⟩
abbrev cX12_pushes : ByteArray := prog_14_method_23_code
def yX12_pushes : MethodName := ⟨RX12, "pushes", "(I)V"⟩
abbrev cX12_opens : ByteArray := prog_14_method_24_code
def yX12_opens : MethodName := ⟨RX12, "opens", "(I)V"⟩
abbrev cX12_isTest : ByteArray := prog_14_method_25_code
def yX12_isTest : MethodName := ⟨RX12, "isTest", "(I)Z"⟩
abbrev cX12_operand : ByteArray := prog_14_method_26_code
def yX12_operand : MethodName := ⟨RX12, "operand", "()Z"⟩
abbrev cX12_goesOn : ByteArray := prog_14_method_27_code
def yX12_goesOn : MethodName := ⟨RX12, "goesOn", "()Z"⟩
abbrev cX12_reads : ByteArray := prog_14_method_28_code
def yX12_reads : MethodName := ⟨RX12, "reads", "(Z)V"⟩
abbrev cX12_counts : ByteArray := prog_14_method_29_code
def yX12_counts : MethodName := ⟨RX12, "counts", "(Z)Z"⟩
abbrev cX12_must_ : ByteArray := prog_14_method_30_code
def yX12_must_ : MethodName := ⟨RX12, "must", "(J)V"⟩
abbrev cX12_has2 : ByteArray := prog_14_method_31_code
def yX12_has2 : MethodName := ⟨RX12, "has2", "(II)Z"⟩
abbrev cX12_fresh : ByteArray := prog_14_method_32_code
def yX12_fresh : MethodName := ⟨RX12, "fresh", "()J"⟩
abbrev cX12_knownBut : ByteArray := prog_14_method_33_code
def yX12_knownBut : MethodName := ⟨RX12, "knownBut", "(I)I"⟩
abbrev cX12_between : ByteArray := prog_14_method_34_code
def yX12_between : MethodName := ⟨RX12, "between", "(III)I"⟩
abbrev cX12_placing : ByteArray := prog_14_method_35_code
def yX12_placing : MethodName := ⟨RX12, "placing", "()V"⟩
abbrev cX12_streeting : ByteArray := prog_14_method_36_code
def yX12_streeting : MethodName := ⟨RX12, "streeting", "()V"⟩
abbrev cX12_stepping : ByteArray := prog_14_method_37_code
def yX12_stepping : MethodName := ⟨RX12, "stepping", "()V"⟩
abbrev cX12_thinging : ByteArray := prog_14_method_38_code
def yX12_thinging : MethodName := ⟨RX12, "thinging", "()V"⟩
abbrev cX12_reading : ByteArray := prog_14_method_39_code
def yX12_reading : MethodName := ⟨RX12, "reading", "(I)V"⟩
abbrev cX12_heating : ByteArray := prog_14_method_40_code
def yX12_heating : MethodName := ⟨RX12, "heating", "(Z)V"⟩
abbrev cX12_statement : ByteArray := prog_14_method_41_code
def yX12_statement : MethodName := ⟨RX12, "statement", "()V"⟩
abbrev cX12_finishes : ByteArray := prog_14_method_42_code
def yX12_finishes : MethodName := ⟨RX12, "finishes", "(I)V"⟩
abbrev cX12_town : ByteArray := prog_14_method_43_code
def yX12_town : MethodName := ⟨RX12, "town", "()I"⟩
abbrev cX12_fault : ByteArray := prog_14_method_44_code
def yX12_fault : MethodName := ⟨RX12, "fault", "(I)I"⟩
abbrev cX12_refuses : ByteArray := prog_14_method_45_code
def yX12_refuses : MethodName := ⟨RX12, "refuses", "(I)I"⟩
abbrev cX12_status : ByteArray := prog_14_method_46_code
def yX12_status : MethodName := ⟨RX12, "status", "(I)I"⟩
abbrev cX12_copies : ByteArray := prog_14_method_47_code
def yX12_copies : MethodName := ⟨RX12, "copies", "(II)V"⟩
abbrev cX12_begin : ByteArray := prog_14_method_48_code
def yX12_begin : MethodName := ⟨RX12, "begin", "()V"⟩
abbrev cX12_slot : ByteArray := prog_14_method_49_code
def yX12_slot : MethodName := ⟨RX12, "slot", "(I)I"⟩
abbrev cX12_keeps : ByteArray := prog_14_method_50_code
def yX12_keeps : MethodName := ⟨RX12, "keeps", "()V"⟩
abbrev cX12_undo : ByteArray := prog_14_method_51_code
def yX12_undo : MethodName := ⟨RX12, "undo", "()Z"⟩
abbrev cX12_within : ByteArray := prog_14_method_52_code
def yX12_within : MethodName := ⟨RX12, "within", "(J)J"⟩
abbrev cX12_floor : ByteArray := prog_14_method_53_code
def yX12_floor : MethodName := ⟨RX12, "floor", "(JJ)J"⟩
abbrev cX12_two : ByteArray := prog_14_method_54_code
def yX12_two : MethodName := ⟨RX12, "two", "(IJJ)J"⟩
abbrev cX12_reckons : ByteArray := prog_14_method_55_code
def yX12_reckons : MethodName := ⟨RX12, "reckons", "(I)J"⟩
abbrev cX12_isTold : ByteArray := prog_14_method_56_code
def yX12_isTold : MethodName := ⟨RX12, "isTold", "(I)Z"⟩
abbrev cX12_measures : ByteArray := prog_14_method_57_code
def yX12_measures : MethodName := ⟨RX12, "measures", "(I)V"⟩
abbrev cX12_onward : ByteArray := prog_14_method_58_code
def yX12_onward : MethodName := ⟨RX12, "onward", "(III)I"⟩
abbrev cX12_appends : ByteArray := prog_14_method_59_code
def yX12_appends : MethodName := ⟨RX12, "appends", "(II)V"⟩
abbrev cX12_walks : ByteArray := prog_14_method_60_code
def yX12_walks : MethodName := ⟨RX12, "walks", "(II)V"⟩
abbrev cX12_pulls : ByteArray := prog_14_method_61_code
def yX12_pulls : MethodName := ⟨RX12, "pulls", "(III)I"⟩
abbrev cX12_stands : ByteArray := prog_14_method_62_code
def yX12_stands : MethodName := ⟨RX12, "stands", "(IIII)I"⟩
abbrev cX12_runs : ByteArray := prog_14_method_63_code
def yX12_runs : MethodName := ⟨RX12, "runs", "(IIII)V"⟩
abbrev cX12_pairs : ByteArray := prog_14_method_64_code
def yX12_pairs : MethodName := ⟨RX12, "pairs", "()I"⟩
abbrev cX12_isClever : ByteArray := prog_14_method_65_code
def yX12_isClever : MethodName := ⟨RX12, "isClever", "(II)Z"⟩
abbrev cX12_leavesOut : ByteArray := prog_14_method_66_code
def yX12_leavesOut : MethodName := ⟨RX12, "leavesOut", "()V"⟩
abbrev cX12_writesDown : ByteArray := prog_14_method_67_code
def yX12_writesDown : MethodName := ⟨RX12, "writesDown", "(I)V"⟩
abbrev cX12_passes : ByteArray := prog_14_method_68_code
def yX12_passes : MethodName := ⟨RX12, "passes", "(II)V"⟩
abbrev cX12_heatNow : ByteArray := prog_14_method_69_code
def yX12_heatNow : MethodName := ⟨RX12, "heatNow", "()I"⟩
abbrev cX12_isPlace : ByteArray := prog_14_method_70_code
def yX12_isPlace : MethodName := ⟨RX12, "isPlace", "(I)Z"⟩
abbrev cX12_bits : ByteArray := prog_14_method_71_code
def yX12_bits : MethodName := ⟨RX12, "bits", "(I)I"⟩
abbrev cX12_has : ByteArray := prog_14_method_72_code
def yX12_has : MethodName := ⟨RX12, "has", "(I)I"⟩
abbrev cX12_letter : ByteArray := prog_14_method_73_code
def yX12_letter : MethodName := ⟨RX12, "letter", "(III)I"⟩
abbrev cX12_street : ByteArray := prog_14_method_74_code
def yX12_street : MethodName := ⟨RX12, "street", "(II)I"⟩
abbrev cX12_way : ByteArray := prog_14_method_75_code
def yX12_way : MethodName := ⟨RX12, "way", "(II)I"⟩
abbrev cX12_thing : ByteArray := prog_14_method_76_code
def yX12_thing : MethodName := ⟨RX12, "thing", "(II)I"⟩
abbrev cX12_step : ByteArray := prog_14_method_77_code
def yX12_step : MethodName := ⟨RX12, "step", "(II)I"⟩
abbrev cX12_year : ByteArray := prog_14_method_78_code
def yX12_year : MethodName := ⟨RX12, "year", "(I)I"⟩
abbrev cX12_goes : ByteArray := prog_14_method_79_code
def yX12_goes : MethodName := ⟨RX12, "goes", "(II)I"⟩
abbrev cX12_longest : ByteArray := prog_14_method_80_code
def yX12_longest : MethodName := ⟨RX12, "longest", "()I"⟩
abbrev cX12_wall : ByteArray := prog_14_method_81_code
def yX12_wall : MethodName := ⟨RX12, "wall", "()I"⟩
abbrev cX12_away : ByteArray := prog_14_method_82_code
def yX12_away : MethodName := ⟨RX12, "away", "(I)I"⟩
abbrev cX12_comesBy : ByteArray := prog_14_method_83_code
def yX12_comesBy : MethodName := ⟨RX12, "comesBy", "(I)Z"⟩
abbrev cX12_by : ByteArray := prog_14_method_84_code
def yX12_by : MethodName := ⟨RX12, "by", "(I)I"⟩
abbrev cX12_seats : ByteArray := prog_14_method_85_code
def yX12_seats : MethodName := ⟨RX12, "seats", "(I)I"⟩
abbrev cX12_isAhead : ByteArray := prog_14_method_86_code
def yX12_isAhead : MethodName := ⟨RX12, "isAhead", "(III)Z"⟩
abbrev cX12_later : ByteArray := prog_14_method_87_code
def yX12_later : MethodName := ⟨RX12, "later", "(II)I"⟩
abbrev cX12_missed : ByteArray := prog_14_method_88_code
def yX12_missed : MethodName := ⟨RX12, "missed", "(I)I"⟩
abbrev cX12_isAsWas : ByteArray := prog_14_method_89_code
def yX12_isAsWas : MethodName := ⟨RX12, "isAsWas", "()Z"⟩
abbrev cX12_held : ByteArray := prog_14_method_90_code
def yX12_held : MethodName := ⟨RX12, "held", "()I"⟩
abbrev cX12_half : ByteArray := prog_14_method_91_code
def yX12_half : MethodName := ⟨RX12, "half", "()I"⟩
abbrev cX12_canBe : ByteArray := prog_14_method_92_code
def yX12_canBe : MethodName := ⟨RX12, "canBe", "(II)Z"⟩
abbrev cX12_fills : ByteArray := prog_14_method_93_code
def yX12_fills : MethodName := ⟨RX12, "fills", "(I)J"⟩
abbrev cX12_cut : ByteArray := prog_14_method_94_code
def yX12_cut : MethodName := ⟨RX12, "cut", "(J)I"⟩
abbrev cX12_filled : ByteArray := prog_14_method_95_code
def yX12_filled : MethodName := ⟨RX12, "filled", "(I)I"⟩
abbrev cX12_filling : ByteArray := prog_14_method_96_code
def yX12_filling : MethodName := ⟨RX12, "filling", "(II)I"⟩
abbrev cX12_asked : ByteArray := prog_14_method_97_code
def yX12_asked : MethodName := ⟨RX12, "asked", "(II)I"⟩
abbrev cX12_years : ByteArray := prog_14_method_98_code
def yX12_years : MethodName := ⟨RX12, "years", "(I)I"⟩
abbrev cX12_draw : ByteArray := prog_14_method_99_code
def yX12_draw : MethodName := ⟨RX12, "draw", "(I)I"⟩
abbrev cX12_chance : ByteArray := prog_14_method_100_code
def yX12_chance : MethodName := ⟨RX12, "chance", "(I)I"⟩
abbrev cX12_shut : ByteArray := prog_14_method_101_code
def yX12_shut : MethodName := ⟨RX12, "shut", "(II)Z"⟩
abbrev cX12_move : ByteArray := prog_14_method_102_code
def yX12_move : MethodName := ⟨RX12, "move", "(II)Z"⟩
abbrev cX12_teach : ByteArray := prog_14_method_103_code
def yX12_teach : MethodName := ⟨RX12, "teach", "(II)Z"⟩
abbrev cX12_forget : ByteArray := prog_14_method_104_code
def yX12_forget : MethodName := ⟨RX12, "forget", "()Z"⟩
abbrev cX12_seed : ByteArray := prog_14_method_105_code
def yX12_seed : MethodName := ⟨RX12, "seed", "(I)Z"⟩
abbrev cX12_kept : ByteArray := prog_14_method_106_code
def yX12_kept : MethodName := ⟨RX12, "kept", "(II)I"⟩
abbrev cX12_writes : ByteArray := prog_14_method_107_code
def yX12_writes : MethodName := ⟨RX12, "writes", "(I)V"⟩
abbrev cX12_image : ByteArray := prog_14_method_108_code
def yX12_image : MethodName := ⟨RX12, "image", "()I"⟩
abbrev cX12_octet : ByteArray := prog_14_method_109_code
def yX12_octet : MethodName := ⟨RX12, "octet", "(I)I"⟩
abbrev cX12_stepOn : ByteArray := prog_14_method_110_code
def yX12_stepOn : MethodName := ⟨RX12, "stepOn", "(II)Z"⟩
abbrev cX12_comesOn : ByteArray := prog_14_method_111_code
def yX12_comesOn : MethodName := ⟨RX12, "comesOn", "(I)Z"⟩
abbrev cX12_on : ByteArray := prog_14_method_112_code
def yX12_on : MethodName := ⟨RX12, "on", "()Z"⟩
def RJx145de : String := "java/io/Serializable"
def TJx145de : u_T := fun k => match k with
  | _ => ("", "", "", false)
def tyJx145de : Nat → FieldType := fun k => match k with
  | _ => .int
theorem nmJx145de : ∀ a, a < 0 → ∀ b, b < 0 → a ≠ b → (TJx145de a).2.1 ≠ (TJx145de b).2.1 := by decide +kernel
theorem tyJx145de_ok : ∀ k, k < 0 → parseFieldDescriptor (TJx145de k).2.2.1 = some (tyJx145de k) := by decide +kernel
def RJx9f9b0 : String := "java/lang/CharSequence"
def TJx9f9b0 : u_T := fun k => match k with
  | _ => ("", "", "", false)
def tyJx9f9b0 : Nat → FieldType := fun k => match k with
  | _ => .int
theorem nmJx9f9b0 : ∀ a, a < 0 → ∀ b, b < 0 → a ≠ b → (TJx9f9b0 a).2.1 ≠ (TJx9f9b0 b).2.1 := by decide +kernel
theorem tyJx9f9b0_ok : ∀ k, k < 0 → parseFieldDescriptor (TJx9f9b0 k).2.2.1 = some (tyJx9f9b0 k) := by decide +kernel
def RJxb160c : String := "java/lang/Comparable"
def TJxb160c : u_T := fun k => match k with
  | _ => ("", "", "", false)
def tyJxb160c : Nat → FieldType := fun k => match k with
  | _ => .int
theorem nmJxb160c : ∀ a, a < 0 → ∀ b, b < 0 → a ≠ b → (TJxb160c a).2.1 ≠ (TJxb160c b).2.1 := by decide +kernel
theorem tyJxb160c_ok : ∀ k, k < 0 → parseFieldDescriptor (TJxb160c k).2.2.1 = some (tyJxb160c k) := by decide +kernel
def RJ6 : String := "java/lang/Integer"
def TJ6 : u_T := fun k => match k with
  | _ => ("", "", "", false)
def tyJ6 : Nat → FieldType := fun k => match k with
  | _ => .int
theorem nmJ6 : ∀ a, a < 0 → ∀ b, b < 0 → a ≠ b → (TJ6 a).2.1 ≠ (TJ6 b).2.1 := by decide +kernel
theorem tyJ6_ok : ∀ k, k < 0 → parseFieldDescriptor (TJ6 k).2.2.1 = some (tyJ6 k) := by decide +kernel
abbrev cJ6_bitCount_0f7a4 : ByteArray := prog_15_method_49_code
def yJ6_bitCount_0f7a4 : MethodName := ⟨RJ6, "bitCount", "(I)I"⟩
def RJ9 : String := "java/lang/Math"
def TJ9 : u_T := fun k => match k with
  | _ => ("", "", "", false)
def tyJ9 : Nat → FieldType := fun k => match k with
  | _ => .int
theorem nmJ9 : ∀ a, a < 0 → ∀ b, b < 0 → a ≠ b → (TJ9 a).2.1 ≠ (TJ9 b).2.1 := by decide +kernel
theorem tyJ9_ok : ∀ k, k < 0 → parseFieldDescriptor (TJ9 k).2.2.1 = some (tyJ9 k) := by decide +kernel
abbrev cJ9_floorDiv_7cf53 : ByteArray := prog_16_method_47_code
def yJ9_floorDiv_7cf53 : MethodName := ⟨RJ9, "floorDiv", "(II)I"⟩
abbrev cJ9_floorMod_7cf53 : ByteArray := prog_16_method_50_code
def yJ9_floorMod_7cf53 : MethodName := ⟨RJ9, "floorMod", "(II)I"⟩
abbrev cJ9_max_7cf53 : ByteArray := prog_16_method_65_code
def yJ9_max_7cf53 : MethodName := ⟨RJ9, "max", "(II)I"⟩
abbrev cJ9_max_f86c9 : ByteArray := prog_16_method_66_code
def yJ9_max_f86c9 : MethodName := ⟨RJ9, "max", "(JJ)J"⟩
abbrev cJ9_min_7cf53 : ByteArray := prog_16_method_69_code
def yJ9_min_7cf53 : MethodName := ⟨RJ9, "min", "(II)I"⟩
abbrev cJ9_min_f86c9 : ByteArray := prog_16_method_70_code
def yJ9_min_f86c9 : MethodName := ⟨RJ9, "min", "(JJ)J"⟩
def RJ0 : String := "java/lang/String"
def TJ0 : u_T := fun k => match k with
  | _ => ("", "", "", false)
def tyJ0 : Nat → FieldType := fun k => match k with
  | _ => .int
theorem nmJ0 : ∀ a, a < 0 → ∀ b, b < 0 → a ≠ b → (TJ0 a).2.1 ≠ (TJ0 b).2.1 := by decide +kernel
theorem tyJ0_ok : ∀ k, k < 0 → parseFieldDescriptor (TJ0 k).2.2.1 = some (tyJ0 k) := by decide +kernel
abbrev cJ0_length_8abf5 : ByteArray := prog_17_method_54_code
def yJ0_length_8abf5 : MethodName := ⟨RJ0, "length", "()I"⟩
abbrev cJ0_charAt_5068e : ByteArray := prog_17_method_56_code
def yJ0_charAt_5068e : MethodName := ⟨RJ0, "charAt", "(I)C"⟩
abbrev cJ0_coder_7d493 : ByteArray := prog_17_method_152_code
def yJ0_coder_7d493 : MethodName := ⟨RJ0, "coder", "()B"⟩
abbrev cJ0_isLatin1_aae02 : ByteArray := prog_17_method_154_code
def yJ0_isLatin1_aae02 : MethodName := ⟨RJ0, "isLatin1", "()Z"⟩
abbrev cJ0_checkIndex_df160 : ByteArray := prog_17_method_155_code
def yJ0_checkIndex_df160 : MethodName := ⟨RJ0, "checkIndex", "(II)V"⟩
def RJ1 : String := "java/lang/StringLatin1"
def TJ1 : u_T := fun k => match k with
  | _ => ("", "", "", false)
def tyJ1 : Nat → FieldType := fun k => match k with
  | _ => .int
theorem nmJ1 : ∀ a, a < 0 → ∀ b, b < 0 → a ≠ b → (TJ1 a).2.1 ≠ (TJ1 b).2.1 := by decide +kernel
theorem tyJ1_ok : ∀ k, k < 0 → parseFieldDescriptor (TJ1 k).2.2.1 = some (tyJ1 k) := by decide +kernel
abbrev cJ1_charAt_3b067 : ByteArray := prog_18_method_2_code
def yJ1_charAt_3b067 : MethodName := ⟨RJ1, "charAt", "([BI)C"⟩
def RJ2 : String := "java/lang/StringUTF16"
def TJ2 : u_T := fun k => match k with
  | _ => ("", "", "", false)
def tyJ2 : Nat → FieldType := fun k => match k with
  | _ => .int
theorem nmJ2 : ∀ a, a < 0 → ∀ b, b < 0 → a ≠ b → (TJ2 a).2.1 ≠ (TJ2 b).2.1 := by decide +kernel
theorem tyJ2_ok : ∀ k, k < 0 → parseFieldDescriptor (TJ2 k).2.2.1 = some (tyJ2 k) := by decide +kernel
abbrev cJ2_getChar_3b067 : ByteArray := prog_19_method_5_code
def yJ2_getChar_3b067 : MethodName := ⟨RJ2, "getChar", "([BI)C"⟩
abbrev cJ2_length_9d52b : ByteArray := prog_19_method_6_code
def yJ2_length_9d52b : MethodName := ⟨RJ2, "length", "([B)I"⟩
abbrev cJ2_charAt_3b067 : ByteArray := prog_19_method_83_code
def yJ2_charAt_3b067 : MethodName := ⟨RJ2, "charAt", "([BI)C"⟩
abbrev cJ2_checkIndex_2214a : ByteArray := prog_19_method_91_code
def yJ2_checkIndex_2214a : MethodName := ⟨RJ2, "checkIndex", "(I[B)V"⟩
def RJ10 : String := "java/lang/System"
def TJ10 : u_T := fun k => match k with
  | _ => ("", "", "", false)
def tyJ10 : Nat → FieldType := fun k => match k with
  | _ => .int
theorem nmJ10 : ∀ a, a < 0 → ∀ b, b < 0 → a ≠ b → (TJ10 a).2.1 ≠ (TJ10 b).2.1 := by decide +kernel
theorem tyJ10_ok : ∀ k, k < 0 → parseFieldDescriptor (TJ10 k).2.2.1 = some (tyJ10 k) := by decide +kernel
def RJxfd54e : String := "java/lang/constant/Constable"
def TJxfd54e : u_T := fun k => match k with
  | _ => ("", "", "", false)
def tyJxfd54e : Nat → FieldType := fun k => match k with
  | _ => .int
theorem nmJxfd54e : ∀ a, a < 0 → ∀ b, b < 0 → a ≠ b → (TJxfd54e a).2.1 ≠ (TJxfd54e b).2.1 := by decide +kernel
theorem tyJxfd54e_ok : ∀ k, k < 0 → parseFieldDescriptor (TJxfd54e k).2.2.1 = some (tyJxfd54e k) := by decide +kernel
def RJx3cf43 : String := "java/lang/constant/ConstantDesc"
def TJx3cf43 : u_T := fun k => match k with
  | _ => ("", "", "", false)
def tyJx3cf43 : Nat → FieldType := fun k => match k with
  | _ => .int
theorem nmJx3cf43 : ∀ a, a < 0 → ∀ b, b < 0 → a ≠ b → (TJx3cf43 a).2.1 ≠ (TJx3cf43 b).2.1 := by decide +kernel
theorem tyJx3cf43_ok : ∀ k, k < 0 → parseFieldDescriptor (TJx3cf43 k).2.2.1 = some (tyJx3cf43 k) := by decide +kernel
def RJ7 : String := "java/util/Arrays"
def TJ7 : u_T := fun k => match k with
  | _ => ("", "", "", false)
def tyJ7 : Nat → FieldType := fun k => match k with
  | _ => .int
theorem nmJ7 : ∀ a, a < 0 → ∀ b, b < 0 → a ≠ b → (TJ7 a).2.1 ≠ (TJ7 b).2.1 := by decide +kernel
theorem tyJ7_ok : ∀ k, k < 0 → parseFieldDescriptor (TJ7 k).2.2.1 = some (tyJ7 k) := by decide +kernel
abbrev cJ7_fill_53178 : ByteArray := prog_21_method_103_code
def yJ7_fill_53178 : MethodName := ⟨RJ7, "fill", "([II)V"⟩
def RJ3 : String := "jdk/internal/util/Preconditions"
def TJ3 : u_T := fun k => match k with
  | _ => ("", "", "", false)
def tyJ3 : Nat → FieldType := fun k => match k with
  | _ => .int
theorem nmJ3 : ∀ a, a < 0 → ∀ b, b < 0 → a ≠ b → (TJ3 a).2.1 ≠ (TJ3 b).2.1 := by decide +kernel
theorem tyJ3_ok : ∀ k, k < 0 → parseFieldDescriptor (TJ3 k).2.2.1 = some (tyJ3 k) := by decide +kernel
abbrev cJ3_checkIndex_8e157 : ByteArray := prog_22_method_11_code
def yJ3_checkIndex_8e157 : MethodName := ⟨RJ3, "checkIndex", "(IILjava/util/function/BiFunction;)I"⟩
def RL : String := "GreyRouteLaw"
abbrev cL_law : ByteArray := code
def yL_law : MethodName := ⟨RL, "law", "([I)Z"⟩
abbrev vwCl : List vw_C := [(RX0, TX0, 2), (RX1, TX1, 8), (RX2, TX2, 16), (RX3, TX3, 6), (RX4, TX4, 5), (RX5, TX5, 3), (RX6, TX6, 5), (RX7, TX7, 2), (RX8, TX8, 19), (RX9, TX9, 2), (RX10, TX10, 7), (RX11, TX11, 13), (RX12, TX12, 78)]
end
section
/-! NUMBERS: an int by its key, the order's own number -/
def rx_b (x : Int32) : Nat := (x.toBitVec.toNat + 2147483648) % 4294967296
theorem rx_b_int (x : Int32) : (rx_b x : Int) = x.toInt + 2147483648 := by
  have h : x.toInt = x.toBitVec.toInt := rfl
  have h1 := x.toBitVec.isLt
  rw [h, BitVec.toInt_eq_toNat_cond]
  unfold rx_b
  split <;> omega
theorem rx_lt (x y : Int32) : x < y ↔ rx_b x < rx_b y := by
  rw [Int32.lt_iff_toInt_lt]
  have h1 := rx_b_int x
  have h2 := rx_b_int y
  omega
theorem rx_le (x y : Int32) : x ≤ y ↔ rx_b x ≤ rx_b y := by
  rw [Int32.le_iff_toInt_le]
  have h1 := rx_b_int x
  have h2 := rx_b_int y
  omega
theorem rx_eq (x y : Int32) : x = y ↔ rx_b x = rx_b y := by
  rw [← Int32.toInt_inj]
  have h1 := rx_b_int x
  have h2 := rx_b_int y
  omega
theorem rx_tn (n : Nat) : (nI n).toBitVec.toNat = n % 4294967296 := by
  show (BitVec.ofNat 32 n).toNat = _
  rw [BitVec.toNat_ofNat]
theorem rx_b_nI (n : Nat) : rx_b (nI n) = (n + 2147483648) % 4294967296 := by
  unfold rx_b
  rw [rx_tn]
  omega
theorem rx_b_lt (x : Int32) : rx_b x < 4294967296 := Nat.mod_lt _ (by decide)
theorem rx_nI_eq {a b : Nat} (h : a % 4294967296 = b % 4294967296) : nI a = nI b := by
  rw [rx_eq, rx_b_nI, rx_b_nI]
  omega
theorem rx_nI_mod (a : Nat) : nI (a % 4294967296) = nI a := rx_nI_eq (by omega)
theorem rx_add (a b : Nat) : nI ((a + b) % 4294967296) = nI a + nI b := by rw [rx_nI_mod, nI_add]
theorem rx_mul (a b : Nat) : nI ((a * b) % 4294967296) = nI a * nI b := by rw [rx_nI_mod, pk_mul]
theorem rx_sub (a b : Nat) : nI ((a + (4294967296 - b % 4294967296)) % 4294967296) = nI a - nI b := by
  rw [rx_nI_mod]
  have h1 : nI a = nI (a + (4294967296 - b % 4294967296)) + nI b := by
    rw [nI_add]
    exact rx_nI_eq (by omega)
  rw [h1]
  have h2 : ∀ x y : Int32, x = x + y - y := fun x y => by
    rw [Int32.sub_eq_add_neg, Int32.add_assoc, ← Int32.sub_eq_add_neg, Int32.sub_self, Int32.add_zero]
  exact h2 _ _
theorem rx_bv (n : Nat) : (nI n).toBitVec = BitVec.ofNat 32 n := rfl
theorem rx_inj {x y : Int32} (h : x.toBitVec.toNat = y.toBitVec.toNat) : x = y := Int32.toBitVec_inj.mp (BitVec.eq_of_toNat_eq h)
theorem rx_and (a b : Nat) : nI (Nat.land a b) = nI a &&& nI b := by
  refine rx_inj ?_
  show _ = ((nI a).toBitVec &&& (nI b).toBitVec).toNat
  rw [rx_tn, BitVec.toNat_and, rx_tn, rx_tn]
  exact Nat.and_mod_two_pow (a := a) (b := b) (n := 32)
theorem rx_or (a b : Nat) : nI (Nat.lor a b) = nI a ||| nI b := by
  refine rx_inj ?_
  show _ = ((nI a).toBitVec ||| (nI b).toBitVec).toNat
  rw [rx_tn, BitVec.toNat_or, rx_tn, rx_tn]
  exact Nat.or_mod_two_pow (a := a) (b := b) (n := 32)
theorem rx_xor (a b : Nat) : nI (Nat.xor a b) = nI a ^^^ nI b := by
  refine rx_inj ?_
  show _ = ((nI a).toBitVec ^^^ (nI b).toBitVec).toNat
  rw [rx_tn, BitVec.toNat_xor, rx_tn, rx_tn]
  exact Nat.xor_mod_two_pow (a := a) (b := b) (n := 32)
theorem rx_a31 (s : Nat) : nI s &&& 31 = nI (s % 32) := by
  rw [show (31 : Int32) = nI 31 from rfl, ← rx_and]
  exact congrArg nI (Nat.and_two_pow_sub_one_eq_mod s 5)
theorem rx_smod : ∀ k, k < 32 → ((nI k).toBitVec.smod 32).toNat = k := by decide +kernel
theorem rx_umod : ∀ k, k < 32 → (((nI k).toUInt32 &&& Int32.toUInt32 31).toBitVec % 32).toNat = k := by decide +kernel
theorem rx_shl (x s : Nat) : nI ((x * 2 ^ (s % 32)) % 4294967296) = nI x <<< (nI s &&& 31) := by
  have hk : s % 32 < 32 := Nat.mod_lt _ (by decide)
  rw [rx_a31]
  refine rx_inj ?_
  rw [pk_shl (nI x) (nI (s % 32)) (s % 32) (rx_smod _ hk), rx_tn, rx_tn]
  rw [Nat.mod_mod, Nat.mod_mul_mod]
theorem rx_shr {x : Nat} (s : Nat) (hx : x < 2147483648) : nI (x / 2 ^ (s % 32)) = nI x >>> (nI s &&& 31) := by
  rw [rx_a31]
  exact (pk_shrN hx (nI (s % 32)) (s % 32) (rx_smod _ (Nat.mod_lt _ (by decide)))).symm
theorem rx_ushr (x s : Nat) : nI (x % 4294967296 / 2 ^ (s % 32)) = ((nI x).toUInt32 >>> ((nI s).toUInt32 &&& Int32.toUInt32 31)).toInt32 := by
  have h0 : (nI s).toUInt32 &&& Int32.toUInt32 31 = (nI (s % 32)).toUInt32 &&& Int32.toUInt32 31 := by
    have h1 : nI s &&& 31 = nI (s % 32) &&& 31 := by rw [rx_a31, rx_a31, Nat.mod_mod]
    exact congrArg Int32.toUInt32 h1
  rw [h0, ← rx_nI_mod x]
  exact (pk_ushrN (Nat.mod_lt _ (by decide)) (nI (s % 32)) (s % 32) (rx_umod _ (Nat.mod_lt _ (by decide)))).symm
theorem rx_neg (x : Nat) : nI ((4294967296 - x % 4294967296) % 4294967296) = - nI x := by
  have h := rx_sub 0 x
  rw [Nat.zero_add] at h
  rw [h, nI_0, Int32.zero_sub]
theorem rx_i2b (x : Nat) : nI (cond (Nat.blt (x % 256) 128) (x % 256) (x % 256 + 4294967040)) = (nI x).toInt8.toInt32 := by
  have h : ∀ k, k < 256 → nI (cond (Nat.blt k 128) k (k + 4294967040)) = (nI k).toInt8.toInt32 := by decide +kernel
  rw [h _ (Nat.mod_lt _ (by decide))]
  have h8 : (nI (x % 256)).toInt8 = (nI x).toInt8 := by
    refine Int8.toBitVec_inj.mp (BitVec.eq_of_toNat_eq ?_)
    show ((nI (x % 256)).toBitVec.signExtend 8).toNat = ((nI x).toBitVec.signExtend 8).toNat
    rw [rx_bv, rx_bv, BitVec.signExtend_eq_setWidth_of_le _ (by decide), BitVec.signExtend_eq_setWidth_of_le _ (by decide), BitVec.toNat_setWidth, BitVec.toNat_setWidth, BitVec.toNat_ofNat, BitVec.toNat_ofNat]
    omega
  rw [h8]
end
section
/-! longs -/
theorem rl_tn (n : Nat) : (lN n).toBitVec.toNat = n % 18446744073709551616 := by
  show (BitVec.ofNat 64 n).toNat = _
  rw [BitVec.toNat_ofNat]
theorem rl_inj {x y : Int64} (h : x.toBitVec.toNat = y.toBitVec.toNat) : x = y := Int64.toBitVec_inj.mp (BitVec.eq_of_toNat_eq h)
theorem rl_eq {a b : Nat} (h : a % 18446744073709551616 = b % 18446744073709551616) : lN a = lN b := rl_inj (by rw [rl_tn, rl_tn, h])
theorem rl_mod (a : Nat) : lN (a % 18446744073709551616) = lN a := rl_eq (by omega)
theorem rl_add (a b : Nat) : lN ((a + b) % 18446744073709551616) = lN a + lN b := by rw [rl_mod, lN_add]
theorem rl_mul (a b : Nat) : lN ((a * b) % 18446744073709551616) = lN a * lN b := by rw [rl_mod, lN_mul]
theorem rl_sub (a b : Nat) : lN ((a + (18446744073709551616 - b % 18446744073709551616)) % 18446744073709551616) = lN a - lN b := by
  rw [rl_mod]
  have h1 : lN a = lN (a + (18446744073709551616 - b % 18446744073709551616)) + lN b := by
    rw [lN_add]
    exact rl_eq (by omega)
  rw [h1]
  have h2 : ∀ x y : Int64, x = x + y - y := fun x y => by
    rw [Int64.sub_eq_add_neg, Int64.add_assoc, ← Int64.sub_eq_add_neg, Int64.sub_self, Int64.add_zero]
  exact h2 _ _
theorem rl_and (a b : Nat) : lN (Nat.land a b) = lN a &&& lN b := by
  refine rl_inj ?_
  show _ = ((lN a).toBitVec &&& (lN b).toBitVec).toNat
  rw [rl_tn, BitVec.toNat_and, rl_tn, rl_tn]
  exact Nat.and_mod_two_pow (a := a) (b := b) (n := 64)
theorem rl_or (a b : Nat) : lN (Nat.lor a b) = lN a ||| lN b := by
  refine rl_inj ?_
  show _ = ((lN a).toBitVec ||| (lN b).toBitVec).toNat
  rw [rl_tn, BitVec.toNat_or, rl_tn, rl_tn]
  exact Nat.or_mod_two_pow (a := a) (b := b) (n := 64)
theorem rl_div {a b : Nat} (ha : a < 9223372036854775808) (hb : b < 9223372036854775808) (h0 : 0 < b) : lN (a / b) = lN a / lN b := (pk_lDiv ha h0 hb).symm
theorem rl_rem {a b : Nat} (ha : a < 9223372036854775808) (hb : b < 9223372036854775808) (h0 : 0 < b) : lN (a % b) = lN a - lN a / lN b * lN b := (pk_lRem ha h0 hb).symm
theorem rl_ne0 {b : Nat} (hb : b < 9223372036854775808) (h0 : 0 < b) : ¬ lN b = 0 := by
  intro h
  have := (pk_lEQ (a := b) (b := 0) hb (by decide)).mp h
  omega
theorem rx_div {a b : Nat} (ha : a < 2147483648) (hb : b < 2147483648) (h0 : 0 < b) : nI (a / b) = nI a / nI b := (pk_div ha h0 hb).symm
theorem rx_rem' {a b : Nat} (ha : a < 2147483648) (hb : b < 2147483648) (h0 : 0 < b) : nI (a % b) = nI a - nI a / nI b * nI b := (pk_rem ha h0 hb).symm
def rl_b (x : Int64) : Nat := (x.toBitVec.toNat + 9223372036854775808) % 18446744073709551616
theorem rl_b_int (x : Int64) : (rl_b x : Int) = x.toInt + 9223372036854775808 := by
  have h : x.toInt = x.toBitVec.toInt := rfl
  have h1 := x.toBitVec.isLt
  rw [h, BitVec.toInt_eq_toNat_cond]
  unfold rl_b
  split <;> omega
theorem rl_lt (x y : Int64) : x < y ↔ rl_b x < rl_b y := by
  rw [Int64.lt_iff_toInt_lt]
  have h1 := rl_b_int x
  have h2 := rl_b_int y
  omega
theorem rl_eqv (x y : Int64) : x = y ↔ rl_b x = rl_b y := by
  rw [← Int64.toInt_inj]
  have h1 := rl_b_int x
  have h2 := rl_b_int y
  omega
theorem rl_b_lN (n : Nat) : rl_b (lN n) = (n + 9223372036854775808) % 18446744073709551616 := by
  unfold rl_b
  rw [rl_tn]
  omega
theorem rl_cmp (x y : Nat) : nI (cond (Nat.blt ((x + 9223372036854775808) % 18446744073709551616) ((y + 9223372036854775808) % 18446744073709551616)) 4294967295 (cond (Nat.blt ((y + 9223372036854775808) % 18446744073709551616) ((x + 9223372036854775808) % 18446744073709551616)) 1 0)) = lg_cmp (lN x) (lN y) := by
  have hb : ∀ a b : Nat, Nat.blt a b = decide (a < b) := fun a b => by
    rcases Nat.lt_or_ge a b with h | h
    · rw [decide_eq_true h]; exact Nat.ble_eq_true_of_le h
    · rw [decide_eq_false (Nat.not_lt.mpr h)]
      cases c : Nat.blt a b with
      | true => have := Nat.le_of_ble_eq_true (show Nat.ble (a + 1) b = true from c); omega
      | false => rfl
  rw [hb, hb, ← rl_b_lN, ← rl_b_lN]
  unfold lg_cmp
  simp only [gt_iff_lt, rl_lt, rl_eqv]
  generalize rl_b (lN x) = a
  generalize rl_b (lN y) = b
  rcases Nat.lt_or_ge a b with h | h
  · have h2 : ¬ b < a := by omega
    have h3 : ¬ a = b := by omega
    simp only [h, h2, h3, decide_true, cond_true, if_false]
    decide
  · rcases Nat.lt_or_ge b a with h2 | h2
    · have h3 : ¬ a < b := by omega
      simp only [h2, h3, decide_true, decide_false, cond_true, cond_false, if_true]
      decide
    · have h3 : ¬ a < b := by omega
      have h4 : ¬ b < a := by omega
      have h5 : a = b := by omega
      simp only [h3, h4, decide_false, cond_false, if_false, h5, if_true]
      simp
      decide
end
section
/-! THE EXECUTOR: bytecode over a world of cells that is a list; closed runs are decided by the kernel.
An int is a number below 2^32, or a script's int with operations behind it. A long is a number below 2^64, or a script's int widened. A reference is null, a place of the world, or a constant (0 the script, 1 a text, 2 its bytes). -/
abbrev rx_I : Type := Nat ⊕ (Nat × List (Nat × Nat))
abbrev rx_V : Type := rx_I ⊕ ((Nat ⊕ Nat) ⊕ (Option Nat ⊕ Nat))
/-- a cell: an object (class, fields), or an array (0 int, 1 byte, 2 boolean, 3 long, 4 references; length; what was written) -/
abbrev rx_C : Type := (Nat × List rx_V) ⊕ (Nat × Nat × List (Nat × rx_V))
/-- bounds of script ints, by their keys -/
abbrev rx_F : Type := List ((Nat × List (Nat × Nat)) × Nat × Nat)
/-- a row of code: pc, instruction, its length, three numbers, places of words -/
abbrev rx_E : Type := Nat × Jvm.ClassFile.Instr × Nat × Nat × Nat × Nat × List Nat
abbrev rx_L : Type := List (Nat × rx_V)
abbrev rx_R : Type := List rx_E × rx_L × List rx_V × List rx_C × Nat × Nat
abbrev rx_K : Type := List rx_E → rx_L → List rx_V → List rx_C → Nat → Nat → Option rx_R
noncomputable def rx_fN {α : Type} (n : Nat) (k : Nat → α) : α := Nat.rec (k 0) (fun m _ => k (Nat.succ m)) n
theorem rx_fN_eq {α : Type} (n : Nat) (k : Nat → α) : rx_fN n k = k n := by cases n <;> rfl
noncomputable def rx_get {α : Type} (L : rx_L) (i : Nat) (k : rx_V → Option α) : Option α := List.rec none (fun q _ ih => cond (Nat.beq q.1 i) (k q.2) ih) L
theorem rx_get_ok {α : Type} {L : rx_L} {i : Nat} {k : rx_V → Option α} {r : α} (h : rx_get L i k = some r) : ∃ v, (i, v) ∈ L ∧ k v = some r := by
  induction L with
  | nil => cases h
  | cons q t ih =>
    change cond (Nat.beq q.1 i) (k q.2) (rx_get t i k) = some r at h
    cases hq : Nat.beq q.1 i with
    | true =>
      rw [hq] at h
      have e : q.1 = i := Nat.eq_of_beq_eq_true hq
      exact ⟨q.2, by rw [← e]; exact List.mem_cons_self, h⟩
    | false =>
      rw [hq] at h
      obtain ⟨v, h1, h2⟩ := ih h
      exact ⟨v, List.mem_cons_of_mem _ h1, h2⟩
noncomputable def rx_at {α β : Type} (l : List α) : Nat → (α → Option β) → Option β := List.rec (fun _ _ => none) (fun a _ ih n k => Nat.rec (k a) (fun m _ => ih m k) n) l
theorem rx_at_ok {α β : Type} {l : List α} : ∀ {n : Nat} {k : α → Option β} {r : β}, rx_at l n k = some r → ∃ x, l[n]? = some x ∧ k x = some r := by
  induction l with
  | nil => intro n k r h; cases h
  | cons a t ih =>
    intro n k r h
    cases n with
    | zero => exact ⟨a, rfl, h⟩
    | succ m =>
      obtain ⟨x, h1, h2⟩ := ih (n := m) h
      exact ⟨x, by simpa using h1, h2⟩
noncomputable def rx_set {α β : Type} (l : List α) : Nat → α → (List α → Option β) → Option β := List.rec (fun _ _ _ => none) (fun a t ih n v k => Nat.rec (k (v :: t)) (fun m _ => ih m v (fun t' => k (a :: t'))) n) l
theorem rx_set_ok {α β : Type} {l : List α} : ∀ {n : Nat} {v : α} {k : List α → Option β} {r : β}, rx_set l n v k = some r → k (l.set n v) = some r := by
  induction l with
  | nil => intro n v k r h; cases h
  | cons a t ih =>
    intro n v k r h
    cases n with
    | zero => exact h
    | succ m => exact ih (n := m) (k := fun t' => k (a :: t')) h
noncomputable def rx_snoc {α β : Type} (l : List α) (v : α) : Nat → (List α → Nat → β) → β := List.rec (fun n k => k [v] n) (fun a _ ih n k => ih (Nat.succ n) (fun t' m => k (a :: t') m)) l
theorem rx_snoc_eq {α β : Type} (l : List α) (v : α) : ∀ (n : Nat) (k : List α → Nat → β), rx_snoc l v n k = k (l ++ [v]) (n + l.length) := by
  induction l with
  | nil => intro n k; rfl
  | cons a t ih =>
    intro n k
    refine (ih (Nat.succ n) (fun t' m => k (a :: t') m)).trans ?_
    show k (a :: (t ++ [v])) (Nat.succ n + t.length) = k (a :: (t ++ [v])) (n + (t.length + 1))
    rw [show Nat.succ n + t.length = n + (t.length + 1) by omega]
noncomputable def rx_rem {β : Type} (P : Nat → rx_V → Bool) (L : rx_L) : (rx_L → β) → β := List.rec (fun k => k []) (fun q _ ih k => cond (P q.1 q.2) (ih k) (ih (fun t' => k (q :: t')))) L
theorem rx_rem_eq {β : Type} (P : Nat → rx_V → Bool) (L : rx_L) : ∀ k : rx_L → β, rx_rem P L k = k (L.filter (fun q => !P q.1 q.2)) := by
  induction L with
  | nil => intro k; rfl
  | cons q t ih =>
    intro k
    change cond (P q.1 q.2) (rx_rem P t k) (rx_rem P t (fun t' => k (q :: t'))) = _
    cases hq : P q.1 q.2 with
    | true => simp [hq, ih]
    | false => simp [hq, ih]
noncomputable def rx_lk (l : List (Nat × rx_V)) (j : Nat) (d : rx_V) : rx_V := List.rec d (fun q _ ih => cond (Nat.beq q.1 j) q.2 ih) l
noncomputable def rx_find (cd : List rx_E) (tgt : Nat) : List rx_E := List.rec [] (fun e t ih => cond (Nat.beq e.1 tgt) (e :: t) ih) cd
noncomputable def rx_take {β : Type} : Nat → List rx_V → List rx_V → (List rx_V → List rx_V → Option β) → Option β := fun n => Nat.rec (fun S acc k => k acc S) (fun _ ih S acc k => List.rec none (fun v t _ => ih t (v :: acc) k) S) n
theorem rx_take_ok {β : Type} : ∀ {n : Nat} {S acc : List rx_V} {k : List rx_V → List rx_V → Option β} {r : β}, rx_take n S acc k = some r → ∃ as S', S = as.reverse ++ S' ∧ as.length = n ∧ k (as ++ acc) S' = some r := by
  intro n
  induction n with
  | zero => intro S acc k r h; exact ⟨[], S, rfl, rfl, h⟩
  | succ n ih =>
    intro S acc k r h
    cases S with
    | nil => cases h
    | cons v t =>
      obtain ⟨as, S', h1, h2, h3⟩ := ih (S := t) (acc := v :: acc) h
      refine ⟨as ++ [v], S', ?_, ?_, ?_⟩
      · simp [h1]
      · simp [h2]
      · simpa using h3
def rx_cat (v : rx_V) : Nat := match v with
  | .inr (.inl _) => 2
  | _ => 1
noncomputable def rx_cats (S : List rx_V) : Nat := List.rec 0 (fun v _ ih => Nat.add (rx_cat v) ih) S
noncomputable def rx_fact (F : rx_F) (u : Nat × List (Nat × Nat)) : Nat × Nat := List.rec (0, 4294967295) (fun q _ ih => cond (decide (q.1 = u)) q.2 ih) F
noncomputable def rx_iv (F : rx_F) (x : rx_I) : Nat × Nat := match x with
  | .inl n => ((n + 2147483648) % 4294967296, (n + 2147483648) % 4294967296)
  | .inr u => rx_fact F u
noncomputable def rx_lt? (F : rx_F) (x y : rx_I) : Option Bool := cond (Nat.blt (rx_iv F x).2 (rx_iv F y).1) (some true) (cond (Nat.ble (rx_iv F y).2 (rx_iv F x).1) (some false) none)
noncomputable def rx_eq? (F : rx_F) (x y : rx_I) : Option Bool := cond (Nat.blt (rx_iv F x).2 (rx_iv F y).1) (some false) (cond (Nat.blt (rx_iv F y).2 (rx_iv F x).1) (some false) (cond (Nat.beq (rx_iv F x).1 (rx_iv F x).2 && (Nat.beq (rx_iv F y).1 (rx_iv F y).2 && Nat.beq (rx_iv F x).1 (rx_iv F y).1)) (some true) none))
/-- a script's int, or the number that its bounds make it -/
noncomputable def rx_nm (F : rx_F) (u : Nat × List (Nat × Nat)) : rx_I := cond (Nat.beq (rx_fact F u).1 (rx_fact F u).2 && Nat.blt (rx_fact F u).1 4294967296) (.inl (((rx_fact F u).1 + 2147483648) % 4294967296)) (.inr u)
noncomputable def rx_br {β : Type} (o : Option Bool) (t f : Option β) : Option β := match o with
  | some true => t
  | some false => f
  | none => none
noncomputable def rx_cmp {β : Type} (F : rx_F) (c : Jvm.ClassFile.Cond) (x y : rx_I) (t f : Option β) : Option β := match c with
  | .lt => rx_br (rx_lt? F x y) t f
  | .ge => rx_br (rx_lt? F x y) f t
  | .gt => rx_br (rx_lt? F y x) t f
  | .le => rx_br (rx_lt? F y x) f t
  | .eq => rx_br (rx_eq? F x y) t f
  | .ne => rx_br (rx_eq? F x y) f t
-- the instructions by kinds
noncomputable def rx_ld (q : Nat) (K : rx_K) (rest : List rx_E) (a : Nat) (L : rx_L) (S : List rx_V) (w : List rx_C) (cc ss : Nat) : Option rx_R := rx_get L a (fun v => match v with
  | .inl _ => cond (Nat.beq q 0) (K rest L (v :: S) w cc ss) none
  | .inr (.inl _) => cond (Nat.beq q 1) (K rest L (v :: S) w cc ss) none
  | .inr (.inr (.inl none)) => none
  | .inr (.inr _) => cond (Nat.beq q 2) (K rest L (v :: S) w cc ss) none)
def rx_P1 (a : Nat) (j : Nat) (v : rx_V) : Bool := Nat.beq j a || (Nat.beq (Nat.succ j) a && Nat.beq (rx_cat v) 2)
def rx_P2 (a : Nat) (j : Nat) (v : rx_V) : Bool := Nat.beq j a || (Nat.beq j (Nat.succ a) || (Nat.beq (Nat.succ j) a && Nat.beq (rx_cat v) 2))
noncomputable def rx_st (q nL : Nat) (K : rx_K) (rest : List rx_E) (a : Nat) (L : rx_L) (S : List rx_V) (w : List rx_C) (cc ss : Nat) : Option rx_R := match S with
  | v :: S' => (match v with
    | .inl _ => cond (Nat.beq q 0 && Nat.blt a nL) (rx_rem (rx_P1 a) L (fun L' => K rest ((a, v) :: L') S' w cc ss)) none
    | .inr (.inl _) => cond (Nat.beq q 1 && Nat.blt (Nat.succ a) nL) (rx_rem (rx_P2 a) L (fun L' => K rest ((a, v) :: L') S' w cc ss)) none
    | .inr (.inr (.inl none)) => none
    | .inr (.inr _) => cond (Nat.beq q 2 && Nat.blt a nL) (rx_rem (rx_P1 a) L (fun L' => K rest ((a, v) :: L') S' w cc ss)) none)
  | [] => none
noncomputable def rx_o2 (g : Nat → Nat → Bool) (f : Nat → Nat → Nat) (K : rx_K) (rest : List rx_E) (L : rx_L) (S : List rx_V) (w : List rx_C) (cc ss : Nat) : Option rx_R := match S with
  | .inl (.inl y) :: .inl (.inl x) :: S' => cond (g x y) (rx_fN (f x y) (fun z => K rest L (.inl (.inl z) :: S') w cc ss)) none
  | _ => none
noncomputable def rx_o2u (F : rx_F) (o : Nat) (g : Nat → Nat → Bool) (f : Nat → Nat → Nat) (K : rx_K) (rest : List rx_E) (L : rx_L) (S : List rx_V) (w : List rx_C) (cc ss : Nat) : Option rx_R := match S with
  | .inl (.inl y) :: .inl (.inl x) :: S' => cond (g x y) (rx_fN (f x y) (fun z => K rest L (.inl (.inl z) :: S') w cc ss)) none
  | .inl (.inl y) :: .inl (.inr u) :: S' => K rest L (.inl (rx_nm F (u.1, (o, y) :: u.2)) :: S') w cc ss
  | _ => none
noncomputable def rx_o1 (f : Nat → Nat) (K : rx_K) (rest : List rx_E) (L : rx_L) (S : List rx_V) (w : List rx_C) (cc ss : Nat) : Option rx_R := match S with
  | .inl (.inl x) :: S' => rx_fN (f x) (fun z => K rest L (.inl (.inl z) :: S') w cc ss)
  | _ => none
noncomputable def rx_l2 (g : Nat → Nat → Bool) (f : Nat → Nat → Nat) (K : rx_K) (rest : List rx_E) (L : rx_L) (S : List rx_V) (w : List rx_C) (cc ss : Nat) : Option rx_R := match S with
  | .inr (.inl (.inl y)) :: .inr (.inl (.inl x)) :: S' => cond (g x y) (rx_fN (f x y) (fun z => K rest L (.inr (.inl (.inl z)) :: S') w cc ss)) none
  | _ => none
noncomputable def rx_lsh (g : Nat → Bool) (f : Nat → Nat → Nat) (K : rx_K) (rest : List rx_E) (L : rx_L) (S : List rx_V) (w : List rx_C) (cc ss : Nat) : Option rx_R := match S with
  | .inl (.inl y) :: .inr (.inl (.inl x)) :: S' => cond (g x) (rx_fN (f x y) (fun z => K rest L (.inr (.inl (.inl z)) :: S') w cc ss)) none
  | _ => none
noncomputable def rx_lcmp (K : rx_K) (rest : List rx_E) (L : rx_L) (S : List rx_V) (w : List rx_C) (cc ss : Nat) : Option rx_R := match S with
  | .inr (.inl (.inl y)) :: .inr (.inl (.inl x)) :: S' => K rest L (.inl (.inl (cond (Nat.blt ((x + 9223372036854775808) % 18446744073709551616) ((y + 9223372036854775808) % 18446744073709551616)) 4294967295 (cond (Nat.blt ((y + 9223372036854775808) % 18446744073709551616) ((x + 9223372036854775808) % 18446744073709551616)) 1 0))) :: S') w cc ss
  | _ => none
noncomputable def rx_i2l (K : rx_K) (rest : List rx_E) (L : rx_L) (S : List rx_V) (w : List rx_C) (cc ss : Nat) : Option rx_R := match S with
  | .inl (.inl x) :: S' => cond (Nat.blt x 2147483648) (K rest L (.inr (.inl (.inl x)) :: S') w cc ss) none
  | .inl (.inr (k, [])) :: S' => K rest L (.inr (.inl (.inr k)) :: S') w cc ss
  | _ => none
noncomputable def rx_l2i (K : rx_K) (rest : List rx_E) (L : rx_L) (S : List rx_V) (w : List rx_C) (cc ss : Nat) : Option rx_R := match S with
  | .inr (.inl (.inl x)) :: S' => rx_fN (x % 4294967296) (fun z => K rest L (.inl (.inl z) :: S') w cc ss)
  | _ => none
noncomputable def rx_i2bS (F : rx_F) (K : rx_K) (rest : List rx_E) (L : rx_L) (S : List rx_V) (w : List rx_C) (cc ss : Nat) : Option rx_R := match S with
  | .inl (.inl x) :: S' => rx_fN (cond (Nat.blt (x % 256) 128) (x % 256) (x % 256 + 4294967040)) (fun z => K rest L (.inl (.inl z) :: S') w cc ss)
  | .inl (.inr u) :: S' => K rest L (.inl (rx_nm F (u.1, (2, 0) :: u.2)) :: S') w cc ss
  | _ => none
noncomputable def rx_dup (K : rx_K) (rest : List rx_E) (L : rx_L) (S : List rx_V) (w : List rx_C) (cc ss : Nat) : Option rx_R := match S with
  | v :: S' => cond (Nat.beq (rx_cat v) 1) (K rest L (v :: v :: S') w cc ss) none
  | _ => none
noncomputable def rx_dup2 (K : rx_K) (rest : List rx_E) (L : rx_L) (S : List rx_V) (w : List rx_C) (cc ss : Nat) : Option rx_R := match S with
  | v :: u :: S' => cond (Nat.beq (rx_cat v) 1 && Nat.beq (rx_cat u) 1) (K rest L (v :: u :: v :: u :: S') w cc ss) none
  | _ => none
noncomputable def rx_pop (K : rx_K) (rest : List rx_E) (L : rx_L) (S : List rx_V) (w : List rx_C) (cc ss : Nat) : Option rx_R := match S with
  | v :: S' => cond (Nat.beq (rx_cat v) 1) (K rest L S' w cc ss) none
  | _ => none
noncomputable def rx_ic (F : rx_F) (c : Jvm.ClassFile.Cond) (cd : List rx_E) (K : rx_K) (rest : List rx_E) (a : Nat) (L : rx_L) (S : List rx_V) (w : List rx_C) (cc ss : Nat) : Option rx_R := match S with
  | .inl y :: .inl x :: S' => rx_cmp F c x y (K (rx_find cd a) L S' w cc ss) (K rest L S' w cc ss)
  | _ => none
noncomputable def rx_if (F : rx_F) (c : Jvm.ClassFile.Cond) (cd : List rx_E) (K : rx_K) (rest : List rx_E) (a : Nat) (L : rx_L) (S : List rx_V) (w : List rx_C) (cc ss : Nat) : Option rx_R := match S with
  | .inl x :: S' => rx_cmp F c x (.inl 0) (K (rx_find cd a) L S' w cc ss) (K rest L S' w cc ss)
  | _ => none
noncomputable def rx_sw (F : rx_F) (cd : List rx_E) (K : rx_K) (a b c : Nat) (t : List Nat) (L : rx_L) (S : List rx_V) (w : List rx_C) (cc ss : Nat) : Option rx_R := match S with
  | .inl x :: S' => cond (Nat.blt (rx_iv F x).2 b || Nat.blt c (rx_iv F x).1) (K (rx_find cd a) L S' w cc ss) (cond (Nat.beq (rx_iv F x).1 (rx_iv F x).2) (rx_at t ((rx_iv F x).1 - b) (fun g => K (rx_find cd g) L S' w cc ss)) none)
  | _ => none
noncomputable def rx_gf (K : rx_K) (rest : List rx_E) (a b c : Nat) (L : rx_L) (S : List rx_V) (w : List rx_C) (cc ss : Nat) : Option rx_R := match S with
  | .inr (.inr (.inl (some k))) :: S' => cond (Nat.ble c 1) (rx_at w k (fun x => match x with
    | .inl o => cond (Nat.beq o.1 a) (rx_at o.2 b (fun v => K rest L (v :: S') w cc ss)) none
    | .inr _ => none)) none
  | .inr (.inr (.inr k)) :: S' => cond (Nat.beq k 1) (cond (Nat.beq c 2) (K rest L (.inr (.inr (.inr 2)) :: S') w cc ss) (cond (Nat.beq c 3) (K rest L (.inl (.inl 0) :: S') w cc ss) none)) none
  | _ => none
/-- whether a value may lie in a field or place of a kind: 0 int, 2 boolean, 3 long, 4 a reference -/
def rx_fit (q : Nat) (v : rx_V) : Bool := match v with
  | .inl (.inl n) => Nat.beq q 0 || (Nat.beq q 2 && Nat.ble n 1)
  | .inl (.inr _) => Nat.beq q 0
  | .inr (.inl _) => Nat.beq q 3
  | .inr (.inr _) => Nat.beq q 4
noncomputable def rx_pf (K : rx_K) (rest : List rx_E) (a b c : Nat) (L : rx_L) (S : List rx_V) (w : List rx_C) (cc ss : Nat) : Option rx_R := match S with
  | v :: .inr (.inr (.inl (some k))) :: S' => cond (rx_fit c v) (rx_at w k (fun x => match x with
    | .inl o => cond (Nat.beq o.1 a) (rx_set o.2 b v (fun fs => rx_set w k (.inl (o.1, fs)) (fun w' => K rest L S' w' cc ss))) none
    | .inr _ => none)) none
  | _ => none
/-- what an array's untouched place holds -/
def rx_df (t : Nat) : rx_V := match t with
  | 3 => .inr (.inl (.inl 0))
  | 4 => .inr (.inr (.inl none))
  | _ => .inl (.inl 0)
def rx_isK (q : Nat) (v : rx_V) : Bool := match v with
  | .inl _ => Nat.beq q 0 || Nat.beq q 1
  | .inr (.inl _) => Nat.beq q 3
  | .inr (.inr (.inl _)) => Nat.beq q 4
  | .inr (.inr (.inr _)) => false
noncomputable def rx_al (F : rx_F) (sl : Nat) (txt : List Nat) (q : Nat) (K : rx_K) (rest : List rx_E) (L : rx_L) (S : List rx_V) (w : List rx_C) (cc ss : Nat) : Option rx_R := match S with
  | .inl (.inl j) :: .inr (.inr (.inl (some k))) :: S' => rx_at w k (fun x => match x with
    | .inr (t, n, u) => cond (Nat.blt j n && (Nat.blt n 2147483648 && (Nat.beq t q || (Nat.beq q 1 && Nat.beq t 2)))) (cond (rx_isK q (rx_lk u j (rx_df t))) (K rest L (rx_lk u j (rx_df t) :: S') w cc ss) none) none
    | .inl _ => none)
  | .inl (.inl j) :: .inr (.inr (.inr k)) :: S' => cond (Nat.beq k 0) (cond (Nat.blt (Nat.succ j) sl && (Nat.blt sl 2147483648 && Nat.beq q 0)) (K rest L (.inl (rx_nm F (j, [])) :: S') w cc ss) none) (cond (Nat.beq k 2 && Nat.beq q 1) (rx_at txt j (fun z => K rest L (.inl (.inl z) :: S') w cc ss)) none)
  | _ => none
/-- what an array keeps of a value -/
def rx_nar (t : Nat) (v : rx_V) : rx_V := match t with
  | 1 => (match v with
    | .inl (.inl x) => .inl (.inl (cond (Nat.blt (x % 256) 128) (x % 256) (x % 256 + 4294967040)))
    | .inl (.inr u) => .inl (.inr (u.1, (2, 0) :: u.2))
    | y => y)
  | _ => v
noncomputable def rx_as (q : Nat) (K : rx_K) (rest : List rx_E) (L : rx_L) (S : List rx_V) (w : List rx_C) (cc ss : Nat) : Option rx_R := match S with
  | v :: .inl (.inl j) :: .inr (.inr (.inl (some k))) :: S' => rx_at w k (fun x => match x with
    | .inr (t, n, u) => cond (Nat.blt j n && (Nat.blt n 2147483648 && ((Nat.beq t q || (Nat.beq q 1 && Nat.beq t 2)) && rx_fit (cond (Nat.beq t 1) 0 t) v))) (rx_rem (fun i _ => Nat.beq i j) u (fun u' => rx_set w k (.inr (t, n, (j, rx_nar t v) :: u')) (fun w' => K rest L S' w' cc ss))) none
    | .inl _ => none)
  | _ => none
/-- a reference into an array of references: the object's class is looked at -/
noncomputable def rx_aq (a : Nat) (K : rx_K) (rest : List rx_E) (L : rx_L) (S : List rx_V) (w : List rx_C) (cc ss : Nat) : Option rx_R := match S with
  | .inr (.inr (.inl (some y))) :: _ => rx_at w y (fun x => match x with
    | .inl o => cond (Nat.beq o.1 a) (rx_as 4 K rest L S w cc ss) none
    | .inr _ => none)
  | _ => none
noncomputable def rx_len (sl tl : Nat) (K : rx_K) (rest : List rx_E) (L : rx_L) (S : List rx_V) (w : List rx_C) (cc ss : Nat) : Option rx_R := match S with
  | .inr (.inr (.inl (some k))) :: S' => rx_at w k (fun x => match x with
    | .inr (t, n, _) => cond (Nat.blt t 5) (K rest L (.inl (.inl n) :: S') w cc ss) none
    | .inl _ => none)
  | .inr (.inr (.inr k)) :: S' => cond (Nat.beq k 0) (cond (Nat.blt 0 sl) (K rest L (.inl (.inl (sl - 1)) :: S') w cc ss) none) (cond (Nat.beq k 2) (K rest L (.inl (.inl tl) :: S') w cc ss) none)
  | _ => none
noncomputable def rx_na (al : Bool) (mc ms t : Nat) (K : rx_K) (rest : List rx_E) (L : rx_L) (S : List rx_V) (w : List rx_C) (cc ss : Nat) : Option rx_R := match S with
  | .inl (.inl n) :: S' => cond (al && (Nat.ble n 67108864 && (Nat.ble (Nat.succ cc) mc && Nat.ble (ss + n) ms))) (rx_snoc w (.inr (t, n, [])) 0 (fun w' k => K rest L (.inr (.inr (.inl (some k))) :: S') w' (Nat.succ cc) (ss + n))) none
  | _ => none
noncomputable def rx_nw (al : Bool) (mc ms a b : Nat) (df : List rx_V) (K : rx_K) (rest : List rx_E) (L : rx_L) (S : List rx_V) (w : List rx_C) (cc ss : Nat) : Option rx_R := cond (al && (Nat.ble (Nat.succ cc) mc && Nat.ble (ss + b) ms)) (rx_snoc w (.inl (a, df)) 0 (fun w' k => K rest L (.inr (.inr (.inl (some k))) :: S) w' (Nat.succ cc) (ss + b))) none
noncomputable def rx_cpl (u : List (Nat × rx_V)) (sp dp : Nat) (tl : List (Nat × rx_V)) (n : Nat) : List (Nat × rx_V) := Nat.rec tl (fun m ih => (dp + m, rx_lk u (sp + m) (.inl (.inl 0))) :: ih) n
noncomputable def rx_cpy (K : rx_K) (rest : List rx_E) (L : rx_L) (S : List rx_V) (w : List rx_C) (cc ss : Nat) : Option rx_R := match S with
  | .inl (.inl n) :: .inl (.inl dp) :: .inr (.inr (.inl (some k1))) :: .inl (.inl sp) :: .inr (.inr (.inl (some k0))) :: S' => cond (Nat.ble (rx_cats S') 8) (rx_at w k0 (fun x => match x with
    | .inr (t0, n0, u0) => rx_at w k1 (fun y => match y with
      | .inr (t1, n1, u1) => cond (Nat.beq t0 0 && (Nat.beq t1 0 && (Nat.ble (sp + n) n0 && (Nat.ble (dp + n) n1 && (Nat.blt n0 2147483648 && Nat.blt n1 2147483648))))) (rx_set w k1 (.inr (t1, n1, rx_cpl u0 sp dp u1 n)) (fun w' => K rest L S' w' cc ss)) none
      | .inl _ => none)
    | .inl _ => none)) none
  | _ => none
/-- a call; q: 0 a method without a receiver in the world (static, constructor), 1 the receiver is an object of class a, 2 it is the text -/
noncomputable def rx_inv (al : Bool) (mc ms : Nat) (cap : Nat → Nat × Nat) (ex : Nat → List rx_V → List rx_C → Option (Option rx_V × List rx_C)) (K : rx_K) (rest : List rx_E) (nu n q a : Nat) (L : rx_L) (S : List rx_V) (w : List rx_C) (cc ss : Nat) : Option rx_R :=
  rx_take n S [] (fun as S' => cond (Nat.ble (rx_cats S') 8 && (Nat.ble (cc + (cap nu).1) mc && Nat.ble (ss + (cap nu).2) ms)) (match ex nu as w with
    | some (r, w') => (match q, as with
      | 0, _ => K rest L (match r with | some v => v :: S' | none => S') w' (cc + (cap nu).1) (ss + (cap nu).2)
      | 1, .inr (.inr (.inl (some k))) :: _ => rx_at w k (fun x => match x with
        | .inl o => cond (Nat.beq o.1 a) (K rest L (match r with | some v => v :: S' | none => S') w' (cc + (cap nu).1) (ss + (cap nu).2)) none
        | .inr _ => none)
      | 2, .inr (.inr (.inr k)) :: _ => cond (Nat.beq k 1) (K rest L (match r with | some v => v :: S' | none => S') w' (cc + (cap nu).1) (ss + (cap nu).2)) none
      | _, _ => none)
    | none => none) none)
noncomputable def rx_oi (K : rx_K) (rest : List rx_E) (L : rx_L) (S : List rx_V) (w : List rx_C) (cc ss : Nat) : Option rx_R := match S with
  | .inr (.inr (.inl (some _))) :: S' => cond (Nat.ble (rx_cats S') 8) (K rest L S' w cc ss) none
  | _ => none
noncomputable def rx_ii (nL : Nat) (K : rx_K) (rest : List rx_E) (a b : Nat) (L : rx_L) (S : List rx_V) (w : List rx_C) (cc ss : Nat) : Option rx_R := rx_get L a (fun v => match v with
  | .inl (.inl n) => cond (Nat.blt a nL) (rx_fN ((n + b) % 4294967296) (fun z => rx_rem (rx_P1 a) L (fun L' => K rest ((a, .inl (.inl z)) :: L') S w cc ss))) none
  | _ => none)
end
section
/-! a step, a run, a call. A table's row: code, locals, cells and slots that a call may make, the answer's kind (0 none, 1 int, 2 boolean, 3 byte, 4 char, 5 long) -/
abbrev rx_T : Type := List (List rx_E × Nat × Nat × Nat × Nat)
/-- bounds, whether cells may be made, the script's length, the text's bytes and length, the classes' blank fields -/
abbrev rx_G : Type := rx_F × Bool × Nat × List Nat × Nat × List (List rx_V)
noncomputable def rx_cap (tb : rx_T) (nu : Nat) : Nat × Nat := List.rec (fun _ => (0, 0)) (fun x _ ih n => Nat.rec (x.2.2.1, x.2.2.2.1) (fun m _ => ih m) n) tb nu
noncomputable def rx_step (G : rx_G) (cd : List rx_E) (nL mc ms : Nat) (cap : Nat → Nat × Nat) (ex : Nat → List rx_V → List rx_C → Option (Option rx_V × List rx_C)) (K : rx_K) (e : rx_E) (rest : List rx_E) (L : rx_L) (S : List rx_V) (w : List rx_C) (cc ss : Nat) : Option rx_R :=
  match e.2.1 with
  | .iconst _ => K rest L (.inl (.inl e.2.2.2.1) :: S) w cc ss
  | .bipush _ => K rest L (.inl (.inl e.2.2.2.1) :: S) w cc ss
  | .sipush _ => K rest L (.inl (.inl e.2.2.2.1) :: S) w cc ss
  | .ldc _ => cond (Nat.beq e.2.2.2.2.1 0) (K rest L (.inl (.inl e.2.2.2.1) :: S) w cc ss) (K rest L (.inr (.inr (.inr 1)) :: S) w cc ss)
  | .ldc_w _ => K rest L (.inl (.inl e.2.2.2.1) :: S) w cc ss
  | .lconst _ => K rest L (.inr (.inl (.inl e.2.2.2.1)) :: S) w cc ss
  | .ldc2_w _ => K rest L (.inr (.inl (.inl e.2.2.2.1)) :: S) w cc ss
  | .iload _ => rx_ld 0 K rest e.2.2.2.1 L S w cc ss
  | .iload_n _ => rx_ld 0 K rest e.2.2.2.1 L S w cc ss
  | .lload _ => rx_ld 1 K rest e.2.2.2.1 L S w cc ss
  | .lload_n _ => rx_ld 1 K rest e.2.2.2.1 L S w cc ss
  | .aload _ => rx_ld 2 K rest e.2.2.2.1 L S w cc ss
  | .aload_n _ => rx_ld 2 K rest e.2.2.2.1 L S w cc ss
  | .istore _ => rx_st 0 nL K rest e.2.2.2.1 L S w cc ss
  | .istore_n _ => rx_st 0 nL K rest e.2.2.2.1 L S w cc ss
  | .lstore _ => rx_st 1 nL K rest e.2.2.2.1 L S w cc ss
  | .lstore_n _ => rx_st 1 nL K rest e.2.2.2.1 L S w cc ss
  | .astore _ => rx_st 2 nL K rest e.2.2.2.1 L S w cc ss
  | .astore_n _ => rx_st 2 nL K rest e.2.2.2.1 L S w cc ss
  | .iinc _ _ => rx_ii nL K rest e.2.2.2.1 e.2.2.2.2.1 L S w cc ss
  | .iadd => rx_o2 (fun _ _ => true) (fun x y => (x + y) % 4294967296) K rest L S w cc ss
  | .isub => rx_o2 (fun _ _ => true) (fun x y => (x + (4294967296 - y % 4294967296)) % 4294967296) K rest L S w cc ss
  | .imul => rx_o2 (fun _ _ => true) (fun x y => (x * y) % 4294967296) K rest L S w cc ss
  | .ior => rx_o2 (fun _ _ => true) (fun x y => Nat.lor x y) K rest L S w cc ss
  | .ixor => rx_o2 (fun _ _ => true) (fun x y => Nat.xor x y) K rest L S w cc ss
  | .ishl => rx_o2 (fun _ _ => true) (fun x y => (x * 2 ^ (y % 32)) % 4294967296) K rest L S w cc ss
  | .iushr => rx_o2 (fun _ _ => true) (fun x y => x % 4294967296 / 2 ^ (y % 32)) K rest L S w cc ss
  | .idiv => rx_o2 (fun x y => Nat.blt x 2147483648 && (Nat.blt y 2147483648 && Nat.blt 0 y)) (fun x y => x / y) K rest L S w cc ss
  | .irem => rx_o2 (fun x y => Nat.blt x 2147483648 && (Nat.blt y 2147483648 && Nat.blt 0 y)) (fun x y => x % y) K rest L S w cc ss
  | .iand => rx_o2u G.1 0 (fun _ _ => true) (fun x y => Nat.land x y) K rest L S w cc ss
  | .ishr => rx_o2u G.1 1 (fun x _ => Nat.blt x 2147483648) (fun x y => x / 2 ^ (y % 32)) K rest L S w cc ss
  | .i2c => rx_o1 (fun x => x % 65536) K rest L S w cc ss
  | .i2b => rx_i2bS G.1 K rest L S w cc ss
  | .i2l => rx_i2l K rest L S w cc ss
  | .l2i => rx_l2i K rest L S w cc ss
  | .ladd => rx_l2 (fun _ _ => true) (fun x y => (x + y) % 18446744073709551616) K rest L S w cc ss
  | .lsub => rx_l2 (fun _ _ => true) (fun x y => (x + (18446744073709551616 - y % 18446744073709551616)) % 18446744073709551616) K rest L S w cc ss
  | .lmul => rx_l2 (fun _ _ => true) (fun x y => (x * y) % 18446744073709551616) K rest L S w cc ss
  | .land => rx_l2 (fun _ _ => true) (fun x y => Nat.land x y) K rest L S w cc ss
  | .lor => rx_l2 (fun _ _ => true) (fun x y => Nat.lor x y) K rest L S w cc ss
  | .ldiv => rx_l2 (fun x y => Nat.blt x 9223372036854775808 && (Nat.blt y 9223372036854775808 && Nat.blt 0 y)) (fun x y => x / y) K rest L S w cc ss
  | .lrem => rx_l2 (fun x y => Nat.blt x 9223372036854775808 && (Nat.blt y 9223372036854775808 && Nat.blt 0 y)) (fun x y => x % y) K rest L S w cc ss
  | .lcmp => rx_lcmp K rest L S w cc ss
  | .dup => rx_dup K rest L S w cc ss
  | .dup2 => rx_dup2 K rest L S w cc ss
  | .pop => rx_pop K rest L S w cc ss
  | .if_icmp c _ => rx_ic G.1 c cd K rest e.2.2.2.1 L S w cc ss
  | .ifCond c _ => rx_if G.1 c cd K rest e.2.2.2.1 L S w cc ss
  | .goto _ => K (rx_find cd e.2.2.2.1) L S w cc ss
  | .tableswitch _ _ _ _ => rx_sw G.1 cd K e.2.2.2.1 e.2.2.2.2.1 e.2.2.2.2.2.1 e.2.2.2.2.2.2 L S w cc ss
  | .getfield _ => rx_gf K rest e.2.2.2.1 e.2.2.2.2.1 e.2.2.2.2.2.1 L S w cc ss
  | .putfield _ => rx_pf K rest e.2.2.2.1 e.2.2.2.2.1 e.2.2.2.2.2.1 L S w cc ss
  | .getstatic _ => cond (Nat.beq e.2.2.2.1 0) (K rest L (.inl (.inl 1) :: S) w cc ss) (cond (Nat.beq e.2.2.2.1 1) (K rest L (.inr (.inr (.inr 3)) :: S) w cc ss) none)
  | .iaload => rx_al G.1 G.2.2.1 G.2.2.2.1 0 K rest L S w cc ss
  | .baload => rx_al G.1 G.2.2.1 G.2.2.2.1 1 K rest L S w cc ss
  | .laload => rx_al G.1 G.2.2.1 G.2.2.2.1 3 K rest L S w cc ss
  | .aaload => rx_al G.1 G.2.2.1 G.2.2.2.1 4 K rest L S w cc ss
  | .iastore => rx_as 0 K rest L S w cc ss
  | .bastore => rx_as 1 K rest L S w cc ss
  | .lastore => rx_as 3 K rest L S w cc ss
  | .aastore => rx_aq e.2.2.2.1 K rest L S w cc ss
  | .arraylength => rx_len G.2.2.1 G.2.2.2.2.1 K rest L S w cc ss
  | .newarray _ => rx_na G.2.1 mc ms e.2.2.2.1 K rest L S w cc ss
  | .anewarray _ => rx_na G.2.1 mc ms e.2.2.2.1 K rest L S w cc ss
  | .new _ => rx_at G.2.2.2.2.2 e.2.2.2.1 (fun df => rx_nw G.2.1 mc ms e.2.2.2.1 e.2.2.2.2.1 df K rest L S w cc ss)
  | .invokevirtual _ => rx_at e.2.2.2.2.2.2 0 (fun ci => rx_inv G.2.1 mc ms cap ex K rest e.2.2.2.1 e.2.2.2.2.1 e.2.2.2.2.2.1 ci L S w cc ss)
  | .invokespecial _ => cond (Nat.beq e.2.2.2.2.2.1 3) (rx_oi K rest L S w cc ss) (rx_at e.2.2.2.2.2.2 0 (fun ci => rx_inv G.2.1 mc ms cap ex K rest e.2.2.2.1 e.2.2.2.2.1 1 ci L S w cc ss))
  | .invokestatic _ => cond (Nat.beq e.2.2.2.2.2.1 4) (rx_cpy K rest L S w cc ss) (rx_inv G.2.1 mc ms cap ex K rest e.2.2.2.1 e.2.2.2.2.1 0 0 L S w cc ss)
  | .return_ => some (e :: rest, L, S, w, cc, ss)
  | .ireturn => some (e :: rest, L, S, w, cc, ss)
  | .lreturn => some (e :: rest, L, S, w, cc, ss)
  | _ => none
noncomputable def rx_loop (G : rx_G) (cd : List rx_E) (nL mc ms : Nat) (cap : Nat → Nat × Nat) (ex : Nat → List rx_V → List rx_C → Option (Option rx_V × List rx_C)) (stop n : Nat) : rx_K :=
  Nat.rec (fun _ _ _ _ _ _ => none) (fun _ ih cs L S w cc ss => match cs with
    | [] => none
    | e :: rest => cond (Nat.beq e.1 stop) (some (e :: rest, L, S, w, cc, ss)) (rx_step G cd nL mc ms cap ex ih e rest L S w cc ss)) n
noncomputable def rx_args (as : List rx_V) : Nat → rx_L := List.rec (fun _ => []) (fun v _ ih i => (i, v) :: ih (i + rx_cat v)) as
noncomputable def rx_end (q : Nat) (i : Jvm.ClassFile.Instr) (S : List rx_V) (w : List rx_C) : Option (Option rx_V × List rx_C) := match i with
  | .return_ => cond (Nat.beq q 0) (match S with | [] => some (none, w) | _ => none) none
  | .ireturn => (match S with
    | [.inl (.inl n)] => cond (Nat.beq q 1 || ((Nat.beq q 2 && Nat.ble n 1) || ((Nat.beq q 3 && Nat.blt n 128) || (Nat.beq q 4 && Nat.blt n 65536)))) (some (some (.inl (.inl n)), w)) none
    | [.inl (.inr u)] => cond (Nat.beq q 1) (some (some (.inl (.inr u)), w)) none
    | _ => none)
  | .lreturn => (match S with
    | [.inr (.inl x)] => cond (Nat.beq q 5) (some (some (.inr (.inl x)), w)) none
    | _ => none)
  | _ => none
noncomputable def rx_ex (G : rx_G) (tb : rx_T) (fuel d : Nat) : Nat → List rx_V → List rx_C → Option (Option rx_V × List rx_C) :=
  Nat.rec (fun _ _ _ => none) (fun _ ih nu as w => rx_at tb nu (fun m => cond (Nat.ble (rx_cats as) m.2.1) (match rx_loop G m.1 m.2.1 m.2.2.1 m.2.2.2.1 (rx_cap tb) ih 99999999 fuel m.1 (rx_args as 0) [] w 0 0 with
    | some (e :: _, _, S, w', cc, ss) => cond (Nat.beq m.2.2.1 cc && Nat.ble ss m.2.2.2.1) (rx_end m.2.2.2.2 e.2.1 S w') none
    | _ => none) none)) d
end
section
/-! WHAT IT MEANS. X: the script's ints, the first cell's address, the constants' addresses (0 the script, 1 the text, 2 its bytes, 3 a formatter or null), the array classes -/
abbrev rx_X : Type := (Nat → Int32) × Nat × (Nat → Option Nat) × (Nat → ClassId)
def rx_op (o : Nat) (x y : Int32) : Int32 := match o with
  | 0 => x &&& y
  | 1 => x >>> (y &&& 31)
  | 2 => x.toInt8.toInt32
  | _ => x
def rx_U (X : rx_X) (k : Nat) : List (Nat × Nat) → Int32
  | [] => X.1 k
  | q :: l => rx_op q.1 (rx_U X k l) (nI q.2)
def rx_N (X : rx_X) (x : rx_I) : Int32 := match x with
  | .inl n => nI n
  | .inr u => rx_U X u.1 u.2
def rx_d (X : rx_X) (v : rx_V) : Value := match v with
  | .inl i => .int (rx_N X i)
  | .inr (.inl (.inl n)) => .long (lN n)
  | .inr (.inl (.inr k)) => .long (X.1 k).toInt64
  | .inr (.inr (.inl none)) => .null
  | .inr (.inr (.inl (some k))) => .ref (X.2.1 + k)
  | .inr (.inr (.inr j)) => va_rf (X.2.2.1 j)
theorem rx_cat_d (X : rx_X) (v : rx_V) : (rx_d X v).category = rx_cat v := by
  rcases v with i | ((n | k) | ((_ | k) | j)) <;> try rfl
  show (va_rf (X.2.2.1 j)).category = 1
  cases X.2.2.1 j <;> rfl
def rx_vi (X : rx_X) (v : rx_V) : Int32 := match v with
  | .inl i => rx_N X i
  | _ => 0
def rx_vl (X : rx_X) (v : rx_V) : Int64 := match v with
  | .inr (.inl (.inl n)) => lN n
  | .inr (.inl (.inr k)) => (X.1 k).toInt64
  | _ => 0
def rx_vr (X : rx_X) (v : rx_V) : Option Nat := match v with
  | .inr (.inr (.inl (some k))) => some (X.2.1 + k)
  | _ => none
noncomputable def rx_ct (X : rx_X) (t : Nat) (u : List (Nat × rx_V)) : (Nat → Int32) ⊕ (Nat → Int64) ⊕ (Nat → UInt32) ⊕ (Nat → UInt64) ⊕ (Nat → Option Nat) := match t with
  | 3 => .inr (.inl (fun j => rx_vl X (rx_lk u j (rx_df 3))))
  | 4 => .inr (.inr (.inr (.inr (fun j => rx_vr X (rx_lk u j (rx_df 4))))))
  | _ => .inl (fun j => rx_vi X (rx_lk u j (rx_df 0)))
noncomputable def rx_ce (X : rx_X) (c : rx_C) : va_E := match c with
  | .inl o => .inr (o.1, o.2.map (rx_d X))
  | .inr a => .inl (X.2.2.2 a.1, a.2.1, rx_ct X a.1 a.2.2)
noncomputable def rx_w (X : rx_X) : Nat → List rx_C → va_W
  | _, [] => []
  | k, c :: t => (X.2.1 + k, rx_ce X c) :: rx_w X (k + 1) t
theorem rx_w_at (X : rx_X) : ∀ (w : List rx_C) (k i : Nat), (rx_w X k w)[i]? = (w[i]?).map (fun c => (X.2.1 + (k + i), rx_ce X c)) := by
  intro w
  induction w with
  | nil => intro k i; simp [rx_w]
  | cons c t ih =>
    intro k i
    cases i with
    | zero => simp [rx_w]
    | succ i =>
      simp only [rx_w, List.getElem?_cons_succ, ih]
      rw [show k + 1 + i = k + (i + 1) by omega]
theorem rx_w_get {X : rx_X} {w : List rx_C} {i : Nat} {c : rx_C} (h : w[i]? = some c) : (rx_w X 0 w)[i]? = some (X.2.1 + i, rx_ce X c) := by
  rw [rx_w_at, h, Option.map_some, Nat.zero_add]
theorem rx_w_set (X : rx_X) (c : rx_C) : ∀ (w : List rx_C) (k i : Nat), (rx_w X k w).set i (X.2.1 + (k + i), rx_ce X c) = rx_w X k (w.set i c) := by
  intro w
  induction w with
  | nil => intro k i; simp [rx_w]
  | cons d t ih =>
    intro k i
    cases i with
    | zero => simp [rx_w]
    | succ i =>
      simp only [rx_w, List.set_cons_succ]
      rw [← ih (k + 1) i, show k + 1 + i = k + (i + 1) by omega]
theorem rx_w_set0 {X : rx_X} {c : rx_C} {w : List rx_C} {i : Nat} : (rx_w X 0 w).set i (X.2.1 + i, rx_ce X c) = rx_w X 0 (w.set i c) := by
  have h := rx_w_set X c w 0 i
  rw [Nat.zero_add] at h
  exact h
theorem rx_w_app (X : rx_X) (c : rx_C) : ∀ (w : List rx_C) (k : Nat), rx_w X k (w ++ [c]) = rx_w X k w ++ [(X.2.1 + (k + w.length), rx_ce X c)] := by
  intro w
  induction w with
  | nil => intro k; simp [rx_w]
  | cons d t ih =>
    intro k
    simp only [rx_w, List.cons_append, ih, List.length_cons]
    rw [show k + 1 + t.length = k + (t.length + 1) by omega]
theorem rx_w_D (X : rx_X) (w : List rx_C) : va_D (fun q => X.2.1 ≤ q) (rx_w X 0 w) := by
  refine ⟨fun i j p q hi hj e => ?_, fun k q hk => ?_⟩
  · rw [rx_w_at] at hi hj
    cases h1 : w[i]? with
    | none => rw [h1] at hi; cases hi
    | some c =>
      cases h2 : w[j]? with
      | none => rw [h2] at hj; cases hj
      | some d =>
        rw [h1] at hi
        rw [h2] at hj
        cases hi
        cases hj
        simp only at e
        omega
  · rw [rx_w_at] at hk
    cases h1 : w[k]? with
    | none => rw [h1] at hk; cases hk
    | some c =>
      rw [h1] at hk
      cases hk
      exact Nat.le_add_right _ _
-- small things of Bool and Nat
theorem rx_c {α : Type} {b : Bool} {x : Option α} {r : α} (h : cond b x none = some r) : b = true ∧ x = some r := by
  cases b
  · cases h
  · exact ⟨rfl, h⟩
theorem rx_bq {a b : Nat} (h : Nat.beq a b = true) : a = b := Nat.eq_of_beq_eq_true h
theorem rx_bl {a b : Nat} (h : Nat.ble a b = true) : a ≤ b := Nat.le_of_ble_eq_true h
theorem rx_bt {a b : Nat} (h : Nat.blt a b = true) : a < b := Nat.le_of_ble_eq_true h
theorem rx_an {a b : Bool} (h : (a && b) = true) : a = true ∧ b = true := by simpa using h
theorem rx_bF {a b : Nat} (h : Nat.ble a b = false) : b < a := by
  rcases Nat.lt_or_ge b a with q | q
  · exact q
  · rw [Nat.ble_eq_true_of_le q] at h; cases h
-- facts of the script's ints
def rx_fok (X : rx_X) (F : rx_F) : Prop := ∀ q ∈ F, q.2.1 ≤ rx_b (rx_U X q.1.1 q.1.2) ∧ rx_b (rx_U X q.1.1 q.1.2) ≤ q.2.2
theorem rx_fact_ok {X : rx_X} {F : rx_F} (h : rx_fok X F) (u : Nat × List (Nat × Nat)) : (rx_fact F u).1 ≤ rx_b (rx_U X u.1 u.2) ∧ rx_b (rx_U X u.1 u.2) ≤ (rx_fact F u).2 := by
  induction F with
  | nil =>
    have h1 := rx_b_lt (rx_U X u.1 u.2)
    exact ⟨Nat.zero_le _, by show _ ≤ 4294967295; omega⟩
  | cons q t ih =>
    have ht : rx_fok X t := fun z hz => h z (List.mem_cons_of_mem _ hz)
    change (cond (decide (q.1 = u)) q.2 (rx_fact t u)).1 ≤ _ ∧ _ ≤ (cond (decide (q.1 = u)) q.2 (rx_fact t u)).2
    by_cases e : q.1 = u
    · rw [decide_eq_true e]
      have h1 := h q List.mem_cons_self
      rw [e] at h1
      exact h1
    · rw [decide_eq_false e]
      exact ih ht
theorem rx_iv_ok {X : rx_X} {F : rx_F} (h : rx_fok X F) (x : rx_I) : (rx_iv F x).1 ≤ rx_b (rx_N X x) ∧ rx_b (rx_N X x) ≤ (rx_iv F x).2 := by
  rcases x with n | u
  · have h1 := rx_b_nI n
    exact ⟨Nat.le_of_eq h1.symm, Nat.le_of_eq h1⟩
  · exact rx_fact_ok h u
theorem rx_lt_ok {X : rx_X} {F : rx_F} (h : rx_fok X F) {x y : rx_I} {b : Bool} (e : rx_lt? F x y = some b) : (rx_N X x < rx_N X y) ↔ b = true := by
  have h1 := rx_iv_ok h x
  have h2 := rx_iv_ok h y
  rw [rx_lt]
  unfold rx_lt? at e
  cases c1 : Nat.blt (rx_iv F x).2 (rx_iv F y).1 with
  | true =>
    rw [c1] at e
    cases e
    have := rx_bt c1
    exact ⟨fun _ => rfl, fun _ => by omega⟩
  | false =>
    rw [c1] at e
    cases c2 : Nat.ble (rx_iv F y).2 (rx_iv F x).1 with
    | true =>
      rw [c2] at e
      cases e
      have := rx_bl c2
      exact ⟨fun q => by omega, fun q => by cases q⟩
    | false => rw [c2] at e; cases e
theorem rx_eq_ok {X : rx_X} {F : rx_F} (h : rx_fok X F) {x y : rx_I} {b : Bool} (e : rx_eq? F x y = some b) : (rx_N X x = rx_N X y) ↔ b = true := by
  have h1 := rx_iv_ok h x
  have h2 := rx_iv_ok h y
  rw [rx_eq]
  unfold rx_eq? at e
  cases c1 : Nat.blt (rx_iv F x).2 (rx_iv F y).1 with
  | true =>
    rw [c1] at e
    cases e
    have := rx_bt c1
    exact ⟨fun q => by omega, fun q => by cases q⟩
  | false =>
    rw [c1] at e
    cases c2 : Nat.blt (rx_iv F y).2 (rx_iv F x).1 with
    | true =>
      rw [c2] at e
      cases e
      have := rx_bt c2
      exact ⟨fun q => by omega, fun q => by cases q⟩
    | false =>
      rw [c2] at e
      obtain ⟨c3, e⟩ := rx_c e
      cases e
      obtain ⟨g1, c4⟩ := rx_an c3
      obtain ⟨g2, g3⟩ := rx_an c4
      have g1 := rx_bq g1
      have g2 := rx_bq g2
      have g3 := rx_bq g3
      exact ⟨fun _ => rfl, fun _ => by omega⟩
theorem rx_nm_ok {X : rx_X} {F : rx_F} (h : rx_fok X F) (u : Nat × List (Nat × Nat)) : rx_N X (rx_nm F u) = rx_U X u.1 u.2 := by
  have h1 := rx_fact_ok h u
  unfold rx_nm
  cases c1 : (Nat.beq (rx_fact F u).1 (rx_fact F u).2 && Nat.blt (rx_fact F u).1 4294967296) with
  | true =>
    obtain ⟨g1, g2⟩ := rx_an c1
    have g1 := rx_bq g1
    have g2 := rx_bt g2
    show nI (((rx_fact F u).1 + 2147483648) % 4294967296) = _
    rw [rx_eq, rx_b_nI]
    omega
  | false => rfl
theorem rx_cmp_ok {X : rx_X} {F : rx_F} (h : rx_fok X F) {c : Jvm.ClassFile.Cond} {x y : rx_I} {t f : Option rx_R} {r : rx_R} (e : rx_cmp F c x y t f = some r) : match c with
    | .lt => (rx_N X x < rx_N X y ∧ t = some r) ∨ (¬ rx_N X x < rx_N X y ∧ f = some r)
    | .ge => (rx_N X y ≤ rx_N X x ∧ t = some r) ∨ (¬ rx_N X y ≤ rx_N X x ∧ f = some r)
    | .gt => (rx_N X y < rx_N X x ∧ t = some r) ∨ (¬ rx_N X y < rx_N X x ∧ f = some r)
    | .le => (rx_N X x ≤ rx_N X y ∧ t = some r) ∨ (¬ rx_N X x ≤ rx_N X y ∧ f = some r)
    | .eq => (rx_N X x = rx_N X y ∧ t = some r) ∨ (¬ rx_N X x = rx_N X y ∧ f = some r)
    | .ne => (¬ rx_N X x = rx_N X y ∧ t = some r) ∨ (rx_N X x = rx_N X y ∧ f = some r) := by
  have nl : ∀ a b : Int32, ¬ a < b ↔ b ≤ a := fun a b => Int32.not_lt
  cases c <;> (unfold rx_cmp at e; dsimp only at e ⊢)
  · cases q : rx_eq? F x y with
    | none => rw [q] at e; cases e
    | some b => rw [q] at e; have w := rx_eq_ok h q; cases b <;> simp_all [rx_br]
  · cases q : rx_eq? F x y with
    | none => rw [q] at e; cases e
    | some b => rw [q] at e; have w := rx_eq_ok h q; cases b <;> simp_all [rx_br]
  · cases q : rx_lt? F x y with
    | none => rw [q] at e; cases e
    | some b => rw [q] at e; have w := rx_lt_ok h q; cases b <;> simp_all [rx_br]
  · cases q : rx_lt? F x y with
    | none => rw [q] at e; cases e
    | some b => rw [q] at e; have w := rx_lt_ok h q; rw [← nl]; cases b <;> simp_all [rx_br]
  · cases q : rx_lt? F y x with
    | none => rw [q] at e; cases e
    | some b => rw [q] at e; have w := rx_lt_ok h q; cases b <;> simp_all [rx_br]
  · cases q : rx_lt? F y x with
    | none => rw [q] at e; cases e
    | some b => rw [q] at e; have w := rx_lt_ok h q; rw [← nl]; cases b <;> simp_all [rx_br]
end
section
/-! what a state must be: the tables' words, the classes, the constants -/
def rx_words : List Cond := lw_tbl.filter goodWord
theorem rx_words_good : GoodIn rx_words rx_words := fun w h => ⟨h, good_of_word (List.mem_filter.mp h).2⟩
def rx_isN (w : Cond) : Bool := match w with
  | .fieldLinkNest _ _ _ _ _ _ => true
  | .methodLinkNest _ _ _ _ => true
  | _ => false
def rx_NW : List Cond := lw_tbl.filter rx_isN
theorem rx_NW_warm {s U : State} (hW : s.WarmedH U.vm) (h : ∀ w ∈ rx_NW, va_Nw w s) : ∀ w ∈ rx_NW, va_Nw w U := by
  intro w hw
  have h1 := h w hw
  have h2 := (List.mem_filter.mp hw).2
  cases w <;> first | (exact va_Nw.warmF hW h1) | (exact va_Nw.warmM hW h1) | (cases h2)
def rx_tys (X : rx_X) : List (ClassId × FieldType) := [(X.2.2.2 0, .int), (X.2.2.2 1, .byte), (X.2.2.2 2, .boolean), (X.2.2.2 3, .long), (X.2.2.2 4, .object "GreyRoute$State")]
def rx_A (X : rx_X) : Nat → Prop := fun q => X.2.1 ≤ q
def rx_U0 (X : rx_X) (D : va_G) (G : rx_G) (U : State) : Prop :=
  va_K D vwCl (rx_tys X) U ∧ (∀ w ∈ rx_NW, va_Nw w U) ∧ va_AO "GreyRoute$State" U ∧
  (∃ b, X.2.2.1 0 = some b ∧ (0 < G.2.2.1 → va_X b (G.2.2.1 - 1) X.1 U U.heap) ∧ b < X.2.1) ∧
  (∃ (q1 q2 : Nat) (tx : String), X.2.2.1 1 = some q1 ∧ X.2.2.1 2 = some q2 ∧ vk_R "GreyRoute$Words" 38 tx q1 U ∧ va_O "java/lang/String" q1 (rx_A X) U U.heap ∧ va_OF "java/lang/String" "coder" "B" (.int 0) q1 (rx_A X) U U.heap ∧ va_OF "java/lang/String" "value" "[B" (.ref q2) q1 (rx_A X) U U.heap ∧ va_T .byte q2 G.2.2.2.2.1 (fun j => .int (nI (G.2.2.2.1.getD j 0))) (rx_A X) U U.heap) ∧
  va_Z "java/lang/String" "COMPACT_STRINGS" "Z" (.int 1) (rx_A X) U U.heap ∧
  va_Z "jdk/internal/util/Preconditions" "SIOOBE_FORMATTER" "Ljava/util/function/BiFunction;" (va_rf (X.2.2.1 3)) (rx_A X) U U.heap ∧ X.2.1 ≤ U.heap.size
theorem rx_U0.to {X : rx_X} {D : va_G} {G : rx_G} {s U : State} (hW : s.WarmedH U.vm) (hz : s.heap.size ≤ U.heap.size) (hk : ∀ q : Nat, q < s.heap.size → ¬ rx_A X q → U.heap[q]? = s.heap[q]?) (h : rx_U0 X D G s) : rx_U0 X D G U := by
  obtain ⟨h1, h2, h3, ⟨b, b1, b2, b3⟩, ⟨q1, q2, tx, c1, c2, c3, c4, c5, c6, c7⟩, h5, h6, h7⟩ := h
  have hal := hW.alike
  refine ⟨va_K.moved hal h1, rx_NW_warm hW h2, h3.moved hal, ⟨b, b1, ?_, b3⟩, ⟨q1, q2, tx, c1, c2, c3.warm hW, ?_, ?_, ?_, ?_⟩, ?_, ?_, Nat.le_trans h7 hz⟩
  · exact fun h9 => va_X.moved hal ((b2 h9).kept (hk b (Nat.lt_of_lt_of_le b3 h7) (Nat.not_le.mpr b3)))
  · exact va_O.moved hal (c4.kept hk)
  · exact va_OF.moved hal (c5.kept hk)
  · exact va_OF.moved hal (c6.kept hk)
  · exact va_T.moved hal (c7.kept hk)
  · exact va_Z.moved hal (h5.kept hk)
  · exact va_Z.moved hal (h6.kept hk)
/-- a method's start and end -/
def rx_Pc (X : rx_X) (D : va_G) (G : rx_G) (as : List rx_V) (w : List rx_C) : Array Value → State → Prop := fun v U =>
  v = (as.map (rx_d X)).toArray ∧ va_P D vwCl (rx_w X 0 w) U.heap ∧ (G.2.1 = true → U.heap.size ≤ X.2.1 + w.length) ∧ rx_U0 X D G U
def rx_Qc (X : rx_X) (D : va_G) (G : rx_G) (mc : Nat) (r : Option rx_V) (w : List rx_C) : Array Value → State → Outcome → State → Prop := fun _ st oc t =>
  oc = .returned (r.map (rx_d X)) ∧ va_P D vwCl (rx_w X 0 w) t.heap ∧ (G.2.1 = true → st.heap.size + mc ≤ X.2.1 + w.length) ∧ st.heap.size ≤ t.heap.size ∧ ∀ q : Nat, q < st.heap.size → ¬ rx_A X q → t.heap[q]? = st.heap[q]?
theorem rx_Pc_blind (X : rx_X) (D : va_G) (G : rx_G) (as : List rx_V) (w : List rx_C) : FrameBlind (rx_Pc X D G as w) := by
  intro a U g mk h
  obtain ⟨h1, h2, h3, h4⟩ := h
  exact ⟨h1, h2, h3, rx_U0.to (s := U) (U := U.calling g mk a) (State.WarmedH.refl U) (Nat.le_refl _) (fun _ _ _ => rfl) h4⟩
/-- a method: its name, bytes, locals, answer -/
abbrev rx_Y : Type := MethodName × ByteArray × Nat × Option FieldType
def rx_rm (d mc ms : Nat) : Room := { frames := d, cells := mc, slots := ms, locals := 64 * d }
def rx_Met (l : Launch) (d mc ms : Nat) (Y : rx_Y) (X : rx_X) (D : va_G) (G : rx_G) (as : List rx_V) (w : List rx_C) (r : Option rx_V) (w' : List rx_C) : Prop :=
  Met l Y.1 (Cond.code Y.1 Y.2.1 Y.2.2.1 Y.2.2.2 :: rx_words) (rx_rm d mc ms) (rx_Pc X D G as w) (rx_Qc X D G mc r w') mc ms (rx_A X)
/-- within a method's body -/
def rx_Cx (p : Program) (s : State) (m : MethodId) (args : Array Value) (c : Code) (X : rx_X) (D : va_G) (G : rx_G) (own : String) (cc : ByteArray) (nL : Nat) : Prop :=
  p.tables.exec = Jvm.exec ∧ c.code = cc ∧ c.maxLocals = nL ∧ s.vm.findClass own = some m.cls ∧ (∀ w ∈ rx_words, w.before args s = true) ∧ rx_U0 X D G s ∧ rx_fok X G.1
def rx_Iv (X : rx_X) (D : va_G) (G : rx_G) (s : State) (w : List rx_C) (cc : Nat) (H : Heap) (locs : List Loc) : Prop :=
  va_P D vwCl (rx_w X 0 w) H ∧ (G.2.1 = true → s.heap.size + cc ≤ X.2.1 + w.length) ∧ va_S (rx_A X) s.heap H locs
def rx_Lm (X : rx_X) (L : rx_L) : List (Nat × Value) := L.map (fun q => (q.1, rx_d X q.2))
def rx_W (p : Program) (l : Launch) (e : Env) (R : Room) (s : State) (m : MethodId) (args : Array Value) (below : List Frame) (meth : Method) (c : Code) (Q : State → Prop) (X : rx_X) (D : va_G) (G : rx_G) (nL pc : Nat) (L : rx_L) (S : List rx_V) (w : List rx_C) (cc ss : Nat) : Prop :=
  ∀ (H : Heap) (locs : List Loc) (ls : Array Slot), rx_Iv X D G s w cc H locs → lv_has ls nL (rx_Lm X L) → W p l e R s m args below meth c H locs cc ss Q (F0 m pc ls (S.map (rx_d X)))
theorem rx_Lm_mem {X : rx_X} {L : rx_L} {ls : Array Slot} {nL i : Nat} {v : rx_V} (hl : lv_has ls nL (rx_Lm X L)) (h : (i, v) ∈ L) : ls[i]? = some (.val (rx_d X v)) := hl.2.2 (i, rx_d X v) (List.mem_map.mpr ⟨(i, v), h, rfl⟩)
theorem rx_lv_mono {ls : Array Slot} {nL : Nat} {l l' : List (Nat × Value)} (h : lv_has ls nL l) (hs : ∀ q ∈ l', q ∈ l) : lv_has ls nL l' := ⟨h.1, h.2.1, fun q hq => h.2.2 q (hs q hq)⟩
theorem rx_bnf (a b : Nat) : Nat.beq a b = false ↔ ¬ a = b := by
  constructor
  · intro h e
    subst e
    have h2 : Nat.beq a a = true := Nat.beq_refl a
    rw [h2] at h
    cases h
  · intro h
    cases c : Nat.beq a b with
    | true => exact absurd (rx_bq c) h
    | false => rfl
theorem rx_lv1 {X : rx_X} {L : rx_L} {ls : Array Slot} {nL a : Nat} {v : rx_V} (h : lv_has ls nL ((a, rx_d X v) :: (rx_Lm X L).filter (fun q => !(q.1 == a) && !(q.1 + 1 == a && q.2.category == 2)))) : lv_has ls nL (rx_Lm X ((a, v) :: L.filter (fun q => !rx_P1 a q.1 q.2))) := by
  refine rx_lv_mono h (fun q hq => ?_)
  obtain ⟨z, hz, rfl⟩ := List.mem_map.mp hq
  rcases List.mem_cons.mp hz with rfl | hz
  · exact List.mem_cons_self
  · obtain ⟨h1, h2⟩ := List.mem_filter.mp hz
    refine List.mem_cons_of_mem _ (List.mem_filter.mpr ⟨List.mem_map.mpr ⟨z, h1, rfl⟩, ?_⟩)
    show (!(z.1 == a) && !(z.1 + 1 == a && (rx_d X z.2).category == 2)) = true
    rw [rx_cat_d]
    unfold rx_P1 at h2
    simpa [Bool.not_or, rx_bnf] using h2
theorem rx_lv2 {X : rx_X} {L : rx_L} {ls : Array Slot} {nL a : Nat} {v : rx_V} (h : lv_has ls nL ((a, rx_d X v) :: (rx_Lm X L).filter (fun q => !(q.1 == a) && (!(q.1 == a + 1) && !(q.1 + 1 == a && q.2.category == 2))))) : lv_has ls nL (rx_Lm X ((a, v) :: L.filter (fun q => !rx_P2 a q.1 q.2))) := by
  refine rx_lv_mono h (fun q hq => ?_)
  obtain ⟨z, hz, rfl⟩ := List.mem_map.mp hq
  rcases List.mem_cons.mp hz with rfl | hz
  · exact List.mem_cons_self
  · obtain ⟨h1, h2⟩ := List.mem_filter.mp hz
    refine List.mem_cons_of_mem _ (List.mem_filter.mpr ⟨List.mem_map.mpr ⟨z, h1, rfl⟩, ?_⟩)
    show (!(z.1 == a) && (!(z.1 == a + 1) && !(z.1 + 1 == a && (rx_d X z.2).category == 2))) = true
    rw [rx_cat_d]
    unfold rx_P2 at h2
    simpa [Bool.not_or, rx_bnf] using h2
theorem rx_W_size {p : Program} {l : Launch} {e : Env} {R : Room} {s : State} {m : MethodId} {args : Array Value} {below : List Frame} {meth : Method} {c : Code} {H : Heap} {locs : List Loc} {cells slots : Nat} {Q : State → Prop} {g : JFrame} (k : H.size ≤ s.heap.size + cells → W p l e R s m args below meth c H locs cells slots Q g) : W p l e R s m args below meth c H locs cells slots Q g := by
  intro T hT Y
  have h := Y.heapSize
  rw [hT] at h
  exact k h T hT Y
theorem rx_low {X : rx_X} {D : va_G} {G : rx_G} {s : State} {w : List rx_C} {cc : Nat} {H : Heap} {locs : List Loc} (hI : rx_Iv X D G s w cc H locs) (h0 : X.2.1 ≤ s.heap.size) : X.2.1 + w.length ≤ H.size := by
  rcases Nat.eq_zero_or_pos w.length with hz | hz
  · have := hI.2.2.1
    omega
  · have h1 : w[w.length - 1]? = some (w[w.length - 1]'(by omega)) := List.getElem?_eq_getElem (by omega)
    have h2 := (hI.1 _ _ (rx_w_get (X := X) h1)).lt
    simp only at h2
    omega
end
section
/-! an instruction of the executor is an instruction of the machine -/
def rx_hS (W : Nat → rx_L → List rx_V → List rx_C → Nat → Nat → Prop) (K : rx_K) (cs : List rx_E) (r : rx_R) (n : Nat) : Prop := ∀ (L : rx_L) (S : List rx_V) (w : List rx_C) (cc ss : Nat), K cs L S w cc ss = some r → W n L S w cc ss
section RXI
variable {p : Program} {l : Launch} {e : Env} {R : Room} {s : State} {m : MethodId} {args : Array Value} {below : List Frame} {meth : Method} {c : Code} {Q : State → Prop} {X : rx_X} {D : va_G} {G : rx_G} {own : String} {bc : ByteArray} {nL pc : Nat} {K : rx_K} {rest cd : List rx_E} {L : rx_L} {S : List rx_V} {w : List rx_C} {cc ss : Nat} {r : rx_R}
theorem rx_q_iconst (C : rx_Cx p s m args c X D G own bc nL) {n : Int} {a : Nat} (hv : Int32.ofInt n = nI a) (hd : decode bc pc = .ok (.iconst n, 1)) (hS : rx_hS (rx_W p l e R s m args below meth c Q X D G nL) K rest r (pc + 1)) (h : K rest L (.inl (.inl a) :: S) w cc ss = some r) : rx_W p l e R s m args below meth c Q X D G nL pc L S w cc ss := by
  intro H locs ls hI hl
  exact lv_iconst C.1 C.2.1 hd hv (hS _ _ _ _ _ h H locs ls hI hl)
theorem rx_q_bipush (C : rx_Cx p s m args c X D G own bc nL) {n : Int} {a : Nat} (hv : (Int8.ofInt n).toInt32 = nI a) (hd : decode bc pc = .ok (.bipush n, 2)) (hS : rx_hS (rx_W p l e R s m args below meth c Q X D G nL) K rest r (pc + 2)) (h : K rest L (.inl (.inl a) :: S) w cc ss = some r) : rx_W p l e R s m args below meth c Q X D G nL pc L S w cc ss := by
  intro H locs ls hI hl
  exact lv_bipush C.1 C.2.1 hd hv (hS _ _ _ _ _ h H locs ls hI hl)
theorem rx_q_sipush (C : rx_Cx p s m args c X D G own bc nL) {n : Int} {a : Nat} (hv : (Int16.ofInt n).toInt32 = nI a) (hd : decode bc pc = .ok (.sipush n, 3)) (hS : rx_hS (rx_W p l e R s m args below meth c Q X D G nL) K rest r (pc + 3)) (h : K rest L (.inl (.inl a) :: S) w cc ss = some r) : rx_W p l e R s m args below meth c Q X D G nL pc L S w cc ss := by
  intro H locs ls hI hl
  exact lv_sipush C.1 C.2.1 hd hv (hS _ _ _ _ _ h H locs ls hI hl)
theorem rx_q_ldc (C : rx_Cx p s m args c X D G own bc nL) {k : Nat} {a : Nat} (hv : Cond.constant own k (nI a) ∈ rx_words) (hd : decode bc pc = .ok (.ldc k, 2)) (hS : rx_hS (rx_W p l e R s m args below meth c Q X D G nL) K rest r (pc + 2)) (h : K rest L (.inl (.inl a) :: S) w cc ss = some r) : rx_W p l e R s m args below meth c Q X D G nL pc L S w cc ss := by
  intro H locs ls hI hl
  exact lv_ldc C.1 C.2.1 C.2.2.2.1 (C.2.2.2.2.1 _ hv) hd (hS _ _ _ _ _ h H locs ls hI hl)
theorem rx_q_ldcw (C : rx_Cx p s m args c X D G own bc nL) {k : Nat} {a : Nat} (hv : Cond.constant own k (nI a) ∈ rx_words) (hd : decode bc pc = .ok (.ldc_w k, 3)) (hS : rx_hS (rx_W p l e R s m args below meth c Q X D G nL) K rest r (pc + 3)) (h : K rest L (.inl (.inl a) :: S) w cc ss = some r) : rx_W p l e R s m args below meth c Q X D G nL pc L S w cc ss := by
  intro H locs ls hI hl
  exact lv_ldcw C.1 C.2.1 C.2.2.2.1 (C.2.2.2.2.1 _ hv) hd (hS _ _ _ _ _ h H locs ls hI hl)
theorem rx_q_lconst (C : rx_Cx p s m args c X D G own bc nL) {n : Fin 2} {a : Nat} (hv : Int64.ofNat (n : Nat) = lN a) (hd : decode bc pc = .ok (.lconst n, 1)) (hS : rx_hS (rx_W p l e R s m args below meth c Q X D G nL) K rest r (pc + 1)) (h : K rest L (.inr (.inl (.inl a)) :: S) w cc ss = some r) : rx_W p l e R s m args below meth c Q X D G nL pc L S w cc ss := by
  intro H locs ls hI hl
  exact lv_lconst C.1 C.2.1 hd hv (hS _ _ _ _ _ h H locs ls hI hl)
theorem rx_q_ldc2 (C : rx_Cx p s m args c X D G own bc nL) {k : Nat} {a : Nat} (hv : Cond.constantLong own k (lN a) ∈ rx_words) (hd : decode bc pc = .ok (.ldc2_w k, 3)) (hS : rx_hS (rx_W p l e R s m args below meth c Q X D G nL) K rest r (pc + 3)) (h : K rest L (.inr (.inl (.inl a)) :: S) w cc ss = some r) : rx_W p l e R s m args below meth c Q X D G nL pc L S w cc ss := by
  intro H locs ls hI hl
  exact lv_ldc2 C.1 C.2.1 C.2.2.2.1 (C.2.2.2.2.1 _ hv) hd (hS _ _ _ _ _ h H locs ls hI hl)
theorem rx_q_ldcS (C : rx_Cx p s m args c X D G own bc nL) (ho : own = "GreyRoute$Words") (hd : decode bc pc = .ok (.ldc 38, 2)) (hS : rx_hS (rx_W p l e R s m args below meth c Q X D G nL) K rest r (pc + 2)) (h : K rest L (.inr (.inr (.inr 1)) :: S) w cc ss = some r) : rx_W p l e R s m args below meth c Q X D G nL pc L S w cc ss := by
  intro H locs ls hI hl
  obtain ⟨-, -, -, hown, -, ⟨-, -, -, -, ⟨q1, q2, tx, c1, -, c3, -⟩, -⟩, -⟩ := id C
  subst ho
  have k := hS _ _ _ _ _ h H locs ls hI hl
  have e1 : rx_d X (.inr (.inr (.inr 1))) = .ref q1 := by show va_rf _ = _; rw [c1]; rfl
  rw [List.map_cons, e1] at k
  exact va_ldcS C.1 C.2.1 hown c3 hd k
theorem rx_q_iload (C : rx_Cx p s m args c X D G own bc nL) {a : Nat} (hd : decode bc pc = .ok (.iload a, 2)) (hS : rx_hS (rx_W p l e R s m args below meth c Q X D G nL) K rest r (pc + 2)) (h : rx_ld 0 K rest a L S w cc ss = some r) : rx_W p l e R s m args below meth c Q X D G nL pc L S w cc ss := by
  obtain ⟨v, hm, h⟩ := rx_get_ok h
  rcases v with i | (n | ((_ | k) | j))
  · obtain ⟨-, h⟩ := rx_c h
    intro H locs ls hI hl
    exact lv_iload C.1 C.2.1 hd (rx_Lm_mem hl hm) (hS _ _ _ _ _ h H locs ls hI hl)
  · exact absurd (rx_c h).1 (by decide)
  · cases h
  · exact absurd (rx_c h).1 (by decide)
  · exact absurd (rx_c h).1 (by decide)
theorem rx_q_iload_n (C : rx_Cx p s m args c X D G own bc nL) {a : Nat} {kn : Fin 4} (hk : (kn : Nat) = a) (hd : decode bc pc = .ok (.iload_n kn, 1)) (hS : rx_hS (rx_W p l e R s m args below meth c Q X D G nL) K rest r (pc + 1)) (h : rx_ld 0 K rest a L S w cc ss = some r) : rx_W p l e R s m args below meth c Q X D G nL pc L S w cc ss := by
  obtain ⟨v, hm, h⟩ := rx_get_ok h
  rcases v with i | (n | ((_ | k) | j))
  · obtain ⟨-, h⟩ := rx_c h
    intro H locs ls hI hl
    exact lv_iload_n C.1 C.2.1 hd hk (rx_Lm_mem hl hm) (hS _ _ _ _ _ h H locs ls hI hl)
  · exact absurd (rx_c h).1 (by decide)
  · cases h
  · exact absurd (rx_c h).1 (by decide)
  · exact absurd (rx_c h).1 (by decide)
theorem rx_q_lload (C : rx_Cx p s m args c X D G own bc nL) {a : Nat} (hd : decode bc pc = .ok (.lload a, 2)) (hS : rx_hS (rx_W p l e R s m args below meth c Q X D G nL) K rest r (pc + 2)) (h : rx_ld 1 K rest a L S w cc ss = some r) : rx_W p l e R s m args below meth c Q X D G nL pc L S w cc ss := by
  obtain ⟨v, hm, h⟩ := rx_get_ok h
  rcases v with i | (n | ((_ | k) | j))
  · exact absurd (rx_c h).1 (by decide)
  · obtain ⟨-, h⟩ := rx_c h
    intro H locs ls hI hl
    rcases n with n | n
    · exact lv_lload C.1 C.2.1 hd (rx_Lm_mem hl hm) (hS _ _ _ _ _ h H locs ls hI hl)
    · exact lv_lload C.1 C.2.1 hd (rx_Lm_mem hl hm) (hS _ _ _ _ _ h H locs ls hI hl)
  · cases h
  · exact absurd (rx_c h).1 (by decide)
  · exact absurd (rx_c h).1 (by decide)
theorem rx_q_lload_n (C : rx_Cx p s m args c X D G own bc nL) {a : Nat} {kn : Fin 4} (hk : (kn : Nat) = a) (hd : decode bc pc = .ok (.lload_n kn, 1)) (hS : rx_hS (rx_W p l e R s m args below meth c Q X D G nL) K rest r (pc + 1)) (h : rx_ld 1 K rest a L S w cc ss = some r) : rx_W p l e R s m args below meth c Q X D G nL pc L S w cc ss := by
  obtain ⟨v, hm, h⟩ := rx_get_ok h
  rcases v with i | (n | ((_ | k) | j))
  · exact absurd (rx_c h).1 (by decide)
  · obtain ⟨-, h⟩ := rx_c h
    intro H locs ls hI hl
    rcases n with n | n
    · exact lv_lload_n C.1 C.2.1 hd hk (rx_Lm_mem hl hm) (hS _ _ _ _ _ h H locs ls hI hl)
    · exact lv_lload_n C.1 C.2.1 hd hk (rx_Lm_mem hl hm) (hS _ _ _ _ _ h H locs ls hI hl)
  · cases h
  · exact absurd (rx_c h).1 (by decide)
  · exact absurd (rx_c h).1 (by decide)
theorem rx_q_aload (C : rx_Cx p s m args c X D G own bc nL) {a : Nat} (hd : decode bc pc = .ok (.aload a, 2)) (hS : rx_hS (rx_W p l e R s m args below meth c Q X D G nL) K rest r (pc + 2)) (h : rx_ld 2 K rest a L S w cc ss = some r) : rx_W p l e R s m args below meth c Q X D G nL pc L S w cc ss := by
  obtain ⟨v, hm, h⟩ := rx_get_ok h
  rcases v with i | (n | ((_ | k) | j))
  · exact absurd (rx_c h).1 (by decide)
  · exact absurd (rx_c h).1 (by decide)
  · cases h
  · obtain ⟨-, h⟩ := rx_c h
    intro H locs ls hI hl
    exact lv_aload C.1 C.2.1 hd (rx_Lm_mem hl hm) (hS _ _ _ _ _ h H locs ls hI hl)
  · obtain ⟨-, h⟩ := rx_c h
    intro H locs ls hI hl
    have k := hS _ _ _ _ _ h H locs ls hI hl
    have g := rx_Lm_mem hl hm
    rw [List.map_cons] at k
    have e0 : rx_d X (.inr (.inr (.inr j))) = va_rf (X.2.2.1 j) := rfl
    rw [e0] at k g
    cases ej : X.2.2.1 j with
    | none => rw [ej] at k g; exact lv_aloadN C.1 C.2.1 hd g k
    | some y => rw [ej] at k g; exact lv_aload C.1 C.2.1 hd g k
theorem rx_q_aload_n (C : rx_Cx p s m args c X D G own bc nL) {a : Nat} {kn : Fin 4} (hk : (kn : Nat) = a) (hd : decode bc pc = .ok (.aload_n kn, 1)) (hS : rx_hS (rx_W p l e R s m args below meth c Q X D G nL) K rest r (pc + 1)) (h : rx_ld 2 K rest a L S w cc ss = some r) : rx_W p l e R s m args below meth c Q X D G nL pc L S w cc ss := by
  obtain ⟨v, hm, h⟩ := rx_get_ok h
  rcases v with i | (n | ((_ | k) | j))
  · exact absurd (rx_c h).1 (by decide)
  · exact absurd (rx_c h).1 (by decide)
  · cases h
  · obtain ⟨-, h⟩ := rx_c h
    intro H locs ls hI hl
    exact lv_aload_n C.1 C.2.1 hd hk (rx_Lm_mem hl hm) (hS _ _ _ _ _ h H locs ls hI hl)
  · obtain ⟨-, h⟩ := rx_c h
    intro H locs ls hI hl
    have k := hS _ _ _ _ _ h H locs ls hI hl
    have g := rx_Lm_mem hl hm
    rw [List.map_cons] at k
    have e0 : rx_d X (.inr (.inr (.inr j))) = va_rf (X.2.2.1 j) := rfl
    rw [e0] at k g
    cases ej : X.2.2.1 j with
    | none => rw [ej] at k g; exact lv_aload_nN C.1 C.2.1 hd hk g k
    | some y => rw [ej] at k g; exact lv_aload_n C.1 C.2.1 hd hk g k
theorem rx_q_istore (C : rx_Cx p s m args c X D G own bc nL) {a : Nat} (hd : decode bc pc = .ok (.istore a, 2)) (hS : rx_hS (rx_W p l e R s m args below meth c Q X D G nL) K rest r (pc + 2)) (h : rx_st 0 nL K rest a L S w cc ss = some r) : rx_W p l e R s m args below meth c Q X D G nL pc L S w cc ss := by
  cases S with
  | nil => cases h
  | cons v S' =>
  rcases v with i | (n | ((_ | k) | j))
  · obtain ⟨hc, h⟩ := rx_c h
    have hn := rx_bt (rx_an hc).2
    rw [rx_rem_eq] at h
    intro H locs ls hI hl
    exact lv_istore C.1 C.2.1 hd hl hn rfl (fun ls' hl' => hS _ _ _ _ _ h H locs ls' hI (rx_lv1 (v := .inl i) hl'))
  · cases h
  · cases h
  · cases h
  · cases h
theorem rx_q_istore_n (C : rx_Cx p s m args c X D G own bc nL) {a : Nat} {kn : Fin 4} (hk : (kn : Nat) = a) (hd : decode bc pc = .ok (.istore_n kn, 1)) (hS : rx_hS (rx_W p l e R s m args below meth c Q X D G nL) K rest r (pc + 1)) (h : rx_st 0 nL K rest a L S w cc ss = some r) : rx_W p l e R s m args below meth c Q X D G nL pc L S w cc ss := by
  cases S with
  | nil => cases h
  | cons v S' =>
  rcases v with i | (n | ((_ | k) | j))
  · obtain ⟨hc, h⟩ := rx_c h
    have hn := rx_bt (rx_an hc).2
    rw [rx_rem_eq] at h
    intro H locs ls hI hl
    exact lv_istore_n C.1 C.2.1 hd hk hl hn rfl (fun ls' hl' => hS _ _ _ _ _ h H locs ls' hI (rx_lv1 (v := .inl i) hl'))
  · cases h
  · cases h
  · cases h
  · cases h
theorem rx_q_lstore (C : rx_Cx p s m args c X D G own bc nL) {a : Nat} (hd : decode bc pc = .ok (.lstore a, 2)) (hS : rx_hS (rx_W p l e R s m args below meth c Q X D G nL) K rest r (pc + 2)) (h : rx_st 1 nL K rest a L S w cc ss = some r) : rx_W p l e R s m args below meth c Q X D G nL pc L S w cc ss := by
  cases S with
  | nil => cases h
  | cons v S' =>
  rcases v with i | (n | ((_ | k) | j))
  · cases h
  · obtain ⟨hc, h⟩ := rx_c h
    have hn := rx_bt (rx_an hc).2
    rw [rx_rem_eq] at h
    intro H locs ls hI hl
    rcases n with n | n
    · exact lv_lstore C.1 C.2.1 hd hl hn rfl (fun ls' hl' => hS _ _ _ _ _ h H locs ls' hI (rx_lv2 (v := .inr (.inl (.inl n))) hl'))
    · exact lv_lstore C.1 C.2.1 hd hl hn rfl (fun ls' hl' => hS _ _ _ _ _ h H locs ls' hI (rx_lv2 (v := .inr (.inl (.inr n))) hl'))
  · cases h
  · cases h
  · cases h
theorem rx_q_lstore_n (C : rx_Cx p s m args c X D G own bc nL) {a : Nat} {kn : Fin 4} (hk : (kn : Nat) = a) (hd : decode bc pc = .ok (.lstore_n kn, 1)) (hS : rx_hS (rx_W p l e R s m args below meth c Q X D G nL) K rest r (pc + 1)) (h : rx_st 1 nL K rest a L S w cc ss = some r) : rx_W p l e R s m args below meth c Q X D G nL pc L S w cc ss := by
  cases S with
  | nil => cases h
  | cons v S' =>
  rcases v with i | (n | ((_ | k) | j))
  · cases h
  · obtain ⟨hc, h⟩ := rx_c h
    have hn := rx_bt (rx_an hc).2
    rw [rx_rem_eq] at h
    intro H locs ls hI hl
    rcases n with n | n
    · exact lv_lstore_n C.1 C.2.1 hd hk hl hn rfl (fun ls' hl' => hS _ _ _ _ _ h H locs ls' hI (rx_lv2 (v := .inr (.inl (.inl n))) hl'))
    · exact lv_lstore_n C.1 C.2.1 hd hk hl hn rfl (fun ls' hl' => hS _ _ _ _ _ h H locs ls' hI (rx_lv2 (v := .inr (.inl (.inr n))) hl'))
  · cases h
  · cases h
  · cases h
theorem rx_q_astore (C : rx_Cx p s m args c X D G own bc nL) {a : Nat} (hd : decode bc pc = .ok (.astore a, 2)) (hS : rx_hS (rx_W p l e R s m args below meth c Q X D G nL) K rest r (pc + 2)) (h : rx_st 2 nL K rest a L S w cc ss = some r) : rx_W p l e R s m args below meth c Q X D G nL pc L S w cc ss := by
  cases S with
  | nil => cases h
  | cons v S' =>
  rcases v with i | (n | ((_ | k) | j))
  · cases h
  · cases h
  · cases h
  · obtain ⟨hc, h⟩ := rx_c h
    have hn := rx_bt (rx_an hc).2
    rw [rx_rem_eq] at h
    intro H locs ls hI hl
    exact lv_astore C.1 C.2.1 hd hl hn rfl (fun ls' hl' => hS _ _ _ _ _ h H locs ls' hI (rx_lv1 (v := .inr (.inr (.inl (some k)))) hl'))
  · obtain ⟨hc, h⟩ := rx_c h
    have hn := rx_bt (rx_an hc).2
    rw [rx_rem_eq] at h
    intro H locs ls hI hl
    rw [List.map_cons]
    have e0 : rx_d X (.inr (.inr (.inr j))) = va_rf (X.2.2.1 j) := rfl
    rw [e0]
    have hb : ∀ ls' : Array Slot, lv_has ls' nL ((a, va_rf (X.2.2.1 j)) :: (rx_Lm X L).filter (fun q => !(q.1 == a) && !(q.1 + 1 == a && q.2.category == 2))) → _ := fun ls' hl' => hS _ _ _ _ _ h H locs ls' hI (rx_lv1 (v := .inr (.inr (.inr j))) hl')
    cases ej : X.2.2.1 j with
    | none => rw [ej] at hb; exact lv_astoreN C.1 C.2.1 hd hl hn rfl hb
    | some y => rw [ej] at hb; exact lv_astore C.1 C.2.1 hd hl hn rfl hb
theorem rx_q_astore_n (C : rx_Cx p s m args c X D G own bc nL) {a : Nat} {kn : Fin 4} (hk : (kn : Nat) = a) (hd : decode bc pc = .ok (.astore_n kn, 1)) (hS : rx_hS (rx_W p l e R s m args below meth c Q X D G nL) K rest r (pc + 1)) (h : rx_st 2 nL K rest a L S w cc ss = some r) : rx_W p l e R s m args below meth c Q X D G nL pc L S w cc ss := by
  cases S with
  | nil => cases h
  | cons v S' =>
  rcases v with i | (n | ((_ | k) | j))
  · cases h
  · cases h
  · cases h
  · obtain ⟨hc, h⟩ := rx_c h
    have hn := rx_bt (rx_an hc).2
    rw [rx_rem_eq] at h
    intro H locs ls hI hl
    exact lv_astore_n C.1 C.2.1 hd hk hl hn rfl (fun ls' hl' => hS _ _ _ _ _ h H locs ls' hI (rx_lv1 (v := .inr (.inr (.inl (some k)))) hl'))
  · obtain ⟨hc, h⟩ := rx_c h
    have hn := rx_bt (rx_an hc).2
    rw [rx_rem_eq] at h
    intro H locs ls hI hl
    rw [List.map_cons]
    have e0 : rx_d X (.inr (.inr (.inr j))) = va_rf (X.2.2.1 j) := rfl
    rw [e0]
    have hb : ∀ ls' : Array Slot, lv_has ls' nL ((a, va_rf (X.2.2.1 j)) :: (rx_Lm X L).filter (fun q => !(q.1 == a) && !(q.1 + 1 == a && q.2.category == 2))) → _ := fun ls' hl' => hS _ _ _ _ _ h H locs ls' hI (rx_lv1 (v := .inr (.inr (.inr j))) hl')
    cases ej : X.2.2.1 j with
    | none => rw [ej] at hb; exact lv_astore_nN C.1 C.2.1 hd hk hl hn rfl hb
    | some y => rw [ej] at hb; exact lv_astore_n C.1 C.2.1 hd hk hl hn rfl hb
theorem rx_q_iinc (C : rx_Cx p s m args c X D G own bc nL) {a b : Nat} {z : Int} (hz : Int32.ofInt z = nI b) (hd : decode bc pc = .ok (.iinc a z, 3)) (hS : rx_hS (rx_W p l e R s m args below meth c Q X D G nL) K rest r (pc + 3)) (h : rx_ii nL K rest a b L S w cc ss = some r) : rx_W p l e R s m args below meth c Q X D G nL pc L S w cc ss := by
  obtain ⟨v, hm, h⟩ := rx_get_ok h
  rcases v with (n | u) | q
  · obtain ⟨hn, h⟩ := rx_c h
    have hn := rx_bt hn
    rw [rx_fN_eq, rx_rem_eq] at h
    intro H locs ls hI hl
    have hmem : (a, Value.int (nI n)) ∈ rx_Lm X L := List.mem_map.mpr ⟨(a, .inl (.inl n)), hm, rfl⟩
    obtain ⟨i, hi⟩ := List.getElem?_of_mem hmem
    exact lv_iinc (v := nI ((n + b) % 4294967296)) C.1 C.2.1 hd hl hi (by rw [hz, rx_add]) hn rfl (fun ls' hl' => hS _ _ _ _ _ h H locs ls' hI (rx_lv1 (v := .inl (.inl ((n + b) % 4294967296))) hl'))
  · cases h
  · cases h
theorem rx_o2_ok {g : Nat → Nat → Bool} {f : Nat → Nat → Nat} (h : rx_o2 g f K rest L S w cc ss = some r) : ∃ x y S', S = .inl (.inl y) :: .inl (.inl x) :: S' ∧ g x y = true ∧ K rest L (.inl (.inl (f x y)) :: S') w cc ss = some r := by
  unfold rx_o2 at h
  split at h
  · obtain ⟨h1, h⟩ := rx_c h
    rw [rx_fN_eq] at h
    exact ⟨_, _, _, rfl, h1, h⟩
  · cases h
theorem rx_l2_ok {g : Nat → Nat → Bool} {f : Nat → Nat → Nat} (h : rx_l2 g f K rest L S w cc ss = some r) : ∃ x y S', S = .inr (.inl (.inl y)) :: .inr (.inl (.inl x)) :: S' ∧ g x y = true ∧ K rest L (.inr (.inl (.inl (f x y))) :: S') w cc ss = some r := by
  unfold rx_l2 at h
  split at h
  · obtain ⟨h1, h⟩ := rx_c h
    rw [rx_fN_eq] at h
    exact ⟨_, _, _, rfl, h1, h⟩
  · cases h
theorem rx_q_iadd (C : rx_Cx p s m args c X D G own bc nL) (hd : decode bc pc = .ok (.iadd, 1)) (hS : rx_hS (rx_W p l e R s m args below meth c Q X D G nL) K rest r (pc + 1)) (h : rx_o2 (fun _ _ => true) (fun x y => (x + y) % 4294967296) K rest L S w cc ss = some r) : rx_W p l e R s m args below meth c Q X D G nL pc L S w cc ss := by
  obtain ⟨x, y, S', rfl, hg, h⟩ := rx_o2_ok h
  intro H locs ls hI hl
  have k := hS _ _ _ _ _ h H locs ls hI hl
  have k : W p l e R s m args below meth c H locs cc ss Q (F0 m (pc + 1) ls (.int (nI ((x + y) % 4294967296)) :: S'.map (rx_d X))) := k
  rw [rx_add] at k
  exact lv_iadd C.1 C.2.1 hd  k
theorem rx_q_isub (C : rx_Cx p s m args c X D G own bc nL) (hd : decode bc pc = .ok (.isub, 1)) (hS : rx_hS (rx_W p l e R s m args below meth c Q X D G nL) K rest r (pc + 1)) (h : rx_o2 (fun _ _ => true) (fun x y => (x + (4294967296 - y % 4294967296)) % 4294967296) K rest L S w cc ss = some r) : rx_W p l e R s m args below meth c Q X D G nL pc L S w cc ss := by
  obtain ⟨x, y, S', rfl, hg, h⟩ := rx_o2_ok h
  intro H locs ls hI hl
  have k := hS _ _ _ _ _ h H locs ls hI hl
  have k : W p l e R s m args below meth c H locs cc ss Q (F0 m (pc + 1) ls (.int (nI ((x + (4294967296 - y % 4294967296)) % 4294967296)) :: S'.map (rx_d X))) := k
  rw [rx_sub] at k
  exact lv_isub C.1 C.2.1 hd  k
theorem rx_q_imul (C : rx_Cx p s m args c X D G own bc nL) (hd : decode bc pc = .ok (.imul, 1)) (hS : rx_hS (rx_W p l e R s m args below meth c Q X D G nL) K rest r (pc + 1)) (h : rx_o2 (fun _ _ => true) (fun x y => (x * y) % 4294967296) K rest L S w cc ss = some r) : rx_W p l e R s m args below meth c Q X D G nL pc L S w cc ss := by
  obtain ⟨x, y, S', rfl, hg, h⟩ := rx_o2_ok h
  intro H locs ls hI hl
  have k := hS _ _ _ _ _ h H locs ls hI hl
  have k : W p l e R s m args below meth c H locs cc ss Q (F0 m (pc + 1) ls (.int (nI ((x * y) % 4294967296)) :: S'.map (rx_d X))) := k
  rw [rx_mul] at k
  exact lv_imul C.1 C.2.1 hd  k
theorem rx_q_ior (C : rx_Cx p s m args c X D G own bc nL) (hd : decode bc pc = .ok (.ior, 1)) (hS : rx_hS (rx_W p l e R s m args below meth c Q X D G nL) K rest r (pc + 1)) (h : rx_o2 (fun _ _ => true) (fun x y => Nat.lor x y) K rest L S w cc ss = some r) : rx_W p l e R s m args below meth c Q X D G nL pc L S w cc ss := by
  obtain ⟨x, y, S', rfl, hg, h⟩ := rx_o2_ok h
  intro H locs ls hI hl
  have k := hS _ _ _ _ _ h H locs ls hI hl
  have k : W p l e R s m args below meth c H locs cc ss Q (F0 m (pc + 1) ls (.int (nI (Nat.lor x y)) :: S'.map (rx_d X))) := k
  rw [rx_or] at k
  exact lv_ior C.1 C.2.1 hd  k
theorem rx_q_ixor (C : rx_Cx p s m args c X D G own bc nL) (hd : decode bc pc = .ok (.ixor, 1)) (hS : rx_hS (rx_W p l e R s m args below meth c Q X D G nL) K rest r (pc + 1)) (h : rx_o2 (fun _ _ => true) (fun x y => Nat.xor x y) K rest L S w cc ss = some r) : rx_W p l e R s m args below meth c Q X D G nL pc L S w cc ss := by
  obtain ⟨x, y, S', rfl, hg, h⟩ := rx_o2_ok h
  intro H locs ls hI hl
  have k := hS _ _ _ _ _ h H locs ls hI hl
  have k : W p l e R s m args below meth c H locs cc ss Q (F0 m (pc + 1) ls (.int (nI (Nat.xor x y)) :: S'.map (rx_d X))) := k
  rw [rx_xor] at k
  exact lv_ixor C.1 C.2.1 hd  k
theorem rx_q_ishl (C : rx_Cx p s m args c X D G own bc nL) (hd : decode bc pc = .ok (.ishl, 1)) (hS : rx_hS (rx_W p l e R s m args below meth c Q X D G nL) K rest r (pc + 1)) (h : rx_o2 (fun _ _ => true) (fun x y => (x * 2 ^ (y % 32)) % 4294967296) K rest L S w cc ss = some r) : rx_W p l e R s m args below meth c Q X D G nL pc L S w cc ss := by
  obtain ⟨x, y, S', rfl, hg, h⟩ := rx_o2_ok h
  intro H locs ls hI hl
  have k := hS _ _ _ _ _ h H locs ls hI hl
  have k : W p l e R s m args below meth c H locs cc ss Q (F0 m (pc + 1) ls (.int (nI ((x * 2 ^ (y % 32)) % 4294967296)) :: S'.map (rx_d X))) := k
  rw [rx_shl] at k
  exact lv_ishl C.1 C.2.1 hd  k
theorem rx_q_idiv (C : rx_Cx p s m args c X D G own bc nL) (hd : decode bc pc = .ok (.idiv, 1)) (hS : rx_hS (rx_W p l e R s m args below meth c Q X D G nL) K rest r (pc + 1)) (h : rx_o2 (fun x y => Nat.blt x 2147483648 && (Nat.blt y 2147483648 && Nat.blt 0 y)) (fun x y => x / y) K rest L S w cc ss = some r) : rx_W p l e R s m args below meth c Q X D G nL pc L S w cc ss := by
  obtain ⟨x, y, S', rfl, hg, h⟩ := rx_o2_ok h
  intro H locs ls hI hl
  have k := hS _ _ _ _ _ h H locs ls hI hl
  obtain ⟨g1, hg⟩ := rx_an hg
  obtain ⟨g2, g3⟩ := rx_an hg
  have g1 := rx_bt g1
  have g2 := rx_bt g2
  have g3 := rx_bt g3
  have k : W p l e R s m args below meth c H locs cc ss Q (F0 m (pc + 1) ls (.int (nI (x / y)) :: S'.map (rx_d X))) := k
  rw [rx_div g1 g2 g3] at k
  exact lv_idiv C.1 C.2.1 hd (by intro q; have := (nI_eq (a := y) (b := 0) g2 (by decide)).mp q; omega) k
theorem rx_q_irem (C : rx_Cx p s m args c X D G own bc nL) (hd : decode bc pc = .ok (.irem, 1)) (hS : rx_hS (rx_W p l e R s m args below meth c Q X D G nL) K rest r (pc + 1)) (h : rx_o2 (fun x y => Nat.blt x 2147483648 && (Nat.blt y 2147483648 && Nat.blt 0 y)) (fun x y => x % y) K rest L S w cc ss = some r) : rx_W p l e R s m args below meth c Q X D G nL pc L S w cc ss := by
  obtain ⟨x, y, S', rfl, hg, h⟩ := rx_o2_ok h
  intro H locs ls hI hl
  have k := hS _ _ _ _ _ h H locs ls hI hl
  obtain ⟨g1, hg⟩ := rx_an hg
  obtain ⟨g2, g3⟩ := rx_an hg
  have g1 := rx_bt g1
  have g2 := rx_bt g2
  have g3 := rx_bt g3
  have k : W p l e R s m args below meth c H locs cc ss Q (F0 m (pc + 1) ls (.int (nI (x % y)) :: S'.map (rx_d X))) := k
  rw [rx_rem' g1 g2 g3] at k
  exact lv_irem C.1 C.2.1 hd (by intro q; have := (nI_eq (a := y) (b := 0) g2 (by decide)).mp q; omega) k
theorem rx_q_iushr (C : rx_Cx p s m args c X D G own bc nL) (hd : decode bc pc = .ok (.iushr, 1)) (hS : rx_hS (rx_W p l e R s m args below meth c Q X D G nL) K rest r (pc + 1)) (h : rx_o2 (fun _ _ => true) (fun x y => x % 4294967296 / 2 ^ (y % 32)) K rest L S w cc ss = some r) : rx_W p l e R s m args below meth c Q X D G nL pc L S w cc ss := by
  obtain ⟨x, y, S', rfl, hg, h⟩ := rx_o2_ok h
  intro H locs ls hI hl
  exact lv_iushr (v := nI (x % 4294967296 / 2 ^ (y % 32))) C.1 C.2.1 hd (rx_ushr x y).symm (hS _ _ _ _ _ h H locs ls hI hl)
theorem rx_q_ladd (C : rx_Cx p s m args c X D G own bc nL) (hd : decode bc pc = .ok (.ladd, 1)) (hS : rx_hS (rx_W p l e R s m args below meth c Q X D G nL) K rest r (pc + 1)) (h : rx_l2 (fun _ _ => true) (fun x y => (x + y) % 18446744073709551616) K rest L S w cc ss = some r) : rx_W p l e R s m args below meth c Q X D G nL pc L S w cc ss := by
  obtain ⟨x, y, S', rfl, hg, h⟩ := rx_l2_ok h
  intro H locs ls hI hl
  have k := hS _ _ _ _ _ h H locs ls hI hl
  have k : W p l e R s m args below meth c H locs cc ss Q (F0 m (pc + 1) ls (.long (lN ((x + y) % 18446744073709551616)) :: S'.map (rx_d X))) := k
  rw [rl_add] at k
  exact lv_ladd C.1 C.2.1 hd  k
theorem rx_q_lsub (C : rx_Cx p s m args c X D G own bc nL) (hd : decode bc pc = .ok (.lsub, 1)) (hS : rx_hS (rx_W p l e R s m args below meth c Q X D G nL) K rest r (pc + 1)) (h : rx_l2 (fun _ _ => true) (fun x y => (x + (18446744073709551616 - y % 18446744073709551616)) % 18446744073709551616) K rest L S w cc ss = some r) : rx_W p l e R s m args below meth c Q X D G nL pc L S w cc ss := by
  obtain ⟨x, y, S', rfl, hg, h⟩ := rx_l2_ok h
  intro H locs ls hI hl
  have k := hS _ _ _ _ _ h H locs ls hI hl
  have k : W p l e R s m args below meth c H locs cc ss Q (F0 m (pc + 1) ls (.long (lN ((x + (18446744073709551616 - y % 18446744073709551616)) % 18446744073709551616)) :: S'.map (rx_d X))) := k
  rw [rl_sub] at k
  exact lv_lsub C.1 C.2.1 hd  k
theorem rx_q_lmul (C : rx_Cx p s m args c X D G own bc nL) (hd : decode bc pc = .ok (.lmul, 1)) (hS : rx_hS (rx_W p l e R s m args below meth c Q X D G nL) K rest r (pc + 1)) (h : rx_l2 (fun _ _ => true) (fun x y => (x * y) % 18446744073709551616) K rest L S w cc ss = some r) : rx_W p l e R s m args below meth c Q X D G nL pc L S w cc ss := by
  obtain ⟨x, y, S', rfl, hg, h⟩ := rx_l2_ok h
  intro H locs ls hI hl
  have k := hS _ _ _ _ _ h H locs ls hI hl
  have k : W p l e R s m args below meth c H locs cc ss Q (F0 m (pc + 1) ls (.long (lN ((x * y) % 18446744073709551616)) :: S'.map (rx_d X))) := k
  rw [rl_mul] at k
  exact lv_lmul C.1 C.2.1 hd  k
theorem rx_q_land (C : rx_Cx p s m args c X D G own bc nL) (hd : decode bc pc = .ok (.land, 1)) (hS : rx_hS (rx_W p l e R s m args below meth c Q X D G nL) K rest r (pc + 1)) (h : rx_l2 (fun _ _ => true) (fun x y => Nat.land x y) K rest L S w cc ss = some r) : rx_W p l e R s m args below meth c Q X D G nL pc L S w cc ss := by
  obtain ⟨x, y, S', rfl, hg, h⟩ := rx_l2_ok h
  intro H locs ls hI hl
  have k := hS _ _ _ _ _ h H locs ls hI hl
  have k : W p l e R s m args below meth c H locs cc ss Q (F0 m (pc + 1) ls (.long (lN (Nat.land x y)) :: S'.map (rx_d X))) := k
  rw [rl_and] at k
  exact lv_land C.1 C.2.1 hd  k
theorem rx_q_lor (C : rx_Cx p s m args c X D G own bc nL) (hd : decode bc pc = .ok (.lor, 1)) (hS : rx_hS (rx_W p l e R s m args below meth c Q X D G nL) K rest r (pc + 1)) (h : rx_l2 (fun _ _ => true) (fun x y => Nat.lor x y) K rest L S w cc ss = some r) : rx_W p l e R s m args below meth c Q X D G nL pc L S w cc ss := by
  obtain ⟨x, y, S', rfl, hg, h⟩ := rx_l2_ok h
  intro H locs ls hI hl
  have k := hS _ _ _ _ _ h H locs ls hI hl
  have k : W p l e R s m args below meth c H locs cc ss Q (F0 m (pc + 1) ls (.long (lN (Nat.lor x y)) :: S'.map (rx_d X))) := k
  rw [rl_or] at k
  exact lv_lor C.1 C.2.1 hd  k
theorem rx_q_ldiv (C : rx_Cx p s m args c X D G own bc nL) (hd : decode bc pc = .ok (.ldiv, 1)) (hS : rx_hS (rx_W p l e R s m args below meth c Q X D G nL) K rest r (pc + 1)) (h : rx_l2 (fun x y => Nat.blt x 9223372036854775808 && (Nat.blt y 9223372036854775808 && Nat.blt 0 y)) (fun x y => x / y) K rest L S w cc ss = some r) : rx_W p l e R s m args below meth c Q X D G nL pc L S w cc ss := by
  obtain ⟨x, y, S', rfl, hg, h⟩ := rx_l2_ok h
  intro H locs ls hI hl
  have k := hS _ _ _ _ _ h H locs ls hI hl
  obtain ⟨g1, hg⟩ := rx_an hg
  obtain ⟨g2, g3⟩ := rx_an hg
  have g1 := rx_bt g1
  have g2 := rx_bt g2
  have g3 := rx_bt g3
  have k : W p l e R s m args below meth c H locs cc ss Q (F0 m (pc + 1) ls (.long (lN (x / y)) :: S'.map (rx_d X))) := k
  rw [rl_div g1 g2 g3] at k
  exact lv_ldiv C.1 C.2.1 hd (rl_ne0 g2 g3) k
theorem rx_q_lrem (C : rx_Cx p s m args c X D G own bc nL) (hd : decode bc pc = .ok (.lrem, 1)) (hS : rx_hS (rx_W p l e R s m args below meth c Q X D G nL) K rest r (pc + 1)) (h : rx_l2 (fun x y => Nat.blt x 9223372036854775808 && (Nat.blt y 9223372036854775808 && Nat.blt 0 y)) (fun x y => x % y) K rest L S w cc ss = some r) : rx_W p l e R s m args below meth c Q X D G nL pc L S w cc ss := by
  obtain ⟨x, y, S', rfl, hg, h⟩ := rx_l2_ok h
  intro H locs ls hI hl
  have k := hS _ _ _ _ _ h H locs ls hI hl
  obtain ⟨g1, hg⟩ := rx_an hg
  obtain ⟨g2, g3⟩ := rx_an hg
  have g1 := rx_bt g1
  have g2 := rx_bt g2
  have g3 := rx_bt g3
  have k : W p l e R s m args below meth c H locs cc ss Q (F0 m (pc + 1) ls (.long (lN (x % y)) :: S'.map (rx_d X))) := k
  rw [rl_rem g1 g2 g3] at k
  exact lv_lrem C.1 C.2.1 hd (rl_ne0 g2 g3) k
theorem rx_q_iand (C : rx_Cx p s m args c X D G own bc nL) (hd : decode bc pc = .ok (.iand, 1)) (hS : rx_hS (rx_W p l e R s m args below meth c Q X D G nL) K rest r (pc + 1)) (h : rx_o2u G.1 0 (fun _ _ => true) (fun x y => Nat.land x y) K rest L S w cc ss = some r) : rx_W p l e R s m args below meth c Q X D G nL pc L S w cc ss := by
  unfold rx_o2u at h
  split at h
  · rename_i y x S'
    obtain ⟨hg, h⟩ := rx_c h
    rw [rx_fN_eq] at h
    intro H locs ls hI hl
    have k := hS _ _ _ _ _ h H locs ls hI hl
    have k : W p l e R s m args below meth c H locs cc ss Q (F0 m (pc + 1) ls (.int (nI (Nat.land x y)) :: S'.map (rx_d X))) := k
    rw [rx_and] at k
    exact lv_iand C.1 C.2.1 hd k
  · rename_i y u S'
    intro H locs ls hI hl
    have k := hS _ _ _ _ _ h H locs ls hI hl
    have k : W p l e R s m args below meth c H locs cc ss Q (F0 m (pc + 1) ls (.int (rx_N X (rx_nm G.1 (u.1, (0, y) :: u.2))) :: S'.map (rx_d X))) := k
    rw [rx_nm_ok C.2.2.2.2.2.2] at k
    exact lv_iand C.1 C.2.1 hd k
  · cases h
theorem rx_q_ishr (C : rx_Cx p s m args c X D G own bc nL) (hd : decode bc pc = .ok (.ishr, 1)) (hS : rx_hS (rx_W p l e R s m args below meth c Q X D G nL) K rest r (pc + 1)) (h : rx_o2u G.1 1 (fun x _ => Nat.blt x 2147483648) (fun x y => x / 2 ^ (y % 32)) K rest L S w cc ss = some r) : rx_W p l e R s m args below meth c Q X D G nL pc L S w cc ss := by
  unfold rx_o2u at h
  split at h
  · rename_i y x S'
    obtain ⟨hg, h⟩ := rx_c h
    rw [rx_fN_eq] at h
    intro H locs ls hI hl
    have k := hS _ _ _ _ _ h H locs ls hI hl
    have k : W p l e R s m args below meth c H locs cc ss Q (F0 m (pc + 1) ls (.int (nI (x / 2 ^ (y % 32))) :: S'.map (rx_d X))) := k
    rw [rx_shr y (rx_bt hg)] at k
    exact lv_ishr C.1 C.2.1 hd k
  · rename_i y u S'
    intro H locs ls hI hl
    have k := hS _ _ _ _ _ h H locs ls hI hl
    have k : W p l e R s m args below meth c H locs cc ss Q (F0 m (pc + 1) ls (.int (rx_N X (rx_nm G.1 (u.1, (1, y) :: u.2))) :: S'.map (rx_d X))) := k
    rw [rx_nm_ok C.2.2.2.2.2.2] at k
    exact lv_ishr C.1 C.2.1 hd k
  · cases h
theorem rx_q_i2c (C : rx_Cx p s m args c X D G own bc nL) (hd : decode bc pc = .ok (.i2c, 1)) (hS : rx_hS (rx_W p l e R s m args below meth c Q X D G nL) K rest r (pc + 1)) (h : rx_o1 (fun x => x % 65536) K rest L S w cc ss = some r) : rx_W p l e R s m args below meth c Q X D G nL pc L S w cc ss := by
  unfold rx_o1 at h
  split at h
  · rename_i x S'
    rw [rx_fN_eq] at h
    intro H locs ls hI hl
    exact lv_i2c (v := nI (x % 65536)) C.1 C.2.1 hd (by rw [pk_char, show rx_N X (.inl x) = nI x from rfl, rx_tn]; exact congrArg nI (by omega)) (hS _ _ _ _ _ h H locs ls hI hl)
  · cases h
theorem rx_q_i2b (C : rx_Cx p s m args c X D G own bc nL) (hd : decode bc pc = .ok (.i2b, 1)) (hS : rx_hS (rx_W p l e R s m args below meth c Q X D G nL) K rest r (pc + 1)) (h : rx_i2bS G.1 K rest L S w cc ss = some r) : rx_W p l e R s m args below meth c Q X D G nL pc L S w cc ss := by
  unfold rx_i2bS at h
  split at h
  · rename_i x S'
    rw [rx_fN_eq] at h
    intro H locs ls hI hl
    exact lv_i2b C.1 C.2.1 hd (rx_i2b x).symm (hS _ _ _ _ _ h H locs ls hI hl)
  · rename_i u S'
    intro H locs ls hI hl
    have k := hS _ _ _ _ _ h H locs ls hI hl
    have k : W p l e R s m args below meth c H locs cc ss Q (F0 m (pc + 1) ls (.int (rx_N X (rx_nm G.1 (u.1, (2, 0) :: u.2))) :: S'.map (rx_d X))) := k
    rw [rx_nm_ok C.2.2.2.2.2.2] at k
    exact lv_i2b (v := rx_U X u.1 ((2, 0) :: u.2)) C.1 C.2.1 hd rfl k
  · cases h
theorem rx_q_i2l (C : rx_Cx p s m args c X D G own bc nL) (hd : decode bc pc = .ok (.i2l, 1)) (hS : rx_hS (rx_W p l e R s m args below meth c Q X D G nL) K rest r (pc + 1)) (h : rx_i2l K rest L S w cc ss = some r) : rx_W p l e R s m args below meth c Q X D G nL pc L S w cc ss := by
  unfold rx_i2l at h
  split at h
  · rename_i x S'
    obtain ⟨hg, h⟩ := rx_c h
    intro H locs ls hI hl
    exact lv_i2l (v := lN x) C.1 C.2.1 hd (nI_l (rx_bt hg)) (hS _ _ _ _ _ h H locs ls hI hl)
  · rename_i k S'
    intro H locs ls hI hl
    exact lv_i2l (v := (X.1 k).toInt64) C.1 C.2.1 hd rfl (hS _ _ _ _ _ h H locs ls hI hl)
  · cases h
theorem rx_q_l2i (C : rx_Cx p s m args c X D G own bc nL) (hd : decode bc pc = .ok (.l2i, 1)) (hS : rx_hS (rx_W p l e R s m args below meth c Q X D G nL) K rest r (pc + 1)) (h : rx_l2i K rest L S w cc ss = some r) : rx_W p l e R s m args below meth c Q X D G nL pc L S w cc ss := by
  unfold rx_l2i at h
  split at h
  · rename_i x S'
    rw [rx_fN_eq] at h
    intro H locs ls hI hl
    exact lv_l2i (v := nI (x % 4294967296)) C.1 C.2.1 hd (by rw [rx_nI_mod]; exact lN_i x) (hS _ _ _ _ _ h H locs ls hI hl)
  · cases h
theorem rx_q_lcmp (C : rx_Cx p s m args c X D G own bc nL) (hd : decode bc pc = .ok (.lcmp, 1)) (hS : rx_hS (rx_W p l e R s m args below meth c Q X D G nL) K rest r (pc + 1)) (h : rx_lcmp K rest L S w cc ss = some r) : rx_W p l e R s m args below meth c Q X D G nL pc L S w cc ss := by
  unfold rx_lcmp at h
  split at h
  · rename_i y x S'
    intro H locs ls hI hl
    have k := hS _ _ _ _ _ h H locs ls hI hl
    rw [List.map_cons] at k
    have e0 : ∀ n, rx_d X (.inl (.inl n)) = .int (nI n) := fun _ => rfl
    rw [e0, rl_cmp] at k
    exact W.lcmp C.1 C.2.1 hd k
  · cases h
theorem rx_q_dup (C : rx_Cx p s m args c X D G own bc nL) (hd : decode bc pc = .ok (.dup, 1)) (hS : rx_hS (rx_W p l e R s m args below meth c Q X D G nL) K rest r (pc + 1)) (h : rx_dup K rest L S w cc ss = some r) : rx_W p l e R s m args below meth c Q X D G nL pc L S w cc ss := by
  cases S with
  | nil => cases h
  | cons v S' =>
    obtain ⟨hg, h⟩ := rx_c h
    intro H locs ls hI hl
    exact lv_dup C.1 C.2.1 hd (by rw [rx_cat_d]; exact rx_bq hg) (hS _ _ _ _ _ h H locs ls hI hl)
theorem rx_q_pop (C : rx_Cx p s m args c X D G own bc nL) (hd : decode bc pc = .ok (.pop, 1)) (hS : rx_hS (rx_W p l e R s m args below meth c Q X D G nL) K rest r (pc + 1)) (h : rx_pop K rest L S w cc ss = some r) : rx_W p l e R s m args below meth c Q X D G nL pc L S w cc ss := by
  cases S with
  | nil => cases h
  | cons v S' =>
    obtain ⟨hg, h⟩ := rx_c h
    intro H locs ls hI hl
    exact lv_pop C.1 C.2.1 hd (by rw [rx_cat_d]; exact rx_bq hg) (hS _ _ _ _ _ h H locs ls hI hl)
theorem rx_q_dup2 (C : rx_Cx p s m args c X D G own bc nL) (hd : decode bc pc = .ok (.dup2, 1)) (hS : rx_hS (rx_W p l e R s m args below meth c Q X D G nL) K rest r (pc + 1)) (h : rx_dup2 K rest L S w cc ss = some r) : rx_W p l e R s m args below meth c Q X D G nL pc L S w cc ss := by
  cases S with
  | nil => cases h
  | cons v S' =>
    cases S' with
    | nil => cases h
    | cons u S' =>
      obtain ⟨hg, h⟩ := rx_c h
      obtain ⟨g1, g2⟩ := rx_an hg
      intro H locs ls hI hl
      exact lv_dup2_11 C.1 C.2.1 hd (by rw [rx_cat_d]; exact rx_bq g1) (by rw [rx_cat_d]; exact rx_bq g2) (hS _ _ _ _ _ h H locs ls hI hl)
theorem rx_q_icmp (C : rx_Cx p s m args c X D G own bc nL) {cn : Jvm.ClassFile.Cond} {off : Int} {a : Nat} (ht : (pc : Int) + off = (a : Int)) (hd : decode bc pc = .ok (.if_icmp cn off, 3)) (hS : rx_hS (rx_W p l e R s m args below meth c Q X D G nL) K rest r (pc + 3)) (hJ : ∀ t : Nat, rx_hS (rx_W p l e R s m args below meth c Q X D G nL) K (rx_find cd t) r t) (h : rx_ic G.1 cn cd K rest a L S w cc ss = some r) : rx_W p l e R s m args below meth c Q X D G nL pc L S w cc ss := by
  cases S with
  | nil => cases h
  | cons v S' =>
    rcases v with y | v
    · cases S' with
      | nil => cases h
      | cons v S' =>
        rcases v with x | v
        · intro H locs ls hI hl
          have h := rx_cmp_ok C.2.2.2.2.2.2 h
          cases cn
          · rcases h with ⟨q, h⟩ | ⟨q, h⟩
            · exact lv_icmp_eq C.1 C.2.1 hd ht (fun _ => hJ a _ _ _ _ _ h H locs ls hI hl) (fun z => absurd q z)
            · exact lv_icmp_eq C.1 C.2.1 hd ht (fun z => absurd z q) (fun _ => hS _ _ _ _ _ h H locs ls hI hl)
          · rcases h with ⟨q, h⟩ | ⟨q, h⟩
            · exact lv_icmp_ne C.1 C.2.1 hd ht (fun _ => hJ a _ _ _ _ _ h H locs ls hI hl) (fun z => absurd z q)
            · exact lv_icmp_ne C.1 C.2.1 hd ht (fun z => absurd q z) (fun _ => hS _ _ _ _ _ h H locs ls hI hl)
          · rcases h with ⟨q, h⟩ | ⟨q, h⟩
            · exact lv_icmp_lt C.1 C.2.1 hd ht (fun _ => hJ a _ _ _ _ _ h H locs ls hI hl) (fun z => absurd q z)
            · exact lv_icmp_lt C.1 C.2.1 hd ht (fun z => absurd z q) (fun _ => hS _ _ _ _ _ h H locs ls hI hl)
          · rcases h with ⟨q, h⟩ | ⟨q, h⟩
            · exact lv_icmp_ge C.1 C.2.1 hd ht (fun _ => hJ a _ _ _ _ _ h H locs ls hI hl) (fun z => absurd q z)
            · exact lv_icmp_ge C.1 C.2.1 hd ht (fun z => absurd z q) (fun _ => hS _ _ _ _ _ h H locs ls hI hl)
          · rcases h with ⟨q, h⟩ | ⟨q, h⟩
            · exact lv_icmp_gt C.1 C.2.1 hd ht (fun _ => hJ a _ _ _ _ _ h H locs ls hI hl) (fun z => absurd q z)
            · exact lv_icmp_gt C.1 C.2.1 hd ht (fun z => absurd z q) (fun _ => hS _ _ _ _ _ h H locs ls hI hl)
          · rcases h with ⟨q, h⟩ | ⟨q, h⟩
            · exact lv_icmp_le C.1 C.2.1 hd ht (fun _ => hJ a _ _ _ _ _ h H locs ls hI hl) (fun z => absurd q z)
            · exact lv_icmp_le C.1 C.2.1 hd ht (fun z => absurd z q) (fun _ => hS _ _ _ _ _ h H locs ls hI hl)
        · cases h
    · cases h
theorem rx_q_if (C : rx_Cx p s m args c X D G own bc nL) {cn : Jvm.ClassFile.Cond} {off : Int} {a : Nat} (ht : (pc : Int) + off = (a : Int)) (hd : decode bc pc = .ok (.ifCond cn off, 3)) (hS : rx_hS (rx_W p l e R s m args below meth c Q X D G nL) K rest r (pc + 3)) (hJ : ∀ t : Nat, rx_hS (rx_W p l e R s m args below meth c Q X D G nL) K (rx_find cd t) r t) (h : rx_if G.1 cn cd K rest a L S w cc ss = some r) : rx_W p l e R s m args below meth c Q X D G nL pc L S w cc ss := by
  cases S with
  | nil => cases h
  | cons v S' =>
    rcases v with x | v
    · intro H locs ls hI hl
      have h := rx_cmp_ok C.2.2.2.2.2.2 h
      have z0 : rx_N X (.inl 0) = 0 := rfl
      cases cn <;> simp only [z0] at h
      · rcases h with ⟨q, h⟩ | ⟨q, h⟩
        · exact lv_if_eq C.1 C.2.1 hd ht (fun _ => hJ a _ _ _ _ _ h H locs ls hI hl) (fun z => absurd q z)
        · exact lv_if_eq C.1 C.2.1 hd ht (fun z => absurd z q) (fun _ => hS _ _ _ _ _ h H locs ls hI hl)
      · rcases h with ⟨q, h⟩ | ⟨q, h⟩
        · exact lv_if_ne C.1 C.2.1 hd ht (fun _ => hJ a _ _ _ _ _ h H locs ls hI hl) (fun z => absurd z q)
        · exact lv_if_ne C.1 C.2.1 hd ht (fun z => absurd q z) (fun _ => hS _ _ _ _ _ h H locs ls hI hl)
      · rcases h with ⟨q, h⟩ | ⟨q, h⟩
        · exact lv_if_lt C.1 C.2.1 hd ht (fun _ => hJ a _ _ _ _ _ h H locs ls hI hl) (fun z => absurd q z)
        · exact lv_if_lt C.1 C.2.1 hd ht (fun z => absurd z q) (fun _ => hS _ _ _ _ _ h H locs ls hI hl)
      · rcases h with ⟨q, h⟩ | ⟨q, h⟩
        · exact lv_if_ge C.1 C.2.1 hd ht (fun _ => hJ a _ _ _ _ _ h H locs ls hI hl) (fun z => absurd q z)
        · exact lv_if_ge C.1 C.2.1 hd ht (fun z => absurd z q) (fun _ => hS _ _ _ _ _ h H locs ls hI hl)
      · rcases h with ⟨q, h⟩ | ⟨q, h⟩
        · exact lv_if_gt C.1 C.2.1 hd ht (fun _ => hJ a _ _ _ _ _ h H locs ls hI hl) (fun z => absurd q z)
        · exact lv_if_gt C.1 C.2.1 hd ht (fun z => absurd z q) (fun _ => hS _ _ _ _ _ h H locs ls hI hl)
      · rcases h with ⟨q, h⟩ | ⟨q, h⟩
        · exact lv_if_le C.1 C.2.1 hd ht (fun _ => hJ a _ _ _ _ _ h H locs ls hI hl) (fun z => absurd q z)
        · exact lv_if_le C.1 C.2.1 hd ht (fun z => absurd z q) (fun _ => hS _ _ _ _ _ h H locs ls hI hl)
    · cases h
theorem rx_q_goto (C : rx_Cx p s m args c X D G own bc nL) {off : Int} {a : Nat} (ht : (pc : Int) + off = (a : Int)) (hd : decode bc pc = .ok (.goto off, 3)) (hJ : ∀ t : Nat, rx_hS (rx_W p l e R s m args below meth c Q X D G nL) K (rx_find cd t) r t) (h : K (rx_find cd a) L S w cc ss = some r) : rx_W p l e R s m args below meth c Q X D G nL pc L S w cc ss := by
  intro H locs ls hI hl
  exact lv_goto C.1 C.2.1 hd ht (hJ a _ _ _ _ _ h H locs ls hI hl)
end RXI
end
section
/-! fields, arrays, switches -/
theorem rx_nar_bool {n : Nat} (h : n ≤ 1) : narrow .boolean (.int (nI n)) = .int (nI n) := by
  rcases (show n = 0 ∨ n = 1 by omega) with rfl | rfl <;> decide
theorem rx_fit_bool {n : Nat} (h : n ≤ 1) : fits .boolean (.int (nI n)) = true := by
  rcases (show n = 0 ∨ n = 1 by omega) with rfl | rfl <;> decide
/-- a field's type is of a kind -/
def rx_kd (q : Nat) (ty : FieldType) : Bool := match ty with
  | .int => Nat.beq q 0
  | .boolean => Nat.beq q 2
  | .long => Nat.beq q 3
  | .object _ => Nat.beq q 4
  | .array _ => Nat.beq q 4
  | _ => false
theorem rx_fits {X : rx_X} {q : Nat} {ty : FieldType} {v : rx_V} (hk : rx_kd q ty = true) (hf : rx_fit q v = true) : narrow ty (rx_d X v) = rx_d X v ∧ fits ty (rx_d X v) = true := by
  have hr : ∀ (o : Option Nat) (C : String), narrow (.object C) (va_rf o) = va_rf o ∧ fits (.object C) (va_rf o) = true := fun o C => by cases o <;> exact ⟨rfl, rfl⟩
  have ha : ∀ (o : Option Nat) (C : FieldType), narrow (.array C) (va_rf o) = va_rf o ∧ fits (.array C) (va_rf o) = true := fun o C => by cases o <;> exact ⟨rfl, rfl⟩
  cases ty <;> first | (cases hk; done) | skip
  · have hq : q = 0 := rx_bq hk
    subst hq
    rcases v with (n | u) | ((n | n) | ((_ | k) | j)) <;> first | (cases hf; done) | exact ⟨rfl, rfl⟩
  · have hq : q = 3 := rx_bq hk
    subst hq
    rcases v with (n | u) | ((n | n) | ((_ | k) | j)) <;> first | (cases hf; done) | exact ⟨rfl, rfl⟩
  · have hq : q = 2 := rx_bq hk
    subst hq
    rcases v with (n | u) | ((n | n) | ((_ | k) | j))
    · have h1 : n ≤ 1 := rx_bl hf
      exact ⟨rx_nar_bool h1, rx_fit_bool h1⟩
    · cases hf
    · cases hf
    · cases hf
    · cases hf
    · cases hf
    · cases hf
  · have hq : q = 4 := rx_bq hk
    subst hq
    rcases v with (n | u) | ((n | n) | ((_ | k) | j)) <;> first | (cases hf; done) | exact ⟨rfl, rfl⟩ | exact hr _ _
  · have hq : q = 4 := rx_bq hk
    subst hq
    rcases v with (n | u) | ((n | n) | ((_ | k) | j)) <;> first | (cases hf; done) | exact ⟨rfl, rfl⟩ | exact ha _ _
theorem rx_lk_put (u : List (Nat × rx_V)) (j : Nat) (v d : rx_V) (i : Nat) : rx_lk ((j, v) :: u.filter (fun q => !Nat.beq q.1 j)) i d = if i = j then v else rx_lk u i d := by
  change cond (Nat.beq j i) v (rx_lk (u.filter (fun q => !Nat.beq q.1 j)) i d) = _
  by_cases e : i = j
  · subst e
    have h2 : Nat.beq i i = true := Nat.beq_refl i
    rw [h2, if_pos rfl]
    rfl
  · rw [(rx_bnf j i).mpr (fun z => e z.symm), if_neg e]
    show rx_lk _ i d = _
    induction u with
    | nil => rfl
    | cons q t ih =>
      cases hq : Nat.beq q.1 j with
      | true =>
        have e1 := rx_bq hq
        rw [List.filter_cons_of_neg (by simp [hq])]
        rw [ih]
        change _ = cond (Nat.beq q.1 i) q.2 (rx_lk t i d)
        rw [e1, (rx_bnf j i).mpr (fun z => e z.symm)]
        rfl
      | false =>
        rw [List.filter_cons_of_pos (by simp [hq])]
        change cond (Nat.beq q.1 i) q.2 (rx_lk (t.filter _) i d) = cond (Nat.beq q.1 i) q.2 (rx_lk t i d)
        rw [ih]
section RXH
variable {p : Program} {l : Launch} {e : Env} {R : Room} {s : State} {m : MethodId} {args : Array Value} {below : List Frame} {meth : Method} {c : Code} {Q : State → Prop} {X : rx_X} {D : va_G} {G : rx_G} {own : String} {bc : ByteArray} {nL pc : Nat} {K : rx_K} {rest cd : List rx_E} {L : rx_L} {S : List rx_V} {w : List rx_C} {cc ss : Nat} {r : rx_R}
theorem rx_q_tsw (C : rx_Cx p s m args c X D G own bc nL) {dflt lo hi : Int} {offs : Array Int} {len a b d : Nat} {t : List Nat} (hd : decode bc pc = .ok (.tableswitch dflt lo hi offs, len)) (hlo : (b : Int) = lo + 2147483648) (hhi : (d : Int) = hi + 2147483648) (ha : (pc : Int) + dflt = (a : Int)) (ht : ∀ (j g : Nat), t[j]? = some g → ∃ off, offs[j]? = some off ∧ (pc : Int) + off = (g : Int)) (hJ : ∀ t : Nat, rx_hS (rx_W p l e R s m args below meth c Q X D G nL) K (rx_find cd t) r t) (h : rx_sw G.1 cd K a b d t L S w cc ss = some r) : rx_W p l e R s m args below meth c Q X D G nL pc L S w cc ss := by
  unfold rx_sw at h
  split at h
  · rename_i x S'
    intro H locs ls hI hl
    have h1 := rx_iv_ok C.2.2.2.2.2.2 x
    have h2 := rx_b_int (rx_N X x)
    cases hc : (Nat.blt (rx_iv G.1 x).2 b || Nat.blt d (rx_iv G.1 x).1) with
    | true =>
      rw [hc] at h
      have ho : (rx_N X x).toInt < lo ∨ hi < (rx_N X x).toInt := by
        rcases Bool.or_eq_true_iff.mp hc with q | q
        · have := rx_bt q; left; omega
        · have := rx_bt q; right; omega
      exact lv_tableOut C.1 C.2.1 hd ho ha (hJ a _ _ _ _ _ h H locs ls hI hl)
    | false =>
      rw [hc] at h
      have hn := Bool.or_eq_false_iff.mp hc
      have hn1 : ¬ (rx_iv G.1 x).2 < b := fun q => by have := Nat.ble_eq_true_of_le (show (rx_iv G.1 x).2 + 1 ≤ b from q); rw [show Nat.blt (rx_iv G.1 x).2 b = true from this] at hn; cases hn.1
      have hn2 : ¬ d < (rx_iv G.1 x).1 := fun q => by have := Nat.ble_eq_true_of_le (show d + 1 ≤ (rx_iv G.1 x).1 from q); rw [show Nat.blt d (rx_iv G.1 x).1 = true from this] at hn; cases hn.2
      obtain ⟨hq, h⟩ := rx_c h
      have hq := rx_bq hq
      obtain ⟨g, g1, h⟩ := rx_at_ok h
      obtain ⟨off, g2, g3⟩ := ht _ _ g1
      refine lv_tableIn (off := off) C.1 C.2.1 hd (by omega) (by omega) ?_ g3 (hJ g _ _ _ _ _ h H locs ls hI hl)
      rw [show ((rx_N X x).toInt - lo).toNat = (rx_iv G.1 x).1 - b by omega]
      exact g2
  · cases h
theorem rx_gf_ok {a b d : Nat} (h : rx_gf K rest a b d L S w cc ss = some r) : (∃ (k : Nat) (S' fs : List rx_V) (v : rx_V), S = .inr (.inr (.inl (some k))) :: S' ∧ d ≤ 1 ∧ w[k]? = some (.inl (a, fs)) ∧ fs[b]? = some v ∧ K rest L (v :: S') w cc ss = some r) ∨ (∃ S' : List rx_V, S = .inr (.inr (.inr 1)) :: S' ∧ ((d = 2 ∧ K rest L (.inr (.inr (.inr 2)) :: S') w cc ss = some r) ∨ (d = 3 ∧ K rest L (.inl (.inl 0) :: S') w cc ss = some r))) := by
  unfold rx_gf at h
  split at h
  · rename_i k S'
    obtain ⟨h0, h⟩ := rx_c h
    obtain ⟨x, h1, h5⟩ := rx_at_ok h
    rcases x with ⟨o1, o2⟩ | o
    · obtain ⟨h2, h6⟩ := rx_c h5
      obtain ⟨v, h3, h7⟩ := rx_at_ok h6
      have h2 : o1 = a := rx_bq h2
      rw [h2] at h1
      exact Or.inl ⟨k, S', o2, v, rfl, rx_bl h0, h1, h3, h7⟩
    · cases h5
  · rename_i k S'
    obtain ⟨h0, h5⟩ := rx_c h
    have h0 := rx_bq h0
    refine Or.inr ⟨S', by rw [h0], ?_⟩
    cases c2 : Nat.beq d 2 with
    | true => rw [c2] at h5; exact Or.inl ⟨rx_bq c2, h5⟩
    | false =>
      rw [c2] at h5
      obtain ⟨h6, h7⟩ := rx_c h5
      exact Or.inr ⟨rx_bq h6, h7⟩
  · cases h
theorem rx_q_getf (C : rx_Cx p s m args c X D G own bc nL) {a b d idx : Nat} {Cn : String} {T : u_T} {N : Nat} (hd : decode bc pc = .ok (.getfield idx, 3)) (hin : ∀ w ∈ u_ws Cn T N, w ∈ rx_words) (hS : rx_hS (rx_W p l e R s m args below meth c Q X D G nL) K rest r (pc + 3))
    (hl0 : d ≤ 1 → vwCl[a]? = some (Cn, T, N) ∧ b < N ∧ ((Cond.fieldLink own idx (T b).1 (T b).2.1 (T b).2.2.1 ∈ rx_words) ∨ (∃ host, Cond.fieldLinkNest own idx (T b).1 (T b).2.1 (T b).2.2.1 host ∈ rx_NW)))
    (hl2 : d = 2 → Cond.fieldLink own idx "java/lang/String" "value" "[B" ∈ rx_words) (hl3 : d = 3 → Cond.fieldLink own idx "java/lang/String" "coder" "B" ∈ rx_words) (h : rx_gf K rest a b d L S w cc ss = some r) : rx_W p l e R s m args below meth c Q X D G nL pc L S w cc ss := by
  obtain ⟨hx, hb, -, hown, hts, ⟨hK, hNW, -, -, ⟨q1, q2, tx, c1, c2, c3, c4, c5, c6, c7⟩, -⟩, -⟩ := id C
  rcases rx_gf_ok h with ⟨k, S', fs, v, rfl, hd1, h1, h2, h⟩ | ⟨S', rfl, ⟨hd2, h⟩ | ⟨hd3, h⟩⟩
  · intro H locs ls hI hl
    obtain ⟨hc, hk, hlk⟩ := hl0 hd1
    have kk := hS _ _ _ _ _ h H locs ls hI hl
    have hv : (fs.map (rx_d X))[b]? = some (rx_d X v) := by rw [List.getElem?_map, h2]; rfl
    rcases hlk with hlk | ⟨host, hlk⟩
    · exact va_get (D := D) (ci := a) (v := rx_d X v) (C := Cn) (T := T) (N := N) hx hb hts hin hown hK hI.1 k (rx_w_get h1) hc b hk (hts _ hlk) (fun _ h9 => h9) hv hd kk
    · exact va_getN (D := D) (ci := a) (v := rx_d X v) (C := Cn) (T := T) (N := N) hx hb hts hin hown hK hI.1 k (rx_w_get h1) hc b hk (va_Nw.use rfl (hNW _ hlk)) (fun _ h9 => h9) hv hd kk
  · intro H locs ls hI hl
    have kk := hS _ _ _ _ _ h H locs ls hI hl
    have e1 : rx_d X (.inr (.inr (.inr 1))) = .ref q1 := by show va_rf _ = _; rw [c1]; rfl
    have e2 : rx_d X (.inr (.inr (.inr 2))) = .ref q2 := by show va_rf _ = _; rw [c2]; rfl
    rw [List.map_cons, e2] at kk
    rw [List.map_cons, e1]
    exact vk_getf hx hb c6 hI.2.2 hown (hts _ (hl2 hd2)) (fun _ h9 => h9) hd kk
  · intro H locs ls hI hl
    have kk := hS _ _ _ _ _ h H locs ls hI hl
    have e1 : rx_d X (.inr (.inr (.inr 1))) = .ref q1 := by show va_rf _ = _; rw [c1]; rfl
    have e2 : rx_d X (.inl (.inl 0)) = .int 0 := rfl
    rw [List.map_cons, e2] at kk
    rw [List.map_cons, e1]
    exact vk_getf hx hb c5 hI.2.2 hown (hts _ (hl3 hd3)) (fun _ h9 => h9) hd kk
theorem rx_q_gets (C : rx_Cx p s m args c X D G own bc nL) {a idx : Nat} (hd : decode bc pc = .ok (.getstatic idx, 3)) (hS : rx_hS (rx_W p l e R s m args below meth c Q X D G nL) K rest r (pc + 3))
    (h0 : a = 0 → Cond.fieldLink own idx "java/lang/String" "COMPACT_STRINGS" "Z" ∈ rx_words) (h1 : a = 1 → Cond.fieldLink own idx "jdk/internal/util/Preconditions" "SIOOBE_FORMATTER" "Ljava/util/function/BiFunction;" ∈ rx_words)
    (h : cond (Nat.beq a 0) (K rest L (.inl (.inl 1) :: S) w cc ss) (cond (Nat.beq a 1) (K rest L (.inr (.inr (.inr 3)) :: S) w cc ss) none) = some r) : rx_W p l e R s m args below meth c Q X D G nL pc L S w cc ss := by
  obtain ⟨hx, hb, -, hown, hts, ⟨-, -, -, -, -, hZ1, hZ2, -⟩, -⟩ := id C
  intro H locs ls hI hl
  cases ha : Nat.beq a 0 with
  | true =>
    rw [ha] at h
    exact va_gets hx hb hZ1 hI.2.2 hown (hts _ (h0 (rx_bq ha))) (fun _ h9 => h9) hd (hS _ _ _ _ _ h H locs ls hI hl)
  | false =>
    rw [ha] at h
    obtain ⟨ha1, h⟩ := rx_c h
    exact va_gets hx hb hZ2 hI.2.2 hown (hts _ (h1 (rx_bq ha1))) (fun _ h9 => h9) hd (hS _ _ _ _ _ h H locs ls hI hl)
theorem rx_set_lt {α β : Type} : ∀ (l : List α) (b : Nat) (v : α) (k : List α → Option β) (r : β), rx_set l b v k = some r → b < l.length := by
  intro l
  induction l with
  | nil => intro b v k r h; cases h
  | cons x t ih =>
    intro b v k r h
    cases b with
    | zero => simp
    | succ b => have := ih b v _ r h; simpa using this
theorem rx_pf_ok {a b d : Nat} (h : rx_pf K rest a b d L S w cc ss = some r) : ∃ (k : Nat) (v : rx_V) (S' fs : List rx_V), S = v :: .inr (.inr (.inl (some k))) :: S' ∧ rx_fit d v = true ∧ w[k]? = some (.inl (a, fs)) ∧ b < fs.length ∧ K rest L S' (w.set k (.inl (a, fs.set b v))) cc ss = some r := by
  unfold rx_pf at h
  split at h
  · rename_i v k S'
    obtain ⟨h0, h4⟩ := rx_c h
    obtain ⟨x, h1, h5⟩ := rx_at_ok h4
    rcases x with ⟨o1, o2⟩ | o
    · obtain ⟨h2, h6⟩ := rx_c h5
      have hlt := rx_set_lt _ _ _ _ _ h6
      have h7 := rx_set_ok (rx_set_ok h6)
      have h2 : o1 = a := rx_bq h2
      rw [h2] at h1 h7
      exact ⟨k, v, S', o2, rfl, h0, h1, hlt, h7⟩
    · cases h5
  · cases h
theorem rx_Iv_set {k : Nat} {c1 : rx_C} {H H1 : Heap} {locs locs1 : List Loc} (hI : rx_Iv X D G s w cc H locs) (hP : va_P D vwCl ((rx_w X 0 w).set k (X.2.1 + k, rx_ce X c1)) H1) (hV : va_S (rx_A X) s.heap H1 locs1) : rx_Iv X D G s (w.set k c1) cc H1 locs1 := by
  refine ⟨by rw [← rx_w_set0]; exact hP, fun q => ?_, hV⟩
  rw [List.length_set]
  exact hI.2.1 q
theorem rx_q_putf (C : rx_Cx p s m args c X D G own bc nL) {a b d idx : Nat} {Cn : String} {T : u_T} {N : Nat} {ty0 : Nat → FieldType} (hd : decode bc pc = .ok (.putfield idx, 3)) (hin : ∀ w ∈ u_ws Cn T N, w ∈ rx_words) (hty : ∀ k, k < N → parseFieldDescriptor (T k).2.2.1 = some (ty0 k)) (hnm : ∀ a, a < N → ∀ b, b < N → a ≠ b → (T a).2.1 ≠ (T b).2.1) (hS : rx_hS (rx_W p l e R s m args below meth c Q X D G nL) K rest r (pc + 3))
    (hc : vwCl[a]? = some (Cn, T, N)) (hk : b < N) (hlk : Cond.fieldLink own idx (T b).1 (T b).2.1 (T b).2.2.1 ∈ rx_words) (hkd : rx_kd d (ty0 b) = true) (hfin : (T b).2.2.2 = true → (T b).1 = own ∧ meth.name = "<init>") (h : rx_pf K rest a b d L S w cc ss = some r) : rx_W p l e R s m args below meth c Q X D G nL pc L S w cc ss := by
  obtain ⟨hx, hb, -, hown, hts, ⟨hK, -⟩, -⟩ := id C
  obtain ⟨k, v, S', fs, rfl, h0, h1, hlt, h⟩ := rx_pf_ok h
  intro H locs ls hI hl
  obtain ⟨f1, f2⟩ := rx_fits (X := X) hkd h0
  have e2 : (fs.map (rx_d X)).set b (rx_d X v) = (fs.set b v).map (rx_d X) := (List.map_set).symm
  have hlt' : b < (fs.map (rx_d X)).length := by rw [List.length_map]; exact hlt
  have kk : ∀ (H1 : Heap) (locs1 : List Loc), va_P D vwCl ((rx_w X 0 w).set k (X.2.1 + k, .inr (a, (fs.map (rx_d X)).set b (rx_d X v)))) H1 → va_D (rx_A X) ((rx_w X 0 w).set k (X.2.1 + k, .inr (a, (fs.map (rx_d X)).set b (rx_d X v)))) → va_S (rx_A X) s.heap H1 locs1 → W p l e R s m args below meth c H1 locs1 cc ss Q (F0 m (pc + 3) ls (S'.map (rx_d X))) := by
    intro H1 locs1 hP1 _ hV1
    rw [e2] at hP1
    exact hS _ _ _ _ _ h H1 locs1 ls (rx_Iv_set (c1 := .inl (a, fs.set b v)) hI hP1 hV1) hl
  cases hf : (T b).2.2.2 with
  | false => exact va_put (D := D) (ci := a) (v := rx_d X v) (ty := ty0 b) (C := Cn) (T := T) (N := N) hx hb hts hin ty0 hty hnm hown hK hI.1 (rx_w_D X w) hI.2.2 k (rx_w_get h1) hc b hk (hts _ hlk) (fun _ h9 => h9) hf (hty b hk) f1 f2 hlt' hd kk
  | true =>
    obtain ⟨g1, g2⟩ := hfin hf
    exact va_putF (D := D) (ci := a) (v := rx_d X v) (ty := ty0 b) (C := Cn) (T := T) (N := N) hx hb hts hin ty0 hty hnm hown hK hI.1 (rx_w_D X w) hI.2.2 k (rx_w_get h1) hc b hk (hts _ hlk) (fun _ h9 => h9) hf g2 g1 (hty b hk) f1 f2 hlt' hd kk
-- arrays
theorem rx_al_ok {q : Nat} {sl : Nat} {txt : List Nat} {F : rx_F} (h : rx_al F sl txt q K rest L S w cc ss = some r) : (∃ (j k t n : Nat) (u : List (Nat × rx_V)) (S' : List rx_V), S = .inl (.inl j) :: .inr (.inr (.inl (some k))) :: S' ∧ w[k]? = some (.inr (t, n, u)) ∧ j < n ∧ n < 2147483648 ∧ (t = q ∨ (q = 1 ∧ t = 2)) ∧ rx_isK q (rx_lk u j (rx_df t)) = true ∧ K rest L (rx_lk u j (rx_df t) :: S') w cc ss = some r) ∨ (∃ (j : Nat) (S' : List rx_V), S = .inl (.inl j) :: .inr (.inr (.inr 0)) :: S' ∧ j + 1 < sl ∧ sl < 2147483648 ∧ q = 0 ∧ K rest L (.inl (rx_nm F (j, [])) :: S') w cc ss = some r) ∨ (∃ (j z : Nat) (S' : List rx_V), S = .inl (.inl j) :: .inr (.inr (.inr 2)) :: S' ∧ q = 1 ∧ txt[j]? = some z ∧ K rest L (.inl (.inl z) :: S') w cc ss = some r) := by
  unfold rx_al at h
  split at h
  · rename_i j k S'
    obtain ⟨x, h1, h5⟩ := rx_at_ok h
    rcases x with o | ⟨t, n, u⟩
    · cases h5
    · obtain ⟨h2, h6⟩ := rx_c h5
      obtain ⟨h7, h8⟩ := rx_c h6
      obtain ⟨g1, h2⟩ := rx_an h2
      obtain ⟨g2, g3⟩ := rx_an h2
      refine Or.inl ⟨j, k, t, n, u, S', rfl, h1, rx_bt g1, rx_bt g2, ?_, h7, h8⟩
      rcases Bool.or_eq_true_iff.mp g3 with z | z
      · exact Or.inl (rx_bq z)
      · exact Or.inr ⟨rx_bq (rx_an z).1, rx_bq (rx_an z).2⟩
  · rename_i j k S'
    cases c0 : Nat.beq k 0 with
    | true =>
      rw [c0] at h
      obtain ⟨h2, h6⟩ := rx_c h
      obtain ⟨g1, h2⟩ := rx_an h2
      obtain ⟨g2, g3⟩ := rx_an h2
      have e0 := rx_bq c0
      exact Or.inr (Or.inl ⟨j, S', by rw [e0], rx_bt g1, rx_bt g2, rx_bq g3, h6⟩)
    | false =>
      rw [c0] at h
      obtain ⟨h2, h6⟩ := rx_c h
      obtain ⟨g1, g2⟩ := rx_an h2
      obtain ⟨z, h7, h8⟩ := rx_at_ok h6
      have e0 := rx_bq g1
      exact Or.inr (Or.inr ⟨j, z, S', by rw [e0], rx_bq g2, h7, h8⟩)
  · cases h
theorem rx_vi_d {X : rx_X} {v : rx_V} {q : Nat} (hq : q = 0 ∨ q = 1) (h : rx_isK q v = true) : rx_d X v = .int (rx_vi X v) := by
  rcases v with i | (n | (_ | j))
  · rfl
  · rcases hq with rfl | rfl <;> cases h
  · rcases hq with rfl | rfl <;> cases h
  · cases h
theorem rx_vl_d {X : rx_X} {v : rx_V} (h : rx_isK 3 v = true) : rx_d X v = .long (rx_vl X v) := by
  rcases v with i | ((n | n) | (_ | j))
  · cases h
  · rfl
  · rfl
  · cases h
  · cases h
theorem rx_vr_d {X : rx_X} {v : rx_V} (h : rx_isK 4 v = true) : rx_d X v = va_rf (rx_vr X v) := by
  rcases v with i | (n | ((_ | k) | j))
  · cases h
  · cases h
  · rfl
  · rfl
  · cases h
theorem rx_q_ald (C : rx_Cx p s m args c X D G own bc nL) {q : Nat} (hd : (q = 0 ∧ decode bc pc = .ok (.iaload, 1)) ∨ (q = 1 ∧ decode bc pc = .ok (.baload, 1)) ∨ (q = 3 ∧ decode bc pc = .ok (.laload, 1)) ∨ (q = 4 ∧ decode bc pc = .ok (.aaload, 1))) (htx : G.2.2.2.1.length = G.2.2.2.2.1 ∧ G.2.2.2.2.1 < 2147483648) (hS : rx_hS (rx_W p l e R s m args below meth c Q X D G nL) K rest r (pc + 1)) (h : rx_al G.1 G.2.2.1 G.2.2.2.1 q K rest L S w cc ss = some r) : rx_W p l e R s m args below meth c Q X D G nL pc L S w cc ss := by
  obtain ⟨hx, hb, -, hown, hts, ⟨hK, -, -, ⟨b, b1, b2, b3⟩, ⟨q1, q2, tx, c1, c2, c3, c4, c5, c6, c7⟩, -, -, h00⟩, hF⟩ := id C
  intro H locs ls hI hl
  rcases rx_al_ok h with ⟨j, k, t, n, u, S', rfl, h1, hj, hn, ht, hk, h⟩ | ⟨j, S', rfl, hj, hn, hq, h5⟩ | ⟨j, z, S', rfl, hq, hz, h5⟩
  · have kk := hS _ _ _ _ _ h H locs ls hI hl
    have hw := rx_w_get (X := X) h1
    have hi : vp_in (nI j) n := vp_in_nI hj hn
    have hcl : (nI j).toNatClampNeg = j := nI_clamp (by omega)
    rw [List.map_cons] at kk
    rcases hd with ⟨rfl, hd⟩ | ⟨rfl, hd⟩ | ⟨rfl, hd⟩ | ⟨rfl, hd⟩
    · have e1 : t = 0 := by omega
      subst e1
      rw [rx_vi_d (Or.inl rfl) hk] at kk
      refine va_iald (f := fun j => rx_vi X (rx_lk u j (rx_df 0))) hx hb hK hI.1 k 0 hw rfl hi hd ?_
      show W p l e R s m args below meth c H locs cc ss Q (F0 m (pc + 1) ls (.int (rx_vi X (rx_lk u (nI j).toNatClampNeg (rx_df 0))) :: S'.map (rx_d X)))
      rw [hcl]; exact kk
    · rw [rx_vi_d (Or.inr rfl) hk] at kk
      rcases (show t = 1 ∨ t = 2 by omega) with rfl | rfl
      · refine va_bald (f := fun j => rx_vi X (rx_lk u j (rx_df 0))) hx hb hK hI.1 k 1 hw rfl hi hd ?_
        show W p l e R s m args below meth c H locs cc ss Q (F0 m (pc + 1) ls (.int (rx_vi X (rx_lk u (nI j).toNatClampNeg (rx_df 0))) :: S'.map (rx_d X)))
        rw [hcl]; exact kk
      · refine va_zald (f := fun j => rx_vi X (rx_lk u j (rx_df 0))) hx hb hK hI.1 k 2 hw rfl hi hd ?_
        show W p l e R s m args below meth c H locs cc ss Q (F0 m (pc + 1) ls (.int (rx_vi X (rx_lk u (nI j).toNatClampNeg (rx_df 0))) :: S'.map (rx_d X)))
        rw [hcl]; exact kk
    · have e1 : t = 3 := by omega
      subst e1
      rw [rx_vl_d hk] at kk
      refine va_lald (f := fun j => rx_vl X (rx_lk u j (rx_df 3))) hx hb hK hI.1 k 3 hw rfl hi hd ?_
      show W p l e R s m args below meth c H locs cc ss Q (F0 m (pc + 1) ls (.long (rx_vl X (rx_lk u (nI j).toNatClampNeg (rx_df 3))) :: S'.map (rx_d X)))
      rw [hcl]; exact kk
    · have e1 : t = 4 := by omega
      subst e1
      rw [rx_vr_d hk] at kk
      refine va_aldq (f := fun j => rx_vr X (rx_lk u j (rx_df 4))) hx hb hK hI.1 k 4 hw rfl hi hd ?_
      show W p l e R s m args below meth c H locs cc ss Q (F0 m (pc + 1) ls (va_rf (rx_vr X (rx_lk u (nI j).toNatClampNeg (rx_df 4))) :: S'.map (rx_d X)))
      rw [hcl]; exact kk
  · subst hq
    have kk := hS _ _ _ _ _ h5 H locs ls hI hl
    have hd0 : decode bc pc = .ok (.iaload, 1) := by
      rcases hd with ⟨-, hd⟩ | ⟨q, -⟩ | ⟨q, -⟩ | ⟨q, -⟩
      · exact hd
      · cases q
      · cases q
      · cases q
    have e1 : rx_d X (.inr (.inr (.inr 0))) = .ref b := by show va_rf _ = _; rw [b1]; rfl
    have e2 : rx_d X (.inl (rx_nm G.1 (j, []))) = .int (X.1 j) := by
      show Value.int (rx_N X _) = _
      rw [rx_nm_ok hF]; rfl
    rw [List.map_cons, e2] at kk
    rw [List.map_cons, List.map_cons, e1]
    refine va_sld (L := G.2.2.1 - 1) hx hb (b2 (by omega)) (by omega) (Nat.not_le.mpr b3) hI.2.2 (i := nI j) (vp_in_nI (by omega) (by omega)) hd0 ?_
    rw [nI_clamp (n := j) (by omega)]
    exact kk
  · subst hq
    have kk := hS _ _ _ _ _ h5 H locs ls hI hl
    have hd0 : decode bc pc = .ok (.baload, 1) := by
      rcases hd with ⟨q, -⟩ | ⟨-, hd⟩ | ⟨q, -⟩ | ⟨q, -⟩
      · cases q
      · exact hd
      · cases q
      · cases q
    have hj : j < G.2.2.2.2.1 := by rw [← htx.1]; exact (List.getElem?_eq_some_iff.mp hz).1
    have e1 : rx_d X (.inr (.inr (.inr 2))) = .ref q2 := by show va_rf _ = _; rw [c2]; rfl
    rw [List.map_cons, List.map_cons, e1]
    refine va_tb (v := .int (nI z)) hx hb c7 hI.2.2 (i := nI j) (vp_in_nI hj htx.2) ?_ hd0 kk
    rw [nI_clamp (n := j) (by have := htx.2; omega)]
    show Value.int (nI (G.2.2.2.1.getD j 0)) = _
    rw [List.getD_eq_getElem?_getD, hz]; rfl
end RXH
end
section
/-! stores, lengths, new cells, copies -/
theorem rx_vi_put (X : rx_X) (u : List (Nat × rx_V)) (j : Nat) (v d : rx_V) : (fun i => rx_vi X (rx_lk ((j, v) :: u.filter (fun q => !Nat.beq q.1 j)) i d)) = upd (fun i => rx_vi X (rx_lk u i d)) j (rx_vi X v) := by
  funext i
  rw [rx_lk_put]
  unfold upd
  split <;> rfl
theorem rx_vl_put (X : rx_X) (u : List (Nat × rx_V)) (j : Nat) (v d : rx_V) : (fun i => rx_vl X (rx_lk ((j, v) :: u.filter (fun q => !Nat.beq q.1 j)) i d)) = vp_updL (fun i => rx_vl X (rx_lk u i d)) j (rx_vl X v) := by
  funext i
  rw [rx_lk_put]
  unfold vp_updL
  split <;> rfl
theorem rx_vr_put (X : rx_X) (u : List (Nat × rx_V)) (j : Nat) (v d : rx_V) : (fun i => rx_vr X (rx_lk ((j, v) :: u.filter (fun q => !Nat.beq q.1 j)) i d)) = va_up (fun i => rx_vr X (rx_lk u i d)) j (rx_vr X v) := by
  funext i
  rw [rx_lk_put]
  unfold va_up
  split <;> rfl
section RXM
variable {p : Program} {l : Launch} {e : Env} {R : Room} {s : State} {m : MethodId} {args : Array Value} {below : List Frame} {meth : Method} {c : Code} {Q : State → Prop} {X : rx_X} {D : va_G} {G : rx_G} {own : String} {bc : ByteArray} {nL pc : Nat} {K : rx_K} {rest cd : List rx_E} {L : rx_L} {S : List rx_V} {w : List rx_C} {cc ss : Nat} {r : rx_R}
theorem rx_as_ok {q : Nat} (h : rx_as q K rest L S w cc ss = some r) : ∃ (v : rx_V) (j k t n : Nat) (u : List (Nat × rx_V)) (S' : List rx_V), S = v :: .inl (.inl j) :: .inr (.inr (.inl (some k))) :: S' ∧ w[k]? = some (.inr (t, n, u)) ∧ j < n ∧ n < 2147483648 ∧ (t = q ∨ (q = 1 ∧ t = 2)) ∧ rx_fit (cond (Nat.beq t 1) 0 t) v = true ∧ K rest L S' (w.set k (.inr (t, n, (j, rx_nar t v) :: u.filter (fun i => !Nat.beq i.1 j)))) cc ss = some r := by
  unfold rx_as at h
  split at h
  · rename_i v j k S'
    obtain ⟨x, h1, h5⟩ := rx_at_ok h
    rcases x with o | ⟨t, n, u⟩
    · cases h5
    · obtain ⟨h2, h6⟩ := rx_c h5
      rw [rx_rem_eq] at h6
      have h7 := rx_set_ok h6
      obtain ⟨g1, h2⟩ := rx_an h2
      obtain ⟨g2, h2⟩ := rx_an h2
      obtain ⟨g3, g4⟩ := rx_an h2
      refine ⟨v, j, k, t, n, u, S', rfl, h1, rx_bt g1, rx_bt g2, ?_, g4, h7⟩
      rcases Bool.or_eq_true_iff.mp g3 with z | z
      · exact Or.inl (rx_bq z)
      · exact Or.inr ⟨rx_bq (rx_an z).1, rx_bq (rx_an z).2⟩
  · cases h
theorem rx_q_iast (C : rx_Cx p s m args c X D G own bc nL) (hd : decode bc pc = .ok (.iastore, 1)) (hS : rx_hS (rx_W p l e R s m args below meth c Q X D G nL) K rest r (pc + 1)) (h : rx_as 0 K rest L S w cc ss = some r) : rx_W p l e R s m args below meth c Q X D G nL pc L S w cc ss := by
  obtain ⟨hx, hb, -, hown, hts, ⟨hK, -⟩, -⟩ := id C
  obtain ⟨v, j, k, t, n, u, S', rfl, h1, hj, hn, ht, hf, h⟩ := rx_as_ok h
  have e1 : t = 0 := by omega
  subst e1
  intro H locs ls hI hl
  rcases v with i | v
  · refine va_iast (f := fun i => rx_vi X (rx_lk u i (rx_df 0))) (x := rx_N X i) hx hb hK hI.1 (rx_w_D X w) hI.2.2 k 0 (rx_w_get (X := X) h1) rfl (vp_in_nI hj hn) hd (fun H1 locs1 hP1 _ hV1 => ?_)
    rw [show (rx_N X (.inl j)) = nI j from rfl, nI_clamp (n := j) (by omega)] at hP1
    refine hS _ _ _ _ _ h H1 locs1 ls (rx_Iv_set (c1 := .inr (0, n, (j, rx_nar 0 (.inl i)) :: u.filter (fun i => !Nat.beq i.1 j))) hI ?_ hV1) hl
    have e2 := rx_vi_put X u j (.inl i) (rx_df 0)
    show va_P D vwCl ((rx_w X 0 w).set k (X.2.1 + k, .inl (X.2.2.2 0, n, .inl (fun i' => rx_vi X (rx_lk ((j, .inl i) :: u.filter (fun q => !Nat.beq q.1 j)) i' (rx_df 0)))))) H1
    rw [e2]; exact hP1
  · rcases v with n | (_ | j) <;> cases hf
theorem rx_q_last (C : rx_Cx p s m args c X D G own bc nL) (hd : decode bc pc = .ok (.lastore, 1)) (hS : rx_hS (rx_W p l e R s m args below meth c Q X D G nL) K rest r (pc + 1)) (h : rx_as 3 K rest L S w cc ss = some r) : rx_W p l e R s m args below meth c Q X D G nL pc L S w cc ss := by
  obtain ⟨hx, hb, -, hown, hts, ⟨hK, -⟩, -⟩ := id C
  obtain ⟨v, j, k, t, n, u, S', rfl, h1, hj, hn, ht, hf, h⟩ := rx_as_ok h
  have e1 : t = 3 := by omega
  subst e1
  intro H locs ls hI hl
  have hv : rx_d X v = .long (rx_vl X v) := by
    rcases v with (i | i) | ((n | n) | (_ | j)) <;> first | rfl | (cases hf; done)
  rw [List.map_cons, hv]
  refine va_last (f := fun i => rx_vl X (rx_lk u i (rx_df 3))) (x := rx_vl X v) hx hb hK hI.1 (rx_w_D X w) hI.2.2 k 3 (rx_w_get (X := X) h1) rfl (vp_in_nI hj hn) hd (fun H1 locs1 hP1 _ hV1 => ?_)
  rw [show (rx_N X (.inl j)) = nI j from rfl, nI_clamp (n := j) (by omega)] at hP1
  refine hS _ _ _ _ _ h H1 locs1 ls (rx_Iv_set (c1 := .inr (3, n, (j, rx_nar 3 v) :: u.filter (fun i => !Nat.beq i.1 j))) hI ?_ hV1) hl
  have e2 := rx_vl_put X u j v (rx_df 3)
  show va_P D vwCl ((rx_w X 0 w).set k (X.2.1 + k, .inl (X.2.2.2 3, n, .inr (.inl (fun i' => rx_vl X (rx_lk ((j, v) :: u.filter (fun q => !Nat.beq q.1 j)) i' (rx_df 3))))))) H1
  rw [e2]; exact hP1
theorem rx_nar_z {n : Nat} (h : n ≤ 1) : vp_nar .boolean (nI n) = nI n := by
  rcases (show n = 0 ∨ n = 1 by omega) with rfl | rfl <;> decide
theorem rx_q_bast (C : rx_Cx p s m args c X D G own bc nL) (hd : decode bc pc = .ok (.bastore, 1)) (hS : rx_hS (rx_W p l e R s m args below meth c Q X D G nL) K rest r (pc + 1)) (h : rx_as 1 K rest L S w cc ss = some r) : rx_W p l e R s m args below meth c Q X D G nL pc L S w cc ss := by
  obtain ⟨hx, hb, -, hown, hts, ⟨hK, -⟩, -⟩ := id C
  obtain ⟨v, j, k, t, n, u, S', rfl, h1, hj, hn, ht, hf, h⟩ := rx_as_ok h
  intro H locs ls hI hl
  rcases (show t = 1 ∨ t = 2 by omega) with rfl | rfl
  · rcases v with i | v
    · refine va_bast (f := fun i => rx_vi X (rx_lk u i (rx_df 0))) (x := rx_N X i) hx hb hK hI.1 (rx_w_D X w) hI.2.2 k 1 (rx_w_get (X := X) h1) rfl (vp_in_nI hj hn) hd (fun H1 locs1 hP1 _ hV1 => ?_)
      rw [show (rx_N X (.inl j)) = nI j from rfl, nI_clamp (n := j) (by omega)] at hP1
      refine hS _ _ _ _ _ h H1 locs1 ls (rx_Iv_set (c1 := .inr (1, n, (j, rx_nar 1 (.inl i)) :: u.filter (fun i => !Nat.beq i.1 j))) hI ?_ hV1) hl
      have e2 := rx_vi_put X u j (rx_nar 1 (.inl i)) (rx_df 0)
      show va_P D vwCl ((rx_w X 0 w).set k (X.2.1 + k, .inl (X.2.2.2 1, n, .inl (fun i' => rx_vi X (rx_lk ((j, rx_nar 1 (.inl i)) :: u.filter (fun q => !Nat.beq q.1 j)) i' (rx_df 0)))))) H1
      rw [e2]
      have e3 : rx_vi X (rx_nar 1 (.inl i)) = vp_nar .byte (rx_N X i) := by
        rw [vp_nar_byte]
        rcases i with x | y
        · exact rx_i2b x
        · rfl
      rw [e3]; exact hP1
    · rcases v with n | (_ | j) <;> cases hf
  · rcases v with (i | i) | v
    · have hi : i ≤ 1 := rx_bl hf
      refine va_zast (f := fun i => rx_vi X (rx_lk u i (rx_df 0))) (x := nI i) hx hb hK hI.1 (rx_w_D X w) hI.2.2 k 2 (rx_w_get (X := X) h1) rfl (vp_in_nI hj hn) hd (fun H1 locs1 hP1 _ hV1 => ?_)
      rw [show (rx_N X (.inl j)) = nI j from rfl, nI_clamp (n := j) (by omega), rx_nar_z hi] at hP1
      refine hS _ _ _ _ _ h H1 locs1 ls (rx_Iv_set (c1 := .inr (2, n, (j, rx_nar 2 (.inl (.inl i))) :: u.filter (fun i => !Nat.beq i.1 j))) hI ?_ hV1) hl
      have e2 := rx_vi_put X u j (.inl (.inl i)) (rx_df 0)
      show va_P D vwCl ((rx_w X 0 w).set k (X.2.1 + k, .inl (X.2.2.2 2, n, .inl (fun i' => rx_vi X (rx_lk ((j, .inl (.inl i)) :: u.filter (fun q => !Nat.beq q.1 j)) i' (rx_df 0)))))) H1
      rw [e2]; exact hP1
    · cases hf
    · rcases v with n | (_ | j) <;> cases hf
theorem rx_q_aast (C : rx_Cx p s m args c X D G own bc nL) {a : Nat} (ha : ∃ T N, vwCl[a]? = some ("GreyRoute$State", T, N)) (hd : decode bc pc = .ok (.aastore, 1)) (hS : rx_hS (rx_W p l e R s m args below meth c Q X D G nL) K rest r (pc + 1)) (h : rx_aq a K rest L S w cc ss = some r) : rx_W p l e R s m args below meth c Q X D G nL pc L S w cc ss := by
  obtain ⟨hx, hb, -, hown, hts, ⟨hK, -⟩, -⟩ := id C
  obtain ⟨T, N, ha⟩ := ha
  unfold rx_aq at h
  split at h
  · rename_i y S0
    obtain ⟨x, g1, h5⟩ := rx_at_ok h
    rcases x with ⟨o1, o2⟩ | o
    · obtain ⟨g2, h6⟩ := rx_c h5
      have g2 : o1 = a := rx_bq g2
      rw [g2] at g1
      obtain ⟨v, j, k, t, n, u, S', e0, h1, hj, hn, ht, hf, h7⟩ := rx_as_ok h6
      have e1 : t = 4 := by omega
      subst e1
      obtain ⟨rfl, rfl⟩ := List.cons.inj e0
      intro H locs ls hI hl
      refine va_astq (r := ("GreyRoute$State", T, N)) (f := fun i => rx_vr X (rx_lk u i (rx_df 4))) hx hb hK hI.1 (rx_w_D X w) hI.2.2 k 4 y a (rx_w_get (X := X) h1) rfl (rx_w_get (X := X) g1) ha (vp_in_nI hj hn) hd (fun H1 locs1 hP1 _ hV1 => ?_)
      rw [show (rx_N X (.inl j)) = nI j from rfl, nI_clamp (n := j) (by omega)] at hP1
      refine hS _ _ _ _ _ h7 H1 locs1 ls (rx_Iv_set (c1 := .inr (4, n, (j, rx_nar 4 (.inr (.inr (.inl (some y))))) :: u.filter (fun i => !Nat.beq i.1 j))) hI ?_ hV1) hl
      have e2 := rx_vr_put X u j (.inr (.inr (.inl (some y)))) (rx_df 4)
      show va_P D vwCl ((rx_w X 0 w).set k (X.2.1 + k, .inl (X.2.2.2 4, n, .inr (.inr (.inr (.inr (fun i' => rx_vr X (rx_lk ((j, .inr (.inr (.inl (some y)))) :: u.filter (fun q => !Nat.beq q.1 j)) i' (rx_df 4))))))))) H1
      rw [e2]; exact hP1
    · cases h5
  · cases h
theorem rx_q_len (C : rx_Cx p s m args c X D G own bc nL) (hd : decode bc pc = .ok (.arraylength, 1)) (hS : rx_hS (rx_W p l e R s m args below meth c Q X D G nL) K rest r (pc + 1)) (h : rx_len G.2.2.1 G.2.2.2.2.1 K rest L S w cc ss = some r) : rx_W p l e R s m args below meth c Q X D G nL pc L S w cc ss := by
  obtain ⟨hx, hb, -, hown, hts, ⟨hK, -, -, ⟨b, b1, b2, b3⟩, ⟨q1, q2, tx, c1, c2, c3, c4, c5, c6, c7⟩, -, -, h00⟩, hF⟩ := id C
  unfold rx_len at h
  split at h
  · rename_i k S'
    obtain ⟨x, g1, h5⟩ := rx_at_ok h
    rcases x with o | ⟨t, n, u⟩
    · cases h5
    · obtain ⟨ht, h6⟩ := rx_c h5
      intro H locs ls hI hl
      have kk := hS _ _ _ _ _ h6 H locs ls hI hl
      have ht := rx_bt ht
      have hw := rx_w_get (X := X) g1
      rcases (show t = 0 ∨ t = 1 ∨ t = 2 ∨ t = 3 ∨ t = 4 by omega) with rfl | rfl | rfl | rfl | rfl
      · exact va_alen (v := nI n) hx hb hK hI.1 k 0 hw rfl rfl hd kk
      · exact va_alen (v := nI n) hx hb hK hI.1 k 1 hw rfl rfl hd kk
      · exact va_alen (v := nI n) hx hb hK hI.1 k 2 hw rfl rfl hd kk
      · exact va_alen (v := nI n) hx hb hK hI.1 k 3 hw rfl rfl hd kk
      · exact va_alen (v := nI n) hx hb hK hI.1 k 4 hw rfl rfl hd kk
  · rename_i k S'
    intro H locs ls hI hl
    cases c0 : Nat.beq k 0 with
    | true =>
      rw [c0] at h
      have e0 := rx_bq c0
      subst e0
      rw [cond_true] at h
      obtain ⟨gz, h5⟩ := rx_c h
      have gz := rx_bt gz
      have kk := hS _ _ _ _ _ h5 H locs ls hI hl
      have e1 : rx_d X (.inr (.inr (.inr 0))) = .ref b := by show va_rf _ = _; rw [b1]; rfl
      rw [List.map_cons, e1]
      exact va_slen (L := G.2.2.1 - 1) hx hb (b2 gz) (by omega) (Nat.not_le.mpr b3) hI.2.2 hd kk
    | false =>
      rw [c0] at h
      obtain ⟨g0, h5⟩ := rx_c h
      have e0 := rx_bq g0
      subst e0
      have kk := hS _ _ _ _ _ h5 H locs ls hI hl
      have e1 : rx_d X (.inr (.inr (.inr 2))) = .ref q2 := by show va_rf _ = _; rw [c2]; rfl
      rw [List.map_cons, e1]
      exact va_tlen (v := nI G.2.2.2.2.1) hx hb c7 hI.2.2 rfl hd kk
  · cases h
end RXM
end
section
/-! new cells, copies, Object's constructor -/
theorem rx_lk_cpl (u : List (Nat × rx_V)) (sp dp : Nat) (tl : List (Nat × rx_V)) (d : rx_V) (i : Nat) : ∀ n : Nat, rx_lk (rx_cpl u sp dp tl n) i d = if dp ≤ i ∧ i < dp + n then rx_lk u (sp + (i - dp)) (.inl (.inl 0)) else rx_lk tl i d := by
  intro n
  induction n with
  | zero =>
    rw [if_neg (by omega)]
    rfl
  | succ n ih =>
    change cond (Nat.beq (dp + n) i) (rx_lk u (sp + n) (.inl (.inl 0))) (rx_lk (rx_cpl u sp dp tl n) i d) = _
    by_cases e : dp + n = i
    · subst e
      have h2 : Nat.beq (dp + n) (dp + n) = true := Nat.beq_refl _
      rw [h2, if_pos (by omega), show sp + (dp + n - dp) = sp + n by omega]
      rfl
    · rw [(rx_bnf _ _).mpr e]
      show rx_lk (rx_cpl u sp dp tl n) i d = _
      rw [ih]
      by_cases h : dp ≤ i ∧ i < dp + n
      · rw [if_pos h, if_pos (by omega)]
      · rw [if_neg h, if_neg (by omega)]
theorem rx_cats_eq (X : rx_X) (S : List rx_V) : ((S.map (rx_d X)).map fun v => v.category).sum = rx_cats S := by
  induction S with
  | nil => rfl
  | cons v t ih =>
    simp only [List.map_cons, List.sum_cons, ih, rx_cat_d]
    rfl
section RXN
variable {p : Program} {l : Launch} {e : Env} {R : Room} {s : State} {m : MethodId} {args : Array Value} {below : List Frame} {meth : Method} {c : Code} {Q : State → Prop} {X : rx_X} {D : va_G} {G : rx_G} {own : String} {bc : ByteArray} {nL pc : Nat} {K : rx_K} {rest cd : List rx_E} {L : rx_L} {S : List rx_V} {w : List rx_C} {cc ss : Nat} {r : rx_R}
/-- one cell more -/
theorem rx_push {H H' : Heap} {locs : List Loc} {c1 : rx_C} (hI : rx_Iv X D G s w cc H locs) (hz : H.size = X.2.1 + w.length) (hz' : H'.size = H.size + 1) (ho : ∀ q, q < H.size → H'[q]? = H[q]?) (ha : va_at D vwCl (X.2.1 + w.length, rx_ce X c1) H') : rx_Iv X D G s (w ++ [c1]) (cc + 1) H' locs := by
  obtain ⟨hP, hc, hV⟩ := hI
  refine ⟨?_, fun q => ?_, Nat.le_trans hV.1 (by omega), fun q h1 h2 => ?_, hV.2.2⟩
  · rw [rx_w_app]
    refine va_P.app (hP.kept (fun k q hk => ho q.1 (hP k q hk).lt)) (fun k q hk => ?_)
    have hk0 : k < 1 := (List.getElem?_eq_some_iff.mp hk).1
    rw [show k = 0 by omega] at hk
    cases hk
    rw [Nat.zero_add]
    exact ha
  · have := hc q
    rw [List.length_append, List.length_singleton]
    omega
  · rw [ho q (Nat.lt_of_lt_of_le h1 hV.1)]
    exact hV.2.1 q h1 h2
theorem rx_sz {H : Heap} {locs : List Loc} (hI : rx_Iv X D G s w cc H locs) (h0 : X.2.1 ≤ s.heap.size) (hal : G.2.1 = true) (h : H.size ≤ s.heap.size + cc) : H.size = X.2.1 + w.length := by
  have h1 := rx_low hI h0
  have h2 := hI.2.1 hal
  omega
theorem rx_q_newa (C : rx_Cx p s m args c X D G own bc nL) {mc ms t : Nat} {at' : Jvm.ClassFile.ArrayType} (hd : decode bc pc = .ok (.newarray at', 2)) (htt : (t = 0 ∧ at' = .int) ∨ (t = 1 ∧ at' = .byte) ∨ (t = 2 ∧ at' = .boolean) ∨ (t = 3 ∧ at' = .long)) (hw : Cond.arrayClass (newarray.typeOf at') ∈ rx_words) (hmc : mc ≤ R.cells) (hms : ms ≤ R.slots) (hS : rx_hS (rx_W p l e R s m args below meth c Q X D G nL) K rest r (pc + 2)) (h : rx_na G.2.1 mc ms t K rest L S w cc ss = some r) : rx_W p l e R s m args below meth c Q X D G nL pc L S w cc ss := by
  obtain ⟨hx, hb, -, hown, hts, ⟨hK, -, -, -, -, -, -, h00⟩, -⟩ := id C
  unfold rx_na at h
  split at h
  · rename_i n S'
    obtain ⟨g, h5⟩ := rx_c h
    rw [rx_snoc_eq] at h5
    obtain ⟨hal, g⟩ := rx_an g
    obtain ⟨g1, g⟩ := rx_an g
    obtain ⟨g2, g3⟩ := rx_an g
    have g1 := rx_bl g1
    have g2 := rx_bl g2
    have g3 := rx_bl g3
    intro H locs ls hI hl
    refine rx_W_size (fun hsz => ?_)
    have hz := rx_sz hI h00 hal hsz
    have hcl : (nI n).toNatClampNeg = n := nI_clamp (by omega)
    have hn0 : ¬ nI n < 0 := nI_pos (by omega)
    rcases htt with ⟨rfl, rfl⟩ | ⟨rfl, rfl⟩ | ⟨rfl, rfl⟩ | ⟨rfl, rfl⟩
    all_goals
      refine va_newaK (h := X.2.1 + w.length) (N := n) hx hb (hts _ hw) rfl hd rfl hn0 hcl (by show n * _ ≤ _; simp only [newarray.typeOf, componentBytes]; omega) (Nat.le_trans g2 hmc) (Nat.le_trans g3 hms) hz (fun H' cA e1 z1 o1 hAr hNm => ?_)
      have kk := hS _ _ _ _ _ h5 H' locs ls (rx_push hI hz (by rw [z1, hz]) (fun q hq => o1 q (by rw [← hz]; exact hq)) ?_) hl
      · rw [Nat.zero_add] at kk
        exact kk
      · show H'[X.2.1 + w.length]? = some (vp_cell _ _)
        rw [e1]
        first
          | (have hc0 : cA = X.2.2.2 0 := Option.some.inj (hNm.symm.trans (hK.2 0 _ rfl).2)
             rw [hc0]; rfl)
          | (have hc0 : cA = X.2.2.2 1 := Option.some.inj (hNm.symm.trans (hK.2 1 _ rfl).2)
             rw [hc0]; rfl)
          | (have hc0 : cA = X.2.2.2 2 := Option.some.inj (hNm.symm.trans (hK.2 2 _ rfl).2)
             rw [hc0]; rfl)
          | (have hc0 : cA = X.2.2.2 3 := Option.some.inj (hNm.symm.trans (hK.2 3 _ rfl).2)
             rw [hc0]; rfl)
  · cases h
theorem rx_q_newq (C : rx_Cx p s m args c X D G own bc nL) {mc ms idx : Nat} (hd : decode bc pc = .ok (.anewarray idx, 3)) (hw : Cond.classLink own idx "GreyRoute$State" ∈ rx_words) (hmc : mc ≤ R.cells) (hms : ms ≤ R.slots) (hS : rx_hS (rx_W p l e R s m args below meth c Q X D G nL) K rest r (pc + 3)) (h : rx_na G.2.1 mc ms 4 K rest L S w cc ss = some r) : rx_W p l e R s m args below meth c Q X D G nL pc L S w cc ss := by
  obtain ⟨hx, hb, -, hown, hts, ⟨hK, -, hAO, -, -, -, -, h00⟩, -⟩ := id C
  unfold rx_na at h
  split at h
  · rename_i n S'
    obtain ⟨g, h5⟩ := rx_c h
    rw [rx_snoc_eq] at h5
    obtain ⟨hal, g⟩ := rx_an g
    obtain ⟨g1, g⟩ := rx_an g
    obtain ⟨g2, g3⟩ := rx_an g
    have g1 := rx_bl g1
    have g2 := rx_bl g2
    have g3 := rx_bl g3
    intro H locs ls hI hl
    refine rx_W_size (fun hsz => ?_)
    have hz := rx_sz hI h00 hal hsz
    have hcl : (nI n).toNatClampNeg = n := nI_clamp (by omega)
    have hn0 : ¬ nI n < 0 := nI_pos (by omega)
    refine W.anew (C := "GreyRoute$State") hx hb hown (hts _ hw) (va_AO.use hAO) rfl hd rfl hn0 (by show (nI n).toNatClampNeg * 4 ≤ _; rw [hcl]; omega) (Nat.le_trans g2 hmc) (by show ss + (nI n).toNatClampNeg ≤ _; rw [hcl]; exact Nat.le_trans g3 hms) (fun cA kA comp f1 f2 f3 f4 => ?_)
    show W p l e R s m args below meth c (H.push { cls := cA, slots := Array.replicate (nI n).toNatClampNeg .null, vm := .none }) locs (cc + 1) (ss + (nI n).toNatClampNeg) Q (F0 m (pc + 3) ls (.ref H.size :: S'.map (rx_d X)))
    rw [hcl, hz]
    have kk := hS _ _ _ _ _ h5 (H.push { cls := cA, slots := Array.replicate n .null, vm := .none }) locs ls (rx_push hI hz (by rw [Array.size_push]) (fun q hq => by rw [Array.getElem?_push, if_neg (Nat.ne_of_lt hq)]) ?_) hl
    · rw [Nat.zero_add] at kk
      exact kk
    · show (H.push _)[X.2.1 + w.length]? = some (vp_cell _ _)
      rw [← hz, Array.getElem?_push_size]
      obtain ⟨kA', comp', k1, k2, k3, k4⟩ := (hK.2 4 _ rfl).2
      have hc0 : cA = X.2.2.2 4 := Option.some.inj (f1.symm.trans k4)
      rw [hc0, arrV_new]
      rfl
  · cases h
theorem rx_q_new (C : rx_Cx p s m args c X D G own bc nL) {mc ms a b idx : Nat} {Cn : String} {T : u_T} {N : Nat} {ty0 : Nat → FieldType} {df : List rx_V} (hd : decode bc pc = .ok (.new idx, 3)) (hin : ∀ w ∈ u_ws Cn T N, w ∈ rx_words) (hty : ∀ k, k < N → parseFieldDescriptor (T k).2.2.1 = some (ty0 k)) (hc : vwCl[a]? = some (Cn, T, N)) (hbN : b = N) (hfs : ∀ j, j < N → defaultValue (ty0 j) = vp_V (df.map (rx_d X)) j) (hw1 : Cond.classLink own idx Cn ∈ rx_words) (hw2 : Cond.instantiable Cn N ∈ rx_words) (hw3 : Cond.initialized Cn ∈ rx_words) (hmc : mc ≤ R.cells) (hms : ms ≤ R.slots) (hS : rx_hS (rx_W p l e R s m args below meth c Q X D G nL) K rest r (pc + 3)) (h : rx_nw G.2.1 mc ms a b df K rest L S w cc ss = some r) : rx_W p l e R s m args below meth c Q X D G nL pc L S w cc ss := by
  obtain ⟨hx, hb, -, hown, hts, ⟨hK, -, -, -, -, -, -, h00⟩, -⟩ := id C
  subst hbN
  unfold rx_nw at h
  obtain ⟨g, h5⟩ := rx_c h
  rw [rx_snoc_eq] at h5
  obtain ⟨hal, g⟩ := rx_an g
  obtain ⟨g2, g3⟩ := rx_an g
  have g2 := rx_bl g2
  have g3 := rx_bl g3
  intro H locs ls hI hl
  refine rx_W_size (fun hsz => ?_)
  have hz := rx_sz hI h00 hal hsz
  have hKn := hK.1 a _ hc
  refine W.newcK hx hb hown (hts _ hw1) (hts _ hw2) (hts _ hw3) rfl hd (Nat.le_trans g2 hmc) (Nat.le_trans g3 hms) hKn.2.1 hz (fun H' kC hkC e1 z1 o1 => ?_)
  have kk := hS _ _ _ _ _ h5 H' locs ls (rx_push hI hz (by rw [z1, hz]) (fun q hq => o1 q (by rw [← hz]; exact hq)) ?_) hl
  · rw [Nat.zero_add] at kk
    exact kk
  · exact ⟨_, hc, (u_born ty0 hts hin hKn hkC e1 hty).to hfs⟩
theorem rx_q_cpy (C : rx_Cx p s m args c X D G own bc nL) {idx : Nat} (hd : decode bc pc = .ok (.invokestatic idx, 3)) (hw1 : Cond.methodLink own idx arraycopyName ∈ rx_words) (hw2 : Cond.native arraycopyName ∈ rx_words) (hw3 : Cond.static arraycopyName ∈ rx_words) (hw4 : Cond.initialized "java/lang/System" ∈ rx_words) (hfr : 1 ≤ R.frames) (hlo : 64 ≤ R.locals) (hS : rx_hS (rx_W p l e R s m args below meth c Q X D G nL) K rest r (pc + 3)) (h : rx_cpy K rest L S w cc ss = some r) : rx_W p l e R s m args below meth c Q X D G nL pc L S w cc ss := by
  obtain ⟨hx, hb, hml, hown, hts, ⟨hK, -⟩, -⟩ := id C
  unfold rx_cpy at h
  split at h
  · rename_i n dp k1 sp k0 S'
    obtain ⟨g0, h4⟩ := rx_c h
    obtain ⟨x, y1, h5⟩ := rx_at_ok h4
    rcases x with o | ⟨t0, n0, u0⟩
    · cases h5
    · obtain ⟨y, y2, h6⟩ := rx_at_ok h5
      rcases y with o | ⟨t1, n1, u1⟩
      · cases h6
      · obtain ⟨g, h7⟩ := rx_c h6
        have h8 := rx_set_ok h7
        obtain ⟨f1, g⟩ := rx_an g
        obtain ⟨f2, g⟩ := rx_an g
        obtain ⟨f3, g⟩ := rx_an g
        obtain ⟨f4, g⟩ := rx_an g
        obtain ⟨f5, f6⟩ := rx_an g
        have f1 := rx_bq f1
        have f2 := rx_bq f2
        have f3 := rx_bl f3
        have f4 := rx_bl f4
        have f5 := rx_bt f5
        have f6 := rx_bt f6
        have g0 := rx_bl g0
        subst f1
        subst f2
        intro H locs ls hI hl
        have c1 : (nI sp).toNatClampNeg = sp := nI_clamp (by omega)
        have c2 : (nI dp).toNatClampNeg = dp := nI_clamp (by omega)
        have c3 : (nI n).toNatClampNeg = n := nI_clamp (by omega)
        refine va_copyi (sp := nI sp) (dp := nI dp) (n := nI n) (ty := .int) (f := fun i => rx_vi X (rx_lk u0 i (rx_df 0))) (g := fun i => rx_vi X (rx_lk u1 i (rx_df 0))) hx hb (by rw [hml]; exact hl.1.symm) hown (hts _ hw1) (hts _ hw2) (hts _ hw3) (hts _ hw4) hK hI.1 (rx_w_D X w) hI.2.2 k0 k1 0 0 (rx_w_get (X := X) y1) (rx_w_get (X := X) y2) rfl rfl rfl (nI_pos (by omega)) (nI_pos (by omega)) (nI_pos (by omega)) (by rw [c1, c3]; exact f3) (by rw [c2, c3]; exact f4) (fun _ _ => rfl) hfr (by rw [rx_cats_eq]; exact Nat.le_trans (Nat.add_le_add_right g0 _) (Nat.le_trans (by decide +kernel) hlo)) hd (fun H1 locs1 hP1 _ hV1 => ?_)
        rw [c1, c2, c3] at hP1
        refine hS _ _ _ _ _ h8 H1 locs1 ls (rx_Iv_set (c1 := .inr (0, n1, rx_cpl u0 sp dp u1 n)) hI ?_ hV1) hl
        have e2 : (fun i => rx_vi X (rx_lk (rx_cpl u0 sp dp u1 n) i (rx_df 0))) = va_cpy (fun i => rx_vi X (rx_lk u0 i (rx_df 0))) (fun i => rx_vi X (rx_lk u1 i (rx_df 0))) sp dp n := by
          funext i
          rw [rx_lk_cpl]
          unfold va_cpy
          split <;> rfl
        show va_P D vwCl ((rx_w X 0 w).set k1 (X.2.1 + k1, .inl (X.2.2.2 0, n1, .inl (fun i => rx_vi X (rx_lk (rx_cpl u0 sp dp u1 n) i (rx_df 0)))))) H1
        rw [e2]; exact hP1
  · cases h
theorem rx_q_oi (C : rx_Cx p s m args c X D G own bc nL) {idx : Nat} (hd : decode bc pc = .ok (.invokespecial idx, 3)) (hw1 : Cond.methodLink own idx objectInit ∈ rx_words) (hw2 : Cond.instanceMethod objectInit ∈ rx_words) (hw3 : Cond.code objectInit ⟨#[0xb1]⟩ 1 none ∈ rx_words) (hfr : 1 ≤ R.frames) (hlo : 64 ≤ R.locals) (hS : rx_hS (rx_W p l e R s m args below meth c Q X D G nL) K rest r (pc + 3)) (h : rx_oi K rest L S w cc ss = some r) : rx_W p l e R s m args below meth c Q X D G nL pc L S w cc ss := by
  obtain ⟨hx, hb, hml, hown, hts, -, -⟩ := id C
  unfold rx_oi at h
  split at h
  · rename_i k S'
    obtain ⟨g0, h5⟩ := rx_c h
    have g0 := rx_bl g0
    intro H locs ls hI hl
    refine W.objInit hx hb hown (hts _ hw1) (hts _ hw2) (hts _ hw3) rfl (by rw [hml]; exact hl.1) rfl hd hfr ?_ (hS _ _ _ _ _ h5 H locs ls hI hl)
    rw [rx_cats_eq]
    show 2 * 0 + _ + 12 ≤ _
    omega
  · cases h
end RXN
end
section
/-! calls -/
theorem rx_W_sizeR {p : Program} {l : Launch} {e : Env} {R : Room} {s : State} {m : MethodId} {args : Array Value} {below : List Frame} {meth : Method} {c : Code} {H : Heap} {locs : List Loc} {cells slots mc ms : Nat} {g : JFrame} {rest : List Value} {Qa : State → Outcome → State → Prop} {free : Addr → Prop} (k : H.size ≤ s.heap.size + cells → va_Run p l e R s m args below meth c H locs cells slots mc ms g rest Qa free) : va_Run p l e R s m args below meth c H locs cells slots mc ms g rest Qa free := by
  intro T hT Y
  have h := Y.heapSize
  rw [hT] at h
  exact k h T hT Y
def rx_ps (r : Option rx_V) (S : List rx_V) : List rx_V := match r with
  | some v => v :: S
  | none => S
section RXC
variable {p : Program} {l : Launch} {e : Env} {R : Room} {s : State} {m : MethodId} {args : Array Value} {below : List Frame} {meth : Method} {c : Code} {Q : State → Prop} {X : rx_X} {D : va_G} {G : rx_G} {own : String} {bc : ByteArray} {nL pc : Nat} {K : rx_K} {rest cd : List rx_E} {L : rx_L} {S : List rx_V} {w : List rx_C} {cc ss : Nat} {r : rx_R}
theorem rx_inv_ok {al : Bool} {mc ms nu n q a : Nat} {cap : Nat → Nat × Nat} {ex : Nat → List rx_V → List rx_C → Option (Option rx_V × List rx_C)} (h : rx_inv al mc ms cap ex K rest nu n q a L S w cc ss = some r) : ∃ (as S' : List rx_V) (r' : Option rx_V) (w' : List rx_C), S = as.reverse ++ S' ∧ as.length = n ∧ rx_cats S' ≤ 8 ∧ cc + (cap nu).1 ≤ mc ∧ ss + (cap nu).2 ≤ ms ∧ ex nu as w = some (r', w') ∧ (q = 0 ∨ (q = 1 ∧ ∃ (k : Nat) (as' fs : List rx_V), as = .inr (.inr (.inl (some k))) :: as' ∧ w[k]? = some (.inl (a, fs))) ∨ (q = 2 ∧ ∃ as' : List rx_V, as = .inr (.inr (.inr 1)) :: as')) ∧ K rest L (rx_ps r' S') w' (cc + (cap nu).1) (ss + (cap nu).2) = some r := by
  unfold rx_inv at h
  obtain ⟨as, S', h1, h2, h3⟩ := rx_take_ok h
  rw [List.append_nil] at h3
  obtain ⟨g, h4⟩ := rx_c h3
  obtain ⟨g1, g⟩ := rx_an g
  obtain ⟨g2, g3⟩ := rx_an g
  cases hx : ex nu as w with
  | none => rw [hx] at h4; cases h4
  | some z =>
    obtain ⟨r', w'⟩ := z
    rw [hx] at h4
    refine ⟨as, S', r', w', h1, h2, rx_bl g1, rx_bl g2, rx_bl g3, hx, ?_⟩
    dsimp only at h4
    split at h4
    · exact ⟨Or.inl rfl, h4⟩
    · rename_i k as'
      obtain ⟨x, y1, h5⟩ := rx_at_ok h4
      rcases x with ⟨o1, o2⟩ | o
      · obtain ⟨y2, h6⟩ := rx_c h5
        have y2 : o1 = a := rx_bq y2
        rw [y2] at y1
        exact ⟨Or.inr (Or.inl ⟨rfl, k, as', o2, rfl, y1⟩), h6⟩
      · cases h5
    · rename_i k as'
      obtain ⟨y2, h6⟩ := rx_c h4
      have y2 := rx_bq y2
      exact ⟨Or.inr (Or.inr ⟨rfl, as', by rw [y2]⟩), h6⟩
    · cases h4
theorem rx_callW {H : Heap} {locs : List Loc} {ls : Array Slot} {st0 S' : List rx_V} {c1 s1 : Nat} {r' : Option rx_V} {w' : List rx_C} {av : Array Value} (hr : va_Run p l e R s m args below meth c H locs cc ss c1 s1 (F0 m pc ls (st0.map (rx_d X))) (S'.map (rx_d X)) (rx_Qc X D G c1 r' w' av) (rx_A X)) (hI : rx_Iv X D G s w cc H locs) (h00 : X.2.1 ≤ s.heap.size) (hl : lv_has ls nL (rx_Lm X L)) (kk : rx_W p l e R s m args below meth c Q X D G nL (pc + 3) L (rx_ps r' S') w' (cc + c1) (ss + s1)) : W p l e R s m args below meth c H locs cc ss Q (F0 m pc ls (st0.map (rx_d X))) := by
  intro T hT Y
  obtain ⟨v, st₀, t, T', L1, e0, Y', hL, e1, e2, ⟨hv, hP, hz, hz2, hk⟩, st⟩ := hr T hT Y
  have hlow := rx_low hI h00
  obtain ⟨hP0, hc0, hV⟩ := hI
  have hv : v = r'.map (rx_d X) := by cases hv; rfl
  rw [e0] at hz hz2 hk
  have hIv : rx_Iv X D G s w' (cc + c1) T'.heap (locs ++ L1) := by
    refine ⟨by rw [e1]; exact hP, fun q => ?_, Nat.le_trans hV.1 (by rw [e1]; exact hz2), fun q h1 h2 => ?_, fun q hq => ?_⟩
    · have y1 := hz q
      have y2 := hc0 q
      omega
    · rw [e1, hk q (Nat.lt_of_lt_of_le h1 hV.1) h2]
      exact hV.2.1 q h1 h2
    · rcases List.mem_append.mp hq with z | z
      · exact hV.2.2 q z
      · exact hL q z
  obtain ⟨t2, a1, b1⟩ := kk T'.heap (locs ++ L1) ls hIv hl T' rfl Y'
  refine ⟨t2, st t2 ?_, b1⟩
  rw [hv]
  cases r' with
  | none => exact a1
  | some x => exact a1
theorem rx_preS {H : Heap} {locs : List Loc} {as : List rx_V} (C : rx_Cx p s m args c X D G own bc nL) (hI : rx_Iv X D G s w cc H locs) (hsz : H.size ≤ s.heap.size + cc) : PreS s H (rx_Pc X D G as w) (as.map (rx_d X)) := by
  obtain ⟨-, -, -, -, -, hU, -⟩ := C
  refine ⟨rx_Pc_blind X D G as w, fun U hU2 hW => ⟨rfl, by rw [hU2]; exact hI.1, fun q => ?_, ?_⟩⟩
  · have := hI.2.1 q
    rw [hU2]
    omega
  · refine rx_U0.to hW ?_ (fun q h1 h2 => ?_) hU
    · rw [hU2]; exact hI.2.2.1
    · rw [hU2]; exact hI.2.2.2.1 q h1 h2
theorem rx_goodc {Y : rx_Y} (h : Cond.code Y.1 Y.2.1 Y.2.2.1 Y.2.2.2 ∈ rx_words) : GoodIn rx_words (Cond.code Y.1 Y.2.1 Y.2.2.1 Y.2.2.2 :: rx_words) := by
  intro w hw
  rcases List.mem_cons.mp hw with rfl | hw
  · exact rx_words_good _ h
  · exact rx_words_good _ hw
/-- a call without a receiver -/
theorem rx_q_stat (C : rx_Cx p s m args c X D G own bc nL) {Y : rx_Y} {d idx mc ms nu n : Nat} {cap : Nat → Nat × Nat} {ex : Nat → List rx_V → List rx_C → Option (Option rx_V × List rx_C)} (hd : decode bc pc = .ok (.invokestatic idx, 3)) (hmc : mc ≤ R.cells) (hms : ms ≤ R.slots) (hfr : d + 1 ≤ R.frames) (hlo : 64 * d + 64 ≤ R.locals) (hmx : Y.2.2.1 ≤ 45)
    (hM : ∀ (as : List rx_V) (w : List rx_C) (r' : Option rx_V) (w' : List rx_C), ex nu as w = some (r', w') → rx_Met l d (cap nu).1 (cap nu).2 Y X D G as w r' w')
    (hc : Cond.code Y.1 Y.2.1 Y.2.2.1 Y.2.2.2 ∈ rx_words) (hi : Cond.initialized Y.1.cls ∈ rx_words) (hst : Cond.static Y.1 ∈ rx_words) (hlk : Cond.methodLink own idx Y.1 ∈ rx_words ∨ ∃ host, Cond.methodLinkNest own idx Y.1 host ∈ rx_NW) (hy : Y.1.cls ≠ "java/lang/invoke/MethodHandle" ∧ Y.1.cls ≠ "java/lang/invoke/VarHandle" ∧ (parseMethodDescriptor Y.1.desc).map (fun d => d.parameters.length) = some n)
    (hS : rx_hS (rx_W p l e R s m args below meth c Q X D G nL) K rest r (pc + 3)) (h : rx_inv G.2.1 mc ms cap ex K rest nu n 0 0 L S w cc ss = some r) : rx_W p l e R s m args below meth c Q X D G nL pc L S w cc ss := by
  obtain ⟨hx, hb, hml, hown, hts, ⟨-, hNW, -, -, -, -, -, h00⟩, -⟩ := id C
  obtain ⟨as, S', r', w', rfl, h2, h3, h4, h5, h6, -, h7⟩ := rx_inv_ok h
  intro H locs ls hI hl
  refine rx_callW (av := #[]) (S' := S') (r' := r') (w' := w') ?_ hI h00 hl (hS _ _ _ _ _ h7)
  refine rx_W_sizeR (fun hsz => ?_)
  have hR : (rx_rm d (cap nu).1 (cap nu).2).frames + 1 ≤ R.frames ∧ 8 + (Y.2.2.1 + 11) + (rx_rm d (cap nu).1 (cap nu).2).locals ≤ R.locals := ⟨hfr, by show 8 + (Y.2.2.1 + 11) + 64 * d ≤ R.locals; omega⟩
  have hrm : ((S'.map (rx_d X)).map (fun v => v.category)).sum ≤ 8 := by rw [rx_cats_eq]; exact h3
  have hstk : (as.reverse ++ S').map (rx_d X) = (as.map (rx_d X)).reverse ++ S'.map (rx_d X) := by rw [List.map_append, List.map_reverse]
  rcases hlk with hlk | ⟨host, hlk⟩
  · exact va_runS (As := as.map (rx_d X)) ⟨hx, hb, hml, hown, hts⟩ (hM as w r' w' h6) ⟨callB_of n hts (rx_goodc hc) rfl rfl rfl (hts _ hi) (hts _ hlk) hy hR, hts _ hst⟩ (rx_preS C hI hsz) rfl (by rw [List.length_map]; exact h2) hl.1 hstk (lv_room hrm) hd ⟨Nat.le_trans h4 hmc, Nat.le_trans h5 hms⟩
  · exact va_runSN (As := as.map (rx_d X)) ⟨hx, hb, hml, hown, hts⟩ (hM as w r' w' h6) ⟨va_cnB n hts (rx_goodc hc) rfl rfl rfl (hNW _ hlk) (hts _ hi) hy hR, hts _ hst, trivial⟩ (rx_preS C hI hsz) rfl (by rw [List.length_map]; exact h2) hl.1 hstk (lv_room hrm) hd ⟨Nat.le_trans h4 hmc, Nat.le_trans h5 hms⟩
/-- a constructor -/
theorem rx_q_spec (C : rx_Cx p s m args c X D G own bc nL) {Y : rx_Y} {d idx mc ms nu n a : Nat} {cap : Nat → Nat × Nat} {ex : Nat → List rx_V → List rx_C → Option (Option rx_V × List rx_C)} (hd : decode bc pc = .ok (.invokespecial idx, 3)) (hmc : mc ≤ R.cells) (hms : ms ≤ R.slots) (hfr : d + 1 ≤ R.frames) (hlo : 64 * d + 64 ≤ R.locals) (hmx : Y.2.2.1 ≤ 45)
    (hM : ∀ (as : List rx_V) (w : List rx_C) (r' : Option rx_V) (w' : List rx_C), ex nu as w = some (r', w') → rx_Met l d (cap nu).1 (cap nu).2 Y X D G as w r' w')
    (hc : Cond.code Y.1 Y.2.1 Y.2.2.1 Y.2.2.2 ∈ rx_words) (hi : Cond.initialized Y.1.cls ∈ rx_words) (hst : Cond.instanceMethod Y.1 ∈ rx_words) (hlk : Cond.methodLink own idx Y.1 ∈ rx_words ∨ ∃ host, Cond.methodLinkNest own idx Y.1 host ∈ rx_NW) (hnm : Y.1.name = "<init>") (hrt : Y.2.2.2 = none) (hy : Y.1.cls ≠ "java/lang/invoke/MethodHandle" ∧ Y.1.cls ≠ "java/lang/invoke/VarHandle" ∧ (parseMethodDescriptor Y.1.desc).map (fun d => d.parameters.length) = some n)
    (hS : rx_hS (rx_W p l e R s m args below meth c Q X D G nL) K rest r (pc + 3)) (h : rx_inv G.2.1 mc ms cap ex K rest nu (n + 1) 1 a L S w cc ss = some r) : rx_W p l e R s m args below meth c Q X D G nL pc L S w cc ss := by
  obtain ⟨hx, hb, hml, hown, hts, ⟨-, hNW, -, -, -, -, -, h00⟩, -⟩ := id C
  obtain ⟨as, S', r', w', rfl, h2, h3, h4, h5, h6, hq, h7⟩ := rx_inv_ok h
  rcases hq with q | ⟨-, k, as', fs, rfl, y1⟩ | ⟨q, -⟩
  · cases q
  · intro H locs ls hI hl
    refine rx_callW (av := #[]) (S' := S') (r' := r') (w' := w') ?_ hI h00 hl (hS _ _ _ _ _ h7)
    refine rx_W_sizeR (fun hsz => ?_)
    have hR : (rx_rm d (cap nu).1 (cap nu).2).frames + 1 ≤ R.frames ∧ 8 + (Y.2.2.1 + 11) + (rx_rm d (cap nu).1 (cap nu).2).locals ≤ R.locals := ⟨hfr, by show 8 + (Y.2.2.1 + 11) + 64 * d ≤ R.locals; omega⟩
    have hrm : ((S'.map (rx_d X)).map (fun v => v.category)).sum ≤ 8 := by rw [rx_cats_eq]; exact h3
    have hstk : ((.inr (.inr (.inl (some k))) :: as' : List rx_V).reverse ++ S').map (rx_d X) = (as'.map (rx_d X)).reverse ++ .ref (X.2.1 + k) :: S'.map (rx_d X) := by
      rw [List.map_append, List.map_reverse, List.map_cons, List.reverse_cons, List.append_assoc]; rfl
    have hlen : (as'.map (rx_d X)).length = n := by rw [List.length_map]; simpa using h2
    have hM' := hM _ w r' w' h6
    unfold rx_Met at hM'
    rw [hrt] at hM' hc
    have hg : GoodIn rx_words (Cond.code Y.1 Y.2.1 Y.2.2.1 none :: rx_words) := rx_goodc (Y := (Y.1, Y.2.1, Y.2.2.1, none)) hc
    rcases hlk with hlk | ⟨host, hlk⟩
    · exact va_runI (As := as'.map (rx_d X)) (b := X.2.1 + k) ⟨hx, hb, hml, hown, hts⟩ hM' ⟨callB_of n hts hg rfl rfl rfl (hts _ hi) (hts _ hlk) hy hR, hnm, hts _ hst⟩ (rx_preS C hI hsz) rfl hlen hl.1 hstk (lv_room hrm) hd ⟨Nat.le_trans h4 hmc, Nat.le_trans h5 hms⟩
    · exact va_runIN (As := as'.map (rx_d X)) (b := X.2.1 + k) ⟨hx, hb, hml, hown, hts⟩ hM' ⟨va_cnB n hts hg rfl rfl rfl (hNW _ hlk) (hts _ hi) hy hR, hnm, hts _ hst⟩ (rx_preS C hI hsz) rfl hlen hl.1 hstk (lv_room hrm) hd ⟨Nat.le_trans h4 hmc, Nat.le_trans h5 hms⟩
  · cases q
/-- a call of an object's method -/
theorem rx_q_virt (C : rx_Cx p s m args c X D G own bc nL) {Y : rx_Y} {d idx mc ms nu n a q : Nat} {cap : Nat → Nat × Nat} {ex : Nat → List rx_V → List rx_C → Option (Option rx_V × List rx_C)} (hd : decode bc pc = .ok (.invokevirtual idx, 3)) (hmc : mc ≤ R.cells) (hms : ms ≤ R.slots) (hfr : d + 1 ≤ R.frames) (hlo : 64 * d + 64 ≤ R.locals) (hmx : Y.2.2.1 ≤ 45)
    (hM : ∀ (as : List rx_V) (w : List rx_C) (r' : Option rx_V) (w' : List rx_C), ex nu as w = some (r', w') → rx_Met l d (cap nu).1 (cap nu).2 Y X D G as w r' w')
    (hc : Cond.code Y.1 Y.2.1 Y.2.2.1 Y.2.2.2 ∈ rx_words) (hi : Cond.initialized Y.1.cls ∈ rx_words) (hst : Cond.instanceMethod Y.1 ∈ rx_words) (hse : Cond.selects Y.1.cls Y.1 Y.1 ∈ rx_words) (hlk : Cond.methodLink own idx Y.1 ∈ rx_words ∨ ∃ host, Cond.methodLinkNest own idx Y.1 host ∈ rx_NW) (hq : (q = 1 ∧ ∃ T N, vwCl[a]? = some (Y.1.cls, T, N)) ∨ (q = 2 ∧ Y.1.cls = "java/lang/String")) (hy : Y.1.cls ≠ "java/lang/invoke/MethodHandle" ∧ Y.1.cls ≠ "java/lang/invoke/VarHandle" ∧ (parseMethodDescriptor Y.1.desc).map (fun d => d.parameters.length) = some n)
    (hS : rx_hS (rx_W p l e R s m args below meth c Q X D G nL) K rest r (pc + 3)) (h : rx_inv G.2.1 mc ms cap ex K rest nu (n + 1) q a L S w cc ss = some r) : rx_W p l e R s m args below meth c Q X D G nL pc L S w cc ss := by
  obtain ⟨hx, hb, hml, hown, hts, ⟨hK, hNW, -, -, ⟨q1, q2, tx, c1, c2, c3, c4, -⟩, -, -, h00⟩, -⟩ := id C
  obtain ⟨as, S', r', w', rfl, h2, h3, h4, h5, h6, hq2, h7⟩ := rx_inv_ok h
  intro H locs ls hI hl
  have hR : (rx_rm d (cap nu).1 (cap nu).2).frames + 1 ≤ R.frames ∧ 8 + (Y.2.2.1 + 11) + (rx_rm d (cap nu).1 (cap nu).2).locals ≤ R.locals := ⟨hfr, by show 8 + (Y.2.2.1 + 11) + 64 * d ≤ R.locals; omega⟩
  have hrm : ((S'.map (rx_d X)).map (fun v => v.category)).sum ≤ 8 := by rw [rx_cats_eq]; exact h3
  refine rx_callW (av := #[]) (S' := S') (r' := r') (w' := w') ?_ hI h00 hl (hS _ _ _ _ _ h7)
  refine rx_W_sizeR (fun hsz => ?_)
  have hpre := rx_preS (as := as) C hI hsz
  have hM' := hM as w r' w' h6
  -- the receiver: its address, and that it is there
  have hrec : ∃ (b : Nat) (As : List Value), as.map (rx_d X) = .ref b :: As ∧ As.length = n ∧ ∃ cell : Cell, H[b]? = some cell ∧ cell.vm.isStatics = false ∧ s.vm.findClass Y.1.cls = some cell.cls := by
    rcases hq with ⟨rfl, T, N, hcl⟩ | ⟨rfl, hstr⟩
    · rcases hq2 with z | ⟨-, k, as', fs, rfl, y1⟩ | ⟨z, -⟩
      · cases z
      · exact ⟨X.2.1 + k, as'.map (rx_d X), rfl, by rw [List.length_map]; simpa using h2, va_recv hK hI.1 hcl (rx_w_get (X := X) y1)⟩
      · cases z
    · rcases hq2 with z | ⟨z, -⟩ | ⟨-, as', rfl⟩
      · cases z
      · cases z
      · have e1 : rx_d X (.inr (.inr (.inr 1))) = .ref q1 := by show va_rf _ = _; rw [c1]; rfl
        obtain ⟨cell, y1, y2, y3, -⟩ := c4.kept hI.2.2.2.1
        exact ⟨q1, as'.map (rx_d X), by rw [List.map_cons, e1], by rw [List.length_map]; simpa using h2, cell, y1, y2, by rw [hstr]; exact y3⟩
  obtain ⟨b, As, hAs, hlen, hcell⟩ := hrec
  have hstk : (as.reverse ++ S').map (rx_d X) = As.reverse ++ .ref b :: S'.map (rx_d X) := by
    rw [List.map_append, List.map_reverse, hAs, List.reverse_cons, List.append_assoc]; rfl
  rw [hAs] at hpre
  have hpv : PreV s H Y.1.cls b (rx_Pc X D G as w) As := ⟨hpre.1, hcell, hpre.2⟩
  rcases hlk with hlk | ⟨host, hlk⟩
  · exact va_runV (As := As) (b := b) ⟨hx, hb, hml, hown, hts⟩ hM' ⟨callB_of n hts (rx_goodc hc) rfl rfl rfl (hts _ hi) (hts _ hlk) hy hR, hts _ hst, hts _ hse⟩ hpv rfl hlen hl.1 hstk (lv_room hrm) hd ⟨Nat.le_trans h4 hmc, Nat.le_trans h5 hms⟩
  · exact va_runVN (As := As) (b := b) ⟨hx, hb, hml, hown, hts⟩ hM' ⟨va_cnB n hts (rx_goodc hc) rfl rfl rfl (hNW _ hlk) (hts _ hi) hy hR, hts _ hst, hts _ hse⟩ hpv rfl hlen hl.1 hstk (lv_room hrm) hd ⟨Nat.le_trans h4 hmc, Nat.le_trans h5 hms⟩
end RXC
end
section
/-! what a table must be: decided by the kernel, row by row -/
def rx_ch : List (List Cond) := [k2_sels lw_privs, tables_1_1, tables_1_2, tables_1_3, tables_1_4, tables_1_5, tables_1_6, tables_1_7, tables_1_8, tables_1_9]
theorem rx_ch_ok : ∀ c ∈ rx_ch, ∀ w ∈ c, w ∈ lw_tbl := by
  intro c hc w hw
  simp only [rx_ch, List.mem_cons, List.not_mem_nil, or_false] at hc
  unfold lw_tbl tables_1
  simp only [List.mem_append]
  rcases hc with rfl | rfl | rfl | rfl | rfl | rfl | rfl | rfl | rfl | rfl <;> simp [hw]
/-- a word of the tables: its list, its place there -/
def rx_wq (p : Nat) : Option Cond := (rx_ch.getD (p / 256) [])[p % 256]?
theorem rx_wq_ok {p : Nat} {w : Cond} (h : rx_wq p = some w) : w ∈ lw_tbl := by
  unfold rx_wq at h
  rw [List.getD_eq_getElem?_getD] at h
  cases hc : rx_ch[p / 256]? with
  | none => rw [hc] at h; simp at h
  | some c => rw [hc] at h; exact rx_ch_ok c (List.mem_of_getElem? hc) w (List.mem_of_getElem? h)
def rx_wd (p : Nat) (w : Cond) : Bool := decide (rx_wq p = some w) && goodWord w
def rx_nd (p : Nat) (w : Cond) : Bool := decide (rx_wq p = some w) && rx_isN w
theorem rx_wd_ok {p : Nat} {w : Cond} (h : rx_wd p w = true) : w ∈ rx_words := by
  obtain ⟨h1, h2⟩ := rx_an h
  exact List.mem_filter.mpr ⟨rx_wq_ok (of_decide_eq_true h1), h2⟩
theorem rx_nd_ok {p : Nat} {w : Cond} (h : rx_nd p w = true) : w ∈ rx_NW := by
  obtain ⟨h1, h2⟩ := rx_an h
  exact List.mem_filter.mpr ⟨rx_wq_ok (of_decide_eq_true h1), h2⟩
def rx_ty (T : u_T) (k : Nat) : FieldType := (parseFieldDescriptor (T k).2.2.1).getD .int
/-- a class's words, its fields' types and names -/
def rx_clOk (q : vw_C) : Prop := (∀ w ∈ u_ws q.1 q.2.1 q.2.2, w ∈ rx_words) ∧ (∀ k, k < q.2.2 → parseFieldDescriptor (q.2.1 k).2.2.1 = some (rx_ty q.2.1 k)) ∧ (∀ a, a < q.2.2 → ∀ b, b < q.2.2 → a ≠ b → (q.2.1 a).2.1 ≠ (q.2.1 b).2.1)
def rx_nth (t : List Nat) (k : Nat) : Nat := t.getD k 0
/-- the instruction stands there, of this length -/
def rx_d1 (cc : ByteArray) (e : rx_E) (n : Nat) : Bool := decide (decode cc e.1 = .ok (e.2.1, n)) && Nat.beq e.2.2.1 n
def rx_lkb (own : String) (idx : Nat) (y : MethodName) (t : List Nat) : Bool := cond (Nat.beq (rx_nth t 1) 0) (rx_wd (rx_nth t 2) (.methodLink own idx y)) (rx_nd (rx_nth t 2) (.methodLinkNest own idx y "GreyRoute"))
theorem rx_lkb_ok {own : String} {idx : Nat} {y : MethodName} {t : List Nat} (h : rx_lkb own idx y t = true) : Cond.methodLink own idx y ∈ rx_words ∨ ∃ host, Cond.methodLinkNest own idx y host ∈ rx_NW := by
  unfold rx_lkb at h
  cases c : Nat.beq (rx_nth t 1) 0 with
  | true => rw [c] at h; exact Or.inl (rx_wd_ok h)
  | false => rw [c] at h; exact Or.inr ⟨_, rx_nd_ok h⟩
/-- a called method: its code is among the words, its frame is small, it takes so many -/
def rx_yb (Y : rx_Y) (t : List Nat) (n : Nat) : Bool := Nat.ble Y.2.2.1 45 && (rx_wd (rx_nth t 4) (.initialized Y.1.cls) && (decide (Y.1.cls ≠ "java/lang/invoke/MethodHandle" ∧ Y.1.cls ≠ "java/lang/invoke/VarHandle") && decide ((parseMethodDescriptor Y.1.desc).map (fun d => d.parameters.length) = some n)))
def rx_okb (mi : List rx_Y) (own nm : String) (cc : ByteArray) (e : rx_E) : Bool :=
  match e.2.1 with
  | .iconst z => rx_d1 cc e 1 && decide (Int32.ofInt z = nI e.2.2.2.1)
  | .bipush z => rx_d1 cc e 2 && decide ((Int8.ofInt z).toInt32 = nI e.2.2.2.1)
  | .sipush z => rx_d1 cc e 3 && decide ((Int16.ofInt z).toInt32 = nI e.2.2.2.1)
  | .ldc k => rx_d1 cc e 2 && cond (Nat.beq e.2.2.2.2.1 0) (rx_wd (rx_nth e.2.2.2.2.2.2 0) (.constant own k (nI e.2.2.2.1))) (decide (own = "GreyRoute$Words" ∧ k = 38))
  | .ldc_w k => rx_d1 cc e 3 && rx_wd (rx_nth e.2.2.2.2.2.2 0) (.constant own k (nI e.2.2.2.1))
  | .lconst n => rx_d1 cc e 1 && decide (Int64.ofNat (n : Nat) = lN e.2.2.2.1)
  | .ldc2_w k => rx_d1 cc e 3 && rx_wd (rx_nth e.2.2.2.2.2.2 0) (.constantLong own k (lN e.2.2.2.1))
  | .iload i => rx_d1 cc e 2 && Nat.beq i e.2.2.2.1
  | .lload i => rx_d1 cc e 2 && Nat.beq i e.2.2.2.1
  | .aload i => rx_d1 cc e 2 && Nat.beq i e.2.2.2.1
  | .istore i => rx_d1 cc e 2 && Nat.beq i e.2.2.2.1
  | .lstore i => rx_d1 cc e 2 && Nat.beq i e.2.2.2.1
  | .astore i => rx_d1 cc e 2 && Nat.beq i e.2.2.2.1
  | .iload_n i => rx_d1 cc e 1 && Nat.beq i.val e.2.2.2.1
  | .lload_n i => rx_d1 cc e 1 && Nat.beq i.val e.2.2.2.1
  | .aload_n i => rx_d1 cc e 1 && Nat.beq i.val e.2.2.2.1
  | .istore_n i => rx_d1 cc e 1 && Nat.beq i.val e.2.2.2.1
  | .lstore_n i => rx_d1 cc e 1 && Nat.beq i.val e.2.2.2.1
  | .astore_n i => rx_d1 cc e 1 && Nat.beq i.val e.2.2.2.1
  | .iinc i z => rx_d1 cc e 3 && (Nat.beq i e.2.2.2.1 && decide (Int32.ofInt z = nI e.2.2.2.2.1))
  | .iadd => rx_d1 cc e 1 | .isub => rx_d1 cc e 1 | .imul => rx_d1 cc e 1 | .ior => rx_d1 cc e 1 | .ixor => rx_d1 cc e 1 | .ishl => rx_d1 cc e 1 | .iushr => rx_d1 cc e 1 | .idiv => rx_d1 cc e 1 | .irem => rx_d1 cc e 1 | .iand => rx_d1 cc e 1 | .ishr => rx_d1 cc e 1
  | .i2c => rx_d1 cc e 1 | .i2b => rx_d1 cc e 1 | .i2l => rx_d1 cc e 1 | .l2i => rx_d1 cc e 1
  | .ladd => rx_d1 cc e 1 | .lsub => rx_d1 cc e 1 | .lmul => rx_d1 cc e 1 | .land => rx_d1 cc e 1 | .lor => rx_d1 cc e 1 | .ldiv => rx_d1 cc e 1 | .lrem => rx_d1 cc e 1 | .lcmp => rx_d1 cc e 1
  | .dup => rx_d1 cc e 1 | .dup2 => rx_d1 cc e 1 | .pop => rx_d1 cc e 1
  | .if_icmp _ off => rx_d1 cc e 3 && decide ((e.1 : Int) + off = (e.2.2.2.1 : Int))
  | .ifCond _ off => rx_d1 cc e 3 && decide ((e.1 : Int) + off = (e.2.2.2.1 : Int))
  | .goto off => rx_d1 cc e 3 && decide ((e.1 : Int) + off = (e.2.2.2.1 : Int))
  | .tableswitch d lo hi offs => decide (decode cc e.1 = .ok (e.2.1, e.2.2.1)) && (decide ((e.1 : Int) + d = (e.2.2.2.1 : Int) ∧ (e.2.2.2.2.1 : Int) = lo + 2147483648 ∧ (e.2.2.2.2.2.1 : Int) = hi + 2147483648) && (List.range e.2.2.2.2.2.2.length).all (fun j => decide (offs[j]? = some ((e.2.2.2.2.2.2.getD j 0 : Nat) - (e.1 : Int)))))
  | .getfield k => rx_d1 cc e 3 && cond (Nat.ble e.2.2.2.2.2.1 1) (match vwCl[e.2.2.2.1]? with
      | some (_, T, N) => Nat.blt e.2.2.2.2.1 N && cond (Nat.beq e.2.2.2.2.2.1 0) (rx_wd (rx_nth e.2.2.2.2.2.2 0) (.fieldLink own k (T e.2.2.2.2.1).1 (T e.2.2.2.2.1).2.1 (T e.2.2.2.2.1).2.2.1)) (rx_nd (rx_nth e.2.2.2.2.2.2 0) (.fieldLinkNest own k (T e.2.2.2.2.1).1 (T e.2.2.2.2.1).2.1 (T e.2.2.2.2.1).2.2.1 "GreyRoute"))
      | none => false) (cond (Nat.beq e.2.2.2.2.2.1 2) (rx_wd (rx_nth e.2.2.2.2.2.2 0) (.fieldLink own k "java/lang/String" "value" "[B")) (rx_wd (rx_nth e.2.2.2.2.2.2 0) (.fieldLink own k "java/lang/String" "coder" "B")))
  | .putfield k => rx_d1 cc e 3 && (match vwCl[e.2.2.2.1]? with
      | some (_, T, N) => Nat.blt e.2.2.2.2.1 N && (rx_wd (rx_nth e.2.2.2.2.2.2 0) (.fieldLink own k (T e.2.2.2.2.1).1 (T e.2.2.2.2.1).2.1 (T e.2.2.2.2.1).2.2.1) && (rx_kd e.2.2.2.2.2.1 (rx_ty T e.2.2.2.2.1) && cond (T e.2.2.2.2.1).2.2.2 (decide ((T e.2.2.2.2.1).1 = own ∧ nm = "<init>")) true))
      | none => false)
  | .getstatic k => rx_d1 cc e 3 && cond (Nat.beq e.2.2.2.1 0) (rx_wd (rx_nth e.2.2.2.2.2.2 0) (.fieldLink own k "java/lang/String" "COMPACT_STRINGS" "Z")) (cond (Nat.beq e.2.2.2.1 1) (rx_wd (rx_nth e.2.2.2.2.2.2 0) (.fieldLink own k "jdk/internal/util/Preconditions" "SIOOBE_FORMATTER" "Ljava/util/function/BiFunction;")) false)
  | .iaload => rx_d1 cc e 1 | .baload => rx_d1 cc e 1 | .laload => rx_d1 cc e 1 | .aaload => rx_d1 cc e 1
  | .iastore => rx_d1 cc e 1 | .bastore => rx_d1 cc e 1 | .lastore => rx_d1 cc e 1
  | .aastore => rx_d1 cc e 1 && (match vwCl[e.2.2.2.1]? with
      | some (C, _, _) => decide (C = "GreyRoute$State")
      | none => false)
  | .arraylength => rx_d1 cc e 1
  | .newarray at' => rx_d1 cc e 2 && (rx_wd (rx_nth e.2.2.2.2.2.2 0) (.arrayClass (newarray.typeOf at')) && (match at' with
      | .int => Nat.beq e.2.2.2.1 0
      | .byte => Nat.beq e.2.2.2.1 1
      | .boolean => Nat.beq e.2.2.2.1 2
      | .long => Nat.beq e.2.2.2.1 3
      | _ => false))
  | .anewarray k => rx_d1 cc e 3 && (Nat.beq e.2.2.2.1 4 && rx_wd (rx_nth e.2.2.2.2.2.2 0) (.classLink own k "GreyRoute$State"))
  | .new k => rx_d1 cc e 3 && (match vwCl[e.2.2.2.1]? with
      | some (C, _, N) => Nat.beq e.2.2.2.2.1 N && (rx_wd (rx_nth e.2.2.2.2.2.2 0) (.classLink own k C) && (rx_wd (rx_nth e.2.2.2.2.2.2 1) (.instantiable C N) && rx_wd (rx_nth e.2.2.2.2.2.2 2) (.initialized C)))
      | none => false)
  | .invokevirtual k => rx_d1 cc e 3 && (match mi[e.2.2.2.1]? with
      | some Y => rx_yb Y e.2.2.2.2.2.2 (e.2.2.2.2.1 - 1) && (Nat.blt 0 e.2.2.2.2.1 && (rx_lkb own k Y.1 e.2.2.2.2.2.2 && (rx_wd (rx_nth e.2.2.2.2.2.2 3) (.instanceMethod Y.1) && (rx_wd (rx_nth e.2.2.2.2.2.2 5) (.selects Y.1.cls Y.1 Y.1) && cond (Nat.beq e.2.2.2.2.2.1 1) (match vwCl[rx_nth e.2.2.2.2.2.2 0]? with
          | some (C, _, _) => decide (C = Y.1.cls)
          | none => false) (Nat.beq e.2.2.2.2.2.1 2 && decide (Y.1.cls = "java/lang/String"))))))
      | none => true)
  | .invokespecial k => rx_d1 cc e 3 && cond (Nat.beq e.2.2.2.2.2.1 3) (rx_wd (rx_nth e.2.2.2.2.2.2 2) (.methodLink own k objectInit) && (rx_wd (rx_nth e.2.2.2.2.2.2 3) (.instanceMethod objectInit) && rx_wd (rx_nth e.2.2.2.2.2.2 4) (.code objectInit ⟨#[0xb1]⟩ 1 none))) (match mi[e.2.2.2.1]? with
      | some Y => rx_yb Y e.2.2.2.2.2.2 (e.2.2.2.2.1 - 1) && (Nat.blt 0 e.2.2.2.2.1 && (rx_lkb own k Y.1 e.2.2.2.2.2.2 && (rx_wd (rx_nth e.2.2.2.2.2.2 3) (.instanceMethod Y.1) && decide (Y.1.name = "<init>" ∧ Y.2.2.2 = none))))
      | none => true)
  | .invokestatic k => rx_d1 cc e 3 && cond (Nat.beq e.2.2.2.2.2.1 4) (rx_wd (rx_nth e.2.2.2.2.2.2 2) (.methodLink own k arraycopyName) && (rx_wd (rx_nth e.2.2.2.2.2.2 3) (.native arraycopyName) && (rx_wd (rx_nth e.2.2.2.2.2.2 4) (.static arraycopyName) && rx_wd (rx_nth e.2.2.2.2.2.2 5) (.initialized "java/lang/System")))) (match mi[e.2.2.2.1]? with
      | some Y => rx_yb Y e.2.2.2.2.2.2 e.2.2.2.2.1 && (rx_lkb own k Y.1 e.2.2.2.2.2.2 && rx_wd (rx_nth e.2.2.2.2.2.2 3) (.static Y.1))
      | none => true)
  | .return_ => rx_d1 cc e 1 | .ireturn => rx_d1 cc e 1 | .lreturn => rx_d1 cc e 1
  | _ => true
theorem rx_d1_ok {cc : ByteArray} {e : rx_E} {n : Nat} (h : rx_d1 cc e n = true) : decode cc e.1 = .ok (e.2.1, n) ∧ e.2.2.1 = n := by
  obtain ⟨h1, h2⟩ := rx_an h
  exact ⟨of_decide_eq_true h1, rx_bq h2⟩
end
section
/-! a step of the executor is steps of the machine; a run; a call -/
section RXT
variable {p : Program} {l : Launch} {e : Env} {R : Room} {s : State} {m : MethodId} {args : Array Value} {below : List Frame} {meth : Method} {c : Code} {Q : State → Prop} {X : rx_X} {D : va_G} {G : rx_G} {own nm : String} {bc : ByteArray} {nL : Nat} {K : rx_K} {rest cd : List rx_E} {L : rx_L} {S : List rx_V} {w : List rx_C} {cc ss mc ms d : Nat} {r : rx_R} {mi : List rx_Y} {cap : Nat → Nat × Nat} {ex : Nat → List rx_V → List rx_C → Option (Option rx_V × List rx_C)}
/-- what is fixed: the classes, the blank fields, the text -/
def rx_Gok (G : rx_G) : Prop := (∀ (a : Nat) (q : vw_C), vwCl[a]? = some q → rx_clOk q) ∧ (∀ (X : rx_X) (a : Nat) (q : vw_C) (df : List rx_V), vwCl[a]? = some q → G.2.2.2.2.2[a]? = some df → ∀ j, j < q.2.2 → defaultValue (rx_ty q.2.1 j) = vp_V (df.map (rx_d X)) j) ∧ (G.2.2.2.1.length = G.2.2.2.2.1 ∧ G.2.2.2.2.1 < 2147483648)
theorem rx_step_ok (C : rx_Cx p s m args c X D G own bc nL) (hG : rx_Gok G) (hnm : meth.name = nm) (hmc : mc ≤ R.cells) (hms : ms ≤ R.slots) (hfr : d + 1 ≤ R.frames) (hlo : 64 * d + 64 ≤ R.locals)
    (hex : ∀ (nu : Nat) (as : List rx_V) (w : List rx_C) (r' : Option rx_V) (w' : List rx_C), ex nu as w = some (r', w') → ∃ Y, mi[nu]? = some Y ∧ Cond.code Y.1 Y.2.1 Y.2.2.1 Y.2.2.2 ∈ rx_words ∧ rx_Met l d (cap nu).1 (cap nu).2 Y X D G as w r' w') {en : rx_E} (hok : rx_okb mi own nm bc en = true)
    (hS : rx_hS (rx_W p l e R s m args below meth c Q X D G nL) K rest r (en.1 + en.2.2.1)) (hJ : ∀ t : Nat, rx_hS (rx_W p l e R s m args below meth c Q X D G nL) K (rx_find cd t) r t) (hE : r = (en :: rest, L, S, w, cc, ss) → rx_W p l e R s m args below meth c Q X D G nL en.1 L S w cc ss) (h : rx_step G cd nL mc ms cap ex K en rest L S w cc ss = some r) : rx_W p l e R s m args below meth c Q X D G nL en.1 L S w cc ss := by
  obtain ⟨pc, i, len, a, b, k, t⟩ := en
  cases i with
  | iadd =>
    obtain ⟨hd, hlen⟩ := rx_d1_ok hok
    have hlen : len = _ := hlen
    subst hlen
    exact rx_q_iadd C hd hS h
  | isub =>
    obtain ⟨hd, hlen⟩ := rx_d1_ok hok
    have hlen : len = _ := hlen
    subst hlen
    exact rx_q_isub C hd hS h
  | imul =>
    obtain ⟨hd, hlen⟩ := rx_d1_ok hok
    have hlen : len = _ := hlen
    subst hlen
    exact rx_q_imul C hd hS h
  | ior =>
    obtain ⟨hd, hlen⟩ := rx_d1_ok hok
    have hlen : len = _ := hlen
    subst hlen
    exact rx_q_ior C hd hS h
  | ixor =>
    obtain ⟨hd, hlen⟩ := rx_d1_ok hok
    have hlen : len = _ := hlen
    subst hlen
    exact rx_q_ixor C hd hS h
  | ishl =>
    obtain ⟨hd, hlen⟩ := rx_d1_ok hok
    have hlen : len = _ := hlen
    subst hlen
    exact rx_q_ishl C hd hS h
  | iushr =>
    obtain ⟨hd, hlen⟩ := rx_d1_ok hok
    have hlen : len = _ := hlen
    subst hlen
    exact rx_q_iushr C hd hS h
  | idiv =>
    obtain ⟨hd, hlen⟩ := rx_d1_ok hok
    have hlen : len = _ := hlen
    subst hlen
    exact rx_q_idiv C hd hS h
  | irem =>
    obtain ⟨hd, hlen⟩ := rx_d1_ok hok
    have hlen : len = _ := hlen
    subst hlen
    exact rx_q_irem C hd hS h
  | iand =>
    obtain ⟨hd, hlen⟩ := rx_d1_ok hok
    have hlen : len = _ := hlen
    subst hlen
    exact rx_q_iand C hd hS h
  | ishr =>
    obtain ⟨hd, hlen⟩ := rx_d1_ok hok
    have hlen : len = _ := hlen
    subst hlen
    exact rx_q_ishr C hd hS h
  | i2c =>
    obtain ⟨hd, hlen⟩ := rx_d1_ok hok
    have hlen : len = _ := hlen
    subst hlen
    exact rx_q_i2c C hd hS h
  | i2b =>
    obtain ⟨hd, hlen⟩ := rx_d1_ok hok
    have hlen : len = _ := hlen
    subst hlen
    exact rx_q_i2b C hd hS h
  | i2l =>
    obtain ⟨hd, hlen⟩ := rx_d1_ok hok
    have hlen : len = _ := hlen
    subst hlen
    exact rx_q_i2l C hd hS h
  | l2i =>
    obtain ⟨hd, hlen⟩ := rx_d1_ok hok
    have hlen : len = _ := hlen
    subst hlen
    exact rx_q_l2i C hd hS h
  | ladd =>
    obtain ⟨hd, hlen⟩ := rx_d1_ok hok
    have hlen : len = _ := hlen
    subst hlen
    exact rx_q_ladd C hd hS h
  | lsub =>
    obtain ⟨hd, hlen⟩ := rx_d1_ok hok
    have hlen : len = _ := hlen
    subst hlen
    exact rx_q_lsub C hd hS h
  | lmul =>
    obtain ⟨hd, hlen⟩ := rx_d1_ok hok
    have hlen : len = _ := hlen
    subst hlen
    exact rx_q_lmul C hd hS h
  | land =>
    obtain ⟨hd, hlen⟩ := rx_d1_ok hok
    have hlen : len = _ := hlen
    subst hlen
    exact rx_q_land C hd hS h
  | lor =>
    obtain ⟨hd, hlen⟩ := rx_d1_ok hok
    have hlen : len = _ := hlen
    subst hlen
    exact rx_q_lor C hd hS h
  | ldiv =>
    obtain ⟨hd, hlen⟩ := rx_d1_ok hok
    have hlen : len = _ := hlen
    subst hlen
    exact rx_q_ldiv C hd hS h
  | lrem =>
    obtain ⟨hd, hlen⟩ := rx_d1_ok hok
    have hlen : len = _ := hlen
    subst hlen
    exact rx_q_lrem C hd hS h
  | lcmp =>
    obtain ⟨hd, hlen⟩ := rx_d1_ok hok
    have hlen : len = _ := hlen
    subst hlen
    exact rx_q_lcmp C hd hS h
  | dup =>
    obtain ⟨hd, hlen⟩ := rx_d1_ok hok
    have hlen : len = _ := hlen
    subst hlen
    exact rx_q_dup C hd hS h
  | dup2 =>
    obtain ⟨hd, hlen⟩ := rx_d1_ok hok
    have hlen : len = _ := hlen
    subst hlen
    exact rx_q_dup2 C hd hS h
  | pop =>
    obtain ⟨hd, hlen⟩ := rx_d1_ok hok
    have hlen : len = _ := hlen
    subst hlen
    exact rx_q_pop C hd hS h
  | iconst z =>
    obtain ⟨hok, h1⟩ := rx_an hok
    obtain ⟨hd, hlen⟩ := rx_d1_ok hok
    have hlen : len = _ := hlen
    subst hlen
    exact rx_q_iconst C (of_decide_eq_true h1) hd hS h
  | bipush z =>
    obtain ⟨hok, h1⟩ := rx_an hok
    obtain ⟨hd, hlen⟩ := rx_d1_ok hok
    have hlen : len = _ := hlen
    subst hlen
    exact rx_q_bipush C (of_decide_eq_true h1) hd hS h
  | sipush z =>
    obtain ⟨hok, h1⟩ := rx_an hok
    obtain ⟨hd, hlen⟩ := rx_d1_ok hok
    have hlen : len = _ := hlen
    subst hlen
    exact rx_q_sipush C (of_decide_eq_true h1) hd hS h
  | lconst z =>
    obtain ⟨hok, h1⟩ := rx_an hok
    obtain ⟨hd, hlen⟩ := rx_d1_ok hok
    have hlen : len = _ := hlen
    subst hlen
    exact rx_q_lconst C (of_decide_eq_true h1) hd hS h
  | ldc z =>
    obtain ⟨hok, h1⟩ := rx_an hok
    obtain ⟨hd, hlen⟩ := rx_d1_ok hok
    have hlen : len = _ := hlen
    subst hlen
    cases c0 : Nat.beq b 0 with
    | true =>
      have h2 : cond (Nat.beq b 0) (rx_wd (rx_nth t 0) (.constant own z (nI a))) (decide (own = "GreyRoute$Words" ∧ z = 38)) = true := h1
      rw [c0] at h2
      have h3 : cond (Nat.beq b 0) (K rest L (.inl (.inl a) :: S) w cc ss) (K rest L (.inr (.inr (.inr 1)) :: S) w cc ss) = some r := h
      rw [c0] at h3
      exact rx_q_ldc C (rx_wd_ok h2) hd hS h3
    | false =>
      have h2 : cond (Nat.beq b 0) (rx_wd (rx_nth t 0) (.constant own z (nI a))) (decide (own = "GreyRoute$Words" ∧ z = 38)) = true := h1
      rw [c0] at h2
      have h3 : cond (Nat.beq b 0) (K rest L (.inl (.inl a) :: S) w cc ss) (K rest L (.inr (.inr (.inr 1)) :: S) w cc ss) = some r := h
      rw [c0] at h3
      obtain ⟨e1, e2⟩ := of_decide_eq_true h2
      subst e2
      exact rx_q_ldcS C e1 hd hS h3
  | ldc_w z =>
    obtain ⟨hok, h1⟩ := rx_an hok
    obtain ⟨hd, hlen⟩ := rx_d1_ok hok
    have hlen : len = _ := hlen
    subst hlen
    exact rx_q_ldcw C (rx_wd_ok h1) hd hS h
  | ldc2_w z =>
    obtain ⟨hok, h1⟩ := rx_an hok
    obtain ⟨hd, hlen⟩ := rx_d1_ok hok
    have hlen : len = _ := hlen
    subst hlen
    exact rx_q_ldc2 C (rx_wd_ok h1) hd hS h
  | iload z =>
    obtain ⟨hok, h1⟩ := rx_an hok
    obtain ⟨hd, hlen⟩ := rx_d1_ok hok
    have hlen : len = _ := hlen
    subst hlen
    have e1 : z = a := rx_bq h1
    subst e1
    exact rx_q_iload C hd hS h
  | iload_n z =>
    obtain ⟨hok, h1⟩ := rx_an hok
    obtain ⟨hd, hlen⟩ := rx_d1_ok hok
    have hlen : len = _ := hlen
    subst hlen
    exact rx_q_iload_n C (rx_bq h1) hd hS h
  | istore z =>
    obtain ⟨hok, h1⟩ := rx_an hok
    obtain ⟨hd, hlen⟩ := rx_d1_ok hok
    have hlen : len = _ := hlen
    subst hlen
    have e1 : z = a := rx_bq h1
    subst e1
    exact rx_q_istore C hd hS h
  | istore_n z =>
    obtain ⟨hok, h1⟩ := rx_an hok
    obtain ⟨hd, hlen⟩ := rx_d1_ok hok
    have hlen : len = _ := hlen
    subst hlen
    exact rx_q_istore_n C (rx_bq h1) hd hS h
  | lload z =>
    obtain ⟨hok, h1⟩ := rx_an hok
    obtain ⟨hd, hlen⟩ := rx_d1_ok hok
    have hlen : len = _ := hlen
    subst hlen
    have e1 : z = a := rx_bq h1
    subst e1
    exact rx_q_lload C hd hS h
  | lload_n z =>
    obtain ⟨hok, h1⟩ := rx_an hok
    obtain ⟨hd, hlen⟩ := rx_d1_ok hok
    have hlen : len = _ := hlen
    subst hlen
    exact rx_q_lload_n C (rx_bq h1) hd hS h
  | lstore z =>
    obtain ⟨hok, h1⟩ := rx_an hok
    obtain ⟨hd, hlen⟩ := rx_d1_ok hok
    have hlen : len = _ := hlen
    subst hlen
    have e1 : z = a := rx_bq h1
    subst e1
    exact rx_q_lstore C hd hS h
  | lstore_n z =>
    obtain ⟨hok, h1⟩ := rx_an hok
    obtain ⟨hd, hlen⟩ := rx_d1_ok hok
    have hlen : len = _ := hlen
    subst hlen
    exact rx_q_lstore_n C (rx_bq h1) hd hS h
  | aload z =>
    obtain ⟨hok, h1⟩ := rx_an hok
    obtain ⟨hd, hlen⟩ := rx_d1_ok hok
    have hlen : len = _ := hlen
    subst hlen
    have e1 : z = a := rx_bq h1
    subst e1
    exact rx_q_aload C hd hS h
  | aload_n z =>
    obtain ⟨hok, h1⟩ := rx_an hok
    obtain ⟨hd, hlen⟩ := rx_d1_ok hok
    have hlen : len = _ := hlen
    subst hlen
    exact rx_q_aload_n C (rx_bq h1) hd hS h
  | astore z =>
    obtain ⟨hok, h1⟩ := rx_an hok
    obtain ⟨hd, hlen⟩ := rx_d1_ok hok
    have hlen : len = _ := hlen
    subst hlen
    have e1 : z = a := rx_bq h1
    subst e1
    exact rx_q_astore C hd hS h
  | astore_n z =>
    obtain ⟨hok, h1⟩ := rx_an hok
    obtain ⟨hd, hlen⟩ := rx_d1_ok hok
    have hlen : len = _ := hlen
    subst hlen
    exact rx_q_astore_n C (rx_bq h1) hd hS h
  | iinc z y =>
    obtain ⟨hok, h1⟩ := rx_an hok
    obtain ⟨hd, hlen⟩ := rx_d1_ok hok
    have hlen : len = _ := hlen
    subst hlen
    obtain ⟨g1, g2⟩ := rx_an h1
    have e1 : z = a := rx_bq g1
    subst e1
    exact rx_q_iinc C (of_decide_eq_true g2) hd hS h
  | if_icmp z y =>
    obtain ⟨hok, h1⟩ := rx_an hok
    obtain ⟨hd, hlen⟩ := rx_d1_ok hok
    have hlen : len = _ := hlen
    subst hlen
    exact rx_q_icmp C (of_decide_eq_true h1) hd hS hJ h
  | ifCond z y =>
    obtain ⟨hok, h1⟩ := rx_an hok
    obtain ⟨hd, hlen⟩ := rx_d1_ok hok
    have hlen : len = _ := hlen
    subst hlen
    exact rx_q_if C (of_decide_eq_true h1) hd hS hJ h
  | goto y =>
    obtain ⟨hok, h1⟩ := rx_an hok
    obtain ⟨hd, hlen⟩ := rx_d1_ok hok
    have hlen : len = _ := hlen
    subst hlen
    exact rx_q_goto C (of_decide_eq_true h1) hd hJ h
  | tableswitch dflt lo hi offs =>
    obtain ⟨h0, h1⟩ := rx_an hok
    obtain ⟨h2, h3⟩ := rx_an h1
    obtain ⟨g1, g2, g3⟩ := of_decide_eq_true h2
    refine rx_q_tsw C (of_decide_eq_true h0) g2 g3 g1 (fun j g hj => ?_) hJ h
    have hlt : j < t.length := (List.getElem?_eq_some_iff.mp hj).1
    have h4 := of_decide_eq_true (List.all_eq_true.mp h3 j (List.mem_range.mpr hlt))
    have h5 : t.getD j 0 = g := by rw [List.getD_eq_getElem?_getD, hj]; rfl
    refine ⟨_, h4, ?_⟩
    show (pc : Int) + (((t.getD j 0 : Nat) : Int) - (pc : Int)) = _
    rw [h5]
    omega
  | getfield z =>
    obtain ⟨hok, h1⟩ := rx_an hok
    obtain ⟨hd, hlen⟩ := rx_d1_ok hok
    have hlen : len = _ := hlen
    subst hlen
    cases hv : vwCl[a]? with
    | some q =>
      obtain ⟨Cn, T, N⟩ := q
      refine rx_q_getf (Cn := Cn) (T := T) (N := N) C hd (hG.1 a _ hv).1 hS (fun hk => ?_) (fun hk => ?_) (fun hk => ?_) h
      · have h2 := h1
        dsimp only at h2
        rw [Nat.ble_eq_true_of_le hk, hv] at h2
        obtain ⟨g1, g2⟩ := rx_an h2
        refine ⟨hv, rx_bt g1, ?_⟩
        cases c0 : Nat.beq k 0 with
        | true => rw [c0] at g2; exact Or.inl (rx_wd_ok g2)
        | false => rw [c0] at g2; exact Or.inr ⟨_, rx_nd_ok g2⟩
      · subst hk
        exact rx_wd_ok h1
      · subst hk
        exact rx_wd_ok h1
    | none =>
      refine rx_q_getf (Cn := "") (T := fun _ => ("", "", "", false)) (N := 0) C hd (fun w hw => by simp [u_ws] at hw) hS (fun hk => ?_) (fun hk => ?_) (fun hk => ?_) h
      · have h2 := h1
        dsimp only at h2
        rw [Nat.ble_eq_true_of_le hk, hv] at h2
        cases h2
      · subst hk
        exact rx_wd_ok h1
      · subst hk
        exact rx_wd_ok h1
  | putfield z =>
    obtain ⟨hok, h1⟩ := rx_an hok
    obtain ⟨hd, hlen⟩ := rx_d1_ok hok
    have hlen : len = _ := hlen
    subst hlen
    dsimp only at h1
    cases hv : vwCl[a]? with
    | none => rw [hv] at h1; cases h1
    | some q =>
      obtain ⟨Cn, T, N⟩ := q
      rw [hv] at h1
      obtain ⟨g1, h1⟩ := rx_an h1
      obtain ⟨g2, h1⟩ := rx_an h1
      obtain ⟨g3, g4⟩ := rx_an h1
      have hcl := hG.1 a _ hv
      refine rx_q_putf (Cn := Cn) (T := T) (N := N) (ty0 := rx_ty T) C hd hcl.1 hcl.2.1 hcl.2.2 hS hv (rx_bt g1) (rx_wd_ok g2) g3 (fun hf => ?_) h
      rw [hf] at g4
      obtain ⟨e1, e2⟩ := of_decide_eq_true g4
      exact ⟨e1, by rw [hnm]; exact e2⟩
  | getstatic z =>
    obtain ⟨hok, h1⟩ := rx_an hok
    obtain ⟨hd, hlen⟩ := rx_d1_ok hok
    have hlen : len = _ := hlen
    subst hlen
    refine rx_q_gets C hd hS (fun ha => ?_) (fun ha => ?_) h
    · subst ha; exact rx_wd_ok h1
    · subst ha; exact rx_wd_ok h1
  | iaload =>
    obtain ⟨hd, hlen⟩ := rx_d1_ok hok
    have hlen : len = _ := hlen
    subst hlen
    exact rx_q_ald C (Or.inl ⟨rfl, hd⟩) hG.2.2 hS h
  | baload =>
    obtain ⟨hd, hlen⟩ := rx_d1_ok hok
    have hlen : len = _ := hlen
    subst hlen
    exact rx_q_ald C (Or.inr (Or.inl ⟨rfl, hd⟩)) hG.2.2 hS h
  | laload =>
    obtain ⟨hd, hlen⟩ := rx_d1_ok hok
    have hlen : len = _ := hlen
    subst hlen
    exact rx_q_ald C (Or.inr (Or.inr (Or.inl ⟨rfl, hd⟩))) hG.2.2 hS h
  | aaload =>
    obtain ⟨hd, hlen⟩ := rx_d1_ok hok
    have hlen : len = _ := hlen
    subst hlen
    exact rx_q_ald C (Or.inr (Or.inr (Or.inr ⟨rfl, hd⟩))) hG.2.2 hS h
  | iastore =>
    obtain ⟨hd, hlen⟩ := rx_d1_ok hok
    have hlen : len = _ := hlen
    subst hlen
    exact rx_q_iast C hd hS h
  | bastore =>
    obtain ⟨hd, hlen⟩ := rx_d1_ok hok
    have hlen : len = _ := hlen
    subst hlen
    exact rx_q_bast C hd hS h
  | lastore =>
    obtain ⟨hd, hlen⟩ := rx_d1_ok hok
    have hlen : len = _ := hlen
    subst hlen
    exact rx_q_last C hd hS h
  | aastore =>
    obtain ⟨hok, h1⟩ := rx_an hok
    obtain ⟨hd, hlen⟩ := rx_d1_ok hok
    have hlen : len = _ := hlen
    subst hlen
    dsimp only at h1
    cases hv : vwCl[a]? with
    | none => rw [hv] at h1; cases h1
    | some q =>
      obtain ⟨Cn, T, N⟩ := q
      rw [hv] at h1
      have e1 := of_decide_eq_true h1
      exact rx_q_aast C ⟨T, N, by rw [hv, e1]⟩ hd hS h
  | arraylength =>
    obtain ⟨hd, hlen⟩ := rx_d1_ok hok
    have hlen : len = _ := hlen
    subst hlen
    exact rx_q_len C hd hS h
  | newarray z =>
    obtain ⟨hok, h1⟩ := rx_an hok
    obtain ⟨hd, hlen⟩ := rx_d1_ok hok
    have hlen : len = _ := hlen
    subst hlen
    obtain ⟨g1, g2⟩ := rx_an h1
    refine rx_q_newa C hd ?_ (rx_wd_ok g1) hmc hms hS h
    cases z <;> first | (cases g2; done) | skip
    · exact Or.inr (Or.inr (Or.inl ⟨rx_bq g2, rfl⟩))
    · exact Or.inr (Or.inl ⟨rx_bq g2, rfl⟩)
    · exact Or.inl ⟨rx_bq g2, rfl⟩
    · exact Or.inr (Or.inr (Or.inr ⟨rx_bq g2, rfl⟩))
  | anewarray z =>
    obtain ⟨hok, h1⟩ := rx_an hok
    obtain ⟨hd, hlen⟩ := rx_d1_ok hok
    have hlen : len = _ := hlen
    subst hlen
    obtain ⟨g1, g2⟩ := rx_an h1
    have e1 : a = 4 := rx_bq g1
    subst e1
    exact rx_q_newq C hd (rx_wd_ok g2) hmc hms hS h
  | new z =>
    obtain ⟨hok, h1⟩ := rx_an hok
    obtain ⟨hd, hlen⟩ := rx_d1_ok hok
    have hlen : len = _ := hlen
    subst hlen
    dsimp only at h1
    cases hv : vwCl[a]? with
    | none => rw [hv] at h1; cases h1
    | some q =>
      obtain ⟨Cn, T, N⟩ := q
      rw [hv] at h1
      obtain ⟨g1, h1⟩ := rx_an h1
      obtain ⟨g2, h1⟩ := rx_an h1
      obtain ⟨g3, g4⟩ := rx_an h1
      obtain ⟨df, hdf, h5⟩ := rx_at_ok h
      have hcl := hG.1 a _ hv
      exact rx_q_new (Cn := Cn) (T := T) (N := N) (ty0 := rx_ty T) C hd hcl.1 hcl.2.1 hv (rx_bq g1) (hG.2.1 X a _ df hv hdf) (rx_wd_ok g2) (rx_wd_ok g3) (rx_wd_ok g4) hmc hms hS h5
  | invokevirtual z =>
    obtain ⟨hok, h1⟩ := rx_an hok
    obtain ⟨hd, hlen⟩ := rx_d1_ok hok
    have hlen : len = _ := hlen
    subst hlen
    dsimp only at h1
    obtain ⟨ci, hci, h5⟩ := rx_at_ok h
    dsimp only at h5 hci
    have hci : rx_nth t 0 = ci := by unfold rx_nth; rw [List.getD_eq_getElem?_getD, hci]; rfl
    cases hv : mi[a]? with
    | none =>
      exfalso
      obtain ⟨as, S', r', w', -, -, -, -, -, h6, -, -⟩ := rx_inv_ok h5
      obtain ⟨Y, hY, -⟩ := hex _ _ _ _ _ h6
      rw [hv] at hY
      cases hY
    | some Y =>
      rw [hv] at h1
      obtain ⟨gy, h1⟩ := rx_an h1
      obtain ⟨y1, gy⟩ := rx_an gy
      obtain ⟨y2, gy⟩ := rx_an gy
      obtain ⟨y3, y4⟩ := rx_an gy
      have y3 := of_decide_eq_true y3
      have y4 := of_decide_eq_true y4
      have hM : ∀ (as : List rx_V) (w : List rx_C) (r' : Option rx_V) (w' : List rx_C), ex a as w = some (r', w') → rx_Met l d (cap a).1 (cap a).2 Y X D G as w r' w' := by
        intro as w r' w' h6
        obtain ⟨Y', hY', -, hM'⟩ := hex _ _ _ _ _ h6
        rw [hv] at hY'
        cases hY'
        exact hM'
      have hcode : Cond.code Y.1 Y.2.1 Y.2.2.1 Y.2.2.2 ∈ rx_words := by
        obtain ⟨as, S', r', w', -, -, -, -, -, h6, -, -⟩ := rx_inv_ok h5
        obtain ⟨Y', hY', hc, -⟩ := hex _ _ _ _ _ h6
        rw [hv] at hY'
        cases hY'
        exact hc
      obtain ⟨g0, h1⟩ := rx_an h1
      obtain ⟨g1, h1⟩ := rx_an h1
      obtain ⟨g2, h1⟩ := rx_an h1
      obtain ⟨g3, h1⟩ := rx_an h1
      have g0 := rx_bt g0
      have eb : b = (b - 1) + 1 := by omega
      rw [eb] at h5
      refine rx_q_virt C hd hmc hms hfr hlo (rx_bl y1) hM hcode (rx_wd_ok y2) (rx_wd_ok g2) (rx_wd_ok g3) (rx_lkb_ok g1) ?_ ⟨y3.1, y3.2, y4⟩ hS h5
      cases c0 : Nat.beq k 1 with
      | true =>
        rw [c0, hci] at h1
        cases hw : vwCl[ci]? with
        | none => rw [hw] at h1; cases h1
        | some q =>
          obtain ⟨Cn, T, N⟩ := q
          rw [hw] at h1
          have e1 := of_decide_eq_true h1
          exact Or.inl ⟨rx_bq c0, T, N, by rw [e1]⟩
      | false =>
        rw [c0] at h1
        obtain ⟨z1, z2⟩ := rx_an h1
        exact Or.inr ⟨rx_bq z1, of_decide_eq_true z2⟩
  | invokespecial z =>
    obtain ⟨hok, h1⟩ := rx_an hok
    obtain ⟨hd, hlen⟩ := rx_d1_ok hok
    have hlen : len = _ := hlen
    subst hlen
    dsimp only at h1
    have h3 : cond (Nat.beq k 3) (rx_oi K rest L S w cc ss) (rx_at t 0 (fun ci => rx_inv G.2.1 mc ms cap ex K rest a b 1 ci L S w cc ss)) = some r := h
    cases c0 : Nat.beq k 3 with
    | true =>
      rw [c0] at h1 h3
      obtain ⟨g1, h1⟩ := rx_an h1
      obtain ⟨g2, g3⟩ := rx_an h1
      exact rx_q_oi C hd (rx_wd_ok g1) (rx_wd_ok g2) (rx_wd_ok g3) (by omega) (by omega) hS h3
    | false =>
      rw [c0] at h1 h3
      dsimp only [cond_false] at h1 h3
      obtain ⟨ci, hci, h5⟩ := rx_at_ok h3
      cases hv : mi[a]? with
      | none =>
        exfalso
        obtain ⟨as, S', r', w', -, -, -, -, -, h6, -, -⟩ := rx_inv_ok h5
        obtain ⟨Y, hY, -⟩ := hex _ _ _ _ _ h6
        rw [hv] at hY
        cases hY
      | some Y =>
        rw [hv] at h1
        obtain ⟨gy, h1⟩ := rx_an h1
        obtain ⟨y1, gy⟩ := rx_an gy
        obtain ⟨y2, gy⟩ := rx_an gy
        obtain ⟨y3, y4⟩ := rx_an gy
        have y3 := of_decide_eq_true y3
        have y4 := of_decide_eq_true y4
        have hM : ∀ (as : List rx_V) (w : List rx_C) (r' : Option rx_V) (w' : List rx_C), ex a as w = some (r', w') → rx_Met l d (cap a).1 (cap a).2 Y X D G as w r' w' := by
          intro as w r' w' h6
          obtain ⟨Y', hY', -, hM'⟩ := hex _ _ _ _ _ h6
          rw [hv] at hY'
          cases hY'
          exact hM'
        have hcode : Cond.code Y.1 Y.2.1 Y.2.2.1 Y.2.2.2 ∈ rx_words := by
          obtain ⟨as, S', r', w', -, -, -, -, -, h6, -, -⟩ := rx_inv_ok h5
          obtain ⟨Y', hY', hc, -⟩ := hex _ _ _ _ _ h6
          rw [hv] at hY'
          cases hY'
          exact hc
        obtain ⟨g0, h1⟩ := rx_an h1
        obtain ⟨g1, h1⟩ := rx_an h1
        obtain ⟨g2, h1⟩ := rx_an h1
        obtain ⟨g3, g4⟩ := of_decide_eq_true h1
        have g0 := rx_bt g0
        have eb : b = (b - 1) + 1 := by omega
        rw [eb] at h5
        exact rx_q_spec C hd hmc hms hfr hlo (rx_bl y1) hM hcode (rx_wd_ok y2) (rx_wd_ok g2) (rx_lkb_ok g1) g3 g4 ⟨y3.1, y3.2, y4⟩ hS h5
  | invokestatic z =>
    obtain ⟨hok, h1⟩ := rx_an hok
    obtain ⟨hd, hlen⟩ := rx_d1_ok hok
    have hlen : len = _ := hlen
    subst hlen
    dsimp only at h1
    have h3 : cond (Nat.beq k 4) (rx_cpy K rest L S w cc ss) (rx_inv G.2.1 mc ms cap ex K rest a b 0 0 L S w cc ss) = some r := h
    cases c0 : Nat.beq k 4 with
    | true =>
      rw [c0] at h1 h3
      obtain ⟨g1, h1⟩ := rx_an h1
      obtain ⟨g2, h1⟩ := rx_an h1
      obtain ⟨g3, g4⟩ := rx_an h1
      exact rx_q_cpy C hd (rx_wd_ok g1) (rx_wd_ok g2) (rx_wd_ok g3) (rx_wd_ok g4) (by omega) (by omega) hS h3
    | false =>
      rw [c0] at h1 h3
      dsimp only [cond_false] at h1 h3
      cases hv : mi[a]? with
      | none =>
        exfalso
        obtain ⟨as, S', r', w', -, -, -, -, -, h6, -, -⟩ := rx_inv_ok h3
        obtain ⟨Y, hY, -⟩ := hex _ _ _ _ _ h6
        rw [hv] at hY
        cases hY
      | some Y =>
        rw [hv] at h1
        obtain ⟨gy, h1⟩ := rx_an h1
        obtain ⟨y1, gy⟩ := rx_an gy
        obtain ⟨y2, gy⟩ := rx_an gy
        obtain ⟨y3, y4⟩ := rx_an gy
        have y3 := of_decide_eq_true y3
        have y4 := of_decide_eq_true y4
        have hM : ∀ (as : List rx_V) (w : List rx_C) (r' : Option rx_V) (w' : List rx_C), ex a as w = some (r', w') → rx_Met l d (cap a).1 (cap a).2 Y X D G as w r' w' := by
          intro as w r' w' h6
          obtain ⟨Y', hY', -, hM'⟩ := hex _ _ _ _ _ h6
          rw [hv] at hY'
          cases hY'
          exact hM'
        have hcode : Cond.code Y.1 Y.2.1 Y.2.2.1 Y.2.2.2 ∈ rx_words := by
          obtain ⟨as, S', r', w', -, -, -, -, -, h6, -, -⟩ := rx_inv_ok h3
          obtain ⟨Y', hY', hc, -⟩ := hex _ _ _ _ _ h6
          rw [hv] at hY'
          cases hY'
          exact hc
        obtain ⟨g1, g2⟩ := rx_an h1
        exact rx_q_stat C hd hmc hms hfr hlo (rx_bl y1) hM hcode (rx_wd_ok y2) (rx_wd_ok g2) (rx_lkb_ok g1) ⟨y3.1, y3.2, y4⟩ hS h3
  | return_ =>
    exact hE (Option.some.inj h).symm
  | ireturn =>
    exact hE (Option.some.inj h).symm
  | lreturn =>
    exact hE (Option.some.inj h).symm
  | _ => exact absurd (show (none : Option rx_R) = some r from h) (by simp)
end RXT
end
section
/-! a run, a call -/
def rx_seq : List rx_E → Bool
  | [] => true
  | e :: t => (match t with
    | [] => true
    | e2 :: _ => Nat.beq e2.1 (e.1 + e.2.2.1)) && rx_seq t
theorem rx_seq_ok {e e2 : rx_E} {pre rest : List rx_E} (h : rx_seq (pre ++ e :: e2 :: rest) = true) : e2.1 = e.1 + e.2.2.1 := by
  induction pre with
  | nil =>
    obtain ⟨h1, -⟩ := rx_an (show (Nat.beq e2.1 (e.1 + e.2.2.1) && rx_seq (e2 :: rest)) = true from h)
    exact rx_bq h1
  | cons a t ih =>
    have h2 : (_ && rx_seq (t ++ e :: e2 :: rest)) = true := h
    exact ih (rx_an h2).2
theorem rx_find_ok (cd : List rx_E) (t : Nat) : rx_find cd t = [] ∨ ∃ pre e rest, cd = pre ++ e :: rest ∧ rx_find cd t = e :: rest ∧ e.1 = t := by
  induction cd with
  | nil => exact Or.inl rfl
  | cons a l ih =>
    change cond (Nat.beq a.1 t) (a :: l) (rx_find l t) = [] ∨ ∃ pre e rest, a :: l = pre ++ e :: rest ∧ cond (Nat.beq a.1 t) (a :: l) (rx_find l t) = e :: rest ∧ e.1 = t
    cases c : Nat.beq a.1 t with
    | true => exact Or.inr ⟨[], a, l, rfl, rfl, rx_bq c⟩
    | false =>
      rcases ih with h | ⟨pre, e, rest, h1, h2, h3⟩
      · exact Or.inl h
      · exact Or.inr ⟨a :: pre, e, rest, by rw [h1]; rfl, h2, h3⟩
section RXR
variable {p : Program} {l : Launch} {e : Env} {R : Room} {s : State} {m : MethodId} {args : Array Value} {below : List Frame} {meth : Method} {c : Code} {Q : State → Prop} {X : rx_X} {D : va_G} {G : rx_G} {own nm : String} {bc : ByteArray} {nL : Nat} {cd : List rx_E} {mc ms d : Nat} {mi : List rx_Y} {cap : Nat → Nat × Nat} {ex : Nat → List rx_V → List rx_C → Option (Option rx_V × List rx_C)}
theorem rx_loop_ok (C : rx_Cx p s m args c X D G own bc nL) (hG : rx_Gok G) (hnm : meth.name = nm) (hmc : mc ≤ R.cells) (hms : ms ≤ R.slots) (hfr : d + 1 ≤ R.frames) (hlo : 64 * d + 64 ≤ R.locals)
    (hex : ∀ (nu : Nat) (as : List rx_V) (w : List rx_C) (r' : Option rx_V) (w' : List rx_C), ex nu as w = some (r', w') → ∃ Y, mi[nu]? = some Y ∧ Cond.code Y.1 Y.2.1 Y.2.2.1 Y.2.2.2 ∈ rx_words ∧ rx_Met l d (cap nu).1 (cap nu).2 Y X D G as w r' w') (hok : cd.all (rx_okb mi own nm bc) = true) (hsq : rx_seq cd = true) {stop : Nat} {r : rx_R}
    (hF : ∀ (e1 : rx_E) (pre rest1 : List rx_E) (L1 : rx_L) (S1 : List rx_V) (w1 : List rx_C) (c1 s1 : Nat), cd = pre ++ e1 :: rest1 → r = (e1 :: rest1, L1, S1, w1, c1, s1) → rx_W p l e R s m args below meth c Q X D G nL e1.1 L1 S1 w1 c1 s1) :
    ∀ (n : Nat) (pre : List rx_E) (en : rx_E) (rest : List rx_E) (L : rx_L) (S : List rx_V) (w : List rx_C) (cc ss : Nat), cd = pre ++ en :: rest → rx_loop G cd nL mc ms cap ex stop n (en :: rest) L S w cc ss = some r → rx_W p l e R s m args below meth c Q X D G nL en.1 L S w cc ss := by
  have hnil : ∀ (n : Nat) (L : rx_L) (S : List rx_V) (w : List rx_C) (cc ss : Nat), rx_loop G cd nL mc ms cap ex stop n [] L S w cc ss = none := by
    intro n L S w cc ss
    cases n <;> rfl
  intro n
  induction n with
  | zero => intro pre en rest L S w cc ss _ h; cases h
  | succ n ih =>
    intro pre en rest L S w cc ss hcd h
    have h2 : cond (Nat.beq en.1 stop) (some (en :: rest, L, S, w, cc, ss)) (rx_step G cd nL mc ms cap ex (rx_loop G cd nL mc ms cap ex stop n) en rest L S w cc ss) = some r := h
    cases c0 : Nat.beq en.1 stop with
    | true =>
      rw [c0] at h2
      exact hF en pre rest L S w cc ss hcd (Option.some.inj h2).symm
    | false =>
      rw [c0] at h2
      have hokE : rx_okb mi own nm bc en = true := List.all_eq_true.mp hok en (by rw [hcd]; exact List.mem_append_right _ List.mem_cons_self)
      refine rx_step_ok (K := rx_loop G cd nL mc ms cap ex stop n) C hG hnm hmc hms hfr hlo hex hokE (fun L' S' w' cc' ss' hk => ?_) (fun t L' S' w' cc' ss' hk => ?_) (fun hr => hF en pre rest L S w cc ss hcd hr) h2
      · cases rest with
        | nil => rw [hnil] at hk; cases hk
        | cons e2 rest2 =>
          have h3 := ih (pre ++ [en]) e2 rest2 L' S' w' cc' ss' (by rw [hcd, List.append_assoc]; rfl) hk
          have h4 : e2.1 = en.1 + en.2.2.1 := rx_seq_ok (pre := pre) (rest := rest2) (by rw [← hcd]; exact hsq)
          rw [← h4]
          exact h3
      · rcases rx_find_ok cd t with h3 | ⟨pre2, e2, rest2, h3, h4, h5⟩
        · rw [h3, hnil] at hk; cases hk
        · rw [h4] at hk
          have h6 := ih pre2 e2 rest2 L' S' w' cc' ss' h3 hk
          rw [h5] at h6
          exact h6
end RXR
theorem rx_ofW {l : Launch} {y : MethodName} {ws ws' : List Cond} {rm : Room} {Pc : Array Value → State → Prop} {Qc : Array Value → State → Outcome → State → Prop} {mc ms : Nat} {free : Addr → Prop} {cc : ByteArray} {maxL : Nat} {ret : Option FieldType} (hy : plainFor y = true) (hw : ws = Cond.code y cc maxL ret :: ws')
    (body : ∀ p e s m args below meth c s₁, BodyLoose p l y (headSpec ws rm) cc maxL ret e s m args below meth c s₁ → c.maxLocals = maxL → Pc args s → W p l e (headSpec ws rm).room s m args below meth c s.heap [] 0 0 (MQ below Qc args s mc ms free) (entryFrame m args maxL)) : Met l y ws rm Pc Qc mc ms free := by
  refine MetFree.of_bodySF (code := cc) (maxLocals := maxL) (ret := ret) hy ?_ ?_
  · intro args s m h hn
    obtain ⟨meth, c, h1, h2, h3, h4, h5, h6, -, -⟩ := Cond.code_spec hn (atoms_spec (ws := ws) h _ (by rw [hw]; exact List.mem_cons_self))
    exact ⟨meth, c, h1, h2, h3, h4, h5, h6⟩
  · intro p e s m args below meth c s₁ B hml hP _
    have hh0 : s₁.heap = s.heap := by rw [B.state]; rfl
    obtain ⟨t, a1, o, b1, b2, b3⟩ := body p e s m args below meth c s₁ B hml hP s₁ hh0 (Stand.of_body B)
    exact ⟨t, o, a1, b1, b2, ⟨b3.1, b3.2⟩⟩
/-- the answer's kind -/
def rx_rk (q : Nat) (t : Option FieldType) : Bool := match t with
  | none => Nat.beq q 0
  | some .int => Nat.beq q 1
  | some .boolean => Nat.beq q 2
  | some .byte => Nat.beq q 3
  | some .char => Nat.beq q 4
  | some .long => Nat.beq q 5
  | _ => false
/-- a method's row and its table fit -/
def rx_tOk (mi : List rx_Y) (x : List rx_E × Nat × Nat × Nat × Nat) (Y : rx_Y) : Prop := Y.2.2.1 = x.2.1 ∧ rx_rk x.2.2.2.2 Y.2.2.2 = true ∧ Cond.code Y.1 Y.2.1 Y.2.2.1 Y.2.2.2 ∈ rx_words ∧ plainFor Y.1 = true ∧ x.1.all (rx_okb mi Y.1.cls Y.1.name Y.2.1) = true ∧ rx_seq x.1 = true ∧ ∃ e rest, x.1 = e :: rest ∧ e.1 = 0
theorem rx_args_lv (X : rx_X) (as : List rx_V) : ∀ i : Nat, lv_args i (as.map (rx_d X)) = rx_Lm X (rx_args as i) := by
  induction as with
  | nil => intro i; rfl
  | cons v t ih =>
    intro i
    show (i, rx_d X v) :: lv_args (if (rx_d X v).category = 2 then i + 2 else i + 1) (t.map (rx_d X)) = (i, rx_d X v) :: rx_Lm X (rx_args t (i + rx_cat v))
    rw [ih, rx_cat_d]
    have hc : rx_cat v = 1 ∨ rx_cat v = 2 := by rcases v with i | ((n | k) | ((_ | k) | j)) <;> simp [rx_cat]
    rcases hc with hc | hc <;> rw [hc] <;> rfl
theorem rx_sl_len (X : rx_X) (as : List rx_V) : (lg_sl (as.map (rx_d X))).length = rx_cats as := by
  induction as with
  | nil => rfl
  | cons v t ih =>
    show (lg_sl (rx_d X v :: t.map (rx_d X))).length = Nat.add (rx_cat v) (rx_cats t)
    rw [← ih]
    unfold lg_sl
    rw [List.flatMap_cons, List.length_append, rx_cat_d]
    have hc : rx_cat v = 1 ∨ rx_cat v = 2 := by rcases v with i | ((n | k) | ((_ | k) | j)) <;> simp [rx_cat]
    rcases hc with hc | hc <;> rw [hc] <;> rfl
theorem rx_cap_eq {tb : rx_T} : ∀ {nu : Nat} {x : List rx_E × Nat × Nat × Nat × Nat}, tb[nu]? = some x → rx_cap tb nu = (x.2.2.1, x.2.2.2.1) := by
  induction tb with
  | nil => intro nu x h; simp at h
  | cons y t ih =>
    intro nu x h
    cases nu with
    | zero => simp at h; rw [← h]; rfl
    | succ n => exact ih (by simpa using h)
theorem rx_end_i {q : Nat} {S : List rx_V} {w w' : List rx_C} {r : Option rx_V} (h : rx_end q .ireturn S w = some (r, w')) : (∃ n, S = [.inl (.inl n)] ∧ r = some (.inl (.inl n)) ∧ w' = w ∧ (q = 1 ∨ (q = 2 ∧ n ≤ 1) ∨ (q = 3 ∧ n < 128) ∨ (q = 4 ∧ n < 65536))) ∨ (∃ u, S = [.inl (.inr u)] ∧ r = some (.inl (.inr u)) ∧ w' = w ∧ q = 1) := by
  unfold rx_end at h
  dsimp only at h
  split at h
  · rename_i n
    obtain ⟨z1, h4⟩ := rx_c h
    cases h4
    refine Or.inl ⟨n, rfl, rfl, rfl, ?_⟩
    rcases Bool.or_eq_true_iff.mp z1 with z | z
    · exact Or.inl (rx_bq z)
    · rcases Bool.or_eq_true_iff.mp z with z | z
      · exact Or.inr (Or.inl ⟨rx_bq (rx_an z).1, rx_bl (rx_an z).2⟩)
      · rcases Bool.or_eq_true_iff.mp z with z | z
        · exact Or.inr (Or.inr (Or.inl ⟨rx_bq (rx_an z).1, rx_bt (rx_an z).2⟩))
        · exact Or.inr (Or.inr (Or.inr ⟨rx_bq (rx_an z).1, rx_bt (rx_an z).2⟩))
  · rename_i u
    obtain ⟨z1, h4⟩ := rx_c h
    cases h4
    exact Or.inr ⟨u, rfl, rfl, rfl, rx_bq z1⟩
  · cases h
theorem rx_end_l {q : Nat} {S : List rx_V} {w w' : List rx_C} {r : Option rx_V} (h : rx_end q .lreturn S w = some (r, w')) : ∃ x, S = [.inr (.inl x)] ∧ r = some (.inr (.inl x)) ∧ w' = w ∧ q = 5 := by
  unfold rx_end at h
  dsimp only at h
  split at h
  · rename_i x
    obtain ⟨z1, h4⟩ := rx_c h
    cases h4
    exact ⟨x, rfl, rfl, rfl, rx_bq z1⟩
  · cases h
theorem rx_nar_byte : ∀ n, n < 128 → narrow .byte (.int (nI n)) = .int (nI n) := by decide +kernel
set_option maxHeartbeats 1000000 in
theorem rx_ex_ok {l : Launch} {X : rx_X} {D : va_G} {G : rx_G} {tb : rx_T} {mi : List rx_Y} {fuel : Nat} (hG : rx_Gok G) (hF : rx_fok X G.1) (hT : ∀ (nu : Nat) (x : List rx_E × Nat × Nat × Nat × Nat), tb[nu]? = some x → ∃ Y, mi[nu]? = some Y ∧ rx_tOk mi x Y) :
    ∀ (d nu : Nat) (as : List rx_V) (w : List rx_C) (r : Option rx_V) (w' : List rx_C), rx_ex G tb fuel d nu as w = some (r, w') → ∃ Y, mi[nu]? = some Y ∧ Cond.code Y.1 Y.2.1 Y.2.2.1 Y.2.2.2 ∈ rx_words ∧ rx_Met l d (rx_cap tb nu).1 (rx_cap tb nu).2 Y X D G as w r w' := by
  intro d
  induction d with
  | zero => intro nu as w r w' h; cases h
  | succ d ih =>
    intro nu as w r w' h
    have h0 : rx_at tb nu (fun m => cond (Nat.ble (rx_cats as) m.2.1) (match rx_loop G m.1 m.2.1 m.2.2.1 m.2.2.2.1 (rx_cap tb) (rx_ex G tb fuel d) 99999999 fuel m.1 (rx_args as 0) [] w 0 0 with
      | some (e :: _, _, S, w', cc, ss) => cond (Nat.beq m.2.2.1 cc && Nat.ble ss m.2.2.2.1) (rx_end m.2.2.2.2 e.2.1 S w') none
      | _ => none) none) = some (r, w') := h
    obtain ⟨x, hx, h1⟩ := rx_at_ok h0
    obtain ⟨hc1, h2⟩ := rx_c h1
    have hc1 := rx_bl hc1
    obtain ⟨Y, hY, hmx, hrk, hcode, hpl, hokA, hsq, en, rest, hcd, hpc0⟩ := hT nu x hx
    refine ⟨Y, hY, hcode, ?_⟩
    rw [rx_cap_eq hx]
    obtain ⟨cd, nL, mc, ms, q⟩ := x
    dsimp only at h2 hmx hrk hokA hsq hcd hc1 ⊢
    cases hr : rx_loop G cd nL mc ms (rx_cap tb) (rx_ex G tb fuel d) 99999999 fuel cd (rx_args as 0) [] w 0 0 with
    | none => rw [hr] at h2; cases h2
    | some r1 =>
      rw [hr] at h2
      obtain ⟨cs1, L1, S1, w1, c1, s1⟩ := r1
      cases cs1 with
      | nil => cases h2
      | cons e1 rest1 =>
        obtain ⟨hc2, h3⟩ := rx_c h2
        obtain ⟨hc2, hc3⟩ := rx_an hc2
        have hc2 := rx_bq hc2
        have hc3 := rx_bl hc3
        subst hc2
        unfold rx_Met
        refine rx_ofW (cc := Y.2.1) (maxL := Y.2.2.1) (ret := Y.2.2.2) hpl rfl ?_
        intro p e s m args below meth c s₁ B hml hv
        obtain ⟨rfl, hP, hz, hU⟩ := hv
        have hts0 := atoms_spec (ws := Cond.code Y.1 Y.2.1 Y.2.2.1 Y.2.2.2 :: rx_words) B.pre
        have C : rx_Cx p s m (as.map (rx_d X)).toArray c X D G Y.1.cls Y.2.1 nL := ⟨B.exec, B.bytes, by rw [hml]; exact hmx, findClass_of_methodNamed B.named, fun w hw => hts0 w (List.mem_cons_of_mem _ hw), hU, hF⟩
        have hnm : meth.name = Y.1.name := (name_of_methodNamed B.named B.method).1
        have hlocks := B.notSynchronized
        have hret := B.returns
        have hlv := lv_entry (as.map (rx_d X)) (n := Y.2.2.1) (by rw [rx_sl_len, hmx]; exact hc1)
        rw [lg_entry_eq]
        rw [rx_args_lv, hmx] at hlv
        rw [hmx]
        generalize ((lg_sl (as.map (rx_d X)) ++ List.replicate (nL - (lg_sl (as.map (rx_d X))).length) Slot.unset).toArray) = ls at hlv ⊢
        have hI : rx_Iv X D G s w 0 s.heap [] := ⟨hP, fun q => by rw [Nat.add_zero]; exact hz q, va_S.rf⟩
        have hgo : rx_W p l e (headSpec (Cond.code Y.1 Y.2.1 Y.2.2.1 Y.2.2.2 :: rx_words) (rx_rm (d + 1) mc ms)).room s m (as.map (rx_d X)).toArray below meth c (MQ below (rx_Qc X D G mc r w') (as.map (rx_d X)).toArray s mc ms (rx_A X)) X D G nL en.1 (rx_args as 0) [] w 0 0 := by
          refine rx_loop_ok (mi := mi) (nm := Y.1.name) (cap := rx_cap tb) (ex := rx_ex G tb fuel d) (mc := mc) (ms := ms) (d := d) (cd := cd) (stop := 99999999) (r := (e1 :: rest1, L1, S1, w1, mc, s1)) C hG hnm (Nat.le_refl _) (Nat.le_refl _) (Nat.le_refl _) (by show 64 * d + 64 ≤ 64 * (d + 1); omega) (ih) hokA hsq ?_ fuel [] en rest (rx_args as 0) [] w 0 0 hcd (by rw [← hcd]; exact hr)
          intro e9 pre9 rest9 L9 S9 w9 c9 s9 hcd9 hr9
          cases hr9
          intro H locs ls hI hl
          have hd : rx_okb mi Y.1.cls Y.1.name Y.2.1 e1 = true := List.all_eq_true.mp hokA e1 (by rw [hcd9]; exact List.mem_append_right _ List.mem_cons_self)
          have hend : ∀ (r0 : Option rx_V), r0 = r → w1 = w' → ∀ t : State, t.heap = H → s.WarmedH t.vm → rx_Qc X D G mc r w' (as.map (rx_d X)).toArray s (.returned (r0.map (rx_d X))) t := by
            intro r0 e0 e2 t ht _
            subst e0
            subst e2
            refine ⟨rfl, by rw [ht]; exact hI.1, hI.2.1, by rw [ht]; exact hI.2.2.1, fun q h1 h2 => by rw [ht]; exact hI.2.2.2.1 q h1 h2⟩
          refine W.widen (k := mc) (n := ms) (Nat.le_refl _) hc3 ?_
          obtain ⟨pc1, i1, len1, a1, b1, k1, t1⟩ := e1
          cases i1 with
          | return_ =>
            obtain ⟨hd, -⟩ := rx_d1_ok hd
            obtain ⟨z1, h4⟩ := rx_c h3
            have z1 := rx_bq z1
            cases S1 with
            | nil =>
              cases h4
              have hn : Y.2.2.2 = none := by
                cases hy : Y.2.2.2 with
                | none => rfl
                | some ty => rw [hy, z1] at hrk; cases ty <;> cases hrk
              exact W.vret C.1 C.2.1 (by rw [hret]; exact hn) (hend none rfl rfl) hI.2.2.2.2 hd
            | cons v S2 => cases h4
          | ireturn =>
            obtain ⟨hd, -⟩ := rx_d1_ok hd
            have hty : ∀ ty : FieldType, (∀ t : Option FieldType, rx_rk q t = true → t = some ty) → meth.sig.returnType = some ty := fun ty hu => by rw [hret]; exact hu _ hrk
            rcases rx_end_i h3 with ⟨n, rfl, rfl, rfl, z | ⟨z, zn⟩ | ⟨z, zn⟩ | ⟨z, zn⟩⟩ | ⟨u, rfl, rfl, rfl, z⟩
            · subst z
              exact W.iret (v := nI n) C.1 C.2.1 (hty .int (fun t ht => by rcases t with _ | ty <;> first | (cases ht; done) | (cases ty <;> first | rfl | (cases ht; done)))) (hend (some (.inl (.inl n))) rfl rfl) hI.2.2.2.2 hd
            · subst z
              exact W.zret (v := nI n) (ty := .boolean) C.1 C.2.1 (hty .boolean (fun t ht => by rcases t with _ | ty <;> first | (cases ht; done) | (cases ty <;> first | rfl | (cases ht; done)))) (rx_nar_bool zn) (hend (some (.inl (.inl n))) rfl rfl) hI.2.2.2.2 hd
            · subst z
              exact W.zret (v := nI n) (ty := .byte) C.1 C.2.1 (hty .byte (fun t ht => by rcases t with _ | ty <;> first | (cases ht; done) | (cases ty <;> first | rfl | (cases ht; done)))) (rx_nar_byte n zn) (hend (some (.inl (.inl n))) rfl rfl) hI.2.2.2.2 hd
            · subst z
              exact W.zret (v := nI n) (ty := .char) C.1 C.2.1 (hty .char (fun t ht => by rcases t with _ | ty <;> first | (cases ht; done) | (cases ty <;> first | rfl | (cases ht; done)))) (pk_charN zn).1 (hend (some (.inl (.inl n))) rfl rfl) hI.2.2.2.2 hd
            · subst z
              exact W.iret (v := rx_N X (.inr u)) C.1 C.2.1 (hty .int (fun t ht => by rcases t with _ | ty <;> first | (cases ht; done) | (cases ty <;> first | rfl | (cases ht; done)))) (hend (some (.inl (.inr u))) rfl rfl) hI.2.2.2.2 hd
          | lreturn =>
            obtain ⟨hd, -⟩ := rx_d1_ok hd
            obtain ⟨x, rfl, rfl, rfl, z⟩ := rx_end_l h3
            subst z
            have hr5 : meth.sig.returnType = some .long := by
              have hu : ∀ t : Option FieldType, rx_rk 5 t = true → t = some .long := (fun t ht => by rcases t with _ | ty <;> first | (cases ht; done) | (cases ty <;> first | rfl | (cases ht; done)))
              rw [hret]; exact hu _ hrk
            rcases x with n | n
            · exact W.lret (v := lN n) C.1 C.2.1 hr5 (hend (some (.inr (.inl (.inl n)))) rfl rfl) hI.2.2.2.2 hd
            · exact W.lret (v := (X.1 n).toInt64) C.1 C.2.1 hr5 (hend (some (.inr (.inl (.inr n)))) rfl rfl) hI.2.2.2.2 hd
          | _ => exact absurd (show (none : Option (Option rx_V × List rx_C)) = some (r, w') from h3) (by simp)
        rw [hpc0] at hgo
        exact hgo s.heap [] ls hI hlv
end
section
/-! printed by wip/p1/tables.py: the code of the methods that are reached, by number -/
/-- GreyRouteModel.between(III)I -/
def rx_m0 : List rx_E := [(0, .aload_n 0, 1, 0, 0, 0, []),
  (1, .getfield 69, 3, 12, 19, 0, [1603]),
  (4, .bipush 64, 2, 64, 0, 0, []),
  (6, .iload_n 1, 1, 1, 0, 0, []),
  (7, .imul, 1, 0, 0, 0, []),
  (8, .bipush 8, 2, 8, 0, 0, []),
  (10, .iload_n 2, 1, 2, 0, 0, []),
  (11, .imul, 1, 0, 0, 0, []),
  (12, .iadd, 1, 0, 0, 0, []),
  (13, .iload_n 3, 1, 3, 0, 0, []),
  (14, .iadd, 1, 0, 0, 0, []),
  (15, .iaload, 1, 0, 0, 0, []),
  (16, .ireturn, 1, 0, 0, 0, [])]
/-- java/lang/String.length()I -/
def rx_m1 : List rx_E := [(0, .aload_n 0, 1, 0, 0, 0, []),
  (1, .getfield 9, 3, 0, 0, 2, [2338]),
  (4, .arraylength, 1, 0, 0, 0, []),
  (5, .aload_n 0, 1, 0, 0, 0, []),
  (6, .invokevirtual 335, 3, 2, 1, 2, [0, 0, 580, 581, 268, 582]),
  (9, .ishr, 1, 0, 0, 0, []),
  (10, .ireturn, 1, 0, 0, 0, [])]
/-- java/lang/String.coder()B -/
def rx_m2 : List rx_E := [(0, .getstatic 38, 3, 0, 0, 0, [584]),
  (3, .ifCond .eq 10, 3, 13, 0, 0, []),
  (6, .aload_n 0, 1, 0, 0, 0, []),
  (7, .getfield 15, 3, 0, 0, 3, [2339]),
  (10, .goto 4, 3, 14, 0, 0, []),
  (13, .iconst 1, 1, 1, 0, 0, []),
  (14, .ireturn, 1, 0, 0, 0, [])]
/-- java/lang/String.charAt(I)C -/
def rx_m3 : List rx_E := [(0, .aload_n 0, 1, 0, 0, 0, []),
  (1, .invokevirtual 492, 3, 4, 1, 2, [0, 0, 590, 591, 268, 592]),
  (4, .ifCond .eq 12, 3, 16, 0, 0, []),
  (7, .aload_n 0, 1, 0, 0, 0, []),
  (8, .getfield 9, 3, 0, 0, 2, [2338]),
  (11, .iload_n 1, 1, 1, 0, 0, []),
  (12, .invokestatic 495, 3, 5, 2, 0, [0, 0, 594, 595, 269]),
  (15, .ireturn, 1, 0, 0, 0, []),
  (16, .aload_n 0, 1, 0, 0, 0, []),
  (17, .getfield 9, 3, 0, 0, 2, [2338]),
  (20, .iload_n 1, 1, 1, 0, 0, []),
  (21, .invokestatic 498, 3, 999, 2, 9, []),
  (24, .ireturn, 1, 0, 0, 0, [])]
/-- java/lang/String.isLatin1()Z -/
def rx_m4 : List rx_E := [(0, .getstatic 38, 3, 0, 0, 0, [584]),
  (3, .ifCond .eq 14, 3, 17, 0, 0, []),
  (6, .aload_n 0, 1, 0, 0, 0, []),
  (7, .getfield 15, 3, 0, 0, 3, [2339]),
  (10, .ifCond .ne 7, 3, 17, 0, 0, []),
  (13, .iconst 1, 1, 1, 0, 0, []),
  (14, .goto 4, 3, 18, 0, 0, []),
  (17, .iconst 0, 1, 0, 0, 0, []),
  (18, .ireturn, 1, 0, 0, 0, [])]
/-- java/lang/StringLatin1.charAt([BI)C -/
def rx_m5 : List rx_E := [(0, .iload_n 1, 1, 1, 0, 0, []),
  (1, .aload_n 0, 1, 0, 0, 0, []),
  (2, .arraylength, 1, 0, 0, 0, []),
  (3, .invokestatic 9, 3, 6, 2, 0, [0, 0, 597, 598, 268]),
  (6, .aload_n 0, 1, 0, 0, 0, []),
  (7, .iload_n 1, 1, 1, 0, 0, []),
  (8, .baload, 1, 0, 0, 0, []),
  (9, .sipush 255, 3, 255, 0, 0, []),
  (12, .iand, 1, 0, 0, 0, []),
  (13, .i2c, 1, 0, 0, 0, []),
  (14, .ireturn, 1, 0, 0, 0, [])]
/-- java/lang/String.checkIndex(II)V -/
def rx_m6 : List rx_E := [(0, .iload_n 0, 1, 0, 0, 0, []),
  (1, .iload_n 1, 1, 1, 0, 0, []),
  (2, .getstatic 1053, 3, 1, 0, 0, [600]),
  (5, .invokestatic 1059, 3, 7, 3, 0, [0, 0, 602, 603, 270]),
  (8, .pop, 1, 0, 0, 0, []),
  (9, .return_, 1, 0, 0, 0, [])]
/-- jdk/internal/util/Preconditions.checkIndex(IILjava/util/function/BiFunction;)I -/
def rx_m7 : List rx_E := [(0, .iload_n 0, 1, 0, 0, 0, []),
  (1, .ifCond .lt 8, 3, 9, 0, 0, []),
  (4, .iload_n 0, 1, 0, 0, 0, []),
  (5, .iload_n 1, 1, 1, 0, 0, []),
  (6, .if_icmp .lt 10, 3, 16, 0, 0, []),
  (9, .aload_n 2, 1, 2, 0, 0, []),
  (10, .iload_n 0, 1, 0, 0, 0, []),
  (11, .iload_n 1, 1, 1, 0, 0, []),
  (12, .invokestatic 95, 3, 999, 0, 9, []),
  (15, .nop, 1, 0, 0, 0, []),
  (16, .iload_n 0, 1, 0, 0, 0, []),
  (17, .ireturn, 1, 0, 0, 0, [])]
/-- GreyRouteModel.is(III)Z -/
def rx_m8 : List rx_E := [(0, .iload_n 0, 1, 0, 0, 0, []),
  (1, .iload_n 1, 1, 1, 0, 0, []),
  (2, .if_icmp .lt 12, 3, 14, 0, 0, []),
  (5, .iload_n 0, 1, 0, 0, 0, []),
  (6, .iload_n 2, 1, 2, 0, 0, []),
  (7, .if_icmp .gt 7, 3, 14, 0, 0, []),
  (10, .iconst 1, 1, 1, 0, 0, []),
  (11, .goto 4, 3, 15, 0, 0, []),
  (14, .iconst 0, 1, 0, 0, 0, []),
  (15, .ireturn, 1, 0, 0, 0, [])]
/-- GreyRoute$Words.letterNumber(I)I -/
def rx_m9 : List rx_E := [(0, .iload_n 0, 1, 0, 0, 0, []),
  (1, .bipush 97, 2, 97, 0, 0, []),
  (3, .isub, 1, 0, 0, 0, []),
  (4, .iconst 1, 1, 1, 0, 0, []),
  (5, .iadd, 1, 0, 0, 0, []),
  (6, .ireturn, 1, 0, 0, 0, [])]
/-- GreyRoute$Pageant.go(I)V -/
def rx_m10 : List rx_E := [(0, .aload_n 0, 1, 0, 0, 0, []),
  (1, .invokevirtual 112, 3, 11, 1, 1, [2, 0, 1214, 1216, 272, 44]),
  (4, .aload_n 0, 1, 0, 0, 0, []),
  (5, .getfield 50, 3, 2, 9, 0, [727]),
  (8, .getfield 115, 3, 7, 1, 0, [707]),
  (11, .bipush 11, 2, 11, 0, 0, []),
  (13, .iload_n 1, 1, 1, 0, 0, []),
  (14, .iastore, 1, 0, 0, 0, []),
  (15, .aload_n 0, 1, 0, 0, 0, []),
  (16, .getfield 50, 3, 2, 9, 0, [727]),
  (19, .getfield 115, 3, 7, 1, 0, [707]),
  (22, .bipush 13, 2, 13, 0, 0, []),
  (24, .aload_n 0, 1, 0, 0, 0, []),
  (25, .getfield 58, 3, 2, 12, 0, [730]),
  (28, .iastore, 1, 0, 0, 0, []),
  (29, .aload_n 0, 1, 0, 0, 0, []),
  (30, .iconst 0, 1, 0, 0, 0, []),
  (31, .putfield 61, 3, 2, 13, 0, [732]),
  (34, .aload_n 0, 1, 0, 0, 0, []),
  (35, .iconst 0, 1, 0, 0, 0, []),
  (36, .putfield 64, 3, 2, 14, 0, [735]),
  (39, .aload_n 0, 1, 0, 0, 0, []),
  (40, .iconst 0, 1, 0, 0, 0, []),
  (41, .putfield 67, 3, 2, 15, 0, [737]),
  (44, .iconst 0, 1, 0, 0, 0, []),
  (45, .istore_n 2, 1, 2, 0, 0, []),
  (46, .iload_n 2, 1, 2, 0, 0, []),
  (47, .aload_n 0, 1, 0, 0, 0, []),
  (48, .getfield 12, 3, 2, 0, 0, [713]),
  (51, .getfield 118, 3, 5, 2, 0, [330]),
  (54, .if_icmp .ge 129, 3, 183, 0, 0, []),
  (57, .iload_n 2, 1, 2, 0, 0, []),
  (58, .ifCond .le 39, 3, 97, 0, 0, []),
  (61, .aload_n 0, 1, 0, 0, 0, []),
  (62, .dup, 1, 0, 0, 0, []),
  (63, .getfield 61, 3, 2, 13, 0, [732]),
  (66, .aload_n 0, 1, 0, 0, 0, []),
  (67, .getfield 70, 3, 2, 10, 0, [728]),
  (70, .aload_n 0, 1, 0, 0, 0, []),
  (71, .getfield 12, 3, 2, 0, 0, [713]),
  (74, .getfield 121, 3, 5, 0, 0, [321]),
  (77, .iload_n 2, 1, 2, 0, 0, []),
  (78, .iconst 1, 1, 1, 0, 0, []),
  (79, .isub, 1, 0, 0, 0, []),
  (80, .iaload, 1, 0, 0, 0, []),
  (81, .aload_n 0, 1, 0, 0, 0, []),
  (82, .getfield 12, 3, 2, 0, 0, [713]),
  (85, .getfield 121, 3, 5, 0, 0, [321]),
  (88, .iload_n 2, 1, 2, 0, 0, []),
  (89, .iaload, 1, 0, 0, 0, []),
  (90, .invokevirtual 124, 3, 999, 3, 9, []),
  (93, .iadd, 1, 0, 0, 0, []),
  (94, .putfield 61, 3, 2, 13, 0, [732]),
  (97, .aload_n 0, 1, 0, 0, 0, []),
  (98, .getfield 22, 3, 2, 2, 0, [718]),
  (101, .iload_n 2, 1, 2, 0, 0, []),
  (102, .aload_n 0, 1, 0, 0, 0, []),
  (103, .getfield 61, 3, 2, 13, 0, [732]),
  (106, .iastore, 1, 0, 0, 0, []),
  (107, .aload_n 0, 1, 0, 0, 0, []),
  (108, .getfield 25, 3, 2, 3, 0, [720]),
  (111, .iload_n 2, 1, 2, 0, 0, []),
  (112, .aload_n 0, 1, 0, 0, 0, []),
  (113, .getfield 12, 3, 2, 0, 0, [713]),
  (116, .iload_n 2, 1, 2, 0, 0, []),
  (117, .invokevirtual 128, 3, 999, 2, 9, []),
  (120, .iastore, 1, 0, 0, 0, []),
  (121, .aload_n 0, 1, 0, 0, 0, []),
  (122, .dup, 1, 0, 0, 0, []),
  (123, .getfield 67, 3, 2, 15, 0, [737]),
  (126, .aload_n 0, 1, 0, 0, 0, []),
  (127, .getfield 25, 3, 2, 3, 0, [720]),
  (130, .iload_n 2, 1, 2, 0, 0, []),
  (131, .iaload, 1, 0, 0, 0, []),
  (132, .iadd, 1, 0, 0, 0, []),
  (133, .putfield 67, 3, 2, 15, 0, [737]),
  (136, .aload_n 0, 1, 0, 0, 0, []),
  (137, .getfield 18, 3, 2, 1, 0, [716]),
  (140, .iload_n 2, 1, 2, 0, 0, []),
  (141, .aload_n 0, 1, 0, 0, 0, []),
  (142, .iload_n 2, 1, 2, 0, 0, []),
  (143, .invokevirtual 132, 3, 999, 2, 9, []),
  (146, .iastore, 1, 0, 0, 0, []),
  (147, .aload_n 0, 1, 0, 0, 0, []),
  (148, .dup, 1, 0, 0, 0, []),
  (149, .getfield 61, 3, 2, 13, 0, [732]),
  (152, .aload_n 0, 1, 0, 0, 0, []),
  (153, .getfield 18, 3, 2, 1, 0, [716]),
  (156, .iload_n 2, 1, 2, 0, 0, []),
  (157, .iaload, 1, 0, 0, 0, []),
  (158, .iadd, 1, 0, 0, 0, []),
  (159, .putfield 61, 3, 2, 13, 0, [732]),
  (162, .aload_n 0, 1, 0, 0, 0, []),
  (163, .dup, 1, 0, 0, 0, []),
  (164, .getfield 64, 3, 2, 14, 0, [735]),
  (167, .aload_n 0, 1, 0, 0, 0, []),
  (168, .getfield 18, 3, 2, 1, 0, [716]),
  (171, .iload_n 2, 1, 2, 0, 0, []),
  (172, .iaload, 1, 0, 0, 0, []),
  (173, .iadd, 1, 0, 0, 0, []),
  (174, .putfield 64, 3, 2, 14, 0, [735]),
  (177, .iinc 2 1, 3, 2, 1, 0, []),
  (180, .goto (-134), 3, 46, 0, 0, []),
  (183, .return_, 1, 0, 0, 0, [])]
/-- GreyRoute$Pageant.goRound()V -/
def rx_m11 : List rx_E := [(0, .iconst 1, 1, 1, 0, 0, []),
  (1, .istore_n 1, 1, 1, 0, 0, []),
  (2, .iload_n 1, 1, 1, 0, 0, []),
  (3, .aload_n 0, 1, 0, 0, 0, []),
  (4, .getfield 12, 3, 2, 0, 0, [713]),
  (7, .getfield 118, 3, 5, 2, 0, [330]),
  (10, .if_icmp .ge 121, 3, 131, 0, 0, []),
  (13, .iload_n 1, 1, 1, 0, 0, []),
  (14, .bipush 30, 2, 30, 0, 0, []),
  (16, .if_icmp .ge 115, 3, 131, 0, 0, []),
  (19, .aload_n 0, 1, 0, 0, 0, []),
  (20, .getfield 70, 3, 2, 10, 0, [728]),
  (23, .aload_n 0, 1, 0, 0, 0, []),
  (24, .getfield 12, 3, 2, 0, 0, [713]),
  (27, .getfield 121, 3, 5, 0, 0, [321]),
  (30, .iload_n 1, 1, 1, 0, 0, []),
  (31, .iconst 1, 1, 1, 0, 0, []),
  (32, .isub, 1, 0, 0, 0, []),
  (33, .iaload, 1, 0, 0, 0, []),
  (34, .aload_n 0, 1, 0, 0, 0, []),
  (35, .getfield 12, 3, 2, 0, 0, [713]),
  (38, .getfield 121, 3, 5, 0, 0, [321]),
  (41, .iload_n 1, 1, 1, 0, 0, []),
  (42, .iaload, 1, 0, 0, 0, []),
  (43, .invokevirtual 168, 3, 999, 3, 9, []),
  (46, .istore_n 2, 1, 2, 0, 0, []),
  (47, .iload_n 2, 1, 2, 0, 0, []),
  (48, .iconst (-1), 1, 4294967295, 0, 0, []),
  (49, .if_icmp .eq 76, 3, 125, 0, 0, []),
  (52, .aload_n 0, 1, 0, 0, 0, []),
  (53, .getfield 54, 3, 2, 11, 0, [729]),
  (56, .iload_n 2, 1, 2, 0, 0, []),
  (57, .ishr, 1, 0, 0, 0, []),
  (58, .iconst 1, 1, 1, 0, 0, []),
  (59, .iand, 1, 0, 0, 0, []),
  (60, .iconst 1, 1, 1, 0, 0, []),
  (61, .if_icmp .ne 64, 3, 125, 0, 0, []),
  (64, .aload_n 0, 1, 0, 0, 0, []),
  (65, .getfield 43, 3, 2, 8, 0, [725]),
  (68, .aload_n 0, 1, 0, 0, 0, []),
  (69, .getfield 12, 3, 2, 0, 0, [713]),
  (72, .getfield 121, 3, 5, 0, 0, [321]),
  (75, .iload_n 1, 1, 1, 0, 0, []),
  (76, .iconst 1, 1, 1, 0, 0, []),
  (77, .isub, 1, 0, 0, 0, []),
  (78, .iaload, 1, 0, 0, 0, []),
  (79, .aload_n 0, 1, 0, 0, 0, []),
  (80, .getfield 12, 3, 2, 0, 0, [713]),
  (83, .getfield 121, 3, 5, 0, 0, [321]),
  (86, .iload_n 1, 1, 1, 0, 0, []),
  (87, .iaload, 1, 0, 0, 0, []),
  (88, .aload_n 0, 1, 0, 0, 0, []),
  (89, .getfield 34, 3, 2, 6, 0, [723]),
  (92, .invokevirtual 171, 3, 999, 4, 9, []),
  (95, .istore_n 3, 1, 3, 0, 0, []),
  (96, .iload_n 3, 1, 3, 0, 0, []),
  (97, .iconst (-1), 1, 4294967295, 0, 0, []),
  (98, .if_icmp .eq 19, 3, 117, 0, 0, []),
  (101, .aload_n 0, 1, 0, 0, 0, []),
  (102, .getfield 12, 3, 2, 0, 0, [713]),
  (105, .iload_n 1, 1, 1, 0, 0, []),
  (106, .aload_n 0, 1, 0, 0, 0, []),
  (107, .getfield 34, 3, 2, 6, 0, [723]),
  (110, .iload_n 3, 1, 3, 0, 0, []),
  (111, .invokevirtual 174, 3, 999, 4, 9, []),
  (114, .ifCond .ne 11, 3, 125, 0, 0, []),
  (117, .aload_n 0, 1, 0, 0, 0, []),
  (118, .getfield 12, 3, 2, 0, 0, [713]),
  (121, .iload_n 1, 1, 1, 0, 0, []),
  (122, .invokevirtual 178, 3, 70, 2, 1, [5, 0, 1232, 448, 261, 449]),
  (125, .iinc 1 1, 3, 1, 1, 0, []),
  (128, .goto (-126), 3, 2, 0, 0, []),
  (131, .return_, 1, 0, 0, 0, [])]
/-- GreyRouteModel.heatNow()I -/
def rx_m12 : List rx_E := [(0, .aload_n 0, 1, 0, 0, 0, []),
  (1, .getfield 90, 3, 12, 26, 0, [1610]),
  (4, .aload_n 0, 1, 0, 0, 0, []),
  (5, .getfield 51, 3, 12, 13, 0, [1597]),
  (8, .iaload, 1, 0, 0, 0, []),
  (9, .ireturn, 1, 0, 0, 0, [])]
/-- GreyRouteModel.runs(IIII)V -/
def rx_m13 : List rx_E := [(0, .aload_n 0, 1, 0, 0, 0, []),
  (1, .iload_n 1, 1, 1, 0, 0, []),
  (2, .aload_n 0, 1, 0, 0, 0, []),
  (3, .getfield 162, 3, 12, 49, 0, [1633]),
  (6, .iload_n 1, 1, 1, 0, 0, []),
  (7, .iaload, 1, 0, 0, 0, []),
  (8, .iload_n 3, 1, 3, 0, 0, []),
  (9, .ior, 1, 0, 0, 0, []),
  (10, .invokevirtual 482, 3, 14, 3, 1, [12, 0, 2117, 2119, 275, 97]),
  (13, .aload_n 0, 1, 0, 0, 0, []),
  (14, .iconst 0, 1, 0, 0, 0, []),
  (15, .putfield 216, 3, 12, 67, 0, [1651]),
  (18, .iconst 0, 1, 0, 0, 0, []),
  (19, .istore 5, 2, 5, 0, 0, []),
  (21, .iload 5, 2, 5, 0, 0, []),
  (23, .aload_n 0, 1, 0, 0, 0, []),
  (24, .getfield 201, 3, 12, 62, 0, [1646]),
  (27, .if_icmp .ge 106, 3, 133, 0, 0, []),
  (30, .iload 5, 2, 5, 0, 0, []),
  (32, .ifCond .le 51, 3, 83, 0, 0, []),
  (35, .aload_n 0, 1, 0, 0, 0, []),
  (36, .dup, 1, 0, 0, 0, []),
  (37, .getfield 216, 3, 12, 67, 0, [1651]),
  (40, .aload_n 0, 1, 0, 0, 0, []),
  (41, .getfield 66, 3, 12, 18, 0, [1602]),
  (44, .bipush 14, 2, 14, 0, 0, []),
  (46, .aload_n 0, 1, 0, 0, 0, []),
  (47, .getfield 51, 3, 12, 13, 0, [1597]),
  (50, .imul, 1, 0, 0, 0, []),
  (51, .aload_n 0, 1, 0, 0, 0, []),
  (52, .aload_n 0, 1, 0, 0, 0, []),
  (53, .getfield 51, 3, 12, 13, 0, [1597]),
  (56, .aload_n 0, 1, 0, 0, 0, []),
  (57, .getfield 204, 3, 12, 63, 0, [1647]),
  (60, .iload 5, 2, 5, 0, 0, []),
  (62, .iconst 1, 1, 1, 0, 0, []),
  (63, .isub, 1, 0, 0, 0, []),
  (64, .iaload, 1, 0, 0, 0, []),
  (65, .aload_n 0, 1, 0, 0, 0, []),
  (66, .getfield 204, 3, 12, 63, 0, [1647]),
  (69, .iload 5, 2, 5, 0, 0, []),
  (71, .iaload, 1, 0, 0, 0, []),
  (72, .invokevirtual 398, 3, 0, 4, 1, [12, 0, 1951, 1953, 275, 73]),
  (75, .iadd, 1, 0, 0, 0, []),
  (76, .iconst 1, 1, 1, 0, 0, []),
  (77, .isub, 1, 0, 0, 0, []),
  (78, .iaload, 1, 0, 0, 0, []),
  (79, .iadd, 1, 0, 0, 0, []),
  (80, .putfield 216, 3, 12, 67, 0, [1651]),
  (83, .aload_n 0, 1, 0, 0, 0, []),
  (84, .getfield 213, 3, 12, 66, 0, [1650]),
  (87, .iload 5, 2, 5, 0, 0, []),
  (89, .aload_n 0, 1, 0, 0, 0, []),
  (90, .getfield 216, 3, 12, 67, 0, [1651]),
  (93, .iastore, 1, 0, 0, 0, []),
  (94, .aload_n 0, 1, 0, 0, 0, []),
  (95, .getfield 210, 3, 12, 65, 0, [1649]),
  (98, .iload 5, 2, 5, 0, 0, []),
  (100, .aload_n 0, 1, 0, 0, 0, []),
  (101, .iload_n 1, 1, 1, 0, 0, []),
  (102, .iload 5, 2, 5, 0, 0, []),
  (104, .iload_n 2, 1, 2, 0, 0, []),
  (105, .iload 4, 2, 4, 0, 0, []),
  (107, .invokevirtual 485, 3, 999, 5, 9, []),
  (110, .iastore, 1, 0, 0, 0, []),
  (111, .aload_n 0, 1, 0, 0, 0, []),
  (112, .dup, 1, 0, 0, 0, []),
  (113, .getfield 216, 3, 12, 67, 0, [1651]),
  (116, .aload_n 0, 1, 0, 0, 0, []),
  (117, .getfield 210, 3, 12, 65, 0, [1649]),
  (120, .iload 5, 2, 5, 0, 0, []),
  (122, .iaload, 1, 0, 0, 0, []),
  (123, .iadd, 1, 0, 0, 0, []),
  (124, .putfield 216, 3, 12, 67, 0, [1651]),
  (127, .iinc 5 1, 3, 5, 1, 0, []),
  (130, .goto (-109), 3, 21, 0, 0, []),
  (133, .return_, 1, 0, 0, 0, [])]
/-- GreyRouteModel.walks(II)V -/
def rx_m14 : List rx_E := [(0, .aload_n 0, 1, 0, 0, 0, []),
  (1, .iload_n 2, 1, 2, 0, 0, []),
  (2, .invokevirtual 461, 3, 15, 2, 1, [12, 0, 2092, 2094, 275, 94]),
  (5, .aload_n 0, 1, 0, 0, 0, []),
  (6, .iconst 0, 1, 0, 0, 0, []),
  (7, .putfield 201, 3, 12, 62, 0, [1646]),
  (10, .iconst 0, 1, 0, 0, 0, []),
  (11, .istore_n 3, 1, 3, 0, 0, []),
  (12, .iload_n 3, 1, 3, 0, 0, []),
  (13, .aload_n 0, 1, 0, 0, 0, []),
  (14, .getfield 168, 3, 12, 51, 0, [1635]),
  (17, .iload_n 1, 1, 1, 0, 0, []),
  (18, .iaload, 1, 0, 0, 0, []),
  (19, .if_icmp .ge 196, 3, 215, 0, 0, []),
  (22, .aload_n 0, 1, 0, 0, 0, []),
  (23, .getfield 171, 3, 12, 52, 0, [1636]),
  (26, .bipush 30, 2, 30, 0, 0, []),
  (28, .iload_n 1, 1, 1, 0, 0, []),
  (29, .imul, 1, 0, 0, 0, []),
  (30, .iload_n 3, 1, 3, 0, 0, []),
  (31, .iadd, 1, 0, 0, 0, []),
  (32, .iaload, 1, 0, 0, 0, []),
  (33, .istore 4, 2, 4, 0, 0, []),
  (35, .iload_n 3, 1, 3, 0, 0, []),
  (36, .ifCond .le 156, 3, 192, 0, 0, []),
  (39, .aload_n 0, 1, 0, 0, 0, []),
  (40, .getfield 204, 3, 12, 63, 0, [1647]),
  (43, .aload_n 0, 1, 0, 0, 0, []),
  (44, .getfield 201, 3, 12, 62, 0, [1646]),
  (47, .iconst 1, 1, 1, 0, 0, []),
  (48, .isub, 1, 0, 0, 0, []),
  (49, .iaload, 1, 0, 0, 0, []),
  (50, .istore 5, 2, 5, 0, 0, []),
  (52, .aload_n 0, 1, 0, 0, 0, []),
  (53, .getfield 198, 3, 12, 61, 0, [1645]),
  (56, .bipush 8, 2, 8, 0, 0, []),
  (58, .iload 5, 2, 5, 0, 0, []),
  (60, .imul, 1, 0, 0, 0, []),
  (61, .iload 4, 2, 4, 0, 0, []),
  (63, .iadd, 1, 0, 0, 0, []),
  (64, .iaload, 1, 0, 0, 0, []),
  (65, .ldc_w 460, 3, 100000000, 0, 0, [2096]),
  (68, .if_icmp .lt 4, 3, 72, 0, 0, []),
  (71, .return_, 1, 0, 0, 0, []),
  (72, .iload_n 2, 1, 2, 0, 0, []),
  (73, .aload_n 0, 1, 0, 0, 0, []),
  (74, .aload_n 0, 1, 0, 0, 0, []),
  (75, .getfield 51, 3, 12, 13, 0, [1597]),
  (78, .iload 5, 2, 5, 0, 0, []),
  (80, .iload 4, 2, 4, 0, 0, []),
  (82, .invokevirtual 398, 3, 0, 4, 1, [12, 0, 1951, 1953, 275, 73]),
  (85, .iconst 1, 1, 1, 0, 0, []),
  (86, .isub, 1, 0, 0, 0, []),
  (87, .invokestatic 379, 3, 999, 2, 9, []),
  (90, .ifCond .eq 102, 3, 192, 0, 0, []),
  (93, .iconst 0, 1, 0, 0, 0, []),
  (94, .istore 6, 2, 6, 0, 0, []),
  (96, .aload_n 0, 1, 0, 0, 0, []),
  (97, .iload 5, 2, 5, 0, 0, []),
  (99, .iload 4, 2, 4, 0, 0, []),
  (101, .iload_n 2, 1, 2, 0, 0, []),
  (102, .invokevirtual 464, 3, 999, 4, 9, []),
  (105, .istore 7, 2, 7, 0, 0, []),
  (107, .iload 7, 2, 7, 0, 0, []),
  (109, .iload 4, 2, 4, 0, 0, []),
  (111, .if_icmp .eq 20, 3, 131, 0, 0, []),
  (114, .iinc 6 1, 3, 6, 1, 0, []),
  (117, .aload_n 0, 1, 0, 0, 0, []),
  (118, .iload 7, 2, 7, 0, 0, []),
  (120, .iload 4, 2, 4, 0, 0, []),
  (122, .iload_n 2, 1, 2, 0, 0, []),
  (123, .invokevirtual 464, 3, 999, 4, 9, []),
  (126, .istore 7, 2, 7, 0, 0, []),
  (128, .goto (-21), 3, 107, 0, 0, []),
  (131, .aload_n 0, 1, 0, 0, 0, []),
  (132, .getfield 201, 3, 12, 62, 0, [1646]),
  (135, .iload 6, 2, 6, 0, 0, []),
  (137, .iadd, 1, 0, 0, 0, []),
  (138, .aload_n 0, 1, 0, 0, 0, []),
  (139, .getfield 168, 3, 12, 51, 0, [1635]),
  (142, .iload_n 1, 1, 1, 0, 0, []),
  (143, .iaload, 1, 0, 0, 0, []),
  (144, .iadd, 1, 0, 0, 0, []),
  (145, .iload_n 3, 1, 3, 0, 0, []),
  (146, .isub, 1, 0, 0, 0, []),
  (147, .bipush 30, 2, 30, 0, 0, []),
  (149, .if_icmp .le 4, 3, 153, 0, 0, []),
  (152, .return_, 1, 0, 0, 0, []),
  (153, .aload_n 0, 1, 0, 0, 0, []),
  (154, .iload 5, 2, 5, 0, 0, []),
  (156, .iload 4, 2, 4, 0, 0, []),
  (158, .iload_n 2, 1, 2, 0, 0, []),
  (159, .invokevirtual 464, 3, 999, 4, 9, []),
  (162, .istore 7, 2, 7, 0, 0, []),
  (164, .iload 7, 2, 7, 0, 0, []),
  (166, .iload 4, 2, 4, 0, 0, []),
  (168, .if_icmp .eq 24, 3, 192, 0, 0, []),
  (171, .aload_n 0, 1, 0, 0, 0, []),
  (172, .iload 7, 2, 7, 0, 0, []),
  (174, .iconst 0, 1, 0, 0, 0, []),
  (175, .invokevirtual 467, 3, 999, 3, 9, []),
  (178, .aload_n 0, 1, 0, 0, 0, []),
  (179, .iload 7, 2, 7, 0, 0, []),
  (181, .iload 4, 2, 4, 0, 0, []),
  (183, .iload_n 2, 1, 2, 0, 0, []),
  (184, .invokevirtual 464, 3, 999, 4, 9, []),
  (187, .istore 7, 2, 7, 0, 0, []),
  (189, .goto (-25), 3, 164, 0, 0, []),
  (192, .aload_n 0, 1, 0, 0, 0, []),
  (193, .iload 4, 2, 4, 0, 0, []),
  (195, .aload_n 0, 1, 0, 0, 0, []),
  (196, .getfield 174, 3, 12, 53, 0, [1637]),
  (199, .bipush 30, 2, 30, 0, 0, []),
  (201, .iload_n 1, 1, 1, 0, 0, []),
  (202, .imul, 1, 0, 0, 0, []),
  (203, .iload_n 3, 1, 3, 0, 0, []),
  (204, .iadd, 1, 0, 0, 0, []),
  (205, .iaload, 1, 0, 0, 0, []),
  (206, .invokevirtual 467, 3, 999, 3, 9, []),
  (209, .iinc 3 1, 3, 3, 1, 0, []),
  (212, .goto (-200), 3, 12, 0, 0, []),
  (215, .return_, 1, 0, 0, 0, [])]
/-- GreyRouteModel.measures(I)V -/
def rx_m15 : List rx_E := [(0, .iconst 0, 1, 0, 0, 0, []),
  (1, .istore_n 2, 1, 2, 0, 0, []),
  (2, .iload_n 2, 1, 2, 0, 0, []),
  (3, .bipush 8, 2, 8, 0, 0, []),
  (5, .if_icmp .ge 94, 3, 99, 0, 0, []),
  (8, .iconst 0, 1, 0, 0, 0, []),
  (9, .istore_n 3, 1, 3, 0, 0, []),
  (10, .iload_n 3, 1, 3, 0, 0, []),
  (11, .bipush 8, 2, 8, 0, 0, []),
  (13, .if_icmp .ge 80, 3, 93, 0, 0, []),
  (16, .aload_n 0, 1, 0, 0, 0, []),
  (17, .aload_n 0, 1, 0, 0, 0, []),
  (18, .getfield 51, 3, 12, 13, 0, [1597]),
  (21, .iload_n 2, 1, 2, 0, 0, []),
  (22, .iload_n 3, 1, 3, 0, 0, []),
  (23, .invokevirtual 398, 3, 0, 4, 1, [12, 0, 1951, 1953, 275, 73]),
  (26, .istore 4, 2, 4, 0, 0, []),
  (28, .aload_n 0, 1, 0, 0, 0, []),
  (29, .getfield 198, 3, 12, 61, 0, [1645]),
  (32, .bipush 8, 2, 8, 0, 0, []),
  (34, .iload_n 2, 1, 2, 0, 0, []),
  (35, .imul, 1, 0, 0, 0, []),
  (36, .iload_n 3, 1, 3, 0, 0, []),
  (37, .iadd, 1, 0, 0, 0, []),
  (38, .iload_n 2, 1, 2, 0, 0, []),
  (39, .iload_n 3, 1, 3, 0, 0, []),
  (40, .if_icmp .ne 7, 3, 47, 0, 0, []),
  (43, .iconst 0, 1, 0, 0, 0, []),
  (44, .goto 42, 3, 86, 0, 0, []),
  (47, .iload 4, 2, 4, 0, 0, []),
  (49, .ifCond .le 34, 3, 83, 0, 0, []),
  (52, .iload_n 1, 1, 1, 0, 0, []),
  (53, .iload 4, 2, 4, 0, 0, []),
  (55, .iconst 1, 1, 1, 0, 0, []),
  (56, .isub, 1, 0, 0, 0, []),
  (57, .invokestatic 379, 3, 999, 2, 9, []),
  (60, .ifCond .ne 23, 3, 83, 0, 0, []),
  (63, .aload_n 0, 1, 0, 0, 0, []),
  (64, .getfield 66, 3, 12, 18, 0, [1602]),
  (67, .bipush 14, 2, 14, 0, 0, []),
  (69, .aload_n 0, 1, 0, 0, 0, []),
  (70, .getfield 51, 3, 12, 13, 0, [1597]),
  (73, .imul, 1, 0, 0, 0, []),
  (74, .iload 4, 2, 4, 0, 0, []),
  (76, .iadd, 1, 0, 0, 0, []),
  (77, .iconst 1, 1, 1, 0, 0, []),
  (78, .isub, 1, 0, 0, 0, []),
  (79, .iaload, 1, 0, 0, 0, []),
  (80, .goto 6, 3, 86, 0, 0, []),
  (83, .ldc_w 460, 3, 100000000, 0, 0, [2096]),
  (86, .iastore, 1, 0, 0, 0, []),
  (87, .iinc 3 1, 3, 3, 1, 0, []),
  (90, .goto (-80), 3, 10, 0, 0, []),
  (93, .iinc 2 1, 3, 2, 1, 0, []),
  (96, .goto (-94), 3, 2, 0, 0, []),
  (99, .iconst 0, 1, 0, 0, 0, []),
  (100, .istore_n 2, 1, 2, 0, 0, []),
  (101, .iload_n 2, 1, 2, 0, 0, []),
  (102, .bipush 8, 2, 8, 0, 0, []),
  (104, .if_icmp .ge 96, 3, 200, 0, 0, []),
  (107, .iconst 0, 1, 0, 0, 0, []),
  (108, .istore_n 3, 1, 3, 0, 0, []),
  (109, .iload_n 3, 1, 3, 0, 0, []),
  (110, .bipush 8, 2, 8, 0, 0, []),
  (112, .if_icmp .ge 82, 3, 194, 0, 0, []),
  (115, .iconst 0, 1, 0, 0, 0, []),
  (116, .istore 4, 2, 4, 0, 0, []),
  (118, .iload 4, 2, 4, 0, 0, []),
  (120, .bipush 8, 2, 8, 0, 0, []),
  (122, .if_icmp .ge 66, 3, 188, 0, 0, []),
  (125, .aload_n 0, 1, 0, 0, 0, []),
  (126, .getfield 198, 3, 12, 61, 0, [1645]),
  (129, .bipush 8, 2, 8, 0, 0, []),
  (131, .iload_n 3, 1, 3, 0, 0, []),
  (132, .imul, 1, 0, 0, 0, []),
  (133, .iload_n 2, 1, 2, 0, 0, []),
  (134, .iadd, 1, 0, 0, 0, []),
  (135, .iaload, 1, 0, 0, 0, []),
  (136, .aload_n 0, 1, 0, 0, 0, []),
  (137, .getfield 198, 3, 12, 61, 0, [1645]),
  (140, .bipush 8, 2, 8, 0, 0, []),
  (142, .iload_n 2, 1, 2, 0, 0, []),
  (143, .imul, 1, 0, 0, 0, []),
  (144, .iload 4, 2, 4, 0, 0, []),
  (146, .iadd, 1, 0, 0, 0, []),
  (147, .iaload, 1, 0, 0, 0, []),
  (148, .iadd, 1, 0, 0, 0, []),
  (149, .istore 5, 2, 5, 0, 0, []),
  (151, .iload 5, 2, 5, 0, 0, []),
  (153, .aload_n 0, 1, 0, 0, 0, []),
  (154, .getfield 198, 3, 12, 61, 0, [1645]),
  (157, .bipush 8, 2, 8, 0, 0, []),
  (159, .iload_n 3, 1, 3, 0, 0, []),
  (160, .imul, 1, 0, 0, 0, []),
  (161, .iload 4, 2, 4, 0, 0, []),
  (163, .iadd, 1, 0, 0, 0, []),
  (164, .iaload, 1, 0, 0, 0, []),
  (165, .if_icmp .ge 17, 3, 182, 0, 0, []),
  (168, .aload_n 0, 1, 0, 0, 0, []),
  (169, .getfield 198, 3, 12, 61, 0, [1645]),
  (172, .bipush 8, 2, 8, 0, 0, []),
  (174, .iload_n 3, 1, 3, 0, 0, []),
  (175, .imul, 1, 0, 0, 0, []),
  (176, .iload 4, 2, 4, 0, 0, []),
  (178, .iadd, 1, 0, 0, 0, []),
  (179, .iload 5, 2, 5, 0, 0, []),
  (181, .iastore, 1, 0, 0, 0, []),
  (182, .iinc 4 1, 3, 4, 1, 0, []),
  (185, .goto (-67), 3, 118, 0, 0, []),
  (188, .iinc 3 1, 3, 3, 1, 0, []),
  (191, .goto (-82), 3, 109, 0, 0, []),
  (194, .iinc 2 1, 3, 2, 1, 0, []),
  (197, .goto (-96), 3, 101, 0, 0, []),
  (200, .return_, 1, 0, 0, 0, [])]
/-- java/lang/Math.min(II)I -/
def rx_m16 : List rx_E := [(0, .iload_n 0, 1, 0, 0, 0, []),
  (1, .iload_n 1, 1, 1, 0, 0, []),
  (2, .if_icmp .gt 7, 3, 9, 0, 0, []),
  (5, .iload_n 0, 1, 0, 0, 0, []),
  (6, .goto 4, 3, 10, 0, 0, []),
  (9, .iload_n 1, 1, 1, 0, 0, []),
  (10, .ireturn, 1, 0, 0, 0, [])]
/-- GreyRoute$Pageant.pass()V -/
def rx_m17 : List rx_E := [(0, .aload_n 0, 1, 0, 0, 0, []),
  (1, .getfield 70, 3, 2, 10, 0, [728]),
  (4, .invokevirtual 135, 3, 18, 1, 1, [8, 0, 1343, 1082, 264, 1083]),
  (7, .ifCond .eq 80, 3, 87, 0, 0, []),
  (10, .aload_n 0, 1, 0, 0, 0, []),
  (11, .getfield 50, 3, 2, 9, 0, [727]),
  (14, .getfield 115, 3, 7, 1, 0, [707]),
  (17, .bipush 16, 2, 16, 0, 0, []),
  (19, .aload_n 0, 1, 0, 0, 0, []),
  (20, .getfield 12, 3, 2, 0, 0, [713]),
  (23, .getfield 118, 3, 5, 2, 0, [330]),
  (26, .iastore, 1, 0, 0, 0, []),
  (27, .aload_n 0, 1, 0, 0, 0, []),
  (28, .getfield 50, 3, 2, 9, 0, [727]),
  (31, .getfield 115, 3, 7, 1, 0, [707]),
  (34, .bipush 17, 2, 17, 0, 0, []),
  (36, .aload_n 0, 1, 0, 0, 0, []),
  (37, .getfield 61, 3, 2, 13, 0, [732]),
  (40, .iastore, 1, 0, 0, 0, []),
  (41, .aload_n 0, 1, 0, 0, 0, []),
  (42, .getfield 50, 3, 2, 9, 0, [727]),
  (45, .getfield 115, 3, 7, 1, 0, [707]),
  (48, .bipush 18, 2, 18, 0, 0, []),
  (50, .aload_n 0, 1, 0, 0, 0, []),
  (51, .getfield 67, 3, 2, 15, 0, [737]),
  (54, .iastore, 1, 0, 0, 0, []),
  (55, .aload_n 0, 1, 0, 0, 0, []),
  (56, .getfield 50, 3, 2, 9, 0, [727]),
  (59, .aload_n 0, 1, 0, 0, 0, []),
  (60, .getfield 70, 3, 2, 10, 0, [728]),
  (63, .getfield 139, 3, 8, 15, 0, [515]),
  (66, .aload_n 0, 1, 0, 0, 0, []),
  (67, .getfield 70, 3, 2, 10, 0, [728]),
  (70, .getfield 142, 3, 8, 18, 0, [522]),
  (73, .invokevirtual 145, 3, 999, 3, 9, []),
  (76, .iconst 1, 1, 1, 0, 0, []),
  (77, .if_icmp .ne 10, 3, 87, 0, 0, []),
  (80, .aload_n 0, 1, 0, 0, 0, []),
  (81, .getfield 12, 3, 2, 0, 0, [713]),
  (84, .invokevirtual 149, 3, 999, 1, 9, []),
  (87, .aload_n 0, 1, 0, 0, 0, []),
  (88, .sipush 999, 3, 999, 0, 0, []),
  (91, .aload_n 0, 1, 0, 0, 0, []),
  (92, .getfield 58, 3, 2, 12, 0, [730]),
  (95, .iconst 1, 1, 1, 0, 0, []),
  (96, .iadd, 1, 0, 0, 0, []),
  (97, .invokestatic 152, 3, 16, 2, 0, [0, 0, 1293, 1132, 259]),
  (100, .putfield 58, 3, 2, 12, 0, [730]),
  (103, .return_, 1, 0, 0, 0, [])]
/-- GreyRoute$Town.hasClever()Z -/
def rx_m18 : List rx_E := [(0, .aload_n 0, 1, 0, 0, 0, []),
  (1, .getfield 71, 3, 8, 18, 0, [521]),
  (4, .iconst (-1), 1, 4294967295, 0, 0, []),
  (5, .if_icmp .eq 7, 3, 12, 0, 0, []),
  (8, .iconst 1, 1, 1, 0, 0, []),
  (9, .goto 4, 3, 13, 0, 0, []),
  (12, .iconst 0, 1, 0, 0, 0, []),
  (13, .ireturn, 1, 0, 0, 0, [])]
/-- GreyRouteModel.passes(II)V -/
def rx_m19 : List rx_E := [(0, .aload_n 0, 1, 0, 0, 0, []),
  (1, .iload_n 1, 1, 1, 0, 0, []),
  (2, .iload_n 2, 1, 2, 0, 0, []),
  (3, .iconst 0, 1, 0, 0, 0, []),
  (4, .iconst 0, 1, 0, 0, 0, []),
  (5, .invokevirtual 493, 3, 13, 5, 1, [12, 0, 2113, 2115, 275, 96]),
  (8, .aload_n 0, 1, 0, 0, 0, []),
  (9, .iload_n 1, 1, 1, 0, 0, []),
  (10, .invokevirtual 497, 3, 20, 2, 1, [12, 0, 2201, 2203, 275, 109]),
  (13, .aload_n 0, 1, 0, 0, 0, []),
  (14, .iload_n 1, 1, 1, 0, 0, []),
  (15, .iload_n 2, 1, 2, 0, 0, []),
  (16, .invokevirtual 500, 3, 21, 3, 1, [12, 0, 2205, 2207, 275, 110]),
  (19, .ifCond .eq 7, 3, 26, 0, 0, []),
  (22, .aload_n 0, 1, 0, 0, 0, []),
  (23, .invokevirtual 502, 3, 999, 1, 9, []),
  (26, .aload_n 0, 1, 0, 0, 0, []),
  (27, .getfield 168, 3, 12, 51, 0, [1635]),
  (30, .iload_n 1, 1, 1, 0, 0, []),
  (31, .aload_n 0, 1, 0, 0, 0, []),
  (32, .getfield 201, 3, 12, 62, 0, [1646]),
  (35, .iastore, 1, 0, 0, 0, []),
  (36, .iconst 0, 1, 0, 0, 0, []),
  (37, .istore_n 3, 1, 3, 0, 0, []),
  (38, .iload_n 3, 1, 3, 0, 0, []),
  (39, .aload_n 0, 1, 0, 0, 0, []),
  (40, .getfield 201, 3, 12, 62, 0, [1646]),
  (43, .if_icmp .ge 43, 3, 86, 0, 0, []),
  (46, .aload_n 0, 1, 0, 0, 0, []),
  (47, .getfield 171, 3, 12, 52, 0, [1636]),
  (50, .bipush 30, 2, 30, 0, 0, []),
  (52, .iload_n 1, 1, 1, 0, 0, []),
  (53, .imul, 1, 0, 0, 0, []),
  (54, .iload_n 3, 1, 3, 0, 0, []),
  (55, .iadd, 1, 0, 0, 0, []),
  (56, .aload_n 0, 1, 0, 0, 0, []),
  (57, .getfield 204, 3, 12, 63, 0, [1647]),
  (60, .iload_n 3, 1, 3, 0, 0, []),
  (61, .iaload, 1, 0, 0, 0, []),
  (62, .iastore, 1, 0, 0, 0, []),
  (63, .aload_n 0, 1, 0, 0, 0, []),
  (64, .getfield 174, 3, 12, 53, 0, [1637]),
  (67, .bipush 30, 2, 30, 0, 0, []),
  (69, .iload_n 1, 1, 1, 0, 0, []),
  (70, .imul, 1, 0, 0, 0, []),
  (71, .iload_n 3, 1, 3, 0, 0, []),
  (72, .iadd, 1, 0, 0, 0, []),
  (73, .aload_n 0, 1, 0, 0, 0, []),
  (74, .getfield 207, 3, 12, 64, 0, [1648]),
  (77, .iload_n 3, 1, 3, 0, 0, []),
  (78, .iaload, 1, 0, 0, 0, []),
  (79, .iastore, 1, 0, 0, 0, []),
  (80, .iinc 3 1, 3, 3, 1, 0, []),
  (83, .goto (-45), 3, 38, 0, 0, []),
  (86, .aload_n 0, 1, 0, 0, 0, []),
  (87, .getfield 159, 3, 12, 48, 0, [1632]),
  (90, .iload_n 1, 1, 1, 0, 0, []),
  (91, .dup2, 1, 0, 0, 0, []),
  (92, .iaload, 1, 0, 0, 0, []),
  (93, .iconst 1, 1, 1, 0, 0, []),
  (94, .iadd, 1, 0, 0, 0, []),
  (95, .iastore, 1, 0, 0, 0, []),
  (96, .return_, 1, 0, 0, 0, [])]
/-- GreyRouteModel.writesDown(I)V -/
def rx_m20 : List rx_E := [(0, .aload_n 0, 1, 0, 0, 0, []),
  (1, .getfield 177, 3, 12, 54, 0, [1638]),
  (4, .iload_n 1, 1, 1, 0, 0, []),
  (5, .iaload, 1, 0, 0, 0, []),
  (6, .bipush 40, 2, 40, 0, 0, []),
  (8, .if_icmp .ne 51, 3, 59, 0, 0, []),
  (11, .bipush 120, 2, 120, 0, 0, []),
  (13, .iload_n 1, 1, 1, 0, 0, []),
  (14, .imul, 1, 0, 0, 0, []),
  (15, .istore_n 2, 1, 2, 0, 0, []),
  (16, .iload_n 2, 1, 2, 0, 0, []),
  (17, .bipush 120, 2, 120, 0, 0, []),
  (19, .iload_n 1, 1, 1, 0, 0, []),
  (20, .imul, 1, 0, 0, 0, []),
  (21, .bipush 120, 2, 120, 0, 0, []),
  (23, .iadd, 1, 0, 0, 0, []),
  (24, .iconst 3, 1, 3, 0, 0, []),
  (25, .isub, 1, 0, 0, 0, []),
  (26, .if_icmp .ge 23, 3, 49, 0, 0, []),
  (29, .aload_n 0, 1, 0, 0, 0, []),
  (30, .getfield 180, 3, 12, 55, 0, [1639]),
  (33, .iload_n 2, 1, 2, 0, 0, []),
  (34, .aload_n 0, 1, 0, 0, 0, []),
  (35, .getfield 180, 3, 12, 55, 0, [1639]),
  (38, .iload_n 2, 1, 2, 0, 0, []),
  (39, .iconst 3, 1, 3, 0, 0, []),
  (40, .iadd, 1, 0, 0, 0, []),
  (41, .iaload, 1, 0, 0, 0, []),
  (42, .iastore, 1, 0, 0, 0, []),
  (43, .iinc 2 1, 3, 2, 1, 0, []),
  (46, .goto (-30), 3, 16, 0, 0, []),
  (49, .aload_n 0, 1, 0, 0, 0, []),
  (50, .getfield 177, 3, 12, 54, 0, [1638]),
  (53, .iload_n 1, 1, 1, 0, 0, []),
  (54, .dup2, 1, 0, 0, 0, []),
  (55, .iaload, 1, 0, 0, 0, []),
  (56, .iconst 1, 1, 1, 0, 0, []),
  (57, .isub, 1, 0, 0, 0, []),
  (58, .iastore, 1, 0, 0, 0, []),
  (59, .iconst 3, 1, 3, 0, 0, []),
  (60, .bipush 40, 2, 40, 0, 0, []),
  (62, .iload_n 1, 1, 1, 0, 0, []),
  (63, .imul, 1, 0, 0, 0, []),
  (64, .aload_n 0, 1, 0, 0, 0, []),
  (65, .getfield 177, 3, 12, 54, 0, [1638]),
  (68, .iload_n 1, 1, 1, 0, 0, []),
  (69, .iaload, 1, 0, 0, 0, []),
  (70, .iadd, 1, 0, 0, 0, []),
  (71, .imul, 1, 0, 0, 0, []),
  (72, .istore_n 2, 1, 2, 0, 0, []),
  (73, .aload_n 0, 1, 0, 0, 0, []),
  (74, .getfield 180, 3, 12, 55, 0, [1639]),
  (77, .iload_n 2, 1, 2, 0, 0, []),
  (78, .aload_n 0, 1, 0, 0, 0, []),
  (79, .getfield 159, 3, 12, 48, 0, [1632]),
  (82, .iload_n 1, 1, 1, 0, 0, []),
  (83, .iaload, 1, 0, 0, 0, []),
  (84, .iastore, 1, 0, 0, 0, []),
  (85, .aload_n 0, 1, 0, 0, 0, []),
  (86, .getfield 180, 3, 12, 55, 0, [1639]),
  (89, .iload_n 2, 1, 2, 0, 0, []),
  (90, .iconst 1, 1, 1, 0, 0, []),
  (91, .iadd, 1, 0, 0, 0, []),
  (92, .aload_n 0, 1, 0, 0, 0, []),
  (93, .getfield 201, 3, 12, 62, 0, [1646]),
  (96, .iastore, 1, 0, 0, 0, []),
  (97, .aload_n 0, 1, 0, 0, 0, []),
  (98, .getfield 180, 3, 12, 55, 0, [1639]),
  (101, .iload_n 2, 1, 2, 0, 0, []),
  (102, .iconst 2, 1, 2, 0, 0, []),
  (103, .iadd, 1, 0, 0, 0, []),
  (104, .aload_n 0, 1, 0, 0, 0, []),
  (105, .getfield 216, 3, 12, 67, 0, [1651]),
  (108, .iastore, 1, 0, 0, 0, []),
  (109, .aload_n 0, 1, 0, 0, 0, []),
  (110, .getfield 177, 3, 12, 54, 0, [1638]),
  (113, .iload_n 1, 1, 1, 0, 0, []),
  (114, .dup2, 1, 0, 0, 0, []),
  (115, .iaload, 1, 0, 0, 0, []),
  (116, .iconst 1, 1, 1, 0, 0, []),
  (117, .iadd, 1, 0, 0, 0, []),
  (118, .iastore, 1, 0, 0, 0, []),
  (119, .return_, 1, 0, 0, 0, [])]
/-- GreyRouteModel.isClever(II)Z -/
def rx_m21 : List rx_E := [(0, .aload_n 0, 1, 0, 0, 0, []),
  (1, .iconst 1, 1, 1, 0, 0, []),
  (2, .invokevirtual 470, 3, 22, 2, 1, [12, 0, 2133, 2135, 275, 101]),
  (5, .ifCond .ne 5, 3, 10, 0, 0, []),
  (8, .iconst 0, 1, 0, 0, 0, []),
  (9, .ireturn, 1, 0, 0, 0, []),
  (10, .aload_n 0, 1, 0, 0, 0, []),
  (11, .getfield 195, 3, 12, 60, 0, [1644]),
  (14, .iconst 1, 1, 1, 0, 0, []),
  (15, .iload_n 2, 1, 2, 0, 0, []),
  (16, .iastore, 1, 0, 0, 0, []),
  (17, .aload_n 0, 1, 0, 0, 0, []),
  (18, .getfield 195, 3, 12, 60, 0, [1644]),
  (21, .iconst 2, 1, 2, 0, 0, []),
  (22, .aload_n 0, 1, 0, 0, 0, []),
  (23, .getfield 159, 3, 12, 48, 0, [1632]),
  (26, .iload_n 1, 1, 1, 0, 0, []),
  (27, .iaload, 1, 0, 0, 0, []),
  (28, .iastore, 1, 0, 0, 0, []),
  (29, .aload_n 0, 1, 0, 0, 0, []),
  (30, .getfield 195, 3, 12, 60, 0, [1644]),
  (33, .bipush 7, 2, 7, 0, 0, []),
  (35, .aload_n 0, 1, 0, 0, 0, []),
  (36, .getfield 201, 3, 12, 62, 0, [1646]),
  (39, .iastore, 1, 0, 0, 0, []),
  (40, .aload_n 0, 1, 0, 0, 0, []),
  (41, .getfield 195, 3, 12, 60, 0, [1644]),
  (44, .bipush 8, 2, 8, 0, 0, []),
  (46, .aload_n 0, 1, 0, 0, 0, []),
  (47, .getfield 216, 3, 12, 67, 0, [1651]),
  (50, .iastore, 1, 0, 0, 0, []),
  (51, .aload_n 0, 1, 0, 0, 0, []),
  (52, .getfield 195, 3, 12, 60, 0, [1644]),
  (55, .bipush 9, 2, 9, 0, 0, []),
  (57, .aload_n 0, 1, 0, 0, 0, []),
  (58, .invokevirtual 489, 3, 152, 1, 1, [12, 0, 2157, 2159, 275, 104]),
  (61, .iastore, 1, 0, 0, 0, []),
  (62, .aload_n 0, 1, 0, 0, 0, []),
  (63, .iconst 1, 1, 1, 0, 0, []),
  (64, .invokevirtual 476, 3, 999, 2, 9, []),
  (67, .lconst 1, 1, 1, 0, 0, []),
  (68, .lcmp, 1, 0, 0, 0, []),
  (69, .ifCond .ne 7, 3, 76, 0, 0, []),
  (72, .iconst 1, 1, 1, 0, 0, []),
  (73, .goto 4, 3, 77, 0, 0, []),
  (76, .iconst 0, 1, 0, 0, 0, []),
  (77, .ireturn, 1, 0, 0, 0, [])]
/-- GreyRouteModel.isTold(I)Z -/
def rx_m22 : List rx_E := [(0, .aload_n 0, 1, 0, 0, 0, []),
  (1, .getfield 96, 3, 12, 28, 0, [1612]),
  (4, .iconst 2, 1, 2, 0, 0, []),
  (5, .aload_n 0, 1, 0, 0, 0, []),
  (6, .getfield 51, 3, 12, 13, 0, [1597]),
  (9, .imul, 1, 0, 0, 0, []),
  (10, .iload_n 1, 1, 1, 0, 0, []),
  (11, .iadd, 1, 0, 0, 0, []),
  (12, .iaload, 1, 0, 0, 0, []),
  (13, .iconst (-1), 1, 4294967295, 0, 0, []),
  (14, .if_icmp .eq 7, 3, 21, 0, 0, []),
  (17, .iconst 1, 1, 1, 0, 0, []),
  (18, .goto 4, 3, 22, 0, 0, []),
  (21, .iconst 0, 1, 0, 0, 0, []),
  (22, .ireturn, 1, 0, 0, 0, [])]
/-- java/util/Arrays.fill([II)V -/
def rx_m23 : List rx_E := [(0, .iconst 0, 1, 0, 0, 0, []),
  (1, .istore_n 2, 1, 2, 0, 0, []),
  (2, .aload_n 0, 1, 0, 0, 0, []),
  (3, .arraylength, 1, 0, 0, 0, []),
  (4, .istore_n 3, 1, 3, 0, 0, []),
  (5, .iload_n 2, 1, 2, 0, 0, []),
  (6, .iload_n 3, 1, 3, 0, 0, []),
  (7, .if_icmp .ge 13, 3, 20, 0, 0, []),
  (10, .aload_n 0, 1, 0, 0, 0, []),
  (11, .iload_n 2, 1, 2, 0, 0, []),
  (12, .iload_n 1, 1, 1, 0, 0, []),
  (13, .iastore, 1, 0, 0, 0, []),
  (14, .iinc 2 1, 3, 2, 1, 0, []),
  (17, .goto (-12), 3, 5, 0, 0, []),
  (20, .return_, 1, 0, 0, 0, [])]
/-- GreyRoute.filling(II)I -/
def rx_m24 : List rx_E := [(0, .iload_n 1, 1, 1, 0, 0, []),
  (1, .iconst 1, 1, 1, 0, 0, []),
  (2, .if_icmp .lt 18, 3, 20, 0, 0, []),
  (5, .iload_n 1, 1, 1, 0, 0, []),
  (6, .bipush 20, 2, 20, 0, 0, []),
  (8, .if_icmp .gt 12, 3, 20, 0, 0, []),
  (11, .iload_n 2, 1, 2, 0, 0, []),
  (12, .ifCond .lt 8, 3, 20, 0, 0, []),
  (15, .iload_n 2, 1, 2, 0, 0, []),
  (16, .iload_n 1, 1, 1, 0, 0, []),
  (17, .if_icmp .lt 5, 3, 22, 0, 0, []),
  (20, .iconst (-1), 1, 4294967295, 0, 0, []),
  (21, .ireturn, 1, 0, 0, 0, []),
  (22, .aload_n 0, 1, 0, 0, 0, []),
  (23, .getfield 38, 3, 11, 4, 0, [792]),
  (26, .aload_n 0, 1, 0, 0, 0, []),
  (27, .getfield 49, 3, 11, 8, 0, [796]),
  (30, .iload_n 1, 1, 1, 0, 0, []),
  (31, .iload_n 2, 1, 2, 0, 0, []),
  (32, .invokevirtual 285, 3, 54, 4, 1, [1, 0, 1416, 1417, 263, 1418]),
  (35, .ireturn, 1, 0, 0, 0, [])]
/-- GreyRoute$Half.countRoutes(LGreyRoute$Town;I)J -/
def rx_m25 : List rx_E := [(0, .aload_n 0, 1, 0, 0, 0, []),
  (1, .aload_n 1, 1, 1, 0, 0, []),
  (2, .iload_n 2, 1, 2, 0, 0, []),
  (3, .invokevirtual 70, 3, 26, 3, 1, [1, 0, 1389, 1391, 263, 49]),
  (6, .iload_n 2, 1, 2, 0, 0, []),
  (7, .iconst 1, 1, 1, 0, 0, []),
  (8, .isub, 1, 0, 0, 0, []),
  (9, .istore_n 3, 1, 3, 0, 0, []),
  (10, .iload_n 3, 1, 3, 0, 0, []),
  (11, .ifCond .lt 81, 3, 92, 0, 0, []),
  (14, .iconst 0, 1, 0, 0, 0, []),
  (15, .istore 4, 2, 4, 0, 0, []),
  (17, .iload 4, 2, 4, 0, 0, []),
  (19, .aload_n 1, 1, 1, 0, 0, []),
  (20, .getfield 59, 3, 8, 1, 0, [457]),
  (23, .if_icmp .ge 63, 3, 86, 0, 0, []),
  (26, .iload_n 3, 1, 3, 0, 0, []),
  (27, .iload_n 2, 1, 2, 0, 0, []),
  (28, .iconst 1, 1, 1, 0, 0, []),
  (29, .isub, 1, 0, 0, 0, []),
  (30, .if_icmp .ne 7, 3, 37, 0, 0, []),
  (33, .lconst 1, 1, 1, 0, 0, []),
  (34, .goto 16, 3, 50, 0, 0, []),
  (37, .aload_n 1, 1, 1, 0, 0, []),
  (38, .aload_n 0, 1, 0, 0, 0, []),
  (39, .getfield 21, 3, 1, 3, 0, [406]),
  (42, .iload_n 3, 1, 3, 0, 0, []),
  (43, .iconst 1, 1, 1, 0, 0, []),
  (44, .iadd, 1, 0, 0, 0, []),
  (45, .iload 4, 2, 4, 0, 0, []),
  (47, .invokestatic 74, 3, 999, 4, 9, []),
  (50, .lstore 5, 2, 5, 0, 0, []),
  (52, .aload_n 0, 1, 0, 0, 0, []),
  (53, .getfield 21, 3, 1, 3, 0, [406]),
  (56, .iload_n 3, 1, 3, 0, 0, []),
  (57, .bipush 8, 2, 8, 0, 0, []),
  (59, .imul, 1, 0, 0, 0, []),
  (60, .iload 4, 2, 4, 0, 0, []),
  (62, .iadd, 1, 0, 0, 0, []),
  (63, .aload_n 0, 1, 0, 0, 0, []),
  (64, .iload_n 3, 1, 3, 0, 0, []),
  (65, .iload 4, 2, 4, 0, 0, []),
  (67, .invokevirtual 78, 3, 999, 3, 9, []),
  (70, .ifCond .eq 8, 3, 78, 0, 0, []),
  (73, .lload 5, 2, 5, 0, 0, []),
  (75, .goto 4, 3, 79, 0, 0, []),
  (78, .lconst 0, 1, 0, 0, 0, []),
  (79, .lastore, 1, 0, 0, 0, []),
  (80, .iinc 4 1, 3, 4, 1, 0, []),
  (83, .goto (-66), 3, 17, 0, 0, []),
  (86, .iinc 3 (-1), 3, 3, 4294967295, 0, []),
  (89, .goto (-79), 3, 10, 0, 0, []),
  (92, .aload_n 1, 1, 1, 0, 0, []),
  (93, .aload_n 0, 1, 0, 0, 0, []),
  (94, .getfield 21, 3, 1, 3, 0, [406]),
  (97, .iconst 0, 1, 0, 0, 0, []),
  (98, .invokestatic 82, 3, 34, 3, 0, [0, 0, 1402, 1403, 263]),
  (101, .lreturn, 1, 0, 0, 0, [])]
/-- GreyRoute$Half.openPlaces(LGreyRoute$Town;I)V -/
def rx_m26 : List rx_E := [(0, .aload_n 0, 1, 0, 0, 0, []),
  (1, .getfield 18, 3, 1, 2, 0, [405]),
  (4, .iconst 1, 1, 1, 0, 0, []),
  (5, .aload_n 1, 1, 1, 0, 0, []),
  (6, .getfield 59, 3, 8, 1, 0, [457]),
  (9, .ishl, 1, 0, 0, 0, []),
  (10, .iconst 1, 1, 1, 0, 0, []),
  (11, .isub, 1, 0, 0, 0, []),
  (12, .invokestatic 64, 3, 23, 2, 0, [0, 0, 1393, 445, 265]),
  (15, .iconst 0, 1, 0, 0, 0, []),
  (16, .istore_n 3, 1, 3, 0, 0, []),
  (17, .iload_n 3, 1, 3, 0, 0, []),
  (18, .aload_n 0, 1, 0, 0, 0, []),
  (19, .getfield 28, 3, 1, 5, 0, [408]),
  (22, .if_icmp .ge 63, 3, 85, 0, 0, []),
  (25, .aload_n 0, 1, 0, 0, 0, []),
  (26, .getfield 9, 3, 1, 0, 0, [403]),
  (29, .iload_n 3, 1, 3, 0, 0, []),
  (30, .iaload, 1, 0, 0, 0, []),
  (31, .iload_n 2, 1, 2, 0, 0, []),
  (32, .if_icmp .ge 12, 3, 44, 0, 0, []),
  (35, .aload_n 0, 1, 0, 0, 0, []),
  (36, .getfield 9, 3, 1, 0, 0, [403]),
  (39, .iload_n 3, 1, 3, 0, 0, []),
  (40, .iaload, 1, 0, 0, 0, []),
  (41, .goto 4, 3, 45, 0, 0, []),
  (44, .iconst 0, 1, 0, 0, 0, []),
  (45, .istore 4, 2, 4, 0, 0, []),
  (47, .aload_n 0, 1, 0, 0, 0, []),
  (48, .getfield 18, 3, 1, 2, 0, [405]),
  (51, .iload 4, 2, 4, 0, 0, []),
  (53, .dup2, 1, 0, 0, 0, []),
  (54, .iaload, 1, 0, 0, 0, []),
  (55, .aload_n 0, 1, 0, 0, 0, []),
  (56, .getfield 9, 3, 1, 0, 0, [403]),
  (59, .iload_n 3, 1, 3, 0, 0, []),
  (60, .iaload, 1, 0, 0, 0, []),
  (61, .iload_n 2, 1, 2, 0, 0, []),
  (62, .if_icmp .ge 14, 3, 76, 0, 0, []),
  (65, .iconst 1, 1, 1, 0, 0, []),
  (66, .aload_n 0, 1, 0, 0, 0, []),
  (67, .getfield 15, 3, 1, 1, 0, [404]),
  (70, .iload_n 3, 1, 3, 0, 0, []),
  (71, .iaload, 1, 0, 0, 0, []),
  (72, .ishl, 1, 0, 0, 0, []),
  (73, .goto 4, 3, 77, 0, 0, []),
  (76, .iconst 0, 1, 0, 0, 0, []),
  (77, .iand, 1, 0, 0, 0, []),
  (78, .iastore, 1, 0, 0, 0, []),
  (79, .iinc 3 1, 3, 3, 1, 0, []),
  (82, .goto (-65), 3, 17, 0, 0, []),
  (85, .return_, 1, 0, 0, 0, [])]
/-- GreyRoute.passOneYear(I)V -/
def rx_m27 : List rx_E := [(0, .aload_n 0, 1, 0, 0, 0, []),
  (1, .getfield 85, 3, 11, 7, 0, [795]),
  (4, .iload_n 1, 1, 1, 0, 0, []),
  (5, .invokevirtual 257, 3, 10, 2, 1, [2, 0, 1210, 1211, 272, 1212]),
  (8, .aload_n 0, 1, 0, 0, 0, []),
  (9, .getfield 31, 3, 11, 3, 0, [791]),
  (12, .aload_n 0, 1, 0, 0, 0, []),
  (13, .getfield 24, 3, 11, 2, 0, [790]),
  (16, .aload_n 0, 1, 0, 0, 0, []),
  (17, .getfield 85, 3, 11, 7, 0, [795]),
  (20, .invokevirtual 357, 3, 28, 3, 1, [3, 0, 1461, 1462, 262, 1463]),
  (23, .aload_n 0, 1, 0, 0, 0, []),
  (24, .getfield 85, 3, 11, 7, 0, [795]),
  (27, .invokevirtual 251, 3, 17, 1, 1, [2, 0, 1339, 1340, 272, 1341]),
  (30, .return_, 1, 0, 0, 0, [])]
/-- GreyRoute$Past.keep(LGreyRoute$State;LGreyRoute$Pageant;)V -/
def rx_m28 : List rx_E := [(0, .aload_n 1, 1, 1, 0, 0, []),
  (1, .getfield 45, 3, 6, 4, 0, [355]),
  (4, .sipush 840, 3, 840, 0, 0, []),
  (7, .invokestatic 48, 3, 29, 2, 0, [0, 0, 1465, 1290, 259]),
  (10, .istore_n 3, 1, 3, 0, 0, []),
  (11, .aload_n 0, 1, 0, 0, 0, []),
  (12, .getfield 11, 3, 3, 0, 0, [377]),
  (15, .iload_n 3, 1, 3, 0, 0, []),
  (16, .aload_n 2, 1, 2, 0, 0, []),
  (17, .getfield 51, 3, 2, 12, 1, [731]),
  (20, .iastore, 1, 0, 0, 0, []),
  (21, .aload_n 0, 1, 0, 0, 0, []),
  (22, .getfield 15, 3, 3, 1, 0, [378]),
  (25, .iload_n 3, 1, 3, 0, 0, []),
  (26, .aload_n 2, 1, 2, 0, 0, []),
  (27, .getfield 56, 3, 2, 0, 0, [714]),
  (30, .getfield 60, 3, 5, 2, 0, [329]),
  (33, .iastore, 1, 0, 0, 0, []),
  (34, .aload_n 0, 1, 0, 0, 0, []),
  (35, .getfield 18, 3, 3, 2, 0, [379]),
  (38, .iload_n 3, 1, 3, 0, 0, []),
  (39, .aload_n 2, 1, 2, 0, 0, []),
  (40, .getfield 65, 3, 2, 13, 0, [733]),
  (43, .iastore, 1, 0, 0, 0, []),
  (44, .aload_n 1, 1, 1, 0, 0, []),
  (45, .dup, 1, 0, 0, 0, []),
  (46, .getfield 45, 3, 6, 4, 0, [355]),
  (49, .iconst 1, 1, 1, 0, 0, []),
  (50, .iadd, 1, 0, 0, 0, []),
  (51, .putfield 45, 3, 6, 4, 0, [355]),
  (54, .return_, 1, 0, 0, 0, [])]
/-- java/lang/Math.floorMod(II)I -/
def rx_m29 : List rx_E := [(0, .iload_n 0, 1, 0, 0, 0, []),
  (1, .iload_n 1, 1, 1, 0, 0, []),
  (2, .irem, 1, 0, 0, 0, []),
  (3, .istore_n 2, 1, 2, 0, 0, []),
  (4, .iload_n 0, 1, 0, 0, 0, []),
  (5, .iload_n 1, 1, 1, 0, 0, []),
  (6, .ixor, 1, 0, 0, 0, []),
  (7, .ifCond .ge 11, 3, 18, 0, 0, []),
  (10, .iload_n 2, 1, 2, 0, 0, []),
  (11, .ifCond .eq 7, 3, 18, 0, 0, []),
  (14, .iload_n 2, 1, 2, 0, 0, []),
  (15, .iload_n 1, 1, 1, 0, 0, []),
  (16, .iadd, 1, 0, 0, 0, []),
  (17, .ireturn, 1, 0, 0, 0, []),
  (18, .iload_n 2, 1, 2, 0, 0, []),
  (19, .ireturn, 1, 0, 0, 0, [])]
/-- GreyRouteModel.filling(II)I -/
def rx_m30 : List rx_E := [(0, .iload_n 1, 1, 1, 0, 0, []),
  (1, .iconst 1, 1, 1, 0, 0, []),
  (2, .bipush 20, 2, 20, 0, 0, []),
  (4, .invokestatic 337, 3, 8, 3, 0, [0, 0, 1959, 1960, 275]),
  (7, .ifCond .eq 24, 3, 31, 0, 0, []),
  (10, .iload_n 2, 1, 2, 0, 0, []),
  (11, .iconst 0, 1, 0, 0, 0, []),
  (12, .iload_n 1, 1, 1, 0, 0, []),
  (13, .iconst 1, 1, 1, 0, 0, []),
  (14, .isub, 1, 0, 0, 0, []),
  (15, .invokestatic 337, 3, 8, 3, 0, [0, 0, 1959, 1960, 275]),
  (18, .ifCond .eq 13, 3, 31, 0, 0, []),
  (21, .aload_n 0, 1, 0, 0, 0, []),
  (22, .iload_n 1, 1, 1, 0, 0, []),
  (23, .invokevirtual 537, 3, 35, 2, 1, [12, 0, 2233, 2235, 275, 113]),
  (26, .lconst 0, 1, 0, 0, 0, []),
  (27, .lcmp, 1, 0, 0, 0, []),
  (28, .ifCond .ne 5, 3, 33, 0, 0, []),
  (31, .iconst (-1), 1, 4294967295, 0, 0, []),
  (32, .ireturn, 1, 0, 0, 0, []),
  (33, .iconst (-1), 1, 4294967295, 0, 0, []),
  (34, .istore_n 3, 1, 3, 0, 0, []),
  (35, .iconst 0, 1, 0, 0, 0, []),
  (36, .istore 4, 2, 4, 0, 0, []),
  (38, .iload 4, 2, 4, 0, 0, []),
  (40, .iload_n 2, 1, 2, 0, 0, []),
  (41, .if_icmp .gt 58, 3, 99, 0, 0, []),
  (44, .iconst 0, 1, 0, 0, 0, []),
  (45, .istore 5, 2, 5, 0, 0, []),
  (47, .aload_n 0, 1, 0, 0, 0, []),
  (48, .getfield 237, 3, 12, 74, 0, [1658]),
  (51, .bipush 8, 2, 8, 0, 0, []),
  (53, .iload 4, 2, 4, 0, 0, []),
  (55, .imul, 1, 0, 0, 0, []),
  (56, .iload 5, 2, 5, 0, 0, []),
  (58, .iadd, 1, 0, 0, 0, []),
  (59, .laload, 1, 0, 0, 0, []),
  (60, .lconst 0, 1, 0, 0, 0, []),
  (61, .lcmp, 1, 0, 0, 0, []),
  (62, .ifCond .eq 22, 3, 84, 0, 0, []),
  (65, .iload_n 3, 1, 3, 0, 0, []),
  (66, .iconst (-1), 1, 4294967295, 0, 0, []),
  (67, .if_icmp .eq 23, 3, 90, 0, 0, []),
  (70, .aload_n 0, 1, 0, 0, 0, []),
  (71, .aload_n 0, 1, 0, 0, 0, []),
  (72, .getfield 51, 3, 12, 13, 0, [1597]),
  (75, .iload_n 3, 1, 3, 0, 0, []),
  (76, .iload 5, 2, 5, 0, 0, []),
  (78, .invokevirtual 398, 3, 0, 4, 1, [12, 0, 1951, 1953, 275, 73]),
  (81, .ifCond .ne 9, 3, 90, 0, 0, []),
  (84, .iinc 5 1, 3, 5, 1, 0, []),
  (87, .goto (-40), 3, 47, 0, 0, []),
  (90, .iload 5, 2, 5, 0, 0, []),
  (92, .istore_n 3, 1, 3, 0, 0, []),
  (93, .iinc 4 1, 3, 4, 1, 0, []),
  (96, .goto (-58), 3, 38, 0, 0, []),
  (99, .iload_n 3, 1, 3, 0, 0, []),
  (100, .ireturn, 1, 0, 0, 0, [])]
/-- GreyRoute$Words.filledUp(II)I -/
def rx_m31 : List rx_E := [(0, .iload_n 0, 1, 0, 0, 0, []),
  (1, .iconst 5, 1, 5, 0, 0, []),
  (2, .bipush 6, 2, 6, 0, 0, []),
  (4, .iload_n 1, 1, 1, 0, 0, []),
  (5, .isub, 1, 0, 0, 0, []),
  (6, .imul, 1, 0, 0, 0, []),
  (7, .ishl, 1, 0, 0, 0, []),
  (8, .ireturn, 1, 0, 0, 0, [])]
/-- GreyRoute$Route.<init>()V -/
def rx_m32 : List rx_E := [(0, .aload_n 0, 1, 0, 0, 0, []),
  (1, .invokespecial 3, 3, 0, 1, 3, [0, 0, 318, 284, 285]),
  (4, .aload_n 0, 1, 0, 0, 0, []),
  (5, .bipush 30, 2, 30, 0, 0, []),
  (7, .newarray .int, 2, 0, 0, 0, [341]),
  (9, .putfield 9, 3, 5, 0, 4, [319]),
  (12, .aload_n 0, 1, 0, 0, 0, []),
  (13, .bipush 30, 2, 30, 0, 0, []),
  (15, .newarray .int, 2, 0, 0, 0, [341]),
  (17, .putfield 15, 3, 5, 1, 4, [323]),
  (20, .aload_n 0, 1, 0, 0, 0, []),
  (21, .iconst 0, 1, 0, 0, 0, []),
  (22, .putfield 18, 3, 5, 2, 0, [327]),
  (25, .return_, 1, 0, 0, 0, [])]
/-- GreyRoute$State.<init>()V -/
def rx_m33 : List rx_E := [(0, .aload_n 0, 1, 0, 0, 0, []),
  (1, .invokespecial 3, 3, 0, 1, 3, [0, 0, 312, 284, 285]),
  (4, .aload_n 0, 1, 0, 0, 0, []),
  (5, .iconst 0, 1, 0, 0, 0, []),
  (6, .putfield 9, 3, 6, 0, 0, [342]),
  (9, .aload_n 0, 1, 0, 0, 0, []),
  (10, .iconst 0, 1, 0, 0, 0, []),
  (11, .putfield 15, 3, 6, 1, 0, [345]),
  (14, .aload_n 0, 1, 0, 0, 0, []),
  (15, .bipush 8, 2, 8, 0, 0, []),
  (17, .newarray .int, 2, 0, 0, 0, [341]),
  (19, .putfield 18, 3, 6, 2, 4, [348]),
  (22, .aload_n 0, 1, 0, 0, 0, []),
  (23, .new 22, 3, 5, 3, 0, [313, 314, 261]),
  (26, .dup, 1, 0, 0, 0, []),
  (27, .invokespecial 24, 3, 32, 1, 1, [5, 1, 315, 316, 261]),
  (30, .putfield 25, 3, 6, 3, 4, [351]),
  (33, .aload_n 0, 1, 0, 0, 0, []),
  (34, .iconst 0, 1, 0, 0, 0, []),
  (35, .putfield 29, 3, 6, 4, 0, [354]),
  (38, .return_, 1, 0, 0, 0, [])]
/-- GreyRoute$Half.sumOf(LGreyRoute$Town;[JI)J -/
def rx_m34 : List rx_E := [(0, .lconst 0, 1, 0, 0, 0, []),
  (1, .lstore_n 3, 1, 3, 0, 0, []),
  (2, .iconst 0, 1, 0, 0, 0, []),
  (3, .istore 5, 2, 5, 0, 0, []),
  (5, .iload 5, 2, 5, 0, 0, []),
  (7, .aload_n 0, 1, 0, 0, 0, []),
  (8, .getfield 59, 3, 8, 1, 0, [457]),
  (11, .if_icmp .ge 21, 3, 32, 0, 0, []),
  (14, .lload_n 3, 1, 3, 0, 0, []),
  (15, .aload_n 1, 1, 1, 0, 0, []),
  (16, .iload_n 2, 1, 2, 0, 0, []),
  (17, .bipush 8, 2, 8, 0, 0, []),
  (19, .imul, 1, 0, 0, 0, []),
  (20, .iload 5, 2, 5, 0, 0, []),
  (22, .iadd, 1, 0, 0, 0, []),
  (23, .laload, 1, 0, 0, 0, []),
  (24, .ladd, 1, 0, 0, 0, []),
  (25, .lstore_n 3, 1, 3, 0, 0, []),
  (26, .iinc 5 1, 3, 5, 1, 0, []),
  (29, .goto (-24), 3, 5, 0, 0, []),
  (32, .lload_n 3, 1, 3, 0, 0, []),
  (33, .lreturn, 1, 0, 0, 0, [])]
/-- GreyRouteModel.fills(I)J -/
def rx_m35 : List rx_E := [(0, .iconst 0, 1, 0, 0, 0, []),
  (1, .istore_n 2, 1, 2, 0, 0, []),
  (2, .iload_n 2, 1, 2, 0, 0, []),
  (3, .aload_n 0, 1, 0, 0, 0, []),
  (4, .getfield 228, 3, 12, 71, 0, [1655]),
  (7, .if_icmp .ge 21, 3, 28, 0, 0, []),
  (10, .aload_n 0, 1, 0, 0, 0, []),
  (11, .getfield 231, 3, 12, 72, 0, [1656]),
  (14, .iload_n 2, 1, 2, 0, 0, []),
  (15, .iaload, 1, 0, 0, 0, []),
  (16, .iload_n 1, 1, 1, 0, 0, []),
  (17, .if_icmp .lt 5, 3, 22, 0, 0, []),
  (20, .lconst 0, 1, 0, 0, 0, []),
  (21, .lreturn, 1, 0, 0, 0, []),
  (22, .iinc 2 1, 3, 2, 1, 0, []),
  (25, .goto (-23), 3, 2, 0, 0, []),
  (28, .iload_n 1, 1, 1, 0, 0, []),
  (29, .iconst 1, 1, 1, 0, 0, []),
  (30, .isub, 1, 0, 0, 0, []),
  (31, .istore_n 2, 1, 2, 0, 0, []),
  (32, .iload_n 2, 1, 2, 0, 0, []),
  (33, .ifCond .lt 137, 3, 170, 0, 0, []),
  (36, .iconst 0, 1, 0, 0, 0, []),
  (37, .istore_n 3, 1, 3, 0, 0, []),
  (38, .iload_n 3, 1, 3, 0, 0, []),
  (39, .aload_n 0, 1, 0, 0, 0, []),
  (40, .getfield 54, 3, 12, 14, 0, [1598]),
  (43, .aload_n 0, 1, 0, 0, 0, []),
  (44, .getfield 51, 3, 12, 13, 0, [1597]),
  (47, .iaload, 1, 0, 0, 0, []),
  (48, .if_icmp .ge 116, 3, 164, 0, 0, []),
  (51, .iload_n 2, 1, 2, 0, 0, []),
  (52, .iload_n 1, 1, 1, 0, 0, []),
  (53, .iconst 1, 1, 1, 0, 0, []),
  (54, .isub, 1, 0, 0, 0, []),
  (55, .if_icmp .ne 7, 3, 62, 0, 0, []),
  (58, .lconst 1, 1, 1, 0, 0, []),
  (59, .goto 4, 3, 63, 0, 0, []),
  (62, .lconst 0, 1, 0, 0, 0, []),
  (63, .lstore 4, 2, 4, 0, 0, []),
  (65, .iconst 0, 1, 0, 0, 0, []),
  (66, .istore 6, 2, 6, 0, 0, []),
  (68, .iload 6, 2, 6, 0, 0, []),
  (70, .aload_n 0, 1, 0, 0, 0, []),
  (71, .getfield 54, 3, 12, 14, 0, [1598]),
  (74, .aload_n 0, 1, 0, 0, 0, []),
  (75, .getfield 51, 3, 12, 13, 0, [1597]),
  (78, .iaload, 1, 0, 0, 0, []),
  (79, .if_icmp .ge 53, 3, 132, 0, 0, []),
  (82, .iload_n 2, 1, 2, 0, 0, []),
  (83, .iload_n 1, 1, 1, 0, 0, []),
  (84, .iconst 1, 1, 1, 0, 0, []),
  (85, .isub, 1, 0, 0, 0, []),
  (86, .if_icmp .ge 46, 3, 132, 0, 0, []),
  (89, .lload 4, 2, 4, 0, 0, []),
  (91, .aload_n 0, 1, 0, 0, 0, []),
  (92, .aload_n 0, 1, 0, 0, 0, []),
  (93, .getfield 51, 3, 12, 13, 0, [1597]),
  (96, .iload_n 3, 1, 3, 0, 0, []),
  (97, .iload 6, 2, 6, 0, 0, []),
  (99, .invokevirtual 398, 3, 0, 4, 1, [12, 0, 1951, 1953, 275, 73]),
  (102, .ifCond .le 20, 3, 122, 0, 0, []),
  (105, .aload_n 0, 1, 0, 0, 0, []),
  (106, .getfield 237, 3, 12, 74, 0, [1658]),
  (109, .bipush 8, 2, 8, 0, 0, []),
  (111, .iload_n 2, 1, 2, 0, 0, []),
  (112, .iconst 1, 1, 1, 0, 0, []),
  (113, .iadd, 1, 0, 0, 0, []),
  (114, .imul, 1, 0, 0, 0, []),
  (115, .iload 6, 2, 6, 0, 0, []),
  (117, .iadd, 1, 0, 0, 0, []),
  (118, .laload, 1, 0, 0, 0, []),
  (119, .goto 4, 3, 123, 0, 0, []),
  (122, .lconst 0, 1, 0, 0, 0, []),
  (123, .ladd, 1, 0, 0, 0, []),
  (124, .lstore 4, 2, 4, 0, 0, []),
  (126, .iinc 6 1, 3, 6, 1, 0, []),
  (129, .goto (-61), 3, 68, 0, 0, []),
  (132, .aload_n 0, 1, 0, 0, 0, []),
  (133, .getfield 237, 3, 12, 74, 0, [1658]),
  (136, .bipush 8, 2, 8, 0, 0, []),
  (138, .iload_n 2, 1, 2, 0, 0, []),
  (139, .imul, 1, 0, 0, 0, []),
  (140, .iload_n 3, 1, 3, 0, 0, []),
  (141, .iadd, 1, 0, 0, 0, []),
  (142, .aload_n 0, 1, 0, 0, 0, []),
  (143, .iload_n 2, 1, 2, 0, 0, []),
  (144, .iload_n 3, 1, 3, 0, 0, []),
  (145, .invokevirtual 531, 3, 999, 3, 9, []),
  (148, .ifCond .eq 8, 3, 156, 0, 0, []),
  (151, .lload 4, 2, 4, 0, 0, []),
  (153, .goto 4, 3, 157, 0, 0, []),
  (156, .lconst 0, 1, 0, 0, 0, []),
  (157, .lastore, 1, 0, 0, 0, []),
  (158, .iinc 3 1, 3, 3, 1, 0, []),
  (161, .goto (-123), 3, 38, 0, 0, []),
  (164, .iinc 2 (-1), 3, 2, 4294967295, 0, []),
  (167, .goto (-135), 3, 32, 0, 0, []),
  (170, .iconst 0, 1, 0, 0, 0, []),
  (171, .istore_n 2, 1, 2, 0, 0, []),
  (172, .iload_n 2, 1, 2, 0, 0, []),
  (173, .iload_n 1, 1, 1, 0, 0, []),
  (174, .if_icmp .ge 131, 3, 305, 0, 0, []),
  (177, .iconst 0, 1, 0, 0, 0, []),
  (178, .istore_n 3, 1, 3, 0, 0, []),
  (179, .iload_n 3, 1, 3, 0, 0, []),
  (180, .aload_n 0, 1, 0, 0, 0, []),
  (181, .getfield 54, 3, 12, 14, 0, [1598]),
  (184, .aload_n 0, 1, 0, 0, 0, []),
  (185, .getfield 51, 3, 12, 13, 0, [1597]),
  (188, .iaload, 1, 0, 0, 0, []),
  (189, .if_icmp .ge 110, 3, 299, 0, 0, []),
  (192, .iload_n 2, 1, 2, 0, 0, []),
  (193, .ifCond .ne 7, 3, 200, 0, 0, []),
  (196, .lconst 1, 1, 1, 0, 0, []),
  (197, .goto 4, 3, 201, 0, 0, []),
  (200, .lconst 0, 1, 0, 0, 0, []),
  (201, .lstore 4, 2, 4, 0, 0, []),
  (203, .iconst 0, 1, 0, 0, 0, []),
  (204, .istore 6, 2, 6, 0, 0, []),
  (206, .iload 6, 2, 6, 0, 0, []),
  (208, .aload_n 0, 1, 0, 0, 0, []),
  (209, .getfield 54, 3, 12, 14, 0, [1598]),
  (212, .aload_n 0, 1, 0, 0, 0, []),
  (213, .getfield 51, 3, 12, 13, 0, [1597]),
  (216, .iaload, 1, 0, 0, 0, []),
  (217, .if_icmp .ge 50, 3, 267, 0, 0, []),
  (220, .iload_n 2, 1, 2, 0, 0, []),
  (221, .ifCond .le 46, 3, 267, 0, 0, []),
  (224, .lload 4, 2, 4, 0, 0, []),
  (226, .aload_n 0, 1, 0, 0, 0, []),
  (227, .aload_n 0, 1, 0, 0, 0, []),
  (228, .getfield 51, 3, 12, 13, 0, [1597]),
  (231, .iload_n 3, 1, 3, 0, 0, []),
  (232, .iload 6, 2, 6, 0, 0, []),
  (234, .invokevirtual 398, 3, 0, 4, 1, [12, 0, 1951, 1953, 275, 73]),
  (237, .ifCond .le 20, 3, 257, 0, 0, []),
  (240, .aload_n 0, 1, 0, 0, 0, []),
  (241, .getfield 240, 3, 12, 75, 0, [1659]),
  (244, .bipush 8, 2, 8, 0, 0, []),
  (246, .iload_n 2, 1, 2, 0, 0, []),
  (247, .iconst 1, 1, 1, 0, 0, []),
  (248, .isub, 1, 0, 0, 0, []),
  (249, .imul, 1, 0, 0, 0, []),
  (250, .iload 6, 2, 6, 0, 0, []),
  (252, .iadd, 1, 0, 0, 0, []),
  (253, .laload, 1, 0, 0, 0, []),
  (254, .goto 4, 3, 258, 0, 0, []),
  (257, .lconst 0, 1, 0, 0, 0, []),
  (258, .ladd, 1, 0, 0, 0, []),
  (259, .lstore 4, 2, 4, 0, 0, []),
  (261, .iinc 6 1, 3, 6, 1, 0, []),
  (264, .goto (-58), 3, 206, 0, 0, []),
  (267, .aload_n 0, 1, 0, 0, 0, []),
  (268, .getfield 240, 3, 12, 75, 0, [1659]),
  (271, .bipush 8, 2, 8, 0, 0, []),
  (273, .iload_n 2, 1, 2, 0, 0, []),
  (274, .imul, 1, 0, 0, 0, []),
  (275, .iload_n 3, 1, 3, 0, 0, []),
  (276, .iadd, 1, 0, 0, 0, []),
  (277, .aload_n 0, 1, 0, 0, 0, []),
  (278, .iload_n 2, 1, 2, 0, 0, []),
  (279, .iload_n 3, 1, 3, 0, 0, []),
  (280, .invokevirtual 531, 3, 999, 3, 9, []),
  (283, .ifCond .eq 8, 3, 291, 0, 0, []),
  (286, .lload 4, 2, 4, 0, 0, []),
  (288, .goto 4, 3, 292, 0, 0, []),
  (291, .lconst 0, 1, 0, 0, 0, []),
  (292, .lastore, 1, 0, 0, 0, []),
  (293, .iinc 3 1, 3, 3, 1, 0, []),
  (296, .goto (-117), 3, 179, 0, 0, []),
  (299, .iinc 2 1, 3, 2, 1, 0, []),
  (302, .goto (-130), 3, 172, 0, 0, []),
  (305, .lconst 0, 1, 0, 0, 0, []),
  (306, .lstore_n 2, 1, 2, 0, 0, []),
  (307, .iconst 0, 1, 0, 0, 0, []),
  (308, .istore 4, 2, 4, 0, 0, []),
  (310, .iload 4, 2, 4, 0, 0, []),
  (312, .aload_n 0, 1, 0, 0, 0, []),
  (313, .getfield 54, 3, 12, 14, 0, [1598]),
  (316, .aload_n 0, 1, 0, 0, 0, []),
  (317, .getfield 51, 3, 12, 13, 0, [1597]),
  (320, .iaload, 1, 0, 0, 0, []),
  (321, .if_icmp .ge 19, 3, 340, 0, 0, []),
  (324, .lload_n 2, 1, 2, 0, 0, []),
  (325, .aload_n 0, 1, 0, 0, 0, []),
  (326, .getfield 237, 3, 12, 74, 0, [1658]),
  (329, .iload 4, 2, 4, 0, 0, []),
  (331, .laload, 1, 0, 0, 0, []),
  (332, .ladd, 1, 0, 0, 0, []),
  (333, .lstore_n 2, 1, 2, 0, 0, []),
  (334, .iinc 4 1, 3, 4, 1, 0, []),
  (337, .goto (-27), 3, 310, 0, 0, []),
  (340, .lload_n 2, 1, 2, 0, 0, []),
  (341, .lreturn, 1, 0, 0, 0, [])]
/-- GreyRoute$Route.copy(LGreyRoute$Route;)V -/
def rx_m36 : List rx_E := [(0, .aload_n 1, 1, 1, 0, 0, []),
  (1, .getfield 9, 3, 5, 0, 0, [319]),
  (4, .iconst 0, 1, 0, 0, 0, []),
  (5, .aload_n 0, 1, 0, 0, 0, []),
  (6, .getfield 9, 3, 5, 0, 0, [319]),
  (9, .iconst 0, 1, 0, 0, 0, []),
  (10, .aload_n 1, 1, 1, 0, 0, []),
  (11, .getfield 18, 3, 5, 2, 0, [327]),
  (14, .invokestatic 22, 3, 0, 5, 4, [0, 0, 1104, 1099, 1098, 276]),
  (17, .aload_n 1, 1, 1, 0, 0, []),
  (18, .getfield 15, 3, 5, 1, 0, [323]),
  (21, .iconst 0, 1, 0, 0, 0, []),
  (22, .aload_n 0, 1, 0, 0, 0, []),
  (23, .getfield 15, 3, 5, 1, 0, [323]),
  (26, .iconst 0, 1, 0, 0, 0, []),
  (27, .aload_n 1, 1, 1, 0, 0, []),
  (28, .getfield 18, 3, 5, 2, 0, [327]),
  (31, .invokestatic 22, 3, 0, 5, 4, [0, 0, 1104, 1099, 1098, 276]),
  (34, .aload_n 0, 1, 0, 0, 0, []),
  (35, .aload_n 1, 1, 1, 0, 0, []),
  (36, .getfield 18, 3, 5, 2, 0, [327]),
  (39, .putfield 18, 3, 5, 2, 0, [327]),
  (42, .return_, 1, 0, 0, 0, [])]
/-- GreyRoute.asked(II)I -/
def rx_m37 : List rx_E := [(0, .iload_n 1, 1, 1, 0, 0, []),
  (1, .iconst 1, 1, 1, 0, 0, []),
  (2, .if_icmp .lt 18, 3, 20, 0, 0, []),
  (5, .iload_n 1, 1, 1, 0, 0, []),
  (6, .bipush 20, 2, 20, 0, 0, []),
  (8, .if_icmp .gt 12, 3, 20, 0, 0, []),
  (11, .iload_n 2, 1, 2, 0, 0, []),
  (12, .ifCond .lt 8, 3, 20, 0, 0, []),
  (15, .iload_n 2, 1, 2, 0, 0, []),
  (16, .iconst 1, 1, 1, 0, 0, []),
  (17, .if_icmp .le 5, 3, 22, 0, 0, []),
  (20, .iconst (-1), 1, 4294967295, 0, 0, []),
  (21, .ireturn, 1, 0, 0, 0, []),
  (22, .aload_n 0, 1, 0, 0, 0, []),
  (23, .getfield 38, 3, 11, 4, 0, [792]),
  (26, .aload_n 0, 1, 0, 0, 0, []),
  (27, .getfield 49, 3, 11, 8, 0, [796]),
  (30, .iload_n 1, 1, 1, 0, 0, []),
  (31, .invokevirtual 277, 3, 25, 3, 1, [1, 0, 1385, 1386, 263, 1387]),
  (34, .lconst 0, 1, 0, 0, 0, []),
  (35, .lcmp, 1, 0, 0, 0, []),
  (36, .ifCond .ne 5, 3, 41, 0, 0, []),
  (39, .iconst (-1), 1, 4294967295, 0, 0, []),
  (40, .ireturn, 1, 0, 0, 0, []),
  (41, .aload_n 0, 1, 0, 0, 0, []),
  (42, .getfield 38, 3, 11, 4, 0, [792]),
  (45, .aload_n 0, 1, 0, 0, 0, []),
  (46, .getfield 49, 3, 11, 8, 0, [796]),
  (49, .iload_n 1, 1, 1, 0, 0, []),
  (50, .invokevirtual 289, 3, 999, 3, 9, []),
  (53, .iload_n 2, 1, 2, 0, 0, []),
  (54, .ifCond .ne 13, 3, 67, 0, 0, []),
  (57, .aload_n 0, 1, 0, 0, 0, []),
  (58, .getfield 38, 3, 11, 4, 0, [792]),
  (61, .getfield 292, 3, 1, 6, 0, [411]),
  (64, .goto 13, 3, 77, 0, 0, []),
  (67, .aload_n 0, 1, 0, 0, 0, []),
  (68, .getfield 38, 3, 11, 4, 0, [792]),
  (71, .getfield 295, 3, 1, 7, 0, [413]),
  (74, .invokestatic 281, 3, 51, 1, 0, [0, 0, 1405, 1406, 263]),
  (77, .ireturn, 1, 0, 0, 0, [])]
/-- GreyRoute.filled(I)I -/
def rx_m38 : List rx_E := [(0, .iload_n 1, 1, 1, 0, 0, []),
  (1, .iconst 1, 1, 1, 0, 0, []),
  (2, .if_icmp .lt 9, 3, 11, 0, 0, []),
  (5, .iload_n 1, 1, 1, 0, 0, []),
  (6, .bipush 20, 2, 20, 0, 0, []),
  (8, .if_icmp .le 5, 3, 13, 0, 0, []),
  (11, .iconst (-1), 1, 4294967295, 0, 0, []),
  (12, .ireturn, 1, 0, 0, 0, []),
  (13, .aload_n 0, 1, 0, 0, 0, []),
  (14, .getfield 38, 3, 11, 4, 0, [792]),
  (17, .aload_n 0, 1, 0, 0, 0, []),
  (18, .getfield 49, 3, 11, 8, 0, [796]),
  (21, .iload_n 1, 1, 1, 0, 0, []),
  (22, .invokevirtual 277, 3, 25, 3, 1, [1, 0, 1385, 1386, 263, 1387]),
  (25, .invokestatic 281, 3, 51, 1, 0, [0, 0, 1405, 1406, 263]),
  (28, .ireturn, 1, 0, 0, 0, [])]
/-- GreyRoute.draw(I)I -/
def rx_m39 : List rx_E := [(0, .aload_n 0, 1, 0, 0, 0, []),
  (1, .ldc2_w 361, 3, 1103515245, 0, 0, [1478]),
  (4, .aload_n 0, 1, 0, 0, 0, []),
  (5, .getfield 63, 3, 11, 12, 0, [800]),
  (8, .i2l, 1, 0, 0, 0, []),
  (9, .lmul, 1, 0, 0, 0, []),
  (10, .ldc2_w 363, 3, 12345, 0, 0, [1479]),
  (13, .ladd, 1, 0, 0, 0, []),
  (14, .ldc2_w 365, 3, 2147483647, 0, 0, [1480]),
  (17, .land, 1, 0, 0, 0, []),
  (18, .l2i, 1, 0, 0, 0, []),
  (19, .putfield 63, 3, 11, 12, 0, [800]),
  (22, .iload_n 1, 1, 1, 0, 0, []),
  (23, .ifCond .le 15, 3, 38, 0, 0, []),
  (26, .aload_n 0, 1, 0, 0, 0, []),
  (27, .getfield 63, 3, 11, 12, 0, [800]),
  (30, .bipush 64, 2, 64, 0, 0, []),
  (32, .idiv, 1, 0, 0, 0, []),
  (33, .iload_n 1, 1, 1, 0, 0, []),
  (34, .irem, 1, 0, 0, 0, []),
  (35, .goto 4, 3, 39, 0, 0, []),
  (38, .iconst 0, 1, 0, 0, 0, []),
  (39, .ireturn, 1, 0, 0, 0, [])]
/-- GreyRouteModel.draw(I)I -/
def rx_m40 : List rx_E := [(0, .aload_n 0, 1, 0, 0, 0, []),
  (1, .ldc2_w 547, 3, 1103515245, 0, 0, [2270]),
  (4, .aload_n 0, 1, 0, 0, 0, []),
  (5, .getfield 189, 3, 12, 58, 0, [1642]),
  (8, .lmul, 1, 0, 0, 0, []),
  (9, .ldc2_w 549, 3, 12345, 0, 0, [2271]),
  (12, .ladd, 1, 0, 0, 0, []),
  (13, .ldc2_w 551, 3, 2147483648, 0, 0, [2272]),
  (16, .lrem, 1, 0, 0, 0, []),
  (17, .putfield 189, 3, 12, 58, 3, [1642]),
  (20, .aload_n 0, 1, 0, 0, 0, []),
  (21, .getfield 189, 3, 12, 58, 0, [1642]),
  (24, .ldc2_w 553, 3, 64, 0, 0, [2273]),
  (27, .ldiv, 1, 0, 0, 0, []),
  (28, .iload_n 1, 1, 1, 0, 0, []),
  (29, .i2l, 1, 0, 0, 0, []),
  (30, .lrem, 1, 0, 0, 0, []),
  (31, .l2i, 1, 0, 0, 0, []),
  (32, .ireturn, 1, 0, 0, 0, [])]
/-- GreyRoute$Pageant.gatherPulls(LGreyRoute$State;I)V -/
def rx_m41 : List rx_E := [(0, .aload_n 0, 1, 0, 0, 0, []),
  (1, .getfield 28, 3, 2, 4, 0, [721]),
  (4, .iconst 0, 1, 0, 0, 0, []),
  (5, .invokestatic 95, 3, 23, 2, 0, [0, 0, 1209, 445, 265]),
  (8, .iconst 0, 1, 0, 0, 0, []),
  (9, .istore_n 3, 1, 3, 0, 0, []),
  (10, .iload_n 3, 1, 3, 0, 0, []),
  (11, .aload_n 0, 1, 0, 0, 0, []),
  (12, .getfield 70, 3, 2, 10, 0, [728]),
  (15, .getfield 101, 3, 8, 8, 0, [478]),
  (18, .if_icmp .ge 40, 3, 58, 0, 0, []),
  (21, .iload_n 2, 1, 2, 0, 0, []),
  (22, .iload_n 3, 1, 3, 0, 0, []),
  (23, .ishr, 1, 0, 0, 0, []),
  (24, .iconst 1, 1, 1, 0, 0, []),
  (25, .iand, 1, 0, 0, 0, []),
  (26, .ifCond .ne 26, 3, 52, 0, 0, []),
  (29, .aload_n 0, 1, 0, 0, 0, []),
  (30, .getfield 28, 3, 2, 4, 0, [721]),
  (33, .aload_n 1, 1, 1, 0, 0, []),
  (34, .getfield 106, 3, 6, 2, 0, [349]),
  (37, .iload_n 3, 1, 3, 0, 0, []),
  (38, .iaload, 1, 0, 0, 0, []),
  (39, .dup2, 1, 0, 0, 0, []),
  (40, .iaload, 1, 0, 0, 0, []),
  (41, .aload_n 0, 1, 0, 0, 0, []),
  (42, .getfield 70, 3, 2, 10, 0, [728]),
  (45, .getfield 109, 3, 8, 11, 0, [487]),
  (48, .iload_n 3, 1, 3, 0, 0, []),
  (49, .iaload, 1, 0, 0, 0, []),
  (50, .iadd, 1, 0, 0, 0, []),
  (51, .iastore, 1, 0, 0, 0, []),
  (52, .iinc 3 1, 3, 3, 1, 0, []),
  (55, .goto (-45), 3, 10, 0, 0, []),
  (58, .return_, 1, 0, 0, 0, [])]
/-- GreyRoute$Pageant.begin(LGreyRoute$Town;LGreyRoute$State;)V -/
def rx_m42 : List rx_E := [(0, .aload_n 0, 1, 0, 0, 0, []),
  (1, .aload_n 1, 1, 1, 0, 0, []),
  (2, .aload_n 2, 1, 2, 0, 0, []),
  (3, .iconst 0, 1, 0, 0, 0, []),
  (4, .invokevirtual 74, 3, 43, 4, 1, [2, 0, 1199, 1201, 272, 42]),
  (7, .aload_n 0, 1, 0, 0, 0, []),
  (8, .aload_n 2, 1, 2, 0, 0, []),
  (9, .iconst 0, 1, 0, 0, 0, []),
  (10, .invokevirtual 78, 3, 41, 3, 1, [2, 0, 1205, 1207, 272, 43]),
  (13, .return_, 1, 0, 0, 0, [])]
/-- GreyRoute$Pageant.beginRoute(LGreyRoute$Town;LGreyRoute$State;I)V -/
def rx_m43 : List rx_E := [(0, .aload_n 0, 1, 0, 0, 0, []),
  (1, .aload_n 1, 1, 1, 0, 0, []),
  (2, .putfield 70, 3, 2, 10, 4, [728]),
  (5, .aload_n 0, 1, 0, 0, 0, []),
  (6, .aload_n 2, 1, 2, 0, 0, []),
  (7, .getfield 82, 3, 6, 0, 0, [343]),
  (10, .putfield 58, 3, 2, 12, 0, [730]),
  (13, .aload_n 0, 1, 0, 0, 0, []),
  (14, .getfield 12, 3, 2, 0, 0, [713]),
  (17, .aload_n 2, 1, 2, 0, 0, []),
  (18, .getfield 85, 3, 6, 3, 0, [352]),
  (21, .invokevirtual 86, 3, 36, 2, 1, [5, 0, 1203, 1101, 261, 1102]),
  (24, .aload_n 0, 1, 0, 0, 0, []),
  (25, .aload_n 2, 1, 2, 0, 0, []),
  (26, .getfield 90, 3, 6, 1, 0, [346]),
  (29, .iload_n 3, 1, 3, 0, 0, []),
  (30, .ior, 1, 0, 0, 0, []),
  (31, .putfield 54, 3, 2, 11, 0, [729]),
  (34, .aload_n 0, 1, 0, 0, 0, []),
  (35, .getfield 54, 3, 2, 11, 0, [729]),
  (38, .ifCond .eq 18, 3, 56, 0, 0, []),
  (41, .aload_n 0, 1, 0, 0, 0, []),
  (42, .getfield 43, 3, 2, 8, 0, [725]),
  (45, .aload_n 0, 1, 0, 0, 0, []),
  (46, .getfield 70, 3, 2, 10, 0, [728]),
  (49, .aload_n 0, 1, 0, 0, 0, []),
  (50, .getfield 54, 3, 2, 11, 0, [729]),
  (53, .invokevirtual 91, 3, 999, 3, 9, []),
  (56, .return_, 1, 0, 0, 0, [])]
/-- GreyRoute.letter(III)I -/
def rx_m44 : List rx_E := [(0, .iload_n 3, 1, 3, 0, 0, []),
  (1, .ifCond .lt 9, 3, 10, 0, 0, []),
  (4, .iload_n 3, 1, 3, 0, 0, []),
  (5, .bipush 6, 2, 6, 0, 0, []),
  (7, .if_icmp .lt 5, 3, 12, 0, 0, []),
  (10, .iconst (-1), 1, 4294967295, 0, 0, []),
  (11, .ireturn, 1, 0, 0, 0, []),
  (12, .iload_n 1, 1, 1, 0, 0, []),
  (13, .ifCond .ne 25, 3, 38, 0, 0, []),
  (16, .aload_n 0, 1, 0, 0, 0, []),
  (17, .iload_n 2, 1, 2, 0, 0, []),
  (18, .invokevirtual 165, 3, 56, 2, 1, [11, 0, 1138, 1140, 257, 37]),
  (21, .ifCond .eq 17, 3, 38, 0, 0, []),
  (24, .aload_n 0, 1, 0, 0, 0, []),
  (25, .getfield 49, 3, 11, 8, 0, [796]),
  (28, .getfield 168, 3, 8, 2, 0, [461]),
  (31, .iload_n 2, 1, 2, 0, 0, []),
  (32, .iaload, 1, 0, 0, 0, []),
  (33, .iload_n 3, 1, 3, 0, 0, []),
  (34, .invokestatic 171, 3, 999, 2, 9, []),
  (37, .ireturn, 1, 0, 0, 0, []),
  (38, .iload_n 1, 1, 1, 0, 0, []),
  (39, .iconst 1, 1, 1, 0, 0, []),
  (40, .if_icmp .ne 25, 3, 65, 0, 0, []),
  (43, .aload_n 0, 1, 0, 0, 0, []),
  (44, .iload_n 2, 1, 2, 0, 0, []),
  (45, .invokevirtual 175, 3, 66, 2, 1, [11, 0, 1145, 1147, 257, 38]),
  (48, .ifCond .eq 17, 3, 65, 0, 0, []),
  (51, .aload_n 0, 1, 0, 0, 0, []),
  (52, .getfield 49, 3, 11, 8, 0, [796]),
  (55, .getfield 178, 3, 8, 9, 0, [483]),
  (58, .iload_n 2, 1, 2, 0, 0, []),
  (59, .iaload, 1, 0, 0, 0, []),
  (60, .iload_n 3, 1, 3, 0, 0, []),
  (61, .invokestatic 171, 3, 999, 2, 9, []),
  (64, .ireturn, 1, 0, 0, 0, []),
  (65, .iconst (-1), 1, 4294967295, 0, 0, []),
  (66, .ireturn, 1, 0, 0, 0, [])]
/-- GreyRoute.goThisYear()V -/
def rx_m45 : List rx_E := [(0, .aload_n 0, 1, 0, 0, 0, []),
  (1, .getfield 85, 3, 11, 7, 0, [795]),
  (4, .aload_n 0, 1, 0, 0, 0, []),
  (5, .getfield 49, 3, 11, 8, 0, [796]),
  (8, .aload_n 0, 1, 0, 0, 0, []),
  (9, .getfield 24, 3, 11, 2, 0, [790]),
  (12, .invokevirtual 260, 3, 42, 3, 1, [2, 0, 1195, 1196, 272, 1197]),
  (15, .aload_n 0, 1, 0, 0, 0, []),
  (16, .getfield 85, 3, 11, 7, 0, [795]),
  (19, .aload_n 0, 1, 0, 0, 0, []),
  (20, .getfield 49, 3, 11, 8, 0, [796]),
  (23, .getfield 254, 3, 8, 13, 0, [494]),
  (26, .invokevirtual 257, 3, 10, 2, 1, [2, 0, 1210, 1211, 272, 1212]),
  (29, .return_, 1, 0, 0, 0, [])]
/-- GreyRouteModel.letter(III)I -/
def rx_m46 : List rx_E := [(0, .iload_n 1, 1, 1, 0, 0, []),
  (1, .iconst 0, 1, 0, 0, 0, []),
  (2, .iconst 1, 1, 1, 0, 0, []),
  (3, .invokestatic 337, 3, 8, 3, 0, [0, 0, 1959, 1960, 275]),
  (6, .ifCond .eq 31, 3, 37, 0, 0, []),
  (9, .iload_n 2, 1, 2, 0, 0, []),
  (10, .iconst 0, 1, 0, 0, 0, []),
  (11, .aload_n 0, 1, 0, 0, 0, []),
  (12, .aload_n 0, 1, 0, 0, 0, []),
  (13, .getfield 51, 3, 12, 13, 0, [1597]),
  (16, .iload_n 1, 1, 1, 0, 0, []),
  (17, .invokevirtual 329, 3, 55, 3, 1, [12, 0, 1928, 1930, 275, 68]),
  (20, .iconst 1, 1, 1, 0, 0, []),
  (21, .isub, 1, 0, 0, 0, []),
  (22, .invokestatic 337, 3, 8, 3, 0, [0, 0, 1959, 1960, 275]),
  (25, .ifCond .eq 12, 3, 37, 0, 0, []),
  (28, .iload_n 3, 1, 3, 0, 0, []),
  (29, .iconst 0, 1, 0, 0, 0, []),
  (30, .iconst 5, 1, 5, 0, 0, []),
  (31, .invokestatic 337, 3, 8, 3, 0, [0, 0, 1959, 1960, 275]),
  (34, .ifCond .ne 5, 3, 39, 0, 0, []),
  (37, .iconst (-1), 1, 4294967295, 0, 0, []),
  (38, .ireturn, 1, 0, 0, 0, []),
  (39, .aload_n 0, 1, 0, 0, 0, []),
  (40, .aload_n 0, 1, 0, 0, 0, []),
  (41, .getfield 51, 3, 12, 13, 0, [1597]),
  (44, .iload_n 1, 1, 1, 0, 0, []),
  (45, .iload_n 2, 1, 2, 0, 0, []),
  (46, .invokevirtual 333, 3, 999, 4, 9, []),
  (49, .lstore 4, 2, 4, 0, 0, []),
  (51, .iconst 0, 1, 0, 0, 0, []),
  (52, .istore 6, 2, 6, 0, 0, []),
  (54, .lload 4, 2, 4, 0, 0, []),
  (56, .lstore 7, 2, 7, 0, 0, []),
  (58, .lload 7, 2, 7, 0, 0, []),
  (60, .lconst 0, 1, 0, 0, 0, []),
  (61, .lcmp, 1, 0, 0, 0, []),
  (62, .ifCond .le 16, 3, 78, 0, 0, []),
  (65, .iinc 6 1, 3, 6, 1, 0, []),
  (68, .lload 7, 2, 7, 0, 0, []),
  (70, .bipush 8, 2, 8, 0, 0, []),
  (72, .nop, 1, 0, 0, 0, []),
  (73, .lstore 7, 2, 7, 0, 0, []),
  (75, .goto (-17), 3, 58, 0, 0, []),
  (78, .iload_n 3, 1, 3, 0, 0, []),
  (79, .iload 6, 2, 6, 0, 0, []),
  (81, .if_icmp .lt 7, 3, 88, 0, 0, []),
  (84, .iconst 0, 1, 0, 0, 0, []),
  (85, .goto 25, 3, 110, 0, 0, []),
  (88, .lload 4, 2, 4, 0, 0, []),
  (90, .bipush 8, 2, 8, 0, 0, []),
  (92, .iload 6, 2, 6, 0, 0, []),
  (94, .iconst 1, 1, 1, 0, 0, []),
  (95, .isub, 1, 0, 0, 0, []),
  (96, .iload_n 3, 1, 3, 0, 0, []),
  (97, .isub, 1, 0, 0, 0, []),
  (98, .imul, 1, 0, 0, 0, []),
  (99, .nop, 1, 0, 0, 0, []),
  (100, .ldc2_w 508, 3, 255, 0, 0, [2079]),
  (103, .land, 1, 0, 0, 0, []),
  (104, .l2i, 1, 0, 0, 0, []),
  (105, .bipush 97, 2, 97, 0, 0, []),
  (107, .isub, 1, 0, 0, 0, []),
  (108, .iconst 1, 1, 1, 0, 0, []),
  (109, .iadd, 1, 0, 0, 0, []),
  (110, .ireturn, 1, 0, 0, 0, [])]
/-- GreyRoute$Bytes.put(I)V -/
def rx_m47 : List rx_E := [(0, .aload_n 0, 1, 0, 0, 0, []),
  (1, .getfield 9, 3, 0, 1, 0, [296]),
  (4, .aload_n 0, 1, 0, 0, 0, []),
  (5, .getfield 21, 3, 0, 0, 0, [295]),
  (8, .arraylength, 1, 0, 0, 0, []),
  (9, .if_icmp .ge 24, 3, 33, 0, 0, []),
  (12, .aload_n 0, 1, 0, 0, 0, []),
  (13, .getfield 21, 3, 0, 0, 0, [295]),
  (16, .aload_n 0, 1, 0, 0, 0, []),
  (17, .getfield 9, 3, 0, 1, 0, [296]),
  (20, .iload_n 1, 1, 1, 0, 0, []),
  (21, .i2b, 1, 0, 0, 0, []),
  (22, .bastore, 1, 0, 0, 0, []),
  (23, .aload_n 0, 1, 0, 0, 0, []),
  (24, .dup, 1, 0, 0, 0, []),
  (25, .getfield 9, 3, 0, 1, 0, [296]),
  (28, .iconst 1, 1, 1, 0, 0, []),
  (29, .iadd, 1, 0, 0, 0, []),
  (30, .putfield 9, 3, 0, 1, 0, [296]),
  (33, .return_, 1, 0, 0, 0, [])]
/-- GreyRouteModel.asked(II)I -/
def rx_m48 : List rx_E := [(0, .iload_n 1, 1, 1, 0, 0, []),
  (1, .iconst 1, 1, 1, 0, 0, []),
  (2, .bipush 20, 2, 20, 0, 0, []),
  (4, .invokestatic 337, 3, 8, 3, 0, [0, 0, 1959, 1960, 275]),
  (7, .ifCond .eq 22, 3, 29, 0, 0, []),
  (10, .iload_n 2, 1, 2, 0, 0, []),
  (11, .iconst 0, 1, 0, 0, 0, []),
  (12, .iconst 1, 1, 1, 0, 0, []),
  (13, .invokestatic 337, 3, 8, 3, 0, [0, 0, 1959, 1960, 275]),
  (16, .ifCond .eq 13, 3, 29, 0, 0, []),
  (19, .aload_n 0, 1, 0, 0, 0, []),
  (20, .iload_n 1, 1, 1, 0, 0, []),
  (21, .invokevirtual 537, 3, 35, 2, 1, [12, 0, 2233, 2235, 275, 113]),
  (24, .lconst 0, 1, 0, 0, 0, []),
  (25, .lcmp, 1, 0, 0, 0, []),
  (26, .ifCond .ne 5, 3, 31, 0, 0, []),
  (29, .iconst (-1), 1, 4294967295, 0, 0, []),
  (30, .ireturn, 1, 0, 0, 0, []),
  (31, .iconst (-1), 1, 4294967295, 0, 0, []),
  (32, .istore_n 3, 1, 3, 0, 0, []),
  (33, .lconst 0, 1, 0, 0, 0, []),
  (34, .lstore 4, 2, 4, 0, 0, []),
  (36, .iconst 0, 1, 0, 0, 0, []),
  (37, .istore 6, 2, 6, 0, 0, []),
  (39, .iload 6, 2, 6, 0, 0, []),
  (41, .iload_n 1, 1, 1, 0, 0, []),
  (42, .if_icmp .ge 104, 3, 146, 0, 0, []),
  (45, .lconst 0, 1, 0, 0, 0, []),
  (46, .lstore 7, 2, 7, 0, 0, []),
  (48, .iconst 0, 1, 0, 0, 0, []),
  (49, .istore 9, 2, 9, 0, 0, []),
  (51, .iload 9, 2, 9, 0, 0, []),
  (53, .aload_n 0, 1, 0, 0, 0, []),
  (54, .getfield 54, 3, 12, 14, 0, [1598]),
  (57, .aload_n 0, 1, 0, 0, 0, []),
  (58, .getfield 51, 3, 12, 13, 0, [1597]),
  (61, .iaload, 1, 0, 0, 0, []),
  (62, .if_icmp .ge 55, 3, 117, 0, 0, []),
  (65, .aload_n 0, 1, 0, 0, 0, []),
  (66, .getfield 240, 3, 12, 75, 0, [1659]),
  (69, .bipush 8, 2, 8, 0, 0, []),
  (71, .iload 6, 2, 6, 0, 0, []),
  (73, .imul, 1, 0, 0, 0, []),
  (74, .iload 9, 2, 9, 0, 0, []),
  (76, .iadd, 1, 0, 0, 0, []),
  (77, .laload, 1, 0, 0, 0, []),
  (78, .aload_n 0, 1, 0, 0, 0, []),
  (79, .getfield 237, 3, 12, 74, 0, [1658]),
  (82, .bipush 8, 2, 8, 0, 0, []),
  (84, .iload 6, 2, 6, 0, 0, []),
  (86, .imul, 1, 0, 0, 0, []),
  (87, .iload 9, 2, 9, 0, 0, []),
  (89, .iadd, 1, 0, 0, 0, []),
  (90, .laload, 1, 0, 0, 0, []),
  (91, .lmul, 1, 0, 0, 0, []),
  (92, .lstore 10, 2, 10, 0, 0, []),
  (94, .lload 10, 2, 10, 0, 0, []),
  (96, .lload 7, 2, 7, 0, 0, []),
  (98, .lcmp, 1, 0, 0, 0, []),
  (99, .ifCond .le 8, 3, 107, 0, 0, []),
  (102, .lload 10, 2, 10, 0, 0, []),
  (104, .goto 5, 3, 109, 0, 0, []),
  (107, .lload 7, 2, 7, 0, 0, []),
  (109, .lstore 7, 2, 7, 0, 0, []),
  (111, .iinc 9 1, 3, 9, 1, 0, []),
  (114, .goto (-63), 3, 51, 0, 0, []),
  (117, .iload_n 3, 1, 3, 0, 0, []),
  (118, .iconst (-1), 1, 4294967295, 0, 0, []),
  (119, .if_icmp .eq 14, 3, 133, 0, 0, []),
  (122, .lload 7, 2, 7, 0, 0, []),
  (124, .lload 4, 2, 4, 0, 0, []),
  (126, .lcmp, 1, 0, 0, 0, []),
  (127, .ifCond .lt 6, 3, 133, 0, 0, []),
  (130, .goto 10, 3, 140, 0, 0, []),
  (133, .lload 7, 2, 7, 0, 0, []),
  (135, .lstore 4, 2, 4, 0, 0, []),
  (137, .iload 6, 2, 6, 0, 0, []),
  (139, .istore_n 3, 1, 3, 0, 0, []),
  (140, .iinc 6 1, 3, 6, 1, 0, []),
  (143, .goto (-104), 3, 39, 0, 0, []),
  (146, .iload_n 2, 1, 2, 0, 0, []),
  (147, .ifCond .ne 7, 3, 154, 0, 0, []),
  (150, .iload_n 3, 1, 3, 0, 0, []),
  (151, .goto 8, 3, 159, 0, 0, []),
  (154, .lload 4, 2, 4, 0, 0, []),
  (156, .invokestatic 540, 3, 53, 1, 0, [0, 0, 2241, 2242, 275]),
  (159, .ireturn, 1, 0, 0, 0, [])]
/-- GreyRoute.has(I)I -/
def rx_m49 : List rx_E := [(0, .iload_n 1, 1, 1, 0, 0, []),
  (1, .tableswitch 135 0 9 #[55, 63, 71, 79, 87, 98, 109, 114, 122, 130], 55, 136, 2147483648, 2147483657, [56, 64, 72, 80, 88, 99, 110, 115, 123, 131]),
  (56, .aload_n 0, 1, 0, 0, 0, []),
  (57, .getfield 49, 3, 11, 8, 0, [796]),
  (60, .getfield 128, 3, 8, 1, 0, [458]),
  (63, .ireturn, 1, 0, 0, 0, []),
  (64, .aload_n 0, 1, 0, 0, 0, []),
  (65, .getfield 49, 3, 11, 8, 0, [796]),
  (68, .getfield 131, 3, 8, 3, 0, [466]),
  (71, .ireturn, 1, 0, 0, 0, []),
  (72, .aload_n 0, 1, 0, 0, 0, []),
  (73, .getfield 49, 3, 11, 8, 0, [796]),
  (76, .getfield 134, 3, 8, 8, 0, [481]),
  (79, .ireturn, 1, 0, 0, 0, []),
  (80, .aload_n 0, 1, 0, 0, 0, []),
  (81, .getfield 24, 3, 11, 2, 0, [790]),
  (84, .getfield 137, 3, 6, 0, 0, [344]),
  (87, .ireturn, 1, 0, 0, 0, []),
  (88, .aload_n 0, 1, 0, 0, 0, []),
  (89, .getfield 24, 3, 11, 2, 0, [790]),
  (92, .getfield 140, 3, 6, 3, 0, [353]),
  (95, .getfield 144, 3, 5, 2, 0, [332]),
  (98, .ireturn, 1, 0, 0, 0, []),
  (99, .aload_n 0, 1, 0, 0, 0, []),
  (100, .getfield 24, 3, 11, 2, 0, [790]),
  (103, .getfield 149, 3, 6, 1, 0, [347]),
  (106, .invokestatic 152, 3, 124, 1, 0, [0, 0, 1121, 1122, 277]),
  (109, .ireturn, 1, 0, 0, 0, []),
  (110, .aload_n 0, 1, 0, 0, 0, []),
  (111, .invokevirtual 157, 3, 93, 1, 1, [11, 0, 1127, 1129, 257, 36]),
  (114, .ireturn, 1, 0, 0, 0, []),
  (115, .aload_n 0, 1, 0, 0, 0, []),
  (116, .getfield 38, 3, 11, 4, 0, [792]),
  (119, .getfield 161, 3, 1, 5, 0, [409]),
  (122, .ireturn, 1, 0, 0, 0, []),
  (123, .aload_n 0, 1, 0, 0, 0, []),
  (124, .getfield 31, 3, 11, 3, 0, [791]),
  (127, .getfield 162, 3, 3, 5, 0, [383]),
  (130, .ireturn, 1, 0, 0, 0, []),
  (131, .aload_n 0, 1, 0, 0, 0, []),
  (132, .getfield 63, 3, 11, 12, 0, [800]),
  (135, .ireturn, 1, 0, 0, 0, []),
  (136, .iconst (-1), 1, 4294967295, 0, 0, []),
  (137, .ireturn, 1, 0, 0, 0, [])]
/-- GreyRouteModel.filled(I)I -/
def rx_m50 : List rx_E := [(0, .iload_n 1, 1, 1, 0, 0, []),
  (1, .iconst 1, 1, 1, 0, 0, []),
  (2, .bipush 20, 2, 20, 0, 0, []),
  (4, .invokestatic 337, 3, 8, 3, 0, [0, 0, 1959, 1960, 275]),
  (7, .ifCond .eq 14, 3, 21, 0, 0, []),
  (10, .aload_n 0, 1, 0, 0, 0, []),
  (11, .iload_n 1, 1, 1, 0, 0, []),
  (12, .invokevirtual 537, 3, 35, 2, 1, [12, 0, 2233, 2235, 275, 113]),
  (15, .invokestatic 540, 3, 53, 1, 0, [0, 0, 2241, 2242, 275]),
  (18, .goto 4, 3, 22, 0, 0, []),
  (21, .iconst (-1), 1, 4294967295, 0, 0, []),
  (22, .ireturn, 1, 0, 0, 0, [])]
/-- GreyRoute$Half.capped(J)I -/
def rx_m51 : List rx_E := [(0, .ldc2_w 54, 3, 999999999, 0, 0, [1408]),
  (3, .lload_n 0, 1, 0, 0, 0, []),
  (4, .invokestatic 56, 3, 52, 2, 0, [0, 0, 1409, 1410, 259]),
  (7, .l2i, 1, 0, 0, 0, []),
  (8, .ireturn, 1, 0, 0, 0, [])]
/-- java/lang/Math.min(JJ)J -/
def rx_m52 : List rx_E := [(0, .lload_n 0, 1, 0, 0, 0, []),
  (1, .lload_n 2, 1, 2, 0, 0, []),
  (2, .lcmp, 1, 0, 0, 0, []),
  (3, .ifCond .gt 7, 3, 10, 0, 0, []),
  (6, .lload_n 0, 1, 0, 0, 0, []),
  (7, .goto 4, 3, 11, 0, 0, []),
  (10, .lload_n 2, 1, 2, 0, 0, []),
  (11, .lreturn, 1, 0, 0, 0, [])]
/-- GreyRouteModel.cut(J)I -/
def rx_m53 : List rx_E := [(0, .lload_n 0, 1, 0, 0, 0, []),
  (1, .ldc2_w 534, 3, 999999999, 0, 0, [2244]),
  (4, .lcmp, 1, 0, 0, 0, []),
  (5, .ifCond .le 9, 3, 14, 0, 0, []),
  (8, .ldc_w 536, 3, 999999999, 0, 0, [2245]),
  (11, .goto 5, 3, 16, 0, 0, []),
  (14, .lload_n 0, 1, 0, 0, 0, []),
  (15, .l2i, 1, 0, 0, 0, []),
  (16, .ireturn, 1, 0, 0, 0, [])]
/-- GreyRoute$Half.placeOfFirst(LGreyRoute$Town;II)I -/
def rx_m54 : List rx_E := [(0, .aload_n 0, 1, 0, 0, 0, []),
  (1, .aload_n 1, 1, 1, 0, 0, []),
  (2, .iload_n 2, 1, 2, 0, 0, []),
  (3, .invokevirtual 89, 3, 25, 3, 1, [1, 0, 1420, 1386, 263, 1387]),
  (6, .lconst 0, 1, 0, 0, 0, []),
  (7, .lcmp, 1, 0, 0, 0, []),
  (8, .ifCond .ne 5, 3, 13, 0, 0, []),
  (11, .iconst (-1), 1, 4294967295, 0, 0, []),
  (12, .ireturn, 1, 0, 0, 0, []),
  (13, .iconst (-1), 1, 4294967295, 0, 0, []),
  (14, .istore 4, 2, 4, 0, 0, []),
  (16, .iconst 0, 1, 0, 0, 0, []),
  (17, .istore 5, 2, 5, 0, 0, []),
  (19, .iload 5, 2, 5, 0, 0, []),
  (21, .iload_n 3, 1, 3, 0, 0, []),
  (22, .if_icmp .gt 20, 3, 42, 0, 0, []),
  (25, .aload_n 0, 1, 0, 0, 0, []),
  (26, .aload_n 1, 1, 1, 0, 0, []),
  (27, .iload 5, 2, 5, 0, 0, []),
  (29, .iload 4, 2, 4, 0, 0, []),
  (31, .invokevirtual 93, 3, 999, 4, 9, []),
  (34, .istore 4, 2, 4, 0, 0, []),
  (36, .iinc 5 1, 3, 5, 1, 0, []),
  (39, .goto (-20), 3, 19, 0, 0, []),
  (42, .iload 4, 2, 4, 0, 0, []),
  (44, .ireturn, 1, 0, 0, 0, [])]
/-- GreyRouteModel.manyOf(II)I -/
def rx_m55 : List rx_E := [(0, .iload_n 2, 1, 2, 0, 0, []),
  (1, .ifCond .ne 12, 3, 13, 0, 0, []),
  (4, .aload_n 0, 1, 0, 0, 0, []),
  (5, .getfield 54, 3, 12, 14, 0, [1598]),
  (8, .iload_n 1, 1, 1, 0, 0, []),
  (9, .iaload, 1, 0, 0, 0, []),
  (10, .goto 9, 3, 19, 0, 0, []),
  (13, .aload_n 0, 1, 0, 0, 0, []),
  (14, .getfield 81, 3, 12, 23, 0, [1607]),
  (17, .iload_n 1, 1, 1, 0, 0, []),
  (18, .iaload, 1, 0, 0, 0, []),
  (19, .ireturn, 1, 0, 0, 0, [])]
/-- GreyRoute.isPlace(I)Z -/
def rx_m56 : List rx_E := [(0, .iload_n 1, 1, 1, 0, 0, []),
  (1, .ifCond .lt 18, 3, 19, 0, 0, []),
  (4, .iload_n 1, 1, 1, 0, 0, []),
  (5, .aload_n 0, 1, 0, 0, 0, []),
  (6, .getfield 49, 3, 11, 8, 0, [796]),
  (9, .getfield 128, 3, 8, 1, 0, [458]),
  (12, .if_icmp .ge 7, 3, 19, 0, 0, []),
  (15, .iconst 1, 1, 1, 0, 0, []),
  (16, .goto 4, 3, 20, 0, 0, []),
  (19, .iconst 0, 1, 0, 0, 0, []),
  (20, .ireturn, 1, 0, 0, 0, [])]
/-- GreyRoute.status(I)I -/
def rx_m57 : List rx_E := [(0, .iload_n 1, 1, 1, 0, 0, []),
  (1, .ifCond .lt 21, 3, 22, 0, 0, []),
  (4, .iload_n 1, 1, 1, 0, 0, []),
  (5, .aload_n 0, 1, 0, 0, 0, []),
  (6, .getfield 42, 3, 11, 5, 0, [793]),
  (9, .arraylength, 1, 0, 0, 0, []),
  (10, .if_icmp .ge 12, 3, 22, 0, 0, []),
  (13, .aload_n 0, 1, 0, 0, 0, []),
  (14, .getfield 42, 3, 11, 5, 0, [793]),
  (17, .iload_n 1, 1, 1, 0, 0, []),
  (18, .iaload, 1, 0, 0, 0, []),
  (19, .goto 4, 3, 23, 0, 0, []),
  (22, .iconst (-1), 1, 4294967295, 0, 0, []),
  (23, .ireturn, 1, 0, 0, 0, [])]
/-- GreyRouteModel.refuses(I)I -/
def rx_m58 : List rx_E := [(0, .aload_n 0, 1, 0, 0, 0, []),
  (1, .getfield 156, 3, 12, 47, 0, [1631]),
  (4, .iload_n 1, 1, 1, 0, 0, []),
  (5, .dup2, 1, 0, 0, 0, []),
  (6, .iaload, 1, 0, 0, 0, []),
  (7, .iconst 1, 1, 1, 0, 0, []),
  (8, .iadd, 1, 0, 0, 0, []),
  (9, .iastore, 1, 0, 0, 0, []),
  (10, .iconst (-1), 1, 4294967295, 0, 0, []),
  (11, .ireturn, 1, 0, 0, 0, [])]
/-- GreyRouteModel.isAhead(III)Z -/
def rx_m59 : List rx_E := [(0, .iload_n 1, 1, 1, 0, 0, []),
  (1, .iload_n 2, 1, 2, 0, 0, []),
  (2, .iload_n 3, 1, 3, 0, 0, []),
  (3, .invokestatic 337, 3, 8, 3, 0, [0, 0, 1959, 1960, 275]),
  (6, .ifCond .eq 21, 3, 27, 0, 0, []),
  (9, .aload_n 0, 1, 0, 0, 0, []),
  (10, .getfield 159, 3, 12, 48, 0, [1632]),
  (13, .iconst 0, 1, 0, 0, 0, []),
  (14, .iaload, 1, 0, 0, 0, []),
  (15, .sipush 999, 3, 999, 0, 0, []),
  (18, .iload_n 1, 1, 1, 0, 0, []),
  (19, .isub, 1, 0, 0, 0, []),
  (20, .if_icmp .gt 7, 3, 27, 0, 0, []),
  (23, .iconst 1, 1, 1, 0, 0, []),
  (24, .goto 4, 3, 28, 0, 0, []),
  (27, .iconst 0, 1, 0, 0, 0, []),
  (28, .ireturn, 1, 0, 0, 0, [])]
/-- GreyRouteModel.copies(II)V -/
def rx_m60 : List rx_E := [(0, .aload_n 0, 1, 0, 0, 0, []),
  (1, .getfield 159, 3, 12, 48, 0, [1632]),
  (4, .iload_n 1, 1, 1, 0, 0, []),
  (5, .aload_n 0, 1, 0, 0, 0, []),
  (6, .getfield 159, 3, 12, 48, 0, [1632]),
  (9, .iload_n 2, 1, 2, 0, 0, []),
  (10, .iaload, 1, 0, 0, 0, []),
  (11, .iastore, 1, 0, 0, 0, []),
  (12, .aload_n 0, 1, 0, 0, 0, []),
  (13, .getfield 162, 3, 12, 49, 0, [1633]),
  (16, .iload_n 1, 1, 1, 0, 0, []),
  (17, .aload_n 0, 1, 0, 0, 0, []),
  (18, .getfield 162, 3, 12, 49, 0, [1633]),
  (21, .iload_n 2, 1, 2, 0, 0, []),
  (22, .iaload, 1, 0, 0, 0, []),
  (23, .iastore, 1, 0, 0, 0, []),
  (24, .iconst 0, 1, 0, 0, 0, []),
  (25, .istore_n 3, 1, 3, 0, 0, []),
  (26, .iload_n 3, 1, 3, 0, 0, []),
  (27, .bipush 8, 2, 8, 0, 0, []),
  (29, .if_icmp .ge 31, 3, 60, 0, 0, []),
  (32, .aload_n 0, 1, 0, 0, 0, []),
  (33, .getfield 165, 3, 12, 50, 0, [1634]),
  (36, .bipush 8, 2, 8, 0, 0, []),
  (38, .iload_n 1, 1, 1, 0, 0, []),
  (39, .imul, 1, 0, 0, 0, []),
  (40, .iload_n 3, 1, 3, 0, 0, []),
  (41, .iadd, 1, 0, 0, 0, []),
  (42, .aload_n 0, 1, 0, 0, 0, []),
  (43, .getfield 165, 3, 12, 50, 0, [1634]),
  (46, .bipush 8, 2, 8, 0, 0, []),
  (48, .iload_n 2, 1, 2, 0, 0, []),
  (49, .imul, 1, 0, 0, 0, []),
  (50, .iload_n 3, 1, 3, 0, 0, []),
  (51, .iadd, 1, 0, 0, 0, []),
  (52, .iaload, 1, 0, 0, 0, []),
  (53, .iastore, 1, 0, 0, 0, []),
  (54, .iinc 3 1, 3, 3, 1, 0, []),
  (57, .goto (-31), 3, 26, 0, 0, []),
  (60, .aload_n 0, 1, 0, 0, 0, []),
  (61, .getfield 168, 3, 12, 51, 0, [1635]),
  (64, .iload_n 1, 1, 1, 0, 0, []),
  (65, .aload_n 0, 1, 0, 0, 0, []),
  (66, .getfield 168, 3, 12, 51, 0, [1635]),
  (69, .iload_n 2, 1, 2, 0, 0, []),
  (70, .iaload, 1, 0, 0, 0, []),
  (71, .iastore, 1, 0, 0, 0, []),
  (72, .iconst 0, 1, 0, 0, 0, []),
  (73, .istore_n 3, 1, 3, 0, 0, []),
  (74, .iload_n 3, 1, 3, 0, 0, []),
  (75, .bipush 30, 2, 30, 0, 0, []),
  (77, .if_icmp .ge 53, 3, 130, 0, 0, []),
  (80, .aload_n 0, 1, 0, 0, 0, []),
  (81, .getfield 171, 3, 12, 52, 0, [1636]),
  (84, .bipush 30, 2, 30, 0, 0, []),
  (86, .iload_n 1, 1, 1, 0, 0, []),
  (87, .imul, 1, 0, 0, 0, []),
  (88, .iload_n 3, 1, 3, 0, 0, []),
  (89, .iadd, 1, 0, 0, 0, []),
  (90, .aload_n 0, 1, 0, 0, 0, []),
  (91, .getfield 171, 3, 12, 52, 0, [1636]),
  (94, .bipush 30, 2, 30, 0, 0, []),
  (96, .iload_n 2, 1, 2, 0, 0, []),
  (97, .imul, 1, 0, 0, 0, []),
  (98, .iload_n 3, 1, 3, 0, 0, []),
  (99, .iadd, 1, 0, 0, 0, []),
  (100, .iaload, 1, 0, 0, 0, []),
  (101, .iastore, 1, 0, 0, 0, []),
  (102, .aload_n 0, 1, 0, 0, 0, []),
  (103, .getfield 174, 3, 12, 53, 0, [1637]),
  (106, .bipush 30, 2, 30, 0, 0, []),
  (108, .iload_n 1, 1, 1, 0, 0, []),
  (109, .imul, 1, 0, 0, 0, []),
  (110, .iload_n 3, 1, 3, 0, 0, []),
  (111, .iadd, 1, 0, 0, 0, []),
  (112, .aload_n 0, 1, 0, 0, 0, []),
  (113, .getfield 174, 3, 12, 53, 0, [1637]),
  (116, .bipush 30, 2, 30, 0, 0, []),
  (118, .iload_n 2, 1, 2, 0, 0, []),
  (119, .imul, 1, 0, 0, 0, []),
  (120, .iload_n 3, 1, 3, 0, 0, []),
  (121, .iadd, 1, 0, 0, 0, []),
  (122, .iaload, 1, 0, 0, 0, []),
  (123, .iastore, 1, 0, 0, 0, []),
  (124, .iinc 3 1, 3, 3, 1, 0, []),
  (127, .goto (-53), 3, 74, 0, 0, []),
  (130, .aload_n 0, 1, 0, 0, 0, []),
  (131, .getfield 177, 3, 12, 54, 0, [1638]),
  (134, .iload_n 1, 1, 1, 0, 0, []),
  (135, .aload_n 0, 1, 0, 0, 0, []),
  (136, .getfield 177, 3, 12, 54, 0, [1638]),
  (139, .iload_n 2, 1, 2, 0, 0, []),
  (140, .iaload, 1, 0, 0, 0, []),
  (141, .iastore, 1, 0, 0, 0, []),
  (142, .iconst 0, 1, 0, 0, 0, []),
  (143, .istore_n 3, 1, 3, 0, 0, []),
  (144, .iload_n 3, 1, 3, 0, 0, []),
  (145, .iconst 3, 1, 3, 0, 0, []),
  (146, .aload_n 0, 1, 0, 0, 0, []),
  (147, .getfield 177, 3, 12, 54, 0, [1638]),
  (150, .iload_n 2, 1, 2, 0, 0, []),
  (151, .iaload, 1, 0, 0, 0, []),
  (152, .imul, 1, 0, 0, 0, []),
  (153, .if_icmp .ge 31, 3, 184, 0, 0, []),
  (156, .aload_n 0, 1, 0, 0, 0, []),
  (157, .getfield 180, 3, 12, 55, 0, [1639]),
  (160, .bipush 120, 2, 120, 0, 0, []),
  (162, .iload_n 1, 1, 1, 0, 0, []),
  (163, .imul, 1, 0, 0, 0, []),
  (164, .iload_n 3, 1, 3, 0, 0, []),
  (165, .iadd, 1, 0, 0, 0, []),
  (166, .aload_n 0, 1, 0, 0, 0, []),
  (167, .getfield 180, 3, 12, 55, 0, [1639]),
  (170, .bipush 120, 2, 120, 0, 0, []),
  (172, .iload_n 2, 1, 2, 0, 0, []),
  (173, .imul, 1, 0, 0, 0, []),
  (174, .iload_n 3, 1, 3, 0, 0, []),
  (175, .iadd, 1, 0, 0, 0, []),
  (176, .iaload, 1, 0, 0, 0, []),
  (177, .iastore, 1, 0, 0, 0, []),
  (178, .iinc 3 1, 3, 3, 1, 0, []),
  (181, .goto (-37), 3, 144, 0, 0, []),
  (184, .return_, 1, 0, 0, 0, [])]
/-- GreyRoute.deny(I)Z -/
def rx_m61 : List rx_E := [(0, .aload_n 0, 1, 0, 0, 0, []),
  (1, .getfield 42, 3, 11, 5, 0, [793]),
  (4, .iload_n 1, 1, 1, 0, 0, []),
  (5, .dup2, 1, 0, 0, 0, []),
  (6, .iaload, 1, 0, 0, 0, []),
  (7, .iconst 1, 1, 1, 0, 0, []),
  (8, .iadd, 1, 0, 0, 0, []),
  (9, .iastore, 1, 0, 0, 0, []),
  (10, .iconst 0, 1, 0, 0, 0, []),
  (11, .ireturn, 1, 0, 0, 0, [])]
/-- GreyRouteModel.has(I)I -/
def rx_m62 : List rx_E := [(0, .iload_n 1, 1, 1, 0, 0, []),
  (1, .tableswitch 132 0 9 #[55, 65, 75, 85, 92, 99, 109, 116, 121, 126], 55, 133, 2147483648, 2147483657, [56, 66, 76, 86, 93, 100, 110, 117, 122, 127]),
  (56, .aload_n 0, 1, 0, 0, 0, []),
  (57, .getfield 54, 3, 12, 14, 0, [1598]),
  (60, .aload_n 0, 1, 0, 0, 0, []),
  (61, .getfield 51, 3, 12, 13, 0, [1597]),
  (64, .iaload, 1, 0, 0, 0, []),
  (65, .ireturn, 1, 0, 0, 0, []),
  (66, .aload_n 0, 1, 0, 0, 0, []),
  (67, .getfield 57, 3, 12, 15, 0, [1599]),
  (70, .aload_n 0, 1, 0, 0, 0, []),
  (71, .getfield 51, 3, 12, 13, 0, [1597]),
  (74, .iaload, 1, 0, 0, 0, []),
  (75, .ireturn, 1, 0, 0, 0, []),
  (76, .aload_n 0, 1, 0, 0, 0, []),
  (77, .getfield 81, 3, 12, 23, 0, [1607]),
  (80, .aload_n 0, 1, 0, 0, 0, []),
  (81, .getfield 51, 3, 12, 13, 0, [1597]),
  (84, .iaload, 1, 0, 0, 0, []),
  (85, .ireturn, 1, 0, 0, 0, []),
  (86, .aload_n 0, 1, 0, 0, 0, []),
  (87, .getfield 159, 3, 12, 48, 0, [1632]),
  (90, .iconst 0, 1, 0, 0, 0, []),
  (91, .iaload, 1, 0, 0, 0, []),
  (92, .ireturn, 1, 0, 0, 0, []),
  (93, .aload_n 0, 1, 0, 0, 0, []),
  (94, .getfield 168, 3, 12, 51, 0, [1635]),
  (97, .iconst 0, 1, 0, 0, 0, []),
  (98, .iaload, 1, 0, 0, 0, []),
  (99, .ireturn, 1, 0, 0, 0, []),
  (100, .aload_n 0, 1, 0, 0, 0, []),
  (101, .getfield 162, 3, 12, 49, 0, [1633]),
  (104, .iconst 0, 1, 0, 0, 0, []),
  (105, .iaload, 1, 0, 0, 0, []),
  (106, .invokestatic 505, 3, 151, 1, 0, [0, 0, 2072, 2073, 275]),
  (109, .ireturn, 1, 0, 0, 0, []),
  (110, .aload_n 0, 1, 0, 0, 0, []),
  (111, .getfield 177, 3, 12, 54, 0, [1638]),
  (114, .iconst 0, 1, 0, 0, 0, []),
  (115, .iaload, 1, 0, 0, 0, []),
  (116, .ireturn, 1, 0, 0, 0, []),
  (117, .aload_n 0, 1, 0, 0, 0, []),
  (118, .getfield 228, 3, 12, 71, 0, [1655]),
  (121, .ireturn, 1, 0, 0, 0, []),
  (122, .aload_n 0, 1, 0, 0, 0, []),
  (123, .getfield 186, 3, 12, 57, 0, [1641]),
  (126, .ireturn, 1, 0, 0, 0, []),
  (127, .aload_n 0, 1, 0, 0, 0, []),
  (128, .getfield 189, 3, 12, 58, 0, [1642]),
  (131, .l2i, 1, 0, 0, 0, []),
  (132, .ireturn, 1, 0, 0, 0, []),
  (133, .iconst (-1), 1, 4294967295, 0, 0, []),
  (134, .ireturn, 1, 0, 0, 0, [])]
/-- GreyRoute.year(I)I -/
def rx_m63 : List rx_E := [(0, .aload_n 0, 1, 0, 0, 0, []),
  (1, .invokevirtual 218, 3, 45, 1, 1, [11, 0, 1191, 1193, 257, 41]),
  (4, .iload_n 1, 1, 1, 0, 0, []),
  (5, .tableswitch 66 0 3 #[31, 42, 50, 58], 31, 71, 2147483648, 2147483651, [36, 47, 55, 63]),
  (36, .aload_n 0, 1, 0, 0, 0, []),
  (37, .getfield 85, 3, 11, 7, 0, [795]),
  (40, .getfield 221, 3, 2, 0, 0, [715]),
  (43, .getfield 144, 3, 5, 2, 0, [332]),
  (46, .ireturn, 1, 0, 0, 0, []),
  (47, .aload_n 0, 1, 0, 0, 0, []),
  (48, .getfield 85, 3, 11, 7, 0, [795]),
  (51, .getfield 222, 3, 2, 13, 0, [734]),
  (54, .ireturn, 1, 0, 0, 0, []),
  (55, .aload_n 0, 1, 0, 0, 0, []),
  (56, .getfield 85, 3, 11, 7, 0, [795]),
  (59, .getfield 225, 3, 2, 14, 0, [736]),
  (62, .ireturn, 1, 0, 0, 0, []),
  (63, .aload_n 0, 1, 0, 0, 0, []),
  (64, .getfield 85, 3, 11, 7, 0, [795]),
  (67, .getfield 228, 3, 2, 15, 0, [738]),
  (70, .ireturn, 1, 0, 0, 0, []),
  (71, .iconst (-1), 1, 4294967295, 0, 0, []),
  (72, .ireturn, 1, 0, 0, 0, [])]
/-- GreyRoute.goes(II)I -/
def rx_m64 : List rx_E := [(0, .aload_n 0, 1, 0, 0, 0, []),
  (1, .invokevirtual 218, 3, 45, 1, 1, [11, 0, 1191, 1193, 257, 41]),
  (4, .iload_n 1, 1, 1, 0, 0, []),
  (5, .ifCond .lt 17, 3, 22, 0, 0, []),
  (8, .iload_n 1, 1, 1, 0, 0, []),
  (9, .aload_n 0, 1, 0, 0, 0, []),
  (10, .getfield 85, 3, 11, 7, 0, [795]),
  (13, .getfield 221, 3, 2, 0, 0, [715]),
  (16, .getfield 144, 3, 5, 2, 0, [332]),
  (19, .if_icmp .lt 5, 3, 24, 0, 0, []),
  (22, .iconst (-1), 1, 4294967295, 0, 0, []),
  (23, .ireturn, 1, 0, 0, 0, []),
  (24, .iload_n 2, 1, 2, 0, 0, []),
  (25, .tableswitch 60 0 2 #[27, 40, 50], 27, 85, 2147483648, 2147483650, [52, 65, 75]),
  (52, .aload_n 0, 1, 0, 0, 0, []),
  (53, .getfield 85, 3, 11, 7, 0, [795]),
  (56, .getfield 221, 3, 2, 0, 0, [715]),
  (59, .getfield 212, 3, 5, 0, 0, [322]),
  (62, .iload_n 1, 1, 1, 0, 0, []),
  (63, .iaload, 1, 0, 0, 0, []),
  (64, .ireturn, 1, 0, 0, 0, []),
  (65, .aload_n 0, 1, 0, 0, 0, []),
  (66, .getfield 85, 3, 11, 7, 0, [795]),
  (69, .getfield 231, 3, 2, 1, 0, [717]),
  (72, .iload_n 1, 1, 1, 0, 0, []),
  (73, .iaload, 1, 0, 0, 0, []),
  (74, .ireturn, 1, 0, 0, 0, []),
  (75, .aload_n 0, 1, 0, 0, 0, []),
  (76, .getfield 85, 3, 11, 7, 0, [795]),
  (79, .getfield 234, 3, 2, 2, 0, [719]),
  (82, .iload_n 1, 1, 1, 0, 0, []),
  (83, .iaload, 1, 0, 0, 0, []),
  (84, .ireturn, 1, 0, 0, 0, []),
  (85, .iconst (-1), 1, 4294967295, 0, 0, []),
  (86, .ireturn, 1, 0, 0, 0, [])]
/-- GreyRouteModel.goes(II)I -/
def rx_m65 : List rx_E := [(0, .iload_n 2, 1, 2, 0, 0, []),
  (1, .iconst 0, 1, 0, 0, 0, []),
  (2, .iconst 2, 1, 2, 0, 0, []),
  (3, .invokestatic 337, 3, 8, 3, 0, [0, 0, 1959, 1960, 275]),
  (6, .ifCond .ne 5, 3, 11, 0, 0, []),
  (9, .iconst (-1), 1, 4294967295, 0, 0, []),
  (10, .ireturn, 1, 0, 0, 0, []),
  (11, .aload_n 0, 1, 0, 0, 0, []),
  (12, .iconst 0, 1, 0, 0, 0, []),
  (13, .aload_n 0, 1, 0, 0, 0, []),
  (14, .invokevirtual 513, 3, 12, 1, 1, [12, 0, 2109, 2111, 275, 95]),
  (17, .iconst 0, 1, 0, 0, 0, []),
  (18, .iconst 0, 1, 0, 0, 0, []),
  (19, .invokevirtual 493, 3, 13, 5, 1, [12, 0, 2113, 2115, 275, 96]),
  (22, .iload_n 1, 1, 1, 0, 0, []),
  (23, .iconst 0, 1, 0, 0, 0, []),
  (24, .aload_n 0, 1, 0, 0, 0, []),
  (25, .getfield 201, 3, 12, 62, 0, [1646]),
  (28, .iconst 1, 1, 1, 0, 0, []),
  (29, .isub, 1, 0, 0, 0, []),
  (30, .invokestatic 337, 3, 8, 3, 0, [0, 0, 1959, 1960, 275]),
  (33, .ifCond .ne 5, 3, 38, 0, 0, []),
  (36, .iconst (-1), 1, 4294967295, 0, 0, []),
  (37, .ireturn, 1, 0, 0, 0, []),
  (38, .iload_n 2, 1, 2, 0, 0, []),
  (39, .ifCond .ne 12, 3, 51, 0, 0, []),
  (42, .aload_n 0, 1, 0, 0, 0, []),
  (43, .getfield 204, 3, 12, 63, 0, [1647]),
  (46, .iload_n 1, 1, 1, 0, 0, []),
  (47, .iaload, 1, 0, 0, 0, []),
  (48, .goto 23, 3, 71, 0, 0, []),
  (51, .iload_n 2, 1, 2, 0, 0, []),
  (52, .iconst 1, 1, 1, 0, 0, []),
  (53, .if_icmp .ne 12, 3, 65, 0, 0, []),
  (56, .aload_n 0, 1, 0, 0, 0, []),
  (57, .getfield 210, 3, 12, 65, 0, [1649]),
  (60, .iload_n 1, 1, 1, 0, 0, []),
  (61, .iaload, 1, 0, 0, 0, []),
  (62, .goto 9, 3, 71, 0, 0, []),
  (65, .aload_n 0, 1, 0, 0, 0, []),
  (66, .getfield 213, 3, 12, 66, 0, [1650]),
  (69, .iload_n 1, 1, 1, 0, 0, []),
  (70, .iaload, 1, 0, 0, 0, []),
  (71, .ireturn, 1, 0, 0, 0, [])]
/-- GreyRoute.isThing(I)Z -/
def rx_m66 : List rx_E := [(0, .iload_n 1, 1, 1, 0, 0, []),
  (1, .ifCond .lt 18, 3, 19, 0, 0, []),
  (4, .iload_n 1, 1, 1, 0, 0, []),
  (5, .aload_n 0, 1, 0, 0, 0, []),
  (6, .getfield 49, 3, 11, 8, 0, [796]),
  (9, .getfield 134, 3, 8, 8, 0, [481]),
  (12, .if_icmp .ge 7, 3, 19, 0, 0, []),
  (15, .iconst 1, 1, 1, 0, 0, []),
  (16, .goto 4, 3, 20, 0, 0, []),
  (19, .iconst 0, 1, 0, 0, 0, []),
  (20, .ireturn, 1, 0, 0, 0, [])]
/-- GreyRouteModel.isPlace(I)Z -/
def rx_m67 : List rx_E := [(0, .iload_n 1, 1, 1, 0, 0, []),
  (1, .ifCond .lt 20, 3, 21, 0, 0, []),
  (4, .iload_n 1, 1, 1, 0, 0, []),
  (5, .aload_n 0, 1, 0, 0, 0, []),
  (6, .getfield 54, 3, 12, 14, 0, [1598]),
  (9, .aload_n 0, 1, 0, 0, 0, []),
  (10, .getfield 51, 3, 12, 13, 0, [1597]),
  (13, .iaload, 1, 0, 0, 0, []),
  (14, .if_icmp .ge 7, 3, 21, 0, 0, []),
  (17, .iconst 1, 1, 1, 0, 0, []),
  (18, .goto 4, 3, 22, 0, 0, []),
  (21, .iconst 0, 1, 0, 0, 0, []),
  (22, .ireturn, 1, 0, 0, 0, [])]
/-- GreyRouteModel.status(I)I -/
def rx_m68 : List rx_E := [(0, .iload_n 1, 1, 1, 0, 0, []),
  (1, .iconst 0, 1, 0, 0, 0, []),
  (2, .iconst 5, 1, 5, 0, 0, []),
  (3, .invokestatic 337, 3, 8, 3, 0, [0, 0, 1959, 1960, 275]),
  (6, .ifCond .eq 12, 3, 18, 0, 0, []),
  (9, .aload_n 0, 1, 0, 0, 0, []),
  (10, .getfield 156, 3, 12, 47, 0, [1631]),
  (13, .iload_n 1, 1, 1, 0, 0, []),
  (14, .iaload, 1, 0, 0, 0, []),
  (15, .goto 4, 3, 19, 0, 0, []),
  (18, .iconst (-1), 1, 4294967295, 0, 0, []),
  (19, .ireturn, 1, 0, 0, 0, [])]
/-- GreyRoute$Town.clear()V -/
def rx_m69 : List rx_E := [(0, .aload_n 0, 1, 0, 0, 0, []),
  (1, .iconst 0, 1, 0, 0, 0, []),
  (2, .putfield 9, 3, 8, 0, 0, [451]),
  (5, .aload_n 0, 1, 0, 0, 0, []),
  (6, .iconst 0, 1, 0, 0, 0, []),
  (7, .putfield 15, 3, 8, 1, 0, [454]),
  (10, .aload_n 0, 1, 0, 0, 0, []),
  (11, .iconst 0, 1, 0, 0, 0, []),
  (12, .putfield 22, 3, 8, 3, 0, [462]),
  (15, .aload_n 0, 1, 0, 0, 0, []),
  (16, .iconst 0, 1, 0, 0, 0, []),
  (17, .putfield 37, 3, 8, 8, 0, [477]),
  (20, .aload_n 0, 1, 0, 0, 0, []),
  (21, .getfield 34, 3, 8, 7, 0, [476]),
  (24, .iconst (-1), 1, 4294967295, 0, 0, []),
  (25, .invokestatic 77, 3, 23, 2, 0, [0, 0, 444, 445, 265]),
  (28, .aload_n 0, 1, 0, 0, 0, []),
  (29, .getfield 52, 3, 8, 12, 0, [489]),
  (32, .iconst 0, 1, 0, 0, 0, []),
  (33, .invokevirtual 83, 3, 70, 2, 1, [5, 0, 447, 448, 261, 449]),
  (36, .aload_n 0, 1, 0, 0, 0, []),
  (37, .bipush 20, 2, 20, 0, 0, []),
  (39, .putfield 56, 3, 8, 13, 0, [492]),
  (42, .aload_n 0, 1, 0, 0, 0, []),
  (43, .iconst 0, 1, 0, 0, 0, []),
  (44, .putfield 59, 3, 8, 14, 0, [495]),
  (47, .aload_n 0, 1, 0, 0, 0, []),
  (48, .iconst 0, 1, 0, 0, 0, []),
  (49, .putfield 65, 3, 8, 16, 0, [516]),
  (52, .aload_n 0, 1, 0, 0, 0, []),
  (53, .iconst (-1), 1, 4294967295, 0, 0, []),
  (54, .putfield 68, 3, 8, 17, 0, [518]),
  (57, .aload_n 0, 1, 0, 0, 0, []),
  (58, .iconst (-1), 1, 4294967295, 0, 0, []),
  (59, .putfield 71, 3, 8, 18, 0, [521]),
  (62, .return_, 1, 0, 0, 0, [])]
/-- GreyRoute$Route.cutTo(I)V -/
def rx_m70 : List rx_E := [(0, .iload_n 1, 1, 1, 0, 0, []),
  (1, .ifCond .lt 16, 3, 17, 0, 0, []),
  (4, .iload_n 1, 1, 1, 0, 0, []),
  (5, .aload_n 0, 1, 0, 0, 0, []),
  (6, .getfield 18, 3, 5, 2, 0, [327]),
  (9, .if_icmp .ge 8, 3, 17, 0, 0, []),
  (12, .aload_n 0, 1, 0, 0, 0, []),
  (13, .iload_n 1, 1, 1, 0, 0, []),
  (14, .putfield 18, 3, 5, 2, 0, [327]),
  (17, .return_, 1, 0, 0, 0, [])]
/-- GreyRoute.fault(I)I -/
def rx_m71 : List rx_E := [(0, .iload_n 1, 1, 1, 0, 0, []),
  (1, .ifCond .ne 8, 3, 9, 0, 0, []),
  (4, .aload_n 0, 1, 0, 0, 0, []),
  (5, .getfield 56, 3, 11, 10, 0, [798]),
  (8, .ireturn, 1, 0, 0, 0, []),
  (9, .iload_n 1, 1, 1, 0, 0, []),
  (10, .iconst 1, 1, 1, 0, 0, []),
  (11, .if_icmp .ne 10, 3, 21, 0, 0, []),
  (14, .aload_n 0, 1, 0, 0, 0, []),
  (15, .getfield 60, 3, 11, 11, 0, [799]),
  (18, .goto 4, 3, 22, 0, 0, []),
  (21, .iconst (-1), 1, 4294967295, 0, 0, []),
  (22, .ireturn, 1, 0, 0, 0, [])]
/-- GreyRoute$Bytes.at(I)I -/
def rx_m72 : List rx_E := [(0, .iload_n 1, 1, 1, 0, 0, []),
  (1, .ifCond .lt 24, 3, 25, 0, 0, []),
  (4, .iload_n 1, 1, 1, 0, 0, []),
  (5, .aload_n 0, 1, 0, 0, 0, []),
  (6, .getfield 9, 3, 0, 1, 0, [296]),
  (9, .if_icmp .ge 16, 3, 25, 0, 0, []),
  (12, .aload_n 0, 1, 0, 0, 0, []),
  (13, .getfield 21, 3, 0, 0, 0, [295]),
  (16, .iload_n 1, 1, 1, 0, 0, []),
  (17, .baload, 1, 0, 0, 0, []),
  (18, .sipush 255, 3, 255, 0, 0, []),
  (21, .iand, 1, 0, 0, 0, []),
  (22, .goto 4, 3, 26, 0, 0, []),
  (25, .iconst (-1), 1, 4294967295, 0, 0, []),
  (26, .ireturn, 1, 0, 0, 0, [])]
/-- GreyRoute$Bytes.<init>(I)V -/
def rx_m73 : List rx_E := [(0, .aload_n 0, 1, 0, 0, 0, []),
  (1, .invokespecial 3, 3, 0, 1, 3, [0, 0, 291, 284, 285]),
  (4, .aload_n 0, 1, 0, 0, 0, []),
  (5, .iconst 0, 1, 0, 0, 0, []),
  (6, .putfield 9, 3, 0, 1, 0, [296]),
  (9, .aload_n 0, 1, 0, 0, 0, []),
  (10, .iload_n 1, 1, 1, 0, 0, []),
  (11, .iconst 0, 1, 0, 0, 0, []),
  (12, .invokestatic 15, 3, 74, 2, 0, [0, 0, 292, 293, 259]),
  (15, .newarray .byte, 2, 1, 0, 0, [306]),
  (17, .putfield 21, 3, 0, 0, 4, [295]),
  (20, .return_, 1, 0, 0, 0, [])]
/-- java/lang/Math.max(II)I -/
def rx_m74 : List rx_E := [(0, .iload_n 0, 1, 0, 0, 0, []),
  (1, .iload_n 1, 1, 1, 0, 0, []),
  (2, .if_icmp .lt 7, 3, 9, 0, 0, []),
  (5, .iload_n 0, 1, 0, 0, 0, []),
  (6, .goto 4, 3, 10, 0, 0, []),
  (9, .iload_n 1, 1, 1, 0, 0, []),
  (10, .ireturn, 1, 0, 0, 0, [])]
/-- GreyRoute$Town.<init>()V -/
def rx_m75 : List rx_E := [(0, .aload_n 0, 1, 0, 0, 0, []),
  (1, .invokespecial 3, 3, 0, 1, 3, [0, 0, 437, 284, 285]),
  (4, .aload_n 0, 1, 0, 0, 0, []),
  (5, .iconst 0, 1, 0, 0, 0, []),
  (6, .putfield 9, 3, 8, 0, 0, [451]),
  (9, .aload_n 0, 1, 0, 0, 0, []),
  (10, .iconst 0, 1, 0, 0, 0, []),
  (11, .putfield 15, 3, 8, 1, 0, [454]),
  (14, .aload_n 0, 1, 0, 0, 0, []),
  (15, .bipush 8, 2, 8, 0, 0, []),
  (17, .newarray .int, 2, 0, 0, 0, [341]),
  (19, .putfield 18, 3, 8, 2, 4, [460]),
  (22, .aload_n 0, 1, 0, 0, 0, []),
  (23, .iconst 0, 1, 0, 0, 0, []),
  (24, .putfield 22, 3, 8, 3, 0, [462]),
  (27, .aload_n 0, 1, 0, 0, 0, []),
  (28, .bipush 14, 2, 14, 0, 0, []),
  (30, .newarray .int, 2, 0, 0, 0, [341]),
  (32, .putfield 25, 3, 8, 4, 4, [467]),
  (35, .aload_n 0, 1, 0, 0, 0, []),
  (36, .bipush 14, 2, 14, 0, 0, []),
  (38, .newarray .int, 2, 0, 0, 0, [341]),
  (40, .putfield 28, 3, 8, 5, 4, [470]),
  (43, .aload_n 0, 1, 0, 0, 0, []),
  (44, .bipush 14, 2, 14, 0, 0, []),
  (46, .newarray .int, 2, 0, 0, 0, [341]),
  (48, .putfield 31, 3, 8, 6, 4, [473]),
  (51, .aload_n 0, 1, 0, 0, 0, []),
  (52, .bipush 64, 2, 64, 0, 0, []),
  (54, .newarray .int, 2, 0, 0, 0, [341]),
  (56, .putfield 34, 3, 8, 7, 4, [476]),
  (59, .aload_n 0, 1, 0, 0, 0, []),
  (60, .iconst 0, 1, 0, 0, 0, []),
  (61, .putfield 37, 3, 8, 8, 0, [477]),
  (64, .aload_n 0, 1, 0, 0, 0, []),
  (65, .bipush 8, 2, 8, 0, 0, []),
  (67, .newarray .int, 2, 0, 0, 0, [341]),
  (69, .putfield 40, 3, 8, 9, 4, [482]),
  (72, .aload_n 0, 1, 0, 0, 0, []),
  (73, .bipush 8, 2, 8, 0, 0, []),
  (75, .newarray .int, 2, 0, 0, 0, [341]),
  (77, .putfield 43, 3, 8, 10, 4, [484]),
  (80, .aload_n 0, 1, 0, 0, 0, []),
  (81, .bipush 8, 2, 8, 0, 0, []),
  (83, .newarray .int, 2, 0, 0, 0, [341]),
  (85, .putfield 46, 3, 8, 11, 4, [486]),
  (88, .aload_n 0, 1, 0, 0, 0, []),
  (89, .new 49, 3, 5, 3, 0, [438, 314, 261]),
  (92, .dup, 1, 0, 0, 0, []),
  (93, .invokespecial 51, 3, 32, 1, 1, [5, 1, 439, 316, 261]),
  (96, .putfield 52, 3, 8, 12, 4, [489]),
  (99, .aload_n 0, 1, 0, 0, 0, []),
  (100, .iconst 0, 1, 0, 0, 0, []),
  (101, .putfield 56, 3, 8, 13, 0, [492]),
  (104, .aload_n 0, 1, 0, 0, 0, []),
  (105, .iconst 0, 1, 0, 0, 0, []),
  (106, .putfield 59, 3, 8, 14, 0, [495]),
  (109, .aload_n 0, 1, 0, 0, 0, []),
  (110, .sipush 1600, 3, 1600, 0, 0, []),
  (113, .newarray .int, 2, 0, 0, 0, [341]),
  (115, .putfield 62, 3, 8, 15, 4, [514]),
  (118, .aload_n 0, 1, 0, 0, 0, []),
  (119, .iconst 0, 1, 0, 0, 0, []),
  (120, .putfield 65, 3, 8, 16, 0, [516]),
  (123, .aload_n 0, 1, 0, 0, 0, []),
  (124, .iconst (-1), 1, 4294967295, 0, 0, []),
  (125, .putfield 68, 3, 8, 17, 0, [518]),
  (128, .aload_n 0, 1, 0, 0, 0, []),
  (129, .iconst (-1), 1, 4294967295, 0, 0, []),
  (130, .putfield 71, 3, 8, 18, 0, [521]),
  (133, .aload_n 0, 1, 0, 0, 0, []),
  (134, .invokevirtual 74, 3, 69, 1, 1, [8, 0, 440, 441, 264, 442]),
  (137, .return_, 1, 0, 0, 0, [])]
/-- GreyRoute.isStreet(I)Z -/
def rx_m76 : List rx_E := [(0, .iload_n 1, 1, 1, 0, 0, []),
  (1, .ifCond .lt 18, 3, 19, 0, 0, []),
  (4, .iload_n 1, 1, 1, 0, 0, []),
  (5, .aload_n 0, 1, 0, 0, 0, []),
  (6, .getfield 49, 3, 11, 8, 0, [796]),
  (9, .getfield 131, 3, 8, 3, 0, [466]),
  (12, .if_icmp .ge 7, 3, 19, 0, 0, []),
  (15, .iconst 1, 1, 1, 0, 0, []),
  (16, .goto 4, 3, 20, 0, 0, []),
  (19, .iconst 0, 1, 0, 0, 0, []),
  (20, .ireturn, 1, 0, 0, 0, [])]
/-- GreyRouteModel.year(I)I -/
def rx_m77 : List rx_E := [(0, .iload_n 1, 1, 1, 0, 0, []),
  (1, .iconst 0, 1, 0, 0, 0, []),
  (2, .iconst 3, 1, 3, 0, 0, []),
  (3, .invokestatic 337, 3, 8, 3, 0, [0, 0, 1959, 1960, 275]),
  (6, .ifCond .ne 5, 3, 11, 0, 0, []),
  (9, .iconst (-1), 1, 4294967295, 0, 0, []),
  (10, .ireturn, 1, 0, 0, 0, []),
  (11, .aload_n 0, 1, 0, 0, 0, []),
  (12, .iconst 0, 1, 0, 0, 0, []),
  (13, .aload_n 0, 1, 0, 0, 0, []),
  (14, .invokevirtual 513, 3, 12, 1, 1, [12, 0, 2109, 2111, 275, 95]),
  (17, .iconst 0, 1, 0, 0, 0, []),
  (18, .iconst 0, 1, 0, 0, 0, []),
  (19, .invokevirtual 493, 3, 13, 5, 1, [12, 0, 2113, 2115, 275, 96]),
  (22, .iload_n 1, 1, 1, 0, 0, []),
  (23, .ifCond .ne 8, 3, 31, 0, 0, []),
  (26, .aload_n 0, 1, 0, 0, 0, []),
  (27, .getfield 201, 3, 12, 62, 0, [1646]),
  (30, .ireturn, 1, 0, 0, 0, []),
  (31, .iload_n 1, 1, 1, 0, 0, []),
  (32, .iconst 1, 1, 1, 0, 0, []),
  (33, .if_icmp .ne 8, 3, 41, 0, 0, []),
  (36, .aload_n 0, 1, 0, 0, 0, []),
  (37, .getfield 216, 3, 12, 67, 0, [1651]),
  (40, .ireturn, 1, 0, 0, 0, []),
  (41, .iload_n 1, 1, 1, 0, 0, []),
  (42, .iconst 3, 1, 3, 0, 0, []),
  (43, .if_icmp .ne 8, 3, 51, 0, 0, []),
  (46, .aload_n 0, 1, 0, 0, 0, []),
  (47, .invokevirtual 489, 3, 152, 1, 1, [12, 0, 2157, 2159, 275, 104]),
  (50, .ireturn, 1, 0, 0, 0, []),
  (51, .iconst 0, 1, 0, 0, 0, []),
  (52, .istore_n 2, 1, 2, 0, 0, []),
  (53, .iconst 0, 1, 0, 0, 0, []),
  (54, .istore_n 3, 1, 3, 0, 0, []),
  (55, .iload_n 3, 1, 3, 0, 0, []),
  (56, .aload_n 0, 1, 0, 0, 0, []),
  (57, .getfield 201, 3, 12, 62, 0, [1646]),
  (60, .if_icmp .ge 18, 3, 78, 0, 0, []),
  (63, .iload_n 2, 1, 2, 0, 0, []),
  (64, .aload_n 0, 1, 0, 0, 0, []),
  (65, .getfield 210, 3, 12, 65, 0, [1649]),
  (68, .iload_n 3, 1, 3, 0, 0, []),
  (69, .iaload, 1, 0, 0, 0, []),
  (70, .iadd, 1, 0, 0, 0, []),
  (71, .istore_n 2, 1, 2, 0, 0, []),
  (72, .iinc 3 1, 3, 3, 1, 0, []),
  (75, .goto (-20), 3, 55, 0, 0, []),
  (78, .iload_n 2, 1, 2, 0, 0, []),
  (79, .ireturn, 1, 0, 0, 0, [])]
/-- GreyRoute.later(II)I -/
def rx_m78 : List rx_E := [(0, .iload_n 1, 1, 1, 0, 0, []),
  (1, .ifCond .lt 18, 3, 19, 0, 0, []),
  (4, .iload_n 1, 1, 1, 0, 0, []),
  (5, .bipush 40, 2, 40, 0, 0, []),
  (7, .if_icmp .ge 12, 3, 19, 0, 0, []),
  (10, .iload_n 2, 1, 2, 0, 0, []),
  (11, .ifCond .lt 8, 3, 19, 0, 0, []),
  (14, .iload_n 2, 1, 2, 0, 0, []),
  (15, .iconst 1, 1, 1, 0, 0, []),
  (16, .if_icmp .le 5, 3, 21, 0, 0, []),
  (19, .iconst (-1), 1, 4294967295, 0, 0, []),
  (20, .ireturn, 1, 0, 0, 0, []),
  (21, .aload_n 0, 1, 0, 0, 0, []),
  (22, .invokevirtual 218, 3, 45, 1, 1, [11, 0, 1191, 1193, 257, 41]),
  (25, .iconst 0, 1, 0, 0, 0, []),
  (26, .istore_n 3, 1, 3, 0, 0, []),
  (27, .iload_n 3, 1, 3, 0, 0, []),
  (28, .iload_n 1, 1, 1, 0, 0, []),
  (29, .if_icmp .ge 30, 3, 59, 0, 0, []),
  (32, .aload_n 0, 1, 0, 0, 0, []),
  (33, .getfield 85, 3, 11, 7, 0, [795]),
  (36, .invokevirtual 251, 3, 17, 1, 1, [2, 0, 1339, 1340, 272, 1341]),
  (39, .aload_n 0, 1, 0, 0, 0, []),
  (40, .getfield 85, 3, 11, 7, 0, [795]),
  (43, .aload_n 0, 1, 0, 0, 0, []),
  (44, .getfield 49, 3, 11, 8, 0, [796]),
  (47, .getfield 254, 3, 8, 13, 0, [494]),
  (50, .invokevirtual 257, 3, 10, 2, 1, [2, 0, 1210, 1211, 272, 1212]),
  (53, .iinc 3 1, 3, 3, 1, 0, []),
  (56, .goto (-29), 3, 27, 0, 0, []),
  (59, .iload_n 2, 1, 2, 0, 0, []),
  (60, .ifCond .ne 16, 3, 76, 0, 0, []),
  (63, .aload_n 0, 1, 0, 0, 0, []),
  (64, .getfield 85, 3, 11, 7, 0, [795]),
  (67, .getfield 221, 3, 2, 0, 0, [715]),
  (70, .getfield 144, 3, 5, 2, 0, [332]),
  (73, .goto 10, 3, 83, 0, 0, []),
  (76, .aload_n 0, 1, 0, 0, 0, []),
  (77, .getfield 85, 3, 11, 7, 0, [795]),
  (80, .getfield 222, 3, 2, 13, 0, [734]),
  (83, .ireturn, 1, 0, 0, 0, [])]
/-- GreyRouteModel.later(II)I -/
def rx_m79 : List rx_E := [(0, .aload_n 0, 1, 0, 0, 0, []),
  (1, .iload_n 1, 1, 1, 0, 0, []),
  (2, .iconst 0, 1, 0, 0, 0, []),
  (3, .bipush 39, 2, 39, 0, 0, []),
  (5, .invokevirtual 522, 3, 59, 4, 1, [12, 0, 2193, 2195, 275, 107]),
  (8, .ifCond .eq 12, 3, 20, 0, 0, []),
  (11, .iload_n 2, 1, 2, 0, 0, []),
  (12, .iconst 0, 1, 0, 0, 0, []),
  (13, .iconst 1, 1, 1, 0, 0, []),
  (14, .invokestatic 337, 3, 8, 3, 0, [0, 0, 1959, 1960, 275]),
  (17, .ifCond .ne 5, 3, 22, 0, 0, []),
  (20, .iconst (-1), 1, 4294967295, 0, 0, []),
  (21, .ireturn, 1, 0, 0, 0, []),
  (22, .aload_n 0, 1, 0, 0, 0, []),
  (23, .iconst 1, 1, 1, 0, 0, []),
  (24, .iconst 0, 1, 0, 0, 0, []),
  (25, .invokevirtual 441, 3, 60, 3, 1, [12, 0, 2064, 2066, 275, 92]),
  (28, .iconst 0, 1, 0, 0, 0, []),
  (29, .istore_n 3, 1, 3, 0, 0, []),
  (30, .iload_n 3, 1, 3, 0, 0, []),
  (31, .iload_n 1, 1, 1, 0, 0, []),
  (32, .if_icmp .ge 18, 3, 50, 0, 0, []),
  (35, .aload_n 0, 1, 0, 0, 0, []),
  (36, .iconst 1, 1, 1, 0, 0, []),
  (37, .aload_n 0, 1, 0, 0, 0, []),
  (38, .invokevirtual 513, 3, 12, 1, 1, [12, 0, 2109, 2111, 275, 95]),
  (41, .invokevirtual 525, 3, 19, 3, 1, [12, 0, 2197, 2199, 275, 108]),
  (44, .iinc 3 1, 3, 3, 1, 0, []),
  (47, .goto (-17), 3, 30, 0, 0, []),
  (50, .aload_n 0, 1, 0, 0, 0, []),
  (51, .iconst 1, 1, 1, 0, 0, []),
  (52, .aload_n 0, 1, 0, 0, 0, []),
  (53, .invokevirtual 513, 3, 12, 1, 1, [12, 0, 2109, 2111, 275, 95]),
  (56, .iconst 0, 1, 0, 0, 0, []),
  (57, .iconst 0, 1, 0, 0, 0, []),
  (58, .invokevirtual 493, 3, 13, 5, 1, [12, 0, 2113, 2115, 275, 96]),
  (61, .iload_n 2, 1, 2, 0, 0, []),
  (62, .ifCond .ne 10, 3, 72, 0, 0, []),
  (65, .aload_n 0, 1, 0, 0, 0, []),
  (66, .getfield 201, 3, 12, 62, 0, [1646]),
  (69, .goto 7, 3, 76, 0, 0, []),
  (72, .aload_n 0, 1, 0, 0, 0, []),
  (73, .getfield 216, 3, 12, 67, 0, [1651]),
  (76, .ireturn, 1, 0, 0, 0, [])]
/-- GreyRoute.canPass(I)Z -/
def rx_m80 : List rx_E := [(0, .iload_n 1, 1, 1, 0, 0, []),
  (1, .iconst 1, 1, 1, 0, 0, []),
  (2, .if_icmp .lt 28, 3, 30, 0, 0, []),
  (5, .iload_n 1, 1, 1, 0, 0, []),
  (6, .bipush 40, 2, 40, 0, 0, []),
  (8, .if_icmp .gt 22, 3, 30, 0, 0, []),
  (11, .aload_n 0, 1, 0, 0, 0, []),
  (12, .getfield 24, 3, 11, 2, 0, [790]),
  (15, .getfield 137, 3, 6, 0, 0, [344]),
  (18, .iload_n 1, 1, 1, 0, 0, []),
  (19, .iadd, 1, 0, 0, 0, []),
  (20, .sipush 999, 3, 999, 0, 0, []),
  (23, .if_icmp .gt 7, 3, 30, 0, 0, []),
  (26, .iconst 1, 1, 1, 0, 0, []),
  (27, .goto 4, 3, 31, 0, 0, []),
  (30, .iconst 0, 1, 0, 0, 0, []),
  (31, .ireturn, 1, 0, 0, 0, [])]
/-- GreyRoute$Past.remember(LGreyRoute$State;)V -/
def rx_m81 : List rx_E := [(0, .aload_n 0, 1, 0, 0, 0, []),
  (1, .getfield 23, 3, 3, 3, 0, [380]),
  (4, .aload_n 0, 1, 0, 0, 0, []),
  (5, .getfield 27, 3, 3, 4, 0, [381]),
  (8, .aaload, 1, 0, 0, 0, []),
  (9, .aload_n 1, 1, 1, 0, 0, []),
  (10, .invokevirtual 35, 3, 82, 2, 1, [6, 0, 1452, 1453, 260, 1454]),
  (13, .aload_n 0, 1, 0, 0, 0, []),
  (14, .aload_n 0, 1, 0, 0, 0, []),
  (15, .getfield 27, 3, 3, 4, 0, [381]),
  (18, .iconst 1, 1, 1, 0, 0, []),
  (19, .iadd, 1, 0, 0, 0, []),
  (20, .bipush 20, 2, 20, 0, 0, []),
  (22, .irem, 1, 0, 0, 0, []),
  (23, .putfield 27, 3, 3, 4, 0, [381]),
  (26, .aload_n 0, 1, 0, 0, 0, []),
  (27, .bipush 20, 2, 20, 0, 0, []),
  (29, .aload_n 0, 1, 0, 0, 0, []),
  (30, .getfield 31, 3, 3, 5, 0, [382]),
  (33, .iconst 1, 1, 1, 0, 0, []),
  (34, .iadd, 1, 0, 0, 0, []),
  (35, .invokestatic 39, 3, 16, 2, 0, [0, 0, 1456, 1132, 259]),
  (38, .putfield 31, 3, 3, 5, 0, [382]),
  (41, .return_, 1, 0, 0, 0, [])]
/-- GreyRoute$State.copy(LGreyRoute$State;)V -/
def rx_m82 : List rx_E := [(0, .aload_n 0, 1, 0, 0, 0, []),
  (1, .aload_n 1, 1, 1, 0, 0, []),
  (2, .getfield 9, 3, 6, 0, 0, [342]),
  (5, .putfield 9, 3, 6, 0, 0, [342]),
  (8, .aload_n 0, 1, 0, 0, 0, []),
  (9, .aload_n 1, 1, 1, 0, 0, []),
  (10, .getfield 15, 3, 6, 1, 0, [345]),
  (13, .putfield 15, 3, 6, 1, 0, [345]),
  (16, .aload_n 1, 1, 1, 0, 0, []),
  (17, .getfield 18, 3, 6, 2, 0, [348]),
  (20, .iconst 0, 1, 0, 0, 0, []),
  (21, .aload_n 0, 1, 0, 0, 0, []),
  (22, .getfield 18, 3, 6, 2, 0, [348]),
  (25, .iconst 0, 1, 0, 0, 0, []),
  (26, .bipush 8, 2, 8, 0, 0, []),
  (28, .invokestatic 35, 3, 0, 5, 4, [0, 0, 1097, 1099, 1098, 276]),
  (31, .aload_n 0, 1, 0, 0, 0, []),
  (32, .getfield 25, 3, 6, 3, 0, [351]),
  (35, .aload_n 1, 1, 1, 0, 0, []),
  (36, .getfield 25, 3, 6, 3, 0, [351]),
  (39, .invokevirtual 44, 3, 36, 2, 1, [5, 0, 1100, 1101, 261, 1102]),
  (42, .aload_n 0, 1, 0, 0, 0, []),
  (43, .aload_n 1, 1, 1, 0, 0, []),
  (44, .getfield 29, 3, 6, 4, 0, [354]),
  (47, .putfield 29, 3, 6, 4, 0, [354]),
  (50, .return_, 1, 0, 0, 0, [])]
/-- GreyRoute$Pageant.leaveIn(LGreyRoute$State;)V -/
def rx_m83 : List rx_E := [(0, .aload_n 1, 1, 1, 0, 0, []),
  (1, .aload_n 0, 1, 0, 0, 0, []),
  (2, .getfield 58, 3, 2, 12, 0, [730]),
  (5, .putfield 82, 3, 6, 0, 0, [343]),
  (8, .aload_n 1, 1, 1, 0, 0, []),
  (9, .getfield 85, 3, 6, 3, 0, [352]),
  (12, .aload_n 0, 1, 0, 0, 0, []),
  (13, .getfield 12, 3, 2, 0, 0, [713]),
  (16, .invokevirtual 86, 3, 36, 2, 1, [5, 0, 1203, 1101, 261, 1102]),
  (19, .return_, 1, 0, 0, 0, [])]
/-- GreyRouteModel.keeps()V -/
def rx_m84 : List rx_E := [(0, .aload_n 0, 1, 0, 0, 0, []),
  (1, .getfield 186, 3, 12, 57, 0, [1641]),
  (4, .bipush 20, 2, 20, 0, 0, []),
  (6, .if_icmp .ne 26, 3, 32, 0, 0, []),
  (9, .aload_n 0, 1, 0, 0, 0, []),
  (10, .aload_n 0, 1, 0, 0, 0, []),
  (11, .getfield 183, 3, 12, 56, 0, [1640]),
  (14, .iconst 1, 1, 1, 0, 0, []),
  (15, .iadd, 1, 0, 0, 0, []),
  (16, .bipush 20, 2, 20, 0, 0, []),
  (18, .irem, 1, 0, 0, 0, []),
  (19, .putfield 183, 3, 12, 56, 0, [1640]),
  (22, .aload_n 0, 1, 0, 0, 0, []),
  (23, .dup, 1, 0, 0, 0, []),
  (24, .getfield 186, 3, 12, 57, 0, [1641]),
  (27, .iconst 1, 1, 1, 0, 0, []),
  (28, .isub, 1, 0, 0, 0, []),
  (29, .putfield 186, 3, 12, 57, 0, [1641]),
  (32, .aload_n 0, 1, 0, 0, 0, []),
  (33, .aload_n 0, 1, 0, 0, 0, []),
  (34, .aload_n 0, 1, 0, 0, 0, []),
  (35, .getfield 186, 3, 12, 57, 0, [1641]),
  (38, .invokevirtual 438, 3, 85, 2, 1, [12, 0, 2060, 2062, 275, 91]),
  (41, .iconst 0, 1, 0, 0, 0, []),
  (42, .invokevirtual 441, 3, 60, 3, 1, [12, 0, 2064, 2066, 275, 92]),
  (45, .aload_n 0, 1, 0, 0, 0, []),
  (46, .dup, 1, 0, 0, 0, []),
  (47, .getfield 186, 3, 12, 57, 0, [1641]),
  (50, .iconst 1, 1, 1, 0, 0, []),
  (51, .iadd, 1, 0, 0, 0, []),
  (52, .putfield 186, 3, 12, 57, 0, [1641]),
  (55, .return_, 1, 0, 0, 0, [])]
/-- GreyRouteModel.slot(I)I -/
def rx_m85 : List rx_E := [(0, .iconst 2, 1, 2, 0, 0, []),
  (1, .aload_n 0, 1, 0, 0, 0, []),
  (2, .getfield 183, 3, 12, 56, 0, [1640]),
  (5, .iload_n 1, 1, 1, 0, 0, []),
  (6, .iadd, 1, 0, 0, 0, []),
  (7, .bipush 20, 2, 20, 0, 0, []),
  (9, .irem, 1, 0, 0, 0, []),
  (10, .iadd, 1, 0, 0, 0, []),
  (11, .ireturn, 1, 0, 0, 0, [])]
/-- GreyRoute$Bytes.putNumber(I)V -/
def rx_m86 : List rx_E := [(0, .aload_n 0, 1, 0, 0, 0, []),
  (1, .iload_n 1, 1, 1, 0, 0, []),
  (2, .bipush 24, 2, 24, 0, 0, []),
  (4, .ishr, 1, 0, 0, 0, []),
  (5, .invokevirtual 25, 3, 47, 2, 1, [0, 0, 840, 841, 258, 842]),
  (8, .aload_n 0, 1, 0, 0, 0, []),
  (9, .iload_n 1, 1, 1, 0, 0, []),
  (10, .bipush 16, 2, 16, 0, 0, []),
  (12, .ishr, 1, 0, 0, 0, []),
  (13, .invokevirtual 25, 3, 47, 2, 1, [0, 0, 840, 841, 258, 842]),
  (16, .aload_n 0, 1, 0, 0, 0, []),
  (17, .iload_n 1, 1, 1, 0, 0, []),
  (18, .bipush 8, 2, 8, 0, 0, []),
  (20, .ishr, 1, 0, 0, 0, []),
  (21, .invokevirtual 25, 3, 47, 2, 1, [0, 0, 840, 841, 258, 842]),
  (24, .aload_n 0, 1, 0, 0, 0, []),
  (25, .iload_n 1, 1, 1, 0, 0, []),
  (26, .invokevirtual 25, 3, 47, 2, 1, [0, 0, 840, 841, 258, 842]),
  (29, .return_, 1, 0, 0, 0, [])]
/-- GreyRouteModel.put(I)V -/
def rx_m87 : List rx_E := [(0, .bipush 24, 2, 24, 0, 0, []),
  (2, .istore_n 2, 1, 2, 0, 0, []),
  (3, .iload_n 2, 1, 2, 0, 0, []),
  (4, .ifCond .lt 35, 3, 39, 0, 0, []),
  (7, .aload_n 0, 1, 0, 0, 0, []),
  (8, .getfield 7, 3, 12, 0, 0, [1584]),
  (11, .aload_n 0, 1, 0, 0, 0, []),
  (12, .getfield 13, 3, 12, 1, 0, [1585]),
  (15, .iload_n 1, 1, 1, 0, 0, []),
  (16, .iload_n 2, 1, 2, 0, 0, []),
  (17, .ishr, 1, 0, 0, 0, []),
  (18, .sipush 255, 3, 255, 0, 0, []),
  (21, .iand, 1, 0, 0, 0, []),
  (22, .iastore, 1, 0, 0, 0, []),
  (23, .aload_n 0, 1, 0, 0, 0, []),
  (24, .dup, 1, 0, 0, 0, []),
  (25, .getfield 13, 3, 12, 1, 0, [1585]),
  (28, .iconst 1, 1, 1, 0, 0, []),
  (29, .iadd, 1, 0, 0, 0, []),
  (30, .putfield 13, 3, 12, 1, 0, [1585]),
  (33, .iinc 2 (-8), 3, 2, 4294967288, 0, []),
  (36, .goto (-33), 3, 3, 0, 0, []),
  (39, .return_, 1, 0, 0, 0, [])]
/-- GreyRoute.end(I)Z -/
def rx_m88 : List rx_E := [(0, .iload_n 1, 1, 1, 0, 0, []),
  (1, .ifCond .lt 14, 3, 15, 0, 0, []),
  (4, .iload_n 1, 1, 1, 0, 0, []),
  (5, .aload_n 0, 1, 0, 0, 0, []),
  (6, .getfield 14, 3, 11, 0, 0, [788]),
  (9, .getfield 89, 3, 0, 1, 0, [297]),
  (12, .if_icmp .le 9, 3, 21, 0, 0, []),
  (15, .aload_n 0, 1, 0, 0, 0, []),
  (16, .iconst 0, 1, 0, 0, 0, []),
  (17, .invokevirtual 99, 3, 61, 2, 1, [11, 0, 848, 850, 257, 2]),
  (20, .ireturn, 1, 0, 0, 0, []),
  (21, .aload_n 0, 1, 0, 0, 0, []),
  (22, .getfield 14, 3, 11, 0, 0, [788]),
  (25, .iload_n 1, 1, 1, 0, 0, []),
  (26, .invokevirtual 103, 3, 89, 2, 1, [0, 0, 852, 853, 258, 854]),
  (29, .iconst 1, 1, 1, 0, 0, []),
  (30, .ireturn, 1, 0, 0, 0, [])]
/-- GreyRoute$Bytes.cut(I)V -/
def rx_m89 : List rx_E := [(0, .iload_n 1, 1, 1, 0, 0, []),
  (1, .ifCond .lt 16, 3, 17, 0, 0, []),
  (4, .iload_n 1, 1, 1, 0, 0, []),
  (5, .aload_n 0, 1, 0, 0, 0, []),
  (6, .getfield 9, 3, 0, 1, 0, [296]),
  (9, .if_icmp .ge 8, 3, 17, 0, 0, []),
  (12, .aload_n 0, 1, 0, 0, 0, []),
  (13, .iload_n 1, 1, 1, 0, 0, []),
  (14, .putfield 9, 3, 0, 1, 0, [296]),
  (17, .return_, 1, 0, 0, 0, [])]
/-- GreyRoute.away(I)I -/
def rx_m90 : List rx_E := [(0, .iload_n 1, 1, 1, 0, 0, []),
  (1, .ifCond .lt 9, 3, 10, 0, 0, []),
  (4, .iload_n 1, 1, 1, 0, 0, []),
  (5, .bipush 60, 2, 60, 0, 0, []),
  (7, .if_icmp .le 5, 3, 12, 0, 0, []),
  (10, .iconst (-1), 1, 4294967295, 0, 0, []),
  (11, .ireturn, 1, 0, 0, 0, []),
  (12, .aload_n 0, 1, 0, 0, 0, []),
  (13, .invokevirtual 218, 3, 45, 1, 1, [11, 0, 1191, 1193, 257, 41]),
  (16, .iconst 1, 1, 1, 0, 0, []),
  (17, .aload_n 0, 1, 0, 0, 0, []),
  (18, .getfield 49, 3, 11, 8, 0, [796]),
  (21, .getfield 134, 3, 8, 8, 0, [481]),
  (24, .ishl, 1, 0, 0, 0, []),
  (25, .istore_n 2, 1, 2, 0, 0, []),
  (26, .iconst 0, 1, 0, 0, 0, []),
  (27, .istore_n 3, 1, 3, 0, 0, []),
  (28, .iload_n 3, 1, 3, 0, 0, []),
  (29, .aload_n 0, 1, 0, 0, 0, []),
  (30, .getfield 49, 3, 11, 8, 0, [796]),
  (33, .getfield 134, 3, 8, 8, 0, [481]),
  (36, .if_icmp .gt 53, 3, 89, 0, 0, []),
  (39, .iconst 0, 1, 0, 0, 0, []),
  (40, .istore 4, 2, 4, 0, 0, []),
  (42, .iload 4, 2, 4, 0, 0, []),
  (44, .iload_n 2, 1, 2, 0, 0, []),
  (45, .if_icmp .ge 38, 3, 83, 0, 0, []),
  (48, .iload 4, 2, 4, 0, 0, []),
  (50, .invokestatic 152, 3, 124, 1, 0, [0, 0, 1121, 1122, 277]),
  (53, .iload_n 3, 1, 3, 0, 0, []),
  (54, .if_icmp .ne 23, 3, 77, 0, 0, []),
  (57, .aload_n 0, 1, 0, 0, 0, []),
  (58, .getfield 85, 3, 11, 7, 0, [795]),
  (61, .iload_n 1, 1, 1, 0, 0, []),
  (62, .aload_n 0, 1, 0, 0, 0, []),
  (63, .getfield 24, 3, 11, 2, 0, [790]),
  (66, .iload 4, 2, 4, 0, 0, []),
  (68, .invokevirtual 237, 3, 155, 4, 1, [2, 0, 1307, 1308, 272, 1309]),
  (71, .ifCond .eq 6, 3, 77, 0, 0, []),
  (74, .iload 4, 2, 4, 0, 0, []),
  (76, .ireturn, 1, 0, 0, 0, []),
  (77, .iinc 4 1, 3, 4, 1, 0, []),
  (80, .goto (-38), 3, 42, 0, 0, []),
  (83, .iinc 3 1, 3, 3, 1, 0, []),
  (86, .goto (-58), 3, 28, 0, 0, []),
  (89, .iconst (-1), 1, 4294967295, 0, 0, []),
  (90, .ireturn, 1, 0, 0, 0, [])]
/-- GreyRoute.seats(I)I -/
def rx_m91 : List rx_E := [(0, .iload_n 1, 1, 1, 0, 0, []),
  (1, .iconst 1, 1, 1, 0, 0, []),
  (2, .if_icmp .lt 19, 3, 21, 0, 0, []),
  (5, .iload_n 1, 1, 1, 0, 0, []),
  (6, .iconst 3, 1, 3, 0, 0, []),
  (7, .if_icmp .gt 14, 3, 21, 0, 0, []),
  (10, .iload_n 1, 1, 1, 0, 0, []),
  (11, .aload_n 0, 1, 0, 0, 0, []),
  (12, .getfield 49, 3, 11, 8, 0, [796]),
  (15, .getfield 128, 3, 8, 1, 0, [458]),
  (18, .if_icmp .le 5, 3, 23, 0, 0, []),
  (21, .iconst (-1), 1, 4294967295, 0, 0, []),
  (22, .ireturn, 1, 0, 0, 0, []),
  (23, .aload_n 0, 1, 0, 0, 0, []),
  (24, .invokevirtual 218, 3, 45, 1, 1, [11, 0, 1191, 1193, 257, 41]),
  (27, .aload_n 0, 1, 0, 0, 0, []),
  (28, .getfield 85, 3, 11, 7, 0, [795]),
  (31, .invokevirtual 245, 3, 999, 1, 9, []),
  (34, .iconst (-1), 1, 4294967295, 0, 0, []),
  (35, .istore_n 2, 1, 2, 0, 0, []),
  (36, .iconst (-1), 1, 4294967295, 0, 0, []),
  (37, .istore_n 3, 1, 3, 0, 0, []),
  (38, .iconst 0, 1, 0, 0, 0, []),
  (39, .istore 4, 2, 4, 0, 0, []),
  (41, .iload 4, 2, 4, 0, 0, []),
  (43, .iconst 1, 1, 1, 0, 0, []),
  (44, .aload_n 0, 1, 0, 0, 0, []),
  (45, .getfield 49, 3, 11, 8, 0, [796]),
  (48, .getfield 128, 3, 8, 1, 0, [458]),
  (51, .ishl, 1, 0, 0, 0, []),
  (52, .if_icmp .ge 44, 3, 96, 0, 0, []),
  (55, .iload 4, 2, 4, 0, 0, []),
  (57, .invokestatic 152, 3, 124, 1, 0, [0, 0, 1121, 1122, 277]),
  (60, .iload_n 1, 1, 1, 0, 0, []),
  (61, .if_icmp .ne 29, 3, 90, 0, 0, []),
  (64, .aload_n 0, 1, 0, 0, 0, []),
  (65, .getfield 85, 3, 11, 7, 0, [795]),
  (68, .iload 4, 2, 4, 0, 0, []),
  (70, .invokevirtual 248, 3, 999, 2, 9, []),
  (73, .iload_n 3, 1, 3, 0, 0, []),
  (74, .if_icmp .le 16, 3, 90, 0, 0, []),
  (77, .iload 4, 2, 4, 0, 0, []),
  (79, .istore_n 2, 1, 2, 0, 0, []),
  (80, .aload_n 0, 1, 0, 0, 0, []),
  (81, .getfield 85, 3, 11, 7, 0, [795]),
  (84, .iload 4, 2, 4, 0, 0, []),
  (86, .invokevirtual 248, 3, 999, 2, 9, []),
  (89, .istore_n 3, 1, 3, 0, 0, []),
  (90, .iinc 4 1, 3, 4, 1, 0, []),
  (93, .goto (-52), 3, 41, 0, 0, []),
  (96, .iload_n 2, 1, 2, 0, 0, []),
  (97, .ireturn, 1, 0, 0, 0, [])]
/-- GreyRouteModel.fault(I)I -/
def rx_m92 : List rx_E := [(0, .iload_n 1, 1, 1, 0, 0, []),
  (1, .ifCond .ne 10, 3, 11, 0, 0, []),
  (4, .aload_n 0, 1, 0, 0, 0, []),
  (5, .getfield 42, 3, 12, 10, 0, [1594]),
  (8, .goto 16, 3, 24, 0, 0, []),
  (11, .iload_n 1, 1, 1, 0, 0, []),
  (12, .iconst 1, 1, 1, 0, 0, []),
  (13, .if_icmp .ne 10, 3, 23, 0, 0, []),
  (16, .aload_n 0, 1, 0, 0, 0, []),
  (17, .getfield 45, 3, 12, 11, 0, [1595]),
  (20, .goto 4, 3, 24, 0, 0, []),
  (23, .iconst (-1), 1, 4294967295, 0, 0, []),
  (24, .ireturn, 1, 0, 0, 0, [])]
/-- GreyRoute.toldAsKept()I -/
def rx_m93 : List rx_E := [(0, .aload_n 0, 1, 0, 0, 0, []),
  (1, .getfield 24, 3, 11, 2, 0, [790]),
  (4, .getfield 333, 3, 6, 4, 0, [356]),
  (7, .bipush 40, 2, 40, 0, 0, []),
  (9, .invokestatic 352, 3, 16, 2, 0, [0, 0, 1131, 1132, 259]),
  (12, .ireturn, 1, 0, 0, 0, [])]
/-- GreyRouteModel.writes(I)V -/
def rx_m94 : List rx_E := [(0, .aload_n 0, 1, 0, 0, 0, []),
  (1, .getfield 243, 3, 12, 76, 0, [1660]),
  (4, .aload_n 0, 1, 0, 0, 0, []),
  (5, .getfield 246, 3, 12, 77, 0, [1661]),
  (8, .iload_n 1, 1, 1, 0, 0, []),
  (9, .sipush 255, 3, 255, 0, 0, []),
  (12, .iand, 1, 0, 0, 0, []),
  (13, .iastore, 1, 0, 0, 0, []),
  (14, .aload_n 0, 1, 0, 0, 0, []),
  (15, .dup, 1, 0, 0, 0, []),
  (16, .getfield 246, 3, 12, 77, 0, [1661]),
  (19, .iconst 1, 1, 1, 0, 0, []),
  (20, .iadd, 1, 0, 0, 0, []),
  (21, .putfield 246, 3, 12, 77, 0, [1661]),
  (24, .return_, 1, 0, 0, 0, [])]
/-- GreyRoute.<init>()V -/
def rx_m95 : List rx_E := [(0, .aload_n 0, 1, 0, 0, 0, []),
  (1, .invokespecial 3, 3, 0, 1, 3, [0, 0, 283, 284, 285]),
  (4, .aload_n 0, 1, 0, 0, 0, []),
  (5, .new 9, 3, 0, 2, 0, [286, 287, 258]),
  (8, .dup, 1, 0, 0, 0, []),
  (9, .sipush 1600, 3, 1600, 0, 0, []),
  (12, .invokespecial 11, 3, 73, 2, 1, [0, 0, 288, 289, 258]),
  (15, .putfield 14, 3, 11, 0, 4, [788]),
  (18, .aload_n 0, 1, 0, 0, 0, []),
  (19, .new 9, 3, 0, 2, 0, [286, 287, 258]),
  (22, .dup, 1, 0, 0, 0, []),
  (23, .bipush 86, 2, 86, 0, 0, []),
  (25, .invokespecial 11, 3, 73, 2, 1, [0, 0, 288, 289, 258]),
  (28, .putfield 18, 3, 11, 1, 4, [789]),
  (31, .aload_n 0, 1, 0, 0, 0, []),
  (32, .new 21, 3, 6, 5, 0, [307, 308, 260]),
  (35, .dup, 1, 0, 0, 0, []),
  (36, .invokespecial 23, 3, 33, 1, 1, [6, 1, 309, 310, 260]),
  (39, .putfield 24, 3, 11, 2, 4, [790]),
  (42, .aload_n 0, 1, 0, 0, 0, []),
  (43, .new 28, 3, 3, 6, 0, [368, 369, 262]),
  (46, .dup, 1, 0, 0, 0, []),
  (47, .invokespecial 30, 3, 96, 1, 1, [3, 0, 370, 371, 262]),
  (50, .putfield 31, 3, 11, 3, 4, [791]),
  (53, .aload_n 0, 1, 0, 0, 0, []),
  (54, .new 35, 3, 1, 8, 0, [397, 398, 263]),
  (57, .dup, 1, 0, 0, 0, []),
  (58, .invokespecial 37, 3, 97, 1, 1, [1, 1, 399, 400, 263]),
  (61, .putfield 38, 3, 11, 4, 4, [792]),
  (64, .aload_n 0, 1, 0, 0, 0, []),
  (65, .bipush 6, 2, 6, 0, 0, []),
  (67, .newarray .int, 2, 0, 0, 0, [341]),
  (69, .putfield 42, 3, 11, 5, 4, [793]),
  (72, .aload_n 0, 1, 0, 0, 0, []),
  (73, .new 46, 3, 8, 19, 0, [432, 433, 264]),
  (76, .dup, 1, 0, 0, 0, []),
  (77, .invokespecial 48, 3, 75, 1, 1, [8, 0, 434, 435, 264]),
  (80, .putfield 49, 3, 11, 8, 4, [796]),
  (83, .aload_n 0, 1, 0, 0, 0, []),
  (84, .new 46, 3, 8, 19, 0, [432, 433, 264]),
  (87, .dup, 1, 0, 0, 0, []),
  (88, .invokespecial 48, 3, 75, 1, 1, [8, 0, 434, 435, 264]),
  (91, .putfield 53, 3, 11, 9, 4, [797]),
  (94, .aload_n 0, 1, 0, 0, 0, []),
  (95, .iconst 0, 1, 0, 0, 0, []),
  (96, .putfield 56, 3, 11, 10, 0, [798]),
  (99, .aload_n 0, 1, 0, 0, 0, []),
  (100, .iconst (-1), 1, 4294967295, 0, 0, []),
  (101, .putfield 60, 3, 11, 11, 0, [799]),
  (104, .aload_n 0, 1, 0, 0, 0, []),
  (105, .iconst 1, 1, 1, 0, 0, []),
  (106, .putfield 63, 3, 11, 12, 0, [800]),
  (109, .aload_n 0, 1, 0, 0, 0, []),
  (110, .new 66, 3, 4, 5, 0, [563, 564, 266]),
  (113, .dup, 1, 0, 0, 0, []),
  (114, .new 68, 3, 10, 7, 0, [565, 566, 267]),
  (117, .dup, 1, 0, 0, 0, []),
  (118, .aload_n 0, 1, 0, 0, 0, []),
  (119, .getfield 14, 3, 11, 0, 0, [788]),
  (122, .invokespecial 70, 3, 98, 2, 1, [10, 0, 567, 568, 267]),
  (125, .aload_n 0, 1, 0, 0, 0, []),
  (126, .getfield 53, 3, 11, 9, 0, [797]),
  (129, .invokespecial 73, 3, 100, 3, 1, [4, 0, 656, 657, 266]),
  (132, .putfield 76, 3, 11, 6, 4, [794]),
  (135, .aload_n 0, 1, 0, 0, 0, []),
  (136, .new 80, 3, 2, 16, 0, [678, 679, 272]),
  (139, .dup, 1, 0, 0, 0, []),
  (140, .aload_n 0, 1, 0, 0, 0, []),
  (141, .getfield 49, 3, 11, 8, 0, [796]),
  (144, .invokespecial 82, 3, 101, 2, 1, [2, 0, 680, 681, 272]),
  (147, .putfield 85, 3, 11, 7, 4, [795]),
  (150, .return_, 1, 0, 0, 0, [])]
/-- GreyRoute$Past.<init>()V -/
def rx_m96 : List rx_E := [(0, .aload_n 0, 1, 0, 0, 0, []),
  (1, .invokespecial 3, 3, 0, 1, 3, [0, 0, 373, 284, 285]),
  (4, .aload_n 0, 1, 0, 0, 0, []),
  (5, .sipush 840, 3, 840, 0, 0, []),
  (8, .newarray .int, 2, 0, 0, 0, [341]),
  (10, .putfield 11, 3, 3, 0, 4, [377]),
  (13, .aload_n 0, 1, 0, 0, 0, []),
  (14, .sipush 840, 3, 840, 0, 0, []),
  (17, .newarray .int, 2, 0, 0, 0, [341]),
  (19, .putfield 15, 3, 3, 1, 4, [378]),
  (22, .aload_n 0, 1, 0, 0, 0, []),
  (23, .sipush 840, 3, 840, 0, 0, []),
  (26, .newarray .int, 2, 0, 0, 0, [341]),
  (28, .putfield 18, 3, 3, 2, 4, [379]),
  (31, .aload_n 0, 1, 0, 0, 0, []),
  (32, .bipush 20, 2, 20, 0, 0, []),
  (34, .anewarray 21, 3, 4, 0, 0, [374]),
  (37, .putfield 23, 3, 3, 3, 4, [380]),
  (40, .aload_n 0, 1, 0, 0, 0, []),
  (41, .iconst 0, 1, 0, 0, 0, []),
  (42, .putfield 27, 3, 3, 4, 0, [381]),
  (45, .aload_n 0, 1, 0, 0, 0, []),
  (46, .iconst 0, 1, 0, 0, 0, []),
  (47, .putfield 31, 3, 3, 5, 0, [382]),
  (50, .iconst 0, 1, 0, 0, 0, []),
  (51, .istore_n 1, 1, 1, 0, 0, []),
  (52, .iload_n 1, 1, 1, 0, 0, []),
  (53, .aload_n 0, 1, 0, 0, 0, []),
  (54, .getfield 23, 3, 3, 3, 0, [380]),
  (57, .arraylength, 1, 0, 0, 0, []),
  (58, .if_icmp .ge 22, 3, 80, 0, 0, []),
  (61, .aload_n 0, 1, 0, 0, 0, []),
  (62, .getfield 23, 3, 3, 3, 0, [380]),
  (65, .iload_n 1, 1, 1, 0, 0, []),
  (66, .new 21, 3, 6, 5, 0, [374, 308, 260]),
  (69, .dup, 1, 0, 0, 0, []),
  (70, .invokespecial 34, 3, 33, 1, 1, [6, 1, 376, 310, 260]),
  (73, .aastore, 1, 6, 0, 0, []),
  (74, .iinc 1 1, 3, 1, 1, 0, []),
  (77, .goto (-25), 3, 52, 0, 0, []),
  (80, .return_, 1, 0, 0, 0, [])]
/-- GreyRoute$Half.<init>()V -/
def rx_m97 : List rx_E := [(0, .aload_n 0, 1, 0, 0, 0, []),
  (1, .invokespecial 3, 3, 0, 1, 3, [0, 0, 402, 284, 285]),
  (4, .aload_n 0, 1, 0, 0, 0, []),
  (5, .bipush 20, 2, 20, 0, 0, []),
  (7, .newarray .int, 2, 0, 0, 0, [341]),
  (9, .putfield 9, 3, 1, 0, 4, [403]),
  (12, .aload_n 0, 1, 0, 0, 0, []),
  (13, .bipush 20, 2, 20, 0, 0, []),
  (15, .newarray .int, 2, 0, 0, 0, [341]),
  (17, .putfield 15, 3, 1, 1, 4, [404]),
  (20, .aload_n 0, 1, 0, 0, 0, []),
  (21, .bipush 20, 2, 20, 0, 0, []),
  (23, .newarray .int, 2, 0, 0, 0, [341]),
  (25, .putfield 18, 3, 1, 2, 4, [405]),
  (28, .aload_n 0, 1, 0, 0, 0, []),
  (29, .sipush 160, 3, 160, 0, 0, []),
  (32, .newarray .long, 2, 3, 0, 0, [431]),
  (34, .putfield 21, 3, 1, 3, 4, [406]),
  (37, .aload_n 0, 1, 0, 0, 0, []),
  (38, .sipush 160, 3, 160, 0, 0, []),
  (41, .newarray .long, 2, 3, 0, 0, [431]),
  (43, .putfield 25, 3, 1, 4, 4, [407]),
  (46, .aload_n 0, 1, 0, 0, 0, []),
  (47, .iconst 0, 1, 0, 0, 0, []),
  (48, .putfield 28, 3, 1, 5, 0, [408]),
  (51, .aload_n 0, 1, 0, 0, 0, []),
  (52, .iconst (-1), 1, 4294967295, 0, 0, []),
  (53, .putfield 32, 3, 1, 6, 0, [410]),
  (56, .aload_n 0, 1, 0, 0, 0, []),
  (57, .lconst 0, 1, 0, 0, 0, []),
  (58, .putfield 35, 3, 1, 7, 3, [412]),
  (61, .return_, 1, 0, 0, 0, [])]
/-- GreyRoute$Words.<init>(LGreyRoute$Bytes;)V -/
def rx_m98 : List rx_E := [(0, .aload_n 0, 1, 0, 0, 0, []),
  (1, .invokespecial 3, 3, 0, 1, 3, [0, 0, 570, 284, 285]),
  (4, .aload_n 0, 1, 0, 0, 0, []),
  (5, .bipush 26, 2, 26, 0, 0, []),
  (7, .newarray .int, 2, 0, 0, 0, [341]),
  (9, .putfield 9, 3, 10, 1, 4, [631]),
  (12, .aload_n 0, 1, 0, 0, 0, []),
  (13, .iconst 0, 1, 0, 0, 0, []),
  (14, .putfield 15, 3, 10, 2, 0, [632]),
  (17, .aload_n 0, 1, 0, 0, 0, []),
  (18, .iconst 0, 1, 0, 0, 0, []),
  (19, .putfield 19, 3, 10, 3, 0, [633]),
  (22, .aload_n 0, 1, 0, 0, 0, []),
  (23, .iconst 0, 1, 0, 0, 0, []),
  (24, .putfield 22, 3, 10, 4, 0, [635]),
  (27, .aload_n 0, 1, 0, 0, 0, []),
  (28, .iconst 0, 1, 0, 0, 0, []),
  (29, .putfield 25, 3, 10, 5, 0, [637]),
  (32, .aload_n 0, 1, 0, 0, 0, []),
  (33, .iconst 0, 1, 0, 0, 0, []),
  (34, .putfield 28, 3, 10, 6, 0, [639]),
  (37, .aload_n 0, 1, 0, 0, 0, []),
  (38, .aload_n 1, 1, 1, 0, 0, []),
  (39, .putfield 31, 3, 10, 0, 4, [630]),
  (42, .aload_n 0, 1, 0, 0, 0, []),
  (43, .invokevirtual 35, 3, 99, 1, 1, [10, 0, 571, 573, 267, 0]),
  (46, .return_, 1, 0, 0, 0, [])]
/-- GreyRoute$Words.packOwnWords()V -/
def rx_m99 : List rx_E := [(0, .iconst 0, 1, 0, 0, 0, []),
  (1, .istore_n 1, 1, 1, 0, 0, []),
  (2, .iconst 0, 1, 0, 0, 0, []),
  (3, .istore_n 2, 1, 2, 0, 0, []),
  (4, .iconst 0, 1, 0, 0, 0, []),
  (5, .istore_n 3, 1, 3, 0, 0, []),
  (6, .iconst 0, 1, 0, 0, 0, []),
  (7, .istore 4, 2, 4, 0, 0, []),
  (9, .iload 4, 2, 4, 0, 0, []),
  (11, .ldc 38, 2, 1, 1, 0, [575]),
  (13, .invokevirtual 40, 3, 1, 1, 2, [0, 0, 576, 577, 268, 578]),
  (16, .if_icmp .gt 83, 3, 99, 0, 0, []),
  (19, .iload 4, 2, 4, 0, 0, []),
  (21, .ldc 38, 2, 1, 1, 0, [575]),
  (23, .invokevirtual 40, 3, 1, 1, 2, [0, 0, 576, 577, 268, 578]),
  (26, .if_icmp .ge 13, 3, 39, 0, 0, []),
  (29, .ldc 38, 2, 1, 1, 0, [575]),
  (31, .iload 4, 2, 4, 0, 0, []),
  (33, .invokevirtual 46, 3, 3, 2, 2, [0, 0, 586, 587, 268, 588]),
  (36, .goto 5, 3, 41, 0, 0, []),
  (39, .bipush 32, 2, 32, 0, 0, []),
  (41, .istore 5, 2, 5, 0, 0, []),
  (43, .iload 5, 2, 5, 0, 0, []),
  (45, .bipush 32, 2, 32, 0, 0, []),
  (47, .if_icmp .eq 19, 3, 66, 0, 0, []),
  (50, .iload_n 3, 1, 3, 0, 0, []),
  (51, .iconst 5, 1, 5, 0, 0, []),
  (52, .ishl, 1, 0, 0, 0, []),
  (53, .iload 5, 2, 5, 0, 0, []),
  (55, .invokestatic 50, 3, 9, 1, 0, [0, 0, 624, 625, 267]),
  (58, .ior, 1, 0, 0, 0, []),
  (59, .istore_n 3, 1, 3, 0, 0, []),
  (60, .iinc 2 1, 3, 2, 1, 0, []),
  (63, .goto 30, 3, 93, 0, 0, []),
  (66, .iload_n 1, 1, 1, 0, 0, []),
  (67, .aload_n 0, 1, 0, 0, 0, []),
  (68, .getfield 9, 3, 10, 1, 0, [631]),
  (71, .arraylength, 1, 0, 0, 0, []),
  (72, .if_icmp .ge 21, 3, 93, 0, 0, []),
  (75, .aload_n 0, 1, 0, 0, 0, []),
  (76, .getfield 9, 3, 10, 1, 0, [631]),
  (79, .iload_n 1, 1, 1, 0, 0, []),
  (80, .iload_n 3, 1, 3, 0, 0, []),
  (81, .iload_n 2, 1, 2, 0, 0, []),
  (82, .invokestatic 54, 3, 31, 2, 0, [0, 0, 627, 628, 267]),
  (85, .iastore, 1, 0, 0, 0, []),
  (86, .iinc 1 1, 3, 1, 1, 0, []),
  (89, .iconst 0, 1, 0, 0, 0, []),
  (90, .istore_n 2, 1, 2, 0, 0, []),
  (91, .iconst 0, 1, 0, 0, 0, []),
  (92, .istore_n 3, 1, 3, 0, 0, []),
  (93, .iinc 4 1, 3, 4, 1, 0, []),
  (96, .goto (-87), 3, 9, 0, 0, []),
  (99, .return_, 1, 0, 0, 0, [])]
/-- GreyRoute$Reader.<init>(LGreyRoute$Words;LGreyRoute$Town;)V -/
def rx_m100 : List rx_E := [(0, .aload_n 0, 1, 0, 0, 0, []),
  (1, .invokespecial 3, 3, 0, 1, 3, [0, 0, 659, 284, 285]),
  (4, .aload_n 0, 1, 0, 0, 0, []),
  (5, .iconst 0, 1, 0, 0, 0, []),
  (6, .putfield 9, 3, 4, 2, 2, [662]),
  (9, .aload_n 0, 1, 0, 0, 0, []),
  (10, .iconst 0, 1, 0, 0, 0, []),
  (11, .putfield 15, 3, 4, 3, 0, [663]),
  (14, .aload_n 0, 1, 0, 0, 0, []),
  (15, .iconst (-1), 1, 4294967295, 0, 0, []),
  (16, .putfield 19, 3, 4, 4, 0, [665]),
  (19, .aload_n 0, 1, 0, 0, 0, []),
  (20, .aload_n 1, 1, 1, 0, 0, []),
  (21, .putfield 22, 3, 4, 0, 4, [660]),
  (24, .aload_n 0, 1, 0, 0, 0, []),
  (25, .aload_n 2, 1, 2, 0, 0, []),
  (26, .putfield 26, 3, 4, 1, 4, [661]),
  (29, .return_, 1, 0, 0, 0, [])]
/-- GreyRoute$Pageant.<init>(LGreyRoute$Town;)V -/
def rx_m101 : List rx_E := [(0, .aload_n 0, 1, 0, 0, 0, []),
  (1, .invokespecial 3, 3, 0, 1, 3, [0, 0, 683, 284, 285]),
  (4, .aload_n 0, 1, 0, 0, 0, []),
  (5, .new 9, 3, 5, 3, 0, [684, 314, 261]),
  (8, .dup, 1, 0, 0, 0, []),
  (9, .invokespecial 11, 3, 32, 1, 1, [5, 1, 685, 316, 261]),
  (12, .putfield 12, 3, 2, 0, 4, [713]),
  (15, .aload_n 0, 1, 0, 0, 0, []),
  (16, .bipush 30, 2, 30, 0, 0, []),
  (18, .newarray .int, 2, 0, 0, 0, [341]),
  (20, .putfield 18, 3, 2, 1, 4, [716]),
  (23, .aload_n 0, 1, 0, 0, 0, []),
  (24, .bipush 30, 2, 30, 0, 0, []),
  (26, .newarray .int, 2, 0, 0, 0, [341]),
  (28, .putfield 22, 3, 2, 2, 4, [718]),
  (31, .aload_n 0, 1, 0, 0, 0, []),
  (32, .bipush 30, 2, 30, 0, 0, []),
  (34, .newarray .int, 2, 0, 0, 0, [341]),
  (36, .putfield 25, 3, 2, 3, 4, [720]),
  (39, .aload_n 0, 1, 0, 0, 0, []),
  (40, .bipush 8, 2, 8, 0, 0, []),
  (42, .newarray .int, 2, 0, 0, 0, [341]),
  (44, .putfield 28, 3, 2, 4, 4, [721]),
  (47, .aload_n 0, 1, 0, 0, 0, []),
  (48, .bipush 8, 2, 8, 0, 0, []),
  (50, .newarray .int, 2, 0, 0, 0, [341]),
  (52, .putfield 31, 3, 2, 5, 4, [722]),
  (55, .aload_n 0, 1, 0, 0, 0, []),
  (56, .bipush 8, 2, 8, 0, 0, []),
  (58, .newarray .int, 2, 0, 0, 0, [341]),
  (60, .putfield 34, 3, 2, 6, 4, [723]),
  (63, .aload_n 0, 1, 0, 0, 0, []),
  (64, .new 9, 3, 5, 3, 0, [684, 314, 261]),
  (67, .dup, 1, 0, 0, 0, []),
  (68, .invokespecial 11, 3, 32, 1, 1, [5, 1, 685, 316, 261]),
  (71, .putfield 37, 3, 2, 7, 4, [724]),
  (74, .aload_n 0, 1, 0, 0, 0, []),
  (75, .new 40, 3, 9, 2, 0, [686, 687, 273]),
  (78, .dup, 1, 0, 0, 0, []),
  (79, .invokespecial 42, 3, 102, 1, 1, [9, 1, 688, 689, 273]),
  (82, .putfield 43, 3, 2, 8, 4, [725]),
  (85, .aload_n 0, 1, 0, 0, 0, []),
  (86, .new 47, 3, 7, 2, 0, [699, 700, 274]),
  (89, .dup, 1, 0, 0, 0, []),
  (90, .invokespecial 49, 3, 103, 1, 1, [7, 1, 701, 702, 274]),
  (93, .putfield 50, 3, 2, 9, 4, [727]),
  (96, .aload_n 0, 1, 0, 0, 0, []),
  (97, .iconst 0, 1, 0, 0, 0, []),
  (98, .putfield 54, 3, 2, 11, 0, [729]),
  (101, .aload_n 0, 1, 0, 0, 0, []),
  (102, .iconst 0, 1, 0, 0, 0, []),
  (103, .putfield 58, 3, 2, 12, 0, [730]),
  (106, .aload_n 0, 1, 0, 0, 0, []),
  (107, .iconst 0, 1, 0, 0, 0, []),
  (108, .putfield 61, 3, 2, 13, 0, [732]),
  (111, .aload_n 0, 1, 0, 0, 0, []),
  (112, .iconst 0, 1, 0, 0, 0, []),
  (113, .putfield 64, 3, 2, 14, 0, [735]),
  (116, .aload_n 0, 1, 0, 0, 0, []),
  (117, .iconst 0, 1, 0, 0, 0, []),
  (118, .putfield 67, 3, 2, 15, 0, [737]),
  (121, .aload_n 0, 1, 0, 0, 0, []),
  (122, .aload_n 1, 1, 1, 0, 0, []),
  (123, .putfield 70, 3, 2, 10, 4, [728]),
  (126, .return_, 1, 0, 0, 0, [])]
/-- GreyRoute$Ways.<init>()V -/
def rx_m102 : List rx_E := [(0, .aload_n 0, 1, 0, 0, 0, []),
  (1, .invokespecial 3, 3, 0, 1, 3, [0, 0, 691, 284, 285]),
  (4, .aload_n 0, 1, 0, 0, 0, []),
  (5, .bipush 64, 2, 64, 0, 0, []),
  (7, .newarray .int, 2, 0, 0, 0, [341]),
  (9, .putfield 9, 3, 9, 0, 4, [692]),
  (12, .aload_n 0, 1, 0, 0, 0, []),
  (13, .bipush 64, 2, 64, 0, 0, []),
  (15, .newarray .int, 2, 0, 0, 0, [341]),
  (17, .putfield 15, 3, 9, 1, 4, [693]),
  (20, .return_, 1, 0, 0, 0, [])]
/-- GreyRoute$Sums.<init>()V -/
def rx_m103 : List rx_E := [(0, .aload_n 0, 1, 0, 0, 0, []),
  (1, .invokespecial 3, 3, 0, 1, 3, [0, 0, 704, 284, 285]),
  (4, .aload_n 0, 1, 0, 0, 0, []),
  (5, .bipush 64, 2, 64, 0, 0, []),
  (7, .newarray .int, 2, 0, 0, 0, [341]),
  (9, .putfield 11, 3, 7, 0, 4, [705]),
  (12, .aload_n 0, 1, 0, 0, 0, []),
  (13, .bipush 26, 2, 26, 0, 0, []),
  (15, .newarray .int, 2, 0, 0, 0, [341]),
  (17, .putfield 15, 3, 7, 1, 4, [706]),
  (20, .return_, 1, 0, 0, 0, [])]
/-- GreyRouteModel.<init>()V -/
def rx_m104 : List rx_E := [(0, .aload_n 0, 1, 0, 0, 0, []),
  (1, .invokespecial 1, 3, 0, 1, 3, [0, 0, 1583, 284, 285]),
  (4, .aload_n 0, 1, 0, 0, 0, []),
  (5, .sipush 1800, 3, 1800, 0, 0, []),
  (8, .newarray .int, 2, 0, 0, 0, [341]),
  (10, .putfield 7, 3, 12, 0, 4, [1584]),
  (13, .aload_n 0, 1, 0, 0, 0, []),
  (14, .iconst 0, 1, 0, 0, 0, []),
  (15, .putfield 13, 3, 12, 1, 0, [1585]),
  (18, .aload_n 0, 1, 0, 0, 0, []),
  (19, .iconst 0, 1, 0, 0, 0, []),
  (20, .putfield 17, 3, 12, 2, 0, [1586]),
  (23, .aload_n 0, 1, 0, 0, 0, []),
  (24, .iconst 0, 1, 0, 0, 0, []),
  (25, .putfield 20, 3, 12, 3, 0, [1587]),
  (28, .aload_n 0, 1, 0, 0, 0, []),
  (29, .iconst 0, 1, 0, 0, 0, []),
  (30, .putfield 23, 3, 12, 4, 0, [1588]),
  (33, .aload_n 0, 1, 0, 0, 0, []),
  (34, .iconst 0, 1, 0, 0, 0, []),
  (35, .putfield 26, 3, 12, 5, 0, [1589]),
  (38, .aload_n 0, 1, 0, 0, 0, []),
  (39, .iconst 0, 1, 0, 0, 0, []),
  (40, .putfield 29, 3, 12, 6, 0, [1590]),
  (43, .aload_n 0, 1, 0, 0, 0, []),
  (44, .lconst 0, 1, 0, 0, 0, []),
  (45, .putfield 32, 3, 12, 7, 3, [1591]),
  (48, .aload_n 0, 1, 0, 0, 0, []),
  (49, .iconst 0, 1, 0, 0, 0, []),
  (50, .putfield 36, 3, 12, 8, 0, [1592]),
  (53, .aload_n 0, 1, 0, 0, 0, []),
  (54, .iconst (-1), 1, 4294967295, 0, 0, []),
  (55, .putfield 39, 3, 12, 9, 0, [1593]),
  (58, .aload_n 0, 1, 0, 0, 0, []),
  (59, .iconst 0, 1, 0, 0, 0, []),
  (60, .putfield 42, 3, 12, 10, 0, [1594]),
  (63, .aload_n 0, 1, 0, 0, 0, []),
  (64, .iconst (-1), 1, 4294967295, 0, 0, []),
  (65, .putfield 45, 3, 12, 11, 0, [1595]),
  (68, .aload_n 0, 1, 0, 0, 0, []),
  (69, .iconst (-1), 1, 4294967295, 0, 0, []),
  (70, .putfield 48, 3, 12, 12, 0, [1596]),
  (73, .aload_n 0, 1, 0, 0, 0, []),
  (74, .iconst 0, 1, 0, 0, 0, []),
  (75, .putfield 51, 3, 12, 13, 0, [1597]),
  (78, .aload_n 0, 1, 0, 0, 0, []),
  (79, .iconst 2, 1, 2, 0, 0, []),
  (80, .newarray .int, 2, 0, 0, 0, [341]),
  (82, .putfield 54, 3, 12, 14, 4, [1598]),
  (85, .aload_n 0, 1, 0, 0, 0, []),
  (86, .iconst 2, 1, 2, 0, 0, []),
  (87, .newarray .int, 2, 0, 0, 0, [341]),
  (89, .putfield 57, 3, 12, 15, 4, [1599]),
  (92, .aload_n 0, 1, 0, 0, 0, []),
  (93, .bipush 28, 2, 28, 0, 0, []),
  (95, .newarray .int, 2, 0, 0, 0, [341]),
  (97, .putfield 60, 3, 12, 16, 4, [1600]),
  (100, .aload_n 0, 1, 0, 0, 0, []),
  (101, .bipush 28, 2, 28, 0, 0, []),
  (103, .newarray .int, 2, 0, 0, 0, [341]),
  (105, .putfield 63, 3, 12, 17, 4, [1601]),
  (108, .aload_n 0, 1, 0, 0, 0, []),
  (109, .bipush 28, 2, 28, 0, 0, []),
  (111, .newarray .int, 2, 0, 0, 0, [341]),
  (113, .putfield 66, 3, 12, 18, 4, [1602]),
  (116, .aload_n 0, 1, 0, 0, 0, []),
  (117, .sipush 128, 3, 128, 0, 0, []),
  (120, .newarray .int, 2, 0, 0, 0, [341]),
  (122, .putfield 69, 3, 12, 19, 4, [1603]),
  (125, .aload_n 0, 1, 0, 0, 0, []),
  (126, .iconst 2, 1, 2, 0, 0, []),
  (127, .newarray .int, 2, 0, 0, 0, [341]),
  (129, .putfield 72, 3, 12, 20, 4, [1604]),
  (132, .aload_n 0, 1, 0, 0, 0, []),
  (133, .bipush 40, 2, 40, 0, 0, []),
  (135, .newarray .int, 2, 0, 0, 0, [341]),
  (137, .putfield 75, 3, 12, 21, 4, [1605]),
  (140, .aload_n 0, 1, 0, 0, 0, []),
  (141, .bipush 40, 2, 40, 0, 0, []),
  (143, .newarray .int, 2, 0, 0, 0, [341]),
  (145, .putfield 78, 3, 12, 22, 4, [1606]),
  (148, .aload_n 0, 1, 0, 0, 0, []),
  (149, .iconst 2, 1, 2, 0, 0, []),
  (150, .newarray .int, 2, 0, 0, 0, [341]),
  (152, .putfield 81, 3, 12, 23, 4, [1607]),
  (155, .aload_n 0, 1, 0, 0, 0, []),
  (156, .bipush 16, 2, 16, 0, 0, []),
  (158, .newarray .int, 2, 0, 0, 0, [341]),
  (160, .putfield 84, 3, 12, 24, 4, [1608]),
  (163, .aload_n 0, 1, 0, 0, 0, []),
  (164, .bipush 16, 2, 16, 0, 0, []),
  (166, .newarray .int, 2, 0, 0, 0, [341]),
  (168, .putfield 87, 3, 12, 25, 4, [1609]),
  (171, .aload_n 0, 1, 0, 0, 0, []),
  (172, .iconst 2, 1, 2, 0, 0, []),
  (173, .newarray .int, 2, 0, 0, 0, [341]),
  (175, .putfield 90, 3, 12, 26, 4, [1610]),
  (178, .aload_n 0, 1, 0, 0, 0, []),
  (179, .iconst 2, 1, 2, 0, 0, []),
  (180, .newarray .int, 2, 0, 0, 0, [341]),
  (182, .putfield 93, 3, 12, 27, 4, [1611]),
  (185, .aload_n 0, 1, 0, 0, 0, []),
  (186, .iconst 4, 1, 4, 0, 0, []),
  (187, .newarray .int, 2, 0, 0, 0, [341]),
  (189, .putfield 96, 3, 12, 28, 4, [1612]),
  (192, .aload_n 0, 1, 0, 0, 0, []),
  (193, .iconst 4, 1, 4, 0, 0, []),
  (194, .newarray .int, 2, 0, 0, 0, [341]),
  (196, .putfield 99, 3, 12, 29, 4, [1613]),
  (199, .aload_n 0, 1, 0, 0, 0, []),
  (200, .sipush 3200, 3, 3200, 0, 0, []),
  (203, .newarray .int, 2, 0, 0, 0, [341]),
  (205, .putfield 102, 3, 12, 30, 4, [1614]),
  (208, .aload_n 0, 1, 0, 0, 0, []),
  (209, .sipush 3200, 3, 3200, 0, 0, []),
  (212, .newarray .int, 2, 0, 0, 0, [341]),
  (214, .putfield 105, 3, 12, 31, 4, [1615]),
  (217, .aload_n 0, 1, 0, 0, 0, []),
  (218, .bipush 16, 2, 16, 0, 0, []),
  (220, .newarray .long, 2, 3, 0, 0, [431]),
  (222, .putfield 108, 3, 12, 32, 4, [1616]),
  (225, .aload_n 0, 1, 0, 0, 0, []),
  (226, .bipush 16, 2, 16, 0, 0, []),
  (228, .newarray .long, 2, 3, 0, 0, [431]),
  (230, .putfield 112, 3, 12, 33, 4, [1617]),
  (233, .aload_n 0, 1, 0, 0, 0, []),
  (234, .iconst 0, 1, 0, 0, 0, []),
  (235, .putfield 115, 3, 12, 34, 0, [1618]),
  (238, .aload_n 0, 1, 0, 0, 0, []),
  (239, .iconst 1, 1, 1, 0, 0, []),
  (240, .putfield 118, 3, 12, 35, 0, [1619]),
  (243, .aload_n 0, 1, 0, 0, 0, []),
  (244, .iconst 0, 1, 0, 0, 0, []),
  (245, .putfield 121, 3, 12, 36, 2, [1620]),
  (248, .aload_n 0, 1, 0, 0, 0, []),
  (249, .bipush 20, 2, 20, 0, 0, []),
  (251, .newarray .int, 2, 0, 0, 0, [341]),
  (253, .putfield 125, 3, 12, 37, 4, [1621]),
  (256, .aload_n 0, 1, 0, 0, 0, []),
  (257, .bipush 20, 2, 20, 0, 0, []),
  (259, .newarray .int, 2, 0, 0, 0, [341]),
  (261, .putfield 128, 3, 12, 38, 4, [1622]),
  (264, .aload_n 0, 1, 0, 0, 0, []),
  (265, .bipush 20, 2, 20, 0, 0, []),
  (267, .newarray .boolean, 2, 2, 0, 0, [1835]),
  (269, .putfield 131, 3, 12, 39, 4, [1623]),
  (272, .aload_n 0, 1, 0, 0, 0, []),
  (273, .bipush 20, 2, 20, 0, 0, []),
  (275, .newarray .int, 2, 0, 0, 0, [341]),
  (277, .putfield 135, 3, 12, 40, 4, [1624]),
  (280, .aload_n 0, 1, 0, 0, 0, []),
  (281, .bipush 20, 2, 20, 0, 0, []),
  (283, .newarray .int, 2, 0, 0, 0, [341]),
  (285, .putfield 138, 3, 12, 41, 4, [1625]),
  (288, .aload_n 0, 1, 0, 0, 0, []),
  (289, .iconst 0, 1, 0, 0, 0, []),
  (290, .putfield 141, 3, 12, 42, 0, [1626]),
  (293, .aload_n 0, 1, 0, 0, 0, []),
  (294, .iconst 0, 1, 0, 0, 0, []),
  (295, .putfield 144, 3, 12, 43, 0, [1627]),
  (298, .aload_n 0, 1, 0, 0, 0, []),
  (299, .sipush 500, 3, 500, 0, 0, []),
  (302, .newarray .int, 2, 0, 0, 0, [341]),
  (304, .putfield 147, 3, 12, 44, 4, [1628]),
  (307, .aload_n 0, 1, 0, 0, 0, []),
  (308, .iconst 0, 1, 0, 0, 0, []),
  (309, .putfield 150, 3, 12, 45, 0, [1629]),
  (312, .aload_n 0, 1, 0, 0, 0, []),
  (313, .iconst 0, 1, 0, 0, 0, []),
  (314, .putfield 153, 3, 12, 46, 2, [1630]),
  (317, .aload_n 0, 1, 0, 0, 0, []),
  (318, .bipush 6, 2, 6, 0, 0, []),
  (320, .newarray .int, 2, 0, 0, 0, [341]),
  (322, .putfield 156, 3, 12, 47, 4, [1631]),
  (325, .aload_n 0, 1, 0, 0, 0, []),
  (326, .bipush 22, 2, 22, 0, 0, []),
  (328, .newarray .int, 2, 0, 0, 0, [341]),
  (330, .putfield 159, 3, 12, 48, 4, [1632]),
  (333, .aload_n 0, 1, 0, 0, 0, []),
  (334, .bipush 22, 2, 22, 0, 0, []),
  (336, .newarray .int, 2, 0, 0, 0, [341]),
  (338, .putfield 162, 3, 12, 49, 4, [1633]),
  (341, .aload_n 0, 1, 0, 0, 0, []),
  (342, .sipush 176, 3, 176, 0, 0, []),
  (345, .newarray .int, 2, 0, 0, 0, [341]),
  (347, .putfield 165, 3, 12, 50, 4, [1634]),
  (350, .aload_n 0, 1, 0, 0, 0, []),
  (351, .bipush 22, 2, 22, 0, 0, []),
  (353, .newarray .int, 2, 0, 0, 0, [341]),
  (355, .putfield 168, 3, 12, 51, 4, [1635]),
  (358, .aload_n 0, 1, 0, 0, 0, []),
  (359, .sipush 660, 3, 660, 0, 0, []),
  (362, .newarray .int, 2, 0, 0, 0, [341]),
  (364, .putfield 171, 3, 12, 52, 4, [1636]),
  (367, .aload_n 0, 1, 0, 0, 0, []),
  (368, .sipush 660, 3, 660, 0, 0, []),
  (371, .newarray .int, 2, 0, 0, 0, [341]),
  (373, .putfield 174, 3, 12, 53, 4, [1637]),
  (376, .aload_n 0, 1, 0, 0, 0, []),
  (377, .bipush 22, 2, 22, 0, 0, []),
  (379, .newarray .int, 2, 0, 0, 0, [341]),
  (381, .putfield 177, 3, 12, 54, 4, [1638]),
  (384, .aload_n 0, 1, 0, 0, 0, []),
  (385, .sipush 2640, 3, 2640, 0, 0, []),
  (388, .newarray .int, 2, 0, 0, 0, [341]),
  (390, .putfield 180, 3, 12, 55, 4, [1639]),
  (393, .aload_n 0, 1, 0, 0, 0, []),
  (394, .iconst 0, 1, 0, 0, 0, []),
  (395, .putfield 183, 3, 12, 56, 0, [1640]),
  (398, .aload_n 0, 1, 0, 0, 0, []),
  (399, .iconst 0, 1, 0, 0, 0, []),
  (400, .putfield 186, 3, 12, 57, 0, [1641]),
  (403, .aload_n 0, 1, 0, 0, 0, []),
  (404, .lconst 1, 1, 1, 0, 0, []),
  (405, .putfield 189, 3, 12, 58, 3, [1642]),
  (408, .aload_n 0, 1, 0, 0, 0, []),
  (409, .sipush 500, 3, 500, 0, 0, []),
  (412, .newarray .long, 2, 3, 0, 0, [431]),
  (414, .putfield 192, 3, 12, 59, 4, [1643]),
  (417, .aload_n 0, 1, 0, 0, 0, []),
  (418, .bipush 12, 2, 12, 0, 0, []),
  (420, .newarray .int, 2, 0, 0, 0, [341]),
  (422, .putfield 195, 3, 12, 60, 4, [1644]),
  (425, .aload_n 0, 1, 0, 0, 0, []),
  (426, .bipush 64, 2, 64, 0, 0, []),
  (428, .newarray .int, 2, 0, 0, 0, [341]),
  (430, .putfield 198, 3, 12, 61, 4, [1645]),
  (433, .aload_n 0, 1, 0, 0, 0, []),
  (434, .iconst 0, 1, 0, 0, 0, []),
  (435, .putfield 201, 3, 12, 62, 0, [1646]),
  (438, .aload_n 0, 1, 0, 0, 0, []),
  (439, .bipush 30, 2, 30, 0, 0, []),
  (441, .newarray .int, 2, 0, 0, 0, [341]),
  (443, .putfield 204, 3, 12, 63, 4, [1647]),
  (446, .aload_n 0, 1, 0, 0, 0, []),
  (447, .bipush 30, 2, 30, 0, 0, []),
  (449, .newarray .int, 2, 0, 0, 0, [341]),
  (451, .putfield 207, 3, 12, 64, 4, [1648]),
  (454, .aload_n 0, 1, 0, 0, 0, []),
  (455, .bipush 30, 2, 30, 0, 0, []),
  (457, .newarray .int, 2, 0, 0, 0, [341]),
  (459, .putfield 210, 3, 12, 65, 4, [1649]),
  (462, .aload_n 0, 1, 0, 0, 0, []),
  (463, .bipush 30, 2, 30, 0, 0, []),
  (465, .newarray .int, 2, 0, 0, 0, [341]),
  (467, .putfield 213, 3, 12, 66, 4, [1650]),
  (470, .aload_n 0, 1, 0, 0, 0, []),
  (471, .iconst 0, 1, 0, 0, 0, []),
  (472, .putfield 216, 3, 12, 67, 0, [1651]),
  (475, .aload_n 0, 1, 0, 0, 0, []),
  (476, .iconst 0, 1, 0, 0, 0, []),
  (477, .putfield 219, 3, 12, 68, 0, [1652]),
  (480, .aload_n 0, 1, 0, 0, 0, []),
  (481, .bipush 30, 2, 30, 0, 0, []),
  (483, .newarray .int, 2, 0, 0, 0, [341]),
  (485, .putfield 222, 3, 12, 69, 4, [1653]),
  (488, .aload_n 0, 1, 0, 0, 0, []),
  (489, .bipush 30, 2, 30, 0, 0, []),
  (491, .newarray .int, 2, 0, 0, 0, [341]),
  (493, .putfield 225, 3, 12, 70, 4, [1654]),
  (496, .aload_n 0, 1, 0, 0, 0, []),
  (497, .iconst 0, 1, 0, 0, 0, []),
  (498, .putfield 228, 3, 12, 71, 0, [1655]),
  (501, .aload_n 0, 1, 0, 0, 0, []),
  (502, .bipush 20, 2, 20, 0, 0, []),
  (504, .newarray .int, 2, 0, 0, 0, [341]),
  (506, .putfield 231, 3, 12, 72, 4, [1656]),
  (509, .aload_n 0, 1, 0, 0, 0, []),
  (510, .bipush 20, 2, 20, 0, 0, []),
  (512, .newarray .int, 2, 0, 0, 0, [341]),
  (514, .putfield 234, 3, 12, 73, 4, [1657]),
  (517, .aload_n 0, 1, 0, 0, 0, []),
  (518, .sipush 160, 3, 160, 0, 0, []),
  (521, .newarray .long, 2, 3, 0, 0, [431]),
  (523, .putfield 237, 3, 12, 74, 4, [1658]),
  (526, .aload_n 0, 1, 0, 0, 0, []),
  (527, .sipush 160, 3, 160, 0, 0, []),
  (530, .newarray .long, 2, 3, 0, 0, [431]),
  (532, .putfield 240, 3, 12, 75, 4, [1659]),
  (535, .aload_n 0, 1, 0, 0, 0, []),
  (536, .bipush 100, 2, 100, 0, 0, []),
  (538, .newarray .int, 2, 0, 0, 0, [341]),
  (540, .putfield 243, 3, 12, 76, 4, [1660]),
  (543, .aload_n 0, 1, 0, 0, 0, []),
  (544, .iconst 0, 1, 0, 0, 0, []),
  (545, .putfield 246, 3, 12, 77, 0, [1661]),
  (548, .iconst 0, 1, 0, 0, 0, []),
  (549, .istore_n 1, 1, 1, 0, 0, []),
  (550, .iload_n 1, 1, 1, 0, 0, []),
  (551, .iconst 4, 1, 4, 0, 0, []),
  (552, .if_icmp .ge 16, 3, 568, 0, 0, []),
  (555, .aload_n 0, 1, 0, 0, 0, []),
  (556, .getfield 96, 3, 12, 28, 0, [1612]),
  (559, .iload_n 1, 1, 1, 0, 0, []),
  (560, .iconst (-1), 1, 4294967295, 0, 0, []),
  (561, .iastore, 1, 0, 0, 0, []),
  (562, .iinc 1 1, 3, 1, 1, 0, []),
  (565, .goto (-15), 3, 550, 0, 0, []),
  (568, .aload_n 0, 1, 0, 0, 0, []),
  (569, .getfield 90, 3, 12, 26, 0, [1610]),
  (572, .iconst 0, 1, 0, 0, 0, []),
  (573, .bipush 20, 2, 20, 0, 0, []),
  (575, .iastore, 1, 0, 0, 0, []),
  (576, .aload_n 0, 1, 0, 0, 0, []),
  (577, .getfield 90, 3, 12, 26, 0, [1610]),
  (580, .iconst 1, 1, 1, 0, 0, []),
  (581, .bipush 20, 2, 20, 0, 0, []),
  (583, .iastore, 1, 0, 0, 0, []),
  (584, .return_, 1, 0, 0, 0, [])]
/-- GreyRouteModel.end(I)Z -/
def rx_m105 : List rx_E := [(0, .iload_n 1, 1, 1, 0, 0, []),
  (1, .ifCond .lt 11, 3, 12, 0, 0, []),
  (4, .iload_n 1, 1, 1, 0, 0, []),
  (5, .aload_n 0, 1, 0, 0, 0, []),
  (6, .getfield 13, 3, 12, 1, 0, [1585]),
  (9, .if_icmp .le 17, 3, 26, 0, 0, []),
  (12, .aload_n 0, 1, 0, 0, 0, []),
  (13, .iconst 0, 1, 0, 0, 0, []),
  (14, .invokevirtual 249, 3, 58, 2, 1, [12, 0, 1840, 1842, 275, 56]),
  (17, .ifCond .lt 7, 3, 24, 0, 0, []),
  (20, .iconst 1, 1, 1, 0, 0, []),
  (21, .goto 4, 3, 25, 0, 0, []),
  (24, .iconst 0, 1, 0, 0, 0, []),
  (25, .ireturn, 1, 0, 0, 0, []),
  (26, .aload_n 0, 1, 0, 0, 0, []),
  (27, .iload_n 1, 1, 1, 0, 0, []),
  (28, .putfield 13, 3, 12, 1, 0, [1585]),
  (31, .iconst 1, 1, 1, 0, 0, []),
  (32, .ireturn, 1, 0, 0, 0, [])]
/-- GreyRoute.street(II)I -/
def rx_m106 : List rx_E := [(0, .aload_n 0, 1, 0, 0, 0, []),
  (1, .iload_n 1, 1, 1, 0, 0, []),
  (2, .invokevirtual 181, 3, 76, 2, 1, [11, 0, 1153, 1155, 257, 39]),
  (5, .ifCond .ne 5, 3, 10, 0, 0, []),
  (8, .iconst (-1), 1, 4294967295, 0, 0, []),
  (9, .ireturn, 1, 0, 0, 0, []),
  (10, .iload_n 2, 1, 2, 0, 0, []),
  (11, .tableswitch 71 0 3 #[29, 39, 49, 59], 29, 82, 2147483648, 2147483651, [40, 50, 60, 70]),
  (40, .aload_n 0, 1, 0, 0, 0, []),
  (41, .getfield 49, 3, 11, 8, 0, [796]),
  (44, .getfield 184, 3, 8, 4, 0, [469]),
  (47, .iload_n 1, 1, 1, 0, 0, []),
  (48, .iaload, 1, 0, 0, 0, []),
  (49, .ireturn, 1, 0, 0, 0, []),
  (50, .aload_n 0, 1, 0, 0, 0, []),
  (51, .getfield 49, 3, 11, 8, 0, [796]),
  (54, .getfield 187, 3, 8, 5, 0, [472]),
  (57, .iload_n 1, 1, 1, 0, 0, []),
  (58, .iaload, 1, 0, 0, 0, []),
  (59, .ireturn, 1, 0, 0, 0, []),
  (60, .aload_n 0, 1, 0, 0, 0, []),
  (61, .getfield 49, 3, 11, 8, 0, [796]),
  (64, .getfield 190, 3, 8, 6, 0, [475]),
  (67, .iload_n 1, 1, 1, 0, 0, []),
  (68, .iaload, 1, 0, 0, 0, []),
  (69, .ireturn, 1, 0, 0, 0, []),
  (70, .aload_n 0, 1, 0, 0, 0, []),
  (71, .getfield 24, 3, 11, 2, 0, [790]),
  (74, .getfield 149, 3, 6, 1, 0, [347]),
  (77, .iload_n 1, 1, 1, 0, 0, []),
  (78, .ishr, 1, 0, 0, 0, []),
  (79, .iconst 1, 1, 1, 0, 0, []),
  (80, .iand, 1, 0, 0, 0, []),
  (81, .ireturn, 1, 0, 0, 0, []),
  (82, .iconst (-1), 1, 4294967295, 0, 0, []),
  (83, .ireturn, 1, 0, 0, 0, [])]
/-- GreyRoute.way(II)I -/
def rx_m107 : List rx_E := [(0, .aload_n 0, 1, 0, 0, 0, []),
  (1, .iload_n 1, 1, 1, 0, 0, []),
  (2, .invokevirtual 165, 3, 56, 2, 1, [11, 0, 1138, 1140, 257, 37]),
  (5, .ifCond .eq 11, 3, 16, 0, 0, []),
  (8, .aload_n 0, 1, 0, 0, 0, []),
  (9, .iload_n 2, 1, 2, 0, 0, []),
  (10, .invokevirtual 165, 3, 56, 2, 1, [11, 0, 1138, 1140, 257, 37]),
  (13, .ifCond .ne 5, 3, 18, 0, 0, []),
  (16, .iconst (-1), 1, 4294967295, 0, 0, []),
  (17, .ireturn, 1, 0, 0, 0, []),
  (18, .aload_n 0, 1, 0, 0, 0, []),
  (19, .getfield 85, 3, 11, 7, 0, [795]),
  (22, .getfield 193, 3, 2, 8, 0, [726]),
  (25, .aload_n 0, 1, 0, 0, 0, []),
  (26, .getfield 49, 3, 11, 8, 0, [796]),
  (29, .aload_n 0, 1, 0, 0, 0, []),
  (30, .getfield 24, 3, 11, 2, 0, [790]),
  (33, .getfield 149, 3, 6, 1, 0, [347]),
  (36, .invokevirtual 197, 3, 999, 3, 9, []),
  (39, .aload_n 0, 1, 0, 0, 0, []),
  (40, .getfield 85, 3, 11, 7, 0, [795]),
  (43, .getfield 193, 3, 2, 8, 0, [726]),
  (46, .iload_n 1, 1, 1, 0, 0, []),
  (47, .iload_n 2, 1, 2, 0, 0, []),
  (48, .invokevirtual 203, 3, 999, 3, 9, []),
  (51, .ireturn, 1, 0, 0, 0, [])]
/-- GreyRoute.thing(II)I -/
def rx_m108 : List rx_E := [(0, .aload_n 0, 1, 0, 0, 0, []),
  (1, .iload_n 1, 1, 1, 0, 0, []),
  (2, .invokevirtual 175, 3, 66, 2, 1, [11, 0, 1145, 1147, 257, 38]),
  (5, .ifCond .ne 5, 3, 10, 0, 0, []),
  (8, .iconst (-1), 1, 4294967295, 0, 0, []),
  (9, .ireturn, 1, 0, 0, 0, []),
  (10, .iload_n 2, 1, 2, 0, 0, []),
  (11, .ifCond .ne 13, 3, 24, 0, 0, []),
  (14, .aload_n 0, 1, 0, 0, 0, []),
  (15, .getfield 24, 3, 11, 2, 0, [790]),
  (18, .getfield 206, 3, 6, 2, 0, [350]),
  (21, .iload_n 1, 1, 1, 0, 0, []),
  (22, .iaload, 1, 0, 0, 0, []),
  (23, .ireturn, 1, 0, 0, 0, []),
  (24, .iload_n 2, 1, 2, 0, 0, []),
  (25, .iconst 1, 1, 1, 0, 0, []),
  (26, .if_icmp .ne 15, 3, 41, 0, 0, []),
  (29, .aload_n 0, 1, 0, 0, 0, []),
  (30, .getfield 49, 3, 11, 8, 0, [796]),
  (33, .getfield 209, 3, 8, 11, 0, [488]),
  (36, .iload_n 1, 1, 1, 0, 0, []),
  (37, .iaload, 1, 0, 0, 0, []),
  (38, .goto 4, 3, 42, 0, 0, []),
  (41, .iconst (-1), 1, 4294967295, 0, 0, []),
  (42, .ireturn, 1, 0, 0, 0, [])]
/-- GreyRoute.step(II)I -/
def rx_m109 : List rx_E := [(0, .iload_n 1, 1, 1, 0, 0, []),
  (1, .ifCond .lt 17, 3, 18, 0, 0, []),
  (4, .iload_n 1, 1, 1, 0, 0, []),
  (5, .aload_n 0, 1, 0, 0, 0, []),
  (6, .getfield 24, 3, 11, 2, 0, [790]),
  (9, .getfield 140, 3, 6, 3, 0, [353]),
  (12, .getfield 144, 3, 5, 2, 0, [332]),
  (15, .if_icmp .lt 5, 3, 20, 0, 0, []),
  (18, .iconst (-1), 1, 4294967295, 0, 0, []),
  (19, .ireturn, 1, 0, 0, 0, []),
  (20, .iload_n 2, 1, 2, 0, 0, []),
  (21, .ifCond .ne 16, 3, 37, 0, 0, []),
  (24, .aload_n 0, 1, 0, 0, 0, []),
  (25, .getfield 24, 3, 11, 2, 0, [790]),
  (28, .getfield 140, 3, 6, 3, 0, [353]),
  (31, .getfield 212, 3, 5, 0, 0, [322]),
  (34, .iload_n 1, 1, 1, 0, 0, []),
  (35, .iaload, 1, 0, 0, 0, []),
  (36, .ireturn, 1, 0, 0, 0, []),
  (37, .iload_n 2, 1, 2, 0, 0, []),
  (38, .iconst 1, 1, 1, 0, 0, []),
  (39, .if_icmp .ne 18, 3, 57, 0, 0, []),
  (42, .aload_n 0, 1, 0, 0, 0, []),
  (43, .getfield 24, 3, 11, 2, 0, [790]),
  (46, .getfield 140, 3, 6, 3, 0, [353]),
  (49, .getfield 215, 3, 5, 1, 0, [326]),
  (52, .iload_n 1, 1, 1, 0, 0, []),
  (53, .iaload, 1, 0, 0, 0, []),
  (54, .goto 4, 3, 58, 0, 0, []),
  (57, .iconst (-1), 1, 4294967295, 0, 0, []),
  (58, .ireturn, 1, 0, 0, 0, [])]
/-- GreyRouteModel.away(I)I -/
def rx_m110 : List rx_E := [(0, .iload_n 1, 1, 1, 0, 0, []),
  (1, .iconst 0, 1, 0, 0, 0, []),
  (2, .bipush 60, 2, 60, 0, 0, []),
  (4, .invokestatic 337, 3, 8, 3, 0, [0, 0, 1959, 1960, 275]),
  (7, .ifCond .ne 5, 3, 12, 0, 0, []),
  (10, .iconst (-1), 1, 4294967295, 0, 0, []),
  (11, .ireturn, 1, 0, 0, 0, []),
  (12, .iconst (-1), 1, 4294967295, 0, 0, []),
  (13, .istore_n 2, 1, 2, 0, 0, []),
  (14, .iconst 0, 1, 0, 0, 0, []),
  (15, .istore_n 3, 1, 3, 0, 0, []),
  (16, .iload_n 3, 1, 3, 0, 0, []),
  (17, .iconst 1, 1, 1, 0, 0, []),
  (18, .aload_n 0, 1, 0, 0, 0, []),
  (19, .getfield 81, 3, 12, 23, 0, [1607]),
  (22, .aload_n 0, 1, 0, 0, 0, []),
  (23, .getfield 51, 3, 12, 13, 0, [1597]),
  (26, .iaload, 1, 0, 0, 0, []),
  (27, .ishl, 1, 0, 0, 0, []),
  (28, .if_icmp .ge 64, 3, 92, 0, 0, []),
  (31, .iload_n 2, 1, 2, 0, 0, []),
  (32, .iconst (-1), 1, 4294967295, 0, 0, []),
  (33, .if_icmp .eq 17, 3, 50, 0, 0, []),
  (36, .iload_n 3, 1, 3, 0, 0, []),
  (37, .invokestatic 505, 3, 151, 1, 0, [0, 0, 2072, 2073, 275]),
  (40, .iload_n 2, 1, 2, 0, 0, []),
  (41, .invokestatic 505, 3, 151, 1, 0, [0, 0, 2072, 2073, 275]),
  (44, .if_icmp .lt 6, 3, 50, 0, 0, []),
  (47, .goto 39, 3, 86, 0, 0, []),
  (50, .aload_n 0, 1, 0, 0, 0, []),
  (51, .iconst 0, 1, 0, 0, 0, []),
  (52, .aload_n 0, 1, 0, 0, 0, []),
  (53, .invokevirtual 513, 3, 12, 1, 1, [12, 0, 2109, 2111, 275, 95]),
  (56, .iconst 0, 1, 0, 0, 0, []),
  (57, .iload_n 3, 1, 3, 0, 0, []),
  (58, .invokevirtual 493, 3, 13, 5, 1, [12, 0, 2113, 2115, 275, 96]),
  (61, .aload_n 0, 1, 0, 0, 0, []),
  (62, .invokevirtual 516, 3, 129, 1, 1, [12, 0, 2169, 2171, 275, 105]),
  (65, .istore 4, 2, 4, 0, 0, []),
  (67, .iload 4, 2, 4, 0, 0, []),
  (69, .iconst (-1), 1, 4294967295, 0, 0, []),
  (70, .if_icmp .eq 14, 3, 84, 0, 0, []),
  (73, .aload_n 0, 1, 0, 0, 0, []),
  (74, .getfield 210, 3, 12, 65, 0, [1649]),
  (77, .iload 4, 2, 4, 0, 0, []),
  (79, .iaload, 1, 0, 0, 0, []),
  (80, .iload_n 1, 1, 1, 0, 0, []),
  (81, .if_icmp .gt 5, 3, 86, 0, 0, []),
  (84, .iload_n 3, 1, 3, 0, 0, []),
  (85, .istore_n 2, 1, 2, 0, 0, []),
  (86, .iinc 3 1, 3, 3, 1, 0, []),
  (89, .goto (-73), 3, 16, 0, 0, []),
  (92, .iload_n 2, 1, 2, 0, 0, []),
  (93, .ireturn, 1, 0, 0, 0, [])]
/-- GreyRoute.by(I)I -/
def rx_m111 : List rx_E := [(0, .aload_n 0, 1, 0, 0, 0, []),
  (1, .iload_n 1, 1, 1, 0, 0, []),
  (2, .invokevirtual 165, 3, 56, 2, 1, [11, 0, 1138, 1140, 257, 37]),
  (5, .ifCond .ne 5, 3, 10, 0, 0, []),
  (8, .iconst (-1), 1, 4294967295, 0, 0, []),
  (9, .ireturn, 1, 0, 0, 0, []),
  (10, .aload_n 0, 1, 0, 0, 0, []),
  (11, .getfield 85, 3, 11, 7, 0, [795]),
  (14, .aload_n 0, 1, 0, 0, 0, []),
  (15, .getfield 49, 3, 11, 8, 0, [796]),
  (18, .aload_n 0, 1, 0, 0, 0, []),
  (19, .getfield 24, 3, 11, 2, 0, [790]),
  (22, .iconst 0, 1, 0, 0, 0, []),
  (23, .iload_n 1, 1, 1, 0, 0, []),
  (24, .invokevirtual 241, 3, 999, 5, 9, []),
  (27, .ifCond .eq 5, 3, 32, 0, 0, []),
  (30, .iconst 0, 1, 0, 0, 0, []),
  (31, .ireturn, 1, 0, 0, 0, []),
  (32, .iconst 0, 1, 0, 0, 0, []),
  (33, .istore_n 2, 1, 2, 0, 0, []),
  (34, .iload_n 2, 1, 2, 0, 0, []),
  (35, .aload_n 0, 1, 0, 0, 0, []),
  (36, .getfield 49, 3, 11, 8, 0, [796]),
  (39, .getfield 131, 3, 8, 3, 0, [466]),
  (42, .if_icmp .ge 35, 3, 77, 0, 0, []),
  (45, .aload_n 0, 1, 0, 0, 0, []),
  (46, .getfield 85, 3, 11, 7, 0, [795]),
  (49, .aload_n 0, 1, 0, 0, 0, []),
  (50, .getfield 49, 3, 11, 8, 0, [796]),
  (53, .aload_n 0, 1, 0, 0, 0, []),
  (54, .getfield 24, 3, 11, 2, 0, [790]),
  (57, .iconst 1, 1, 1, 0, 0, []),
  (58, .iload_n 2, 1, 2, 0, 0, []),
  (59, .ishl, 1, 0, 0, 0, []),
  (60, .iload_n 1, 1, 1, 0, 0, []),
  (61, .invokevirtual 241, 3, 999, 5, 9, []),
  (64, .ifCond .eq 7, 3, 71, 0, 0, []),
  (67, .iconst 1, 1, 1, 0, 0, []),
  (68, .iload_n 2, 1, 2, 0, 0, []),
  (69, .ishl, 1, 0, 0, 0, []),
  (70, .ireturn, 1, 0, 0, 0, []),
  (71, .iinc 2 1, 3, 2, 1, 0, []),
  (74, .goto (-40), 3, 34, 0, 0, []),
  (77, .iconst 1, 1, 1, 0, 0, []),
  (78, .istore_n 2, 1, 2, 0, 0, []),
  (79, .iload_n 2, 1, 2, 0, 0, []),
  (80, .aload_n 0, 1, 0, 0, 0, []),
  (81, .getfield 49, 3, 11, 8, 0, [796]),
  (84, .getfield 131, 3, 8, 3, 0, [466]),
  (87, .if_icmp .ge 55, 3, 142, 0, 0, []),
  (90, .iconst 0, 1, 0, 0, 0, []),
  (91, .istore_n 3, 1, 3, 0, 0, []),
  (92, .iload_n 3, 1, 3, 0, 0, []),
  (93, .iload_n 2, 1, 2, 0, 0, []),
  (94, .if_icmp .ge 42, 3, 136, 0, 0, []),
  (97, .iconst 1, 1, 1, 0, 0, []),
  (98, .iload_n 2, 1, 2, 0, 0, []),
  (99, .ishl, 1, 0, 0, 0, []),
  (100, .iconst 1, 1, 1, 0, 0, []),
  (101, .iload_n 3, 1, 3, 0, 0, []),
  (102, .ishl, 1, 0, 0, 0, []),
  (103, .ior, 1, 0, 0, 0, []),
  (104, .istore 4, 2, 4, 0, 0, []),
  (106, .aload_n 0, 1, 0, 0, 0, []),
  (107, .getfield 85, 3, 11, 7, 0, [795]),
  (110, .aload_n 0, 1, 0, 0, 0, []),
  (111, .getfield 49, 3, 11, 8, 0, [796]),
  (114, .aload_n 0, 1, 0, 0, 0, []),
  (115, .getfield 24, 3, 11, 2, 0, [790]),
  (118, .iload 4, 2, 4, 0, 0, []),
  (120, .iload_n 1, 1, 1, 0, 0, []),
  (121, .invokevirtual 241, 3, 999, 5, 9, []),
  (124, .ifCond .eq 6, 3, 130, 0, 0, []),
  (127, .iload 4, 2, 4, 0, 0, []),
  (129, .ireturn, 1, 0, 0, 0, []),
  (130, .iinc 3 1, 3, 3, 1, 0, []),
  (133, .goto (-41), 3, 92, 0, 0, []),
  (136, .iinc 2 1, 3, 2, 1, 0, []),
  (139, .goto (-60), 3, 79, 0, 0, []),
  (142, .iconst (-1), 1, 4294967295, 0, 0, []),
  (143, .ireturn, 1, 0, 0, 0, [])]
/-- GreyRouteModel.seats(I)I -/
def rx_m112 : List rx_E := [(0, .iload_n 1, 1, 1, 0, 0, []),
  (1, .iconst 1, 1, 1, 0, 0, []),
  (2, .iconst 3, 1, 3, 0, 0, []),
  (3, .invokestatic 337, 3, 8, 3, 0, [0, 0, 1959, 1960, 275]),
  (6, .ifCond .eq 16, 3, 22, 0, 0, []),
  (9, .iload_n 1, 1, 1, 0, 0, []),
  (10, .aload_n 0, 1, 0, 0, 0, []),
  (11, .getfield 54, 3, 12, 14, 0, [1598]),
  (14, .aload_n 0, 1, 0, 0, 0, []),
  (15, .getfield 51, 3, 12, 13, 0, [1597]),
  (18, .iaload, 1, 0, 0, 0, []),
  (19, .if_icmp .le 5, 3, 24, 0, 0, []),
  (22, .iconst (-1), 1, 4294967295, 0, 0, []),
  (23, .ireturn, 1, 0, 0, 0, []),
  (24, .aload_n 0, 1, 0, 0, 0, []),
  (25, .iconst 0, 1, 0, 0, 0, []),
  (26, .aload_n 0, 1, 0, 0, 0, []),
  (27, .invokevirtual 513, 3, 12, 1, 1, [12, 0, 2109, 2111, 275, 95]),
  (30, .iconst 0, 1, 0, 0, 0, []),
  (31, .iconst 0, 1, 0, 0, 0, []),
  (32, .invokevirtual 493, 3, 13, 5, 1, [12, 0, 2113, 2115, 275, 96]),
  (35, .iconst (-1), 1, 4294967295, 0, 0, []),
  (36, .istore_n 2, 1, 2, 0, 0, []),
  (37, .iconst (-1), 1, 4294967295, 0, 0, []),
  (38, .istore_n 3, 1, 3, 0, 0, []),
  (39, .iconst 0, 1, 0, 0, 0, []),
  (40, .istore 4, 2, 4, 0, 0, []),
  (42, .iload 4, 2, 4, 0, 0, []),
  (44, .iconst 1, 1, 1, 0, 0, []),
  (45, .aload_n 0, 1, 0, 0, 0, []),
  (46, .getfield 54, 3, 12, 14, 0, [1598]),
  (49, .aload_n 0, 1, 0, 0, 0, []),
  (50, .getfield 51, 3, 12, 13, 0, [1597]),
  (53, .iaload, 1, 0, 0, 0, []),
  (54, .ishl, 1, 0, 0, 0, []),
  (55, .if_icmp .ge 88, 3, 143, 0, 0, []),
  (58, .iload 4, 2, 4, 0, 0, []),
  (60, .invokestatic 505, 3, 151, 1, 0, [0, 0, 2072, 2073, 275]),
  (63, .iload_n 1, 1, 1, 0, 0, []),
  (64, .if_icmp .eq 6, 3, 70, 0, 0, []),
  (67, .goto 70, 3, 137, 0, 0, []),
  (70, .iconst 0, 1, 0, 0, 0, []),
  (71, .istore 5, 2, 5, 0, 0, []),
  (73, .iconst 0, 1, 0, 0, 0, []),
  (74, .istore 6, 2, 6, 0, 0, []),
  (76, .iload 6, 2, 6, 0, 0, []),
  (78, .aload_n 0, 1, 0, 0, 0, []),
  (79, .getfield 201, 3, 12, 62, 0, [1646]),
  (82, .if_icmp .ge 40, 3, 122, 0, 0, []),
  (85, .iload 5, 2, 5, 0, 0, []),
  (87, .iload 4, 2, 4, 0, 0, []),
  (89, .aload_n 0, 1, 0, 0, 0, []),
  (90, .getfield 204, 3, 12, 63, 0, [1647]),
  (93, .iload 6, 2, 6, 0, 0, []),
  (95, .iaload, 1, 0, 0, 0, []),
  (96, .invokestatic 379, 3, 999, 2, 9, []),
  (99, .ifCond .eq 13, 3, 112, 0, 0, []),
  (102, .aload_n 0, 1, 0, 0, 0, []),
  (103, .getfield 210, 3, 12, 65, 0, [1649]),
  (106, .iload 6, 2, 6, 0, 0, []),
  (108, .iaload, 1, 0, 0, 0, []),
  (109, .goto 4, 3, 113, 0, 0, []),
  (112, .iconst 0, 1, 0, 0, 0, []),
  (113, .iadd, 1, 0, 0, 0, []),
  (114, .istore 5, 2, 5, 0, 0, []),
  (116, .iinc 6 1, 3, 6, 1, 0, []),
  (119, .goto (-43), 3, 76, 0, 0, []),
  (122, .iload 5, 2, 5, 0, 0, []),
  (124, .iload_n 3, 1, 3, 0, 0, []),
  (125, .if_icmp .gt 6, 3, 131, 0, 0, []),
  (128, .goto 9, 3, 137, 0, 0, []),
  (131, .iload 5, 2, 5, 0, 0, []),
  (133, .istore_n 3, 1, 3, 0, 0, []),
  (134, .iload 4, 2, 4, 0, 0, []),
  (136, .istore_n 2, 1, 2, 0, 0, []),
  (137, .iinc 4 1, 3, 4, 1, 0, []),
  (140, .goto (-98), 3, 42, 0, 0, []),
  (143, .iload_n 2, 1, 2, 0, 0, []),
  (144, .ireturn, 1, 0, 0, 0, [])]
/-- GreyRoute.missed(I)I -/
def rx_m113 : List rx_E := [(0, .aload_n 0, 1, 0, 0, 0, []),
  (1, .iload_n 1, 1, 1, 0, 0, []),
  (2, .invokevirtual 165, 3, 56, 2, 1, [11, 0, 1138, 1140, 257, 37]),
  (5, .ifCond .ne 5, 3, 10, 0, 0, []),
  (8, .iconst (-1), 1, 4294967295, 0, 0, []),
  (9, .ireturn, 1, 0, 0, 0, []),
  (10, .aload_n 0, 1, 0, 0, 0, []),
  (11, .getfield 85, 3, 11, 7, 0, [795]),
  (14, .aload_n 0, 1, 0, 0, 0, []),
  (15, .getfield 49, 3, 11, 8, 0, [796]),
  (18, .aload_n 0, 1, 0, 0, 0, []),
  (19, .getfield 24, 3, 11, 2, 0, [790]),
  (22, .invokevirtual 260, 3, 42, 3, 1, [2, 0, 1195, 1196, 272, 1197]),
  (25, .iconst 0, 1, 0, 0, 0, []),
  (26, .istore_n 2, 1, 2, 0, 0, []),
  (27, .iload_n 2, 1, 2, 0, 0, []),
  (28, .bipush 40, 2, 40, 0, 0, []),
  (30, .if_icmp .ge 46, 3, 76, 0, 0, []),
  (33, .aload_n 0, 1, 0, 0, 0, []),
  (34, .getfield 85, 3, 11, 7, 0, [795]),
  (37, .aload_n 0, 1, 0, 0, 0, []),
  (38, .getfield 49, 3, 11, 8, 0, [796]),
  (41, .getfield 254, 3, 8, 13, 0, [494]),
  (44, .invokevirtual 257, 3, 10, 2, 1, [2, 0, 1210, 1211, 272, 1212]),
  (47, .aload_n 0, 1, 0, 0, 0, []),
  (48, .getfield 85, 3, 11, 7, 0, [795]),
  (51, .getfield 221, 3, 2, 0, 0, [715]),
  (54, .iload_n 1, 1, 1, 0, 0, []),
  (55, .invokevirtual 264, 3, 999, 2, 9, []),
  (58, .ifCond .ne 5, 3, 63, 0, 0, []),
  (61, .iload_n 2, 1, 2, 0, 0, []),
  (62, .ireturn, 1, 0, 0, 0, []),
  (63, .aload_n 0, 1, 0, 0, 0, []),
  (64, .getfield 85, 3, 11, 7, 0, [795]),
  (67, .invokevirtual 251, 3, 17, 1, 1, [2, 0, 1339, 1340, 272, 1341]),
  (70, .iinc 2 1, 3, 2, 1, 0, []),
  (73, .goto (-46), 3, 27, 0, 0, []),
  (76, .iconst (-1), 1, 4294967295, 0, 0, []),
  (77, .ireturn, 1, 0, 0, 0, [])]
/-- GreyRoute.years(I)I -/
def rx_m114 : List rx_E := [(0, .aload_n 0, 1, 0, 0, 0, []),
  (1, .iload_n 1, 1, 1, 0, 0, []),
  (2, .invokevirtual 299, 3, 80, 2, 1, [11, 0, 1444, 1446, 257, 53]),
  (5, .ifCond .ne 9, 3, 14, 0, 0, []),
  (8, .aload_n 0, 1, 0, 0, 0, []),
  (9, .iconst 2, 1, 2, 0, 0, []),
  (10, .invokevirtual 92, 3, 163, 2, 1, [11, 0, 832, 834, 257, 1]),
  (13, .ireturn, 1, 0, 0, 0, []),
  (14, .aload_n 0, 1, 0, 0, 0, []),
  (15, .getfield 31, 3, 11, 3, 0, [791]),
  (18, .aload_n 0, 1, 0, 0, 0, []),
  (19, .getfield 24, 3, 11, 2, 0, [790]),
  (22, .invokevirtual 302, 3, 81, 2, 1, [3, 0, 1448, 1449, 262, 1450]),
  (25, .aload_n 0, 1, 0, 0, 0, []),
  (26, .getfield 85, 3, 11, 7, 0, [795]),
  (29, .aload_n 0, 1, 0, 0, 0, []),
  (30, .getfield 49, 3, 11, 8, 0, [796]),
  (33, .aload_n 0, 1, 0, 0, 0, []),
  (34, .getfield 24, 3, 11, 2, 0, [790]),
  (37, .invokevirtual 260, 3, 42, 3, 1, [2, 0, 1195, 1196, 272, 1197]),
  (40, .iconst 0, 1, 0, 0, 0, []),
  (41, .istore_n 2, 1, 2, 0, 0, []),
  (42, .iconst 0, 1, 0, 0, 0, []),
  (43, .istore_n 3, 1, 3, 0, 0, []),
  (44, .iload_n 3, 1, 3, 0, 0, []),
  (45, .iload_n 1, 1, 1, 0, 0, []),
  (46, .if_icmp .ge 30, 3, 76, 0, 0, []),
  (49, .aload_n 0, 1, 0, 0, 0, []),
  (50, .aload_n 0, 1, 0, 0, 0, []),
  (51, .getfield 49, 3, 11, 8, 0, [796]),
  (54, .getfield 254, 3, 8, 13, 0, [494]),
  (57, .invokevirtual 306, 3, 27, 2, 1, [11, 0, 1457, 1459, 257, 54]),
  (60, .iload_n 2, 1, 2, 0, 0, []),
  (61, .aload_n 0, 1, 0, 0, 0, []),
  (62, .getfield 85, 3, 11, 7, 0, [795]),
  (65, .getfield 222, 3, 2, 13, 0, [734]),
  (68, .iadd, 1, 0, 0, 0, []),
  (69, .istore_n 2, 1, 2, 0, 0, []),
  (70, .iinc 3 1, 3, 3, 1, 0, []),
  (73, .goto (-29), 3, 44, 0, 0, []),
  (76, .aload_n 0, 1, 0, 0, 0, []),
  (77, .getfield 85, 3, 11, 7, 0, [795]),
  (80, .aload_n 0, 1, 0, 0, 0, []),
  (81, .getfield 24, 3, 11, 2, 0, [790]),
  (84, .invokevirtual 309, 3, 83, 2, 1, [2, 0, 1466, 1467, 272, 1468]),
  (87, .iload_n 2, 1, 2, 0, 0, []),
  (88, .ireturn, 1, 0, 0, 0, [])]
/-- GreyRouteModel.years(I)I -/
def rx_m115 : List rx_E := [(0, .aload_n 0, 1, 0, 0, 0, []),
  (1, .iload_n 1, 1, 1, 0, 0, []),
  (2, .iconst 1, 1, 1, 0, 0, []),
  (3, .bipush 40, 2, 40, 0, 0, []),
  (5, .invokevirtual 522, 3, 59, 4, 1, [12, 0, 2193, 2195, 275, 107]),
  (8, .ifCond .ne 9, 3, 17, 0, 0, []),
  (11, .aload_n 0, 1, 0, 0, 0, []),
  (12, .iconst 2, 1, 2, 0, 0, []),
  (13, .invokevirtual 249, 3, 58, 2, 1, [12, 0, 1840, 1842, 275, 56]),
  (16, .ireturn, 1, 0, 0, 0, []),
  (17, .aload_n 0, 1, 0, 0, 0, []),
  (18, .invokevirtual 544, 3, 84, 1, 1, [12, 0, 2258, 2260, 275, 115]),
  (21, .iconst 0, 1, 0, 0, 0, []),
  (22, .istore_n 2, 1, 2, 0, 0, []),
  (23, .iconst 0, 1, 0, 0, 0, []),
  (24, .istore_n 3, 1, 3, 0, 0, []),
  (25, .iload_n 3, 1, 3, 0, 0, []),
  (26, .iload_n 1, 1, 1, 0, 0, []),
  (27, .if_icmp .ge 25, 3, 52, 0, 0, []),
  (30, .aload_n 0, 1, 0, 0, 0, []),
  (31, .iconst 0, 1, 0, 0, 0, []),
  (32, .aload_n 0, 1, 0, 0, 0, []),
  (33, .invokevirtual 513, 3, 12, 1, 1, [12, 0, 2109, 2111, 275, 95]),
  (36, .invokevirtual 525, 3, 19, 3, 1, [12, 0, 2197, 2199, 275, 108]),
  (39, .iload_n 2, 1, 2, 0, 0, []),
  (40, .aload_n 0, 1, 0, 0, 0, []),
  (41, .getfield 216, 3, 12, 67, 0, [1651]),
  (44, .iadd, 1, 0, 0, 0, []),
  (45, .istore_n 2, 1, 2, 0, 0, []),
  (46, .iinc 3 1, 3, 3, 1, 0, []),
  (49, .goto (-24), 3, 25, 0, 0, []),
  (52, .iload_n 2, 1, 2, 0, 0, []),
  (53, .ireturn, 1, 0, 0, 0, [])]
/-- GreyRoute.chance(I)I -/
def rx_m116 : List rx_E := [(0, .aload_n 0, 1, 0, 0, 0, []),
  (1, .iload_n 1, 1, 1, 0, 0, []),
  (2, .invokevirtual 299, 3, 80, 2, 1, [11, 0, 1444, 1446, 257, 53]),
  (5, .ifCond .ne 9, 3, 14, 0, 0, []),
  (8, .aload_n 0, 1, 0, 0, 0, []),
  (9, .iconst 2, 1, 2, 0, 0, []),
  (10, .invokevirtual 92, 3, 163, 2, 1, [11, 0, 832, 834, 257, 1]),
  (13, .ireturn, 1, 0, 0, 0, []),
  (14, .aload_n 0, 1, 0, 0, 0, []),
  (15, .getfield 31, 3, 11, 3, 0, [791]),
  (18, .aload_n 0, 1, 0, 0, 0, []),
  (19, .getfield 24, 3, 11, 2, 0, [790]),
  (22, .invokevirtual 302, 3, 81, 2, 1, [3, 0, 1448, 1449, 262, 1450]),
  (25, .aload_n 0, 1, 0, 0, 0, []),
  (26, .getfield 85, 3, 11, 7, 0, [795]),
  (29, .aload_n 0, 1, 0, 0, 0, []),
  (30, .getfield 49, 3, 11, 8, 0, [796]),
  (33, .aload_n 0, 1, 0, 0, 0, []),
  (34, .getfield 24, 3, 11, 2, 0, [790]),
  (37, .invokevirtual 260, 3, 42, 3, 1, [2, 0, 1195, 1196, 272, 1197]),
  (40, .iconst 0, 1, 0, 0, 0, []),
  (41, .istore_n 2, 1, 2, 0, 0, []),
  (42, .iconst 0, 1, 0, 0, 0, []),
  (43, .istore_n 3, 1, 3, 0, 0, []),
  (44, .iload_n 3, 1, 3, 0, 0, []),
  (45, .iload_n 1, 1, 1, 0, 0, []),
  (46, .if_icmp .ge 65, 3, 111, 0, 0, []),
  (49, .aload_n 0, 1, 0, 0, 0, []),
  (50, .bipush 100, 2, 100, 0, 0, []),
  (52, .invokevirtual 312, 3, 39, 2, 1, [11, 0, 1474, 1476, 257, 55]),
  (55, .aload_n 0, 1, 0, 0, 0, []),
  (56, .getfield 49, 3, 11, 8, 0, [796]),
  (59, .getfield 315, 3, 8, 14, 0, [513]),
  (62, .if_icmp .ge 7, 3, 69, 0, 0, []),
  (65, .iconst 1, 1, 1, 0, 0, []),
  (66, .goto 4, 3, 70, 0, 0, []),
  (69, .iconst 0, 1, 0, 0, 0, []),
  (70, .istore 4, 2, 4, 0, 0, []),
  (72, .iload 4, 2, 4, 0, 0, []),
  (74, .ifCond .eq 6, 3, 80, 0, 0, []),
  (77, .iinc 2 1, 3, 2, 1, 0, []),
  (80, .aload_n 0, 1, 0, 0, 0, []),
  (81, .iload 4, 2, 4, 0, 0, []),
  (83, .ifCond .eq 12, 3, 95, 0, 0, []),
  (86, .aload_n 0, 1, 0, 0, 0, []),
  (87, .bipush 41, 2, 41, 0, 0, []),
  (89, .invokevirtual 312, 3, 39, 2, 1, [11, 0, 1474, 1476, 257, 55]),
  (92, .goto 10, 3, 102, 0, 0, []),
  (95, .aload_n 0, 1, 0, 0, 0, []),
  (96, .getfield 49, 3, 11, 8, 0, [796]),
  (99, .getfield 254, 3, 8, 13, 0, [494]),
  (102, .invokevirtual 306, 3, 27, 2, 1, [11, 0, 1457, 1459, 257, 54]),
  (105, .iinc 3 1, 3, 3, 1, 0, []),
  (108, .goto (-64), 3, 44, 0, 0, []),
  (111, .aload_n 0, 1, 0, 0, 0, []),
  (112, .getfield 85, 3, 11, 7, 0, [795]),
  (115, .aload_n 0, 1, 0, 0, 0, []),
  (116, .getfield 24, 3, 11, 2, 0, [790]),
  (119, .invokevirtual 309, 3, 83, 2, 1, [2, 0, 1466, 1467, 272, 1468]),
  (122, .iload_n 2, 1, 2, 0, 0, []),
  (123, .ireturn, 1, 0, 0, 0, [])]
/-- GreyRouteModel.chance(I)I -/
def rx_m117 : List rx_E := [(0, .aload_n 0, 1, 0, 0, 0, []),
  (1, .iload_n 1, 1, 1, 0, 0, []),
  (2, .iconst 1, 1, 1, 0, 0, []),
  (3, .bipush 40, 2, 40, 0, 0, []),
  (5, .invokevirtual 522, 3, 59, 4, 1, [12, 0, 2193, 2195, 275, 107]),
  (8, .ifCond .ne 9, 3, 17, 0, 0, []),
  (11, .aload_n 0, 1, 0, 0, 0, []),
  (12, .iconst 2, 1, 2, 0, 0, []),
  (13, .invokevirtual 249, 3, 58, 2, 1, [12, 0, 1840, 1842, 275, 56]),
  (16, .ireturn, 1, 0, 0, 0, []),
  (17, .aload_n 0, 1, 0, 0, 0, []),
  (18, .invokevirtual 544, 3, 84, 1, 1, [12, 0, 2258, 2260, 275, 115]),
  (21, .iconst 0, 1, 0, 0, 0, []),
  (22, .istore_n 2, 1, 2, 0, 0, []),
  (23, .iconst 0, 1, 0, 0, 0, []),
  (24, .istore_n 3, 1, 3, 0, 0, []),
  (25, .iload_n 3, 1, 3, 0, 0, []),
  (26, .iload_n 1, 1, 1, 0, 0, []),
  (27, .if_icmp .ge 51, 3, 78, 0, 0, []),
  (30, .aload_n 0, 1, 0, 0, 0, []),
  (31, .invokevirtual 513, 3, 12, 1, 1, [12, 0, 2109, 2111, 275, 95]),
  (34, .istore 4, 2, 4, 0, 0, []),
  (36, .aload_n 0, 1, 0, 0, 0, []),
  (37, .bipush 100, 2, 100, 0, 0, []),
  (39, .invokevirtual 555, 3, 40, 2, 1, [12, 0, 2266, 2268, 275, 116]),
  (42, .aload_n 0, 1, 0, 0, 0, []),
  (43, .getfield 93, 3, 12, 27, 0, [1611]),
  (46, .aload_n 0, 1, 0, 0, 0, []),
  (47, .getfield 51, 3, 12, 13, 0, [1597]),
  (50, .iaload, 1, 0, 0, 0, []),
  (51, .if_icmp .ge 14, 3, 65, 0, 0, []),
  (54, .aload_n 0, 1, 0, 0, 0, []),
  (55, .bipush 41, 2, 41, 0, 0, []),
  (57, .invokevirtual 555, 3, 40, 2, 1, [12, 0, 2266, 2268, 275, 116]),
  (60, .istore 4, 2, 4, 0, 0, []),
  (62, .iinc 2 1, 3, 2, 1, 0, []),
  (65, .aload_n 0, 1, 0, 0, 0, []),
  (66, .iconst 0, 1, 0, 0, 0, []),
  (67, .iload 4, 2, 4, 0, 0, []),
  (69, .invokevirtual 525, 3, 19, 3, 1, [12, 0, 2197, 2199, 275, 108]),
  (72, .iinc 3 1, 3, 3, 1, 0, []),
  (75, .goto (-50), 3, 25, 0, 0, []),
  (78, .iload_n 2, 1, 2, 0, 0, []),
  (79, .ireturn, 1, 0, 0, 0, [])]
/-- GreyRoute.shut(II)Z -/
def rx_m118 : List rx_E := [(0, .aload_n 0, 1, 0, 0, 0, []),
  (1, .iload_n 1, 1, 1, 0, 0, []),
  (2, .invokevirtual 181, 3, 76, 2, 1, [11, 0, 1153, 1155, 257, 39]),
  (5, .ifCond .eq 27, 3, 32, 0, 0, []),
  (8, .iload_n 2, 1, 2, 0, 0, []),
  (9, .ifCond .lt 23, 3, 32, 0, 0, []),
  (12, .iload_n 2, 1, 2, 0, 0, []),
  (13, .iconst 1, 1, 1, 0, 0, []),
  (14, .if_icmp .gt 18, 3, 32, 0, 0, []),
  (17, .aload_n 0, 1, 0, 0, 0, []),
  (18, .getfield 24, 3, 11, 2, 0, [790]),
  (21, .getfield 149, 3, 6, 1, 0, [347]),
  (24, .iload_n 1, 1, 1, 0, 0, []),
  (25, .ishr, 1, 0, 0, 0, []),
  (26, .iconst 1, 1, 1, 0, 0, []),
  (27, .iand, 1, 0, 0, 0, []),
  (28, .iload_n 2, 1, 2, 0, 0, []),
  (29, .if_icmp .ne 9, 3, 38, 0, 0, []),
  (32, .aload_n 0, 1, 0, 0, 0, []),
  (33, .iconst 3, 1, 3, 0, 0, []),
  (34, .invokevirtual 99, 3, 61, 2, 1, [11, 0, 848, 850, 257, 2]),
  (37, .ireturn, 1, 0, 0, 0, []),
  (38, .aload_n 0, 1, 0, 0, 0, []),
  (39, .getfield 31, 3, 11, 3, 0, [791]),
  (42, .aload_n 0, 1, 0, 0, 0, []),
  (43, .getfield 24, 3, 11, 2, 0, [790]),
  (46, .invokevirtual 302, 3, 81, 2, 1, [3, 0, 1448, 1449, 262, 1450]),
  (49, .aload_n 0, 1, 0, 0, 0, []),
  (50, .getfield 24, 3, 11, 2, 0, [790]),
  (53, .dup, 1, 0, 0, 0, []),
  (54, .getfield 149, 3, 6, 1, 0, [347]),
  (57, .iconst 1, 1, 1, 0, 0, []),
  (58, .iload_n 1, 1, 1, 0, 0, []),
  (59, .ishl, 1, 0, 0, 0, []),
  (60, .ixor, 1, 0, 0, 0, []),
  (61, .putfield 149, 3, 6, 1, 0, [347]),
  (64, .iconst 1, 1, 1, 0, 0, []),
  (65, .ireturn, 1, 0, 0, 0, [])]
/-- GreyRoute.move(II)Z -/
def rx_m119 : List rx_E := [(0, .aload_n 0, 1, 0, 0, 0, []),
  (1, .iload_n 1, 1, 1, 0, 0, []),
  (2, .invokevirtual 175, 3, 66, 2, 1, [11, 0, 1145, 1147, 257, 38]),
  (5, .ifCond .eq 24, 3, 29, 0, 0, []),
  (8, .aload_n 0, 1, 0, 0, 0, []),
  (9, .iload_n 2, 1, 2, 0, 0, []),
  (10, .invokevirtual 165, 3, 56, 2, 1, [11, 0, 1138, 1140, 257, 37]),
  (13, .ifCond .eq 16, 3, 29, 0, 0, []),
  (16, .aload_n 0, 1, 0, 0, 0, []),
  (17, .getfield 24, 3, 11, 2, 0, [790]),
  (20, .getfield 206, 3, 6, 2, 0, [350]),
  (23, .iload_n 1, 1, 1, 0, 0, []),
  (24, .iaload, 1, 0, 0, 0, []),
  (25, .iload_n 2, 1, 2, 0, 0, []),
  (26, .if_icmp .ne 9, 3, 35, 0, 0, []),
  (29, .aload_n 0, 1, 0, 0, 0, []),
  (30, .iconst 3, 1, 3, 0, 0, []),
  (31, .invokevirtual 99, 3, 61, 2, 1, [11, 0, 848, 850, 257, 2]),
  (34, .ireturn, 1, 0, 0, 0, []),
  (35, .aload_n 0, 1, 0, 0, 0, []),
  (36, .getfield 31, 3, 11, 3, 0, [791]),
  (39, .aload_n 0, 1, 0, 0, 0, []),
  (40, .getfield 24, 3, 11, 2, 0, [790]),
  (43, .invokevirtual 302, 3, 81, 2, 1, [3, 0, 1448, 1449, 262, 1450]),
  (46, .aload_n 0, 1, 0, 0, 0, []),
  (47, .getfield 24, 3, 11, 2, 0, [790]),
  (50, .getfield 206, 3, 6, 2, 0, [350]),
  (53, .iload_n 1, 1, 1, 0, 0, []),
  (54, .iload_n 2, 1, 2, 0, 0, []),
  (55, .iastore, 1, 0, 0, 0, []),
  (56, .iconst 1, 1, 1, 0, 0, []),
  (57, .ireturn, 1, 0, 0, 0, [])]
/-- GreyRoute.teach(II)Z -/
def rx_m120 : List rx_E := [(0, .aload_n 0, 1, 0, 0, 0, []),
  (1, .iload_n 1, 1, 1, 0, 0, []),
  (2, .invokevirtual 165, 3, 56, 2, 1, [11, 0, 1138, 1140, 257, 37]),
  (5, .ifCond .eq 17, 3, 22, 0, 0, []),
  (8, .iload_n 2, 1, 2, 0, 0, []),
  (9, .ifCond .lt 13, 3, 22, 0, 0, []),
  (12, .iload_n 2, 1, 2, 0, 0, []),
  (13, .bipush 30, 2, 30, 0, 0, []),
  (15, .if_icmp .gt 7, 3, 22, 0, 0, []),
  (18, .iconst 1, 1, 1, 0, 0, []),
  (19, .goto 4, 3, 23, 0, 0, []),
  (22, .iconst 0, 1, 0, 0, 0, []),
  (23, .istore_n 3, 1, 3, 0, 0, []),
  (24, .iload_n 3, 1, 3, 0, 0, []),
  (25, .ifCond .eq 36, 3, 61, 0, 0, []),
  (28, .aload_n 0, 1, 0, 0, 0, []),
  (29, .getfield 24, 3, 11, 2, 0, [790]),
  (32, .getfield 140, 3, 6, 3, 0, [353]),
  (35, .getfield 144, 3, 5, 2, 0, [332]),
  (38, .bipush 30, 2, 30, 0, 0, []),
  (40, .if_icmp .ge 21, 3, 61, 0, 0, []),
  (43, .aload_n 0, 1, 0, 0, 0, []),
  (44, .getfield 49, 3, 11, 8, 0, [796]),
  (47, .aload_n 0, 1, 0, 0, 0, []),
  (48, .getfield 24, 3, 11, 2, 0, [790]),
  (51, .getfield 140, 3, 6, 3, 0, [353]),
  (54, .iload_n 1, 1, 1, 0, 0, []),
  (55, .invokevirtual 318, 3, 999, 3, 9, []),
  (58, .ifCond .ne 9, 3, 67, 0, 0, []),
  (61, .aload_n 0, 1, 0, 0, 0, []),
  (62, .iconst 3, 1, 3, 0, 0, []),
  (63, .invokevirtual 99, 3, 61, 2, 1, [11, 0, 848, 850, 257, 2]),
  (66, .ireturn, 1, 0, 0, 0, []),
  (67, .aload_n 0, 1, 0, 0, 0, []),
  (68, .getfield 31, 3, 11, 3, 0, [791]),
  (71, .aload_n 0, 1, 0, 0, 0, []),
  (72, .getfield 24, 3, 11, 2, 0, [790]),
  (75, .invokevirtual 302, 3, 81, 2, 1, [3, 0, 1448, 1449, 262, 1450]),
  (78, .aload_n 0, 1, 0, 0, 0, []),
  (79, .getfield 24, 3, 11, 2, 0, [790]),
  (82, .getfield 140, 3, 6, 3, 0, [353]),
  (85, .iload_n 1, 1, 1, 0, 0, []),
  (86, .iload_n 2, 1, 2, 0, 0, []),
  (87, .invokevirtual 322, 3, 999, 3, 9, []),
  (90, .pop, 1, 0, 0, 0, []),
  (91, .iconst 1, 1, 1, 0, 0, []),
  (92, .ireturn, 1, 0, 0, 0, [])]
/-- GreyRoute.seed(I)Z -/
def rx_m121 : List rx_E := [(0, .iload_n 1, 1, 1, 0, 0, []),
  (1, .ifCond .ge 9, 3, 10, 0, 0, []),
  (4, .aload_n 0, 1, 0, 0, 0, []),
  (5, .iconst 5, 1, 5, 0, 0, []),
  (6, .invokevirtual 99, 3, 61, 2, 1, [11, 0, 848, 850, 257, 2]),
  (9, .ireturn, 1, 0, 0, 0, []),
  (10, .aload_n 0, 1, 0, 0, 0, []),
  (11, .iload_n 1, 1, 1, 0, 0, []),
  (12, .putfield 63, 3, 11, 12, 0, [800]),
  (15, .iconst 1, 1, 1, 0, 0, []),
  (16, .ireturn, 1, 0, 0, 0, [])]
/-- GreyRoute.kept(II)I -/
def rx_m122 : List rx_E := [(0, .aload_n 0, 1, 0, 0, 0, []),
  (1, .invokevirtual 157, 3, 93, 1, 1, [11, 0, 1127, 1129, 257, 36]),
  (4, .istore_n 3, 1, 3, 0, 0, []),
  (5, .iload_n 1, 1, 1, 0, 0, []),
  (6, .ifCond .lt 8, 3, 14, 0, 0, []),
  (9, .iload_n 1, 1, 1, 0, 0, []),
  (10, .iload_n 3, 1, 3, 0, 0, []),
  (11, .if_icmp .lt 5, 3, 16, 0, 0, []),
  (14, .iconst (-1), 1, 4294967295, 0, 0, []),
  (15, .ireturn, 1, 0, 0, 0, []),
  (16, .aload_n 0, 1, 0, 0, 0, []),
  (17, .getfield 31, 3, 11, 3, 0, [791]),
  (20, .aload_n 0, 1, 0, 0, 0, []),
  (21, .getfield 24, 3, 11, 2, 0, [790]),
  (24, .getfield 333, 3, 6, 4, 0, [356]),
  (27, .iload_n 3, 1, 3, 0, 0, []),
  (28, .isub, 1, 0, 0, 0, []),
  (29, .iload_n 1, 1, 1, 0, 0, []),
  (30, .iadd, 1, 0, 0, 0, []),
  (31, .iload_n 2, 1, 2, 0, 0, []),
  (32, .invokevirtual 336, 3, 999, 3, 9, []),
  (35, .ireturn, 1, 0, 0, 0, [])]
/-- GreyRoute.octet(I)I -/
def rx_m123 : List rx_E := [(0, .aload_n 0, 1, 0, 0, 0, []),
  (1, .getfield 18, 3, 11, 1, 0, [789]),
  (4, .iload_n 1, 1, 1, 0, 0, []),
  (5, .invokevirtual 343, 3, 72, 2, 1, [0, 0, 1553, 878, 258, 879]),
  (8, .ireturn, 1, 0, 0, 0, [])]
/-- java/lang/Integer.bitCount(I)I -/
def rx_m124 : List rx_E := [(0, .iload_n 0, 1, 0, 0, 0, []),
  (1, .iload_n 0, 1, 0, 0, 0, []),
  (2, .iconst 1, 1, 1, 0, 0, []),
  (3, .iushr, 1, 0, 0, 0, []),
  (4, .ldc_w 265, 3, 1431655765, 0, 0, [1124]),
  (7, .iand, 1, 0, 0, 0, []),
  (8, .isub, 1, 0, 0, 0, []),
  (9, .istore_n 0, 1, 0, 0, 0, []),
  (10, .iload_n 0, 1, 0, 0, 0, []),
  (11, .ldc_w 266, 3, 858993459, 0, 0, [1125]),
  (14, .iand, 1, 0, 0, 0, []),
  (15, .iload_n 0, 1, 0, 0, 0, []),
  (16, .iconst 2, 1, 2, 0, 0, []),
  (17, .iushr, 1, 0, 0, 0, []),
  (18, .ldc_w 266, 3, 858993459, 0, 0, [1125]),
  (21, .iand, 1, 0, 0, 0, []),
  (22, .iadd, 1, 0, 0, 0, []),
  (23, .istore_n 0, 1, 0, 0, 0, []),
  (24, .iload_n 0, 1, 0, 0, 0, []),
  (25, .iload_n 0, 1, 0, 0, 0, []),
  (26, .iconst 4, 1, 4, 0, 0, []),
  (27, .iushr, 1, 0, 0, 0, []),
  (28, .iadd, 1, 0, 0, 0, []),
  (29, .ldc_w 267, 3, 252645135, 0, 0, [1126]),
  (32, .iand, 1, 0, 0, 0, []),
  (33, .istore_n 0, 1, 0, 0, 0, []),
  (34, .iload_n 0, 1, 0, 0, 0, []),
  (35, .iload_n 0, 1, 0, 0, 0, []),
  (36, .bipush 8, 2, 8, 0, 0, []),
  (38, .iushr, 1, 0, 0, 0, []),
  (39, .iadd, 1, 0, 0, 0, []),
  (40, .istore_n 0, 1, 0, 0, 0, []),
  (41, .iload_n 0, 1, 0, 0, 0, []),
  (42, .iload_n 0, 1, 0, 0, 0, []),
  (43, .bipush 16, 2, 16, 0, 0, []),
  (45, .iushr, 1, 0, 0, 0, []),
  (46, .iadd, 1, 0, 0, 0, []),
  (47, .istore_n 0, 1, 0, 0, 0, []),
  (48, .iload_n 0, 1, 0, 0, 0, []),
  (49, .bipush 63, 2, 63, 0, 0, []),
  (51, .iand, 1, 0, 0, 0, []),
  (52, .ireturn, 1, 0, 0, 0, [])]
/-- GreyRouteModel.street(II)I -/
def rx_m125 : List rx_E := [(0, .iload_n 1, 1, 1, 0, 0, []),
  (1, .iconst 0, 1, 0, 0, 0, []),
  (2, .aload_n 0, 1, 0, 0, 0, []),
  (3, .getfield 57, 3, 12, 15, 0, [1599]),
  (6, .aload_n 0, 1, 0, 0, 0, []),
  (7, .getfield 51, 3, 12, 13, 0, [1597]),
  (10, .iaload, 1, 0, 0, 0, []),
  (11, .iconst 1, 1, 1, 0, 0, []),
  (12, .isub, 1, 0, 0, 0, []),
  (13, .invokestatic 337, 3, 8, 3, 0, [0, 0, 1959, 1960, 275]),
  (16, .ifCond .ne 5, 3, 21, 0, 0, []),
  (19, .iconst (-1), 1, 4294967295, 0, 0, []),
  (20, .ireturn, 1, 0, 0, 0, []),
  (21, .bipush 14, 2, 14, 0, 0, []),
  (23, .aload_n 0, 1, 0, 0, 0, []),
  (24, .getfield 51, 3, 12, 13, 0, [1597]),
  (27, .imul, 1, 0, 0, 0, []),
  (28, .iload_n 1, 1, 1, 0, 0, []),
  (29, .iadd, 1, 0, 0, 0, []),
  (30, .istore_n 3, 1, 3, 0, 0, []),
  (31, .iload_n 2, 1, 2, 0, 0, []),
  (32, .ifCond .ne 12, 3, 44, 0, 0, []),
  (35, .aload_n 0, 1, 0, 0, 0, []),
  (36, .getfield 60, 3, 12, 16, 0, [1600]),
  (39, .iload_n 3, 1, 3, 0, 0, []),
  (40, .iaload, 1, 0, 0, 0, []),
  (41, .goto 58, 3, 99, 0, 0, []),
  (44, .iload_n 2, 1, 2, 0, 0, []),
  (45, .iconst 1, 1, 1, 0, 0, []),
  (46, .if_icmp .ne 12, 3, 58, 0, 0, []),
  (49, .aload_n 0, 1, 0, 0, 0, []),
  (50, .getfield 63, 3, 12, 17, 0, [1601]),
  (53, .iload_n 3, 1, 3, 0, 0, []),
  (54, .iaload, 1, 0, 0, 0, []),
  (55, .goto 44, 3, 99, 0, 0, []),
  (58, .iload_n 2, 1, 2, 0, 0, []),
  (59, .iconst 2, 1, 2, 0, 0, []),
  (60, .if_icmp .ne 12, 3, 72, 0, 0, []),
  (63, .aload_n 0, 1, 0, 0, 0, []),
  (64, .getfield 66, 3, 12, 18, 0, [1602]),
  (67, .iload_n 3, 1, 3, 0, 0, []),
  (68, .iaload, 1, 0, 0, 0, []),
  (69, .goto 30, 3, 99, 0, 0, []),
  (72, .iload_n 2, 1, 2, 0, 0, []),
  (73, .iconst 3, 1, 3, 0, 0, []),
  (74, .if_icmp .ne 24, 3, 98, 0, 0, []),
  (77, .aload_n 0, 1, 0, 0, 0, []),
  (78, .getfield 162, 3, 12, 49, 0, [1633]),
  (81, .iconst 0, 1, 0, 0, 0, []),
  (82, .iaload, 1, 0, 0, 0, []),
  (83, .iload_n 1, 1, 1, 0, 0, []),
  (84, .invokestatic 379, 3, 999, 2, 9, []),
  (87, .ifCond .eq 7, 3, 94, 0, 0, []),
  (90, .iconst 1, 1, 1, 0, 0, []),
  (91, .goto 8, 3, 99, 0, 0, []),
  (94, .iconst 0, 1, 0, 0, 0, []),
  (95, .goto 4, 3, 99, 0, 0, []),
  (98, .iconst (-1), 1, 4294967295, 0, 0, []),
  (99, .ireturn, 1, 0, 0, 0, [])]
/-- GreyRouteModel.way(II)I -/
def rx_m126 : List rx_E := [(0, .aload_n 0, 1, 0, 0, 0, []),
  (1, .iload_n 1, 1, 1, 0, 0, []),
  (2, .invokevirtual 510, 3, 67, 2, 1, [12, 0, 2088, 2090, 275, 93]),
  (5, .ifCond .eq 11, 3, 16, 0, 0, []),
  (8, .aload_n 0, 1, 0, 0, 0, []),
  (9, .iload_n 2, 1, 2, 0, 0, []),
  (10, .invokevirtual 510, 3, 67, 2, 1, [12, 0, 2088, 2090, 275, 93]),
  (13, .ifCond .ne 5, 3, 18, 0, 0, []),
  (16, .iconst (-1), 1, 4294967295, 0, 0, []),
  (17, .ireturn, 1, 0, 0, 0, []),
  (18, .aload_n 0, 1, 0, 0, 0, []),
  (19, .aload_n 0, 1, 0, 0, 0, []),
  (20, .getfield 162, 3, 12, 49, 0, [1633]),
  (23, .iconst 0, 1, 0, 0, 0, []),
  (24, .iaload, 1, 0, 0, 0, []),
  (25, .invokevirtual 461, 3, 15, 2, 1, [12, 0, 2092, 2094, 275, 94]),
  (28, .aload_n 0, 1, 0, 0, 0, []),
  (29, .getfield 198, 3, 12, 61, 0, [1645]),
  (32, .bipush 8, 2, 8, 0, 0, []),
  (34, .iload_n 1, 1, 1, 0, 0, []),
  (35, .imul, 1, 0, 0, 0, []),
  (36, .iload_n 2, 1, 2, 0, 0, []),
  (37, .iadd, 1, 0, 0, 0, []),
  (38, .iaload, 1, 0, 0, 0, []),
  (39, .ldc_w 460, 3, 100000000, 0, 0, [2096]),
  (42, .if_icmp .ge 17, 3, 59, 0, 0, []),
  (45, .aload_n 0, 1, 0, 0, 0, []),
  (46, .getfield 198, 3, 12, 61, 0, [1645]),
  (49, .bipush 8, 2, 8, 0, 0, []),
  (51, .iload_n 1, 1, 1, 0, 0, []),
  (52, .imul, 1, 0, 0, 0, []),
  (53, .iload_n 2, 1, 2, 0, 0, []),
  (54, .iadd, 1, 0, 0, 0, []),
  (55, .iaload, 1, 0, 0, 0, []),
  (56, .goto 4, 3, 60, 0, 0, []),
  (59, .iconst (-1), 1, 4294967295, 0, 0, []),
  (60, .ireturn, 1, 0, 0, 0, [])]
/-- GreyRouteModel.thing(II)I -/
def rx_m127 : List rx_E := [(0, .iload_n 1, 1, 1, 0, 0, []),
  (1, .iconst 0, 1, 0, 0, 0, []),
  (2, .aload_n 0, 1, 0, 0, 0, []),
  (3, .getfield 81, 3, 12, 23, 0, [1607]),
  (6, .aload_n 0, 1, 0, 0, 0, []),
  (7, .getfield 51, 3, 12, 13, 0, [1597]),
  (10, .iaload, 1, 0, 0, 0, []),
  (11, .iconst 1, 1, 1, 0, 0, []),
  (12, .isub, 1, 0, 0, 0, []),
  (13, .invokestatic 337, 3, 8, 3, 0, [0, 0, 1959, 1960, 275]),
  (16, .ifCond .ne 5, 3, 21, 0, 0, []),
  (19, .iconst (-1), 1, 4294967295, 0, 0, []),
  (20, .ireturn, 1, 0, 0, 0, []),
  (21, .iload_n 2, 1, 2, 0, 0, []),
  (22, .ifCond .ne 12, 3, 34, 0, 0, []),
  (25, .aload_n 0, 1, 0, 0, 0, []),
  (26, .getfield 165, 3, 12, 50, 0, [1634]),
  (29, .iload_n 1, 1, 1, 0, 0, []),
  (30, .iaload, 1, 0, 0, 0, []),
  (31, .goto 26, 3, 57, 0, 0, []),
  (34, .iload_n 2, 1, 2, 0, 0, []),
  (35, .iconst 1, 1, 1, 0, 0, []),
  (36, .if_icmp .ne 20, 3, 56, 0, 0, []),
  (39, .aload_n 0, 1, 0, 0, 0, []),
  (40, .getfield 87, 3, 12, 25, 0, [1609]),
  (43, .bipush 8, 2, 8, 0, 0, []),
  (45, .aload_n 0, 1, 0, 0, 0, []),
  (46, .getfield 51, 3, 12, 13, 0, [1597]),
  (49, .imul, 1, 0, 0, 0, []),
  (50, .iload_n 1, 1, 1, 0, 0, []),
  (51, .iadd, 1, 0, 0, 0, []),
  (52, .iaload, 1, 0, 0, 0, []),
  (53, .goto 4, 3, 57, 0, 0, []),
  (56, .iconst (-1), 1, 4294967295, 0, 0, []),
  (57, .ireturn, 1, 0, 0, 0, [])]
/-- GreyRouteModel.step(II)I -/
def rx_m128 : List rx_E := [(0, .iload_n 1, 1, 1, 0, 0, []),
  (1, .iconst 0, 1, 0, 0, 0, []),
  (2, .aload_n 0, 1, 0, 0, 0, []),
  (3, .getfield 168, 3, 12, 51, 0, [1635]),
  (6, .iconst 0, 1, 0, 0, 0, []),
  (7, .iaload, 1, 0, 0, 0, []),
  (8, .iconst 1, 1, 1, 0, 0, []),
  (9, .isub, 1, 0, 0, 0, []),
  (10, .invokestatic 337, 3, 8, 3, 0, [0, 0, 1959, 1960, 275]),
  (13, .ifCond .ne 5, 3, 18, 0, 0, []),
  (16, .iconst (-1), 1, 4294967295, 0, 0, []),
  (17, .ireturn, 1, 0, 0, 0, []),
  (18, .iload_n 2, 1, 2, 0, 0, []),
  (19, .ifCond .ne 12, 3, 31, 0, 0, []),
  (22, .aload_n 0, 1, 0, 0, 0, []),
  (23, .getfield 171, 3, 12, 52, 0, [1636]),
  (26, .iload_n 1, 1, 1, 0, 0, []),
  (27, .iaload, 1, 0, 0, 0, []),
  (28, .goto 18, 3, 46, 0, 0, []),
  (31, .iload_n 2, 1, 2, 0, 0, []),
  (32, .iconst 1, 1, 1, 0, 0, []),
  (33, .if_icmp .ne 12, 3, 45, 0, 0, []),
  (36, .aload_n 0, 1, 0, 0, 0, []),
  (37, .getfield 174, 3, 12, 53, 0, [1637]),
  (40, .iload_n 1, 1, 1, 0, 0, []),
  (41, .iaload, 1, 0, 0, 0, []),
  (42, .goto 4, 3, 46, 0, 0, []),
  (45, .iconst (-1), 1, 4294967295, 0, 0, []),
  (46, .ireturn, 1, 0, 0, 0, [])]
/-- GreyRouteModel.longest()I -/
def rx_m129 : List rx_E := [(0, .iconst (-1), 1, 4294967295, 0, 0, []),
  (1, .istore_n 1, 1, 1, 0, 0, []),
  (2, .iconst 0, 1, 0, 0, 0, []),
  (3, .istore_n 2, 1, 2, 0, 0, []),
  (4, .iload_n 2, 1, 2, 0, 0, []),
  (5, .aload_n 0, 1, 0, 0, 0, []),
  (6, .getfield 201, 3, 12, 62, 0, [1646]),
  (9, .if_icmp .ge 31, 3, 40, 0, 0, []),
  (12, .iload_n 1, 1, 1, 0, 0, []),
  (13, .iconst (-1), 1, 4294967295, 0, 0, []),
  (14, .if_icmp .eq 18, 3, 32, 0, 0, []),
  (17, .aload_n 0, 1, 0, 0, 0, []),
  (18, .getfield 210, 3, 12, 65, 0, [1649]),
  (21, .iload_n 2, 1, 2, 0, 0, []),
  (22, .iaload, 1, 0, 0, 0, []),
  (23, .aload_n 0, 1, 0, 0, 0, []),
  (24, .getfield 210, 3, 12, 65, 0, [1649]),
  (27, .iload_n 1, 1, 1, 0, 0, []),
  (28, .iaload, 1, 0, 0, 0, []),
  (29, .if_icmp .le 5, 3, 34, 0, 0, []),
  (32, .iload_n 2, 1, 2, 0, 0, []),
  (33, .istore_n 1, 1, 1, 0, 0, []),
  (34, .iinc 2 1, 3, 2, 1, 0, []),
  (37, .goto (-33), 3, 4, 0, 0, []),
  (40, .iload_n 1, 1, 1, 0, 0, []),
  (41, .ireturn, 1, 0, 0, 0, [])]
/-- GreyRouteModel.by(I)I -/
def rx_m130 : List rx_E := [(0, .aload_n 0, 1, 0, 0, 0, []),
  (1, .iload_n 1, 1, 1, 0, 0, []),
  (2, .invokevirtual 510, 3, 67, 2, 1, [12, 0, 2088, 2090, 275, 93]),
  (5, .ifCond .ne 5, 3, 10, 0, 0, []),
  (8, .iconst (-1), 1, 4294967295, 0, 0, []),
  (9, .ireturn, 1, 0, 0, 0, []),
  (10, .iconst (-1), 1, 4294967295, 0, 0, []),
  (11, .istore_n 2, 1, 2, 0, 0, []),
  (12, .iconst 0, 1, 0, 0, 0, []),
  (13, .istore_n 3, 1, 3, 0, 0, []),
  (14, .iload_n 3, 1, 3, 0, 0, []),
  (15, .iconst 1, 1, 1, 0, 0, []),
  (16, .aload_n 0, 1, 0, 0, 0, []),
  (17, .getfield 57, 3, 12, 15, 0, [1599]),
  (20, .aload_n 0, 1, 0, 0, 0, []),
  (21, .getfield 51, 3, 12, 13, 0, [1597]),
  (24, .iaload, 1, 0, 0, 0, []),
  (25, .ishl, 1, 0, 0, 0, []),
  (26, .if_icmp .ge 68, 3, 94, 0, 0, []),
  (29, .iload_n 3, 1, 3, 0, 0, []),
  (30, .invokestatic 505, 3, 151, 1, 0, [0, 0, 2072, 2073, 275]),
  (33, .iconst 2, 1, 2, 0, 0, []),
  (34, .if_icmp .gt 54, 3, 88, 0, 0, []),
  (37, .iload_n 3, 1, 3, 0, 0, []),
  (38, .aload_n 0, 1, 0, 0, 0, []),
  (39, .getfield 162, 3, 12, 49, 0, [1633]),
  (42, .iconst 0, 1, 0, 0, 0, []),
  (43, .iaload, 1, 0, 0, 0, []),
  (44, .iand, 1, 0, 0, 0, []),
  (45, .ifCond .ne 43, 3, 88, 0, 0, []),
  (48, .iload_n 2, 1, 2, 0, 0, []),
  (49, .iconst (-1), 1, 4294967295, 0, 0, []),
  (50, .if_icmp .eq 17, 3, 67, 0, 0, []),
  (53, .iload_n 3, 1, 3, 0, 0, []),
  (54, .invokestatic 505, 3, 151, 1, 0, [0, 0, 2072, 2073, 275]),
  (57, .iload_n 2, 1, 2, 0, 0, []),
  (58, .invokestatic 505, 3, 151, 1, 0, [0, 0, 2072, 2073, 275]),
  (61, .if_icmp .lt 6, 3, 67, 0, 0, []),
  (64, .goto 24, 3, 88, 0, 0, []),
  (67, .aload_n 0, 1, 0, 0, 0, []),
  (68, .iconst 0, 1, 0, 0, 0, []),
  (69, .aload_n 0, 1, 0, 0, 0, []),
  (70, .invokevirtual 513, 3, 12, 1, 1, [12, 0, 2109, 2111, 275, 95]),
  (73, .iload_n 3, 1, 3, 0, 0, []),
  (74, .iconst 0, 1, 0, 0, 0, []),
  (75, .invokevirtual 493, 3, 13, 5, 1, [12, 0, 2113, 2115, 275, 96]),
  (78, .aload_n 0, 1, 0, 0, 0, []),
  (79, .iload_n 1, 1, 1, 0, 0, []),
  (80, .invokevirtual 519, 3, 999, 2, 9, []),
  (83, .ifCond .eq 5, 3, 88, 0, 0, []),
  (86, .iload_n 3, 1, 3, 0, 0, []),
  (87, .istore_n 2, 1, 2, 0, 0, []),
  (88, .iinc 3 1, 3, 3, 1, 0, []),
  (91, .goto (-77), 3, 14, 0, 0, []),
  (94, .iload_n 2, 1, 2, 0, 0, []),
  (95, .ireturn, 1, 0, 0, 0, [])]
/-- GreyRouteModel.missed(I)I -/
def rx_m131 : List rx_E := [(0, .aload_n 0, 1, 0, 0, 0, []),
  (1, .iload_n 1, 1, 1, 0, 0, []),
  (2, .invokevirtual 510, 3, 67, 2, 1, [12, 0, 2088, 2090, 275, 93]),
  (5, .ifCond .ne 5, 3, 10, 0, 0, []),
  (8, .iconst (-1), 1, 4294967295, 0, 0, []),
  (9, .ireturn, 1, 0, 0, 0, []),
  (10, .aload_n 0, 1, 0, 0, 0, []),
  (11, .iconst 1, 1, 1, 0, 0, []),
  (12, .iconst 0, 1, 0, 0, 0, []),
  (13, .invokevirtual 441, 3, 60, 3, 1, [12, 0, 2064, 2066, 275, 92]),
  (16, .iconst 0, 1, 0, 0, 0, []),
  (17, .istore_n 2, 1, 2, 0, 0, []),
  (18, .aload_n 0, 1, 0, 0, 0, []),
  (19, .iload_n 2, 1, 2, 0, 0, []),
  (20, .iconst 0, 1, 0, 0, 0, []),
  (21, .bipush 39, 2, 39, 0, 0, []),
  (23, .invokevirtual 522, 3, 59, 4, 1, [12, 0, 2193, 2195, 275, 107]),
  (26, .ifCond .eq 39, 3, 65, 0, 0, []),
  (29, .aload_n 0, 1, 0, 0, 0, []),
  (30, .iconst 1, 1, 1, 0, 0, []),
  (31, .aload_n 0, 1, 0, 0, 0, []),
  (32, .invokevirtual 513, 3, 12, 1, 1, [12, 0, 2109, 2111, 275, 95]),
  (35, .iconst 0, 1, 0, 0, 0, []),
  (36, .iconst 0, 1, 0, 0, 0, []),
  (37, .invokevirtual 493, 3, 13, 5, 1, [12, 0, 2113, 2115, 275, 96]),
  (40, .aload_n 0, 1, 0, 0, 0, []),
  (41, .iload_n 1, 1, 1, 0, 0, []),
  (42, .invokevirtual 519, 3, 999, 2, 9, []),
  (45, .ifCond .ne 5, 3, 50, 0, 0, []),
  (48, .iload_n 2, 1, 2, 0, 0, []),
  (49, .ireturn, 1, 0, 0, 0, []),
  (50, .aload_n 0, 1, 0, 0, 0, []),
  (51, .iconst 1, 1, 1, 0, 0, []),
  (52, .aload_n 0, 1, 0, 0, 0, []),
  (53, .invokevirtual 513, 3, 12, 1, 1, [12, 0, 2109, 2111, 275, 95]),
  (56, .invokevirtual 525, 3, 19, 3, 1, [12, 0, 2197, 2199, 275, 108]),
  (59, .iinc 2 1, 3, 2, 1, 0, []),
  (62, .goto (-44), 3, 18, 0, 0, []),
  (65, .iconst (-1), 1, 4294967295, 0, 0, []),
  (66, .ireturn, 1, 0, 0, 0, [])]
/-- GreyRouteModel.shut(II)Z -/
def rx_m132 : List rx_E := [(0, .iload_n 1, 1, 1, 0, 0, []),
  (1, .iconst 0, 1, 0, 0, 0, []),
  (2, .aload_n 0, 1, 0, 0, 0, []),
  (3, .getfield 57, 3, 12, 15, 0, [1599]),
  (6, .aload_n 0, 1, 0, 0, 0, []),
  (7, .getfield 51, 3, 12, 13, 0, [1597]),
  (10, .iaload, 1, 0, 0, 0, []),
  (11, .iconst 1, 1, 1, 0, 0, []),
  (12, .isub, 1, 0, 0, 0, []),
  (13, .invokestatic 337, 3, 8, 3, 0, [0, 0, 1959, 1960, 275]),
  (16, .ifCond .eq 35, 3, 51, 0, 0, []),
  (19, .iload_n 2, 1, 2, 0, 0, []),
  (20, .iconst 0, 1, 0, 0, 0, []),
  (21, .iconst 1, 1, 1, 0, 0, []),
  (22, .invokestatic 337, 3, 8, 3, 0, [0, 0, 1959, 1960, 275]),
  (25, .ifCond .eq 26, 3, 51, 0, 0, []),
  (28, .aload_n 0, 1, 0, 0, 0, []),
  (29, .getfield 162, 3, 12, 49, 0, [1633]),
  (32, .iconst 0, 1, 0, 0, 0, []),
  (33, .iaload, 1, 0, 0, 0, []),
  (34, .iload_n 1, 1, 1, 0, 0, []),
  (35, .invokestatic 379, 3, 999, 2, 9, []),
  (38, .iload_n 2, 1, 2, 0, 0, []),
  (39, .iconst 1, 1, 1, 0, 0, []),
  (40, .if_icmp .ne 7, 3, 47, 0, 0, []),
  (43, .iconst 1, 1, 1, 0, 0, []),
  (44, .goto 4, 3, 48, 0, 0, []),
  (47, .iconst 0, 1, 0, 0, 0, []),
  (48, .if_icmp .ne 17, 3, 65, 0, 0, []),
  (51, .aload_n 0, 1, 0, 0, 0, []),
  (52, .iconst 3, 1, 3, 0, 0, []),
  (53, .invokevirtual 249, 3, 58, 2, 1, [12, 0, 1840, 1842, 275, 56]),
  (56, .ifCond .lt 7, 3, 63, 0, 0, []),
  (59, .iconst 1, 1, 1, 0, 0, []),
  (60, .goto 4, 3, 64, 0, 0, []),
  (63, .iconst 0, 1, 0, 0, 0, []),
  (64, .ireturn, 1, 0, 0, 0, []),
  (65, .aload_n 0, 1, 0, 0, 0, []),
  (66, .invokevirtual 544, 3, 84, 1, 1, [12, 0, 2258, 2260, 275, 115]),
  (69, .aload_n 0, 1, 0, 0, 0, []),
  (70, .getfield 162, 3, 12, 49, 0, [1633]),
  (73, .iconst 0, 1, 0, 0, 0, []),
  (74, .dup2, 1, 0, 0, 0, []),
  (75, .iaload, 1, 0, 0, 0, []),
  (76, .iconst 1, 1, 1, 0, 0, []),
  (77, .iload_n 1, 1, 1, 0, 0, []),
  (78, .ishl, 1, 0, 0, 0, []),
  (79, .ixor, 1, 0, 0, 0, []),
  (80, .iastore, 1, 0, 0, 0, []),
  (81, .iconst 1, 1, 1, 0, 0, []),
  (82, .ireturn, 1, 0, 0, 0, [])]
/-- GreyRouteModel.move(II)Z -/
def rx_m133 : List rx_E := [(0, .iload_n 1, 1, 1, 0, 0, []),
  (1, .iconst 0, 1, 0, 0, 0, []),
  (2, .aload_n 0, 1, 0, 0, 0, []),
  (3, .getfield 81, 3, 12, 23, 0, [1607]),
  (6, .aload_n 0, 1, 0, 0, 0, []),
  (7, .getfield 51, 3, 12, 13, 0, [1597]),
  (10, .iaload, 1, 0, 0, 0, []),
  (11, .iconst 1, 1, 1, 0, 0, []),
  (12, .isub, 1, 0, 0, 0, []),
  (13, .invokestatic 337, 3, 8, 3, 0, [0, 0, 1959, 1960, 275]),
  (16, .ifCond .eq 21, 3, 37, 0, 0, []),
  (19, .aload_n 0, 1, 0, 0, 0, []),
  (20, .iload_n 2, 1, 2, 0, 0, []),
  (21, .invokevirtual 510, 3, 67, 2, 1, [12, 0, 2088, 2090, 275, 93]),
  (24, .ifCond .eq 13, 3, 37, 0, 0, []),
  (27, .aload_n 0, 1, 0, 0, 0, []),
  (28, .getfield 165, 3, 12, 50, 0, [1634]),
  (31, .iload_n 1, 1, 1, 0, 0, []),
  (32, .iaload, 1, 0, 0, 0, []),
  (33, .iload_n 2, 1, 2, 0, 0, []),
  (34, .if_icmp .ne 17, 3, 51, 0, 0, []),
  (37, .aload_n 0, 1, 0, 0, 0, []),
  (38, .iconst 3, 1, 3, 0, 0, []),
  (39, .invokevirtual 249, 3, 58, 2, 1, [12, 0, 1840, 1842, 275, 56]),
  (42, .ifCond .lt 7, 3, 49, 0, 0, []),
  (45, .iconst 1, 1, 1, 0, 0, []),
  (46, .goto 4, 3, 50, 0, 0, []),
  (49, .iconst 0, 1, 0, 0, 0, []),
  (50, .ireturn, 1, 0, 0, 0, []),
  (51, .aload_n 0, 1, 0, 0, 0, []),
  (52, .invokevirtual 544, 3, 84, 1, 1, [12, 0, 2258, 2260, 275, 115]),
  (55, .aload_n 0, 1, 0, 0, 0, []),
  (56, .getfield 165, 3, 12, 50, 0, [1634]),
  (59, .iload_n 1, 1, 1, 0, 0, []),
  (60, .iload_n 2, 1, 2, 0, 0, []),
  (61, .iastore, 1, 0, 0, 0, []),
  (62, .iconst 1, 1, 1, 0, 0, []),
  (63, .ireturn, 1, 0, 0, 0, [])]
/-- GreyRouteModel.teach(II)Z -/
def rx_m134 : List rx_E := [(0, .aload_n 0, 1, 0, 0, 0, []),
  (1, .getfield 168, 3, 12, 51, 0, [1635]),
  (4, .iconst 0, 1, 0, 0, 0, []),
  (5, .iaload, 1, 0, 0, 0, []),
  (6, .istore_n 3, 1, 3, 0, 0, []),
  (7, .aload_n 0, 1, 0, 0, 0, []),
  (8, .iload_n 1, 1, 1, 0, 0, []),
  (9, .invokevirtual 510, 3, 67, 2, 1, [12, 0, 2088, 2090, 275, 93]),
  (12, .ifCond .eq 43, 3, 55, 0, 0, []),
  (15, .iload_n 2, 1, 2, 0, 0, []),
  (16, .iconst 0, 1, 0, 0, 0, []),
  (17, .bipush 30, 2, 30, 0, 0, []),
  (19, .invokestatic 337, 3, 8, 3, 0, [0, 0, 1959, 1960, 275]),
  (22, .ifCond .eq 33, 3, 55, 0, 0, []),
  (25, .iload_n 3, 1, 3, 0, 0, []),
  (26, .bipush 30, 2, 30, 0, 0, []),
  (28, .if_icmp .eq 27, 3, 55, 0, 0, []),
  (31, .iload_n 3, 1, 3, 0, 0, []),
  (32, .ifCond .le 37, 3, 69, 0, 0, []),
  (35, .aload_n 0, 1, 0, 0, 0, []),
  (36, .aload_n 0, 1, 0, 0, 0, []),
  (37, .getfield 51, 3, 12, 13, 0, [1597]),
  (40, .aload_n 0, 1, 0, 0, 0, []),
  (41, .getfield 171, 3, 12, 52, 0, [1636]),
  (44, .iload_n 3, 1, 3, 0, 0, []),
  (45, .iconst 1, 1, 1, 0, 0, []),
  (46, .isub, 1, 0, 0, 0, []),
  (47, .iaload, 1, 0, 0, 0, []),
  (48, .iload_n 1, 1, 1, 0, 0, []),
  (49, .invokevirtual 398, 3, 0, 4, 1, [12, 0, 1951, 1953, 275, 73]),
  (52, .ifCond .ne 17, 3, 69, 0, 0, []),
  (55, .aload_n 0, 1, 0, 0, 0, []),
  (56, .iconst 3, 1, 3, 0, 0, []),
  (57, .invokevirtual 249, 3, 58, 2, 1, [12, 0, 1840, 1842, 275, 56]),
  (60, .ifCond .lt 7, 3, 67, 0, 0, []),
  (63, .iconst 1, 1, 1, 0, 0, []),
  (64, .goto 4, 3, 68, 0, 0, []),
  (67, .iconst 0, 1, 0, 0, 0, []),
  (68, .ireturn, 1, 0, 0, 0, []),
  (69, .aload_n 0, 1, 0, 0, 0, []),
  (70, .invokevirtual 544, 3, 84, 1, 1, [12, 0, 2258, 2260, 275, 115]),
  (73, .aload_n 0, 1, 0, 0, 0, []),
  (74, .getfield 171, 3, 12, 52, 0, [1636]),
  (77, .iload_n 3, 1, 3, 0, 0, []),
  (78, .iload_n 1, 1, 1, 0, 0, []),
  (79, .iastore, 1, 0, 0, 0, []),
  (80, .aload_n 0, 1, 0, 0, 0, []),
  (81, .getfield 174, 3, 12, 53, 0, [1637]),
  (84, .iload_n 3, 1, 3, 0, 0, []),
  (85, .iload_n 2, 1, 2, 0, 0, []),
  (86, .iastore, 1, 0, 0, 0, []),
  (87, .aload_n 0, 1, 0, 0, 0, []),
  (88, .getfield 168, 3, 12, 51, 0, [1635]),
  (91, .iconst 0, 1, 0, 0, 0, []),
  (92, .dup2, 1, 0, 0, 0, []),
  (93, .iaload, 1, 0, 0, 0, []),
  (94, .iconst 1, 1, 1, 0, 0, []),
  (95, .iadd, 1, 0, 0, 0, []),
  (96, .iastore, 1, 0, 0, 0, []),
  (97, .iconst 1, 1, 1, 0, 0, []),
  (98, .ireturn, 1, 0, 0, 0, [])]
/-- GreyRouteModel.seed(I)Z -/
def rx_m135 : List rx_E := [(0, .iload_n 1, 1, 1, 0, 0, []),
  (1, .ifCond .ge 17, 3, 18, 0, 0, []),
  (4, .aload_n 0, 1, 0, 0, 0, []),
  (5, .iconst 5, 1, 5, 0, 0, []),
  (6, .invokevirtual 249, 3, 58, 2, 1, [12, 0, 1840, 1842, 275, 56]),
  (9, .ifCond .lt 7, 3, 16, 0, 0, []),
  (12, .iconst 1, 1, 1, 0, 0, []),
  (13, .goto 4, 3, 17, 0, 0, []),
  (16, .iconst 0, 1, 0, 0, 0, []),
  (17, .ireturn, 1, 0, 0, 0, []),
  (18, .aload_n 0, 1, 0, 0, 0, []),
  (19, .iload_n 1, 1, 1, 0, 0, []),
  (20, .i2l, 1, 0, 0, 0, []),
  (21, .putfield 189, 3, 12, 58, 3, [1642]),
  (24, .iconst 1, 1, 1, 0, 0, []),
  (25, .ireturn, 1, 0, 0, 0, [])]
/-- GreyRouteModel.kept(II)I -/
def rx_m136 : List rx_E := [(0, .iload_n 1, 1, 1, 0, 0, []),
  (1, .iconst 0, 1, 0, 0, 0, []),
  (2, .aload_n 0, 1, 0, 0, 0, []),
  (3, .getfield 177, 3, 12, 54, 0, [1638]),
  (6, .iconst 0, 1, 0, 0, 0, []),
  (7, .iaload, 1, 0, 0, 0, []),
  (8, .iconst 1, 1, 1, 0, 0, []),
  (9, .isub, 1, 0, 0, 0, []),
  (10, .invokestatic 337, 3, 8, 3, 0, [0, 0, 1959, 1960, 275]),
  (13, .ifCond .eq 25, 3, 38, 0, 0, []),
  (16, .iload_n 2, 1, 2, 0, 0, []),
  (17, .iconst 0, 1, 0, 0, 0, []),
  (18, .iconst 2, 1, 2, 0, 0, []),
  (19, .invokestatic 337, 3, 8, 3, 0, [0, 0, 1959, 1960, 275]),
  (22, .ifCond .eq 16, 3, 38, 0, 0, []),
  (25, .aload_n 0, 1, 0, 0, 0, []),
  (26, .getfield 180, 3, 12, 55, 0, [1639]),
  (29, .iconst 3, 1, 3, 0, 0, []),
  (30, .iload_n 1, 1, 1, 0, 0, []),
  (31, .imul, 1, 0, 0, 0, []),
  (32, .iload_n 2, 1, 2, 0, 0, []),
  (33, .iadd, 1, 0, 0, 0, []),
  (34, .iaload, 1, 0, 0, 0, []),
  (35, .goto 4, 3, 39, 0, 0, []),
  (38, .iconst (-1), 1, 4294967295, 0, 0, []),
  (39, .ireturn, 1, 0, 0, 0, [])]
/-- GreyRouteModel.octet(I)I -/
def rx_m137 : List rx_E := [(0, .iload_n 1, 1, 1, 0, 0, []),
  (1, .iconst 0, 1, 0, 0, 0, []),
  (2, .aload_n 0, 1, 0, 0, 0, []),
  (3, .getfield 246, 3, 12, 77, 0, [1661]),
  (6, .iconst 1, 1, 1, 0, 0, []),
  (7, .isub, 1, 0, 0, 0, []),
  (8, .invokestatic 337, 3, 8, 3, 0, [0, 0, 1959, 1960, 275]),
  (11, .ifCond .eq 12, 3, 23, 0, 0, []),
  (14, .aload_n 0, 1, 0, 0, 0, []),
  (15, .getfield 243, 3, 12, 76, 0, [1660]),
  (18, .iload_n 1, 1, 1, 0, 0, []),
  (19, .iaload, 1, 0, 0, 0, []),
  (20, .goto 4, 3, 24, 0, 0, []),
  (23, .iconst (-1), 1, 4294967295, 0, 0, []),
  (24, .ireturn, 1, 0, 0, 0, [])]
/-- GreyRoute.feed(IIIII)I -/
def rx_m138 : List rx_E := [(0, .aload_n 0, 1, 0, 0, 0, []),
  (1, .getfield 14, 3, 11, 0, 0, [788]),
  (4, .getfield 89, 3, 0, 1, 0, [297]),
  (7, .bipush 20, 2, 20, 0, 0, []),
  (9, .iadd, 1, 0, 0, 0, []),
  (10, .sipush 1600, 3, 1600, 0, 0, []),
  (13, .if_icmp .le 9, 3, 22, 0, 0, []),
  (16, .aload_n 0, 1, 0, 0, 0, []),
  (17, .iconst 0, 1, 0, 0, 0, []),
  (18, .invokevirtual 92, 3, 163, 2, 1, [11, 0, 832, 834, 257, 1]),
  (21, .ireturn, 1, 0, 0, 0, []),
  (22, .aload_n 0, 1, 0, 0, 0, []),
  (23, .getfield 14, 3, 11, 0, 0, [788]),
  (26, .iload_n 1, 1, 1, 0, 0, []),
  (27, .invokevirtual 96, 3, 86, 2, 1, [0, 0, 836, 837, 258, 838]),
  (30, .aload_n 0, 1, 0, 0, 0, []),
  (31, .getfield 14, 3, 11, 0, 0, [788]),
  (34, .iload_n 2, 1, 2, 0, 0, []),
  (35, .invokevirtual 96, 3, 86, 2, 1, [0, 0, 836, 837, 258, 838]),
  (38, .aload_n 0, 1, 0, 0, 0, []),
  (39, .getfield 14, 3, 11, 0, 0, [788]),
  (42, .iload_n 3, 1, 3, 0, 0, []),
  (43, .invokevirtual 96, 3, 86, 2, 1, [0, 0, 836, 837, 258, 838]),
  (46, .aload_n 0, 1, 0, 0, 0, []),
  (47, .getfield 14, 3, 11, 0, 0, [788]),
  (50, .iload 4, 2, 4, 0, 0, []),
  (52, .invokevirtual 96, 3, 86, 2, 1, [0, 0, 836, 837, 258, 838]),
  (55, .aload_n 0, 1, 0, 0, 0, []),
  (56, .getfield 14, 3, 11, 0, 0, [788]),
  (59, .iload 5, 2, 5, 0, 0, []),
  (61, .invokevirtual 96, 3, 86, 2, 1, [0, 0, 836, 837, 258, 838]),
  (64, .aload_n 0, 1, 0, 0, 0, []),
  (65, .getfield 14, 3, 11, 0, 0, [788]),
  (68, .getfield 89, 3, 0, 1, 0, [297]),
  (71, .ireturn, 1, 0, 0, 0, [])]
/-- GreyRouteModel.feed(IIIII)I -/
def rx_m139 : List rx_E := [(0, .aload_n 0, 1, 0, 0, 0, []),
  (1, .getfield 13, 3, 12, 1, 0, [1585]),
  (4, .bipush 20, 2, 20, 0, 0, []),
  (6, .iadd, 1, 0, 0, 0, []),
  (7, .sipush 1600, 3, 1600, 0, 0, []),
  (10, .if_icmp .le 9, 3, 19, 0, 0, []),
  (13, .aload_n 0, 1, 0, 0, 0, []),
  (14, .iconst 0, 1, 0, 0, 0, []),
  (15, .invokevirtual 249, 3, 58, 2, 1, [12, 0, 1840, 1842, 275, 56]),
  (18, .ireturn, 1, 0, 0, 0, []),
  (19, .aload_n 0, 1, 0, 0, 0, []),
  (20, .iload_n 1, 1, 1, 0, 0, []),
  (21, .invokevirtual 253, 3, 87, 2, 1, [12, 0, 1844, 1846, 275, 57]),
  (24, .aload_n 0, 1, 0, 0, 0, []),
  (25, .iload_n 2, 1, 2, 0, 0, []),
  (26, .invokevirtual 253, 3, 87, 2, 1, [12, 0, 1844, 1846, 275, 57]),
  (29, .aload_n 0, 1, 0, 0, 0, []),
  (30, .iload_n 3, 1, 3, 0, 0, []),
  (31, .invokevirtual 253, 3, 87, 2, 1, [12, 0, 1844, 1846, 275, 57]),
  (34, .aload_n 0, 1, 0, 0, 0, []),
  (35, .iload 4, 2, 4, 0, 0, []),
  (37, .invokevirtual 253, 3, 87, 2, 1, [12, 0, 1844, 1846, 275, 57]),
  (40, .aload_n 0, 1, 0, 0, 0, []),
  (41, .iload 5, 2, 5, 0, 0, []),
  (43, .invokevirtual 253, 3, 87, 2, 1, [12, 0, 1844, 1846, 275, 57]),
  (46, .aload_n 0, 1, 0, 0, 0, []),
  (47, .getfield 13, 3, 12, 1, 0, [1585]),
  (50, .ireturn, 1, 0, 0, 0, [])]
/-- GreyRoute.town()I -/
def rx_m140 : List rx_E := [(0, .aload_n 0, 1, 0, 0, 0, []),
  (1, .getfield 76, 3, 11, 6, 0, [794]),
  (4, .aload_n 0, 1, 0, 0, 0, []),
  (5, .getfield 53, 3, 11, 9, 0, [797]),
  (8, .invokevirtual 106, 3, 141, 2, 1, [4, 0, 860, 861, 266, 862]),
  (11, .istore_n 1, 1, 1, 0, 0, []),
  (12, .aload_n 0, 1, 0, 0, 0, []),
  (13, .aload_n 0, 1, 0, 0, 0, []),
  (14, .getfield 76, 3, 11, 6, 0, [794]),
  (17, .getfield 110, 3, 4, 3, 0, [664]),
  (20, .putfield 56, 3, 11, 10, 0, [798]),
  (23, .aload_n 0, 1, 0, 0, 0, []),
  (24, .aload_n 0, 1, 0, 0, 0, []),
  (25, .getfield 76, 3, 11, 6, 0, [794]),
  (28, .getfield 113, 3, 4, 4, 0, [666]),
  (31, .putfield 60, 3, 11, 11, 0, [799]),
  (34, .aload_n 0, 1, 0, 0, 0, []),
  (35, .getfield 14, 3, 11, 0, 0, [788]),
  (38, .iconst 0, 1, 0, 0, 0, []),
  (39, .invokevirtual 103, 3, 89, 2, 1, [0, 0, 852, 853, 258, 854]),
  (42, .iload_n 1, 1, 1, 0, 0, []),
  (43, .ifCond .ne 9, 3, 52, 0, 0, []),
  (46, .aload_n 0, 1, 0, 0, 0, []),
  (47, .iconst 1, 1, 1, 0, 0, []),
  (48, .invokevirtual 92, 3, 163, 2, 1, [11, 0, 832, 834, 257, 1]),
  (51, .ireturn, 1, 0, 0, 0, []),
  (52, .aload_n 0, 1, 0, 0, 0, []),
  (53, .getfield 49, 3, 11, 8, 0, [796]),
  (56, .astore_n 2, 1, 2, 0, 0, []),
  (57, .aload_n 0, 1, 0, 0, 0, []),
  (58, .aload_n 0, 1, 0, 0, 0, []),
  (59, .getfield 53, 3, 11, 9, 0, [797]),
  (62, .putfield 49, 3, 11, 8, 4, [796]),
  (65, .aload_n 0, 1, 0, 0, 0, []),
  (66, .aload_n 2, 1, 2, 0, 0, []),
  (67, .putfield 53, 3, 11, 9, 4, [797]),
  (70, .aload_n 0, 1, 0, 0, 0, []),
  (71, .getfield 24, 3, 11, 2, 0, [790]),
  (74, .aload_n 0, 1, 0, 0, 0, []),
  (75, .getfield 49, 3, 11, 8, 0, [796]),
  (78, .invokevirtual 116, 3, 145, 2, 1, [6, 0, 1093, 1094, 260, 1095]),
  (81, .aload_n 0, 1, 0, 0, 0, []),
  (82, .getfield 31, 3, 11, 3, 0, [791]),
  (85, .invokevirtual 119, 3, 146, 1, 1, [3, 0, 1105, 1106, 262, 1107]),
  (88, .aload_n 0, 1, 0, 0, 0, []),
  (89, .getfield 38, 3, 11, 4, 0, [792]),
  (92, .invokevirtual 122, 3, 147, 1, 1, [1, 0, 1109, 1110, 263, 1111]),
  (95, .aload_n 0, 1, 0, 0, 0, []),
  (96, .getfield 49, 3, 11, 8, 0, [796]),
  (99, .getfield 125, 3, 8, 0, 0, [453]),
  (102, .ireturn, 1, 0, 0, 0, [])]
/-- GreyRoute$Reader.read(LGreyRoute$Town;)Z -/
def rx_m141 : List rx_E := [(0, .aload_n 0, 1, 0, 0, 0, []),
  (1, .aload_n 1, 1, 1, 0, 0, []),
  (2, .putfield 26, 3, 4, 1, 4, [661]),
  (5, .aload_n 0, 1, 0, 0, 0, []),
  (6, .getfield 26, 3, 4, 1, 0, [661]),
  (9, .invokevirtual 30, 3, 69, 1, 1, [8, 0, 864, 441, 264, 442]),
  (12, .aload_n 0, 1, 0, 0, 0, []),
  (13, .iconst 0, 1, 0, 0, 0, []),
  (14, .putfield 15, 3, 4, 3, 0, [663]),
  (17, .aload_n 0, 1, 0, 0, 0, []),
  (18, .iconst (-1), 1, 4294967295, 0, 0, []),
  (19, .putfield 19, 3, 4, 4, 0, [665]),
  (22, .aload_n 0, 1, 0, 0, 0, []),
  (23, .getfield 22, 3, 4, 0, 0, [660]),
  (26, .invokevirtual 35, 3, 142, 1, 1, [10, 0, 865, 866, 267, 867]),
  (29, .iconst 0, 1, 0, 0, 0, []),
  (30, .istore_n 2, 1, 2, 0, 0, []),
  (31, .iload_n 2, 1, 2, 0, 0, []),
  (32, .bipush 80, 2, 80, 0, 0, []),
  (34, .if_icmp .ge 50, 3, 84, 0, 0, []),
  (37, .aload_n 0, 1, 0, 0, 0, []),
  (38, .getfield 22, 3, 4, 0, 0, [660]),
  (41, .getfield 40, 3, 10, 3, 0, [634]),
  (44, .ifCond .eq 40, 3, 84, 0, 0, []),
  (47, .aload_n 0, 1, 0, 0, 0, []),
  (48, .invokevirtual 43, 3, 999, 1, 9, []),
  (51, .ifCond .eq 12, 3, 63, 0, 0, []),
  (54, .aload_n 0, 1, 0, 0, 0, []),
  (55, .bipush 59, 2, 59, 0, 0, []),
  (57, .invokevirtual 47, 3, 999, 2, 9, []),
  (60, .ifCond .ne 5, 3, 65, 0, 0, []),
  (63, .iconst 0, 1, 0, 0, 0, []),
  (64, .ireturn, 1, 0, 0, 0, []),
  (65, .aload_n 0, 1, 0, 0, 0, []),
  (66, .getfield 26, 3, 4, 1, 0, [661]),
  (69, .dup, 1, 0, 0, 0, []),
  (70, .getfield 51, 3, 8, 0, 0, [452]),
  (73, .iconst 1, 1, 1, 0, 0, []),
  (74, .iadd, 1, 0, 0, 0, []),
  (75, .putfield 51, 3, 8, 0, 0, [452]),
  (78, .iinc 2 1, 3, 2, 1, 0, []),
  (81, .goto (-50), 3, 31, 0, 0, []),
  (84, .aload_n 0, 1, 0, 0, 0, []),
  (85, .getfield 22, 3, 4, 0, 0, [660]),
  (88, .getfield 40, 3, 10, 3, 0, [634]),
  (91, .ifCond .eq 19, 3, 110, 0, 0, []),
  (94, .aload_n 0, 1, 0, 0, 0, []),
  (95, .bipush 6, 2, 6, 0, 0, []),
  (97, .aload_n 0, 1, 0, 0, 0, []),
  (98, .getfield 22, 3, 4, 0, 0, [660]),
  (101, .getfield 54, 3, 10, 5, 0, [638]),
  (104, .invokevirtual 57, 3, 999, 3, 9, []),
  (107, .ifCond .eq 7, 3, 114, 0, 0, []),
  (110, .iconst 1, 1, 1, 0, 0, []),
  (111, .goto 4, 3, 115, 0, 0, []),
  (114, .iconst 0, 1, 0, 0, 0, []),
  (115, .ireturn, 1, 0, 0, 0, [])]
/-- GreyRoute$Words.rewind()V -/
def rx_m142 : List rx_E := [(0, .aload_n 0, 1, 0, 0, 0, []),
  (1, .iconst 0, 1, 0, 0, 0, []),
  (2, .putfield 15, 3, 10, 2, 0, [632]),
  (5, .aload_n 0, 1, 0, 0, 0, []),
  (6, .iconst 0, 1, 0, 0, 0, []),
  (7, .putfield 19, 3, 10, 3, 0, [633]),
  (10, .aload_n 0, 1, 0, 0, 0, []),
  (11, .invokevirtual 58, 3, 143, 1, 1, [10, 0, 869, 870, 267, 871]),
  (14, .return_, 1, 0, 0, 0, [])]
/-- GreyRoute$Words.advance()V -/
def rx_m143 : List rx_E := [(0, .aload_n 0, 1, 0, 0, 0, []),
  (1, .invokevirtual 61, 3, 144, 1, 1, [10, 0, 873, 875, 267, 3]),
  (4, .istore_n 1, 1, 1, 0, 0, []),
  (5, .aload_n 0, 1, 0, 0, 0, []),
  (6, .getfield 15, 3, 10, 2, 0, [632]),
  (9, .istore_n 2, 1, 2, 0, 0, []),
  (10, .aload_n 0, 1, 0, 0, 0, []),
  (11, .getfield 15, 3, 10, 2, 0, [632]),
  (14, .aload_n 0, 1, 0, 0, 0, []),
  (15, .getfield 31, 3, 10, 0, 0, [630]),
  (18, .getfield 65, 3, 0, 1, 0, [300]),
  (21, .if_icmp .ge 48, 3, 69, 0, 0, []),
  (24, .aload_n 0, 1, 0, 0, 0, []),
  (25, .getfield 31, 3, 10, 0, 0, [630]),
  (28, .aload_n 0, 1, 0, 0, 0, []),
  (29, .getfield 15, 3, 10, 2, 0, [632]),
  (32, .invokevirtual 70, 3, 72, 2, 1, [0, 0, 877, 878, 258, 879]),
  (35, .bipush 32, 2, 32, 0, 0, []),
  (37, .if_icmp .eq 19, 3, 56, 0, 0, []),
  (40, .aload_n 0, 1, 0, 0, 0, []),
  (41, .getfield 31, 3, 10, 0, 0, [630]),
  (44, .aload_n 0, 1, 0, 0, 0, []),
  (45, .getfield 15, 3, 10, 2, 0, [632]),
  (48, .invokevirtual 70, 3, 72, 2, 1, [0, 0, 877, 878, 258, 879]),
  (51, .bipush 10, 2, 10, 0, 0, []),
  (53, .if_icmp .ne 16, 3, 69, 0, 0, []),
  (56, .aload_n 0, 1, 0, 0, 0, []),
  (57, .dup, 1, 0, 0, 0, []),
  (58, .getfield 15, 3, 10, 2, 0, [632]),
  (61, .iconst 1, 1, 1, 0, 0, []),
  (62, .iadd, 1, 0, 0, 0, []),
  (63, .putfield 15, 3, 10, 2, 0, [632]),
  (66, .goto (-56), 3, 10, 0, 0, []),
  (69, .aload_n 0, 1, 0, 0, 0, []),
  (70, .aload_n 0, 1, 0, 0, 0, []),
  (71, .getfield 15, 3, 10, 2, 0, [632]),
  (74, .putfield 25, 3, 10, 5, 0, [637]),
  (77, .aload_n 0, 1, 0, 0, 0, []),
  (78, .aload_n 0, 1, 0, 0, 0, []),
  (79, .getfield 15, 3, 10, 2, 0, [632]),
  (82, .putfield 28, 3, 10, 6, 0, [639]),
  (85, .aload_n 0, 1, 0, 0, 0, []),
  (86, .getfield 15, 3, 10, 2, 0, [632]),
  (89, .aload_n 0, 1, 0, 0, 0, []),
  (90, .getfield 31, 3, 10, 0, 0, [630]),
  (93, .getfield 65, 3, 0, 1, 0, [300]),
  (96, .if_icmp .lt 11, 3, 107, 0, 0, []),
  (99, .aload_n 0, 1, 0, 0, 0, []),
  (100, .iconst 0, 1, 0, 0, 0, []),
  (101, .putfield 19, 3, 10, 3, 0, [633]),
  (104, .goto 81, 3, 185, 0, 0, []),
  (107, .aload_n 0, 1, 0, 0, 0, []),
  (108, .getfield 31, 3, 10, 0, 0, [630]),
  (111, .aload_n 0, 1, 0, 0, 0, []),
  (112, .getfield 15, 3, 10, 2, 0, [632]),
  (115, .invokevirtual 70, 3, 72, 2, 1, [0, 0, 877, 878, 258, 879]),
  (118, .invokestatic 72, 3, 999, 1, 9, []),
  (121, .ifCond .eq 10, 3, 131, 0, 0, []),
  (124, .aload_n 0, 1, 0, 0, 0, []),
  (125, .invokevirtual 76, 3, 999, 1, 9, []),
  (128, .goto 57, 3, 185, 0, 0, []),
  (131, .aload_n 0, 1, 0, 0, 0, []),
  (132, .getfield 31, 3, 10, 0, 0, [630]),
  (135, .aload_n 0, 1, 0, 0, 0, []),
  (136, .getfield 15, 3, 10, 2, 0, [632]),
  (139, .invokevirtual 70, 3, 72, 2, 1, [0, 0, 877, 878, 258, 879]),
  (142, .invokestatic 79, 3, 999, 1, 9, []),
  (145, .ifCond .eq 10, 3, 155, 0, 0, []),
  (148, .aload_n 0, 1, 0, 0, 0, []),
  (149, .invokevirtual 82, 3, 999, 1, 9, []),
  (152, .goto 33, 3, 185, 0, 0, []),
  (155, .aload_n 0, 1, 0, 0, 0, []),
  (156, .iconst 4, 1, 4, 0, 0, []),
  (157, .putfield 19, 3, 10, 3, 0, [633]),
  (160, .aload_n 0, 1, 0, 0, 0, []),
  (161, .aload_n 0, 1, 0, 0, 0, []),
  (162, .getfield 31, 3, 10, 0, 0, [630]),
  (165, .aload_n 0, 1, 0, 0, 0, []),
  (166, .getfield 15, 3, 10, 2, 0, [632]),
  (169, .invokevirtual 70, 3, 72, 2, 1, [0, 0, 877, 878, 258, 879]),
  (172, .putfield 22, 3, 10, 4, 0, [635]),
  (175, .aload_n 0, 1, 0, 0, 0, []),
  (176, .dup, 1, 0, 0, 0, []),
  (177, .getfield 15, 3, 10, 2, 0, [632]),
  (180, .iconst 1, 1, 1, 0, 0, []),
  (181, .iadd, 1, 0, 0, 0, []),
  (182, .putfield 15, 3, 10, 2, 0, [632]),
  (185, .iload_n 1, 1, 1, 0, 0, []),
  (186, .ifCond .eq 23, 3, 209, 0, 0, []),
  (189, .iload_n 2, 1, 2, 0, 0, []),
  (190, .aload_n 0, 1, 0, 0, 0, []),
  (191, .getfield 25, 3, 10, 5, 0, [637]),
  (194, .if_icmp .ne 15, 3, 209, 0, 0, []),
  (197, .aload_n 0, 1, 0, 0, 0, []),
  (198, .invokevirtual 61, 3, 144, 1, 1, [10, 0, 873, 875, 267, 3]),
  (201, .ifCond .eq 8, 3, 209, 0, 0, []),
  (204, .aload_n 0, 1, 0, 0, 0, []),
  (205, .iconst 5, 1, 5, 0, 0, []),
  (206, .putfield 19, 3, 10, 3, 0, [633]),
  (209, .return_, 1, 0, 0, 0, [])]
/-- GreyRoute$Words.isWordOrNumber()Z -/
def rx_m144 : List rx_E := [(0, .aload_n 0, 1, 0, 0, 0, []),
  (1, .getfield 19, 3, 10, 3, 0, [633]),
  (4, .iconst 1, 1, 1, 0, 0, []),
  (5, .if_icmp .eq 19, 3, 24, 0, 0, []),
  (8, .aload_n 0, 1, 0, 0, 0, []),
  (9, .getfield 19, 3, 10, 3, 0, [633]),
  (12, .iconst 2, 1, 2, 0, 0, []),
  (13, .if_icmp .eq 11, 3, 24, 0, 0, []),
  (16, .aload_n 0, 1, 0, 0, 0, []),
  (17, .getfield 19, 3, 10, 3, 0, [633]),
  (20, .iconst 3, 1, 3, 0, 0, []),
  (21, .if_icmp .ne 7, 3, 28, 0, 0, []),
  (24, .iconst 1, 1, 1, 0, 0, []),
  (25, .goto 4, 3, 29, 0, 0, []),
  (28, .iconst 0, 1, 0, 0, 0, []),
  (29, .ireturn, 1, 0, 0, 0, [])]
/-- GreyRoute$State.beginIn(LGreyRoute$Town;)V -/
def rx_m145 : List rx_E := [(0, .aload_n 0, 1, 0, 0, 0, []),
  (1, .iconst 0, 1, 0, 0, 0, []),
  (2, .putfield 9, 3, 6, 0, 0, [342]),
  (5, .aload_n 0, 1, 0, 0, 0, []),
  (6, .iconst 0, 1, 0, 0, 0, []),
  (7, .putfield 15, 3, 6, 1, 0, [345]),
  (10, .aload_n 1, 1, 1, 0, 0, []),
  (11, .getfield 32, 3, 8, 10, 0, [485]),
  (14, .iconst 0, 1, 0, 0, 0, []),
  (15, .aload_n 0, 1, 0, 0, 0, []),
  (16, .getfield 18, 3, 6, 2, 0, [348]),
  (19, .iconst 0, 1, 0, 0, 0, []),
  (20, .bipush 8, 2, 8, 0, 0, []),
  (22, .invokestatic 35, 3, 0, 5, 4, [0, 0, 1097, 1099, 1098, 276]),
  (25, .aload_n 0, 1, 0, 0, 0, []),
  (26, .getfield 25, 3, 6, 3, 0, [351]),
  (29, .aload_n 1, 1, 1, 0, 0, []),
  (30, .getfield 41, 3, 8, 12, 0, [490]),
  (33, .invokevirtual 44, 3, 36, 2, 1, [5, 0, 1100, 1101, 261, 1102]),
  (36, .aload_n 0, 1, 0, 0, 0, []),
  (37, .iconst 0, 1, 0, 0, 0, []),
  (38, .putfield 29, 3, 6, 4, 0, [354]),
  (41, .return_, 1, 0, 0, 0, [])]
/-- GreyRoute$Past.forgetActs()V -/
def rx_m146 : List rx_E := [(0, .aload_n 0, 1, 0, 0, 0, []),
  (1, .iconst 0, 1, 0, 0, 0, []),
  (2, .putfield 31, 3, 3, 5, 0, [382]),
  (5, .return_, 1, 0, 0, 0, [])]
/-- GreyRoute$Half.clear()V -/
def rx_m147 : List rx_E := [(0, .aload_n 0, 1, 0, 0, 0, []),
  (1, .iconst 0, 1, 0, 0, 0, []),
  (2, .putfield 28, 3, 1, 5, 0, [408]),
  (5, .return_, 1, 0, 0, 0, [])]
/-- GreyRouteModel.town()I -/
def rx_m148 : List rx_E := [(0, .aload_n 0, 1, 0, 0, 0, []),
  (1, .aload_n 0, 1, 0, 0, 0, []),
  (2, .getfield 13, 3, 12, 1, 0, [1585]),
  (5, .putfield 17, 3, 12, 2, 0, [1586]),
  (8, .aload_n 0, 1, 0, 0, 0, []),
  (9, .iconst 0, 1, 0, 0, 0, []),
  (10, .putfield 13, 3, 12, 1, 0, [1585]),
  (13, .aload_n 0, 1, 0, 0, 0, []),
  (14, .iconst 0, 1, 0, 0, 0, []),
  (15, .putfield 26, 3, 12, 5, 0, [1589]),
  (18, .aload_n 0, 1, 0, 0, 0, []),
  (19, .iconst 0, 1, 0, 0, 0, []),
  (20, .putfield 36, 3, 12, 8, 0, [1592]),
  (23, .aload_n 0, 1, 0, 0, 0, []),
  (24, .iconst (-1), 1, 4294967295, 0, 0, []),
  (25, .putfield 39, 3, 12, 9, 0, [1593]),
  (28, .aload_n 0, 1, 0, 0, 0, []),
  (29, .iconst 1, 1, 1, 0, 0, []),
  (30, .aload_n 0, 1, 0, 0, 0, []),
  (31, .getfield 51, 3, 12, 13, 0, [1597]),
  (34, .isub, 1, 0, 0, 0, []),
  (35, .putfield 118, 3, 12, 35, 0, [1619]),
  (38, .aload_n 0, 1, 0, 0, 0, []),
  (39, .getfield 54, 3, 12, 14, 0, [1598]),
  (42, .aload_n 0, 1, 0, 0, 0, []),
  (43, .getfield 118, 3, 12, 35, 0, [1619]),
  (46, .iconst 0, 1, 0, 0, 0, []),
  (47, .iastore, 1, 0, 0, 0, []),
  (48, .aload_n 0, 1, 0, 0, 0, []),
  (49, .getfield 57, 3, 12, 15, 0, [1599]),
  (52, .aload_n 0, 1, 0, 0, 0, []),
  (53, .getfield 118, 3, 12, 35, 0, [1619]),
  (56, .iconst 0, 1, 0, 0, 0, []),
  (57, .iastore, 1, 0, 0, 0, []),
  (58, .aload_n 0, 1, 0, 0, 0, []),
  (59, .getfield 72, 3, 12, 20, 0, [1604]),
  (62, .aload_n 0, 1, 0, 0, 0, []),
  (63, .getfield 118, 3, 12, 35, 0, [1619]),
  (66, .iconst 0, 1, 0, 0, 0, []),
  (67, .iastore, 1, 0, 0, 0, []),
  (68, .aload_n 0, 1, 0, 0, 0, []),
  (69, .getfield 81, 3, 12, 23, 0, [1607]),
  (72, .aload_n 0, 1, 0, 0, 0, []),
  (73, .getfield 118, 3, 12, 35, 0, [1619]),
  (76, .iconst 0, 1, 0, 0, 0, []),
  (77, .iastore, 1, 0, 0, 0, []),
  (78, .aload_n 0, 1, 0, 0, 0, []),
  (79, .getfield 90, 3, 12, 26, 0, [1610]),
  (82, .aload_n 0, 1, 0, 0, 0, []),
  (83, .getfield 118, 3, 12, 35, 0, [1619]),
  (86, .bipush 20, 2, 20, 0, 0, []),
  (88, .iastore, 1, 0, 0, 0, []),
  (89, .aload_n 0, 1, 0, 0, 0, []),
  (90, .getfield 93, 3, 12, 27, 0, [1611]),
  (93, .aload_n 0, 1, 0, 0, 0, []),
  (94, .getfield 118, 3, 12, 35, 0, [1619]),
  (97, .iconst 0, 1, 0, 0, 0, []),
  (98, .iastore, 1, 0, 0, 0, []),
  (99, .aload_n 0, 1, 0, 0, 0, []),
  (100, .getfield 96, 3, 12, 28, 0, [1612]),
  (103, .iconst 2, 1, 2, 0, 0, []),
  (104, .aload_n 0, 1, 0, 0, 0, []),
  (105, .getfield 118, 3, 12, 35, 0, [1619]),
  (108, .imul, 1, 0, 0, 0, []),
  (109, .iconst (-1), 1, 4294967295, 0, 0, []),
  (110, .iastore, 1, 0, 0, 0, []),
  (111, .aload_n 0, 1, 0, 0, 0, []),
  (112, .getfield 96, 3, 12, 28, 0, [1612]),
  (115, .iconst 2, 1, 2, 0, 0, []),
  (116, .aload_n 0, 1, 0, 0, 0, []),
  (117, .getfield 118, 3, 12, 35, 0, [1619]),
  (120, .imul, 1, 0, 0, 0, []),
  (121, .iconst 1, 1, 1, 0, 0, []),
  (122, .iadd, 1, 0, 0, 0, []),
  (123, .iconst (-1), 1, 4294967295, 0, 0, []),
  (124, .iastore, 1, 0, 0, 0, []),
  (125, .iconst 0, 1, 0, 0, 0, []),
  (126, .istore_n 1, 1, 1, 0, 0, []),
  (127, .iload_n 1, 1, 1, 0, 0, []),
  (128, .bipush 64, 2, 64, 0, 0, []),
  (130, .if_icmp .ge 24, 3, 154, 0, 0, []),
  (133, .aload_n 0, 1, 0, 0, 0, []),
  (134, .getfield 69, 3, 12, 19, 0, [1603]),
  (137, .bipush 64, 2, 64, 0, 0, []),
  (139, .aload_n 0, 1, 0, 0, 0, []),
  (140, .getfield 118, 3, 12, 35, 0, [1619]),
  (143, .imul, 1, 0, 0, 0, []),
  (144, .iload_n 1, 1, 1, 0, 0, []),
  (145, .iadd, 1, 0, 0, 0, []),
  (146, .iconst 0, 1, 0, 0, 0, []),
  (147, .iastore, 1, 0, 0, 0, []),
  (148, .iinc 1 1, 3, 1, 1, 0, []),
  (151, .goto (-24), 3, 127, 0, 0, []),
  (154, .aload_n 0, 1, 0, 0, 0, []),
  (155, .iconst 0, 1, 0, 0, 0, []),
  (156, .putfield 115, 3, 12, 34, 0, [1618]),
  (159, .iconst 0, 1, 0, 0, 0, []),
  (160, .istore_n 1, 1, 1, 0, 0, []),
  (161, .aload_n 0, 1, 0, 0, 0, []),
  (162, .invokevirtual 274, 3, 149, 1, 1, [12, 0, 1856, 1858, 275, 58]),
  (165, .aload_n 0, 1, 0, 0, 0, []),
  (166, .getfield 36, 3, 12, 8, 0, [1592]),
  (169, .ifCond .ne 25, 3, 194, 0, 0, []),
  (172, .aload_n 0, 1, 0, 0, 0, []),
  (173, .getfield 20, 3, 12, 3, 0, [1587]),
  (176, .ifCond .eq 18, 3, 194, 0, 0, []),
  (179, .aload_n 0, 1, 0, 0, 0, []),
  (180, .invokevirtual 429, 3, 999, 1, 9, []),
  (183, .iinc 1 1, 3, 1, 1, 0, []),
  (186, .aload_n 0, 1, 0, 0, 0, []),
  (187, .iload_n 1, 1, 1, 0, 0, []),
  (188, .invokevirtual 432, 3, 999, 2, 9, []),
  (191, .goto (-26), 3, 165, 0, 0, []),
  (194, .aload_n 0, 1, 0, 0, 0, []),
  (195, .aload_n 0, 1, 0, 0, 0, []),
  (196, .getfield 36, 3, 12, 8, 0, [1592]),
  (199, .putfield 42, 3, 12, 10, 0, [1594]),
  (202, .aload_n 0, 1, 0, 0, 0, []),
  (203, .aload_n 0, 1, 0, 0, 0, []),
  (204, .getfield 39, 3, 12, 9, 0, [1593]),
  (207, .putfield 45, 3, 12, 11, 0, [1595]),
  (210, .aload_n 0, 1, 0, 0, 0, []),
  (211, .getfield 36, 3, 12, 8, 0, [1592]),
  (214, .ifCond .le 9, 3, 223, 0, 0, []),
  (217, .aload_n 0, 1, 0, 0, 0, []),
  (218, .iconst 1, 1, 1, 0, 0, []),
  (219, .invokevirtual 249, 3, 58, 2, 1, [12, 0, 1840, 1842, 275, 56]),
  (222, .ireturn, 1, 0, 0, 0, []),
  (223, .aload_n 0, 1, 0, 0, 0, []),
  (224, .aload_n 0, 1, 0, 0, 0, []),
  (225, .getfield 118, 3, 12, 35, 0, [1619]),
  (228, .putfield 51, 3, 12, 13, 0, [1597]),
  (231, .aload_n 0, 1, 0, 0, 0, []),
  (232, .invokevirtual 435, 3, 150, 1, 1, [12, 0, 2028, 2030, 275, 90]),
  (235, .iload_n 1, 1, 1, 0, 0, []),
  (236, .ireturn, 1, 0, 0, 0, [])]
/-- GreyRouteModel.ahead()V -/
def rx_m149 : List rx_E := [(0, .aload_n 0, 1, 0, 0, 0, []),
  (1, .getfield 26, 3, 12, 5, 0, [1589]),
  (4, .istore_n 1, 1, 1, 0, 0, []),
  (5, .iload_n 1, 1, 1, 0, 0, []),
  (6, .aload_n 0, 1, 0, 0, 0, []),
  (7, .getfield 17, 3, 12, 2, 0, [1586]),
  (10, .if_icmp .ge 31, 3, 41, 0, 0, []),
  (13, .aload_n 0, 1, 0, 0, 0, []),
  (14, .getfield 7, 3, 12, 0, 0, [1584]),
  (17, .iload_n 1, 1, 1, 0, 0, []),
  (18, .iaload, 1, 0, 0, 0, []),
  (19, .bipush 32, 2, 32, 0, 0, []),
  (21, .if_icmp .eq 14, 3, 35, 0, 0, []),
  (24, .aload_n 0, 1, 0, 0, 0, []),
  (25, .getfield 7, 3, 12, 0, 0, [1584]),
  (28, .iload_n 1, 1, 1, 0, 0, []),
  (29, .iaload, 1, 0, 0, 0, []),
  (30, .bipush 10, 2, 10, 0, 0, []),
  (32, .if_icmp .ne 9, 3, 41, 0, 0, []),
  (35, .iinc 1 1, 3, 1, 1, 0, []),
  (38, .goto (-33), 3, 5, 0, 0, []),
  (41, .aload_n 0, 1, 0, 0, 0, []),
  (42, .iload_n 1, 1, 1, 0, 0, []),
  (43, .putfield 23, 3, 12, 4, 0, [1588]),
  (46, .aload_n 0, 1, 0, 0, 0, []),
  (47, .iload_n 1, 1, 1, 0, 0, []),
  (48, .putfield 26, 3, 12, 5, 0, [1589]),
  (51, .aload_n 0, 1, 0, 0, 0, []),
  (52, .iconst 0, 1, 0, 0, 0, []),
  (53, .putfield 20, 3, 12, 3, 0, [1587]),
  (56, .aload_n 0, 1, 0, 0, 0, []),
  (57, .iconst (-1), 1, 4294967295, 0, 0, []),
  (58, .putfield 48, 3, 12, 12, 0, [1596]),
  (61, .iload_n 1, 1, 1, 0, 0, []),
  (62, .aload_n 0, 1, 0, 0, 0, []),
  (63, .getfield 17, 3, 12, 2, 0, [1586]),
  (66, .if_icmp .lt 4, 3, 70, 0, 0, []),
  (69, .return_, 1, 0, 0, 0, []),
  (70, .aload_n 0, 1, 0, 0, 0, []),
  (71, .getfield 7, 3, 12, 0, 0, [1584]),
  (74, .iload_n 1, 1, 1, 0, 0, []),
  (75, .iaload, 1, 0, 0, 0, []),
  (76, .invokestatic 261, 3, 999, 1, 9, []),
  (79, .istore_n 2, 1, 2, 0, 0, []),
  (80, .aload_n 0, 1, 0, 0, 0, []),
  (81, .getfield 7, 3, 12, 0, 0, [1584]),
  (84, .iload_n 1, 1, 1, 0, 0, []),
  (85, .iaload, 1, 0, 0, 0, []),
  (86, .invokestatic 265, 3, 999, 1, 9, []),
  (89, .istore_n 3, 1, 3, 0, 0, []),
  (90, .iload_n 2, 1, 2, 0, 0, []),
  (91, .ifCond .ne 7, 3, 98, 0, 0, []),
  (94, .iload_n 3, 1, 3, 0, 0, []),
  (95, .ifCond .eq 40, 3, 135, 0, 0, []),
  (98, .iload_n 1, 1, 1, 0, 0, []),
  (99, .ifCond .le 36, 3, 135, 0, 0, []),
  (102, .aload_n 0, 1, 0, 0, 0, []),
  (103, .getfield 7, 3, 12, 0, 0, [1584]),
  (106, .iload_n 1, 1, 1, 0, 0, []),
  (107, .iconst 1, 1, 1, 0, 0, []),
  (108, .isub, 1, 0, 0, 0, []),
  (109, .iaload, 1, 0, 0, 0, []),
  (110, .invokestatic 261, 3, 999, 1, 9, []),
  (113, .ifCond .ne 17, 3, 130, 0, 0, []),
  (116, .aload_n 0, 1, 0, 0, 0, []),
  (117, .getfield 7, 3, 12, 0, 0, [1584]),
  (120, .iload_n 1, 1, 1, 0, 0, []),
  (121, .iconst 1, 1, 1, 0, 0, []),
  (122, .isub, 1, 0, 0, 0, []),
  (123, .iaload, 1, 0, 0, 0, []),
  (124, .invokestatic 265, 3, 999, 1, 9, []),
  (127, .ifCond .eq 8, 3, 135, 0, 0, []),
  (130, .aload_n 0, 1, 0, 0, 0, []),
  (131, .iload_n 1, 1, 1, 0, 0, []),
  (132, .putfield 48, 3, 12, 12, 0, [1596]),
  (135, .aload_n 0, 1, 0, 0, 0, []),
  (136, .iconst 0, 1, 0, 0, 0, []),
  (137, .putfield 29, 3, 12, 6, 0, [1590]),
  (140, .aload_n 0, 1, 0, 0, 0, []),
  (141, .lconst 0, 1, 0, 0, 0, []),
  (142, .putfield 32, 3, 12, 7, 3, [1591]),
  (145, .aload_n 0, 1, 0, 0, 0, []),
  (146, .iconst 3, 1, 3, 0, 0, []),
  (147, .putfield 20, 3, 12, 3, 0, [1587]),
  (150, .aload_n 0, 1, 0, 0, 0, []),
  (151, .iload_n 1, 1, 1, 0, 0, []),
  (152, .iconst 1, 1, 1, 0, 0, []),
  (153, .iadd, 1, 0, 0, 0, []),
  (154, .putfield 26, 3, 12, 5, 0, [1589]),
  (157, .iload_n 2, 1, 2, 0, 0, []),
  (158, .ifCond .ne 18, 3, 176, 0, 0, []),
  (161, .iload_n 3, 1, 3, 0, 0, []),
  (162, .ifCond .ne 14, 3, 176, 0, 0, []),
  (165, .aload_n 0, 1, 0, 0, 0, []),
  (166, .aload_n 0, 1, 0, 0, 0, []),
  (167, .getfield 7, 3, 12, 0, 0, [1584]),
  (170, .iload_n 1, 1, 1, 0, 0, []),
  (171, .iaload, 1, 0, 0, 0, []),
  (172, .putfield 29, 3, 12, 6, 0, [1590]),
  (175, .return_, 1, 0, 0, 0, []),
  (176, .aload_n 0, 1, 0, 0, 0, []),
  (177, .iload_n 2, 1, 2, 0, 0, []),
  (178, .ifCond .eq 7, 3, 185, 0, 0, []),
  (181, .iconst 1, 1, 1, 0, 0, []),
  (182, .goto 4, 3, 186, 0, 0, []),
  (185, .iconst 2, 1, 2, 0, 0, []),
  (186, .putfield 20, 3, 12, 3, 0, [1587]),
  (189, .iload_n 2, 1, 2, 0, 0, []),
  (190, .ifCond .eq 8, 3, 198, 0, 0, []),
  (193, .bipush 6, 2, 6, 0, 0, []),
  (195, .goto 4, 3, 199, 0, 0, []),
  (198, .iconst 4, 1, 4, 0, 0, []),
  (199, .istore 4, 2, 4, 0, 0, []),
  (201, .iconst 0, 1, 0, 0, 0, []),
  (202, .istore 5, 2, 5, 0, 0, []),
  (204, .iload_n 1, 1, 1, 0, 0, []),
  (205, .aload_n 0, 1, 0, 0, 0, []),
  (206, .getfield 17, 3, 12, 2, 0, [1586]),
  (209, .if_icmp .ge 125, 3, 334, 0, 0, []),
  (212, .iload_n 2, 1, 2, 0, 0, []),
  (213, .ifCond .eq 18, 3, 231, 0, 0, []),
  (216, .aload_n 0, 1, 0, 0, 0, []),
  (217, .getfield 7, 3, 12, 0, 0, [1584]),
  (220, .iload_n 1, 1, 1, 0, 0, []),
  (221, .iaload, 1, 0, 0, 0, []),
  (222, .invokestatic 261, 3, 999, 1, 9, []),
  (225, .ifCond .eq 109, 3, 334, 0, 0, []),
  (228, .goto 15, 3, 243, 0, 0, []),
  (231, .aload_n 0, 1, 0, 0, 0, []),
  (232, .getfield 7, 3, 12, 0, 0, [1584]),
  (235, .iload_n 1, 1, 1, 0, 0, []),
  (236, .iaload, 1, 0, 0, 0, []),
  (237, .invokestatic 265, 3, 999, 1, 9, []),
  (240, .ifCond .eq 94, 3, 334, 0, 0, []),
  (243, .iload 5, 2, 5, 0, 0, []),
  (245, .iload 4, 2, 4, 0, 0, []),
  (247, .if_icmp .ne 16, 3, 263, 0, 0, []),
  (250, .aload_n 0, 1, 0, 0, 0, []),
  (251, .getfield 48, 3, 12, 12, 0, [1596]),
  (254, .iconst (-1), 1, 4294967295, 0, 0, []),
  (255, .if_icmp .ne 8, 3, 263, 0, 0, []),
  (258, .aload_n 0, 1, 0, 0, 0, []),
  (259, .iload_n 1, 1, 1, 0, 0, []),
  (260, .putfield 48, 3, 12, 12, 0, [1596]),
  (263, .iload 5, 2, 5, 0, 0, []),
  (265, .iload 4, 2, 4, 0, 0, []),
  (267, .if_icmp .ge 26, 3, 293, 0, 0, []),
  (270, .iload_n 2, 1, 2, 0, 0, []),
  (271, .ifCond .eq 22, 3, 293, 0, 0, []),
  (274, .aload_n 0, 1, 0, 0, 0, []),
  (275, .aload_n 0, 1, 0, 0, 0, []),
  (276, .getfield 32, 3, 12, 7, 0, [1591]),
  (279, .bipush 8, 2, 8, 0, 0, []),
  (281, .nop, 1, 0, 0, 0, []),
  (282, .aload_n 0, 1, 0, 0, 0, []),
  (283, .getfield 7, 3, 12, 0, 0, [1584]),
  (286, .iload_n 1, 1, 1, 0, 0, []),
  (287, .iaload, 1, 0, 0, 0, []),
  (288, .i2l, 1, 0, 0, 0, []),
  (289, .lor, 1, 0, 0, 0, []),
  (290, .putfield 32, 3, 12, 7, 3, [1591]),
  (293, .iload 5, 2, 5, 0, 0, []),
  (295, .iload 4, 2, 4, 0, 0, []),
  (297, .if_icmp .ge 28, 3, 325, 0, 0, []),
  (300, .iload_n 3, 1, 3, 0, 0, []),
  (301, .ifCond .eq 24, 3, 325, 0, 0, []),
  (304, .aload_n 0, 1, 0, 0, 0, []),
  (305, .bipush 10, 2, 10, 0, 0, []),
  (307, .aload_n 0, 1, 0, 0, 0, []),
  (308, .getfield 29, 3, 12, 6, 0, [1590]),
  (311, .imul, 1, 0, 0, 0, []),
  (312, .aload_n 0, 1, 0, 0, 0, []),
  (313, .getfield 7, 3, 12, 0, 0, [1584]),
  (316, .iload_n 1, 1, 1, 0, 0, []),
  (317, .iaload, 1, 0, 0, 0, []),
  (318, .iadd, 1, 0, 0, 0, []),
  (319, .bipush 48, 2, 48, 0, 0, []),
  (321, .isub, 1, 0, 0, 0, []),
  (322, .putfield 29, 3, 12, 6, 0, [1590]),
  (325, .iinc 5 1, 3, 5, 1, 0, []),
  (328, .iinc 1 1, 3, 1, 1, 0, []),
  (331, .goto (-127), 3, 204, 0, 0, []),
  (334, .aload_n 0, 1, 0, 0, 0, []),
  (335, .iload_n 1, 1, 1, 0, 0, []),
  (336, .putfield 26, 3, 12, 5, 0, [1589]),
  (339, .return_, 1, 0, 0, 0, [])]
/-- GreyRouteModel.begin()V -/
def rx_m150 : List rx_E := [(0, .aload_n 0, 1, 0, 0, 0, []),
  (1, .getfield 159, 3, 12, 48, 0, [1632]),
  (4, .iconst 0, 1, 0, 0, 0, []),
  (5, .iconst 0, 1, 0, 0, 0, []),
  (6, .iastore, 1, 0, 0, 0, []),
  (7, .aload_n 0, 1, 0, 0, 0, []),
  (8, .getfield 162, 3, 12, 49, 0, [1633]),
  (11, .iconst 0, 1, 0, 0, 0, []),
  (12, .iconst 0, 1, 0, 0, 0, []),
  (13, .iastore, 1, 0, 0, 0, []),
  (14, .iconst 0, 1, 0, 0, 0, []),
  (15, .istore_n 1, 1, 1, 0, 0, []),
  (16, .iload_n 1, 1, 1, 0, 0, []),
  (17, .bipush 8, 2, 8, 0, 0, []),
  (19, .if_icmp .ge 29, 3, 48, 0, 0, []),
  (22, .aload_n 0, 1, 0, 0, 0, []),
  (23, .getfield 165, 3, 12, 50, 0, [1634]),
  (26, .iload_n 1, 1, 1, 0, 0, []),
  (27, .aload_n 0, 1, 0, 0, 0, []),
  (28, .getfield 84, 3, 12, 24, 0, [1608]),
  (31, .bipush 8, 2, 8, 0, 0, []),
  (33, .aload_n 0, 1, 0, 0, 0, []),
  (34, .getfield 51, 3, 12, 13, 0, [1597]),
  (37, .imul, 1, 0, 0, 0, []),
  (38, .iload_n 1, 1, 1, 0, 0, []),
  (39, .iadd, 1, 0, 0, 0, []),
  (40, .iaload, 1, 0, 0, 0, []),
  (41, .iastore, 1, 0, 0, 0, []),
  (42, .iinc 1 1, 3, 1, 1, 0, []),
  (45, .goto (-29), 3, 16, 0, 0, []),
  (48, .aload_n 0, 1, 0, 0, 0, []),
  (49, .getfield 168, 3, 12, 51, 0, [1635]),
  (52, .iconst 0, 1, 0, 0, 0, []),
  (53, .aload_n 0, 1, 0, 0, 0, []),
  (54, .getfield 72, 3, 12, 20, 0, [1604]),
  (57, .aload_n 0, 1, 0, 0, 0, []),
  (58, .getfield 51, 3, 12, 13, 0, [1597]),
  (61, .iaload, 1, 0, 0, 0, []),
  (62, .iastore, 1, 0, 0, 0, []),
  (63, .iconst 0, 1, 0, 0, 0, []),
  (64, .istore_n 1, 1, 1, 0, 0, []),
  (65, .iload_n 1, 1, 1, 0, 0, []),
  (66, .aload_n 0, 1, 0, 0, 0, []),
  (67, .getfield 72, 3, 12, 20, 0, [1604]),
  (70, .aload_n 0, 1, 0, 0, 0, []),
  (71, .getfield 51, 3, 12, 13, 0, [1597]),
  (74, .iaload, 1, 0, 0, 0, []),
  (75, .if_icmp .ge 49, 3, 124, 0, 0, []),
  (78, .aload_n 0, 1, 0, 0, 0, []),
  (79, .getfield 171, 3, 12, 52, 0, [1636]),
  (82, .iload_n 1, 1, 1, 0, 0, []),
  (83, .aload_n 0, 1, 0, 0, 0, []),
  (84, .getfield 75, 3, 12, 21, 0, [1605]),
  (87, .bipush 20, 2, 20, 0, 0, []),
  (89, .aload_n 0, 1, 0, 0, 0, []),
  (90, .getfield 51, 3, 12, 13, 0, [1597]),
  (93, .imul, 1, 0, 0, 0, []),
  (94, .iload_n 1, 1, 1, 0, 0, []),
  (95, .iadd, 1, 0, 0, 0, []),
  (96, .iaload, 1, 0, 0, 0, []),
  (97, .iastore, 1, 0, 0, 0, []),
  (98, .aload_n 0, 1, 0, 0, 0, []),
  (99, .getfield 174, 3, 12, 53, 0, [1637]),
  (102, .iload_n 1, 1, 1, 0, 0, []),
  (103, .aload_n 0, 1, 0, 0, 0, []),
  (104, .getfield 78, 3, 12, 22, 0, [1606]),
  (107, .bipush 20, 2, 20, 0, 0, []),
  (109, .aload_n 0, 1, 0, 0, 0, []),
  (110, .getfield 51, 3, 12, 13, 0, [1597]),
  (113, .imul, 1, 0, 0, 0, []),
  (114, .iload_n 1, 1, 1, 0, 0, []),
  (115, .iadd, 1, 0, 0, 0, []),
  (116, .iaload, 1, 0, 0, 0, []),
  (117, .iastore, 1, 0, 0, 0, []),
  (118, .iinc 1 1, 3, 1, 1, 0, []),
  (121, .goto (-56), 3, 65, 0, 0, []),
  (124, .aload_n 0, 1, 0, 0, 0, []),
  (125, .getfield 177, 3, 12, 54, 0, [1638]),
  (128, .iconst 0, 1, 0, 0, 0, []),
  (129, .iconst 0, 1, 0, 0, 0, []),
  (130, .iastore, 1, 0, 0, 0, []),
  (131, .aload_n 0, 1, 0, 0, 0, []),
  (132, .iconst 0, 1, 0, 0, 0, []),
  (133, .putfield 186, 3, 12, 57, 0, [1641]),
  (136, .aload_n 0, 1, 0, 0, 0, []),
  (137, .iconst 0, 1, 0, 0, 0, []),
  (138, .putfield 228, 3, 12, 71, 0, [1655]),
  (141, .return_, 1, 0, 0, 0, [])]
/-- GreyRouteModel.bits(I)I -/
def rx_m151 : List rx_E := [(0, .iconst 0, 1, 0, 0, 0, []),
  (1, .istore_n 1, 1, 1, 0, 0, []),
  (2, .iload_n 0, 1, 0, 0, 0, []),
  (3, .istore_n 2, 1, 2, 0, 0, []),
  (4, .iload_n 2, 1, 2, 0, 0, []),
  (5, .ifCond .eq 15, 3, 20, 0, 0, []),
  (8, .iinc 1 1, 3, 1, 1, 0, []),
  (11, .iload_n 2, 1, 2, 0, 0, []),
  (12, .iload_n 2, 1, 2, 0, 0, []),
  (13, .iconst 1, 1, 1, 0, 0, []),
  (14, .isub, 1, 0, 0, 0, []),
  (15, .iand, 1, 0, 0, 0, []),
  (16, .istore_n 2, 1, 2, 0, 0, []),
  (17, .goto (-13), 3, 4, 0, 0, []),
  (20, .iload_n 1, 1, 1, 0, 0, []),
  (21, .ireturn, 1, 0, 0, 0, [])]
/-- GreyRouteModel.pairs()I -/
def rx_m152 : List rx_E := [(0, .iconst 0, 1, 0, 0, 0, []),
  (1, .istore_n 1, 1, 1, 0, 0, []),
  (2, .iconst 0, 1, 0, 0, 0, []),
  (3, .istore_n 2, 1, 2, 0, 0, []),
  (4, .iload_n 2, 1, 2, 0, 0, []),
  (5, .aload_n 0, 1, 0, 0, 0, []),
  (6, .getfield 201, 3, 12, 62, 0, [1646]),
  (9, .if_icmp .ge 45, 3, 54, 0, 0, []),
  (12, .iconst 0, 1, 0, 0, 0, []),
  (13, .istore_n 3, 1, 3, 0, 0, []),
  (14, .iload_n 3, 1, 3, 0, 0, []),
  (15, .iload_n 2, 1, 2, 0, 0, []),
  (16, .if_icmp .ge 32, 3, 48, 0, 0, []),
  (19, .iload_n 1, 1, 1, 0, 0, []),
  (20, .aload_n 0, 1, 0, 0, 0, []),
  (21, .getfield 204, 3, 12, 63, 0, [1647]),
  (24, .iload_n 2, 1, 2, 0, 0, []),
  (25, .iaload, 1, 0, 0, 0, []),
  (26, .aload_n 0, 1, 0, 0, 0, []),
  (27, .getfield 204, 3, 12, 63, 0, [1647]),
  (30, .iload_n 3, 1, 3, 0, 0, []),
  (31, .iaload, 1, 0, 0, 0, []),
  (32, .if_icmp .ne 7, 3, 39, 0, 0, []),
  (35, .iconst 1, 1, 1, 0, 0, []),
  (36, .goto 4, 3, 40, 0, 0, []),
  (39, .iconst 0, 1, 0, 0, 0, []),
  (40, .iadd, 1, 0, 0, 0, []),
  (41, .istore_n 1, 1, 1, 0, 0, []),
  (42, .iinc 3 1, 3, 3, 1, 0, []),
  (45, .goto (-31), 3, 14, 0, 0, []),
  (48, .iinc 2 1, 3, 2, 1, 0, []),
  (51, .goto (-47), 3, 4, 0, 0, []),
  (54, .iload_n 1, 1, 1, 0, 0, []),
  (55, .ireturn, 1, 0, 0, 0, [])]
/-- GreyRoute.wall()I -/
def rx_m153 : List rx_E := [(0, .aload_n 0, 1, 0, 0, 0, []),
  (1, .invokevirtual 218, 3, 45, 1, 1, [11, 0, 1191, 1193, 257, 41]),
  (4, .iconst (-1), 1, 4294967295, 0, 0, []),
  (5, .istore_n 1, 1, 1, 0, 0, []),
  (6, .iconst 0, 1, 0, 0, 0, []),
  (7, .istore_n 2, 1, 2, 0, 0, []),
  (8, .iload_n 2, 1, 2, 0, 0, []),
  (9, .aload_n 0, 1, 0, 0, 0, []),
  (10, .getfield 85, 3, 11, 7, 0, [795]),
  (13, .getfield 221, 3, 2, 0, 0, [715]),
  (16, .getfield 144, 3, 5, 2, 0, [332]),
  (19, .if_icmp .ge 37, 3, 56, 0, 0, []),
  (22, .iload_n 1, 1, 1, 0, 0, []),
  (23, .iconst (-1), 1, 4294967295, 0, 0, []),
  (24, .if_icmp .eq 24, 3, 48, 0, 0, []),
  (27, .aload_n 0, 1, 0, 0, 0, []),
  (28, .getfield 85, 3, 11, 7, 0, [795]),
  (31, .getfield 231, 3, 2, 1, 0, [717]),
  (34, .iload_n 2, 1, 2, 0, 0, []),
  (35, .iaload, 1, 0, 0, 0, []),
  (36, .aload_n 0, 1, 0, 0, 0, []),
  (37, .getfield 85, 3, 11, 7, 0, [795]),
  (40, .getfield 231, 3, 2, 1, 0, [717]),
  (43, .iload_n 1, 1, 1, 0, 0, []),
  (44, .iaload, 1, 0, 0, 0, []),
  (45, .if_icmp .le 5, 3, 50, 0, 0, []),
  (48, .iload_n 2, 1, 2, 0, 0, []),
  (49, .istore_n 1, 1, 1, 0, 0, []),
  (50, .iinc 2 1, 3, 2, 1, 0, []),
  (53, .goto (-45), 3, 8, 0, 0, []),
  (56, .iload_n 1, 1, 1, 0, 0, []),
  (57, .ireturn, 1, 0, 0, 0, [])]
/-- GreyRouteModel.wall()I -/
def rx_m154 : List rx_E := [(0, .aload_n 0, 1, 0, 0, 0, []),
  (1, .iconst 0, 1, 0, 0, 0, []),
  (2, .aload_n 0, 1, 0, 0, 0, []),
  (3, .invokevirtual 513, 3, 12, 1, 1, [12, 0, 2109, 2111, 275, 95]),
  (6, .iconst 0, 1, 0, 0, 0, []),
  (7, .iconst 0, 1, 0, 0, 0, []),
  (8, .invokevirtual 493, 3, 13, 5, 1, [12, 0, 2113, 2115, 275, 96]),
  (11, .aload_n 0, 1, 0, 0, 0, []),
  (12, .invokevirtual 516, 3, 129, 1, 1, [12, 0, 2169, 2171, 275, 105]),
  (15, .ireturn, 1, 0, 0, 0, [])]
/-- GreyRoute$Pageant.standsWithin(ILGreyRoute$State;I)Z -/
def rx_m155 : List rx_E := [(0, .aload_n 0, 1, 0, 0, 0, []),
  (1, .aload_n 2, 1, 2, 0, 0, []),
  (2, .iload_n 3, 1, 3, 0, 0, []),
  (3, .invokevirtual 78, 3, 41, 3, 1, [2, 0, 1205, 1207, 272, 43]),
  (6, .iconst 0, 1, 0, 0, 0, []),
  (7, .istore 4, 2, 4, 0, 0, []),
  (9, .iload 4, 2, 4, 0, 0, []),
  (11, .aload_n 0, 1, 0, 0, 0, []),
  (12, .getfield 12, 3, 2, 0, 0, [713]),
  (15, .getfield 118, 3, 5, 2, 0, [330]),
  (18, .if_icmp .ge 21, 3, 39, 0, 0, []),
  (21, .aload_n 0, 1, 0, 0, 0, []),
  (22, .iload 4, 2, 4, 0, 0, []),
  (24, .invokevirtual 132, 3, 999, 2, 9, []),
  (27, .iload_n 1, 1, 1, 0, 0, []),
  (28, .if_icmp .le 5, 3, 33, 0, 0, []),
  (31, .iconst 0, 1, 0, 0, 0, []),
  (32, .ireturn, 1, 0, 0, 0, []),
  (33, .iinc 4 1, 3, 4, 1, 0, []),
  (36, .goto (-27), 3, 9, 0, 0, []),
  (39, .iconst 1, 1, 1, 0, 0, []),
  (40, .ireturn, 1, 0, 0, 0, [])]
/-- GreyRoute.held()I -/
def rx_m156 : List rx_E := [(0, .aload_n 0, 1, 0, 0, 0, []),
  (1, .getfield 85, 3, 11, 7, 0, [795]),
  (4, .aload_n 0, 1, 0, 0, 0, []),
  (5, .getfield 49, 3, 11, 8, 0, [796]),
  (8, .aload_n 0, 1, 0, 0, 0, []),
  (9, .getfield 24, 3, 11, 2, 0, [790]),
  (12, .invokevirtual 260, 3, 42, 3, 1, [2, 0, 1195, 1196, 272, 1197]),
  (15, .iconst 0, 1, 0, 0, 0, []),
  (16, .istore_n 1, 1, 1, 0, 0, []),
  (17, .iload_n 1, 1, 1, 0, 0, []),
  (18, .bipush 40, 2, 40, 0, 0, []),
  (20, .if_icmp .ge 28, 3, 48, 0, 0, []),
  (23, .aload_n 0, 1, 0, 0, 0, []),
  (24, .getfield 85, 3, 11, 7, 0, [795]),
  (27, .aload_n 0, 1, 0, 0, 0, []),
  (28, .getfield 49, 3, 11, 8, 0, [796]),
  (31, .getfield 254, 3, 8, 13, 0, [494]),
  (34, .invokevirtual 267, 3, 157, 2, 1, [2, 0, 1357, 1358, 272, 1359]),
  (37, .ifCond .eq 5, 3, 42, 0, 0, []),
  (40, .iload_n 1, 1, 1, 0, 0, []),
  (41, .ireturn, 1, 0, 0, 0, []),
  (42, .iinc 1 1, 3, 1, 1, 0, []),
  (45, .goto (-28), 3, 17, 0, 0, []),
  (48, .iconst (-1), 1, 4294967295, 0, 0, []),
  (49, .ireturn, 1, 0, 0, 0, [])]
/-- GreyRoute$Pageant.leavesRoute(I)Z -/
def rx_m157 : List rx_E := [(0, .aload_n 0, 1, 0, 0, 0, []),
  (1, .getfield 37, 3, 2, 7, 0, [724]),
  (4, .aload_n 0, 1, 0, 0, 0, []),
  (5, .getfield 12, 3, 2, 0, 0, [713]),
  (8, .invokevirtual 86, 3, 36, 2, 1, [5, 0, 1203, 1101, 261, 1102]),
  (11, .aload_n 0, 1, 0, 0, 0, []),
  (12, .iload_n 1, 1, 1, 0, 0, []),
  (13, .invokevirtual 157, 3, 10, 2, 1, [2, 0, 1361, 1211, 272, 1212]),
  (16, .aload_n 0, 1, 0, 0, 0, []),
  (17, .invokevirtual 161, 3, 17, 1, 1, [2, 0, 1362, 1340, 272, 1341]),
  (20, .aload_n 0, 1, 0, 0, 0, []),
  (21, .getfield 37, 3, 2, 7, 0, [724]),
  (24, .aload_n 0, 1, 0, 0, 0, []),
  (25, .getfield 12, 3, 2, 0, 0, [713]),
  (28, .invokevirtual 164, 3, 158, 2, 1, [5, 0, 1363, 1364, 261, 1365]),
  (31, .ireturn, 1, 0, 0, 0, [])]
/-- GreyRoute$Route.isLike(LGreyRoute$Route;)Z -/
def rx_m158 : List rx_E := [(0, .aload_n 0, 1, 0, 0, 0, []),
  (1, .getfield 18, 3, 5, 2, 0, [327]),
  (4, .aload_n 1, 1, 1, 0, 0, []),
  (5, .getfield 18, 3, 5, 2, 0, [327]),
  (8, .if_icmp .eq 5, 3, 13, 0, 0, []),
  (11, .iconst 0, 1, 0, 0, 0, []),
  (12, .ireturn, 1, 0, 0, 0, []),
  (13, .iconst 0, 1, 0, 0, 0, []),
  (14, .istore_n 2, 1, 2, 0, 0, []),
  (15, .iload_n 2, 1, 2, 0, 0, []),
  (16, .aload_n 0, 1, 0, 0, 0, []),
  (17, .getfield 18, 3, 5, 2, 0, [327]),
  (20, .if_icmp .ge 41, 3, 61, 0, 0, []),
  (23, .aload_n 0, 1, 0, 0, 0, []),
  (24, .getfield 9, 3, 5, 0, 0, [319]),
  (27, .iload_n 2, 1, 2, 0, 0, []),
  (28, .iaload, 1, 0, 0, 0, []),
  (29, .aload_n 1, 1, 1, 0, 0, []),
  (30, .getfield 9, 3, 5, 0, 0, [319]),
  (33, .iload_n 2, 1, 2, 0, 0, []),
  (34, .iaload, 1, 0, 0, 0, []),
  (35, .if_icmp .ne 18, 3, 53, 0, 0, []),
  (38, .aload_n 0, 1, 0, 0, 0, []),
  (39, .getfield 15, 3, 5, 1, 0, [323]),
  (42, .iload_n 2, 1, 2, 0, 0, []),
  (43, .iaload, 1, 0, 0, 0, []),
  (44, .aload_n 1, 1, 1, 0, 0, []),
  (45, .getfield 15, 3, 5, 1, 0, [323]),
  (48, .iload_n 2, 1, 2, 0, 0, []),
  (49, .iaload, 1, 0, 0, 0, []),
  (50, .if_icmp .eq 5, 3, 55, 0, 0, []),
  (53, .iconst 0, 1, 0, 0, 0, []),
  (54, .ireturn, 1, 0, 0, 0, []),
  (55, .iinc 2 1, 3, 2, 1, 0, []),
  (58, .goto (-43), 3, 15, 0, 0, []),
  (61, .iconst 1, 1, 1, 0, 0, []),
  (62, .ireturn, 1, 0, 0, 0, [])]
/-- GreyRouteModel.held()I -/
def rx_m159 : List rx_E := [(0, .aload_n 0, 1, 0, 0, 0, []),
  (1, .iconst 1, 1, 1, 0, 0, []),
  (2, .iconst 0, 1, 0, 0, 0, []),
  (3, .invokevirtual 441, 3, 60, 3, 1, [12, 0, 2064, 2066, 275, 92]),
  (6, .iconst 0, 1, 0, 0, 0, []),
  (7, .istore_n 1, 1, 1, 0, 0, []),
  (8, .aload_n 0, 1, 0, 0, 0, []),
  (9, .iload_n 1, 1, 1, 0, 0, []),
  (10, .iconst 0, 1, 0, 0, 0, []),
  (11, .bipush 39, 2, 39, 0, 0, []),
  (13, .invokevirtual 522, 3, 59, 4, 1, [12, 0, 2193, 2195, 275, 107]),
  (16, .ifCond .eq 83, 3, 99, 0, 0, []),
  (19, .aload_n 0, 1, 0, 0, 0, []),
  (20, .aload_n 0, 1, 0, 0, 0, []),
  (21, .getfield 168, 3, 12, 51, 0, [1635]),
  (24, .iconst 1, 1, 1, 0, 0, []),
  (25, .iaload, 1, 0, 0, 0, []),
  (26, .putfield 219, 3, 12, 68, 0, [1652]),
  (29, .iconst 0, 1, 0, 0, 0, []),
  (30, .istore_n 2, 1, 2, 0, 0, []),
  (31, .iload_n 2, 1, 2, 0, 0, []),
  (32, .aload_n 0, 1, 0, 0, 0, []),
  (33, .getfield 219, 3, 12, 68, 0, [1652]),
  (36, .if_icmp .ge 39, 3, 75, 0, 0, []),
  (39, .aload_n 0, 1, 0, 0, 0, []),
  (40, .getfield 222, 3, 12, 69, 0, [1653]),
  (43, .iload_n 2, 1, 2, 0, 0, []),
  (44, .aload_n 0, 1, 0, 0, 0, []),
  (45, .getfield 171, 3, 12, 52, 0, [1636]),
  (48, .bipush 30, 2, 30, 0, 0, []),
  (50, .iload_n 2, 1, 2, 0, 0, []),
  (51, .iadd, 1, 0, 0, 0, []),
  (52, .iaload, 1, 0, 0, 0, []),
  (53, .iastore, 1, 0, 0, 0, []),
  (54, .aload_n 0, 1, 0, 0, 0, []),
  (55, .getfield 225, 3, 12, 70, 0, [1654]),
  (58, .iload_n 2, 1, 2, 0, 0, []),
  (59, .aload_n 0, 1, 0, 0, 0, []),
  (60, .getfield 174, 3, 12, 53, 0, [1637]),
  (63, .bipush 30, 2, 30, 0, 0, []),
  (65, .iload_n 2, 1, 2, 0, 0, []),
  (66, .iadd, 1, 0, 0, 0, []),
  (67, .iaload, 1, 0, 0, 0, []),
  (68, .iastore, 1, 0, 0, 0, []),
  (69, .iinc 2 1, 3, 2, 1, 0, []),
  (72, .goto (-41), 3, 31, 0, 0, []),
  (75, .aload_n 0, 1, 0, 0, 0, []),
  (76, .iconst 1, 1, 1, 0, 0, []),
  (77, .aload_n 0, 1, 0, 0, 0, []),
  (78, .invokevirtual 513, 3, 12, 1, 1, [12, 0, 2109, 2111, 275, 95]),
  (81, .invokevirtual 525, 3, 19, 3, 1, [12, 0, 2197, 2199, 275, 108]),
  (84, .aload_n 0, 1, 0, 0, 0, []),
  (85, .invokevirtual 528, 3, 160, 1, 1, [12, 0, 2221, 2223, 275, 112]),
  (88, .ifCond .eq 5, 3, 93, 0, 0, []),
  (91, .iload_n 1, 1, 1, 0, 0, []),
  (92, .ireturn, 1, 0, 0, 0, []),
  (93, .iinc 1 1, 3, 1, 1, 0, []),
  (96, .goto (-88), 3, 8, 0, 0, []),
  (99, .iconst (-1), 1, 4294967295, 0, 0, []),
  (100, .ireturn, 1, 0, 0, 0, [])]
/-- GreyRouteModel.isAsWas()Z -/
def rx_m160 : List rx_E := [(0, .aload_n 0, 1, 0, 0, 0, []),
  (1, .getfield 168, 3, 12, 51, 0, [1635]),
  (4, .iconst 1, 1, 1, 0, 0, []),
  (5, .iaload, 1, 0, 0, 0, []),
  (6, .aload_n 0, 1, 0, 0, 0, []),
  (7, .getfield 219, 3, 12, 68, 0, [1652]),
  (10, .if_icmp .eq 5, 3, 15, 0, 0, []),
  (13, .iconst 0, 1, 0, 0, 0, []),
  (14, .ireturn, 1, 0, 0, 0, []),
  (15, .iconst 0, 1, 0, 0, 0, []),
  (16, .istore_n 1, 1, 1, 0, 0, []),
  (17, .iload_n 1, 1, 1, 0, 0, []),
  (18, .aload_n 0, 1, 0, 0, 0, []),
  (19, .getfield 219, 3, 12, 68, 0, [1652]),
  (22, .if_icmp .ge 47, 3, 69, 0, 0, []),
  (25, .aload_n 0, 1, 0, 0, 0, []),
  (26, .getfield 171, 3, 12, 52, 0, [1636]),
  (29, .bipush 30, 2, 30, 0, 0, []),
  (31, .iload_n 1, 1, 1, 0, 0, []),
  (32, .iadd, 1, 0, 0, 0, []),
  (33, .iaload, 1, 0, 0, 0, []),
  (34, .aload_n 0, 1, 0, 0, 0, []),
  (35, .getfield 222, 3, 12, 69, 0, [1653]),
  (38, .iload_n 1, 1, 1, 0, 0, []),
  (39, .iaload, 1, 0, 0, 0, []),
  (40, .if_icmp .ne 21, 3, 61, 0, 0, []),
  (43, .aload_n 0, 1, 0, 0, 0, []),
  (44, .getfield 174, 3, 12, 53, 0, [1637]),
  (47, .bipush 30, 2, 30, 0, 0, []),
  (49, .iload_n 1, 1, 1, 0, 0, []),
  (50, .iadd, 1, 0, 0, 0, []),
  (51, .iaload, 1, 0, 0, 0, []),
  (52, .aload_n 0, 1, 0, 0, 0, []),
  (53, .getfield 225, 3, 12, 70, 0, [1654]),
  (56, .iload_n 1, 1, 1, 0, 0, []),
  (57, .iaload, 1, 0, 0, 0, []),
  (58, .if_icmp .eq 5, 3, 63, 0, 0, []),
  (61, .iconst 0, 1, 0, 0, 0, []),
  (62, .ireturn, 1, 0, 0, 0, []),
  (63, .iinc 1 1, 3, 1, 1, 0, []),
  (66, .goto (-49), 3, 17, 0, 0, []),
  (69, .iconst 1, 1, 1, 0, 0, []),
  (70, .ireturn, 1, 0, 0, 0, [])]
/-- GreyRoute.half()I -/
def rx_m161 : List rx_E := [(0, .aload_n 0, 1, 0, 0, 0, []),
  (1, .getfield 38, 3, 11, 4, 0, [792]),
  (4, .aload_n 0, 1, 0, 0, 0, []),
  (5, .getfield 14, 3, 11, 0, 0, [788]),
  (8, .aload_n 0, 1, 0, 0, 0, []),
  (9, .getfield 49, 3, 11, 8, 0, [796]),
  (12, .getfield 128, 3, 8, 1, 0, [458]),
  (15, .invokevirtual 270, 3, 162, 3, 1, [1, 0, 1371, 1372, 263, 1373]),
  (18, .istore_n 1, 1, 1, 0, 0, []),
  (19, .iload_n 1, 1, 1, 0, 0, []),
  (20, .ifCond .eq 14, 3, 34, 0, 0, []),
  (23, .aload_n 0, 1, 0, 0, 0, []),
  (24, .getfield 38, 3, 11, 4, 0, [792]),
  (27, .aload_n 0, 1, 0, 0, 0, []),
  (28, .getfield 14, 3, 11, 0, 0, [788]),
  (31, .invokevirtual 274, 3, 999, 2, 9, []),
  (34, .aload_n 0, 1, 0, 0, 0, []),
  (35, .getfield 14, 3, 11, 0, 0, [788]),
  (38, .iconst 0, 1, 0, 0, 0, []),
  (39, .invokevirtual 103, 3, 89, 2, 1, [0, 0, 852, 853, 258, 854]),
  (42, .iload_n 1, 1, 1, 0, 0, []),
  (43, .ifCond .eq 13, 3, 56, 0, 0, []),
  (46, .aload_n 0, 1, 0, 0, 0, []),
  (47, .getfield 38, 3, 11, 4, 0, [792]),
  (50, .getfield 161, 3, 1, 5, 0, [409]),
  (53, .goto 8, 3, 61, 0, 0, []),
  (56, .aload_n 0, 1, 0, 0, 0, []),
  (57, .iconst 5, 1, 5, 0, 0, []),
  (58, .invokevirtual 92, 3, 163, 2, 1, [11, 0, 832, 834, 257, 1]),
  (61, .ireturn, 1, 0, 0, 0, [])]
/-- GreyRoute$Half.fits(LGreyRoute$Bytes;I)Z -/
def rx_m162 : List rx_E := [(0, .aload_n 1, 1, 1, 0, 0, []),
  (1, .getfield 39, 3, 0, 1, 0, [298]),
  (4, .iconst 2, 1, 2, 0, 0, []),
  (5, .if_icmp .lt 21, 3, 26, 0, 0, []),
  (8, .aload_n 1, 1, 1, 0, 0, []),
  (9, .getfield 39, 3, 0, 1, 0, [298]),
  (12, .bipush 40, 2, 40, 0, 0, []),
  (14, .if_icmp .gt 12, 3, 26, 0, 0, []),
  (17, .aload_n 1, 1, 1, 0, 0, []),
  (18, .getfield 39, 3, 0, 1, 0, [298]),
  (21, .iconst 2, 1, 2, 0, 0, []),
  (22, .irem, 1, 0, 0, 0, []),
  (23, .ifCond .eq 5, 3, 28, 0, 0, []),
  (26, .iconst 0, 1, 0, 0, 0, []),
  (27, .ireturn, 1, 0, 0, 0, []),
  (28, .iconst 0, 1, 0, 0, 0, []),
  (29, .istore_n 3, 1, 3, 0, 0, []),
  (30, .iload_n 3, 1, 3, 0, 0, []),
  (31, .aload_n 1, 1, 1, 0, 0, []),
  (32, .getfield 39, 3, 0, 1, 0, [298]),
  (35, .if_icmp .ge 32, 3, 67, 0, 0, []),
  (38, .aload_n 1, 1, 1, 0, 0, []),
  (39, .iload_n 3, 1, 3, 0, 0, []),
  (40, .invokevirtual 44, 3, 72, 2, 1, [0, 0, 1375, 878, 258, 879]),
  (43, .bipush 20, 2, 20, 0, 0, []),
  (45, .if_icmp .ge 14, 3, 59, 0, 0, []),
  (48, .aload_n 1, 1, 1, 0, 0, []),
  (49, .iload_n 3, 1, 3, 0, 0, []),
  (50, .iconst 1, 1, 1, 0, 0, []),
  (51, .iadd, 1, 0, 0, 0, []),
  (52, .invokevirtual 44, 3, 72, 2, 1, [0, 0, 1375, 878, 258, 879]),
  (55, .iload_n 2, 1, 2, 0, 0, []),
  (56, .if_icmp .lt 5, 3, 61, 0, 0, []),
  (59, .iconst 0, 1, 0, 0, 0, []),
  (60, .ireturn, 1, 0, 0, 0, []),
  (61, .iinc 3 2, 3, 3, 2, 0, []),
  (64, .goto (-34), 3, 30, 0, 0, []),
  (67, .iconst 1, 1, 1, 0, 0, []),
  (68, .ireturn, 1, 0, 0, 0, [])]
/-- GreyRoute.refuse(I)I -/
def rx_m163 : List rx_E := [(0, .aload_n 0, 1, 0, 0, 0, []),
  (1, .getfield 42, 3, 11, 5, 0, [793]),
  (4, .iload_n 1, 1, 1, 0, 0, []),
  (5, .dup2, 1, 0, 0, 0, []),
  (6, .iaload, 1, 0, 0, 0, []),
  (7, .iconst 1, 1, 1, 0, 0, []),
  (8, .iadd, 1, 0, 0, 0, []),
  (9, .iastore, 1, 0, 0, 0, []),
  (10, .iconst (-1), 1, 4294967295, 0, 0, []),
  (11, .ireturn, 1, 0, 0, 0, [])]
/-- GreyRouteModel.half()I -/
def rx_m164 : List rx_E := [(0, .aload_n 0, 1, 0, 0, 0, []),
  (1, .getfield 13, 3, 12, 1, 0, [1585]),
  (4, .istore_n 1, 1, 1, 0, 0, []),
  (5, .aload_n 0, 1, 0, 0, 0, []),
  (6, .iconst 0, 1, 0, 0, 0, []),
  (7, .putfield 13, 3, 12, 1, 0, [1585]),
  (10, .iload_n 1, 1, 1, 0, 0, []),
  (11, .ifCond .le 19, 3, 30, 0, 0, []),
  (14, .iload_n 1, 1, 1, 0, 0, []),
  (15, .iconst 2, 1, 2, 0, 0, []),
  (16, .irem, 1, 0, 0, 0, []),
  (17, .ifCond .ne 13, 3, 30, 0, 0, []),
  (20, .iload_n 1, 1, 1, 0, 0, []),
  (21, .bipush 40, 2, 40, 0, 0, []),
  (23, .if_icmp .gt 7, 3, 30, 0, 0, []),
  (26, .iconst 1, 1, 1, 0, 0, []),
  (27, .goto 4, 3, 31, 0, 0, []),
  (30, .iconst 0, 1, 0, 0, 0, []),
  (31, .istore_n 2, 1, 2, 0, 0, []),
  (32, .iconst 0, 1, 0, 0, 0, []),
  (33, .istore_n 3, 1, 3, 0, 0, []),
  (34, .iload_n 3, 1, 3, 0, 0, []),
  (35, .iload_n 1, 1, 1, 0, 0, []),
  (36, .if_icmp .ge 45, 3, 81, 0, 0, []),
  (39, .iload_n 2, 1, 2, 0, 0, []),
  (40, .ifCond .eq 41, 3, 81, 0, 0, []),
  (43, .aload_n 0, 1, 0, 0, 0, []),
  (44, .getfield 7, 3, 12, 0, 0, [1584]),
  (47, .iload_n 3, 1, 3, 0, 0, []),
  (48, .iaload, 1, 0, 0, 0, []),
  (49, .bipush 20, 2, 20, 0, 0, []),
  (51, .if_icmp .ge 22, 3, 73, 0, 0, []),
  (54, .aload_n 0, 1, 0, 0, 0, []),
  (55, .aload_n 0, 1, 0, 0, 0, []),
  (56, .getfield 7, 3, 12, 0, 0, [1584]),
  (59, .iload_n 3, 1, 3, 0, 0, []),
  (60, .iconst 1, 1, 1, 0, 0, []),
  (61, .iadd, 1, 0, 0, 0, []),
  (62, .iaload, 1, 0, 0, 0, []),
  (63, .invokevirtual 510, 3, 67, 2, 1, [12, 0, 2088, 2090, 275, 93]),
  (66, .ifCond .eq 7, 3, 73, 0, 0, []),
  (69, .iconst 1, 1, 1, 0, 0, []),
  (70, .goto 4, 3, 74, 0, 0, []),
  (73, .iconst 0, 1, 0, 0, 0, []),
  (74, .istore_n 2, 1, 2, 0, 0, []),
  (75, .iinc 3 2, 3, 3, 2, 0, []),
  (78, .goto (-44), 3, 34, 0, 0, []),
  (81, .iload_n 2, 1, 2, 0, 0, []),
  (82, .ifCond .ne 9, 3, 91, 0, 0, []),
  (85, .aload_n 0, 1, 0, 0, 0, []),
  (86, .iconst 5, 1, 5, 0, 0, []),
  (87, .invokevirtual 249, 3, 58, 2, 1, [12, 0, 1840, 1842, 275, 56]),
  (90, .ireturn, 1, 0, 0, 0, []),
  (91, .aload_n 0, 1, 0, 0, 0, []),
  (92, .iload_n 1, 1, 1, 0, 0, []),
  (93, .iconst 2, 1, 2, 0, 0, []),
  (94, .idiv, 1, 0, 0, 0, []),
  (95, .putfield 228, 3, 12, 71, 0, [1655]),
  (98, .iconst 0, 1, 0, 0, 0, []),
  (99, .istore_n 3, 1, 3, 0, 0, []),
  (100, .iload_n 3, 1, 3, 0, 0, []),
  (101, .aload_n 0, 1, 0, 0, 0, []),
  (102, .getfield 228, 3, 12, 71, 0, [1655]),
  (105, .if_icmp .ge 39, 3, 144, 0, 0, []),
  (108, .aload_n 0, 1, 0, 0, 0, []),
  (109, .getfield 231, 3, 12, 72, 0, [1656]),
  (112, .iload_n 3, 1, 3, 0, 0, []),
  (113, .aload_n 0, 1, 0, 0, 0, []),
  (114, .getfield 7, 3, 12, 0, 0, [1584]),
  (117, .iconst 2, 1, 2, 0, 0, []),
  (118, .iload_n 3, 1, 3, 0, 0, []),
  (119, .imul, 1, 0, 0, 0, []),
  (120, .iaload, 1, 0, 0, 0, []),
  (121, .iastore, 1, 0, 0, 0, []),
  (122, .aload_n 0, 1, 0, 0, 0, []),
  (123, .getfield 234, 3, 12, 73, 0, [1657]),
  (126, .iload_n 3, 1, 3, 0, 0, []),
  (127, .aload_n 0, 1, 0, 0, 0, []),
  (128, .getfield 7, 3, 12, 0, 0, [1584]),
  (131, .iconst 2, 1, 2, 0, 0, []),
  (132, .iload_n 3, 1, 3, 0, 0, []),
  (133, .imul, 1, 0, 0, 0, []),
  (134, .iconst 1, 1, 1, 0, 0, []),
  (135, .iadd, 1, 0, 0, 0, []),
  (136, .iaload, 1, 0, 0, 0, []),
  (137, .iastore, 1, 0, 0, 0, []),
  (138, .iinc 3 1, 3, 3, 1, 0, []),
  (141, .goto (-41), 3, 100, 0, 0, []),
  (144, .aload_n 0, 1, 0, 0, 0, []),
  (145, .getfield 228, 3, 12, 71, 0, [1655]),
  (148, .ireturn, 1, 0, 0, 0, [])]
/-- GreyRoute.forget()Z -/
def rx_m165 : List rx_E := [(0, .aload_n 0, 1, 0, 0, 0, []),
  (1, .getfield 24, 3, 11, 2, 0, [790]),
  (4, .getfield 140, 3, 6, 3, 0, [353]),
  (7, .getfield 144, 3, 5, 2, 0, [332]),
  (10, .ifCond .ne 9, 3, 19, 0, 0, []),
  (13, .aload_n 0, 1, 0, 0, 0, []),
  (14, .iconst 3, 1, 3, 0, 0, []),
  (15, .invokevirtual 99, 3, 61, 2, 1, [11, 0, 848, 850, 257, 2]),
  (18, .ireturn, 1, 0, 0, 0, []),
  (19, .aload_n 0, 1, 0, 0, 0, []),
  (20, .getfield 31, 3, 11, 3, 0, [791]),
  (23, .aload_n 0, 1, 0, 0, 0, []),
  (24, .getfield 24, 3, 11, 2, 0, [790]),
  (27, .invokevirtual 302, 3, 81, 2, 1, [3, 0, 1448, 1449, 262, 1450]),
  (30, .aload_n 0, 1, 0, 0, 0, []),
  (31, .getfield 24, 3, 11, 2, 0, [790]),
  (34, .getfield 140, 3, 6, 3, 0, [353]),
  (37, .aload_n 0, 1, 0, 0, 0, []),
  (38, .getfield 24, 3, 11, 2, 0, [790]),
  (41, .getfield 140, 3, 6, 3, 0, [353]),
  (44, .getfield 144, 3, 5, 2, 0, [332]),
  (47, .iconst 1, 1, 1, 0, 0, []),
  (48, .isub, 1, 0, 0, 0, []),
  (49, .invokevirtual 326, 3, 70, 2, 1, [5, 0, 1499, 448, 261, 449]),
  (52, .iconst 1, 1, 1, 0, 0, []),
  (53, .ireturn, 1, 0, 0, 0, [])]
/-- GreyRouteModel.forget()Z -/
def rx_m166 : List rx_E := [(0, .aload_n 0, 1, 0, 0, 0, []),
  (1, .getfield 168, 3, 12, 51, 0, [1635]),
  (4, .iconst 0, 1, 0, 0, 0, []),
  (5, .iaload, 1, 0, 0, 0, []),
  (6, .ifCond .ne 17, 3, 23, 0, 0, []),
  (9, .aload_n 0, 1, 0, 0, 0, []),
  (10, .iconst 3, 1, 3, 0, 0, []),
  (11, .invokevirtual 249, 3, 58, 2, 1, [12, 0, 1840, 1842, 275, 56]),
  (14, .ifCond .lt 7, 3, 21, 0, 0, []),
  (17, .iconst 1, 1, 1, 0, 0, []),
  (18, .goto 4, 3, 22, 0, 0, []),
  (21, .iconst 0, 1, 0, 0, 0, []),
  (22, .ireturn, 1, 0, 0, 0, []),
  (23, .aload_n 0, 1, 0, 0, 0, []),
  (24, .invokevirtual 544, 3, 84, 1, 1, [12, 0, 2258, 2260, 275, 115]),
  (27, .aload_n 0, 1, 0, 0, 0, []),
  (28, .getfield 168, 3, 12, 51, 0, [1635]),
  (31, .iconst 0, 1, 0, 0, 0, []),
  (32, .dup2, 1, 0, 0, 0, []),
  (33, .iaload, 1, 0, 0, 0, []),
  (34, .iconst 1, 1, 1, 0, 0, []),
  (35, .isub, 1, 0, 0, 0, []),
  (36, .iastore, 1, 0, 0, 0, []),
  (37, .iconst 1, 1, 1, 0, 0, []),
  (38, .ireturn, 1, 0, 0, 0, [])]
/-- GreyRoute.undo()Z -/
def rx_m167 : List rx_E := [(0, .aload_n 0, 1, 0, 0, 0, []),
  (1, .getfield 31, 3, 11, 3, 0, [791]),
  (4, .aload_n 0, 1, 0, 0, 0, []),
  (5, .getfield 24, 3, 11, 2, 0, [790]),
  (8, .invokevirtual 329, 3, 168, 2, 1, [3, 0, 1504, 1505, 262, 1506]),
  (11, .ifCond .ne 11, 3, 22, 0, 0, []),
  (14, .aload_n 0, 1, 0, 0, 0, []),
  (15, .iconst 4, 1, 4, 0, 0, []),
  (16, .invokevirtual 99, 3, 61, 2, 1, [11, 0, 848, 850, 257, 2]),
  (19, .ifCond .eq 7, 3, 26, 0, 0, []),
  (22, .iconst 1, 1, 1, 0, 0, []),
  (23, .goto 4, 3, 27, 0, 0, []),
  (26, .iconst 0, 1, 0, 0, 0, []),
  (27, .ireturn, 1, 0, 0, 0, [])]
/-- GreyRoute$Past.takeBack(LGreyRoute$State;)Z -/
def rx_m168 : List rx_E := [(0, .aload_n 0, 1, 0, 0, 0, []),
  (1, .getfield 31, 3, 3, 5, 0, [382]),
  (4, .ifCond .ne 5, 3, 9, 0, 0, []),
  (7, .iconst 0, 1, 0, 0, 0, []),
  (8, .ireturn, 1, 0, 0, 0, []),
  (9, .aload_n 0, 1, 0, 0, 0, []),
  (10, .aload_n 0, 1, 0, 0, 0, []),
  (11, .getfield 27, 3, 3, 4, 0, [381]),
  (14, .bipush 20, 2, 20, 0, 0, []),
  (16, .iadd, 1, 0, 0, 0, []),
  (17, .iconst 1, 1, 1, 0, 0, []),
  (18, .isub, 1, 0, 0, 0, []),
  (19, .bipush 20, 2, 20, 0, 0, []),
  (21, .irem, 1, 0, 0, 0, []),
  (22, .putfield 27, 3, 3, 4, 0, [381]),
  (25, .aload_n 0, 1, 0, 0, 0, []),
  (26, .dup, 1, 0, 0, 0, []),
  (27, .getfield 31, 3, 3, 5, 0, [382]),
  (30, .iconst 1, 1, 1, 0, 0, []),
  (31, .isub, 1, 0, 0, 0, []),
  (32, .putfield 31, 3, 3, 5, 0, [382]),
  (35, .aload_n 1, 1, 1, 0, 0, []),
  (36, .aload_n 0, 1, 0, 0, 0, []),
  (37, .getfield 23, 3, 3, 3, 0, [380]),
  (40, .aload_n 0, 1, 0, 0, 0, []),
  (41, .getfield 27, 3, 3, 4, 0, [381]),
  (44, .aaload, 1, 0, 0, 0, []),
  (45, .invokevirtual 35, 3, 82, 2, 1, [6, 0, 1452, 1453, 260, 1454]),
  (48, .iconst 1, 1, 1, 0, 0, []),
  (49, .ireturn, 1, 0, 0, 0, [])]
/-- GreyRouteModel.undo()Z -/
def rx_m169 : List rx_E := [(0, .aload_n 0, 1, 0, 0, 0, []),
  (1, .getfield 186, 3, 12, 57, 0, [1641]),
  (4, .ifCond .ne 17, 3, 21, 0, 0, []),
  (7, .aload_n 0, 1, 0, 0, 0, []),
  (8, .iconst 4, 1, 4, 0, 0, []),
  (9, .invokevirtual 249, 3, 58, 2, 1, [12, 0, 1840, 1842, 275, 56]),
  (12, .ifCond .lt 7, 3, 19, 0, 0, []),
  (15, .iconst 1, 1, 1, 0, 0, []),
  (16, .goto 4, 3, 20, 0, 0, []),
  (19, .iconst 0, 1, 0, 0, 0, []),
  (20, .ireturn, 1, 0, 0, 0, []),
  (21, .aload_n 0, 1, 0, 0, 0, []),
  (22, .dup, 1, 0, 0, 0, []),
  (23, .getfield 186, 3, 12, 57, 0, [1641]),
  (26, .iconst 1, 1, 1, 0, 0, []),
  (27, .isub, 1, 0, 0, 0, []),
  (28, .putfield 186, 3, 12, 57, 0, [1641]),
  (31, .aload_n 0, 1, 0, 0, 0, []),
  (32, .iconst 0, 1, 0, 0, 0, []),
  (33, .aload_n 0, 1, 0, 0, 0, []),
  (34, .aload_n 0, 1, 0, 0, 0, []),
  (35, .getfield 186, 3, 12, 57, 0, [1641]),
  (38, .invokevirtual 438, 3, 85, 2, 1, [12, 0, 2060, 2062, 275, 91]),
  (41, .invokevirtual 441, 3, 60, 3, 1, [12, 0, 2064, 2066, 275, 92]),
  (44, .iconst 1, 1, 1, 0, 0, []),
  (45, .ireturn, 1, 0, 0, 0, [])]
/-- GreyRoute.image()I -/
def rx_m170 : List rx_E := [(0, .aload_n 0, 1, 0, 0, 0, []),
  (1, .getfield 18, 3, 11, 1, 0, [789]),
  (4, .iconst 0, 1, 0, 0, 0, []),
  (5, .invokevirtual 103, 3, 89, 2, 1, [0, 0, 852, 853, 258, 854]),
  (8, .aload_n 0, 1, 0, 0, 0, []),
  (9, .getfield 24, 3, 11, 2, 0, [790]),
  (12, .aload_n 0, 1, 0, 0, 0, []),
  (13, .getfield 18, 3, 11, 1, 0, [789]),
  (16, .aload_n 0, 1, 0, 0, 0, []),
  (17, .getfield 49, 3, 11, 8, 0, [796]),
  (20, .invokevirtual 339, 3, 171, 3, 1, [6, 0, 1540, 1541, 260, 1542]),
  (23, .aload_n 0, 1, 0, 0, 0, []),
  (24, .getfield 18, 3, 11, 1, 0, [789]),
  (27, .getfield 89, 3, 0, 1, 0, [297]),
  (30, .ireturn, 1, 0, 0, 0, [])]
/-- GreyRoute$State.write(LGreyRoute$Bytes;LGreyRoute$Town;)V -/
def rx_m171 : List rx_E := [(0, .aload_n 1, 1, 1, 0, 0, []),
  (1, .aload_n 0, 1, 0, 0, 0, []),
  (2, .getfield 9, 3, 6, 0, 0, [342]),
  (5, .bipush 8, 2, 8, 0, 0, []),
  (7, .ishr, 1, 0, 0, 0, []),
  (8, .invokevirtual 48, 3, 47, 2, 1, [0, 0, 1544, 841, 258, 842]),
  (11, .aload_n 1, 1, 1, 0, 0, []),
  (12, .aload_n 0, 1, 0, 0, 0, []),
  (13, .getfield 9, 3, 6, 0, 0, [342]),
  (16, .invokevirtual 48, 3, 47, 2, 1, [0, 0, 1544, 841, 258, 842]),
  (19, .iconst 0, 1, 0, 0, 0, []),
  (20, .istore_n 3, 1, 3, 0, 0, []),
  (21, .iload_n 3, 1, 3, 0, 0, []),
  (22, .aload_n 2, 1, 2, 0, 0, []),
  (23, .getfield 54, 3, 8, 3, 0, [464]),
  (26, .if_icmp .ge 21, 3, 47, 0, 0, []),
  (29, .aload_n 1, 1, 1, 0, 0, []),
  (30, .aload_n 0, 1, 0, 0, 0, []),
  (31, .getfield 15, 3, 6, 1, 0, [345]),
  (34, .iload_n 3, 1, 3, 0, 0, []),
  (35, .ishr, 1, 0, 0, 0, []),
  (36, .iconst 1, 1, 1, 0, 0, []),
  (37, .iand, 1, 0, 0, 0, []),
  (38, .invokevirtual 48, 3, 47, 2, 1, [0, 0, 1544, 841, 258, 842]),
  (41, .iinc 3 1, 3, 3, 1, 0, []),
  (44, .goto (-23), 3, 21, 0, 0, []),
  (47, .iconst 0, 1, 0, 0, 0, []),
  (48, .istore_n 3, 1, 3, 0, 0, []),
  (49, .iload_n 3, 1, 3, 0, 0, []),
  (50, .aload_n 2, 1, 2, 0, 0, []),
  (51, .getfield 57, 3, 8, 8, 0, [479]),
  (54, .if_icmp .ge 19, 3, 73, 0, 0, []),
  (57, .aload_n 1, 1, 1, 0, 0, []),
  (58, .aload_n 0, 1, 0, 0, 0, []),
  (59, .getfield 18, 3, 6, 2, 0, [348]),
  (62, .iload_n 3, 1, 3, 0, 0, []),
  (63, .iaload, 1, 0, 0, 0, []),
  (64, .invokevirtual 48, 3, 47, 2, 1, [0, 0, 1544, 841, 258, 842]),
  (67, .iinc 3 1, 3, 3, 1, 0, []),
  (70, .goto (-21), 3, 49, 0, 0, []),
  (73, .aload_n 1, 1, 1, 0, 0, []),
  (74, .aload_n 0, 1, 0, 0, 0, []),
  (75, .getfield 25, 3, 6, 3, 0, [351]),
  (78, .getfield 60, 3, 5, 2, 0, [328]),
  (81, .invokevirtual 48, 3, 47, 2, 1, [0, 0, 1544, 841, 258, 842]),
  (84, .iconst 0, 1, 0, 0, 0, []),
  (85, .istore_n 3, 1, 3, 0, 0, []),
  (86, .iload_n 3, 1, 3, 0, 0, []),
  (87, .aload_n 0, 1, 0, 0, 0, []),
  (88, .getfield 25, 3, 6, 3, 0, [351]),
  (91, .getfield 60, 3, 5, 2, 0, [328]),
  (94, .if_icmp .ge 35, 3, 129, 0, 0, []),
  (97, .aload_n 1, 1, 1, 0, 0, []),
  (98, .aload_n 0, 1, 0, 0, 0, []),
  (99, .getfield 25, 3, 6, 3, 0, [351]),
  (102, .getfield 63, 3, 5, 0, 0, [320]),
  (105, .iload_n 3, 1, 3, 0, 0, []),
  (106, .iaload, 1, 0, 0, 0, []),
  (107, .invokevirtual 48, 3, 47, 2, 1, [0, 0, 1544, 841, 258, 842]),
  (110, .aload_n 1, 1, 1, 0, 0, []),
  (111, .aload_n 0, 1, 0, 0, 0, []),
  (112, .getfield 25, 3, 6, 3, 0, [351]),
  (115, .getfield 66, 3, 5, 1, 0, [324]),
  (118, .iload_n 3, 1, 3, 0, 0, []),
  (119, .iaload, 1, 0, 0, 0, []),
  (120, .invokevirtual 48, 3, 47, 2, 1, [0, 0, 1544, 841, 258, 842]),
  (123, .iinc 3 1, 3, 3, 1, 0, []),
  (126, .goto (-40), 3, 86, 0, 0, []),
  (129, .aload_n 1, 1, 1, 0, 0, []),
  (130, .aload_n 1, 1, 1, 0, 0, []),
  (131, .aload_n 1, 1, 1, 0, 0, []),
  (132, .getfield 69, 3, 0, 1, 0, [299]),
  (135, .invokestatic 72, 3, 172, 2, 0, [0, 0, 1545, 1546, 260]),
  (138, .invokevirtual 48, 3, 47, 2, 1, [0, 0, 1544, 841, 258, 842]),
  (141, .return_, 1, 0, 0, 0, [])]
/-- GreyRoute$State.checkByte(LGreyRoute$Bytes;I)I -/
def rx_m172 : List rx_E := [(0, .sipush 197, 3, 197, 0, 0, []),
  (3, .istore_n 2, 1, 2, 0, 0, []),
  (4, .iconst 0, 1, 0, 0, 0, []),
  (5, .istore_n 3, 1, 3, 0, 0, []),
  (6, .iload_n 3, 1, 3, 0, 0, []),
  (7, .iload_n 1, 1, 1, 0, 0, []),
  (8, .if_icmp .ge 23, 3, 31, 0, 0, []),
  (11, .iconst 5, 1, 5, 0, 0, []),
  (12, .iload_n 2, 1, 2, 0, 0, []),
  (13, .imul, 1, 0, 0, 0, []),
  (14, .aload_n 0, 1, 0, 0, 0, []),
  (15, .iload_n 3, 1, 3, 0, 0, []),
  (16, .invokevirtual 76, 3, 72, 2, 1, [0, 0, 1548, 878, 258, 879]),
  (19, .iadd, 1, 0, 0, 0, []),
  (20, .sipush 251, 3, 251, 0, 0, []),
  (23, .irem, 1, 0, 0, 0, []),
  (24, .istore_n 2, 1, 2, 0, 0, []),
  (25, .iinc 3 1, 3, 3, 1, 0, []),
  (28, .goto (-22), 3, 6, 0, 0, []),
  (31, .iload_n 2, 1, 2, 0, 0, []),
  (32, .ireturn, 1, 0, 0, 0, [])]
/-- GreyRouteModel.image()I -/
def rx_m173 : List rx_E := [(0, .aload_n 0, 1, 0, 0, 0, []),
  (1, .iconst 0, 1, 0, 0, 0, []),
  (2, .putfield 246, 3, 12, 77, 0, [1661]),
  (5, .aload_n 0, 1, 0, 0, 0, []),
  (6, .aload_n 0, 1, 0, 0, 0, []),
  (7, .getfield 159, 3, 12, 48, 0, [1632]),
  (10, .iconst 0, 1, 0, 0, 0, []),
  (11, .iaload, 1, 0, 0, 0, []),
  (12, .bipush 8, 2, 8, 0, 0, []),
  (14, .ishr, 1, 0, 0, 0, []),
  (15, .invokevirtual 558, 3, 94, 2, 1, [12, 0, 2318, 2320, 275, 117]),
  (18, .aload_n 0, 1, 0, 0, 0, []),
  (19, .aload_n 0, 1, 0, 0, 0, []),
  (20, .getfield 159, 3, 12, 48, 0, [1632]),
  (23, .iconst 0, 1, 0, 0, 0, []),
  (24, .iaload, 1, 0, 0, 0, []),
  (25, .invokevirtual 558, 3, 94, 2, 1, [12, 0, 2318, 2320, 275, 117]),
  (28, .iconst 0, 1, 0, 0, 0, []),
  (29, .istore_n 1, 1, 1, 0, 0, []),
  (30, .iload_n 1, 1, 1, 0, 0, []),
  (31, .aload_n 0, 1, 0, 0, 0, []),
  (32, .getfield 57, 3, 12, 15, 0, [1599]),
  (35, .aload_n 0, 1, 0, 0, 0, []),
  (36, .getfield 51, 3, 12, 13, 0, [1597]),
  (39, .iaload, 1, 0, 0, 0, []),
  (40, .if_icmp .ge 31, 3, 71, 0, 0, []),
  (43, .aload_n 0, 1, 0, 0, 0, []),
  (44, .aload_n 0, 1, 0, 0, 0, []),
  (45, .getfield 162, 3, 12, 49, 0, [1633]),
  (48, .iconst 0, 1, 0, 0, 0, []),
  (49, .iaload, 1, 0, 0, 0, []),
  (50, .iload_n 1, 1, 1, 0, 0, []),
  (51, .invokestatic 379, 3, 999, 2, 9, []),
  (54, .ifCond .eq 7, 3, 61, 0, 0, []),
  (57, .iconst 1, 1, 1, 0, 0, []),
  (58, .goto 4, 3, 62, 0, 0, []),
  (61, .iconst 0, 1, 0, 0, 0, []),
  (62, .invokevirtual 558, 3, 94, 2, 1, [12, 0, 2318, 2320, 275, 117]),
  (65, .iinc 1 1, 3, 1, 1, 0, []),
  (68, .goto (-38), 3, 30, 0, 0, []),
  (71, .iconst 0, 1, 0, 0, 0, []),
  (72, .istore_n 1, 1, 1, 0, 0, []),
  (73, .iload_n 1, 1, 1, 0, 0, []),
  (74, .aload_n 0, 1, 0, 0, 0, []),
  (75, .getfield 81, 3, 12, 23, 0, [1607]),
  (78, .aload_n 0, 1, 0, 0, 0, []),
  (79, .getfield 51, 3, 12, 13, 0, [1597]),
  (82, .iaload, 1, 0, 0, 0, []),
  (83, .if_icmp .ge 19, 3, 102, 0, 0, []),
  (86, .aload_n 0, 1, 0, 0, 0, []),
  (87, .aload_n 0, 1, 0, 0, 0, []),
  (88, .getfield 165, 3, 12, 50, 0, [1634]),
  (91, .iload_n 1, 1, 1, 0, 0, []),
  (92, .iaload, 1, 0, 0, 0, []),
  (93, .invokevirtual 558, 3, 94, 2, 1, [12, 0, 2318, 2320, 275, 117]),
  (96, .iinc 1 1, 3, 1, 1, 0, []),
  (99, .goto (-26), 3, 73, 0, 0, []),
  (102, .aload_n 0, 1, 0, 0, 0, []),
  (103, .aload_n 0, 1, 0, 0, 0, []),
  (104, .getfield 168, 3, 12, 51, 0, [1635]),
  (107, .iconst 0, 1, 0, 0, 0, []),
  (108, .iaload, 1, 0, 0, 0, []),
  (109, .invokevirtual 558, 3, 94, 2, 1, [12, 0, 2318, 2320, 275, 117]),
  (112, .iconst 0, 1, 0, 0, 0, []),
  (113, .istore_n 1, 1, 1, 0, 0, []),
  (114, .iload_n 1, 1, 1, 0, 0, []),
  (115, .aload_n 0, 1, 0, 0, 0, []),
  (116, .getfield 168, 3, 12, 51, 0, [1635]),
  (119, .iconst 0, 1, 0, 0, 0, []),
  (120, .iaload, 1, 0, 0, 0, []),
  (121, .if_icmp .ge 29, 3, 150, 0, 0, []),
  (124, .aload_n 0, 1, 0, 0, 0, []),
  (125, .aload_n 0, 1, 0, 0, 0, []),
  (126, .getfield 171, 3, 12, 52, 0, [1636]),
  (129, .iload_n 1, 1, 1, 0, 0, []),
  (130, .iaload, 1, 0, 0, 0, []),
  (131, .invokevirtual 558, 3, 94, 2, 1, [12, 0, 2318, 2320, 275, 117]),
  (134, .aload_n 0, 1, 0, 0, 0, []),
  (135, .aload_n 0, 1, 0, 0, 0, []),
  (136, .getfield 174, 3, 12, 53, 0, [1637]),
  (139, .iload_n 1, 1, 1, 0, 0, []),
  (140, .iaload, 1, 0, 0, 0, []),
  (141, .invokevirtual 558, 3, 94, 2, 1, [12, 0, 2318, 2320, 275, 117]),
  (144, .iinc 1 1, 3, 1, 1, 0, []),
  (147, .goto (-33), 3, 114, 0, 0, []),
  (150, .sipush 197, 3, 197, 0, 0, []),
  (153, .istore_n 1, 1, 1, 0, 0, []),
  (154, .iconst 0, 1, 0, 0, 0, []),
  (155, .istore_n 2, 1, 2, 0, 0, []),
  (156, .iload_n 2, 1, 2, 0, 0, []),
  (157, .aload_n 0, 1, 0, 0, 0, []),
  (158, .getfield 246, 3, 12, 77, 0, [1661]),
  (161, .if_icmp .ge 24, 3, 185, 0, 0, []),
  (164, .iconst 5, 1, 5, 0, 0, []),
  (165, .iload_n 1, 1, 1, 0, 0, []),
  (166, .imul, 1, 0, 0, 0, []),
  (167, .aload_n 0, 1, 0, 0, 0, []),
  (168, .getfield 243, 3, 12, 76, 0, [1660]),
  (171, .iload_n 2, 1, 2, 0, 0, []),
  (172, .iaload, 1, 0, 0, 0, []),
  (173, .iadd, 1, 0, 0, 0, []),
  (174, .sipush 251, 3, 251, 0, 0, []),
  (177, .irem, 1, 0, 0, 0, []),
  (178, .istore_n 1, 1, 1, 0, 0, []),
  (179, .iinc 2 1, 3, 2, 1, 0, []),
  (182, .goto (-26), 3, 156, 0, 0, []),
  (185, .aload_n 0, 1, 0, 0, 0, []),
  (186, .iload_n 1, 1, 1, 0, 0, []),
  (187, .invokevirtual 558, 3, 94, 2, 1, [12, 0, 2318, 2320, 275, 117]),
  (190, .aload_n 0, 1, 0, 0, 0, []),
  (191, .getfield 246, 3, 12, 77, 0, [1661]),
  (194, .ireturn, 1, 0, 0, 0, [])]
/-- GreyRoute.on()Z -/
def rx_m174 : List rx_E := [(0, .aload_n 0, 1, 0, 0, 0, []),
  (1, .getfield 14, 3, 11, 0, 0, [788]),
  (4, .aload_n 0, 1, 0, 0, 0, []),
  (5, .getfield 49, 3, 11, 8, 0, [796]),
  (8, .invokestatic 346, 3, 175, 2, 0, [0, 0, 1558, 1559, 260]),
  (11, .istore_n 1, 1, 1, 0, 0, []),
  (12, .iload_n 1, 1, 1, 0, 0, []),
  (13, .ifCond .eq 25, 3, 38, 0, 0, []),
  (16, .aload_n 0, 1, 0, 0, 0, []),
  (17, .getfield 24, 3, 11, 2, 0, [790]),
  (20, .aload_n 0, 1, 0, 0, 0, []),
  (21, .getfield 14, 3, 11, 0, 0, [788]),
  (24, .aload_n 0, 1, 0, 0, 0, []),
  (25, .getfield 49, 3, 11, 8, 0, [796]),
  (28, .invokevirtual 350, 3, 999, 3, 9, []),
  (31, .aload_n 0, 1, 0, 0, 0, []),
  (32, .getfield 31, 3, 11, 3, 0, [791]),
  (35, .invokevirtual 119, 3, 146, 1, 1, [3, 0, 1105, 1106, 262, 1107]),
  (38, .aload_n 0, 1, 0, 0, 0, []),
  (39, .getfield 14, 3, 11, 0, 0, [788]),
  (42, .iconst 0, 1, 0, 0, 0, []),
  (43, .invokevirtual 103, 3, 89, 2, 1, [0, 0, 852, 853, 258, 854]),
  (46, .iload_n 1, 1, 1, 0, 0, []),
  (47, .ifCond .ne 11, 3, 58, 0, 0, []),
  (50, .aload_n 0, 1, 0, 0, 0, []),
  (51, .iconst 5, 1, 5, 0, 0, []),
  (52, .invokevirtual 99, 3, 61, 2, 1, [11, 0, 848, 850, 257, 2]),
  (55, .ifCond .eq 7, 3, 62, 0, 0, []),
  (58, .iconst 1, 1, 1, 0, 0, []),
  (59, .goto 4, 3, 63, 0, 0, []),
  (62, .iconst 0, 1, 0, 0, 0, []),
  (63, .ireturn, 1, 0, 0, 0, [])]
/-- GreyRoute$State.isImage(LGreyRoute$Bytes;LGreyRoute$Town;)Z -/
def rx_m175 : List rx_E := [(0, .iconst 2, 1, 2, 0, 0, []),
  (1, .aload_n 1, 1, 1, 0, 0, []),
  (2, .getfield 54, 3, 8, 3, 0, [464]),
  (5, .iadd, 1, 0, 0, 0, []),
  (6, .istore_n 2, 1, 2, 0, 0, []),
  (7, .iload_n 2, 1, 2, 0, 0, []),
  (8, .aload_n 1, 1, 1, 0, 0, []),
  (9, .getfield 57, 3, 8, 8, 0, [479]),
  (12, .iadd, 1, 0, 0, 0, []),
  (13, .istore_n 3, 1, 3, 0, 0, []),
  (14, .aload_n 0, 1, 0, 0, 0, []),
  (15, .iload_n 3, 1, 3, 0, 0, []),
  (16, .invokevirtual 76, 3, 72, 2, 1, [0, 0, 1548, 878, 258, 879]),
  (19, .istore 4, 2, 4, 0, 0, []),
  (21, .iload 4, 2, 4, 0, 0, []),
  (23, .iconst (-1), 1, 4294967295, 0, 0, []),
  (24, .if_icmp .eq 25, 3, 49, 0, 0, []),
  (27, .iload 4, 2, 4, 0, 0, []),
  (29, .bipush 30, 2, 30, 0, 0, []),
  (31, .if_icmp .gt 18, 3, 49, 0, 0, []),
  (34, .aload_n 0, 1, 0, 0, 0, []),
  (35, .getfield 69, 3, 0, 1, 0, [299]),
  (38, .iload_n 3, 1, 3, 0, 0, []),
  (39, .iconst 2, 1, 2, 0, 0, []),
  (40, .iadd, 1, 0, 0, 0, []),
  (41, .iconst 2, 1, 2, 0, 0, []),
  (42, .iload 4, 2, 4, 0, 0, []),
  (44, .imul, 1, 0, 0, 0, []),
  (45, .iadd, 1, 0, 0, 0, []),
  (46, .if_icmp .eq 5, 3, 51, 0, 0, []),
  (49, .iconst 0, 1, 0, 0, 0, []),
  (50, .ireturn, 1, 0, 0, 0, []),
  (51, .aload_n 0, 1, 0, 0, 0, []),
  (52, .invokestatic 80, 3, 999, 1, 9, []),
  (55, .sipush 999, 3, 999, 0, 0, []),
  (58, .if_icmp .gt 26, 3, 84, 0, 0, []),
  (61, .aload_n 0, 1, 0, 0, 0, []),
  (62, .aload_n 0, 1, 0, 0, 0, []),
  (63, .getfield 69, 3, 0, 1, 0, [299]),
  (66, .iconst 1, 1, 1, 0, 0, []),
  (67, .isub, 1, 0, 0, 0, []),
  (68, .invokevirtual 76, 3, 72, 2, 1, [0, 0, 1548, 878, 258, 879]),
  (71, .aload_n 0, 1, 0, 0, 0, []),
  (72, .aload_n 0, 1, 0, 0, 0, []),
  (73, .getfield 69, 3, 0, 1, 0, [299]),
  (76, .iconst 1, 1, 1, 0, 0, []),
  (77, .isub, 1, 0, 0, 0, []),
  (78, .invokestatic 72, 3, 172, 2, 0, [0, 0, 1545, 1546, 260]),
  (81, .if_icmp .eq 5, 3, 86, 0, 0, []),
  (84, .iconst 0, 1, 0, 0, 0, []),
  (85, .ireturn, 1, 0, 0, 0, []),
  (86, .iconst 2, 1, 2, 0, 0, []),
  (87, .istore 5, 2, 5, 0, 0, []),
  (89, .iload 5, 2, 5, 0, 0, []),
  (91, .iload_n 2, 1, 2, 0, 0, []),
  (92, .if_icmp .ge 21, 3, 113, 0, 0, []),
  (95, .aload_n 0, 1, 0, 0, 0, []),
  (96, .iload 5, 2, 5, 0, 0, []),
  (98, .invokevirtual 76, 3, 72, 2, 1, [0, 0, 1548, 878, 258, 879]),
  (101, .iconst 1, 1, 1, 0, 0, []),
  (102, .if_icmp .le 5, 3, 107, 0, 0, []),
  (105, .iconst 0, 1, 0, 0, 0, []),
  (106, .ireturn, 1, 0, 0, 0, []),
  (107, .iinc 5 1, 3, 5, 1, 0, []),
  (110, .goto (-21), 3, 89, 0, 0, []),
  (113, .iload_n 2, 1, 2, 0, 0, []),
  (114, .istore 5, 2, 5, 0, 0, []),
  (116, .iload 5, 2, 5, 0, 0, []),
  (118, .iload_n 3, 1, 3, 0, 0, []),
  (119, .if_icmp .ge 24, 3, 143, 0, 0, []),
  (122, .aload_n 0, 1, 0, 0, 0, []),
  (123, .iload 5, 2, 5, 0, 0, []),
  (125, .invokevirtual 76, 3, 72, 2, 1, [0, 0, 1548, 878, 258, 879]),
  (128, .aload_n 1, 1, 1, 0, 0, []),
  (129, .getfield 84, 3, 8, 1, 0, [459]),
  (132, .if_icmp .lt 5, 3, 137, 0, 0, []),
  (135, .iconst 0, 1, 0, 0, 0, []),
  (136, .ireturn, 1, 0, 0, 0, []),
  (137, .iinc 5 1, 3, 5, 1, 0, []),
  (140, .goto (-24), 3, 116, 0, 0, []),
  (143, .aload_n 0, 1, 0, 0, 0, []),
  (144, .aload_n 1, 1, 1, 0, 0, []),
  (145, .iload_n 3, 1, 3, 0, 0, []),
  (146, .iconst 1, 1, 1, 0, 0, []),
  (147, .iadd, 1, 0, 0, 0, []),
  (148, .iload 4, 2, 4, 0, 0, []),
  (150, .invokestatic 87, 3, 999, 4, 9, []),
  (153, .ireturn, 1, 0, 0, 0, [])]
/-- GreyRouteModel.on()Z -/
def rx_m176 : List rx_E := [(0, .aload_n 0, 1, 0, 0, 0, []),
  (1, .getfield 13, 3, 12, 1, 0, [1585]),
  (4, .istore_n 1, 1, 1, 0, 0, []),
  (5, .aload_n 0, 1, 0, 0, 0, []),
  (6, .iconst 0, 1, 0, 0, 0, []),
  (7, .putfield 13, 3, 12, 1, 0, [1585]),
  (10, .aload_n 0, 1, 0, 0, 0, []),
  (11, .iload_n 1, 1, 1, 0, 0, []),
  (12, .invokevirtual 564, 3, 177, 2, 1, [12, 0, 2330, 2332, 275, 118]),
  (15, .ifCond .ne 17, 3, 32, 0, 0, []),
  (18, .aload_n 0, 1, 0, 0, 0, []),
  (19, .iconst 5, 1, 5, 0, 0, []),
  (20, .invokevirtual 249, 3, 58, 2, 1, [12, 0, 1840, 1842, 275, 56]),
  (23, .ifCond .lt 7, 3, 30, 0, 0, []),
  (26, .iconst 1, 1, 1, 0, 0, []),
  (27, .goto 4, 3, 31, 0, 0, []),
  (30, .iconst 0, 1, 0, 0, 0, []),
  (31, .ireturn, 1, 0, 0, 0, []),
  (32, .aload_n 0, 1, 0, 0, 0, []),
  (33, .iconst 0, 1, 0, 0, 0, []),
  (34, .iconst 1, 1, 1, 0, 0, []),
  (35, .invokevirtual 441, 3, 60, 3, 1, [12, 0, 2064, 2066, 275, 92]),
  (38, .aload_n 0, 1, 0, 0, 0, []),
  (39, .iconst 0, 1, 0, 0, 0, []),
  (40, .putfield 186, 3, 12, 57, 0, [1641]),
  (43, .iconst 1, 1, 1, 0, 0, []),
  (44, .ireturn, 1, 0, 0, 0, [])]
/-- GreyRouteModel.comesOn(I)Z -/
def rx_m177 : List rx_E := [(0, .iconst 2, 1, 2, 0, 0, []),
  (1, .aload_n 0, 1, 0, 0, 0, []),
  (2, .getfield 57, 3, 12, 15, 0, [1599]),
  (5, .aload_n 0, 1, 0, 0, 0, []),
  (6, .getfield 51, 3, 12, 13, 0, [1597]),
  (9, .iaload, 1, 0, 0, 0, []),
  (10, .iadd, 1, 0, 0, 0, []),
  (11, .istore_n 2, 1, 2, 0, 0, []),
  (12, .iload_n 2, 1, 2, 0, 0, []),
  (13, .aload_n 0, 1, 0, 0, 0, []),
  (14, .getfield 81, 3, 12, 23, 0, [1607]),
  (17, .aload_n 0, 1, 0, 0, 0, []),
  (18, .getfield 51, 3, 12, 13, 0, [1597]),
  (21, .iaload, 1, 0, 0, 0, []),
  (22, .iadd, 1, 0, 0, 0, []),
  (23, .istore_n 3, 1, 3, 0, 0, []),
  (24, .iload_n 1, 1, 1, 0, 0, []),
  (25, .iload_n 3, 1, 3, 0, 0, []),
  (26, .if_icmp .le 52, 3, 78, 0, 0, []),
  (29, .aload_n 0, 1, 0, 0, 0, []),
  (30, .getfield 7, 3, 12, 0, 0, [1584]),
  (33, .iload_n 3, 1, 3, 0, 0, []),
  (34, .iaload, 1, 0, 0, 0, []),
  (35, .bipush 30, 2, 30, 0, 0, []),
  (37, .if_icmp .gt 41, 3, 78, 0, 0, []),
  (40, .iload_n 1, 1, 1, 0, 0, []),
  (41, .iload_n 3, 1, 3, 0, 0, []),
  (42, .iconst 2, 1, 2, 0, 0, []),
  (43, .iadd, 1, 0, 0, 0, []),
  (44, .iconst 2, 1, 2, 0, 0, []),
  (45, .aload_n 0, 1, 0, 0, 0, []),
  (46, .getfield 7, 3, 12, 0, 0, [1584]),
  (49, .iload_n 3, 1, 3, 0, 0, []),
  (50, .iaload, 1, 0, 0, 0, []),
  (51, .imul, 1, 0, 0, 0, []),
  (52, .iadd, 1, 0, 0, 0, []),
  (53, .if_icmp .ne 25, 3, 78, 0, 0, []),
  (56, .aload_n 0, 1, 0, 0, 0, []),
  (57, .getfield 7, 3, 12, 0, 0, [1584]),
  (60, .iconst 0, 1, 0, 0, 0, []),
  (61, .iaload, 1, 0, 0, 0, []),
  (62, .bipush 8, 2, 8, 0, 0, []),
  (64, .ishl, 1, 0, 0, 0, []),
  (65, .aload_n 0, 1, 0, 0, 0, []),
  (66, .getfield 7, 3, 12, 0, 0, [1584]),
  (69, .iconst 1, 1, 1, 0, 0, []),
  (70, .iaload, 1, 0, 0, 0, []),
  (71, .ior, 1, 0, 0, 0, []),
  (72, .sipush 999, 3, 999, 0, 0, []),
  (75, .if_icmp .le 5, 3, 80, 0, 0, []),
  (78, .iconst 0, 1, 0, 0, 0, []),
  (79, .ireturn, 1, 0, 0, 0, []),
  (80, .sipush 197, 3, 197, 0, 0, []),
  (83, .istore 4, 2, 4, 0, 0, []),
  (85, .iconst 0, 1, 0, 0, 0, []),
  (86, .istore 5, 2, 5, 0, 0, []),
  (88, .iload 5, 2, 5, 0, 0, []),
  (90, .iload_n 1, 1, 1, 0, 0, []),
  (91, .iconst 1, 1, 1, 0, 0, []),
  (92, .isub, 1, 0, 0, 0, []),
  (93, .if_icmp .ge 27, 3, 120, 0, 0, []),
  (96, .iconst 5, 1, 5, 0, 0, []),
  (97, .iload 4, 2, 4, 0, 0, []),
  (99, .imul, 1, 0, 0, 0, []),
  (100, .aload_n 0, 1, 0, 0, 0, []),
  (101, .getfield 7, 3, 12, 0, 0, [1584]),
  (104, .iload 5, 2, 5, 0, 0, []),
  (106, .iaload, 1, 0, 0, 0, []),
  (107, .iadd, 1, 0, 0, 0, []),
  (108, .sipush 251, 3, 251, 0, 0, []),
  (111, .irem, 1, 0, 0, 0, []),
  (112, .istore 4, 2, 4, 0, 0, []),
  (114, .iinc 5 1, 3, 5, 1, 0, []),
  (117, .goto (-29), 3, 88, 0, 0, []),
  (120, .aload_n 0, 1, 0, 0, 0, []),
  (121, .getfield 7, 3, 12, 0, 0, [1584]),
  (124, .iload_n 1, 1, 1, 0, 0, []),
  (125, .iconst 1, 1, 1, 0, 0, []),
  (126, .isub, 1, 0, 0, 0, []),
  (127, .iaload, 1, 0, 0, 0, []),
  (128, .iload 4, 2, 4, 0, 0, []),
  (130, .if_icmp .eq 5, 3, 135, 0, 0, []),
  (133, .iconst 0, 1, 0, 0, 0, []),
  (134, .ireturn, 1, 0, 0, 0, []),
  (135, .aload_n 0, 1, 0, 0, 0, []),
  (136, .iconst 1, 1, 1, 0, 0, []),
  (137, .iconst 0, 1, 0, 0, 0, []),
  (138, .invokevirtual 441, 3, 60, 3, 1, [12, 0, 2064, 2066, 275, 92]),
  (141, .aload_n 0, 1, 0, 0, 0, []),
  (142, .getfield 159, 3, 12, 48, 0, [1632]),
  (145, .iconst 1, 1, 1, 0, 0, []),
  (146, .aload_n 0, 1, 0, 0, 0, []),
  (147, .getfield 7, 3, 12, 0, 0, [1584]),
  (150, .iconst 0, 1, 0, 0, 0, []),
  (151, .iaload, 1, 0, 0, 0, []),
  (152, .bipush 8, 2, 8, 0, 0, []),
  (154, .ishl, 1, 0, 0, 0, []),
  (155, .aload_n 0, 1, 0, 0, 0, []),
  (156, .getfield 7, 3, 12, 0, 0, [1584]),
  (159, .iconst 1, 1, 1, 0, 0, []),
  (160, .iaload, 1, 0, 0, 0, []),
  (161, .ior, 1, 0, 0, 0, []),
  (162, .iastore, 1, 0, 0, 0, []),
  (163, .aload_n 0, 1, 0, 0, 0, []),
  (164, .getfield 162, 3, 12, 49, 0, [1633]),
  (167, .iconst 1, 1, 1, 0, 0, []),
  (168, .iconst 0, 1, 0, 0, 0, []),
  (169, .iastore, 1, 0, 0, 0, []),
  (170, .aload_n 0, 1, 0, 0, 0, []),
  (171, .getfield 177, 3, 12, 54, 0, [1638]),
  (174, .iconst 1, 1, 1, 0, 0, []),
  (175, .iconst 0, 1, 0, 0, 0, []),
  (176, .iastore, 1, 0, 0, 0, []),
  (177, .aload_n 0, 1, 0, 0, 0, []),
  (178, .getfield 168, 3, 12, 51, 0, [1635]),
  (181, .iconst 1, 1, 1, 0, 0, []),
  (182, .aload_n 0, 1, 0, 0, 0, []),
  (183, .getfield 7, 3, 12, 0, 0, [1584]),
  (186, .iload_n 3, 1, 3, 0, 0, []),
  (187, .iaload, 1, 0, 0, 0, []),
  (188, .iastore, 1, 0, 0, 0, []),
  (189, .iconst 0, 1, 0, 0, 0, []),
  (190, .istore 5, 2, 5, 0, 0, []),
  (192, .iload 5, 2, 5, 0, 0, []),
  (194, .aload_n 0, 1, 0, 0, 0, []),
  (195, .getfield 57, 3, 12, 15, 0, [1599]),
  (198, .aload_n 0, 1, 0, 0, 0, []),
  (199, .getfield 51, 3, 12, 13, 0, [1597]),
  (202, .iaload, 1, 0, 0, 0, []),
  (203, .if_icmp .ge 45, 3, 248, 0, 0, []),
  (206, .aload_n 0, 1, 0, 0, 0, []),
  (207, .getfield 7, 3, 12, 0, 0, [1584]),
  (210, .iconst 2, 1, 2, 0, 0, []),
  (211, .iload 5, 2, 5, 0, 0, []),
  (213, .iadd, 1, 0, 0, 0, []),
  (214, .iaload, 1, 0, 0, 0, []),
  (215, .iconst 1, 1, 1, 0, 0, []),
  (216, .if_icmp .le 5, 3, 221, 0, 0, []),
  (219, .iconst 0, 1, 0, 0, 0, []),
  (220, .ireturn, 1, 0, 0, 0, []),
  (221, .aload_n 0, 1, 0, 0, 0, []),
  (222, .getfield 162, 3, 12, 49, 0, [1633]),
  (225, .iconst 1, 1, 1, 0, 0, []),
  (226, .dup2, 1, 0, 0, 0, []),
  (227, .iaload, 1, 0, 0, 0, []),
  (228, .aload_n 0, 1, 0, 0, 0, []),
  (229, .getfield 7, 3, 12, 0, 0, [1584]),
  (232, .iconst 2, 1, 2, 0, 0, []),
  (233, .iload 5, 2, 5, 0, 0, []),
  (235, .iadd, 1, 0, 0, 0, []),
  (236, .iaload, 1, 0, 0, 0, []),
  (237, .iload 5, 2, 5, 0, 0, []),
  (239, .ishl, 1, 0, 0, 0, []),
  (240, .ior, 1, 0, 0, 0, []),
  (241, .iastore, 1, 0, 0, 0, []),
  (242, .iinc 5 1, 3, 5, 1, 0, []),
  (245, .goto (-53), 3, 192, 0, 0, []),
  (248, .iconst 0, 1, 0, 0, 0, []),
  (249, .istore 5, 2, 5, 0, 0, []),
  (251, .iload 5, 2, 5, 0, 0, []),
  (253, .aload_n 0, 1, 0, 0, 0, []),
  (254, .getfield 81, 3, 12, 23, 0, [1607]),
  (257, .aload_n 0, 1, 0, 0, 0, []),
  (258, .getfield 51, 3, 12, 13, 0, [1597]),
  (261, .iaload, 1, 0, 0, 0, []),
  (262, .if_icmp .ge 46, 3, 308, 0, 0, []),
  (265, .aload_n 0, 1, 0, 0, 0, []),
  (266, .aload_n 0, 1, 0, 0, 0, []),
  (267, .getfield 7, 3, 12, 0, 0, [1584]),
  (270, .iload_n 2, 1, 2, 0, 0, []),
  (271, .iload 5, 2, 5, 0, 0, []),
  (273, .iadd, 1, 0, 0, 0, []),
  (274, .iaload, 1, 0, 0, 0, []),
  (275, .invokevirtual 510, 3, 67, 2, 1, [12, 0, 2088, 2090, 275, 93]),
  (278, .ifCond .ne 5, 3, 283, 0, 0, []),
  (281, .iconst 0, 1, 0, 0, 0, []),
  (282, .ireturn, 1, 0, 0, 0, []),
  (283, .aload_n 0, 1, 0, 0, 0, []),
  (284, .getfield 165, 3, 12, 50, 0, [1634]),
  (287, .bipush 8, 2, 8, 0, 0, []),
  (289, .iload 5, 2, 5, 0, 0, []),
  (291, .iadd, 1, 0, 0, 0, []),
  (292, .aload_n 0, 1, 0, 0, 0, []),
  (293, .getfield 7, 3, 12, 0, 0, [1584]),
  (296, .iload_n 2, 1, 2, 0, 0, []),
  (297, .iload 5, 2, 5, 0, 0, []),
  (299, .iadd, 1, 0, 0, 0, []),
  (300, .iaload, 1, 0, 0, 0, []),
  (301, .iastore, 1, 0, 0, 0, []),
  (302, .iinc 5 1, 3, 5, 1, 0, []),
  (305, .goto (-54), 3, 251, 0, 0, []),
  (308, .iconst 0, 1, 0, 0, 0, []),
  (309, .istore 5, 2, 5, 0, 0, []),
  (311, .iload 5, 2, 5, 0, 0, []),
  (313, .aload_n 0, 1, 0, 0, 0, []),
  (314, .getfield 168, 3, 12, 51, 0, [1635]),
  (317, .iconst 1, 1, 1, 0, 0, []),
  (318, .iaload, 1, 0, 0, 0, []),
  (319, .if_icmp .ge 28, 3, 347, 0, 0, []),
  (322, .aload_n 0, 1, 0, 0, 0, []),
  (323, .iload 5, 2, 5, 0, 0, []),
  (325, .iload_n 3, 1, 3, 0, 0, []),
  (326, .iconst 1, 1, 1, 0, 0, []),
  (327, .iadd, 1, 0, 0, 0, []),
  (328, .iconst 2, 1, 2, 0, 0, []),
  (329, .iload 5, 2, 5, 0, 0, []),
  (331, .imul, 1, 0, 0, 0, []),
  (332, .iadd, 1, 0, 0, 0, []),
  (333, .invokevirtual 561, 3, 999, 3, 9, []),
  (336, .ifCond .ne 5, 3, 341, 0, 0, []),
  (339, .iconst 0, 1, 0, 0, 0, []),
  (340, .ireturn, 1, 0, 0, 0, []),
  (341, .iinc 5 1, 3, 5, 1, 0, []),
  (344, .goto (-33), 3, 311, 0, 0, []),
  (347, .iconst 1, 1, 1, 0, 0, []),
  (348, .ireturn, 1, 0, 0, 0, [])]
/-- GreyRouteLaw.law([I)Z -/
def rx_mL : List rx_E := [(0, .new 7, 3, 11, 13, 0, [278, 279, 257]),
  (3, .dup, 1, 0, 0, 0, []),
  (4, .invokespecial 9, 3, 95, 1, 1, [11, 0, 280, 281, 257]),
  (7, .astore_n 1, 1, 1, 0, 0, []),
  (8, .new 10, 3, 12, 78, 0, [1578, 1579, 275]),
  (11, .dup, 1, 0, 0, 0, []),
  (12, .invokespecial 12, 3, 104, 1, 1, [12, 0, 1580, 1581, 275]),
  (15, .astore_n 2, 1, 2, 0, 0, []),
  (16, .iconst 0, 1, 0, 0, 0, []),
  (17, .istore_n 3, 1, 3, 0, 0, []),
  (18, .iload_n 3, 1, 3, 0, 0, []),
  (19, .aload_n 0, 1, 0, 0, 0, []),
  (20, .arraylength, 1, 0, 0, 0, []),
  (21, .bipush 6, 2, 6, 0, 0, []),
  (23, .isub, 1, 0, 0, 0, []),
  (24, .if_icmp .gt 1102, 3, 1126, 0, 0, []),
  (27, .aload_n 0, 1, 0, 0, 0, []),
  (28, .iload_n 3, 1, 3, 0, 0, []),
  (29, .iaload, 1, 0, 0, 0, []),
  (30, .bipush 63, 2, 63, 0, 0, []),
  (32, .iand, 1, 0, 0, 0, []),
  (33, .tableswitch 1087 0 35 #[159, 222, 245, 258, 281, 304, 347, 380, 413, 446, 479, 502, 535, 548, 571, 594, 617, 650, 673, 686, 699, 722, 755, 788, 811, 834, 867, 900, 933, 946, 959, 982, 1015, 1028, 1051, 1064], 159, 1120, 2147483648, 2147483683, [192, 255, 278, 291, 314, 337, 380, 413, 446, 479, 512, 535, 568, 581, 604, 627, 650, 683, 706, 719, 732, 755, 788, 821, 844, 867, 900, 933, 966, 979, 992, 1015, 1048, 1061, 1084, 1097]),
  (192, .aload_n 1, 1, 1, 0, 0, []),
  (193, .aload_n 0, 1, 0, 0, 0, []),
  (194, .iload_n 3, 1, 3, 0, 0, []),
  (195, .iconst 1, 1, 1, 0, 0, []),
  (196, .iadd, 1, 0, 0, 0, []),
  (197, .iaload, 1, 0, 0, 0, []),
  (198, .aload_n 0, 1, 0, 0, 0, []),
  (199, .iload_n 3, 1, 3, 0, 0, []),
  (200, .iconst 2, 1, 2, 0, 0, []),
  (201, .iadd, 1, 0, 0, 0, []),
  (202, .iaload, 1, 0, 0, 0, []),
  (203, .aload_n 0, 1, 0, 0, 0, []),
  (204, .iload_n 3, 1, 3, 0, 0, []),
  (205, .iconst 3, 1, 3, 0, 0, []),
  (206, .iadd, 1, 0, 0, 0, []),
  (207, .iaload, 1, 0, 0, 0, []),
  (208, .aload_n 0, 1, 0, 0, 0, []),
  (209, .iload_n 3, 1, 3, 0, 0, []),
  (210, .iconst 4, 1, 4, 0, 0, []),
  (211, .iadd, 1, 0, 0, 0, []),
  (212, .iaload, 1, 0, 0, 0, []),
  (213, .aload_n 0, 1, 0, 0, 0, []),
  (214, .iload_n 3, 1, 3, 0, 0, []),
  (215, .iconst 5, 1, 5, 0, 0, []),
  (216, .iadd, 1, 0, 0, 0, []),
  (217, .iaload, 1, 0, 0, 0, []),
  (218, .invokevirtual 13, 3, 138, 6, 1, [11, 0, 828, 829, 257, 830]),
  (221, .aload_n 2, 1, 2, 0, 0, []),
  (222, .aload_n 0, 1, 0, 0, 0, []),
  (223, .iload_n 3, 1, 3, 0, 0, []),
  (224, .iconst 1, 1, 1, 0, 0, []),
  (225, .iadd, 1, 0, 0, 0, []),
  (226, .iaload, 1, 0, 0, 0, []),
  (227, .aload_n 0, 1, 0, 0, 0, []),
  (228, .iload_n 3, 1, 3, 0, 0, []),
  (229, .iconst 2, 1, 2, 0, 0, []),
  (230, .iadd, 1, 0, 0, 0, []),
  (231, .iaload, 1, 0, 0, 0, []),
  (232, .aload_n 0, 1, 0, 0, 0, []),
  (233, .iload_n 3, 1, 3, 0, 0, []),
  (234, .iconst 3, 1, 3, 0, 0, []),
  (235, .iadd, 1, 0, 0, 0, []),
  (236, .iaload, 1, 0, 0, 0, []),
  (237, .aload_n 0, 1, 0, 0, 0, []),
  (238, .iload_n 3, 1, 3, 0, 0, []),
  (239, .iconst 4, 1, 4, 0, 0, []),
  (240, .iadd, 1, 0, 0, 0, []),
  (241, .iaload, 1, 0, 0, 0, []),
  (242, .aload_n 0, 1, 0, 0, 0, []),
  (243, .iload_n 3, 1, 3, 0, 0, []),
  (244, .iconst 5, 1, 5, 0, 0, []),
  (245, .iadd, 1, 0, 0, 0, []),
  (246, .iaload, 1, 0, 0, 0, []),
  (247, .invokevirtual 17, 3, 139, 6, 1, [12, 0, 1836, 1837, 275, 1838]),
  (250, .if_icmp .eq 870, 3, 1120, 0, 0, []),
  (253, .iconst 0, 1, 0, 0, 0, []),
  (254, .ireturn, 1, 0, 0, 0, []),
  (255, .aload_n 1, 1, 1, 0, 0, []),
  (256, .aload_n 0, 1, 0, 0, 0, []),
  (257, .iload_n 3, 1, 3, 0, 0, []),
  (258, .iconst 1, 1, 1, 0, 0, []),
  (259, .iadd, 1, 0, 0, 0, []),
  (260, .iaload, 1, 0, 0, 0, []),
  (261, .invokevirtual 18, 3, 88, 2, 1, [11, 0, 844, 845, 257, 846]),
  (264, .aload_n 2, 1, 2, 0, 0, []),
  (265, .aload_n 0, 1, 0, 0, 0, []),
  (266, .iload_n 3, 1, 3, 0, 0, []),
  (267, .iconst 1, 1, 1, 0, 0, []),
  (268, .iadd, 1, 0, 0, 0, []),
  (269, .iaload, 1, 0, 0, 0, []),
  (270, .invokevirtual 22, 3, 105, 2, 1, [12, 0, 1848, 1849, 275, 1850]),
  (273, .if_icmp .eq 847, 3, 1120, 0, 0, []),
  (276, .iconst 0, 1, 0, 0, 0, []),
  (277, .ireturn, 1, 0, 0, 0, []),
  (278, .aload_n 1, 1, 1, 0, 0, []),
  (279, .invokevirtual 23, 3, 140, 1, 1, [11, 0, 856, 857, 257, 858]),
  (282, .aload_n 2, 1, 2, 0, 0, []),
  (283, .invokevirtual 27, 3, 148, 1, 1, [12, 0, 1852, 1853, 275, 1854]),
  (286, .if_icmp .eq 834, 3, 1120, 0, 0, []),
  (289, .iconst 0, 1, 0, 0, 0, []),
  (290, .ireturn, 1, 0, 0, 0, []),
  (291, .aload_n 1, 1, 1, 0, 0, []),
  (292, .aload_n 0, 1, 0, 0, 0, []),
  (293, .iload_n 3, 1, 3, 0, 0, []),
  (294, .iconst 1, 1, 1, 0, 0, []),
  (295, .iadd, 1, 0, 0, 0, []),
  (296, .iaload, 1, 0, 0, 0, []),
  (297, .invokevirtual 28, 3, 71, 2, 1, [11, 0, 1113, 1114, 257, 1115]),
  (300, .aload_n 2, 1, 2, 0, 0, []),
  (301, .aload_n 0, 1, 0, 0, 0, []),
  (302, .iload_n 3, 1, 3, 0, 0, []),
  (303, .iconst 1, 1, 1, 0, 0, []),
  (304, .iadd, 1, 0, 0, 0, []),
  (305, .iaload, 1, 0, 0, 0, []),
  (306, .invokevirtual 32, 3, 92, 2, 1, [12, 0, 2048, 2049, 275, 2050]),
  (309, .if_icmp .eq 811, 3, 1120, 0, 0, []),
  (312, .iconst 0, 1, 0, 0, 0, []),
  (313, .ireturn, 1, 0, 0, 0, []),
  (314, .aload_n 1, 1, 1, 0, 0, []),
  (315, .aload_n 0, 1, 0, 0, 0, []),
  (316, .iload_n 3, 1, 3, 0, 0, []),
  (317, .iconst 1, 1, 1, 0, 0, []),
  (318, .iadd, 1, 0, 0, 0, []),
  (319, .iaload, 1, 0, 0, 0, []),
  (320, .invokevirtual 33, 3, 49, 2, 1, [11, 0, 1117, 1118, 257, 1119]),
  (323, .aload_n 2, 1, 2, 0, 0, []),
  (324, .aload_n 0, 1, 0, 0, 0, []),
  (325, .iload_n 3, 1, 3, 0, 0, []),
  (326, .iconst 1, 1, 1, 0, 0, []),
  (327, .iadd, 1, 0, 0, 0, []),
  (328, .iaload, 1, 0, 0, 0, []),
  (329, .invokevirtual 36, 3, 62, 2, 1, [12, 0, 2068, 2069, 275, 2070]),
  (332, .if_icmp .eq 788, 3, 1120, 0, 0, []),
  (335, .iconst 0, 1, 0, 0, 0, []),
  (336, .ireturn, 1, 0, 0, 0, []),
  (337, .aload_n 1, 1, 1, 0, 0, []),
  (338, .aload_n 0, 1, 0, 0, 0, []),
  (339, .iload_n 3, 1, 3, 0, 0, []),
  (340, .iconst 1, 1, 1, 0, 0, []),
  (341, .iadd, 1, 0, 0, 0, []),
  (342, .iaload, 1, 0, 0, 0, []),
  (343, .aload_n 0, 1, 0, 0, 0, []),
  (344, .iload_n 3, 1, 3, 0, 0, []),
  (345, .iconst 2, 1, 2, 0, 0, []),
  (346, .iadd, 1, 0, 0, 0, []),
  (347, .iaload, 1, 0, 0, 0, []),
  (348, .aload_n 0, 1, 0, 0, 0, []),
  (349, .iload_n 3, 1, 3, 0, 0, []),
  (350, .iconst 3, 1, 3, 0, 0, []),
  (351, .iadd, 1, 0, 0, 0, []),
  (352, .iaload, 1, 0, 0, 0, []),
  (353, .invokevirtual 37, 3, 44, 4, 1, [11, 0, 1134, 1135, 257, 1136]),
  (356, .aload_n 2, 1, 2, 0, 0, []),
  (357, .aload_n 0, 1, 0, 0, 0, []),
  (358, .iload_n 3, 1, 3, 0, 0, []),
  (359, .iconst 1, 1, 1, 0, 0, []),
  (360, .iadd, 1, 0, 0, 0, []),
  (361, .iaload, 1, 0, 0, 0, []),
  (362, .aload_n 0, 1, 0, 0, 0, []),
  (363, .iload_n 3, 1, 3, 0, 0, []),
  (364, .iconst 2, 1, 2, 0, 0, []),
  (365, .iadd, 1, 0, 0, 0, []),
  (366, .iaload, 1, 0, 0, 0, []),
  (367, .aload_n 0, 1, 0, 0, 0, []),
  (368, .iload_n 3, 1, 3, 0, 0, []),
  (369, .iconst 3, 1, 3, 0, 0, []),
  (370, .iadd, 1, 0, 0, 0, []),
  (371, .iaload, 1, 0, 0, 0, []),
  (372, .invokevirtual 41, 3, 46, 4, 1, [12, 0, 2075, 2076, 275, 2077]),
  (375, .if_icmp .eq 745, 3, 1120, 0, 0, []),
  (378, .iconst 0, 1, 0, 0, 0, []),
  (379, .ireturn, 1, 0, 0, 0, []),
  (380, .aload_n 1, 1, 1, 0, 0, []),
  (381, .aload_n 0, 1, 0, 0, 0, []),
  (382, .iload_n 3, 1, 3, 0, 0, []),
  (383, .iconst 1, 1, 1, 0, 0, []),
  (384, .iadd, 1, 0, 0, 0, []),
  (385, .iaload, 1, 0, 0, 0, []),
  (386, .aload_n 0, 1, 0, 0, 0, []),
  (387, .iload_n 3, 1, 3, 0, 0, []),
  (388, .iconst 2, 1, 2, 0, 0, []),
  (389, .iadd, 1, 0, 0, 0, []),
  (390, .iaload, 1, 0, 0, 0, []),
  (391, .invokevirtual 42, 3, 106, 3, 1, [11, 0, 1149, 1150, 257, 1151]),
  (394, .aload_n 2, 1, 2, 0, 0, []),
  (395, .aload_n 0, 1, 0, 0, 0, []),
  (396, .iload_n 3, 1, 3, 0, 0, []),
  (397, .iconst 1, 1, 1, 0, 0, []),
  (398, .iadd, 1, 0, 0, 0, []),
  (399, .iaload, 1, 0, 0, 0, []),
  (400, .aload_n 0, 1, 0, 0, 0, []),
  (401, .iload_n 3, 1, 3, 0, 0, []),
  (402, .iconst 2, 1, 2, 0, 0, []),
  (403, .iadd, 1, 0, 0, 0, []),
  (404, .iaload, 1, 0, 0, 0, []),
  (405, .invokevirtual 46, 3, 125, 3, 1, [12, 0, 2080, 2081, 275, 2082]),
  (408, .if_icmp .eq 712, 3, 1120, 0, 0, []),
  (411, .iconst 0, 1, 0, 0, 0, []),
  (412, .ireturn, 1, 0, 0, 0, []),
  (413, .aload_n 1, 1, 1, 0, 0, []),
  (414, .aload_n 0, 1, 0, 0, 0, []),
  (415, .iload_n 3, 1, 3, 0, 0, []),
  (416, .iconst 1, 1, 1, 0, 0, []),
  (417, .iadd, 1, 0, 0, 0, []),
  (418, .iaload, 1, 0, 0, 0, []),
  (419, .aload_n 0, 1, 0, 0, 0, []),
  (420, .iload_n 3, 1, 3, 0, 0, []),
  (421, .iconst 2, 1, 2, 0, 0, []),
  (422, .iadd, 1, 0, 0, 0, []),
  (423, .iaload, 1, 0, 0, 0, []),
  (424, .invokevirtual 47, 3, 107, 3, 1, [11, 0, 1157, 1158, 257, 1159]),
  (427, .aload_n 2, 1, 2, 0, 0, []),
  (428, .aload_n 0, 1, 0, 0, 0, []),
  (429, .iload_n 3, 1, 3, 0, 0, []),
  (430, .iconst 1, 1, 1, 0, 0, []),
  (431, .iadd, 1, 0, 0, 0, []),
  (432, .iaload, 1, 0, 0, 0, []),
  (433, .aload_n 0, 1, 0, 0, 0, []),
  (434, .iload_n 3, 1, 3, 0, 0, []),
  (435, .iconst 2, 1, 2, 0, 0, []),
  (436, .iadd, 1, 0, 0, 0, []),
  (437, .iaload, 1, 0, 0, 0, []),
  (438, .invokevirtual 50, 3, 126, 3, 1, [12, 0, 2084, 2085, 275, 2086]),
  (441, .if_icmp .eq 679, 3, 1120, 0, 0, []),
  (444, .iconst 0, 1, 0, 0, 0, []),
  (445, .ireturn, 1, 0, 0, 0, []),
  (446, .aload_n 1, 1, 1, 0, 0, []),
  (447, .aload_n 0, 1, 0, 0, 0, []),
  (448, .iload_n 3, 1, 3, 0, 0, []),
  (449, .iconst 1, 1, 1, 0, 0, []),
  (450, .iadd, 1, 0, 0, 0, []),
  (451, .iaload, 1, 0, 0, 0, []),
  (452, .aload_n 0, 1, 0, 0, 0, []),
  (453, .iload_n 3, 1, 3, 0, 0, []),
  (454, .iconst 2, 1, 2, 0, 0, []),
  (455, .iadd, 1, 0, 0, 0, []),
  (456, .iaload, 1, 0, 0, 0, []),
  (457, .invokevirtual 51, 3, 108, 3, 1, [11, 0, 1179, 1180, 257, 1181]),
  (460, .aload_n 2, 1, 2, 0, 0, []),
  (461, .aload_n 0, 1, 0, 0, 0, []),
  (462, .iload_n 3, 1, 3, 0, 0, []),
  (463, .iconst 1, 1, 1, 0, 0, []),
  (464, .iadd, 1, 0, 0, 0, []),
  (465, .iaload, 1, 0, 0, 0, []),
  (466, .aload_n 0, 1, 0, 0, 0, []),
  (467, .iload_n 3, 1, 3, 0, 0, []),
  (468, .iconst 2, 1, 2, 0, 0, []),
  (469, .iadd, 1, 0, 0, 0, []),
  (470, .iaload, 1, 0, 0, 0, []),
  (471, .invokevirtual 54, 3, 127, 3, 1, [12, 0, 2097, 2098, 275, 2099]),
  (474, .if_icmp .eq 646, 3, 1120, 0, 0, []),
  (477, .iconst 0, 1, 0, 0, 0, []),
  (478, .ireturn, 1, 0, 0, 0, []),
  (479, .aload_n 1, 1, 1, 0, 0, []),
  (480, .aload_n 0, 1, 0, 0, 0, []),
  (481, .iload_n 3, 1, 3, 0, 0, []),
  (482, .iconst 1, 1, 1, 0, 0, []),
  (483, .iadd, 1, 0, 0, 0, []),
  (484, .iaload, 1, 0, 0, 0, []),
  (485, .aload_n 0, 1, 0, 0, 0, []),
  (486, .iload_n 3, 1, 3, 0, 0, []),
  (487, .iconst 2, 1, 2, 0, 0, []),
  (488, .iadd, 1, 0, 0, 0, []),
  (489, .iaload, 1, 0, 0, 0, []),
  (490, .invokevirtual 55, 3, 109, 3, 1, [11, 0, 1183, 1184, 257, 1185]),
  (493, .aload_n 2, 1, 2, 0, 0, []),
  (494, .aload_n 0, 1, 0, 0, 0, []),
  (495, .iload_n 3, 1, 3, 0, 0, []),
  (496, .iconst 1, 1, 1, 0, 0, []),
  (497, .iadd, 1, 0, 0, 0, []),
  (498, .iaload, 1, 0, 0, 0, []),
  (499, .aload_n 0, 1, 0, 0, 0, []),
  (500, .iload_n 3, 1, 3, 0, 0, []),
  (501, .iconst 2, 1, 2, 0, 0, []),
  (502, .iadd, 1, 0, 0, 0, []),
  (503, .iaload, 1, 0, 0, 0, []),
  (504, .invokevirtual 58, 3, 128, 3, 1, [12, 0, 2101, 2102, 275, 2103]),
  (507, .if_icmp .eq 613, 3, 1120, 0, 0, []),
  (510, .iconst 0, 1, 0, 0, 0, []),
  (511, .ireturn, 1, 0, 0, 0, []),
  (512, .aload_n 1, 1, 1, 0, 0, []),
  (513, .aload_n 0, 1, 0, 0, 0, []),
  (514, .iload_n 3, 1, 3, 0, 0, []),
  (515, .iconst 1, 1, 1, 0, 0, []),
  (516, .iadd, 1, 0, 0, 0, []),
  (517, .iaload, 1, 0, 0, 0, []),
  (518, .invokevirtual 59, 3, 63, 2, 1, [11, 0, 1187, 1188, 257, 1189]),
  (521, .aload_n 2, 1, 2, 0, 0, []),
  (522, .aload_n 0, 1, 0, 0, 0, []),
  (523, .iload_n 3, 1, 3, 0, 0, []),
  (524, .iconst 1, 1, 1, 0, 0, []),
  (525, .iadd, 1, 0, 0, 0, []),
  (526, .iaload, 1, 0, 0, 0, []),
  (527, .invokevirtual 62, 3, 77, 2, 1, [12, 0, 2105, 2106, 275, 2107]),
  (530, .if_icmp .eq 590, 3, 1120, 0, 0, []),
  (533, .iconst 0, 1, 0, 0, 0, []),
  (534, .ireturn, 1, 0, 0, 0, []),
  (535, .aload_n 1, 1, 1, 0, 0, []),
  (536, .aload_n 0, 1, 0, 0, 0, []),
  (537, .iload_n 3, 1, 3, 0, 0, []),
  (538, .iconst 1, 1, 1, 0, 0, []),
  (539, .iadd, 1, 0, 0, 0, []),
  (540, .iaload, 1, 0, 0, 0, []),
  (541, .aload_n 0, 1, 0, 0, 0, []),
  (542, .iload_n 3, 1, 3, 0, 0, []),
  (543, .iconst 2, 1, 2, 0, 0, []),
  (544, .iadd, 1, 0, 0, 0, []),
  (545, .iaload, 1, 0, 0, 0, []),
  (546, .invokevirtual 63, 3, 64, 3, 1, [11, 0, 1295, 1296, 257, 1297]),
  (549, .aload_n 2, 1, 2, 0, 0, []),
  (550, .aload_n 0, 1, 0, 0, 0, []),
  (551, .iload_n 3, 1, 3, 0, 0, []),
  (552, .iconst 1, 1, 1, 0, 0, []),
  (553, .iadd, 1, 0, 0, 0, []),
  (554, .iaload, 1, 0, 0, 0, []),
  (555, .aload_n 0, 1, 0, 0, 0, []),
  (556, .iload_n 3, 1, 3, 0, 0, []),
  (557, .iconst 2, 1, 2, 0, 0, []),
  (558, .iadd, 1, 0, 0, 0, []),
  (559, .iaload, 1, 0, 0, 0, []),
  (560, .invokevirtual 66, 3, 65, 3, 1, [12, 0, 2161, 2162, 275, 2163]),
  (563, .if_icmp .eq 557, 3, 1120, 0, 0, []),
  (566, .iconst 0, 1, 0, 0, 0, []),
  (567, .ireturn, 1, 0, 0, 0, []),
  (568, .aload_n 1, 1, 1, 0, 0, []),
  (569, .invokevirtual 67, 3, 153, 1, 1, [11, 0, 1299, 1300, 257, 1301]),
  (572, .aload_n 2, 1, 2, 0, 0, []),
  (573, .invokevirtual 70, 3, 154, 1, 1, [12, 0, 2165, 2166, 275, 2167]),
  (576, .if_icmp .eq 544, 3, 1120, 0, 0, []),
  (579, .iconst 0, 1, 0, 0, 0, []),
  (580, .ireturn, 1, 0, 0, 0, []),
  (581, .aload_n 1, 1, 1, 0, 0, []),
  (582, .aload_n 0, 1, 0, 0, 0, []),
  (583, .iload_n 3, 1, 3, 0, 0, []),
  (584, .iconst 1, 1, 1, 0, 0, []),
  (585, .iadd, 1, 0, 0, 0, []),
  (586, .iaload, 1, 0, 0, 0, []),
  (587, .invokevirtual 71, 3, 90, 2, 1, [11, 0, 1303, 1304, 257, 1305]),
  (590, .aload_n 2, 1, 2, 0, 0, []),
  (591, .aload_n 0, 1, 0, 0, 0, []),
  (592, .iload_n 3, 1, 3, 0, 0, []),
  (593, .iconst 1, 1, 1, 0, 0, []),
  (594, .iadd, 1, 0, 0, 0, []),
  (595, .iaload, 1, 0, 0, 0, []),
  (596, .invokevirtual 74, 3, 110, 2, 1, [12, 0, 2173, 2174, 275, 2175]),
  (599, .if_icmp .eq 521, 3, 1120, 0, 0, []),
  (602, .iconst 0, 1, 0, 0, 0, []),
  (603, .ireturn, 1, 0, 0, 0, []),
  (604, .aload_n 1, 1, 1, 0, 0, []),
  (605, .aload_n 0, 1, 0, 0, 0, []),
  (606, .iload_n 3, 1, 3, 0, 0, []),
  (607, .iconst 1, 1, 1, 0, 0, []),
  (608, .iadd, 1, 0, 0, 0, []),
  (609, .iaload, 1, 0, 0, 0, []),
  (610, .invokevirtual 75, 3, 111, 2, 1, [11, 0, 1311, 1312, 257, 1313]),
  (613, .aload_n 2, 1, 2, 0, 0, []),
  (614, .aload_n 0, 1, 0, 0, 0, []),
  (615, .iload_n 3, 1, 3, 0, 0, []),
  (616, .iconst 1, 1, 1, 0, 0, []),
  (617, .iadd, 1, 0, 0, 0, []),
  (618, .iaload, 1, 0, 0, 0, []),
  (619, .invokevirtual 78, 3, 130, 2, 1, [12, 0, 2177, 2178, 275, 2179]),
  (622, .if_icmp .eq 498, 3, 1120, 0, 0, []),
  (625, .iconst 0, 1, 0, 0, 0, []),
  (626, .ireturn, 1, 0, 0, 0, []),
  (627, .aload_n 1, 1, 1, 0, 0, []),
  (628, .aload_n 0, 1, 0, 0, 0, []),
  (629, .iload_n 3, 1, 3, 0, 0, []),
  (630, .iconst 1, 1, 1, 0, 0, []),
  (631, .iadd, 1, 0, 0, 0, []),
  (632, .iaload, 1, 0, 0, 0, []),
  (633, .invokevirtual 79, 3, 91, 2, 1, [11, 0, 1323, 1324, 257, 1325]),
  (636, .aload_n 2, 1, 2, 0, 0, []),
  (637, .aload_n 0, 1, 0, 0, 0, []),
  (638, .iload_n 3, 1, 3, 0, 0, []),
  (639, .iconst 1, 1, 1, 0, 0, []),
  (640, .iadd, 1, 0, 0, 0, []),
  (641, .iaload, 1, 0, 0, 0, []),
  (642, .invokevirtual 82, 3, 112, 2, 1, [12, 0, 2185, 2186, 275, 2187]),
  (645, .if_icmp .eq 475, 3, 1120, 0, 0, []),
  (648, .iconst 0, 1, 0, 0, 0, []),
  (649, .ireturn, 1, 0, 0, 0, []),
  (650, .aload_n 1, 1, 1, 0, 0, []),
  (651, .aload_n 0, 1, 0, 0, 0, []),
  (652, .iload_n 3, 1, 3, 0, 0, []),
  (653, .iconst 1, 1, 1, 0, 0, []),
  (654, .iadd, 1, 0, 0, 0, []),
  (655, .iaload, 1, 0, 0, 0, []),
  (656, .aload_n 0, 1, 0, 0, 0, []),
  (657, .iload_n 3, 1, 3, 0, 0, []),
  (658, .iconst 2, 1, 2, 0, 0, []),
  (659, .iadd, 1, 0, 0, 0, []),
  (660, .iaload, 1, 0, 0, 0, []),
  (661, .invokevirtual 83, 3, 78, 3, 1, [11, 0, 1335, 1336, 257, 1337]),
  (664, .aload_n 2, 1, 2, 0, 0, []),
  (665, .aload_n 0, 1, 0, 0, 0, []),
  (666, .iload_n 3, 1, 3, 0, 0, []),
  (667, .iconst 1, 1, 1, 0, 0, []),
  (668, .iadd, 1, 0, 0, 0, []),
  (669, .iaload, 1, 0, 0, 0, []),
  (670, .aload_n 0, 1, 0, 0, 0, []),
  (671, .iload_n 3, 1, 3, 0, 0, []),
  (672, .iconst 2, 1, 2, 0, 0, []),
  (673, .iadd, 1, 0, 0, 0, []),
  (674, .iaload, 1, 0, 0, 0, []),
  (675, .invokevirtual 86, 3, 79, 3, 1, [12, 0, 2189, 2190, 275, 2191]),
  (678, .if_icmp .eq 442, 3, 1120, 0, 0, []),
  (681, .iconst 0, 1, 0, 0, 0, []),
  (682, .ireturn, 1, 0, 0, 0, []),
  (683, .aload_n 1, 1, 1, 0, 0, []),
  (684, .aload_n 0, 1, 0, 0, 0, []),
  (685, .iload_n 3, 1, 3, 0, 0, []),
  (686, .iconst 1, 1, 1, 0, 0, []),
  (687, .iadd, 1, 0, 0, 0, []),
  (688, .iaload, 1, 0, 0, 0, []),
  (689, .invokevirtual 87, 3, 113, 2, 1, [11, 0, 1348, 1349, 257, 1350]),
  (692, .aload_n 2, 1, 2, 0, 0, []),
  (693, .aload_n 0, 1, 0, 0, 0, []),
  (694, .iload_n 3, 1, 3, 0, 0, []),
  (695, .iconst 1, 1, 1, 0, 0, []),
  (696, .iadd, 1, 0, 0, 0, []),
  (697, .iaload, 1, 0, 0, 0, []),
  (698, .invokevirtual 90, 3, 131, 2, 1, [12, 0, 2213, 2214, 275, 2215]),
  (701, .if_icmp .eq 419, 3, 1120, 0, 0, []),
  (704, .iconst 0, 1, 0, 0, 0, []),
  (705, .ireturn, 1, 0, 0, 0, []),
  (706, .aload_n 1, 1, 1, 0, 0, []),
  (707, .invokevirtual 91, 3, 156, 1, 1, [11, 0, 1353, 1354, 257, 1355]),
  (710, .aload_n 2, 1, 2, 0, 0, []),
  (711, .invokevirtual 94, 3, 159, 1, 1, [12, 0, 2217, 2218, 275, 2219]),
  (714, .if_icmp .eq 406, 3, 1120, 0, 0, []),
  (717, .iconst 0, 1, 0, 0, 0, []),
  (718, .ireturn, 1, 0, 0, 0, []),
  (719, .aload_n 1, 1, 1, 0, 0, []),
  (720, .invokevirtual 95, 3, 161, 1, 1, [11, 0, 1367, 1368, 257, 1369]),
  (723, .aload_n 2, 1, 2, 0, 0, []),
  (724, .invokevirtual 98, 3, 164, 1, 1, [12, 0, 2225, 2226, 275, 2227]),
  (727, .if_icmp .eq 393, 3, 1120, 0, 0, []),
  (730, .iconst 0, 1, 0, 0, 0, []),
  (731, .ireturn, 1, 0, 0, 0, []),
  (732, .aload_n 1, 1, 1, 0, 0, []),
  (733, .aload_n 0, 1, 0, 0, 0, []),
  (734, .iload_n 3, 1, 3, 0, 0, []),
  (735, .iconst 1, 1, 1, 0, 0, []),
  (736, .iadd, 1, 0, 0, 0, []),
  (737, .iaload, 1, 0, 0, 0, []),
  (738, .invokevirtual 99, 3, 38, 2, 1, [11, 0, 1381, 1382, 257, 1383]),
  (741, .aload_n 2, 1, 2, 0, 0, []),
  (742, .aload_n 0, 1, 0, 0, 0, []),
  (743, .iload_n 3, 1, 3, 0, 0, []),
  (744, .iconst 1, 1, 1, 0, 0, []),
  (745, .iadd, 1, 0, 0, 0, []),
  (746, .iaload, 1, 0, 0, 0, []),
  (747, .invokevirtual 102, 3, 50, 2, 1, [12, 0, 2229, 2230, 275, 2231]),
  (750, .if_icmp .eq 370, 3, 1120, 0, 0, []),
  (753, .iconst 0, 1, 0, 0, 0, []),
  (754, .ireturn, 1, 0, 0, 0, []),
  (755, .aload_n 1, 1, 1, 0, 0, []),
  (756, .aload_n 0, 1, 0, 0, 0, []),
  (757, .iload_n 3, 1, 3, 0, 0, []),
  (758, .iconst 1, 1, 1, 0, 0, []),
  (759, .iadd, 1, 0, 0, 0, []),
  (760, .iaload, 1, 0, 0, 0, []),
  (761, .aload_n 0, 1, 0, 0, 0, []),
  (762, .iload_n 3, 1, 3, 0, 0, []),
  (763, .iconst 2, 1, 2, 0, 0, []),
  (764, .iadd, 1, 0, 0, 0, []),
  (765, .iaload, 1, 0, 0, 0, []),
  (766, .invokevirtual 103, 3, 24, 3, 1, [11, 0, 1412, 1413, 257, 1414]),
  (769, .aload_n 2, 1, 2, 0, 0, []),
  (770, .aload_n 0, 1, 0, 0, 0, []),
  (771, .iload_n 3, 1, 3, 0, 0, []),
  (772, .iconst 1, 1, 1, 0, 0, []),
  (773, .iadd, 1, 0, 0, 0, []),
  (774, .iaload, 1, 0, 0, 0, []),
  (775, .aload_n 0, 1, 0, 0, 0, []),
  (776, .iload_n 3, 1, 3, 0, 0, []),
  (777, .iconst 2, 1, 2, 0, 0, []),
  (778, .iadd, 1, 0, 0, 0, []),
  (779, .iaload, 1, 0, 0, 0, []),
  (780, .invokevirtual 106, 3, 30, 3, 1, [12, 0, 2246, 2247, 275, 2248]),
  (783, .if_icmp .eq 337, 3, 1120, 0, 0, []),
  (786, .iconst 0, 1, 0, 0, 0, []),
  (787, .ireturn, 1, 0, 0, 0, []),
  (788, .aload_n 1, 1, 1, 0, 0, []),
  (789, .aload_n 0, 1, 0, 0, 0, []),
  (790, .iload_n 3, 1, 3, 0, 0, []),
  (791, .iconst 1, 1, 1, 0, 0, []),
  (792, .iadd, 1, 0, 0, 0, []),
  (793, .iaload, 1, 0, 0, 0, []),
  (794, .aload_n 0, 1, 0, 0, 0, []),
  (795, .iload_n 3, 1, 3, 0, 0, []),
  (796, .iconst 2, 1, 2, 0, 0, []),
  (797, .iadd, 1, 0, 0, 0, []),
  (798, .iaload, 1, 0, 0, 0, []),
  (799, .invokevirtual 107, 3, 37, 3, 1, [11, 0, 1425, 1426, 257, 1427]),
  (802, .aload_n 2, 1, 2, 0, 0, []),
  (803, .aload_n 0, 1, 0, 0, 0, []),
  (804, .iload_n 3, 1, 3, 0, 0, []),
  (805, .iconst 1, 1, 1, 0, 0, []),
  (806, .iadd, 1, 0, 0, 0, []),
  (807, .iaload, 1, 0, 0, 0, []),
  (808, .aload_n 0, 1, 0, 0, 0, []),
  (809, .iload_n 3, 1, 3, 0, 0, []),
  (810, .iconst 2, 1, 2, 0, 0, []),
  (811, .iadd, 1, 0, 0, 0, []),
  (812, .iaload, 1, 0, 0, 0, []),
  (813, .invokevirtual 110, 3, 48, 3, 1, [12, 0, 2250, 2251, 275, 2252]),
  (816, .if_icmp .eq 304, 3, 1120, 0, 0, []),
  (819, .iconst 0, 1, 0, 0, 0, []),
  (820, .ireturn, 1, 0, 0, 0, []),
  (821, .aload_n 1, 1, 1, 0, 0, []),
  (822, .aload_n 0, 1, 0, 0, 0, []),
  (823, .iload_n 3, 1, 3, 0, 0, []),
  (824, .iconst 1, 1, 1, 0, 0, []),
  (825, .iadd, 1, 0, 0, 0, []),
  (826, .iaload, 1, 0, 0, 0, []),
  (827, .invokevirtual 111, 3, 114, 2, 1, [11, 0, 1440, 1441, 257, 1442]),
  (830, .aload_n 2, 1, 2, 0, 0, []),
  (831, .aload_n 0, 1, 0, 0, 0, []),
  (832, .iload_n 3, 1, 3, 0, 0, []),
  (833, .iconst 1, 1, 1, 0, 0, []),
  (834, .iadd, 1, 0, 0, 0, []),
  (835, .iaload, 1, 0, 0, 0, []),
  (836, .invokevirtual 114, 3, 115, 2, 1, [12, 0, 2254, 2255, 275, 2256]),
  (839, .if_icmp .eq 281, 3, 1120, 0, 0, []),
  (842, .iconst 0, 1, 0, 0, 0, []),
  (843, .ireturn, 1, 0, 0, 0, []),
  (844, .aload_n 1, 1, 1, 0, 0, []),
  (845, .aload_n 0, 1, 0, 0, 0, []),
  (846, .iload_n 3, 1, 3, 0, 0, []),
  (847, .iconst 1, 1, 1, 0, 0, []),
  (848, .iadd, 1, 0, 0, 0, []),
  (849, .iaload, 1, 0, 0, 0, []),
  (850, .invokevirtual 115, 3, 116, 2, 1, [11, 0, 1470, 1471, 257, 1472]),
  (853, .aload_n 2, 1, 2, 0, 0, []),
  (854, .aload_n 0, 1, 0, 0, 0, []),
  (855, .iload_n 3, 1, 3, 0, 0, []),
  (856, .iconst 1, 1, 1, 0, 0, []),
  (857, .iadd, 1, 0, 0, 0, []),
  (858, .iaload, 1, 0, 0, 0, []),
  (859, .invokevirtual 118, 3, 117, 2, 1, [12, 0, 2262, 2263, 275, 2264]),
  (862, .if_icmp .eq 258, 3, 1120, 0, 0, []),
  (865, .iconst 0, 1, 0, 0, 0, []),
  (866, .ireturn, 1, 0, 0, 0, []),
  (867, .aload_n 1, 1, 1, 0, 0, []),
  (868, .aload_n 0, 1, 0, 0, 0, []),
  (869, .iload_n 3, 1, 3, 0, 0, []),
  (870, .iconst 1, 1, 1, 0, 0, []),
  (871, .iadd, 1, 0, 0, 0, []),
  (872, .iaload, 1, 0, 0, 0, []),
  (873, .aload_n 0, 1, 0, 0, 0, []),
  (874, .iload_n 3, 1, 3, 0, 0, []),
  (875, .iconst 2, 1, 2, 0, 0, []),
  (876, .iadd, 1, 0, 0, 0, []),
  (877, .iaload, 1, 0, 0, 0, []),
  (878, .invokevirtual 119, 3, 118, 3, 1, [11, 0, 1481, 1482, 257, 1483]),
  (881, .aload_n 2, 1, 2, 0, 0, []),
  (882, .aload_n 0, 1, 0, 0, 0, []),
  (883, .iload_n 3, 1, 3, 0, 0, []),
  (884, .iconst 1, 1, 1, 0, 0, []),
  (885, .iadd, 1, 0, 0, 0, []),
  (886, .iaload, 1, 0, 0, 0, []),
  (887, .aload_n 0, 1, 0, 0, 0, []),
  (888, .iload_n 3, 1, 3, 0, 0, []),
  (889, .iconst 2, 1, 2, 0, 0, []),
  (890, .iadd, 1, 0, 0, 0, []),
  (891, .iaload, 1, 0, 0, 0, []),
  (892, .invokevirtual 123, 3, 132, 3, 1, [12, 0, 2274, 2275, 275, 2276]),
  (895, .if_icmp .eq 225, 3, 1120, 0, 0, []),
  (898, .iconst 0, 1, 0, 0, 0, []),
  (899, .ireturn, 1, 0, 0, 0, []),
  (900, .aload_n 1, 1, 1, 0, 0, []),
  (901, .aload_n 0, 1, 0, 0, 0, []),
  (902, .iload_n 3, 1, 3, 0, 0, []),
  (903, .iconst 1, 1, 1, 0, 0, []),
  (904, .iadd, 1, 0, 0, 0, []),
  (905, .iaload, 1, 0, 0, 0, []),
  (906, .aload_n 0, 1, 0, 0, 0, []),
  (907, .iload_n 3, 1, 3, 0, 0, []),
  (908, .iconst 2, 1, 2, 0, 0, []),
  (909, .iadd, 1, 0, 0, 0, []),
  (910, .iaload, 1, 0, 0, 0, []),
  (911, .invokevirtual 124, 3, 119, 3, 1, [11, 0, 1485, 1486, 257, 1487]),
  (914, .aload_n 2, 1, 2, 0, 0, []),
  (915, .aload_n 0, 1, 0, 0, 0, []),
  (916, .iload_n 3, 1, 3, 0, 0, []),
  (917, .iconst 1, 1, 1, 0, 0, []),
  (918, .iadd, 1, 0, 0, 0, []),
  (919, .iaload, 1, 0, 0, 0, []),
  (920, .aload_n 0, 1, 0, 0, 0, []),
  (921, .iload_n 3, 1, 3, 0, 0, []),
  (922, .iconst 2, 1, 2, 0, 0, []),
  (923, .iadd, 1, 0, 0, 0, []),
  (924, .iaload, 1, 0, 0, 0, []),
  (925, .invokevirtual 127, 3, 133, 3, 1, [12, 0, 2278, 2279, 275, 2280]),
  (928, .if_icmp .eq 192, 3, 1120, 0, 0, []),
  (931, .iconst 0, 1, 0, 0, 0, []),
  (932, .ireturn, 1, 0, 0, 0, []),
  (933, .aload_n 1, 1, 1, 0, 0, []),
  (934, .aload_n 0, 1, 0, 0, 0, []),
  (935, .iload_n 3, 1, 3, 0, 0, []),
  (936, .iconst 1, 1, 1, 0, 0, []),
  (937, .iadd, 1, 0, 0, 0, []),
  (938, .iaload, 1, 0, 0, 0, []),
  (939, .aload_n 0, 1, 0, 0, 0, []),
  (940, .iload_n 3, 1, 3, 0, 0, []),
  (941, .iconst 2, 1, 2, 0, 0, []),
  (942, .iadd, 1, 0, 0, 0, []),
  (943, .iaload, 1, 0, 0, 0, []),
  (944, .invokevirtual 128, 3, 120, 3, 1, [11, 0, 1489, 1490, 257, 1491]),
  (947, .aload_n 2, 1, 2, 0, 0, []),
  (948, .aload_n 0, 1, 0, 0, 0, []),
  (949, .iload_n 3, 1, 3, 0, 0, []),
  (950, .iconst 1, 1, 1, 0, 0, []),
  (951, .iadd, 1, 0, 0, 0, []),
  (952, .iaload, 1, 0, 0, 0, []),
  (953, .aload_n 0, 1, 0, 0, 0, []),
  (954, .iload_n 3, 1, 3, 0, 0, []),
  (955, .iconst 2, 1, 2, 0, 0, []),
  (956, .iadd, 1, 0, 0, 0, []),
  (957, .iaload, 1, 0, 0, 0, []),
  (958, .invokevirtual 131, 3, 134, 3, 1, [12, 0, 2282, 2283, 275, 2284]),
  (961, .if_icmp .eq 159, 3, 1120, 0, 0, []),
  (964, .iconst 0, 1, 0, 0, 0, []),
  (965, .ireturn, 1, 0, 0, 0, []),
  (966, .aload_n 1, 1, 1, 0, 0, []),
  (967, .invokevirtual 132, 3, 165, 1, 1, [11, 0, 1495, 1496, 257, 1497]),
  (970, .aload_n 2, 1, 2, 0, 0, []),
  (971, .invokevirtual 136, 3, 166, 1, 1, [12, 0, 2286, 2287, 275, 2304]),
  (974, .if_icmp .eq 146, 3, 1120, 0, 0, []),
  (977, .iconst 0, 1, 0, 0, 0, []),
  (978, .ireturn, 1, 0, 0, 0, []),
  (979, .aload_n 1, 1, 1, 0, 0, []),
  (980, .invokevirtual 137, 3, 167, 1, 1, [11, 0, 1500, 1501, 257, 1502]),
  (983, .aload_n 2, 1, 2, 0, 0, []),
  (984, .invokevirtual 140, 3, 169, 1, 1, [12, 0, 2056, 2057, 275, 2058]),
  (987, .if_icmp .eq 133, 3, 1120, 0, 0, []),
  (990, .iconst 0, 1, 0, 0, 0, []),
  (991, .ireturn, 1, 0, 0, 0, []),
  (992, .aload_n 1, 1, 1, 0, 0, []),
  (993, .aload_n 0, 1, 0, 0, 0, []),
  (994, .iload_n 3, 1, 3, 0, 0, []),
  (995, .iconst 1, 1, 1, 0, 0, []),
  (996, .iadd, 1, 0, 0, 0, []),
  (997, .iaload, 1, 0, 0, 0, []),
  (998, .invokevirtual 141, 3, 121, 2, 1, [11, 0, 1508, 1509, 257, 1510]),
  (1001, .aload_n 2, 1, 2, 0, 0, []),
  (1002, .aload_n 0, 1, 0, 0, 0, []),
  (1003, .iload_n 3, 1, 3, 0, 0, []),
  (1004, .iconst 1, 1, 1, 0, 0, []),
  (1005, .iadd, 1, 0, 0, 0, []),
  (1006, .iaload, 1, 0, 0, 0, []),
  (1007, .invokevirtual 144, 3, 135, 2, 1, [12, 0, 2306, 2307, 275, 2308]),
  (1010, .if_icmp .eq 110, 3, 1120, 0, 0, []),
  (1013, .iconst 0, 1, 0, 0, 0, []),
  (1014, .ireturn, 1, 0, 0, 0, []),
  (1015, .aload_n 1, 1, 1, 0, 0, []),
  (1016, .aload_n 0, 1, 0, 0, 0, []),
  (1017, .iload_n 3, 1, 3, 0, 0, []),
  (1018, .iconst 1, 1, 1, 0, 0, []),
  (1019, .iadd, 1, 0, 0, 0, []),
  (1020, .iaload, 1, 0, 0, 0, []),
  (1021, .aload_n 0, 1, 0, 0, 0, []),
  (1022, .iload_n 3, 1, 3, 0, 0, []),
  (1023, .iconst 2, 1, 2, 0, 0, []),
  (1024, .iadd, 1, 0, 0, 0, []),
  (1025, .iaload, 1, 0, 0, 0, []),
  (1026, .invokevirtual 145, 3, 122, 3, 1, [11, 0, 1512, 1513, 257, 1514]),
  (1029, .aload_n 2, 1, 2, 0, 0, []),
  (1030, .aload_n 0, 1, 0, 0, 0, []),
  (1031, .iload_n 3, 1, 3, 0, 0, []),
  (1032, .iconst 1, 1, 1, 0, 0, []),
  (1033, .iadd, 1, 0, 0, 0, []),
  (1034, .iaload, 1, 0, 0, 0, []),
  (1035, .aload_n 0, 1, 0, 0, 0, []),
  (1036, .iload_n 3, 1, 3, 0, 0, []),
  (1037, .iconst 2, 1, 2, 0, 0, []),
  (1038, .iadd, 1, 0, 0, 0, []),
  (1039, .iaload, 1, 0, 0, 0, []),
  (1040, .invokevirtual 148, 3, 136, 3, 1, [12, 0, 2310, 2311, 275, 2312]),
  (1043, .if_icmp .eq 77, 3, 1120, 0, 0, []),
  (1046, .iconst 0, 1, 0, 0, 0, []),
  (1047, .ireturn, 1, 0, 0, 0, []),
  (1048, .aload_n 1, 1, 1, 0, 0, []),
  (1049, .invokevirtual 149, 3, 170, 1, 1, [11, 0, 1536, 1537, 257, 1538]),
  (1052, .aload_n 2, 1, 2, 0, 0, []),
  (1053, .invokevirtual 152, 3, 173, 1, 1, [12, 0, 2314, 2315, 275, 2316]),
  (1056, .if_icmp .eq 64, 3, 1120, 0, 0, []),
  (1059, .iconst 0, 1, 0, 0, 0, []),
  (1060, .ireturn, 1, 0, 0, 0, []),
  (1061, .aload_n 1, 1, 1, 0, 0, []),
  (1062, .aload_n 0, 1, 0, 0, 0, []),
  (1063, .iload_n 3, 1, 3, 0, 0, []),
  (1064, .iconst 1, 1, 1, 0, 0, []),
  (1065, .iadd, 1, 0, 0, 0, []),
  (1066, .iaload, 1, 0, 0, 0, []),
  (1067, .invokevirtual 153, 3, 123, 2, 1, [11, 0, 1549, 1550, 257, 1551]),
  (1070, .aload_n 2, 1, 2, 0, 0, []),
  (1071, .aload_n 0, 1, 0, 0, 0, []),
  (1072, .iload_n 3, 1, 3, 0, 0, []),
  (1073, .iconst 1, 1, 1, 0, 0, []),
  (1074, .iadd, 1, 0, 0, 0, []),
  (1075, .iaload, 1, 0, 0, 0, []),
  (1076, .invokevirtual 156, 3, 137, 2, 1, [12, 0, 2322, 2323, 275, 2324]),
  (1079, .if_icmp .eq 41, 3, 1120, 0, 0, []),
  (1082, .iconst 0, 1, 0, 0, 0, []),
  (1083, .ireturn, 1, 0, 0, 0, []),
  (1084, .aload_n 1, 1, 1, 0, 0, []),
  (1085, .invokevirtual 157, 3, 174, 1, 1, [11, 0, 1554, 1555, 257, 1556]),
  (1088, .aload_n 2, 1, 2, 0, 0, []),
  (1089, .invokevirtual 160, 3, 176, 1, 1, [12, 0, 2326, 2327, 275, 2328]),
  (1092, .if_icmp .eq 28, 3, 1120, 0, 0, []),
  (1095, .iconst 0, 1, 0, 0, 0, []),
  (1096, .ireturn, 1, 0, 0, 0, []),
  (1097, .aload_n 1, 1, 1, 0, 0, []),
  (1098, .aload_n 0, 1, 0, 0, 0, []),
  (1099, .iload_n 3, 1, 3, 0, 0, []),
  (1100, .iconst 1, 1, 1, 0, 0, []),
  (1101, .iadd, 1, 0, 0, 0, []),
  (1102, .iaload, 1, 0, 0, 0, []),
  (1103, .invokevirtual 161, 3, 57, 2, 1, [11, 0, 1574, 1575, 257, 1576]),
  (1106, .aload_n 2, 1, 2, 0, 0, []),
  (1107, .aload_n 0, 1, 0, 0, 0, []),
  (1108, .iload_n 3, 1, 3, 0, 0, []),
  (1109, .iconst 1, 1, 1, 0, 0, []),
  (1110, .iadd, 1, 0, 0, 0, []),
  (1111, .iaload, 1, 0, 0, 0, []),
  (1112, .invokevirtual 164, 3, 68, 2, 1, [12, 0, 2052, 2053, 275, 2054]),
  (1115, .if_icmp .eq 5, 3, 1120, 0, 0, []),
  (1118, .iconst 0, 1, 0, 0, 0, []),
  (1119, .ireturn, 1, 0, 0, 0, []),
  (1120, .iinc 3 6, 3, 3, 6, 0, []),
  (1123, .goto (-1105), 3, 18, 0, 0, []),
  (1126, .iconst 1, 1, 1, 0, 0, []),
  (1127, .ireturn, 1, 0, 0, 0, [])]
def rx_tb : rx_T := [(rx_m0, 4, 0, 0, 1),
  (rx_m1, 1, 0, 0, 1),
  (rx_m2, 1, 0, 0, 3),
  (rx_m3, 2, 0, 0, 4),
  (rx_m4, 1, 0, 0, 2),
  (rx_m5, 2, 0, 0, 4),
  (rx_m6, 2, 0, 0, 0),
  (rx_m7, 3, 0, 0, 1),
  (rx_m8, 3, 0, 0, 2),
  (rx_m9, 1, 0, 0, 1),
  (rx_m10, 3, 0, 0, 0),
  (rx_m11, 4, 0, 0, 0),
  (rx_m12, 1, 0, 0, 1),
  (rx_m13, 6, 0, 0, 0),
  (rx_m14, 8, 0, 0, 0),
  (rx_m15, 6, 0, 0, 0),
  (rx_m16, 2, 0, 0, 1),
  (rx_m17, 1, 0, 0, 0),
  (rx_m18, 1, 0, 0, 2),
  (rx_m19, 4, 0, 0, 0),
  (rx_m20, 3, 0, 0, 0),
  (rx_m21, 3, 0, 0, 2),
  (rx_m22, 2, 0, 0, 2),
  (rx_m23, 4, 0, 0, 0),
  (rx_m24, 3, 0, 0, 1),
  (rx_m25, 7, 0, 0, 5),
  (rx_m26, 5, 0, 0, 0),
  (rx_m27, 2, 0, 0, 0),
  (rx_m28, 4, 0, 0, 0),
  (rx_m29, 3, 0, 0, 1),
  (rx_m30, 6, 0, 0, 1),
  (rx_m31, 2, 0, 0, 1),
  (rx_m32, 1, 2, 60, 0),
  (rx_m33, 1, 4, 71, 0),
  (rx_m34, 6, 0, 0, 5),
  (rx_m35, 7, 0, 0, 5),
  (rx_m36, 2, 0, 0, 0),
  (rx_m37, 3, 0, 0, 1),
  (rx_m38, 2, 0, 0, 1),
  (rx_m39, 2, 0, 0, 1),
  (rx_m40, 2, 0, 0, 1),
  (rx_m41, 4, 0, 0, 0),
  (rx_m42, 3, 0, 0, 0),
  (rx_m43, 4, 0, 0, 0),
  (rx_m44, 4, 0, 0, 1),
  (rx_m45, 1, 0, 0, 0),
  (rx_m46, 9, 0, 0, 1),
  (rx_m47, 2, 0, 0, 0),
  (rx_m48, 12, 0, 0, 1),
  (rx_m49, 2, 0, 0, 1),
  (rx_m50, 2, 0, 0, 1),
  (rx_m51, 2, 0, 0, 1),
  (rx_m52, 4, 0, 0, 5),
  (rx_m53, 2, 0, 0, 1),
  (rx_m54, 6, 0, 0, 1),
  (rx_m55, 3, 0, 0, 1),
  (rx_m56, 2, 0, 0, 2),
  (rx_m57, 2, 0, 0, 1),
  (rx_m58, 2, 0, 0, 1),
  (rx_m59, 4, 0, 0, 2),
  (rx_m60, 4, 0, 0, 0),
  (rx_m61, 2, 0, 0, 2),
  (rx_m62, 2, 0, 0, 1),
  (rx_m63, 2, 0, 0, 1),
  (rx_m64, 3, 0, 0, 1),
  (rx_m65, 3, 0, 0, 1),
  (rx_m66, 2, 0, 0, 2),
  (rx_m67, 2, 0, 0, 2),
  (rx_m68, 2, 0, 0, 1),
  (rx_m69, 1, 0, 0, 0),
  (rx_m70, 2, 0, 0, 0),
  (rx_m71, 2, 0, 0, 1),
  (rx_m72, 2, 0, 0, 1),
  (rx_m73, 2, 1, 1600, 0),
  (rx_m74, 2, 0, 0, 1),
  (rx_m75, 1, 12, 1801, 0),
  (rx_m76, 2, 0, 0, 2),
  (rx_m77, 4, 0, 0, 1),
  (rx_m78, 4, 0, 0, 1),
  (rx_m79, 4, 0, 0, 1),
  (rx_m80, 2, 0, 0, 2),
  (rx_m81, 2, 0, 0, 0),
  (rx_m82, 2, 0, 0, 0),
  (rx_m83, 2, 0, 0, 0),
  (rx_m84, 1, 0, 0, 0),
  (rx_m85, 2, 0, 0, 1),
  (rx_m86, 2, 0, 0, 0),
  (rx_m87, 3, 0, 0, 0),
  (rx_m88, 2, 0, 0, 2),
  (rx_m89, 2, 0, 0, 0),
  (rx_m90, 5, 0, 0, 1),
  (rx_m91, 5, 0, 0, 1),
  (rx_m92, 2, 0, 0, 1),
  (rx_m93, 1, 0, 0, 1),
  (rx_m94, 2, 0, 0, 0),
  (rx_m95, 1, 169, 11896, 0),
  (rx_m96, 2, 104, 4060, 0),
  (rx_m97, 1, 5, 380, 0),
  (rx_m98, 2, 1, 26, 0),
  (rx_m99, 6, 0, 0, 0),
  (rx_m100, 3, 0, 0, 0),
  (rx_m101, 2, 18, 462, 0),
  (rx_m102, 1, 2, 128, 0),
  (rx_m103, 1, 2, 90, 0),
  (rx_m104, 2, 50, 14622, 0),
  (rx_m105, 2, 0, 0, 2),
  (rx_m106, 3, 0, 0, 1),
  (rx_m107, 3, 0, 0, 1),
  (rx_m108, 3, 0, 0, 1),
  (rx_m109, 3, 0, 0, 1),
  (rx_m110, 5, 0, 0, 1),
  (rx_m111, 5, 0, 0, 1),
  (rx_m112, 7, 0, 0, 1),
  (rx_m113, 3, 0, 0, 1),
  (rx_m114, 4, 0, 0, 1),
  (rx_m115, 4, 0, 0, 1),
  (rx_m116, 5, 0, 0, 1),
  (rx_m117, 5, 0, 0, 1),
  (rx_m118, 3, 0, 0, 2),
  (rx_m119, 3, 0, 0, 2),
  (rx_m120, 4, 0, 0, 2),
  (rx_m121, 2, 0, 0, 2),
  (rx_m122, 4, 0, 0, 1),
  (rx_m123, 2, 0, 0, 1),
  (rx_m124, 1, 0, 0, 1),
  (rx_m125, 4, 0, 0, 1),
  (rx_m126, 3, 0, 0, 1),
  (rx_m127, 3, 0, 0, 1),
  (rx_m128, 3, 0, 0, 1),
  (rx_m129, 3, 0, 0, 1),
  (rx_m130, 4, 0, 0, 1),
  (rx_m131, 3, 0, 0, 1),
  (rx_m132, 3, 0, 0, 2),
  (rx_m133, 3, 0, 0, 2),
  (rx_m134, 4, 0, 0, 2),
  (rx_m135, 2, 0, 0, 2),
  (rx_m136, 3, 0, 0, 1),
  (rx_m137, 2, 0, 0, 1),
  (rx_m138, 6, 0, 0, 1),
  (rx_m139, 6, 0, 0, 1),
  (rx_m140, 3, 0, 0, 1),
  (rx_m141, 3, 0, 0, 2),
  (rx_m142, 1, 0, 0, 0),
  (rx_m143, 3, 0, 0, 0),
  (rx_m144, 1, 0, 0, 2),
  (rx_m145, 2, 0, 0, 0),
  (rx_m146, 1, 0, 0, 0),
  (rx_m147, 1, 0, 0, 0),
  (rx_m148, 2, 0, 0, 1),
  (rx_m149, 6, 0, 0, 0),
  (rx_m150, 2, 0, 0, 0),
  (rx_m151, 3, 0, 0, 1),
  (rx_m152, 4, 0, 0, 1),
  (rx_m153, 3, 0, 0, 1),
  (rx_m154, 1, 0, 0, 1),
  (rx_m155, 5, 0, 0, 2),
  (rx_m156, 2, 0, 0, 1),
  (rx_m157, 2, 0, 0, 2),
  (rx_m158, 3, 0, 0, 2),
  (rx_m159, 3, 0, 0, 1),
  (rx_m160, 2, 0, 0, 2),
  (rx_m161, 2, 0, 0, 1),
  (rx_m162, 4, 0, 0, 2),
  (rx_m163, 2, 0, 0, 1),
  (rx_m164, 4, 0, 0, 1),
  (rx_m165, 1, 0, 0, 2),
  (rx_m166, 1, 0, 0, 2),
  (rx_m167, 1, 0, 0, 2),
  (rx_m168, 2, 0, 0, 2),
  (rx_m169, 1, 0, 0, 2),
  (rx_m170, 1, 0, 0, 1),
  (rx_m171, 4, 0, 0, 0),
  (rx_m172, 4, 0, 0, 1),
  (rx_m173, 3, 0, 0, 1),
  (rx_m174, 2, 0, 0, 2),
  (rx_m175, 6, 0, 0, 2),
  (rx_m176, 2, 0, 0, 2),
  (rx_m177, 6, 0, 0, 2)]
def rx_dfs : List (List rx_V) := [[.inr (.inr (.inl none)), .inl (.inl 0)],
  [.inr (.inr (.inl none)), .inr (.inr (.inl none)), .inr (.inr (.inl none)), .inr (.inr (.inl none)), .inr (.inr (.inl none)), .inl (.inl 0), .inl (.inl 0), .inr (.inl (.inl 0))],
  [.inr (.inr (.inl none)), .inr (.inr (.inl none)), .inr (.inr (.inl none)), .inr (.inr (.inl none)), .inr (.inr (.inl none)), .inr (.inr (.inl none)), .inr (.inr (.inl none)), .inr (.inr (.inl none)), .inr (.inr (.inl none)), .inr (.inr (.inl none)), .inr (.inr (.inl none)), .inl (.inl 0), .inl (.inl 0), .inl (.inl 0), .inl (.inl 0), .inl (.inl 0)],
  [.inr (.inr (.inl none)), .inr (.inr (.inl none)), .inr (.inr (.inl none)), .inr (.inr (.inl none)), .inl (.inl 0), .inl (.inl 0)],
  [.inr (.inr (.inl none)), .inr (.inr (.inl none)), .inl (.inl 0), .inl (.inl 0), .inl (.inl 0)],
  [.inr (.inr (.inl none)), .inr (.inr (.inl none)), .inl (.inl 0)],
  [.inl (.inl 0), .inl (.inl 0), .inr (.inr (.inl none)), .inr (.inr (.inl none)), .inl (.inl 0)],
  [.inr (.inr (.inl none)), .inr (.inr (.inl none))],
  [.inl (.inl 0), .inl (.inl 0), .inr (.inr (.inl none)), .inl (.inl 0), .inr (.inr (.inl none)), .inr (.inr (.inl none)), .inr (.inr (.inl none)), .inr (.inr (.inl none)), .inl (.inl 0), .inr (.inr (.inl none)), .inr (.inr (.inl none)), .inr (.inr (.inl none)), .inr (.inr (.inl none)), .inl (.inl 0), .inl (.inl 0), .inr (.inr (.inl none)), .inl (.inl 0), .inl (.inl 0), .inl (.inl 0)],
  [.inr (.inr (.inl none)), .inr (.inr (.inl none))],
  [.inr (.inr (.inl none)), .inr (.inr (.inl none)), .inl (.inl 0), .inl (.inl 0), .inl (.inl 0), .inl (.inl 0), .inl (.inl 0)],
  [.inr (.inr (.inl none)), .inr (.inr (.inl none)), .inr (.inr (.inl none)), .inr (.inr (.inl none)), .inr (.inr (.inl none)), .inr (.inr (.inl none)), .inr (.inr (.inl none)), .inr (.inr (.inl none)), .inr (.inr (.inl none)), .inr (.inr (.inl none)), .inl (.inl 0), .inl (.inl 0), .inl (.inl 0)],
  [.inr (.inr (.inl none)), .inl (.inl 0), .inl (.inl 0), .inl (.inl 0), .inl (.inl 0), .inl (.inl 0), .inl (.inl 0), .inr (.inl (.inl 0)), .inl (.inl 0), .inl (.inl 0), .inl (.inl 0), .inl (.inl 0), .inl (.inl 0), .inl (.inl 0), .inr (.inr (.inl none)), .inr (.inr (.inl none)), .inr (.inr (.inl none)), .inr (.inr (.inl none)), .inr (.inr (.inl none)), .inr (.inr (.inl none)), .inr (.inr (.inl none)), .inr (.inr (.inl none)), .inr (.inr (.inl none)), .inr (.inr (.inl none)), .inr (.inr (.inl none)), .inr (.inr (.inl none)), .inr (.inr (.inl none)), .inr (.inr (.inl none)), .inr (.inr (.inl none)), .inr (.inr (.inl none)), .inr (.inr (.inl none)), .inr (.inr (.inl none)), .inr (.inr (.inl none)), .inr (.inr (.inl none)), .inl (.inl 0), .inl (.inl 0), .inl (.inl 0), .inr (.inr (.inl none)), .inr (.inr (.inl none)), .inr (.inr (.inl none)), .inr (.inr (.inl none)), .inr (.inr (.inl none)), .inl (.inl 0), .inl (.inl 0), .inr (.inr (.inl none)), .inl (.inl 0), .inl (.inl 0), .inr (.inr (.inl none)), .inr (.inr (.inl none)), .inr (.inr (.inl none)), .inr (.inr (.inl none)), .inr (.inr (.inl none)), .inr (.inr (.inl none)), .inr (.inr (.inl none)), .inr (.inr (.inl none)), .inr (.inr (.inl none)), .inl (.inl 0), .inl (.inl 0), .inr (.inl (.inl 0)), .inr (.inr (.inl none)), .inr (.inr (.inl none)), .inr (.inr (.inl none)), .inl (.inl 0), .inr (.inr (.inl none)), .inr (.inr (.inl none)), .inr (.inr (.inl none)), .inr (.inr (.inl none)), .inl (.inl 0), .inl (.inl 0), .inr (.inr (.inl none)), .inr (.inr (.inl none)), .inl (.inl 0), .inr (.inr (.inl none)), .inr (.inr (.inl none)), .inr (.inr (.inl none)), .inr (.inr (.inl none)), .inr (.inr (.inl none)), .inl (.inl 0)]]
def rx_txt : List Nat := [112, 108, 97, 99, 101, 32, 115, 116, 114, 101, 101, 116, 32, 116, 111, 32, 112, 97, 99, 101, 115, 32, 115, 116, 101, 112, 32, 102, 111, 114, 32, 116, 104, 105, 110, 103, 32, 97, 116, 32, 112, 117, 108, 108, 32, 115, 116, 97, 110, 100, 115, 32, 99, 108, 101, 118, 101, 114, 32, 104, 101, 97, 116, 32, 104, 111, 116, 32, 121, 101, 97, 114, 32, 116, 111, 108, 100, 32, 98, 101, 101, 110, 32, 115, 116, 101, 112, 115, 32, 116, 105, 109, 101, 32, 108, 111, 111, 112, 115, 32, 105, 102, 32, 111, 114, 32, 97, 110, 100, 32, 110, 111, 116, 32, 97, 108, 108, 32, 109, 105, 110, 32, 109, 97, 120]
end
section
/-! printed by wip/p1/tables.py: the tables are what they must be -/
def rx_mis : List rx_Y := [(yX12_between, cX12_between, 4, (some .int)),
  (yJ0_length_8abf5, cJ0_length_8abf5, 1, (some .int)),
  (yJ0_coder_7d493, cJ0_coder_7d493, 1, (some .byte)),
  (yJ0_charAt_5068e, cJ0_charAt_5068e, 2, (some .char)),
  (yJ0_isLatin1_aae02, cJ0_isLatin1_aae02, 1, (some .boolean)),
  (yJ1_charAt_3b067, cJ1_charAt_3b067, 2, (some .char)),
  (yJ0_checkIndex_df160, cJ0_checkIndex_df160, 2, none),
  (yJ3_checkIndex_8e157, cJ3_checkIndex_8e157, 3, (some .int)),
  (yX12_is, cX12_is, 3, (some .boolean)),
  (yX10_letterNumber, cX10_letterNumber, 1, (some .int)),
  (yX2_go, cX2_go, 3, none),
  (yX2_goRound, cX2_goRound, 4, none),
  (yX12_heatNow, cX12_heatNow, 1, (some .int)),
  (yX12_runs, cX12_runs, 6, none),
  (yX12_walks, cX12_walks, 8, none),
  (yX12_measures, cX12_measures, 6, none),
  (yJ9_min_7cf53, cJ9_min_7cf53, 2, (some .int)),
  (yX2_pass, cX2_pass, 1, none),
  (yX8_hasClever, cX8_hasClever, 1, (some .boolean)),
  (yX12_passes, cX12_passes, 4, none),
  (yX12_writesDown, cX12_writesDown, 3, none),
  (yX12_isClever, cX12_isClever, 3, (some .boolean)),
  (yX12_isTold, cX12_isTold, 2, (some .boolean)),
  (yJ7_fill_53178, cJ7_fill_53178, 4, none),
  (yX11_filling, cX11_filling, 3, (some .int)),
  (yX1_countRoutes, cX1_countRoutes, 7, (some .long)),
  (yX1_openPlaces, cX1_openPlaces, 5, none),
  (yX11_passOneYear, cX11_passOneYear, 2, none),
  (yX3_keep, cX3_keep, 4, none),
  (yJ9_floorMod_7cf53, cJ9_floorMod_7cf53, 3, (some .int)),
  (yX12_filling, cX12_filling, 6, (some .int)),
  (yX10_filledUp, cX10_filledUp, 2, (some .int)),
  (yX5_init, cX5_init, 1, none),
  (yX6_init, cX6_init, 1, none),
  (yX1_sumOf, cX1_sumOf, 6, (some .long)),
  (yX12_fills, cX12_fills, 7, (some .long)),
  (yX5_copy, cX5_copy, 2, none),
  (yX11_asked, cX11_asked, 3, (some .int)),
  (yX11_filled, cX11_filled, 2, (some .int)),
  (yX11_draw, cX11_draw, 2, (some .int)),
  (yX12_draw, cX12_draw, 2, (some .int)),
  (yX2_gatherPulls, cX2_gatherPulls, 4, none),
  (yX2_begin, cX2_begin, 3, none),
  (yX2_beginRoute, cX2_beginRoute, 4, none),
  (yX11_letter, cX11_letter, 4, (some .int)),
  (yX11_goThisYear, cX11_goThisYear, 1, none),
  (yX12_letter, cX12_letter, 9, (some .int)),
  (yX0_put, cX0_put, 2, none),
  (yX12_asked, cX12_asked, 12, (some .int)),
  (yX11_has, cX11_has, 2, (some .int)),
  (yX12_filled, cX12_filled, 2, (some .int)),
  (yX1_capped, cX1_capped, 2, (some .int)),
  (yJ9_min_f86c9, cJ9_min_f86c9, 4, (some .long)),
  (yX12_cut, cX12_cut, 2, (some .int)),
  (yX1_placeOfFirst, cX1_placeOfFirst, 6, (some .int)),
  (yX12_manyOf, cX12_manyOf, 3, (some .int)),
  (yX11_isPlace, cX11_isPlace, 2, (some .boolean)),
  (yX11_status, cX11_status, 2, (some .int)),
  (yX12_refuses, cX12_refuses, 2, (some .int)),
  (yX12_isAhead, cX12_isAhead, 4, (some .boolean)),
  (yX12_copies, cX12_copies, 4, none),
  (yX11_deny, cX11_deny, 2, (some .boolean)),
  (yX12_has, cX12_has, 2, (some .int)),
  (yX11_year, cX11_year, 2, (some .int)),
  (yX11_goes, cX11_goes, 3, (some .int)),
  (yX12_goes, cX12_goes, 3, (some .int)),
  (yX11_isThing, cX11_isThing, 2, (some .boolean)),
  (yX12_isPlace, cX12_isPlace, 2, (some .boolean)),
  (yX12_status, cX12_status, 2, (some .int)),
  (yX8_clear, cX8_clear, 1, none),
  (yX5_cutTo, cX5_cutTo, 2, none),
  (yX11_fault, cX11_fault, 2, (some .int)),
  (yX0_at, cX0_at, 2, (some .int)),
  (yX0_init, cX0_init, 2, none),
  (yJ9_max_7cf53, cJ9_max_7cf53, 2, (some .int)),
  (yX8_init, cX8_init, 1, none),
  (yX11_isStreet, cX11_isStreet, 2, (some .boolean)),
  (yX12_year, cX12_year, 4, (some .int)),
  (yX11_later, cX11_later, 4, (some .int)),
  (yX12_later, cX12_later, 4, (some .int)),
  (yX11_canPass, cX11_canPass, 2, (some .boolean)),
  (yX3_remember, cX3_remember, 2, none),
  (yX6_copy, cX6_copy, 2, none),
  (yX2_leaveIn, cX2_leaveIn, 2, none),
  (yX12_keeps, cX12_keeps, 1, none),
  (yX12_slot, cX12_slot, 2, (some .int)),
  (yX0_putNumber, cX0_putNumber, 2, none),
  (yX12_put, cX12_put, 3, none),
  (yX11_end, cX11_end, 2, (some .boolean)),
  (yX0_cut, cX0_cut, 2, none),
  (yX11_away, cX11_away, 5, (some .int)),
  (yX11_seats, cX11_seats, 5, (some .int)),
  (yX12_fault, cX12_fault, 2, (some .int)),
  (yX11_toldAsKept, cX11_toldAsKept, 1, (some .int)),
  (yX12_writes, cX12_writes, 2, none),
  (yX11_init, cX11_init, 1, none),
  (yX3_init, cX3_init, 2, none),
  (yX1_init, cX1_init, 1, none),
  (yX10_init, cX10_init, 2, none),
  (yX10_packOwnWords, cX10_packOwnWords, 6, none),
  (yX4_init, cX4_init, 3, none),
  (yX2_init, cX2_init, 2, none),
  (yX9_init, cX9_init, 1, none),
  (yX7_init, cX7_init, 1, none),
  (yX12_init, cX12_init, 2, none),
  (yX12_end, cX12_end, 2, (some .boolean)),
  (yX11_street, cX11_street, 3, (some .int)),
  (yX11_way, cX11_way, 3, (some .int)),
  (yX11_thing, cX11_thing, 3, (some .int)),
  (yX11_step, cX11_step, 3, (some .int)),
  (yX12_away, cX12_away, 5, (some .int)),
  (yX11_by, cX11_by, 5, (some .int)),
  (yX12_seats, cX12_seats, 7, (some .int)),
  (yX11_missed, cX11_missed, 3, (some .int)),
  (yX11_years, cX11_years, 4, (some .int)),
  (yX12_years, cX12_years, 4, (some .int)),
  (yX11_chance, cX11_chance, 5, (some .int)),
  (yX12_chance, cX12_chance, 5, (some .int)),
  (yX11_shut, cX11_shut, 3, (some .boolean)),
  (yX11_move, cX11_move, 3, (some .boolean)),
  (yX11_teach, cX11_teach, 4, (some .boolean)),
  (yX11_seed, cX11_seed, 2, (some .boolean)),
  (yX11_kept, cX11_kept, 4, (some .int)),
  (yX11_octet, cX11_octet, 2, (some .int)),
  (yJ6_bitCount_0f7a4, cJ6_bitCount_0f7a4, 1, (some .int)),
  (yX12_street, cX12_street, 4, (some .int)),
  (yX12_way, cX12_way, 3, (some .int)),
  (yX12_thing, cX12_thing, 3, (some .int)),
  (yX12_step, cX12_step, 3, (some .int)),
  (yX12_longest, cX12_longest, 3, (some .int)),
  (yX12_by, cX12_by, 4, (some .int)),
  (yX12_missed, cX12_missed, 3, (some .int)),
  (yX12_shut, cX12_shut, 3, (some .boolean)),
  (yX12_move, cX12_move, 3, (some .boolean)),
  (yX12_teach, cX12_teach, 4, (some .boolean)),
  (yX12_seed, cX12_seed, 2, (some .boolean)),
  (yX12_kept, cX12_kept, 3, (some .int)),
  (yX12_octet, cX12_octet, 2, (some .int)),
  (yX11_feed, cX11_feed, 6, (some .int)),
  (yX12_feed, cX12_feed, 6, (some .int)),
  (yX11_town, cX11_town, 3, (some .int)),
  (yX4_read, cX4_read, 3, (some .boolean)),
  (yX10_rewind, cX10_rewind, 1, none),
  (yX10_advance, cX10_advance, 3, none),
  (yX10_isWordOrNumber, cX10_isWordOrNumber, 1, (some .boolean)),
  (yX6_beginIn, cX6_beginIn, 2, none),
  (yX3_forgetActs, cX3_forgetActs, 1, none),
  (yX1_clear, cX1_clear, 1, none),
  (yX12_town, cX12_town, 2, (some .int)),
  (yX12_ahead, cX12_ahead, 6, none),
  (yX12_begin, cX12_begin, 2, none),
  (yX12_bits, cX12_bits, 3, (some .int)),
  (yX12_pairs, cX12_pairs, 4, (some .int)),
  (yX11_wall, cX11_wall, 3, (some .int)),
  (yX12_wall, cX12_wall, 1, (some .int)),
  (yX2_standsWithin, cX2_standsWithin, 5, (some .boolean)),
  (yX11_held, cX11_held, 2, (some .int)),
  (yX2_leavesRoute, cX2_leavesRoute, 2, (some .boolean)),
  (yX5_isLike, cX5_isLike, 3, (some .boolean)),
  (yX12_held, cX12_held, 3, (some .int)),
  (yX12_isAsWas, cX12_isAsWas, 2, (some .boolean)),
  (yX11_half, cX11_half, 2, (some .int)),
  (yX1_fits, cX1_fits, 4, (some .boolean)),
  (yX11_refuse, cX11_refuse, 2, (some .int)),
  (yX12_half, cX12_half, 4, (some .int)),
  (yX11_forget, cX11_forget, 1, (some .boolean)),
  (yX12_forget, cX12_forget, 1, (some .boolean)),
  (yX11_undo, cX11_undo, 1, (some .boolean)),
  (yX3_takeBack, cX3_takeBack, 2, (some .boolean)),
  (yX12_undo, cX12_undo, 1, (some .boolean)),
  (yX11_image, cX11_image, 1, (some .int)),
  (yX6_write, cX6_write, 4, none),
  (yX6_checkByte, cX6_checkByte, 4, (some .int)),
  (yX12_image, cX12_image, 3, (some .int)),
  (yX11_on, cX11_on, 2, (some .boolean)),
  (yX6_isImage, cX6_isImage, 6, (some .boolean)),
  (yX12_on, cX12_on, 2, (some .boolean)),
  (yX12_comesOn, cX12_comesOn, 6, (some .boolean))]
def rx_cps : List Nat := [1954, 579, 583, 589, 593, 596, 599, 604, 1961, 626, 1213, 1217, 2112, 2116, 2120, 2095, 1133, 1342, 1084, 2200, 2204, 2208, 2136, 446, 1415, 1388, 1392, 1460, 1464, 1291, 2249, 629, 317, 311, 1404, 2236, 1103, 1428, 1384, 1477, 2269, 1208, 1198, 1202, 1137, 1194, 2078, 843, 2253, 1120, 2232, 1407, 1411, 2243, 1419, 1931, 1141, 1577, 1843, 2196, 2067, 851, 2071, 1190, 1298, 2164, 1148, 2091, 2055, 443, 450, 1116, 880, 290, 294, 436, 1156, 2108, 1338, 2192, 1447, 1451, 1455, 1469, 2261, 2063, 839, 1847, 847, 855, 1306, 1326, 2051, 1130, 2321, 282, 372, 401, 569, 574, 658, 682, 690, 703, 1582, 1851, 1152, 1160, 1182, 1186, 2176, 1314, 2188, 1351, 1443, 2257, 1473, 2265, 1484, 1488, 1492, 1511, 1515, 1552, 1123, 2083, 2087, 2100, 2104, 2172, 2180, 2216, 2277, 2281, 2285, 2309, 2313, 2325, 831, 1839, 859, 863, 868, 872, 876, 1096, 1108, 1112, 1855, 1859, 2031, 2074, 2160, 1302, 2168, 1310, 1356, 1360, 1366, 2220, 2224, 1370, 1374, 835, 2228, 1498, 2305, 1503, 1507, 2059, 1539, 1543, 1547, 2317, 1557, 1560, 2329, 2333]
def rx_tkb (x : List rx_E × Nat × Nat × Nat × Nat) (Y : rx_Y) (p : Nat) : Bool := Nat.beq Y.2.2.1 x.2.1 && (rx_rk x.2.2.2.2 Y.2.2.2 && (rx_wd p (.code Y.1 Y.2.1 Y.2.2.1 Y.2.2.2) && (plainFor Y.1 && (rx_seq x.1 && (match x.1 with
  | e :: _ => Nat.beq e.1 0
  | [] => false)))))
theorem rx_tkb_ok {mi : List rx_Y} {x : List rx_E × Nat × Nat × Nat × Nat} {Y : rx_Y} {p : Nat} (h : rx_tkb x Y p = true) (h5 : x.1.all (rx_okb mi Y.1.cls Y.1.name Y.2.1) = true) : rx_tOk mi x Y := by
  obtain ⟨h1, h⟩ := rx_an h
  obtain ⟨h2, h⟩ := rx_an h
  obtain ⟨h3, h⟩ := rx_an h
  obtain ⟨h4, h⟩ := rx_an h
  obtain ⟨h6, h⟩ := rx_an h
  refine ⟨rx_bq h1, h2, rx_wd_ok h3, h4, h5, h6, ?_⟩
  cases hx : x.1 with
  | nil => rw [hx] at h; cases h
  | cons e rest => rw [hx] at h; exact ⟨e, rest, rfl, rx_bq h⟩
def rx_x0 : List rx_E × Nat × Nat × Nat × Nat := ([], 0, 0, 0, 0)
def rx_y0 : rx_Y := (⟨"", "", ""⟩, ⟨#[]⟩, 0, none)
def rx_tkn (nu : Nat) : Bool := rx_tkb (rx_tb.getD nu rx_x0) (rx_mis.getD nu rx_y0) (rx_cps.getD nu 0)
def rx_okn (nu a n : Nat) : Bool := (((rx_tb.getD nu rx_x0).1.drop a).take n).all (rx_okb rx_mis (rx_mis.getD nu rx_y0).1.cls (rx_mis.getD nu rx_y0).1.name (rx_mis.getD nu rx_y0).2.1)
theorem rx_okn_ok {nu n : Nat} (hn : 0 < n) : ∀ (k a : Nat), (rx_tb.getD nu rx_x0).1.length ≤ a + k * n → (∀ j, j < k → rx_okn nu (a + j * n) n = true) → ((rx_tb.getD nu rx_x0).1.drop a).all (rx_okb rx_mis (rx_mis.getD nu rx_y0).1.cls (rx_mis.getD nu rx_y0).1.name (rx_mis.getD nu rx_y0).2.1) = true := by
  intro k
  induction k with
  | zero =>
    intro a hl _
    rw [List.drop_eq_nil_of_le (by omega)]
    rfl
  | succ k ih =>
    intro a hl hj
    have h1 := hj 0 (by omega)
    have h2 := ih (a + n) (by rw [Nat.succ_mul] at hl; omega) (fun j hjk => by
      have h3 := hj (j + 1) (by omega)
      rw [Nat.succ_mul, show a + (j * n + n) = a + n + j * n by omega] at h3
      exact h3)
    rw [Nat.zero_mul, Nat.add_zero] at h1
    rw [← List.take_append_drop n ((rx_tb.getD nu rx_x0).1.drop a), List.all_append, List.drop_drop, h2]
    unfold rx_okn at h1
    rw [h1]
    rfl
end
section
/-! printed by wip/p1/tables.py -/
set_option maxRecDepth 100000 in
theorem rx_cg0 : ([(0, 0), (1, 0), (2, 0), (3, 0), (4, 0), (5, 0), (6, 0), (7, 0), (8, 0), (9, 0)] : List (Nat × Nat)).all (fun z => rx_okn z.1 (0 + z.2 * 100) 100) = true := by decide +kernel
set_option maxRecDepth 100000 in
theorem rx_cg1 : ([(10, 0), (10, 1)] : List (Nat × Nat)).all (fun z => rx_okn z.1 (0 + z.2 * 100) 100) = true := by decide +kernel
set_option maxRecDepth 100000 in
theorem rx_cg2 : ([(11, 0), (12, 0)] : List (Nat × Nat)).all (fun z => rx_okn z.1 (0 + z.2 * 100) 100) = true := by decide +kernel
set_option maxRecDepth 100000 in
theorem rx_cg3 : ([(13, 0)] : List (Nat × Nat)).all (fun z => rx_okn z.1 (0 + z.2 * 100) 100) = true := by decide +kernel
set_option maxRecDepth 100000 in
theorem rx_cg4 : ([(14, 0), (14, 1)] : List (Nat × Nat)).all (fun z => rx_okn z.1 (0 + z.2 * 100) 100) = true := by decide +kernel
set_option maxRecDepth 100000 in
theorem rx_cg5 : ([(15, 0), (15, 1), (16, 0)] : List (Nat × Nat)).all (fun z => rx_okn z.1 (0 + z.2 * 100) 100) = true := by decide +kernel
set_option maxRecDepth 100000 in
theorem rx_cg6 : ([(17, 0), (18, 0), (19, 0)] : List (Nat × Nat)).all (fun z => rx_okn z.1 (0 + z.2 * 100) 100) = true := by decide +kernel
set_option maxRecDepth 100000 in
theorem rx_cg7 : ([(20, 0), (21, 0)] : List (Nat × Nat)).all (fun z => rx_okn z.1 (0 + z.2 * 100) 100) = true := by decide +kernel
end
section
/-! printed by wip/p1/tables.py -/
set_option maxRecDepth 100000 in
theorem rx_cg8 : ([(22, 0), (23, 0), (24, 0), (25, 0)] : List (Nat × Nat)).all (fun z => rx_okn z.1 (0 + z.2 * 100) 100) = true := by decide +kernel
set_option maxRecDepth 100000 in
theorem rx_cg9 : ([(26, 0), (27, 0), (28, 0), (29, 0)] : List (Nat × Nat)).all (fun z => rx_okn z.1 (0 + z.2 * 100) 100) = true := by decide +kernel
set_option maxRecDepth 100000 in
theorem rx_cg10 : ([(30, 0), (31, 0), (32, 0), (33, 0), (34, 0)] : List (Nat × Nat)).all (fun z => rx_okn z.1 (0 + z.2 * 100) 100) = true := by decide +kernel
set_option maxRecDepth 100000 in
theorem rx_cg11 : ([(35, 0)] : List (Nat × Nat)).all (fun z => rx_okn z.1 (0 + z.2 * 100) 100) = true := by decide +kernel
set_option maxRecDepth 100000 in
theorem rx_cg12 : ([(35, 1), (36, 0)] : List (Nat × Nat)).all (fun z => rx_okn z.1 (0 + z.2 * 100) 100) = true := by decide +kernel
set_option maxRecDepth 100000 in
theorem rx_cg13 : ([(37, 0), (38, 0), (39, 0), (40, 0), (41, 0)] : List (Nat × Nat)).all (fun z => rx_okn z.1 (0 + z.2 * 100) 100) = true := by decide +kernel
set_option maxRecDepth 100000 in
theorem rx_cg14 : ([(42, 0), (43, 0), (44, 0), (45, 0)] : List (Nat × Nat)).all (fun z => rx_okn z.1 (0 + z.2 * 100) 100) = true := by decide +kernel
set_option maxRecDepth 100000 in
theorem rx_cg15 : ([(46, 0), (47, 0)] : List (Nat × Nat)).all (fun z => rx_okn z.1 (0 + z.2 * 100) 100) = true := by decide +kernel
end
section
/-! printed by wip/p1/tables.py -/
set_option maxRecDepth 100000 in
theorem rx_cg16 : ([(48, 0), (49, 0)] : List (Nat × Nat)).all (fun z => rx_okn z.1 (0 + z.2 * 100) 100) = true := by decide +kernel
set_option maxRecDepth 100000 in
theorem rx_cg17 : ([(50, 0), (51, 0), (52, 0), (53, 0), (54, 0), (55, 0), (56, 0), (57, 0), (58, 0), (59, 0)] : List (Nat × Nat)).all (fun z => rx_okn z.1 (0 + z.2 * 100) 100) = true := by decide +kernel
set_option maxRecDepth 100000 in
theorem rx_cg18 : ([(60, 0), (60, 1), (61, 0)] : List (Nat × Nat)).all (fun z => rx_okn z.1 (0 + z.2 * 100) 100) = true := by decide +kernel
set_option maxRecDepth 100000 in
theorem rx_cg19 : ([(62, 0), (63, 0), (64, 0)] : List (Nat × Nat)).all (fun z => rx_okn z.1 (0 + z.2 * 100) 100) = true := by decide +kernel
set_option maxRecDepth 100000 in
theorem rx_cg20 : ([(65, 0), (66, 0), (67, 0), (68, 0), (69, 0), (70, 0), (71, 0)] : List (Nat × Nat)).all (fun z => rx_okn z.1 (0 + z.2 * 100) 100) = true := by decide +kernel
set_option maxRecDepth 100000 in
theorem rx_cg21 : ([(72, 0), (73, 0), (74, 0), (75, 0), (76, 0)] : List (Nat × Nat)).all (fun z => rx_okn z.1 (0 + z.2 * 100) 100) = true := by decide +kernel
set_option maxRecDepth 100000 in
theorem rx_cg22 : ([(77, 0), (78, 0), (79, 0)] : List (Nat × Nat)).all (fun z => rx_okn z.1 (0 + z.2 * 100) 100) = true := by decide +kernel
set_option maxRecDepth 100000 in
theorem rx_cg23 : ([(80, 0), (81, 0), (82, 0), (83, 0), (84, 0), (85, 0), (86, 0)] : List (Nat × Nat)).all (fun z => rx_okn z.1 (0 + z.2 * 100) 100) = true := by decide +kernel
end
section
/-! printed by wip/p1/tables.py -/
set_option maxRecDepth 100000 in
theorem rx_cg24 : ([(87, 0), (88, 0), (89, 0), (90, 0)] : List (Nat × Nat)).all (fun z => rx_okn z.1 (0 + z.2 * 100) 100) = true := by decide +kernel
set_option maxRecDepth 100000 in
theorem rx_cg25 : ([(91, 0), (92, 0), (93, 0), (94, 0)] : List (Nat × Nat)).all (fun z => rx_okn z.1 (0 + z.2 * 100) 100) = true := by decide +kernel
set_option maxRecDepth 100000 in
theorem rx_cg26 : ([(95, 0), (96, 0)] : List (Nat × Nat)).all (fun z => rx_okn z.1 (0 + z.2 * 100) 100) = true := by decide +kernel
set_option maxRecDepth 100000 in
theorem rx_cg27 : ([(97, 0), (98, 0), (99, 0), (100, 0)] : List (Nat × Nat)).all (fun z => rx_okn z.1 (0 + z.2 * 100) 100) = true := by decide +kernel
set_option maxRecDepth 100000 in
theorem rx_cg28 : ([(101, 0), (102, 0), (103, 0)] : List (Nat × Nat)).all (fun z => rx_okn z.1 (0 + z.2 * 100) 100) = true := by decide +kernel
set_option maxRecDepth 100000 in
theorem rx_cg29 : ([(104, 0)] : List (Nat × Nat)).all (fun z => rx_okn z.1 (0 + z.2 * 100) 100) = true := by decide +kernel
set_option maxRecDepth 100000 in
theorem rx_cg30 : ([(104, 1)] : List (Nat × Nat)).all (fun z => rx_okn z.1 (0 + z.2 * 100) 100) = true := by decide +kernel
set_option maxRecDepth 100000 in
theorem rx_cg31 : ([(104, 2), (104, 3), (105, 0)] : List (Nat × Nat)).all (fun z => rx_okn z.1 (0 + z.2 * 100) 100) = true := by decide +kernel
end
section
/-! printed by wip/p1/tables.py -/
set_option maxRecDepth 100000 in
theorem rx_cg32 : ([(106, 0), (107, 0), (108, 0), (109, 0)] : List (Nat × Nat)).all (fun z => rx_okn z.1 (0 + z.2 * 100) 100) = true := by decide +kernel
set_option maxRecDepth 100000 in
theorem rx_cg33 : ([(110, 0), (111, 0)] : List (Nat × Nat)).all (fun z => rx_okn z.1 (0 + z.2 * 100) 100) = true := by decide +kernel
set_option maxRecDepth 100000 in
theorem rx_cg34 : ([(112, 0), (113, 0)] : List (Nat × Nat)).all (fun z => rx_okn z.1 (0 + z.2 * 100) 100) = true := by decide +kernel
set_option maxRecDepth 100000 in
theorem rx_cg35 : ([(114, 0), (115, 0)] : List (Nat × Nat)).all (fun z => rx_okn z.1 (0 + z.2 * 100) 100) = true := by decide +kernel
set_option maxRecDepth 100000 in
theorem rx_cg36 : ([(116, 0), (117, 0)] : List (Nat × Nat)).all (fun z => rx_okn z.1 (0 + z.2 * 100) 100) = true := by decide +kernel
set_option maxRecDepth 100000 in
theorem rx_cg37 : ([(118, 0), (119, 0), (120, 0), (121, 0)] : List (Nat × Nat)).all (fun z => rx_okn z.1 (0 + z.2 * 100) 100) = true := by decide +kernel
set_option maxRecDepth 100000 in
theorem rx_cg38 : ([(122, 0), (123, 0), (124, 0), (125, 0)] : List (Nat × Nat)).all (fun z => rx_okn z.1 (0 + z.2 * 100) 100) = true := by decide +kernel
set_option maxRecDepth 100000 in
theorem rx_cg39 : ([(126, 0), (127, 0), (128, 0), (129, 0)] : List (Nat × Nat)).all (fun z => rx_okn z.1 (0 + z.2 * 100) 100) = true := by decide +kernel
end
section
/-! printed by wip/p1/tables.py -/
set_option maxRecDepth 100000 in
theorem rx_cg40 : ([(130, 0), (131, 0)] : List (Nat × Nat)).all (fun z => rx_okn z.1 (0 + z.2 * 100) 100) = true := by decide +kernel
set_option maxRecDepth 100000 in
theorem rx_cg41 : ([(132, 0), (133, 0)] : List (Nat × Nat)).all (fun z => rx_okn z.1 (0 + z.2 * 100) 100) = true := by decide +kernel
set_option maxRecDepth 100000 in
theorem rx_cg42 : ([(134, 0), (135, 0), (136, 0), (137, 0)] : List (Nat × Nat)).all (fun z => rx_okn z.1 (0 + z.2 * 100) 100) = true := by decide +kernel
set_option maxRecDepth 100000 in
theorem rx_cg43 : ([(138, 0), (139, 0), (140, 0)] : List (Nat × Nat)).all (fun z => rx_okn z.1 (0 + z.2 * 100) 100) = true := by decide +kernel
set_option maxRecDepth 100000 in
theorem rx_cg44 : ([(141, 0), (142, 0)] : List (Nat × Nat)).all (fun z => rx_okn z.1 (0 + z.2 * 100) 100) = true := by decide +kernel
set_option maxRecDepth 100000 in
theorem rx_cg45 : ([(143, 0), (144, 0), (145, 0)] : List (Nat × Nat)).all (fun z => rx_okn z.1 (0 + z.2 * 100) 100) = true := by decide +kernel
set_option maxRecDepth 100000 in
theorem rx_cg46 : ([(146, 0), (147, 0), (148, 0)] : List (Nat × Nat)).all (fun z => rx_okn z.1 (0 + z.2 * 100) 100) = true := by decide +kernel
set_option maxRecDepth 100000 in
theorem rx_cg47 : ([(148, 1), (149, 0)] : List (Nat × Nat)).all (fun z => rx_okn z.1 (0 + z.2 * 100) 100) = true := by decide +kernel
end
section
/-! printed by wip/p1/tables.py -/
set_option maxRecDepth 100000 in
theorem rx_cg48 : ([(149, 1)] : List (Nat × Nat)).all (fun z => rx_okn z.1 (0 + z.2 * 100) 100) = true := by decide +kernel
set_option maxRecDepth 100000 in
theorem rx_cg49 : ([(150, 0), (151, 0), (152, 0)] : List (Nat × Nat)).all (fun z => rx_okn z.1 (0 + z.2 * 100) 100) = true := by decide +kernel
set_option maxRecDepth 100000 in
theorem rx_cg50 : ([(153, 0), (154, 0), (155, 0), (156, 0), (157, 0)] : List (Nat × Nat)).all (fun z => rx_okn z.1 (0 + z.2 * 100) 100) = true := by decide +kernel
set_option maxRecDepth 100000 in
theorem rx_cg51 : ([(158, 0), (159, 0), (160, 0)] : List (Nat × Nat)).all (fun z => rx_okn z.1 (0 + z.2 * 100) 100) = true := by decide +kernel
set_option maxRecDepth 100000 in
theorem rx_cg52 : ([(161, 0), (162, 0), (163, 0)] : List (Nat × Nat)).all (fun z => rx_okn z.1 (0 + z.2 * 100) 100) = true := by decide +kernel
set_option maxRecDepth 100000 in
theorem rx_cg53 : ([(164, 0), (165, 0)] : List (Nat × Nat)).all (fun z => rx_okn z.1 (0 + z.2 * 100) 100) = true := by decide +kernel
set_option maxRecDepth 100000 in
theorem rx_cg54 : ([(166, 0), (167, 0), (168, 0), (169, 0), (170, 0)] : List (Nat × Nat)).all (fun z => rx_okn z.1 (0 + z.2 * 100) 100) = true := by decide +kernel
set_option maxRecDepth 100000 in
theorem rx_cg55 : ([(171, 0), (172, 0)] : List (Nat × Nat)).all (fun z => rx_okn z.1 (0 + z.2 * 100) 100) = true := by decide +kernel
end
section
/-! printed by wip/p1/tables.py -/
set_option maxRecDepth 100000 in
theorem rx_cg56 : ([(173, 0), (173, 1)] : List (Nat × Nat)).all (fun z => rx_okn z.1 (0 + z.2 * 100) 100) = true := by decide +kernel
set_option maxRecDepth 100000 in
theorem rx_cg57 : ([(174, 0), (175, 0)] : List (Nat × Nat)).all (fun z => rx_okn z.1 (0 + z.2 * 100) 100) = true := by decide +kernel
set_option maxRecDepth 100000 in
theorem rx_cg58 : ([(176, 0), (177, 0)] : List (Nat × Nat)).all (fun z => rx_okn z.1 (0 + z.2 * 100) 100) = true := by decide +kernel
set_option maxRecDepth 100000 in
theorem rx_cg59 : ([(177, 1), (177, 2)] : List (Nat × Nat)).all (fun z => rx_okn z.1 (0 + z.2 * 100) 100) = true := by decide +kernel
end
section
/-! printed by wip/p1/tables.py -/
set_option maxRecDepth 100000 in
theorem rx_tk0 : (List.range 8).all (fun i => rx_tkn (0 + i)) = true := by decide +kernel
set_option maxRecDepth 100000 in
theorem rx_tk8 : (List.range 8).all (fun i => rx_tkn (8 + i)) = true := by decide +kernel
set_option maxRecDepth 100000 in
theorem rx_tk16 : (List.range 8).all (fun i => rx_tkn (16 + i)) = true := by decide +kernel
set_option maxRecDepth 100000 in
theorem rx_tk24 : (List.range 8).all (fun i => rx_tkn (24 + i)) = true := by decide +kernel
set_option maxRecDepth 100000 in
theorem rx_tk32 : (List.range 8).all (fun i => rx_tkn (32 + i)) = true := by decide +kernel
set_option maxRecDepth 100000 in
theorem rx_tk40 : (List.range 8).all (fun i => rx_tkn (40 + i)) = true := by decide +kernel
end
section
/-! printed by wip/p1/tables.py -/
set_option maxRecDepth 100000 in
theorem rx_tk48 : (List.range 8).all (fun i => rx_tkn (48 + i)) = true := by decide +kernel
set_option maxRecDepth 100000 in
theorem rx_tk56 : (List.range 8).all (fun i => rx_tkn (56 + i)) = true := by decide +kernel
set_option maxRecDepth 100000 in
theorem rx_tk64 : (List.range 8).all (fun i => rx_tkn (64 + i)) = true := by decide +kernel
set_option maxRecDepth 100000 in
theorem rx_tk72 : (List.range 8).all (fun i => rx_tkn (72 + i)) = true := by decide +kernel
set_option maxRecDepth 100000 in
theorem rx_tk80 : (List.range 8).all (fun i => rx_tkn (80 + i)) = true := by decide +kernel
set_option maxRecDepth 100000 in
theorem rx_tk88 : (List.range 8).all (fun i => rx_tkn (88 + i)) = true := by decide +kernel
end
section
/-! printed by wip/p1/tables.py -/
set_option maxRecDepth 100000 in
theorem rx_tk96 : (List.range 8).all (fun i => rx_tkn (96 + i)) = true := by decide +kernel
set_option maxRecDepth 100000 in
theorem rx_tk104 : (List.range 8).all (fun i => rx_tkn (104 + i)) = true := by decide +kernel
set_option maxRecDepth 100000 in
theorem rx_tk112 : (List.range 8).all (fun i => rx_tkn (112 + i)) = true := by decide +kernel
set_option maxRecDepth 100000 in
theorem rx_tk120 : (List.range 8).all (fun i => rx_tkn (120 + i)) = true := by decide +kernel
set_option maxRecDepth 100000 in
theorem rx_tk128 : (List.range 8).all (fun i => rx_tkn (128 + i)) = true := by decide +kernel
set_option maxRecDepth 100000 in
theorem rx_tk136 : (List.range 8).all (fun i => rx_tkn (136 + i)) = true := by decide +kernel
end
section
/-! printed by wip/p1/tables.py -/
set_option maxRecDepth 100000 in
theorem rx_tk144 : (List.range 8).all (fun i => rx_tkn (144 + i)) = true := by decide +kernel
set_option maxRecDepth 100000 in
theorem rx_tk152 : (List.range 8).all (fun i => rx_tkn (152 + i)) = true := by decide +kernel
set_option maxRecDepth 100000 in
theorem rx_tk160 : (List.range 8).all (fun i => rx_tkn (160 + i)) = true := by decide +kernel
set_option maxRecDepth 100000 in
theorem rx_tk168 : (List.range 8).all (fun i => rx_tkn (168 + i)) = true := by decide +kernel
set_option maxRecDepth 100000 in
theorem rx_tk176 : (List.range 2).all (fun i => rx_tkn (176 + i)) = true := by decide +kernel
end
section
/-! printed by wip/p1/tables.py -/
theorem rx_tk_lt : ∀ nu, nu < 178 → rx_tkn nu = true := by
  intro nu h
  have go : ∀ a n : Nat, (List.range n).all (fun i => rx_tkn (a + i)) = true → a ≤ nu → nu < a + n → rx_tkn nu = true := fun a n h1 h2 h3 => by
    have h4 := List.all_eq_true.mp h1 (nu - a) (List.mem_range.mpr (by omega))
    rw [show a + (nu - a) = nu by omega] at h4
    exact h4
  by_cases h0 : nu < 8
  · exact go 0 8 rx_tk0 (by omega) h0
  by_cases h8 : nu < 16
  · exact go 8 8 rx_tk8 (by omega) h8
  by_cases h16 : nu < 24
  · exact go 16 8 rx_tk16 (by omega) h16
  by_cases h24 : nu < 32
  · exact go 24 8 rx_tk24 (by omega) h24
  by_cases h32 : nu < 40
  · exact go 32 8 rx_tk32 (by omega) h32
  by_cases h40 : nu < 48
  · exact go 40 8 rx_tk40 (by omega) h40
  by_cases h48 : nu < 56
  · exact go 48 8 rx_tk48 (by omega) h48
  by_cases h56 : nu < 64
  · exact go 56 8 rx_tk56 (by omega) h56
  by_cases h64 : nu < 72
  · exact go 64 8 rx_tk64 (by omega) h64
  by_cases h72 : nu < 80
  · exact go 72 8 rx_tk72 (by omega) h72
  by_cases h80 : nu < 88
  · exact go 80 8 rx_tk80 (by omega) h80
  by_cases h88 : nu < 96
  · exact go 88 8 rx_tk88 (by omega) h88
  by_cases h96 : nu < 104
  · exact go 96 8 rx_tk96 (by omega) h96
  by_cases h104 : nu < 112
  · exact go 104 8 rx_tk104 (by omega) h104
  by_cases h112 : nu < 120
  · exact go 112 8 rx_tk112 (by omega) h112
  by_cases h120 : nu < 128
  · exact go 120 8 rx_tk120 (by omega) h120
  by_cases h128 : nu < 136
  · exact go 128 8 rx_tk128 (by omega) h128
  by_cases h136 : nu < 144
  · exact go 136 8 rx_tk136 (by omega) h136
  by_cases h144 : nu < 152
  · exact go 144 8 rx_tk144 (by omega) h144
  by_cases h152 : nu < 160
  · exact go 152 8 rx_tk152 (by omega) h152
  by_cases h160 : nu < 168
  · exact go 160 8 rx_tk160 (by omega) h160
  by_cases h168 : nu < 176
  · exact go 168 8 rx_tk168 (by omega) h168
  by_cases h176 : nu < 178
  · exact go 176 2 rx_tk176 (by omega) h176
  omega
def rx_cgs : List (Nat × Nat) := ([(0, 0), (1, 0), (2, 0), (3, 0), (4, 0), (5, 0), (6, 0), (7, 0), (8, 0), (9, 0)] : List (Nat × Nat)) ++ ([(10, 0), (10, 1)] : List (Nat × Nat)) ++ ([(11, 0), (12, 0)] : List (Nat × Nat)) ++ ([(13, 0)] : List (Nat × Nat)) ++ ([(14, 0), (14, 1)] : List (Nat × Nat)) ++ ([(15, 0), (15, 1), (16, 0)] : List (Nat × Nat)) ++ ([(17, 0), (18, 0), (19, 0)] : List (Nat × Nat)) ++ ([(20, 0), (21, 0)] : List (Nat × Nat)) ++ ([(22, 0), (23, 0), (24, 0), (25, 0)] : List (Nat × Nat)) ++ ([(26, 0), (27, 0), (28, 0), (29, 0)] : List (Nat × Nat)) ++ ([(30, 0), (31, 0), (32, 0), (33, 0), (34, 0)] : List (Nat × Nat)) ++ ([(35, 0)] : List (Nat × Nat)) ++ ([(35, 1), (36, 0)] : List (Nat × Nat)) ++ ([(37, 0), (38, 0), (39, 0), (40, 0), (41, 0)] : List (Nat × Nat)) ++ ([(42, 0), (43, 0), (44, 0), (45, 0)] : List (Nat × Nat)) ++ ([(46, 0), (47, 0)] : List (Nat × Nat)) ++ ([(48, 0), (49, 0)] : List (Nat × Nat)) ++ ([(50, 0), (51, 0), (52, 0), (53, 0), (54, 0), (55, 0), (56, 0), (57, 0), (58, 0), (59, 0)] : List (Nat × Nat)) ++ ([(60, 0), (60, 1), (61, 0)] : List (Nat × Nat)) ++ ([(62, 0), (63, 0), (64, 0)] : List (Nat × Nat)) ++ ([(65, 0), (66, 0), (67, 0), (68, 0), (69, 0), (70, 0), (71, 0)] : List (Nat × Nat)) ++ ([(72, 0), (73, 0), (74, 0), (75, 0), (76, 0)] : List (Nat × Nat)) ++ ([(77, 0), (78, 0), (79, 0)] : List (Nat × Nat)) ++ ([(80, 0), (81, 0), (82, 0), (83, 0), (84, 0), (85, 0), (86, 0)] : List (Nat × Nat)) ++ ([(87, 0), (88, 0), (89, 0), (90, 0)] : List (Nat × Nat)) ++ ([(91, 0), (92, 0), (93, 0), (94, 0)] : List (Nat × Nat)) ++ ([(95, 0), (96, 0)] : List (Nat × Nat)) ++ ([(97, 0), (98, 0), (99, 0), (100, 0)] : List (Nat × Nat)) ++ ([(101, 0), (102, 0), (103, 0)] : List (Nat × Nat)) ++ ([(104, 0)] : List (Nat × Nat)) ++ ([(104, 1)] : List (Nat × Nat)) ++ ([(104, 2), (104, 3), (105, 0)] : List (Nat × Nat)) ++ ([(106, 0), (107, 0), (108, 0), (109, 0)] : List (Nat × Nat)) ++ ([(110, 0), (111, 0)] : List (Nat × Nat)) ++ ([(112, 0), (113, 0)] : List (Nat × Nat)) ++ ([(114, 0), (115, 0)] : List (Nat × Nat)) ++ ([(116, 0), (117, 0)] : List (Nat × Nat)) ++ ([(118, 0), (119, 0), (120, 0), (121, 0)] : List (Nat × Nat)) ++ ([(122, 0), (123, 0), (124, 0), (125, 0)] : List (Nat × Nat)) ++ ([(126, 0), (127, 0), (128, 0), (129, 0)] : List (Nat × Nat)) ++ ([(130, 0), (131, 0)] : List (Nat × Nat)) ++ ([(132, 0), (133, 0)] : List (Nat × Nat)) ++ ([(134, 0), (135, 0), (136, 0), (137, 0)] : List (Nat × Nat)) ++ ([(138, 0), (139, 0), (140, 0)] : List (Nat × Nat)) ++ ([(141, 0), (142, 0)] : List (Nat × Nat)) ++ ([(143, 0), (144, 0), (145, 0)] : List (Nat × Nat)) ++ ([(146, 0), (147, 0), (148, 0)] : List (Nat × Nat)) ++ ([(148, 1), (149, 0)] : List (Nat × Nat)) ++ ([(149, 1)] : List (Nat × Nat)) ++ ([(150, 0), (151, 0), (152, 0)] : List (Nat × Nat)) ++ ([(153, 0), (154, 0), (155, 0), (156, 0), (157, 0)] : List (Nat × Nat)) ++ ([(158, 0), (159, 0), (160, 0)] : List (Nat × Nat)) ++ ([(161, 0), (162, 0), (163, 0)] : List (Nat × Nat)) ++ ([(164, 0), (165, 0)] : List (Nat × Nat)) ++ ([(166, 0), (167, 0), (168, 0), (169, 0), (170, 0)] : List (Nat × Nat)) ++ ([(171, 0), (172, 0)] : List (Nat × Nat)) ++ ([(173, 0), (173, 1)] : List (Nat × Nat)) ++ ([(174, 0), (175, 0)] : List (Nat × Nat)) ++ ([(176, 0), (177, 0)] : List (Nat × Nat)) ++ ([(177, 1), (177, 2)] : List (Nat × Nat))
theorem rx_cg_all : ∀ z ∈ rx_cgs, rx_okn z.1 (0 + z.2 * 100) 100 = true := by
  unfold rx_cgs
  simp only [List.forall_mem_append]
  exact ⟨⟨⟨⟨⟨⟨⟨⟨⟨⟨⟨⟨⟨⟨⟨⟨⟨⟨⟨⟨⟨⟨⟨⟨⟨⟨⟨⟨⟨⟨⟨⟨⟨⟨⟨⟨⟨⟨⟨⟨⟨⟨⟨⟨⟨⟨⟨⟨⟨⟨⟨⟨⟨⟨⟨⟨⟨⟨⟨List.all_eq_true.mp rx_cg0, List.all_eq_true.mp rx_cg1⟩, List.all_eq_true.mp rx_cg2⟩, List.all_eq_true.mp rx_cg3⟩, List.all_eq_true.mp rx_cg4⟩, List.all_eq_true.mp rx_cg5⟩, List.all_eq_true.mp rx_cg6⟩, List.all_eq_true.mp rx_cg7⟩, List.all_eq_true.mp rx_cg8⟩, List.all_eq_true.mp rx_cg9⟩, List.all_eq_true.mp rx_cg10⟩, List.all_eq_true.mp rx_cg11⟩, List.all_eq_true.mp rx_cg12⟩, List.all_eq_true.mp rx_cg13⟩, List.all_eq_true.mp rx_cg14⟩, List.all_eq_true.mp rx_cg15⟩, List.all_eq_true.mp rx_cg16⟩, List.all_eq_true.mp rx_cg17⟩, List.all_eq_true.mp rx_cg18⟩, List.all_eq_true.mp rx_cg19⟩, List.all_eq_true.mp rx_cg20⟩, List.all_eq_true.mp rx_cg21⟩, List.all_eq_true.mp rx_cg22⟩, List.all_eq_true.mp rx_cg23⟩, List.all_eq_true.mp rx_cg24⟩, List.all_eq_true.mp rx_cg25⟩, List.all_eq_true.mp rx_cg26⟩, List.all_eq_true.mp rx_cg27⟩, List.all_eq_true.mp rx_cg28⟩, List.all_eq_true.mp rx_cg29⟩, List.all_eq_true.mp rx_cg30⟩, List.all_eq_true.mp rx_cg31⟩, List.all_eq_true.mp rx_cg32⟩, List.all_eq_true.mp rx_cg33⟩, List.all_eq_true.mp rx_cg34⟩, List.all_eq_true.mp rx_cg35⟩, List.all_eq_true.mp rx_cg36⟩, List.all_eq_true.mp rx_cg37⟩, List.all_eq_true.mp rx_cg38⟩, List.all_eq_true.mp rx_cg39⟩, List.all_eq_true.mp rx_cg40⟩, List.all_eq_true.mp rx_cg41⟩, List.all_eq_true.mp rx_cg42⟩, List.all_eq_true.mp rx_cg43⟩, List.all_eq_true.mp rx_cg44⟩, List.all_eq_true.mp rx_cg45⟩, List.all_eq_true.mp rx_cg46⟩, List.all_eq_true.mp rx_cg47⟩, List.all_eq_true.mp rx_cg48⟩, List.all_eq_true.mp rx_cg49⟩, List.all_eq_true.mp rx_cg50⟩, List.all_eq_true.mp rx_cg51⟩, List.all_eq_true.mp rx_cg52⟩, List.all_eq_true.mp rx_cg53⟩, List.all_eq_true.mp rx_cg54⟩, List.all_eq_true.mp rx_cg55⟩, List.all_eq_true.mp rx_cg56⟩, List.all_eq_true.mp rx_cg57⟩, List.all_eq_true.mp rx_cg58⟩, List.all_eq_true.mp rx_cg59⟩
theorem rx_tb_len : rx_tb.length = 178 := by decide +kernel
theorem rx_mis_len : rx_mis.length = 178 := by decide +kernel
theorem rx_cg_in : (List.range 178).all (fun nu => (List.range (((rx_tb.getD nu rx_x0).1.length + 99) / 100)).all (fun j => decide ((nu, j) ∈ rx_cgs))) = true := by decide +kernel
theorem rx_alln {E : Type} {f : E → Bool} {xs : List E} {n : Nat} (hn : 0 < n) : ∀ (k a : Nat), xs.length ≤ a + k * n → (∀ j, j < k → ((xs.drop (a + j * n)).take n).all f = true) → (xs.drop a).all f = true := by
  intro k
  induction k with
  | zero =>
    intro a hl _
    rw [List.drop_eq_nil_of_le (by omega)]
    rfl
  | succ k ih =>
    intro a hl hj
    have h1 := hj 0 (by omega)
    have h2 := ih (a + n) (by rw [Nat.succ_mul] at hl; omega) (fun j hjk => by
      have h3 := hj (j + 1) (by omega)
      rw [Nat.succ_mul, show a + (j * n + n) = a + n + j * n by omega] at h3
      exact h3)
    rw [Nat.zero_mul, Nat.add_zero] at h1
    rw [← List.take_append_drop n (xs.drop a), List.all_append, List.drop_drop, h2, h1]
    rfl
theorem rx_T_of {tb : rx_T} {mi : List rx_Y} {cps : List Nat} {N : Nat} (htl : tb.length = N) (hml : mi.length = N) (hk : ∀ nu, nu < N → rx_tkb (tb.getD nu rx_x0) (mi.getD nu rx_y0) (cps.getD nu 0) = true)
    (hg : ∀ nu j, nu < N → j < ((tb.getD nu rx_x0).1.length + 99) / 100 → (((tb.getD nu rx_x0).1.drop (0 + j * 100)).take 100).all (rx_okb mi (mi.getD nu rx_y0).1.cls (mi.getD nu rx_y0).1.name (mi.getD nu rx_y0).2.1) = true) : ∀ (nu : Nat) (x : List rx_E × Nat × Nat × Nat × Nat), tb[nu]? = some x → ∃ Y, mi[nu]? = some Y ∧ rx_tOk mi x Y := by
  intro nu x hx
  have hlt : nu < tb.length := (List.getElem?_eq_some_iff.mp hx).1
  have h2 : nu < mi.length := by rw [hml]; rw [htl] at hlt; exact hlt
  rw [htl] at hlt
  refine ⟨mi[nu], List.getElem?_eq_getElem h2, ?_⟩
  have h3 := hk nu hlt
  have h4 := rx_alln (n := 100) (by decide) (((tb.getD nu rx_x0).1.length + 99) / 100) 0 (by omega) (fun j hj => hg nu j hlt hj)
  rw [List.drop_zero] at h4
  have e1 : tb.getD nu rx_x0 = x := by rw [List.getD_eq_getElem?_getD, hx]; rfl
  have e2 : mi.getD nu rx_y0 = mi[nu] := by rw [List.getD_eq_getElem?_getD, List.getElem?_eq_getElem h2]; rfl
  rw [e1, e2] at h3 h4
  exact rx_tkb_ok h3 h4
theorem rx_cg_lt : ∀ nu j, nu < 178 → j < ((rx_tb.getD nu rx_x0).1.length + 99) / 100 → rx_okn nu (0 + j * 100) 100 = true := fun nu j h1 h2 =>
  rx_cg_all (nu, j) (of_decide_eq_true (List.all_eq_true.mp (List.all_eq_true.mp rx_cg_in nu (List.mem_range.mpr h1)) j (List.mem_range.mpr h2)))
theorem rx_T_ok : ∀ (nu : Nat) (x : List rx_E × Nat × Nat × Nat × Nat), rx_tb[nu]? = some x → ∃ Y, rx_mis[nu]? = some Y ∧ rx_tOk rx_mis x Y := rx_T_of rx_tb_len rx_mis_len rx_tk_lt rx_cg_lt
end
section
/-! printed by wip/p1/tables.py: places of the classes words -/
def rx_lps : List (List Nat) := [[301, 303], [414, 416, 418, 420, 422, 424, 426, 428], [739, 741, 743, 745, 747, 749, 751, 769, 771, 773, 775, 777, 779, 781, 783, 785], [384, 386, 388, 390, 392, 394], [667, 669, 671, 673, 675], [334, 336, 338], [357, 359, 361, 363, 365], [708, 710], [524, 526, 528, 530, 532, 534, 536, 538, 540, 542, 544, 546, 548, 550, 552, 554, 556, 558, 560], [694, 696], [641, 643, 645, 647, 649, 651, 653], [801, 803, 805, 807, 809, 811, 813, 815, 817, 819, 821, 823, 825], [1662, 1664, 1666, 1668, 1670, 1672, 1674, 1676, 1678, 1680, 1682, 1684, 1686, 1688, 1690, 1692, 1694, 1696, 1698, 1700, 1702, 1704, 1706, 1708, 1710, 1712, 1714, 1716, 1718, 1720, 1722, 1724, 1726, 1728, 1730, 1732, 1734, 1736, 1738, 1740, 1742, 1744, 1746, 1748, 1750, 1752, 1754, 1756, 1758, 1760, 1762, 1764, 1766, 1768, 1770, 1772, 1774, 1792, 1794, 1796, 1798, 1800, 1802, 1804, 1806, 1808, 1810, 1812, 1814, 1816, 1818, 1820, 1822, 1824, 1826, 1828, 1830, 1832]]
def rx_ips : List Nat := [287, 398, 679, 369, 564, 314, 308, 700, 433, 687, 566, 279, 1579]
end
section
/-! printed by wip/p1/tables.py: the world behind the two constructors, at the head of the law's loop -/
def rx_w0 : List rx_C := [.inl (11, [.inr (.inr (.inl (some 1))), .inr (.inr (.inl (some 3))), .inr (.inr (.inl (some 5))), .inr (.inr (.inl (some 10))), .inr (.inr (.inl (some 115))), .inr (.inr (.inl (some 121))), .inr (.inr (.inl (some 148))), .inr (.inr (.inl (some 151))), .inr (.inr (.inl (some 122))), .inr (.inr (.inl (some 135))), .inl (.inl 0), .inl (.inl 4294967295), .inl (.inl 1)]),
  .inl (0, [.inr (.inr (.inl (some 2))), .inl (.inl 0)]),
  .inr (1, 1600, []),
  .inl (0, [.inr (.inr (.inl (some 4))), .inl (.inl 0)]),
  .inr (1, 86, []),
  .inl (6, [.inl (.inl 0), .inl (.inl 0), .inr (.inr (.inl (some 6))), .inr (.inr (.inl (some 7))), .inl (.inl 0)]),
  .inr (0, 8, []),
  .inl (5, [.inr (.inr (.inl (some 8))), .inr (.inr (.inl (some 9))), .inl (.inl 0)]),
  .inr (0, 30, []),
  .inr (0, 30, []),
  .inl (3, [.inr (.inr (.inl (some 11))), .inr (.inr (.inl (some 12))), .inr (.inr (.inl (some 13))), .inr (.inr (.inl (some 14))), .inl (.inl 0), .inl (.inl 0)]),
  .inr (0, 840, []),
  .inr (0, 840, []),
  .inr (0, 840, []),
  .inr (4, 20, [(19, .inr (.inr (.inl (some 110)))), (18, .inr (.inr (.inl (some 105)))), (17, .inr (.inr (.inl (some 100)))), (16, .inr (.inr (.inl (some 95)))), (15, .inr (.inr (.inl (some 90)))), (14, .inr (.inr (.inl (some 85)))), (13, .inr (.inr (.inl (some 80)))), (12, .inr (.inr (.inl (some 75)))), (11, .inr (.inr (.inl (some 70)))), (10, .inr (.inr (.inl (some 65)))), (9, .inr (.inr (.inl (some 60)))), (8, .inr (.inr (.inl (some 55)))), (7, .inr (.inr (.inl (some 50)))), (6, .inr (.inr (.inl (some 45)))), (5, .inr (.inr (.inl (some 40)))), (4, .inr (.inr (.inl (some 35)))), (3, .inr (.inr (.inl (some 30)))), (2, .inr (.inr (.inl (some 25)))), (1, .inr (.inr (.inl (some 20)))), (0, .inr (.inr (.inl (some 15))))]),
  .inl (6, [.inl (.inl 0), .inl (.inl 0), .inr (.inr (.inl (some 16))), .inr (.inr (.inl (some 17))), .inl (.inl 0)]),
  .inr (0, 8, []),
  .inl (5, [.inr (.inr (.inl (some 18))), .inr (.inr (.inl (some 19))), .inl (.inl 0)]),
  .inr (0, 30, []),
  .inr (0, 30, []),
  .inl (6, [.inl (.inl 0), .inl (.inl 0), .inr (.inr (.inl (some 21))), .inr (.inr (.inl (some 22))), .inl (.inl 0)]),
  .inr (0, 8, []),
  .inl (5, [.inr (.inr (.inl (some 23))), .inr (.inr (.inl (some 24))), .inl (.inl 0)]),
  .inr (0, 30, []),
  .inr (0, 30, []),
  .inl (6, [.inl (.inl 0), .inl (.inl 0), .inr (.inr (.inl (some 26))), .inr (.inr (.inl (some 27))), .inl (.inl 0)]),
  .inr (0, 8, []),
  .inl (5, [.inr (.inr (.inl (some 28))), .inr (.inr (.inl (some 29))), .inl (.inl 0)]),
  .inr (0, 30, []),
  .inr (0, 30, []),
  .inl (6, [.inl (.inl 0), .inl (.inl 0), .inr (.inr (.inl (some 31))), .inr (.inr (.inl (some 32))), .inl (.inl 0)]),
  .inr (0, 8, []),
  .inl (5, [.inr (.inr (.inl (some 33))), .inr (.inr (.inl (some 34))), .inl (.inl 0)]),
  .inr (0, 30, []),
  .inr (0, 30, []),
  .inl (6, [.inl (.inl 0), .inl (.inl 0), .inr (.inr (.inl (some 36))), .inr (.inr (.inl (some 37))), .inl (.inl 0)]),
  .inr (0, 8, []),
  .inl (5, [.inr (.inr (.inl (some 38))), .inr (.inr (.inl (some 39))), .inl (.inl 0)]),
  .inr (0, 30, []),
  .inr (0, 30, []),
  .inl (6, [.inl (.inl 0), .inl (.inl 0), .inr (.inr (.inl (some 41))), .inr (.inr (.inl (some 42))), .inl (.inl 0)]),
  .inr (0, 8, []),
  .inl (5, [.inr (.inr (.inl (some 43))), .inr (.inr (.inl (some 44))), .inl (.inl 0)]),
  .inr (0, 30, []),
  .inr (0, 30, []),
  .inl (6, [.inl (.inl 0), .inl (.inl 0), .inr (.inr (.inl (some 46))), .inr (.inr (.inl (some 47))), .inl (.inl 0)]),
  .inr (0, 8, []),
  .inl (5, [.inr (.inr (.inl (some 48))), .inr (.inr (.inl (some 49))), .inl (.inl 0)]),
  .inr (0, 30, []),
  .inr (0, 30, []),
  .inl (6, [.inl (.inl 0), .inl (.inl 0), .inr (.inr (.inl (some 51))), .inr (.inr (.inl (some 52))), .inl (.inl 0)]),
  .inr (0, 8, []),
  .inl (5, [.inr (.inr (.inl (some 53))), .inr (.inr (.inl (some 54))), .inl (.inl 0)]),
  .inr (0, 30, []),
  .inr (0, 30, []),
  .inl (6, [.inl (.inl 0), .inl (.inl 0), .inr (.inr (.inl (some 56))), .inr (.inr (.inl (some 57))), .inl (.inl 0)]),
  .inr (0, 8, []),
  .inl (5, [.inr (.inr (.inl (some 58))), .inr (.inr (.inl (some 59))), .inl (.inl 0)]),
  .inr (0, 30, []),
  .inr (0, 30, []),
  .inl (6, [.inl (.inl 0), .inl (.inl 0), .inr (.inr (.inl (some 61))), .inr (.inr (.inl (some 62))), .inl (.inl 0)]),
  .inr (0, 8, []),
  .inl (5, [.inr (.inr (.inl (some 63))), .inr (.inr (.inl (some 64))), .inl (.inl 0)]),
  .inr (0, 30, []),
  .inr (0, 30, []),
  .inl (6, [.inl (.inl 0), .inl (.inl 0), .inr (.inr (.inl (some 66))), .inr (.inr (.inl (some 67))), .inl (.inl 0)]),
  .inr (0, 8, []),
  .inl (5, [.inr (.inr (.inl (some 68))), .inr (.inr (.inl (some 69))), .inl (.inl 0)]),
  .inr (0, 30, []),
  .inr (0, 30, []),
  .inl (6, [.inl (.inl 0), .inl (.inl 0), .inr (.inr (.inl (some 71))), .inr (.inr (.inl (some 72))), .inl (.inl 0)]),
  .inr (0, 8, []),
  .inl (5, [.inr (.inr (.inl (some 73))), .inr (.inr (.inl (some 74))), .inl (.inl 0)]),
  .inr (0, 30, []),
  .inr (0, 30, []),
  .inl (6, [.inl (.inl 0), .inl (.inl 0), .inr (.inr (.inl (some 76))), .inr (.inr (.inl (some 77))), .inl (.inl 0)]),
  .inr (0, 8, []),
  .inl (5, [.inr (.inr (.inl (some 78))), .inr (.inr (.inl (some 79))), .inl (.inl 0)]),
  .inr (0, 30, []),
  .inr (0, 30, []),
  .inl (6, [.inl (.inl 0), .inl (.inl 0), .inr (.inr (.inl (some 81))), .inr (.inr (.inl (some 82))), .inl (.inl 0)]),
  .inr (0, 8, []),
  .inl (5, [.inr (.inr (.inl (some 83))), .inr (.inr (.inl (some 84))), .inl (.inl 0)]),
  .inr (0, 30, []),
  .inr (0, 30, []),
  .inl (6, [.inl (.inl 0), .inl (.inl 0), .inr (.inr (.inl (some 86))), .inr (.inr (.inl (some 87))), .inl (.inl 0)]),
  .inr (0, 8, []),
  .inl (5, [.inr (.inr (.inl (some 88))), .inr (.inr (.inl (some 89))), .inl (.inl 0)]),
  .inr (0, 30, []),
  .inr (0, 30, []),
  .inl (6, [.inl (.inl 0), .inl (.inl 0), .inr (.inr (.inl (some 91))), .inr (.inr (.inl (some 92))), .inl (.inl 0)]),
  .inr (0, 8, []),
  .inl (5, [.inr (.inr (.inl (some 93))), .inr (.inr (.inl (some 94))), .inl (.inl 0)]),
  .inr (0, 30, []),
  .inr (0, 30, []),
  .inl (6, [.inl (.inl 0), .inl (.inl 0), .inr (.inr (.inl (some 96))), .inr (.inr (.inl (some 97))), .inl (.inl 0)]),
  .inr (0, 8, []),
  .inl (5, [.inr (.inr (.inl (some 98))), .inr (.inr (.inl (some 99))), .inl (.inl 0)]),
  .inr (0, 30, []),
  .inr (0, 30, []),
  .inl (6, [.inl (.inl 0), .inl (.inl 0), .inr (.inr (.inl (some 101))), .inr (.inr (.inl (some 102))), .inl (.inl 0)]),
  .inr (0, 8, []),
  .inl (5, [.inr (.inr (.inl (some 103))), .inr (.inr (.inl (some 104))), .inl (.inl 0)]),
  .inr (0, 30, []),
  .inr (0, 30, []),
  .inl (6, [.inl (.inl 0), .inl (.inl 0), .inr (.inr (.inl (some 106))), .inr (.inr (.inl (some 107))), .inl (.inl 0)]),
  .inr (0, 8, []),
  .inl (5, [.inr (.inr (.inl (some 108))), .inr (.inr (.inl (some 109))), .inl (.inl 0)]),
  .inr (0, 30, []),
  .inr (0, 30, []),
  .inl (6, [.inl (.inl 0), .inl (.inl 0), .inr (.inr (.inl (some 111))), .inr (.inr (.inl (some 112))), .inl (.inl 0)]),
  .inr (0, 8, []),
  .inl (5, [.inr (.inr (.inl (some 113))), .inr (.inr (.inl (some 114))), .inl (.inl 0)]),
  .inr (0, 30, []),
  .inr (0, 30, []),
  .inl (1, [.inr (.inr (.inl (some 116))), .inr (.inr (.inl (some 117))), .inr (.inr (.inl (some 118))), .inr (.inr (.inl (some 119))), .inr (.inr (.inl (some 120))), .inl (.inl 0), .inl (.inl 4294967295), .inr (.inl (.inl 0))]),
  .inr (0, 20, []),
  .inr (0, 20, []),
  .inr (0, 20, []),
  .inr (3, 160, []),
  .inr (3, 160, []),
  .inr (0, 6, []),
  .inl (8, [.inl (.inl 0), .inl (.inl 0), .inr (.inr (.inl (some 123))), .inl (.inl 0), .inr (.inr (.inl (some 124))), .inr (.inr (.inl (some 125))), .inr (.inr (.inl (some 126))), .inr (.inr (.inl (some 127))), .inl (.inl 0), .inr (.inr (.inl (some 128))), .inr (.inr (.inl (some 129))), .inr (.inr (.inl (some 130))), .inr (.inr (.inl (some 131))), .inl (.inl 20), .inl (.inl 0), .inr (.inr (.inl (some 134))), .inl (.inl 0), .inl (.inl 4294967295), .inl (.inl 4294967295)]),
  .inr (0, 8, []),
  .inr (0, 14, []),
  .inr (0, 14, []),
  .inr (0, 14, []),
  .inr (0, 64, [(63, .inl (.inl 4294967295)), (62, .inl (.inl 4294967295)), (61, .inl (.inl 4294967295)), (60, .inl (.inl 4294967295)), (59, .inl (.inl 4294967295)), (58, .inl (.inl 4294967295)), (57, .inl (.inl 4294967295)), (56, .inl (.inl 4294967295)), (55, .inl (.inl 4294967295)), (54, .inl (.inl 4294967295)), (53, .inl (.inl 4294967295)), (52, .inl (.inl 4294967295)), (51, .inl (.inl 4294967295)), (50, .inl (.inl 4294967295)), (49, .inl (.inl 4294967295)), (48, .inl (.inl 4294967295)), (47, .inl (.inl 4294967295)), (46, .inl (.inl 4294967295)), (45, .inl (.inl 4294967295)), (44, .inl (.inl 4294967295)), (43, .inl (.inl 4294967295)), (42, .inl (.inl 4294967295)), (41, .inl (.inl 4294967295)), (40, .inl (.inl 4294967295)), (39, .inl (.inl 4294967295)), (38, .inl (.inl 4294967295)), (37, .inl (.inl 4294967295)), (36, .inl (.inl 4294967295)), (35, .inl (.inl 4294967295)), (34, .inl (.inl 4294967295)), (33, .inl (.inl 4294967295)), (32, .inl (.inl 4294967295)), (31, .inl (.inl 4294967295)), (30, .inl (.inl 4294967295)), (29, .inl (.inl 4294967295)), (28, .inl (.inl 4294967295)), (27, .inl (.inl 4294967295)), (26, .inl (.inl 4294967295)), (25, .inl (.inl 4294967295)), (24, .inl (.inl 4294967295)), (23, .inl (.inl 4294967295)), (22, .inl (.inl 4294967295)), (21, .inl (.inl 4294967295)), (20, .inl (.inl 4294967295)), (19, .inl (.inl 4294967295)), (18, .inl (.inl 4294967295)), (17, .inl (.inl 4294967295)), (16, .inl (.inl 4294967295)), (15, .inl (.inl 4294967295)), (14, .inl (.inl 4294967295)), (13, .inl (.inl 4294967295)), (12, .inl (.inl 4294967295)), (11, .inl (.inl 4294967295)), (10, .inl (.inl 4294967295)), (9, .inl (.inl 4294967295)), (8, .inl (.inl 4294967295)), (7, .inl (.inl 4294967295)), (6, .inl (.inl 4294967295)), (5, .inl (.inl 4294967295)), (4, .inl (.inl 4294967295)), (3, .inl (.inl 4294967295)), (2, .inl (.inl 4294967295)), (1, .inl (.inl 4294967295)), (0, .inl (.inl 4294967295))]),
  .inr (0, 8, []),
  .inr (0, 8, []),
  .inr (0, 8, []),
  .inl (5, [.inr (.inr (.inl (some 132))), .inr (.inr (.inl (some 133))), .inl (.inl 0)]),
  .inr (0, 30, []),
  .inr (0, 30, []),
  .inr (0, 1600, []),
  .inl (8, [.inl (.inl 0), .inl (.inl 0), .inr (.inr (.inl (some 136))), .inl (.inl 0), .inr (.inr (.inl (some 137))), .inr (.inr (.inl (some 138))), .inr (.inr (.inl (some 139))), .inr (.inr (.inl (some 140))), .inl (.inl 0), .inr (.inr (.inl (some 141))), .inr (.inr (.inl (some 142))), .inr (.inr (.inl (some 143))), .inr (.inr (.inl (some 144))), .inl (.inl 20), .inl (.inl 0), .inr (.inr (.inl (some 147))), .inl (.inl 0), .inl (.inl 4294967295), .inl (.inl 4294967295)]),
  .inr (0, 8, []),
  .inr (0, 14, []),
  .inr (0, 14, []),
  .inr (0, 14, []),
  .inr (0, 64, [(63, .inl (.inl 4294967295)), (62, .inl (.inl 4294967295)), (61, .inl (.inl 4294967295)), (60, .inl (.inl 4294967295)), (59, .inl (.inl 4294967295)), (58, .inl (.inl 4294967295)), (57, .inl (.inl 4294967295)), (56, .inl (.inl 4294967295)), (55, .inl (.inl 4294967295)), (54, .inl (.inl 4294967295)), (53, .inl (.inl 4294967295)), (52, .inl (.inl 4294967295)), (51, .inl (.inl 4294967295)), (50, .inl (.inl 4294967295)), (49, .inl (.inl 4294967295)), (48, .inl (.inl 4294967295)), (47, .inl (.inl 4294967295)), (46, .inl (.inl 4294967295)), (45, .inl (.inl 4294967295)), (44, .inl (.inl 4294967295)), (43, .inl (.inl 4294967295)), (42, .inl (.inl 4294967295)), (41, .inl (.inl 4294967295)), (40, .inl (.inl 4294967295)), (39, .inl (.inl 4294967295)), (38, .inl (.inl 4294967295)), (37, .inl (.inl 4294967295)), (36, .inl (.inl 4294967295)), (35, .inl (.inl 4294967295)), (34, .inl (.inl 4294967295)), (33, .inl (.inl 4294967295)), (32, .inl (.inl 4294967295)), (31, .inl (.inl 4294967295)), (30, .inl (.inl 4294967295)), (29, .inl (.inl 4294967295)), (28, .inl (.inl 4294967295)), (27, .inl (.inl 4294967295)), (26, .inl (.inl 4294967295)), (25, .inl (.inl 4294967295)), (24, .inl (.inl 4294967295)), (23, .inl (.inl 4294967295)), (22, .inl (.inl 4294967295)), (21, .inl (.inl 4294967295)), (20, .inl (.inl 4294967295)), (19, .inl (.inl 4294967295)), (18, .inl (.inl 4294967295)), (17, .inl (.inl 4294967295)), (16, .inl (.inl 4294967295)), (15, .inl (.inl 4294967295)), (14, .inl (.inl 4294967295)), (13, .inl (.inl 4294967295)), (12, .inl (.inl 4294967295)), (11, .inl (.inl 4294967295)), (10, .inl (.inl 4294967295)), (9, .inl (.inl 4294967295)), (8, .inl (.inl 4294967295)), (7, .inl (.inl 4294967295)), (6, .inl (.inl 4294967295)), (5, .inl (.inl 4294967295)), (4, .inl (.inl 4294967295)), (3, .inl (.inl 4294967295)), (2, .inl (.inl 4294967295)), (1, .inl (.inl 4294967295)), (0, .inl (.inl 4294967295))]),
  .inr (0, 8, []),
  .inr (0, 8, []),
  .inr (0, 8, []),
  .inl (5, [.inr (.inr (.inl (some 145))), .inr (.inr (.inl (some 146))), .inl (.inl 0)]),
  .inr (0, 30, []),
  .inr (0, 30, []),
  .inr (0, 1600, []),
  .inl (4, [.inr (.inr (.inl (some 149))), .inr (.inr (.inl (some 135))), .inl (.inl 0), .inl (.inl 0), .inl (.inl 4294967295)]),
  .inl (10, [.inr (.inr (.inl (some 1))), .inr (.inr (.inl (some 150))), .inl (.inl 0), .inl (.inl 0), .inl (.inl 0), .inl (.inl 0), .inl (.inl 0)]),
  .inr (0, 26, [(25, .inl (.inl 438042624)), (24, .inl (.inl 446103552)), (23, .inl (.inl 46530560)), (22, .inl (.inl 486146048)), (21, .inl (.inl 48365568)), (20, .inl (.inl 522190848)), (19, .inl (.inl 308281344)), (18, .inl (.inl 418890336)), (17, .inl (.inl 680956928)), (16, .inl (.inl 658686560)), (15, .inl (.inl 72529920)), (14, .inl (.inl 687214592)), (13, .inl (.inl 844154880)), (12, .inl (.inl 284819456)), (11, .inl (.inl 273731584)), (10, .inl (.inl 113432754)), (9, .inl (.inl 658552979)), (8, .inl (.inl 559296512)), (7, .inl (.inl 54525952)), (6, .inl (.inl 679786720)), (5, .inl (.inl 217645056)), (4, .inl (.inl 658685952)), (3, .inl (.inl 538023520)), (2, .inl (.inl 686817280)), (1, .inl (.inl 659100852)), (0, .inl (.inl 549489824))]),
  .inl (2, [.inr (.inr (.inl (some 152))), .inr (.inr (.inl (some 155))), .inr (.inr (.inl (some 156))), .inr (.inr (.inl (some 157))), .inr (.inr (.inl (some 158))), .inr (.inr (.inl (some 159))), .inr (.inr (.inl (some 160))), .inr (.inr (.inl (some 161))), .inr (.inr (.inl (some 164))), .inr (.inr (.inl (some 167))), .inr (.inr (.inl (some 122))), .inl (.inl 0), .inl (.inl 0), .inl (.inl 0), .inl (.inl 0), .inl (.inl 0)]),
  .inl (5, [.inr (.inr (.inl (some 153))), .inr (.inr (.inl (some 154))), .inl (.inl 0)]),
  .inr (0, 30, []),
  .inr (0, 30, []),
  .inr (0, 30, []),
  .inr (0, 30, []),
  .inr (0, 30, []),
  .inr (0, 8, []),
  .inr (0, 8, []),
  .inr (0, 8, []),
  .inl (5, [.inr (.inr (.inl (some 162))), .inr (.inr (.inl (some 163))), .inl (.inl 0)]),
  .inr (0, 30, []),
  .inr (0, 30, []),
  .inl (9, [.inr (.inr (.inl (some 165))), .inr (.inr (.inl (some 166)))]),
  .inr (0, 64, []),
  .inr (0, 64, []),
  .inl (7, [.inr (.inr (.inl (some 168))), .inr (.inr (.inl (some 169)))]),
  .inr (0, 64, []),
  .inr (0, 26, []),
  .inl (12, [.inr (.inr (.inl (some 171))), .inl (.inl 0), .inl (.inl 0), .inl (.inl 0), .inl (.inl 0), .inl (.inl 0), .inl (.inl 0), .inr (.inl (.inl 0)), .inl (.inl 0), .inl (.inl 4294967295), .inl (.inl 0), .inl (.inl 4294967295), .inl (.inl 4294967295), .inl (.inl 0), .inr (.inr (.inl (some 172))), .inr (.inr (.inl (some 173))), .inr (.inr (.inl (some 174))), .inr (.inr (.inl (some 175))), .inr (.inr (.inl (some 176))), .inr (.inr (.inl (some 177))), .inr (.inr (.inl (some 178))), .inr (.inr (.inl (some 179))), .inr (.inr (.inl (some 180))), .inr (.inr (.inl (some 181))), .inr (.inr (.inl (some 182))), .inr (.inr (.inl (some 183))), .inr (.inr (.inl (some 184))), .inr (.inr (.inl (some 185))), .inr (.inr (.inl (some 186))), .inr (.inr (.inl (some 187))), .inr (.inr (.inl (some 188))), .inr (.inr (.inl (some 189))), .inr (.inr (.inl (some 190))), .inr (.inr (.inl (some 191))), .inl (.inl 0), .inl (.inl 1), .inl (.inl 0), .inr (.inr (.inl (some 192))), .inr (.inr (.inl (some 193))), .inr (.inr (.inl (some 194))), .inr (.inr (.inl (some 195))), .inr (.inr (.inl (some 196))), .inl (.inl 0), .inl (.inl 0), .inr (.inr (.inl (some 197))), .inl (.inl 0), .inl (.inl 0), .inr (.inr (.inl (some 198))), .inr (.inr (.inl (some 199))), .inr (.inr (.inl (some 200))), .inr (.inr (.inl (some 201))), .inr (.inr (.inl (some 202))), .inr (.inr (.inl (some 203))), .inr (.inr (.inl (some 204))), .inr (.inr (.inl (some 205))), .inr (.inr (.inl (some 206))), .inl (.inl 0), .inl (.inl 0), .inr (.inl (.inl 1)), .inr (.inr (.inl (some 207))), .inr (.inr (.inl (some 208))), .inr (.inr (.inl (some 209))), .inl (.inl 0), .inr (.inr (.inl (some 210))), .inr (.inr (.inl (some 211))), .inr (.inr (.inl (some 212))), .inr (.inr (.inl (some 213))), .inl (.inl 0), .inl (.inl 0), .inr (.inr (.inl (some 214))), .inr (.inr (.inl (some 215))), .inl (.inl 0), .inr (.inr (.inl (some 216))), .inr (.inr (.inl (some 217))), .inr (.inr (.inl (some 218))), .inr (.inr (.inl (some 219))), .inr (.inr (.inl (some 220))), .inl (.inl 0)]),
  .inr (0, 1800, []),
  .inr (0, 2, []),
  .inr (0, 2, []),
  .inr (0, 28, []),
  .inr (0, 28, []),
  .inr (0, 28, []),
  .inr (0, 128, []),
  .inr (0, 2, []),
  .inr (0, 40, []),
  .inr (0, 40, []),
  .inr (0, 2, []),
  .inr (0, 16, []),
  .inr (0, 16, []),
  .inr (0, 2, [(1, .inl (.inl 20)), (0, .inl (.inl 20))]),
  .inr (0, 2, []),
  .inr (0, 4, [(3, .inl (.inl 4294967295)), (2, .inl (.inl 4294967295)), (1, .inl (.inl 4294967295)), (0, .inl (.inl 4294967295))]),
  .inr (0, 4, []),
  .inr (0, 3200, []),
  .inr (0, 3200, []),
  .inr (3, 16, []),
  .inr (3, 16, []),
  .inr (0, 20, []),
  .inr (0, 20, []),
  .inr (2, 20, []),
  .inr (0, 20, []),
  .inr (0, 20, []),
  .inr (0, 500, []),
  .inr (0, 6, []),
  .inr (0, 22, []),
  .inr (0, 22, []),
  .inr (0, 176, []),
  .inr (0, 22, []),
  .inr (0, 660, []),
  .inr (0, 660, []),
  .inr (0, 22, []),
  .inr (0, 2640, []),
  .inr (3, 500, []),
  .inr (0, 12, []),
  .inr (0, 64, []),
  .inr (0, 30, []),
  .inr (0, 30, []),
  .inr (0, 30, []),
  .inr (0, 30, []),
  .inr (0, 30, []),
  .inr (0, 30, []),
  .inr (0, 20, []),
  .inr (0, 20, []),
  .inr (3, 160, []),
  .inr (3, 160, []),
  .inr (0, 100, [])]
def rx_L0 : rx_L := [(3, .inl (.inl 0)), (2, .inr (.inr (.inl (some 170)))), (1, .inr (.inr (.inl (some 0)))), (0, .inr (.inr (.inr 0)))]
end
section
/-! THE CLAIM OUT OF ONE WALK OF THE LAW'S BODY. Your part is whole_start (and what it stands on); all else here is the same for every law, but numbers. -/
def R_law : String := "GreyRouteLaw"
def lw_P (b : Addr) (xs : List Int32) (args : Array Value) (s : State) : Prop := args = #[.ref b] ∧ s.IntsAt b xs ∧ xs.length ≤ 6 ∧ (Jvm.Cond.and given_1 narrow_1).before args s = true
def lw_Q (_ : Array Value) (s : State) (o : Outcome) (t : State) : Prop := o = .returned (some (.int 1)) ∧ Framed s o t [] 600000 7302250
def lw_Z (below : List Frame) (a : Array Value) (s : State) : State → Prop := fun t => ∃ o, t.status = .running ∧ Ended t below o ∧ lw_Q a s o t
/-- the law's own end, with 1 on the stack, nothing written that was there before, its room as the claim has it -/
theorem lw_ret {p : Program} {l : Launch} {e : Env} {s : State} {m : MethodId} {below : List Frame} {meth : Method} {c : Code} {b : Nat} (hx : p.tables.exec = Jvm.exec) (hb : c.code = code) (hr : meth.sig.returnType = ret) (hlocks : meth.locks = false) {pc : Nat} {H : Heap} {ls : Array Slot} (hdg : decode code pc = .ok (.ireturn, 1)) : W p l e room_1 s m #[Value.ref b] below meth c H [] 600000 7302250 (lw_Z below #[Value.ref b] s) (F0 m pc ls [.int 1]) := by
  intro T hT X
  obtain ⟨fs, hret, hrun, hended, hW, hframe⟩ := X.leave (v := some (.int 1)) (hlocks := hlocks) (fun h => by rw [hr] at h; cases h)
  have hmeth' : T.vm.method? m = some meth := X.method'
  refine ⟨T.setFrames fs, ?_, .returned (some (.int 1)), hrun, hended, rfl, ⟨_, rfl⟩, hW, hframe⟩
  jvm_step X.here [X.here.top, hx, hb, hdg, hmeth', hr, ret, narrow_b1]
  (try refine ⟨rfl, ?_⟩); (try refine ⟨rfl, ?_⟩)
  first | (intro acts; rw [hret _ acts rfl rfl rfl]) | rw [hret _ _ rfl rfl rfl]
  exact Steps.refl _
/-- what holds at the law's entry: the machine, the code, the tables' words (any of lw_tbl by 'hts w (by decide +kernel)'), the script of L ints xs at the cell b, what the Statement gives of the start (any of its parts by flat_of_before) -/
def lw_At (p : Program) (s : State) (m : MethodId) (meth : Method) (c : Code) (b L : Nat) (xs : Nat → Int32) : Prop :=
  p.tables.exec = Jvm.exec ∧ c.code = code ∧ meth.sig.returnType = ret ∧ c.maxLocals = 4 ∧ s.vm.findClass R_law = some m.cls ∧ (∀ w ∈ lw_tbl, w.before #[Value.ref b] s = true) ∧ va_X b L xs s s.heap ∧ b < s.heap.size ∧ meth.locks = false ∧ (Jvm.Cond.and given_1 narrow_1).before #[Value.ref b] s = true
end
section
/-! the law's own table is what it must be -/
set_option maxRecDepth 100000 in
theorem rx_ml0 : ((rx_mL.drop (0 + 0 * 100)).take 100).all (rx_okb rx_mis "GreyRouteLaw" "law" code) = true := by decide +kernel
set_option maxRecDepth 100000 in
theorem rx_ml1 : ((rx_mL.drop (0 + 1 * 100)).take 100).all (rx_okb rx_mis "GreyRouteLaw" "law" code) = true := by decide +kernel
set_option maxRecDepth 100000 in
theorem rx_ml2 : ((rx_mL.drop (0 + 2 * 100)).take 100).all (rx_okb rx_mis "GreyRouteLaw" "law" code) = true := by decide +kernel
set_option maxRecDepth 100000 in
theorem rx_ml3 : ((rx_mL.drop (0 + 3 * 100)).take 100).all (rx_okb rx_mis "GreyRouteLaw" "law" code) = true := by decide +kernel
set_option maxRecDepth 100000 in
theorem rx_ml4 : ((rx_mL.drop (0 + 4 * 100)).take 100).all (rx_okb rx_mis "GreyRouteLaw" "law" code) = true := by decide +kernel
set_option maxRecDepth 100000 in
theorem rx_ml5 : ((rx_mL.drop (0 + 5 * 100)).take 100).all (rx_okb rx_mis "GreyRouteLaw" "law" code) = true := by decide +kernel
set_option maxRecDepth 100000 in
theorem rx_ml6 : ((rx_mL.drop (0 + 6 * 100)).take 100).all (rx_okb rx_mis "GreyRouteLaw" "law" code) = true := by decide +kernel
set_option maxRecDepth 100000 in
theorem rx_ml7 : ((rx_mL.drop (0 + 7 * 100)).take 100).all (rx_okb rx_mis "GreyRouteLaw" "law" code) = true := by decide +kernel
theorem rx_mL_len : rx_mL.length ≤ 0 + 8 * 100 := by decide +kernel
theorem rx_mL_ok : rx_mL.all (rx_okb rx_mis "GreyRouteLaw" "law" code) = true := by
  have h := rx_alln (f := rx_okb rx_mis "GreyRouteLaw" "law" code) (xs := rx_mL) (n := 100) (by decide) 8 0 rx_mL_len (fun j hj => by
    match j, hj with
    | 0, _ => exact rx_ml0
    | 1, _ => exact rx_ml1
    | 2, _ => exact rx_ml2
    | 3, _ => exact rx_ml3
    | 4, _ => exact rx_ml4
    | 5, _ => exact rx_ml5
    | 6, _ => exact rx_ml6
    | 7, _ => exact rx_ml7
    | j + 8, hj => omega)
  exact h
set_option maxRecDepth 100000 in
theorem rx_mL_sq : rx_seq rx_mL = true := by decide +kernel
end
section
/-! the law's start: the classes, the arrays' classes, the constants -/
def rx_dV : DecidableEq rx_V := inferInstance
def rx_dP : DecidableEq (Nat × rx_V) := letI := rx_dV; inferInstance
def rx_dL : DecidableEq (List (Nat × rx_V)) := letI := rx_dP; inferInstance
def rx_dS : DecidableEq (List rx_V) := letI := rx_dV; inferInstance
def rx_dO : DecidableEq (Nat × List rx_V) := letI := rx_dS; inferInstance
def rx_dA : DecidableEq (Nat × Nat × List (Nat × rx_V)) := letI := rx_dL; inferInstance
def rx_dC : DecidableEq rx_C := letI := rx_dO; letI := rx_dA; inferInstance
def rx_dW : DecidableEq (List rx_C) := letI := rx_dC; inferInstance
def rx_text : String := "place street to paces step for thing at pull stands clever heat hot year told been steps time loops if or and not all min max"
noncomputable def rx_G0 (F : rx_F) (sl : Nat) : rx_G := (F, true, sl, rx_txt, 125, rx_dfs)
def rx_clb (q : vw_C) (ps : List Nat) : Bool := (List.range q.2.2).all (fun k => rx_wd (ps.getD k 0) (u_lay q.1 q.2.1 k) && (parseFieldDescriptor (q.2.1 k).2.2.1).isSome) && (List.range q.2.2).all (fun a => (List.range a).all (fun b => decide ((q.2.1 a).2.1 ≠ (q.2.1 b).2.1)))
theorem rx_clb_ok {q : vw_C} {ps : List Nat} (h : rx_clb q ps = true) : rx_clOk q := by
  obtain ⟨h1, h2⟩ := rx_an h
  have h1 := List.all_eq_true.mp h1
  have h2 := List.all_eq_true.mp h2
  refine ⟨fun w hw => ?_, fun k hk => ?_, fun a ha b hb hab => ?_⟩
  · obtain ⟨k, hk, rfl⟩ := List.mem_map.mp hw
    exact rx_wd_ok (rx_an (h1 k hk)).1
  · have h3 := (rx_an (h1 k (List.mem_range.mpr hk))).2
    obtain ⟨t, ht⟩ := Option.isSome_iff_exists.mp h3
    unfold rx_ty
    rw [ht]
    rfl
  · rcases Nat.lt_or_ge b a with z | z
    · exact of_decide_eq_true (List.all_eq_true.mp (h2 a (List.mem_range.mpr ha)) b (List.mem_range.mpr z))
    · have z : a < b := by omega
      exact fun e => of_decide_eq_true (List.all_eq_true.mp (h2 b (List.mem_range.mpr hb)) a (List.mem_range.mpr z)) e.symm
def rx_dfv (ty : FieldType) : rx_V := match ty with
  | .long => .inr (.inl (.inl 0))
  | .object _ => .inr (.inr (.inl none))
  | .array _ => .inr (.inr (.inl none))
  | _ => .inl (.inl 0)
def rx_okty (ty : FieldType) : Bool := match ty with
  | .float => false
  | .double => false
  | _ => true
theorem rx_dfv_ok (X : rx_X) {ty : FieldType} (h : rx_okty ty = true) : defaultValue ty = rx_d X (rx_dfv ty) := by
  cases ty <;> first | (cases h; done) | rfl
def rx_dfb (q : vw_C) (df : List rx_V) : Bool := (List.range q.2.2).all (fun k => @decide _ (rx_dV (df.getD k (.inl (.inl 7))) (rx_dfv (rx_ty q.2.1 k))) && (rx_okty (rx_ty q.2.1 k) && Nat.blt k df.length))
theorem rx_dfb_ok {q : vw_C} {df : List rx_V} (h : rx_dfb q df = true) (X : rx_X) : ∀ j, j < q.2.2 → defaultValue (rx_ty q.2.1 j) = vp_V (df.map (rx_d X)) j := by
  intro j hj
  obtain ⟨h1, h2⟩ := rx_an (List.all_eq_true.mp h j (List.mem_range.mpr hj))
  obtain ⟨h2, h3⟩ := rx_an h2
  have h3 := rx_bt h3
  have h1 := @of_decide_eq_true _ (rx_dV _ _) h1
  rw [rx_dfv_ok X h2, ← h1]
  unfold vp_V
  rw [List.getD_eq_getElem?_getD, List.getD_eq_getElem?_getD, List.getElem?_map, List.getElem?_eq_getElem h3]
  rfl
theorem rx_cls0 : (List.range 13).all (fun k => rx_clb (vwCl.getD k ("", fun _ => ("", "", "", false), 0)) (rx_lps.getD k [])) = true := by decide +kernel
theorem rx_dfs0 : (List.range 13).all (fun k => rx_dfb (vwCl.getD k ("", fun _ => ("", "", "", false), 0)) (rx_dfs.getD k [])) = true := by decide +kernel
theorem rx_ins0 : (List.range 13).all (fun k => rx_wd (rx_ips.getD k 0) (Cond.instantiable (vwCl.getD k ("", fun _ => ("", "", "", false), 0)).1 (vwCl.getD k ("", fun _ => ("", "", "", false), 0)).2.2)) = true := by decide +kernel
theorem rx_Gok0 (F : rx_F) (sl : Nat) : rx_Gok (rx_G0 F sl) := by
  refine ⟨fun a q hq => ?_, fun X a q df hq hdf => ?_, (by show rx_txt.length = 125; decide +kernel), (by show (125 : Nat) < 2147483648; decide)⟩
  · have hlt : a < 13 := (List.getElem?_eq_some_iff.mp hq).1
    have h := List.all_eq_true.mp rx_cls0 a (List.mem_range.mpr hlt)
    rw [List.getD_eq_getElem?_getD, hq] at h
    exact rx_clb_ok h
  · have hlt : a < 13 := (List.getElem?_eq_some_iff.mp hq).1
    have h := List.all_eq_true.mp rx_dfs0 a (List.mem_range.mpr hlt)
    have hdf : rx_dfs[a]? = some df := hdf
    rw [List.getD_eq_getElem?_getD, hq, List.getD_eq_getElem?_getD, hdf] at h
    exact rx_dfb_ok h X
theorem rx_nest_on {w : Cond} (h : rx_isN w = true) : w.onTables = true := by
  cases w <;> first | rfl | (cases h; done)
theorem rx_txt_map (j : Nat) : (rx_txt.map nI).getD j 0 = nI (rx_txt.getD j 0) := by
  rw [List.getD_eq_getElem?_getD, List.getD_eq_getElem?_getD, List.getElem?_map]
  cases rx_txt[j]? <;> rfl
abbrev rx_str : Term := .string "GreyRoute$Words" 38
abbrev rx_val : Term := .field rx_str "java/lang/String" "value" "[B"
theorem rx_el : (List.range 125).all (fun j => decide (Cond.eq (.elem rx_val (.int (Int32.ofNat j))) (.int ((rx_txt.map nI).getD j 0)) ∈ flatC (Jvm.Cond.and given_1 narrow_1))) = true := by decide +kernel
theorem rx_start {p : Program} {s : State} {m : MethodId} {meth : Method} {c : Code} {b L : Nat} {xs : Nat → Int32} (C0 : lw_At p s m meth c b L xs) : ∃ (X : rx_X) (D : va_G), X.1 = xs ∧ X.2.1 = s.heap.size ∧ X.2.2.1 0 = some b ∧ ∀ (F : rx_F) (sl : Nat), (sl = 0 ∨ sl = L + 1) → rx_U0 X D (rx_G0 F sl) s := by
  obtain ⟨hx, hb, hr, hml, hown, hts, hX, hbl, hlocks, hgv⟩ := C0
  have hf := flat_of_before _ hgv
  have hA : ∀ a : Nat, a < s.heap.size → ¬ (fun q : Nat => s.heap.size ≤ q) a := fun a h => Nat.not_le.mpr h
  have hw : ∀ w ∈ rx_words, w.before #[Value.ref b] s = true := fun w h => hts w (List.mem_filter.mp h).1
  -- the classes
  have h1 : ∀ k : Nat, ∃ z : ClassId × (Nat → Nat), ∀ q : vw_C, vwCl[k]? = some q → u_Kn s q.1 q.2.1 q.2.2 z.1 z.2 := by
    intro k
    cases hk : vwCl[k]? with
    | none => exact ⟨(0, fun _ => 0), fun q h => by cases h⟩
    | some q =>
      have hlt : k < 13 := (List.getElem?_eq_some_iff.mp hk).1
      have hi := List.all_eq_true.mp rx_ins0 k (List.mem_range.mpr hlt)
      have hg : vwCl.getD k ("", fun _ => ("", "", "", false), 0) = q := by rw [List.getD_eq_getElem?_getD, hk]; rfl
      rw [hg] at hi
      have hc := (rx_Gok0 [] L).1 k q hk
      obtain ⟨cC, iS, hKn⟩ := u_known (n := q.2.2) hw hc.1 (hw _ (rx_wd_ok hi))
      exact ⟨(cC, iS), fun q' h => by cases h; exact hKn⟩
  obtain ⟨f, hf1⟩ := Classical.axiomOfChoice h1
  -- the arrays' classes
  have harr : ∀ ty : FieldType, Cond.arrayClass ty ∈ lw_tbl → ∃ cA : ClassId, ArrOfT s cA ty ∧ s.vm.findClass ("[" ++ ty.toString) = some cA := by
    intro ty hm
    obtain ⟨cA, k, comp, g1, g2, g3⟩ := Cond.arrayClass_spec (hts _ hm)
    exact ⟨cA, fun n z => ⟨fun k h => (by cases h), k, g2, comp, g3⟩, g1⟩
  obtain ⟨c0, a0, b0⟩ := harr .int (rx_wq_ok (p := 341) (by decide +kernel))
  obtain ⟨c1, a1, b1⟩ := harr .byte (rx_wq_ok (p := 306) (by decide +kernel))
  obtain ⟨c2, a2, b2⟩ := harr .boolean (rx_wq_ok (p := 1835) (by decide +kernel))
  obtain ⟨c3, a3, b3⟩ := harr .long (rx_wq_ok (p := 431) (by decide +kernel))
  have hover := hts (Cond.arrayOver (.object "GreyRoute$State")) (rx_wq_ok (p := 375) (by decide +kernel))
  obtain ⟨comp, c4, k4, o1, o2, o3, o4, o5⟩ := Cond.arrayOver_spec hover
  -- the text
  obtain ⟨adK, adV, hvk, had⟩ := vk_Sof (args := #[Value.ref b]) (s := s) (N := 1) (tm := fun _ => rx_str) (len := [125]) (byt := [rx_txt.map nI]) (A := fun q : Nat => s.heap.size ≤ q)
    (fun i hi => by rcases (show i = 0 by omega) with rfl; decide)
    (fun i hi => hf _ (by decide +kernel)) (fun i hi => hf _ (by decide +kernel)) (fun i hi => hf _ (by decide +kernel))
    (fun i hi => by rcases (show i = 0 by omega) with rfl; exact hf _ (by decide +kernel))
    (fun i hi j hj => by rcases (show i = 0 by omega) with rfl; exact hf _ (of_decide_eq_true (List.all_eq_true.mp rx_el j (List.mem_range.mpr hj))))
    (fun i j hi hj hij => absurd (show i = j by omega) hij) hA
  obtain ⟨t1, t2, t3, t4⟩ := hvk.1 0 (by decide)
  have hstr := hts (Cond.stringRef "GreyRoute$Words" 38 rx_text) (rx_wq_ok (p := 575) (by decide +kernel))
  -- the statics
  have hz1 := va_Zof (A := fun q : Nat => s.heap.size ≤ q) (hts (Cond.laysStatic "java/lang/String" "COMPACT_STRINGS" "Z") (by decide +kernel)) (hts (Cond.initialized "java/lang/String") (by decide +kernel)) (va_eqi (hf (Cond.eq (.static "java/lang/String" "COMPACT_STRINGS" "Z") (.int 1)) (by decide +kernel))) hA
  have hz2 := va_Zqof (A := fun q : Nat => s.heap.size ≤ q) (hts (Cond.laysStatic "jdk/internal/util/Preconditions" "SIOOBE_FORMATTER" "Ljava/util/function/BiFunction;") (by decide +kernel)) (hts (Cond.initialized "jdk/internal/util/Preconditions") (by decide +kernel)) (hf (Cond.isRef (.static "jdk/internal/util/Preconditions" "SIOOBE_FORMATTER" "Ljava/util/function/BiFunction;")) (by decide +kernel)) hA
  obtain ⟨o, hz2⟩ : ∃ o : Option Nat, va_Z "jdk/internal/util/Preconditions" "SIOOBE_FORMATTER" "Ljava/util/function/BiFunction;" (va_rf o) (fun q : Nat => s.heap.size ≤ q) s s.heap := by
    rcases hz2 with z | ⟨t, z⟩
    · exact ⟨none, z⟩
    · exact ⟨some t, z⟩
  refine ⟨(xs, s.heap.size, fun j => match j with | 0 => some b | 1 => some (adK 0) | 2 => some (adV 0) | _ => o, fun t => match t with | 0 => c0 | 1 => c1 | 2 => c2 | 3 => c3 | _ => c4), (fun k => (f k).1, fun k => (f k).2), rfl, rfl, rfl, fun F sl hsl => ?_⟩
  refine ⟨⟨fun k q hk => hf1 k q hk, fun k q hk => ?_⟩, fun w hw => va_Nw.of (rx_nest_on (List.mem_filter.mp hw).2) (hts w (List.mem_filter.mp hw).1), va_AO.of hover, ⟨b, rfl, fun h9 => by
    have e9 : sl - 1 = L := by
      have h9 : 0 < sl := h9
      omega
    show va_X b (sl - 1) xs s s.heap
    rw [e9]; exact hX, hbl⟩, ⟨adK 0, adV 0, rx_text, rfl, rfl, vk_R.of hstr (had 0 (by decide)), t1, t2, t3, ?_⟩, hz1, hz2, Nat.le_refl _⟩
  · match k, hk with
    | 0, hk => cases hk; exact ⟨a0, b0⟩
    | 1, hk => cases hk; exact ⟨a1, b1⟩
    | 2, hk => cases hk; exact ⟨a2, b2⟩
    | 3, hk => cases hk; exact ⟨a3, b3⟩
    | 4, hk => cases hk; exact ⟨fun n z => ⟨fun k h => (by cases h), k4, o3, comp, o4⟩, k4, comp, o3, o4, o1, o5⟩
    | k + 5, hk => simp [rx_tys] at hk
  · have e : (fun j => Value.int (nI (rx_txt.getD j 0))) = fun j => Value.int (([rx_txt.map nI].getD 0 []).getD j 0) := by
      funext j
      exact congrArg Value.int (rx_txt_map j).symm
    show va_T .byte (adV 0) 125 (fun j => .int (nI (rx_txt.getD j 0))) _ s s.heap
    rw [e]
    exact t4
end
section
/-! the law: a run from a place to a place, and to its end -/
noncomputable def rx_is (o : Option rx_R) (pc : Nat) (L : rx_L) (S : List rx_V) (w : List rx_C) (cc ss : Nat) : Bool := match o with
  | some (e :: _, L', S', w', cc', ss') => Nat.beq e.1 pc && (@decide _ (rx_dL L' L) && (@decide _ (rx_dS S' S) && (@decide _ (rx_dW w' w) && (Nat.beq cc' cc && Nat.beq ss' ss))))
  | _ => false
theorem rx_is_ok {o : Option rx_R} {pc : Nat} {L : rx_L} {S : List rx_V} {w : List rx_C} {cc ss : Nat} (h : rx_is o pc L S w cc ss = true) : ∃ e rest, o = some (e :: rest, L, S, w, cc, ss) ∧ e.1 = pc := by
  unfold rx_is at h
  split at h
  · rename_i e rest L' S' w' cc' ss'
    obtain ⟨h1, h⟩ := rx_an h
    obtain ⟨h2, h⟩ := rx_an h
    obtain ⟨h3, h⟩ := rx_an h
    obtain ⟨h4, h⟩ := rx_an h
    obtain ⟨h5, h6⟩ := rx_an h
    have h2 := @of_decide_eq_true _ (rx_dL _ _) h2
    have h3 := @of_decide_eq_true _ (rx_dS _ _) h3
    have h4 := @of_decide_eq_true _ (rx_dW _ _) h4
    have h5 := rx_bq h5
    have h6 := rx_bq h6
    subst h2; subst h3; subst h4; subst h5; subst h6
    exact ⟨e, rest, rfl, rx_bq h1⟩
  · cases h
/-- the law's end: 1 on the stack -/
noncomputable def rx_isE (o : Option rx_R) : Bool := match o with
  | some ((_, .ireturn, _) :: _, _, [.inl (.inl n)], _, cc, ss) => Nat.beq n 1 && (Nat.ble cc 600000 && Nat.ble ss 7302250)
  | _ => false
noncomputable def rx_lawR (F : rx_F) (sl stop : Nat) (cs : List rx_E) (L : rx_L) (S : List rx_V) (w : List rx_C) (cc ss : Nat) : Option rx_R := rx_loop (rx_G0 F sl) rx_mL 4 600000 7302250 (rx_cap rx_tb) (rx_ex (rx_G0 F sl) rx_tb 10000000 20) stop 10000000 cs L S w cc ss
section RXL
variable {p : Program} {l : Launch} {e : Env} {s : State} {m : MethodId} {below : List Frame} {meth : Method} {c : Code} {b L : Nat} {xs : Nat → Int32} {X : rx_X} {D : va_G}
/-- what the law's walk stands on -/
def rx_lawC (p : Program) (s : State) (m : MethodId) (meth : Method) (c : Code) (b L : Nat) (xs : Nat → Int32) (X : rx_X) (D : va_G) : Prop := lw_At p s m meth c b L xs ∧ X.1 = xs ∧ X.2.1 = s.heap.size ∧ meth.name = "law" ∧ ∀ (F : rx_F) (sl : Nat), (sl = 0 ∨ sl = L + 1) → rx_U0 X D (rx_G0 F sl) s
abbrev rx_LW (p : Program) (l : Launch) (e : Env) (s : State) (m : MethodId) (below : List Frame) (meth : Method) (c : Code) (b : Nat) (X : rx_X) (D : va_G) (pc : Nat) (Lc : rx_L) (S : List rx_V) (w : List rx_C) (cc ss : Nat) : Prop := rx_W p l e room_1 s m #[Value.ref b] below meth c (lw_Z below #[Value.ref b] s) X D (rx_G0 [] 0) 4 pc Lc S w cc ss
theorem rx_lawG (C0 : rx_lawC p s m meth c b L xs X D) {F : rx_F} {sl stop pc : Nat} (hsl : sl = 0 ∨ sl = L + 1) (hF : rx_fok X F) {Lc : rx_L} {S : List rx_V} {w : List rx_C} {cc ss : Nat} {r : rx_R} (h : rx_lawR F sl stop (rx_find rx_mL pc) Lc S w cc ss = some r)
    (hE : ∀ (e1 : rx_E) (rest1 : List rx_E) (L1 : rx_L) (S1 : List rx_V) (w1 : List rx_C) (c1 s1 : Nat), e1 ∈ rx_mL → r = (e1 :: rest1, L1, S1, w1, c1, s1) → rx_LW p l e s m below meth c b X D e1.1 L1 S1 w1 c1 s1) : rx_LW p l e s m below meth c b X D pc Lc S w cc ss := by
  obtain ⟨⟨hx, hb, hr, hml, hown, hts, hX, hbl, hlocks, hgv⟩, e1, e2, hnm, hU⟩ := C0
  have C : rx_Cx p s m #[Value.ref b] c X D (rx_G0 F sl) "GreyRouteLaw" code 4 := ⟨hx, hb, hml, hown, fun w h => hts w (List.mem_filter.mp h).1, hU F sl hsl, hF⟩
  rcases rx_find_ok rx_mL pc with h0 | ⟨pre, en, rest, h1, h2, h3⟩
  · rw [h0] at h; cases h
  · rw [h2] at h
    have hgo := rx_loop_ok (l := l) (e := e) (R := room_1) (below := below) (meth := meth) (Q := lw_Z below #[Value.ref b] s) (mi := rx_mis) (nm := "law") (cap := rx_cap rx_tb) (ex := rx_ex (rx_G0 F sl) rx_tb 10000000 20) (mc := 600000) (ms := 7302250) (d := 20) (cd := rx_mL) (stop := stop) (r := r) C (rx_Gok0 F sl) hnm (Nat.le_refl _) (Nat.le_refl _) (by decide) (by decide) (rx_ex_ok (rx_Gok0 F sl) hF rx_T_ok 20) rx_mL_ok rx_mL_sq (fun e9 pre9 rest9 L9 S9 w9 c9 s9 hcd9 hr9 => hE e9 rest9 L9 S9 w9 c9 s9 (by rw [hcd9]; exact List.mem_append_right _ List.mem_cons_self) hr9) 10000000 pre en rest Lc S w cc ss h1 h
    rw [h3] at hgo
    exact hgo
theorem rx_lawS (C0 : rx_lawC p s m meth c b L xs X D) {F : rx_F} {sl stop pc pc' : Nat} (hsl : sl = 0 ∨ sl = L + 1) (hF : rx_fok X F) {Lc L' : rx_L} {S S' : List rx_V} {w w' : List rx_C} {cc ss cc' ss' : Nat} (h : rx_is (rx_lawR F sl stop (rx_find rx_mL pc) Lc S w cc ss) pc' L' S' w' cc' ss' = true) (hk : rx_LW p l e s m below meth c b X D pc' L' S' w' cc' ss') : rx_LW p l e s m below meth c b X D pc Lc S w cc ss := by
  obtain ⟨e0, rest0, h1, h2⟩ := rx_is_ok h
  refine rx_lawG C0 hsl hF h1 (fun e1 rest1 L1 S1 w1 c1 s1 _ hr => ?_)
  cases hr
  rw [h2]
  exact hk
theorem rx_lawE (C0 : rx_lawC p s m meth c b L xs X D) {F : rx_F} {sl pc : Nat} (hsl : sl = 0 ∨ sl = L + 1) (hF : rx_fok X F) {Lc : rx_L} {S : List rx_V} {w : List rx_C} {cc ss : Nat} (h : rx_isE (rx_lawR F sl 99999999 (rx_find rx_mL pc) Lc S w cc ss) = true) : rx_LW p l e s m below meth c b X D pc Lc S w cc ss := by
  cases ho : rx_lawR F sl 99999999 (rx_find rx_mL pc) Lc S w cc ss with
  | none => rw [ho] at h; cases h
  | some r =>
    refine rx_lawG C0 hsl hF ho (fun e1 rest1 L1 S1 w1 c1 s1 hm hr => ?_)
    rw [ho, hr] at h
    obtain ⟨⟨hx, hb, hret, hml, hown, hts, hX, hbl, hlocks, hgv⟩, -, e2, -, -⟩ := C0
    have hok := List.all_eq_true.mp rx_mL_ok e1 hm
    obtain ⟨pc1, i1, t1⟩ := e1
    unfold rx_isE at h
    split at h
    · rename_i heq
      cases heq
      obtain ⟨g1, h⟩ := rx_an h
      obtain ⟨g2, g3⟩ := rx_an h
      have g1 := rx_bq g1
      subst g1
      obtain ⟨hd, -⟩ := rx_d1_ok hok
      intro H locs ls hI hl
      refine va_forget (fun q hq => by have := hI.2.2.2.2 q hq; unfold rx_A at this; rw [e2] at this; exact this) ?_
      refine W.widen (k := 600000) (n := 7302250) (rx_bl g2) (rx_bl g3) ?_
      exact lw_ret hx hb hret hlocks hd
    · cases h
theorem rx_fok_c {X : rx_X} {u : Nat × List (Nat × Nat)} {lo hi : Nat} {F : rx_F} (h1 : lo ≤ rx_b (rx_U X u.1 u.2)) (h2 : rx_b (rx_U X u.1 u.2) ≤ hi) (h : rx_fok X F) : rx_fok X ((u, lo, hi) :: F) := by
  intro q hq
  rcases List.mem_cons.mp hq with rfl | hq
  · exact ⟨h1, h2⟩
  · exact h q hq
theorem rx_fok_n {X : rx_X} : rx_fok X [] := fun q hq => by cases hq
end RXL
end
section
/-! a base further on: the last cells of a world, alone -/
def rx_upV (k : Nat) (v : rx_V) : rx_V := match v with
  | .inr (.inr (.inl (some j))) => .inr (.inr (.inl (some (j + k))))
  | v => v
def rx_upC (k : Nat) (c : rx_C) : rx_C := match c with
  | .inl o => .inl (o.1, o.2.map (rx_upV k))
  | .inr a => .inr (a.1, a.2.1, a.2.2.map (fun q => (q.1, rx_upV k q.2)))
def rx_Xu (X : rx_X) (k : Nat) : rx_X := (X.1, X.2.1 + k, X.2.2.1, X.2.2.2)
theorem rx_U_up (X : rx_X) (k j : Nat) (u : List (Nat × Nat)) : rx_U (rx_Xu X k) j u = rx_U X j u := by
  induction u with
  | nil => rfl
  | cons q t ih => show rx_op q.1 (rx_U (rx_Xu X k) j t) (nI q.2) = rx_op q.1 (rx_U X j t) (nI q.2); rw [ih]
theorem rx_N_up (X : rx_X) (k : Nat) (i : rx_I) : rx_N (rx_Xu X k) i = rx_N X i := by
  rcases i with n | u
  · rfl
  · exact rx_U_up X k u.1 u.2
theorem rx_fok_up {X : rx_X} {k : Nat} {F : rx_F} (h : rx_fok X F) : rx_fok (rx_Xu X k) F := fun q hq => by rw [rx_U_up]; exact h q hq
theorem rx_d_up (X : rx_X) (k : Nat) (v : rx_V) : rx_d (rx_Xu X k) v = rx_d X (rx_upV k v) := by
  rcases v with i | ((n | n) | ((_ | j) | j))
  · show Value.int (rx_N (rx_Xu X k) i) = Value.int (rx_N X i)
    rw [rx_N_up]
  · rfl
  · rfl
  · rfl
  · show Value.ref (X.2.1 + k + j) = Value.ref (X.2.1 + (j + k))
    rw [show X.2.1 + k + j = X.2.1 + (j + k) by omega]
  · rfl
theorem rx_vi_up (X : rx_X) (k : Nat) (v : rx_V) : rx_vi (rx_Xu X k) v = rx_vi X (rx_upV k v) := by
  rcases v with i | ((n | n) | ((_ | j) | j)) <;> first | exact rx_N_up X k i | rfl
theorem rx_vl_up (X : rx_X) (k : Nat) (v : rx_V) : rx_vl (rx_Xu X k) v = rx_vl X (rx_upV k v) := by
  rcases v with i | ((n | n) | ((_ | j) | j)) <;> rfl
theorem rx_vr_up (X : rx_X) (k : Nat) (v : rx_V) : rx_vr (rx_Xu X k) v = rx_vr X (rx_upV k v) := by
  rcases v with i | ((n | n) | ((_ | j) | j)) <;> first | rfl | skip
  show some (X.2.1 + k + j) = some (X.2.1 + (j + k))
  rw [show X.2.1 + k + j = X.2.1 + (j + k) by omega]
theorem rx_lk_up (k : Nat) (u : List (Nat × rx_V)) (j : Nat) (d : rx_V) (hd : rx_upV k d = d) : rx_lk (u.map (fun q => (q.1, rx_upV k q.2))) j d = rx_upV k (rx_lk u j d) := by
  induction u with
  | nil => exact hd.symm
  | cons q t ih =>
    change cond (Nat.beq q.1 j) (rx_upV k q.2) (rx_lk (t.map (fun q => (q.1, rx_upV k q.2))) j d) = rx_upV k (cond (Nat.beq q.1 j) q.2 (rx_lk t j d))
    cases Nat.beq q.1 j with
    | true => rfl
    | false => exact ih
theorem rx_ct_up (X : rx_X) (k t : Nat) (u : List (Nat × rx_V)) : rx_ct (rx_Xu X k) t u = rx_ct X t (u.map (fun q => (q.1, rx_upV k q.2))) := by
  unfold rx_ct
  split
  · congr 2; funext j; rw [rx_lk_up k u j _ rfl, rx_vl_up]
  · congr 5; funext j; rw [rx_lk_up k u j _ rfl, rx_vr_up]
  · congr 1; funext j; rw [rx_lk_up k u j _ rfl, rx_vi_up]
theorem rx_ce_up (X : rx_X) (k : Nat) (c : rx_C) : rx_ce (rx_Xu X k) c = rx_ce X (rx_upC k c) := by
  rcases c with o | a
  · show Sum.inr (o.1, o.2.map (rx_d (rx_Xu X k))) = Sum.inr (o.1, (o.2.map (rx_upV k)).map (rx_d X))
    rw [List.map_map]
    congr 3
    funext v
    exact rx_d_up X k v
  · show Sum.inl (X.2.2.2 a.1, a.2.1, rx_ct (rx_Xu X k) a.1 a.2.2) = Sum.inl (X.2.2.2 a.1, a.2.1, rx_ct X a.1 (a.2.2.map (fun q => (q.1, rx_upV k q.2))))
    rw [rx_ct_up]
theorem rx_w_up (X : rx_X) (k : Nat) : ∀ (w : List rx_C) (j : Nat), rx_w (rx_Xu X k) j w = rx_w X (k + j) (w.map (rx_upC k)) := by
  intro w
  induction w with
  | nil => intro j; rfl
  | cons c t ih =>
    intro j
    show (X.2.1 + k + j, rx_ce (rx_Xu X k) c) :: rx_w (rx_Xu X k) (j + 1) t = (X.2.1 + (k + j), rx_ce X (rx_upC k c)) :: rx_w X (k + j + 1) (t.map (rx_upC k))
    rw [ih, rx_ce_up, show X.2.1 + k + j = X.2.1 + (k + j) by omega]
    rfl
theorem rx_P_drop {X : rx_X} {D : va_G} {k : Nat} {w wm : List rx_C} {H : Heap} (h : va_P D vwCl (rx_w X 0 w) H) (hw : w.drop k = wm.map (rx_upC k)) : va_P D vwCl (rx_w (rx_Xu X k) 0 wm) H := by
  rw [rx_w_up, ← hw, Nat.add_zero]
  intro i q hi
  rw [rx_w_at, List.getElem?_drop] at hi
  refine h (k + i) q ?_
  rw [rx_w_at, Nat.zero_add]
  exact hi
theorem rx_U0_up {X : rx_X} {D : va_G} {G : rx_G} {U : State} {k : Nat} (h : rx_U0 X D G U) (hk : X.2.1 + k ≤ U.heap.size) : rx_U0 (rx_Xu X k) D G U := by
  obtain ⟨h1, h2, h3, ⟨b, b1, b2, b3⟩, ⟨q1, q2, tx, c1, c2, c3, c4, c5, c6, c7⟩, h5, h6, h7⟩ := h
  have hA : ∀ q, rx_A (rx_Xu X k) q → rx_A X q := fun q hq => Nat.le_trans (Nat.le_add_right _ _) hq
  exact ⟨h1, h2, h3, ⟨b, b1, b2, Nat.lt_of_lt_of_le b3 (Nat.le_add_right _ _)⟩, ⟨q1, q2, tx, c1, c2, c3, c4.narrow hA, c5.narrow hA, c6.narrow hA, c7.narrow hA⟩, h5.narrow hA, h6.narrow hA, hk⟩
/-- a method on the last cells, of which only the answer is told -/
def rx_Qx (X : rx_X) (v : Value) : Array Value → State → Outcome → State → Prop := fun _ st oc t => oc = .returned (some v) ∧ st.heap.size ≤ t.heap.size ∧ ∀ q : Nat, q < st.heap.size → ¬ rx_A X q → t.heap[q]? = st.heap[q]?
section RXU
variable {p : Program} {l : Launch} {e : Env} {s : State} {m : MethodId} {below : List Frame} {meth : Method} {c : Code} {b L : Nat} {xs : Nat → Int32} {X : rx_X} {D : va_G}
/-- the law calls a method of the object that is the first of the last cells -/
theorem rx_mcall (C0 : rx_lawC p s m meth c b L xs X D) {Y : rx_Y} {pc idx n k d c1 s1 : Nat} {F : rx_F} {Lc : rx_L} {as' S' : List rx_V} {w wm : List rx_C} {cc ss : Nat} {v : Value} {fs : List rx_V} {ci : Nat} (hd : decode code pc = .ok (.invokevirtual idx, 3)) (hcc : cc + c1 ≤ 600000) (hss : ss + s1 ≤ 7302250) (hdd : d ≤ 100) (hmx : Y.2.2.1 ≤ 45)
    (hc : Cond.code Y.1 Y.2.1 Y.2.2.1 Y.2.2.2 ∈ rx_words) (hi : Cond.initialized Y.1.cls ∈ rx_words) (hst : Cond.instanceMethod Y.1 ∈ rx_words) (hse : Cond.selects Y.1.cls Y.1 Y.1 ∈ rx_words) (hlk : Cond.methodLink "GreyRouteLaw" idx Y.1 ∈ rx_words) (hy : Y.1.cls ≠ "java/lang/invoke/MethodHandle" ∧ Y.1.cls ≠ "java/lang/invoke/VarHandle" ∧ (parseMethodDescriptor Y.1.desc).map (fun d => d.parameters.length) = some n)
    (hcl : ∃ T N, vwCl[ci]? = some (Y.1.cls, T, N)) (hw0 : wm[0]? = some (.inl (ci, fs))) (hw : w.drop k = wm.map (rx_upC k)) (hlen : w.length = k + wm.length) (hal : as'.length = n) (hS' : rx_cats S' ≤ 8)
    (hM : Met l Y.1 (Cond.code Y.1 Y.2.1 Y.2.2.1 Y.2.2.2 :: rx_words) (rx_rm d c1 s1) (rx_Pc (rx_Xu X k) D (rx_G0 F 0) (.inr (.inr (.inl (some 0))) :: as') wm) (rx_Qx (rx_Xu X k) v) c1 s1 (rx_A (rx_Xu X k)))
    (hk : ∀ (H : Heap) (locs : List Loc) (ls : Array Slot), va_S (rx_A X) s.heap H locs → lv_has ls 4 (rx_Lm X Lc) → W p l e room_1 s m #[Value.ref b] below meth c H locs (cc + c1) (ss + s1) (lw_Z below #[Value.ref b] s) (F0 m (pc + 3) ls (v :: S'.map (rx_d X)))) :
    rx_LW p l e s m below meth c b X D pc Lc (as'.reverse.map (rx_upV k) ++ .inr (.inr (.inl (some k))) :: S') w cc ss := by
  obtain ⟨⟨hx, hb, hr, hml, hown, hts, hX, hbl, hlocks, hgv⟩, e1, e2, hnm, hU⟩ := C0
  have hU := hU F 0 (Or.inl rfl)
  have hw' : ∀ w ∈ rx_words, w.before #[Value.ref b] s = true := fun w h => hts w (List.mem_filter.mp h).1
  intro H locs ls hI hl
  have hlow := rx_low hI hU.2.2.2.2.2.2.2
  have hrun : va_Run p l e room_1 s m #[Value.ref b] below meth c H locs cc ss c1 s1 (F0 m pc ls ((as'.reverse.map (rx_upV k) ++ .inr (.inr (.inl (some k))) :: S').map (rx_d X))) (S'.map (rx_d X)) (rx_Qx (rx_Xu X k) v #[]) (rx_A (rx_Xu X k)) := by
    refine rx_W_sizeR (fun hsz => ?_)
    have hhi := hI.2.1 rfl
    have hPm := rx_P_drop (D := D) hI.1 hw
    obtain ⟨T, N, hcl⟩ := hcl
    have hrec := va_recv (s := s) hU.1 hPm hcl (rx_w_get (X := rx_Xu X k) hw0)
    have hargs : (.inr (.inr (.inl (some 0))) :: as' : List rx_V).map (rx_d (rx_Xu X k)) = .ref (X.2.1 + k) :: as'.map (rx_d (rx_Xu X k)) := rfl
    have hpv : PreV s H Y.1.cls (X.2.1 + k) (rx_Pc (rx_Xu X k) D (rx_G0 F 0) (.inr (.inr (.inl (some 0))) :: as') wm) (as'.map (rx_d (rx_Xu X k))) := by
      refine ⟨rx_Pc_blind _ _ _ _ _, hrec, fun U hU2 hW => ⟨by rw [hargs], by rw [hU2]; exact hPm, fun _ => ?_, ?_⟩⟩
      · show U.heap.size ≤ X.2.1 + k + wm.length
        rw [hU2]
        omega
      · refine rx_U0_up (rx_U0.to hW ?_ (fun q h1 h2 => ?_) hU) ?_
        · rw [hU2]; exact hI.2.2.1
        · rw [hU2]; exact hI.2.2.2.1 q h1 h2
        · rw [hU2]; omega
    have hstk : (as'.reverse.map (rx_upV k) ++ .inr (.inr (.inl (some k))) :: S').map (rx_d X) = (as'.map (rx_d (rx_Xu X k))).reverse ++ .ref (X.2.1 + k) :: S'.map (rx_d X) := by
      have e9 : ∀ zs : List rx_V, (zs.map (rx_upV k)).map (rx_d X) = zs.map (rx_d (rx_Xu X k)) := fun zs => by
        rw [List.map_map]
        exact List.map_congr_left (fun v _ => (rx_d_up X k v).symm)
      rw [List.map_append, e9, ← List.map_reverse]
      rfl
    have hR : (rx_rm d c1 s1).frames + 1 ≤ room_1.frames ∧ 8 + (Y.2.2.1 + 11) + (rx_rm d c1 s1).locals ≤ room_1.locals := ⟨by show d + 1 ≤ 2048; omega, by show 8 + (Y.2.2.1 + 11) + 64 * d ≤ 84000; omega⟩
    have hrm : ((S'.map (rx_d X)).map (fun v => v.category)).sum ≤ 8 := by rw [rx_cats_eq]; exact hS'
    exact va_runV (As := as'.map (rx_d (rx_Xu X k))) (b := X.2.1 + k) ⟨hx, hb, hml, hown, hw'⟩ hM ⟨callB_of n hw' (rx_goodc hc) rfl rfl rfl (hw' _ hi) (hw' _ hlk) hy hR, hw' _ hst, hw' _ hse⟩ hpv rfl (by rw [List.length_map]; exact hal) hl.1 hstk (lv_room hrm) hd ⟨hcc, hss⟩
  intro T hT Z
  obtain ⟨v', st₀, t, T', L1, e0, Z', hL, e3, e4, ⟨hv, hz2, hk2⟩, st⟩ := hrun T hT Z
  rw [e0] at hz2 hk2
  cases hv
  have hA : ∀ q, rx_A (rx_Xu X k) q → rx_A X q := fun q hq => Nat.le_trans (Nat.le_add_right _ _) hq
  have hV : va_S (rx_A X) s.heap T'.heap (locs ++ L1) := by
    refine ⟨Nat.le_trans hI.2.2.1 (by rw [e3]; exact hz2), fun q h1 h2 => ?_, fun q hq => ?_⟩
    · rw [e3, hk2 q (Nat.lt_of_lt_of_le h1 hI.2.2.1) (fun z => h2 (hA q z))]
      exact hI.2.2.2.1 q h1 h2
    · rcases List.mem_append.mp hq with z | z
      · exact hI.2.2.2.2 q z
      · exact hA _ (hL q z)
  obtain ⟨t2, a1, b1⟩ := hk T'.heap (locs ++ L1) ls hV hl T' rfl Z'
  exact ⟨t2, st t2 a1, b1⟩
/-- a run without cells, to the law's end -/
noncomputable def rx_G1 (F : rx_F) (sl : Nat) : rx_G := (F, false, sl, rx_txt, 125, rx_dfs)
theorem rx_lawZ (C0 : rx_lawC p s m meth c b L xs X D) {pc : Nat} {Lc : rx_L} {S : List rx_V} {cc ss : Nat} (h : rx_isE (rx_loop (rx_G1 [] (L + 1)) rx_mL 4 600000 7302250 (rx_cap rx_tb) (rx_ex (rx_G1 [] (L + 1)) rx_tb 100 0) 99999999 100 (rx_find rx_mL pc) Lc S [] cc ss) = true) :
    ∀ (H : Heap) (locs : List Loc) (ls : Array Slot), va_S (rx_A X) s.heap H locs → lv_has ls 4 (rx_Lm X Lc) → W p l e room_1 s m #[Value.ref b] below meth c H locs cc ss (lw_Z below #[Value.ref b] s) (F0 m pc ls (S.map (rx_d X))) := by
  intro H locs ls hV hl
  obtain ⟨⟨hx, hb, hret, hml, hown, hts, hX, hbl, hlocks, hgv⟩, e1, e2, hnm, hU⟩ := C0
  have C : rx_Cx p s m #[Value.ref b] c X D (rx_G1 [] (L + 1)) "GreyRouteLaw" code 4 := ⟨hx, hb, hml, hown, fun w h => hts w (List.mem_filter.mp h).1, hU [] (L + 1) (Or.inr rfl), rx_fok_n⟩
  cases ho : rx_loop (rx_G1 [] (L + 1)) rx_mL 4 600000 7302250 (rx_cap rx_tb) (rx_ex (rx_G1 [] (L + 1)) rx_tb 100 0) 99999999 100 (rx_find rx_mL pc) Lc S [] cc ss with
  | none => rw [ho] at h; cases h
  | some r =>
    rcases rx_find_ok rx_mL pc with h0 | ⟨pre, en, rest, h1, h2, h3⟩
    · rw [h0] at ho; cases ho
    · rw [h2] at ho
      have hgo : rx_W p l e room_1 s m #[Value.ref b] below meth c (lw_Z below #[Value.ref b] s) X D (rx_G1 [] (L + 1)) 4 en.1 Lc S [] cc ss := by
        refine rx_loop_ok (mi := rx_mis) (nm := "law") (cap := rx_cap rx_tb) (ex := rx_ex (rx_G1 [] (L + 1)) rx_tb 100 0) (mc := 600000) (ms := 7302250) (d := 0) (cd := rx_mL) (stop := 99999999) (r := r) C (rx_Gok0 [] (L + 1)) hnm (Nat.le_refl _) (Nat.le_refl _) (by decide) (by decide) (fun nu as w r' w' h9 => by cases h9) rx_mL_ok rx_mL_sq ?_ 100 pre en rest Lc S [] cc ss h1 ho
        intro e1' pre1 rest1 L1 S1 w1 c1 s1 hcd1 hr1
        have hm : e1' ∈ rx_mL := by rw [hcd1]; exact List.mem_append_right _ List.mem_cons_self
        have hok := List.all_eq_true.mp rx_mL_ok e1' hm
        rw [h2, ho, hr1] at h
        obtain ⟨pc1, i1, t1⟩ := e1'
        unfold rx_isE at h
        split at h
        · rename_i heq
          cases heq
          obtain ⟨g1, h⟩ := rx_an h
          obtain ⟨g2, g3⟩ := rx_an h
          have g1 := rx_bq g1
          subst g1
          obtain ⟨hd, -⟩ := rx_d1_ok hok
          intro H locs ls hI hl
          refine va_forget (fun q hq => by have := hI.2.2.2.2 q hq; unfold rx_A at this; rw [e2] at this; exact this) ?_
          refine W.widen (k := 600000) (n := 7302250) (rx_bl g2) (rx_bl g3) ?_
          exact lw_ret hx hb hret hlocks hd
        · cases h
      rw [h3] at hgo
      exact hgo H locs ls ⟨fun k q hk => by simp [rx_w] at hk, fun q => (by cases q), hV⟩ hl
end RXU
end
section
/-! methods on the last cells: runs from a place to a place, and to the answer -/
noncomputable def rx_isR (o : Option rx_R) (n mc ms : Nat) : Bool := match o with
  | some ((_, .ireturn, _) :: _, _, [.inl (.inl k)], _, cc, ss) => Nat.beq k n && (Nat.ble cc mc && Nat.ble ss ms)
  | _ => false
noncomputable def rx_mR (x : List rx_E × Nat × Nat × Nat × Nat) (F : rx_F) (stop pc : Nat) (L : rx_L) (S : List rx_V) (w : List rx_C) : Option rx_R := rx_loop (rx_G0 F 0) x.1 x.2.1 x.2.2.1 x.2.2.2.1 (rx_cap rx_tb) (rx_ex (rx_G0 F 0) rx_tb 10000000 20) stop 10000000 (rx_find x.1 pc) L S w 0 0
def rx_mC (p : Program) (s : State) (m : MethodId) (args : Array Value) (c : Code) (meth : Method) (X : rx_X) (D : va_G) (Y : rx_Y) (nL : Nat) : Prop := meth.name = Y.1.name ∧ meth.sig.returnType = Y.2.2.2 ∧ meth.locks = false ∧ ∀ F, rx_fok X F → rx_Cx p s m args c X D (rx_G0 F 0) Y.1.cls Y.2.1 nL
section RXV
variable {p : Program} {l : Launch} {e : Env} {s : State} {m : MethodId} {args : Array Value} {below : List Frame} {meth : Method} {c : Code} {X : rx_X} {D : va_G} {Y : rx_Y} {x : List rx_E × Nat × Nat × Nat × Nat} {v : Value}
abbrev rx_MW (p : Program) (l : Launch) (e : Env) (s : State) (m : MethodId) (args : Array Value) (below : List Frame) (meth : Method) (c : Code) (X : rx_X) (D : va_G) (Y : rx_Y) (x : List rx_E × Nat × Nat × Nat × Nat) (v : Value) (pc : Nat) (L : rx_L) (S : List rx_V) (w : List rx_C) (cc ss : Nat) : Prop := rx_W p l e (rx_rm 21 x.2.2.1 x.2.2.2.1) s m args below meth c (MQ below (rx_Qx X v) args s x.2.2.1 x.2.2.2.1 (rx_A X)) X D (rx_G0 [] 0) x.2.1 pc L S w cc ss
theorem rx_mG (hx : rx_tOk rx_mis x Y) (Cm : rx_mC p s m args c meth X D Y x.2.1) {F : rx_F} (hF : rx_fok X F) {stop pc : Nat} {L : rx_L} {S : List rx_V} {w : List rx_C} {r : rx_R} (h : rx_mR x F stop pc L S w = some r)
    (hE : ∀ (e1 : rx_E) (rest1 : List rx_E) (L1 : rx_L) (S1 : List rx_V) (w1 : List rx_C) (c1 s1 : Nat), e1 ∈ x.1 → r = (e1 :: rest1, L1, S1, w1, c1, s1) → rx_MW p l e s m args below meth c X D Y x v e1.1 L1 S1 w1 c1 s1) : rx_MW p l e s m args below meth c X D Y x v pc L S w 0 0 := by
  obtain ⟨hnm, hret, hlk, hC⟩ := Cm
  obtain ⟨hmx, hrk, hcode, hpl, hokA, hsq, en0, rest0, hcd0, hpc0⟩ := hx
  unfold rx_mR at h
  rcases rx_find_ok x.1 pc with h0 | ⟨pre, en, rest, h1, h2, h3⟩
  · rw [h0] at h; cases h
  · rw [h2] at h
    have hgo := rx_loop_ok (l := l) (e := e) (R := rx_rm 21 x.2.2.1 x.2.2.2.1) (below := below) (meth := meth) (Q := MQ below (rx_Qx X v) args s x.2.2.1 x.2.2.2.1 (rx_A X)) (mi := rx_mis) (nm := Y.1.name) (cap := rx_cap rx_tb) (ex := rx_ex (rx_G0 F 0) rx_tb 10000000 20) (mc := x.2.2.1) (ms := x.2.2.2.1) (d := 20) (cd := x.1) (stop := stop) (r := r) (hC F hF) (rx_Gok0 F 0) hnm (Nat.le_refl _) (Nat.le_refl _) (Nat.le_refl _) (by show 64 * 20 + 64 ≤ 64 * 21; decide) (rx_ex_ok (rx_Gok0 F 0) hF rx_T_ok 20) hokA hsq (fun e9 pre9 rest9 L9 S9 w9 c9 s9 hcd9 hr9 => hE e9 rest9 L9 S9 w9 c9 s9 (by rw [hcd9]; exact List.mem_append_right _ List.mem_cons_self) hr9) 10000000 pre en rest L S w 0 0 h1 h
    rw [h3] at hgo
    exact hgo
theorem rx_mS (hx : rx_tOk rx_mis x Y) (Cm : rx_mC p s m args c meth X D Y x.2.1) {F : rx_F} (hF : rx_fok X F) {stop pc pc' : Nat} {L L' : rx_L} {S S' : List rx_V} {w w' : List rx_C} (h : rx_is (rx_mR x F stop pc L S w) pc' L' S' w' 0 0 = true) (hk : rx_MW p l e s m args below meth c X D Y x v pc' L' S' w' 0 0) : rx_MW p l e s m args below meth c X D Y x v pc L S w 0 0 := by
  obtain ⟨e0, rest0, h1, h2⟩ := rx_is_ok h
  refine rx_mG hx Cm hF h1 (fun e1 rest1 L1 S1 w1 c1 s1 _ hr => ?_)
  cases hr
  rw [h2]
  exact hk
theorem rx_mE (hx : rx_tOk rx_mis x Y) (Cm : rx_mC p s m args c meth X D Y x.2.1) {F : rx_F} (hF : rx_fok X F) {pc n : Nat} {L : rx_L} {S : List rx_V} {w : List rx_C} (hi : Y.2.2.2 = some .int) (h : rx_isR (rx_mR x F 99999999 pc L S w) n x.2.2.1 x.2.2.2.1 = true) : rx_MW p l e s m args below meth c X D Y x (.int (nI n)) pc L S w 0 0 := by
  cases ho : rx_mR x F 99999999 pc L S w with
  | none => rw [ho] at h; cases h
  | some r =>
    refine rx_mG hx Cm hF ho (fun e1 rest1 L1 S1 w1 c1 s1 hm hr => ?_)
    rw [ho, hr] at h
    obtain ⟨hnm, hret, hlk, hC⟩ := Cm
    obtain ⟨hmx, hrk, hcode, hpl, hokA, hsq, -⟩ := hx
    have hok := List.all_eq_true.mp hokA e1 hm
    have C := hC [] rx_fok_n
    obtain ⟨pc1, i1, t1⟩ := e1
    unfold rx_isR at h
    split at h
    · rename_i heq
      cases heq
      obtain ⟨g1, h⟩ := rx_an h
      obtain ⟨g2, g3⟩ := rx_an h
      have g1 := rx_bq g1
      subst g1
      obtain ⟨hd, -⟩ := rx_d1_ok hok
      intro H locs ls hI hl
      refine W.widen (k := x.2.2.1) (n := x.2.2.2.1) (rx_bl g2) (rx_bl g3) ?_
      exact W.iret C.1 C.2.1 (by rw [hret]; exact hi) (fun t ht _ => ⟨rfl, by rw [ht]; exact hI.2.2.1, fun q h1 h2 => by rw [ht]; exact hI.2.2.2.1 q h1 h2⟩) hI.2.2.2.2 hd
    · cases h
/-- the same state in other words -/
theorem rx_mL' {pc : Nat} {L L' : rx_L} {S : List rx_V} {w : List rx_C} {cc ss : Nat} (he : rx_Lm X L' = rx_Lm X L) (h : rx_MW p l e s m args below meth c X D Y x v pc L' S w cc ss) : rx_MW p l e s m args below meth c X D Y x v pc L S w cc ss := by
  intro H locs ls hI hl
  rw [← he] at hl
  exact h H locs ls hI hl
end RXV
theorem rx_mMet {l : Launch} {X : rx_X} {D : va_G} {Y : rx_Y} {x : List rx_E × Nat × Nat × Nat × Nat} {as : List rx_V} {wm : List rx_C} {v : Value} (hx : rx_tOk rx_mis x Y) (hca : rx_cats as ≤ x.2.1)
    (hgo : ∀ (p : Program) (e : Env) (s : State) (m : MethodId) (args : Array Value) (below : List Frame) (meth : Method) (c : Code), rx_mC p s m args c meth X D Y x.2.1 → rx_MW p l e s m args below meth c X D Y x v 0 (rx_args as 0) [] wm 0 0) :
    Met l Y.1 (Cond.code Y.1 Y.2.1 Y.2.2.1 Y.2.2.2 :: rx_words) (rx_rm 21 x.2.2.1 x.2.2.2.1) (rx_Pc X D (rx_G0 [] 0) as wm) (rx_Qx X v) x.2.2.1 x.2.2.2.1 (rx_A X) := by
  obtain ⟨hmx, hrk, hcode, hpl, hokA, hsq, -⟩ := hx
  refine rx_ofW (cc := Y.2.1) (maxL := Y.2.2.1) (ret := Y.2.2.2) hpl rfl ?_
  intro p e s m args below meth c s₁ B hml hv
  obtain ⟨rfl, hP, hz, hU⟩ := hv
  have hts0 := atoms_spec (ws := Cond.code Y.1 Y.2.1 Y.2.2.1 Y.2.2.2 :: rx_words) B.pre
  have Cm : rx_mC p s m (as.map (rx_d X)).toArray c meth X D Y x.2.1 := ⟨(name_of_methodNamed B.named B.method).1, B.returns, B.notSynchronized, fun F hF => ⟨B.exec, B.bytes, by rw [hml]; exact hmx, findClass_of_methodNamed B.named, fun w hw => hts0 w (List.mem_cons_of_mem _ hw), hU, hF⟩⟩
  have hlv := lv_entry (as.map (rx_d X)) (n := Y.2.2.1) (by rw [rx_sl_len, hmx]; exact hca)
  rw [lg_entry_eq]
  rw [rx_args_lv, hmx] at hlv
  rw [hmx]
  generalize ((lg_sl (as.map (rx_d X)) ++ List.replicate (x.2.1 - (lg_sl (as.map (rx_d X))).length) Slot.unset).toArray) = ls at hlv ⊢
  exact hgo p e s m (as.map (rx_d X)).toArray below meth c Cm s.heap [] ls ⟨hP, fun q => by rw [Nat.add_zero]; exact hz q, va_S.rf⟩ hlv
end
section
/-! the two constructors -/
set_option maxRecDepth 1000000 in
theorem rx_stage1 : rx_is (rx_lawR [] 0 18 (rx_find rx_mL 0) [(0, .inr (.inr (.inr 0)))] [] [] 0 0) 18 rx_L0 [] rx_w0 221 26609 = true := by decide +kernel
end
section
/-! printed by wip/p1/regs.py: closed runs of the law, a region of scripts each -/
set_option maxRecDepth 1000000 in
theorem rx_r0_0 : rx_isE (rx_lawR [((0, [(0, 63)]), 2147483648, 2147483648)] 7 99999999 (rx_find rx_mL 18) rx_L0 [] rx_w0 221 26609) = true := by decide +kernel
set_option maxRecDepth 1000000 in
theorem rx_r1_0 : rx_isE (rx_lawR [((0, [(0, 63)]), 2147483649, 2147483649), ((1, []), 0, 2147483647)] 7 99999999 (rx_find rx_mL 18) rx_L0 [] rx_w0 221 26609) = true := by decide +kernel
set_option maxRecDepth 1000000 in
theorem rx_r1_1 : rx_isE (rx_lawR [((0, [(0, 63)]), 2147483649, 2147483649), ((1, []), 2147483648, 2147483648)] 7 99999999 (rx_find rx_mL 18) rx_L0 [] rx_w0 221 26609) = true := by decide +kernel
set_option maxRecDepth 1000000 in
theorem rx_r1_2 : rx_isE (rx_lawR [((0, [(0, 63)]), 2147483649, 2147483649), ((1, []), 2147483649, 4294967295)] 7 99999999 (rx_find rx_mL 18) rx_L0 [] rx_w0 221 26609) = true := by decide +kernel
set_option maxRecDepth 1000000 in
theorem rx_r2_0 : rx_isE (rx_lawR [((0, [(0, 63)]), 2147483650, 2147483650)] 7 99999999 (rx_find rx_mL 18) rx_L0 [] rx_w0 221 26609) = true := by decide +kernel
set_option maxRecDepth 1000000 in
theorem rx_r3_0 : rx_isE (rx_lawR [((0, [(0, 63)]), 2147483651, 2147483651), ((1, []), 0, 2147483647)] 7 99999999 (rx_find rx_mL 18) rx_L0 [] rx_w0 221 26609) = true := by decide +kernel
set_option maxRecDepth 1000000 in
theorem rx_r3_1 : rx_isE (rx_lawR [((0, [(0, 63)]), 2147483651, 2147483651), ((1, []), 2147483648, 2147483648)] 7 99999999 (rx_find rx_mL 18) rx_L0 [] rx_w0 221 26609) = true := by decide +kernel
set_option maxRecDepth 1000000 in
theorem rx_r3_2 : rx_isE (rx_lawR [((0, [(0, 63)]), 2147483651, 2147483651), ((1, []), 2147483649, 2147483649)] 7 99999999 (rx_find rx_mL 18) rx_L0 [] rx_w0 221 26609) = true := by decide +kernel
set_option maxRecDepth 1000000 in
theorem rx_r3_3 : rx_isE (rx_lawR [((0, [(0, 63)]), 2147483651, 2147483651), ((1, []), 2147483650, 4294967295)] 7 99999999 (rx_find rx_mL 18) rx_L0 [] rx_w0 221 26609) = true := by decide +kernel
set_option maxRecDepth 1000000 in
theorem rx_r4_0 : rx_isE (rx_lawR [((0, [(0, 63)]), 2147483652, 2147483652), ((1, []), 0, 2147483647)] 7 99999999 (rx_find rx_mL 18) rx_L0 [] rx_w0 221 26609) = true := by decide +kernel
set_option maxRecDepth 1000000 in
theorem rx_r4_1 : rx_isE (rx_lawR [((0, [(0, 63)]), 2147483652, 2147483652), ((1, []), 2147483648, 2147483648)] 7 99999999 (rx_find rx_mL 18) rx_L0 [] rx_w0 221 26609) = true := by decide +kernel
set_option maxRecDepth 1000000 in
theorem rx_r4_2 : rx_isE (rx_lawR [((0, [(0, 63)]), 2147483652, 2147483652), ((1, []), 2147483649, 2147483649)] 7 99999999 (rx_find rx_mL 18) rx_L0 [] rx_w0 221 26609) = true := by decide +kernel
set_option maxRecDepth 1000000 in
theorem rx_r4_3 : rx_isE (rx_lawR [((0, [(0, 63)]), 2147483652, 2147483652), ((1, []), 2147483650, 2147483650)] 7 99999999 (rx_find rx_mL 18) rx_L0 [] rx_w0 221 26609) = true := by decide +kernel
set_option maxRecDepth 1000000 in
theorem rx_r4_4 : rx_isE (rx_lawR [((0, [(0, 63)]), 2147483652, 2147483652), ((1, []), 2147483651, 2147483651)] 7 99999999 (rx_find rx_mL 18) rx_L0 [] rx_w0 221 26609) = true := by decide +kernel
set_option maxRecDepth 1000000 in
theorem rx_r4_5 : rx_isE (rx_lawR [((0, [(0, 63)]), 2147483652, 2147483652), ((1, []), 2147483652, 2147483652)] 7 99999999 (rx_find rx_mL 18) rx_L0 [] rx_w0 221 26609) = true := by decide +kernel
set_option maxRecDepth 1000000 in
theorem rx_r4_6 : rx_isE (rx_lawR [((0, [(0, 63)]), 2147483652, 2147483652), ((1, []), 2147483653, 2147483653)] 7 99999999 (rx_find rx_mL 18) rx_L0 [] rx_w0 221 26609) = true := by decide +kernel
set_option maxRecDepth 1000000 in
theorem rx_r4_7 : rx_isE (rx_lawR [((0, [(0, 63)]), 2147483652, 2147483652), ((1, []), 2147483654, 2147483654)] 7 99999999 (rx_find rx_mL 18) rx_L0 [] rx_w0 221 26609) = true := by decide +kernel
set_option maxRecDepth 1000000 in
theorem rx_r4_8 : rx_isE (rx_lawR [((0, [(0, 63)]), 2147483652, 2147483652), ((1, []), 2147483655, 2147483655)] 7 99999999 (rx_find rx_mL 18) rx_L0 [] rx_w0 221 26609) = true := by decide +kernel
set_option maxRecDepth 1000000 in
theorem rx_r4_9 : rx_isE (rx_lawR [((0, [(0, 63)]), 2147483652, 2147483652), ((1, []), 2147483656, 2147483656)] 7 99999999 (rx_find rx_mL 18) rx_L0 [] rx_w0 221 26609) = true := by decide +kernel
set_option maxRecDepth 1000000 in
theorem rx_r4_10 : rx_isE (rx_lawR [((0, [(0, 63)]), 2147483652, 2147483652), ((1, []), 2147483657, 2147483657)] 7 99999999 (rx_find rx_mL 18) rx_L0 [] rx_w0 221 26609) = true := by decide +kernel
set_option maxRecDepth 1000000 in
theorem rx_r4_11 : rx_isE (rx_lawR [((0, [(0, 63)]), 2147483652, 2147483652), ((1, []), 2147483658, 4294967295)] 7 99999999 (rx_find rx_mL 18) rx_L0 [] rx_w0 221 26609) = true := by decide +kernel
set_option maxRecDepth 1000000 in
theorem rx_r5_0 : rx_isE (rx_lawR [((0, [(0, 63)]), 2147483653, 2147483653), ((3, []), 0, 2147483647), ((1, []), 0, 2147483647)] 7 99999999 (rx_find rx_mL 18) rx_L0 [] rx_w0 221 26609) = true := by decide +kernel
set_option maxRecDepth 1000000 in
theorem rx_r5_1 : rx_isE (rx_lawR [((0, [(0, 63)]), 2147483653, 2147483653), ((3, []), 0, 2147483647), ((1, []), 2147483648, 2147483648), ((2, []), 0, 2147483647)] 7 99999999 (rx_find rx_mL 18) rx_L0 [] rx_w0 221 26609) = true := by decide +kernel
set_option maxRecDepth 1000000 in
theorem rx_r5_2 : rx_isE (rx_lawR [((0, [(0, 63)]), 2147483653, 2147483653), ((3, []), 0, 2147483647), ((1, []), 2147483648, 2147483648), ((2, []), 2147483648, 4294967295)] 7 99999999 (rx_find rx_mL 18) rx_L0 [] rx_w0 221 26609) = true := by decide +kernel
set_option maxRecDepth 1000000 in
theorem rx_r5_3 : rx_isE (rx_lawR [((0, [(0, 63)]), 2147483653, 2147483653), ((3, []), 0, 2147483647), ((1, []), 2147483649, 2147483649), ((2, []), 0, 2147483647)] 7 99999999 (rx_find rx_mL 18) rx_L0 [] rx_w0 221 26609) = true := by decide +kernel
set_option maxRecDepth 1000000 in
theorem rx_r5_4 : rx_isE (rx_lawR [((0, [(0, 63)]), 2147483653, 2147483653), ((3, []), 0, 2147483647), ((1, []), 2147483649, 2147483649), ((2, []), 2147483648, 4294967295)] 7 99999999 (rx_find rx_mL 18) rx_L0 [] rx_w0 221 26609) = true := by decide +kernel
set_option maxRecDepth 1000000 in
theorem rx_r5_5 : rx_isE (rx_lawR [((0, [(0, 63)]), 2147483653, 2147483653), ((3, []), 0, 2147483647), ((1, []), 2147483650, 4294967295)] 7 99999999 (rx_find rx_mL 18) rx_L0 [] rx_w0 221 26609) = true := by decide +kernel
set_option maxRecDepth 1000000 in
theorem rx_r5_6 : rx_isE (rx_lawR [((0, [(0, 63)]), 2147483653, 2147483653), ((3, []), 2147483648, 2147483653), ((1, []), 0, 2147483647)] 7 99999999 (rx_find rx_mL 18) rx_L0 [] rx_w0 221 26609) = true := by decide +kernel
set_option maxRecDepth 1000000 in
theorem rx_r5_7 : rx_isE (rx_lawR [((0, [(0, 63)]), 2147483653, 2147483653), ((3, []), 2147483648, 2147483653), ((1, []), 2147483648, 2147483648), ((2, []), 0, 2147483647)] 7 99999999 (rx_find rx_mL 18) rx_L0 [] rx_w0 221 26609) = true := by decide +kernel
set_option maxRecDepth 1000000 in
theorem rx_r5_8 : rx_isE (rx_lawR [((0, [(0, 63)]), 2147483653, 2147483653), ((3, []), 2147483648, 2147483653), ((1, []), 2147483648, 2147483648), ((2, []), 2147483648, 4294967295)] 7 99999999 (rx_find rx_mL 18) rx_L0 [] rx_w0 221 26609) = true := by decide +kernel
set_option maxRecDepth 1000000 in
theorem rx_r5_9 : rx_isE (rx_lawR [((0, [(0, 63)]), 2147483653, 2147483653), ((3, []), 2147483648, 2147483653), ((1, []), 2147483649, 2147483649), ((2, []), 0, 2147483647)] 7 99999999 (rx_find rx_mL 18) rx_L0 [] rx_w0 221 26609) = true := by decide +kernel
set_option maxRecDepth 1000000 in
theorem rx_r5_10 : rx_isE (rx_lawR [((0, [(0, 63)]), 2147483653, 2147483653), ((3, []), 2147483648, 2147483653), ((1, []), 2147483649, 2147483649), ((2, []), 2147483648, 4294967295)] 7 99999999 (rx_find rx_mL 18) rx_L0 [] rx_w0 221 26609) = true := by decide +kernel
set_option maxRecDepth 1000000 in
theorem rx_r5_11 : rx_isE (rx_lawR [((0, [(0, 63)]), 2147483653, 2147483653), ((3, []), 2147483648, 2147483653), ((1, []), 2147483650, 4294967295)] 7 99999999 (rx_find rx_mL 18) rx_L0 [] rx_w0 221 26609) = true := by decide +kernel
set_option maxRecDepth 1000000 in
theorem rx_r5_12 : rx_isE (rx_lawR [((0, [(0, 63)]), 2147483653, 2147483653), ((3, []), 2147483654, 4294967295), ((1, []), 0, 2147483647)] 7 99999999 (rx_find rx_mL 18) rx_L0 [] rx_w0 221 26609) = true := by decide +kernel
set_option maxRecDepth 1000000 in
theorem rx_r5_13 : rx_isE (rx_lawR [((0, [(0, 63)]), 2147483653, 2147483653), ((3, []), 2147483654, 4294967295), ((1, []), 2147483648, 2147483648), ((2, []), 0, 2147483647)] 7 99999999 (rx_find rx_mL 18) rx_L0 [] rx_w0 221 26609) = true := by decide +kernel
set_option maxRecDepth 1000000 in
theorem rx_r5_14 : rx_isE (rx_lawR [((0, [(0, 63)]), 2147483653, 2147483653), ((3, []), 2147483654, 4294967295), ((1, []), 2147483648, 2147483648), ((2, []), 2147483648, 4294967295)] 7 99999999 (rx_find rx_mL 18) rx_L0 [] rx_w0 221 26609) = true := by decide +kernel
set_option maxRecDepth 1000000 in
theorem rx_r5_15 : rx_isE (rx_lawR [((0, [(0, 63)]), 2147483653, 2147483653), ((3, []), 2147483654, 4294967295), ((1, []), 2147483649, 2147483649), ((2, []), 0, 2147483647)] 7 99999999 (rx_find rx_mL 18) rx_L0 [] rx_w0 221 26609) = true := by decide +kernel
set_option maxRecDepth 1000000 in
theorem rx_r5_16 : rx_isE (rx_lawR [((0, [(0, 63)]), 2147483653, 2147483653), ((3, []), 2147483654, 4294967295), ((1, []), 2147483649, 2147483649), ((2, []), 2147483648, 4294967295)] 7 99999999 (rx_find rx_mL 18) rx_L0 [] rx_w0 221 26609) = true := by decide +kernel
set_option maxRecDepth 1000000 in
theorem rx_r5_17 : rx_isE (rx_lawR [((0, [(0, 63)]), 2147483653, 2147483653), ((3, []), 2147483654, 4294967295), ((1, []), 2147483650, 4294967295)] 7 99999999 (rx_find rx_mL 18) rx_L0 [] rx_w0 221 26609) = true := by decide +kernel
set_option maxRecDepth 1000000 in
theorem rx_r6_0 : rx_isE (rx_lawR [((0, [(0, 63)]), 2147483654, 2147483654), ((1, []), 0, 2147483647)] 7 99999999 (rx_find rx_mL 18) rx_L0 [] rx_w0 221 26609) = true := by decide +kernel
set_option maxRecDepth 1000000 in
theorem rx_r6_1 : rx_isE (rx_lawR [((0, [(0, 63)]), 2147483654, 2147483654), ((1, []), 2147483648, 4294967295)] 7 99999999 (rx_find rx_mL 18) rx_L0 [] rx_w0 221 26609) = true := by decide +kernel
set_option maxRecDepth 1000000 in
theorem rx_r7_0 : rx_isE (rx_lawR [((0, [(0, 63)]), 2147483655, 2147483655), ((1, []), 0, 2147483647)] 7 99999999 (rx_find rx_mL 18) rx_L0 [] rx_w0 221 26609) = true := by decide +kernel
set_option maxRecDepth 1000000 in
theorem rx_r7_1 : rx_isE (rx_lawR [((0, [(0, 63)]), 2147483655, 2147483655), ((1, []), 2147483648, 4294967295)] 7 99999999 (rx_find rx_mL 18) rx_L0 [] rx_w0 221 26609) = true := by decide +kernel
set_option maxRecDepth 1000000 in
theorem rx_r8_0 : rx_isE (rx_lawR [((0, [(0, 63)]), 2147483656, 2147483656), ((1, []), 0, 2147483647)] 7 99999999 (rx_find rx_mL 18) rx_L0 [] rx_w0 221 26609) = true := by decide +kernel
set_option maxRecDepth 1000000 in
theorem rx_r8_1 : rx_isE (rx_lawR [((0, [(0, 63)]), 2147483656, 2147483656), ((1, []), 2147483648, 4294967295)] 7 99999999 (rx_find rx_mL 18) rx_L0 [] rx_w0 221 26609) = true := by decide +kernel
set_option maxRecDepth 1000000 in
theorem rx_r9_0 : rx_isE (rx_lawR [((0, [(0, 63)]), 2147483657, 2147483657), ((1, []), 0, 2147483647)] 7 99999999 (rx_find rx_mL 18) rx_L0 [] rx_w0 221 26609) = true := by decide +kernel
set_option maxRecDepth 1000000 in
theorem rx_r9_1 : rx_isE (rx_lawR [((0, [(0, 63)]), 2147483657, 2147483657), ((1, []), 2147483648, 4294967295)] 7 99999999 (rx_find rx_mL 18) rx_L0 [] rx_w0 221 26609) = true := by decide +kernel
set_option maxRecDepth 1000000 in
theorem rx_r10_0 : rx_isE (rx_lawR [((0, [(0, 63)]), 2147483658, 2147483658), ((1, []), 0, 2147483647)] 7 99999999 (rx_find rx_mL 18) rx_L0 [] rx_w0 221 26609) = true := by decide +kernel
set_option maxRecDepth 1000000 in
theorem rx_r10_1 : rx_isE (rx_lawR [((0, [(0, 63)]), 2147483658, 2147483658), ((1, []), 2147483648, 2147483648)] 7 99999999 (rx_find rx_mL 18) rx_L0 [] rx_w0 221 26609) = true := by decide +kernel
end
section
/-! printed by wip/p1/regs.py: closed runs of the law, a region of scripts each -/
set_option maxRecDepth 1000000 in
theorem rx_r10_2 : rx_isE (rx_lawR [((0, [(0, 63)]), 2147483658, 2147483658), ((1, []), 2147483649, 2147483649)] 7 99999999 (rx_find rx_mL 18) rx_L0 [] rx_w0 221 26609) = true := by decide +kernel
set_option maxRecDepth 1000000 in
theorem rx_r10_3 : rx_isE (rx_lawR [((0, [(0, 63)]), 2147483658, 2147483658), ((1, []), 2147483650, 2147483650)] 7 99999999 (rx_find rx_mL 18) rx_L0 [] rx_w0 221 26609) = true := by decide +kernel
end
section
/-! printed by wip/p1/regs.py: closed runs of the law, a region of scripts each -/
set_option maxRecDepth 1000000 in
theorem rx_r10_4 : rx_isE (rx_lawR [((0, [(0, 63)]), 2147483658, 2147483658), ((1, []), 2147483651, 2147483651)] 7 99999999 (rx_find rx_mL 18) rx_L0 [] rx_w0 221 26609) = true := by decide +kernel
set_option maxRecDepth 1000000 in
theorem rx_r10_5 : rx_isE (rx_lawR [((0, [(0, 63)]), 2147483658, 2147483658), ((1, []), 2147483652, 4294967295)] 7 99999999 (rx_find rx_mL 18) rx_L0 [] rx_w0 221 26609) = true := by decide +kernel
set_option maxRecDepth 1000000 in
theorem rx_r11_0 : rx_isE (rx_lawR [((0, [(0, 63)]), 2147483659, 2147483659), ((1, []), 0, 2147483647), ((2, []), 0, 2147483647)] 7 99999999 (rx_find rx_mL 18) rx_L0 [] rx_w0 221 26609) = true := by decide +kernel
set_option maxRecDepth 1000000 in
theorem rx_r11_1 : rx_isE (rx_lawR [((0, [(0, 63)]), 2147483659, 2147483659), ((1, []), 0, 2147483647), ((2, []), 2147483648, 2147483650)] 7 99999999 (rx_find rx_mL 18) rx_L0 [] rx_w0 221 26609) = true := by decide +kernel
end
section
/-! printed by wip/p1/regs.py: closed runs of the law, a region of scripts each -/
set_option maxRecDepth 1000000 in
theorem rx_r11_2 : rx_isE (rx_lawR [((0, [(0, 63)]), 2147483659, 2147483659), ((1, []), 0, 2147483647), ((2, []), 2147483651, 4294967295)] 7 99999999 (rx_find rx_mL 18) rx_L0 [] rx_w0 221 26609) = true := by decide +kernel
set_option maxRecDepth 1000000 in
theorem rx_r11_3 : rx_isE (rx_lawR [((0, [(0, 63)]), 2147483659, 2147483659), ((1, []), 2147483648, 4294967295), ((2, []), 0, 2147483647)] 7 99999999 (rx_find rx_mL 18) rx_L0 [] rx_w0 221 26609) = true := by decide +kernel
set_option maxRecDepth 1000000 in
theorem rx_r11_4 : rx_isE (rx_lawR [((0, [(0, 63)]), 2147483659, 2147483659), ((1, []), 2147483648, 4294967295), ((2, []), 2147483648, 2147483650)] 7 99999999 (rx_find rx_mL 18) rx_L0 [] rx_w0 221 26609) = true := by decide +kernel
set_option maxRecDepth 1000000 in
theorem rx_r11_5 : rx_isE (rx_lawR [((0, [(0, 63)]), 2147483659, 2147483659), ((1, []), 2147483648, 4294967295), ((2, []), 2147483651, 4294967295)] 7 99999999 (rx_find rx_mL 18) rx_L0 [] rx_w0 221 26609) = true := by decide +kernel
set_option maxRecDepth 1000000 in
theorem rx_r12_0 : rx_isE (rx_lawR [((0, [(0, 63)]), 2147483660, 2147483660)] 7 99999999 (rx_find rx_mL 18) rx_L0 [] rx_w0 221 26609) = true := by decide +kernel
end
section
/-! printed by wip/p1/regs.py: closed runs of the law, a region of scripts each -/
set_option maxRecDepth 1000000 in
theorem rx_r13_0 : rx_isE (rx_lawR [((0, [(0, 63)]), 2147483661, 2147483661), ((1, []), 0, 2147483647)] 7 99999999 (rx_find rx_mL 18) rx_L0 [] rx_w0 221 26609) = true := by decide +kernel
set_option maxRecDepth 1000000 in
theorem rx_r13_1 : rx_isE (rx_lawR [((0, [(0, 63)]), 2147483661, 2147483661), ((1, []), 2147483648, 2147483708)] 7 99999999 (rx_find rx_mL 18) rx_L0 [] rx_w0 221 26609) = true := by decide +kernel
set_option maxRecDepth 1000000 in
theorem rx_r13_2 : rx_isE (rx_lawR [((0, [(0, 63)]), 2147483661, 2147483661), ((1, []), 2147483709, 4294967295)] 7 99999999 (rx_find rx_mL 18) rx_L0 [] rx_w0 221 26609) = true := by decide +kernel
set_option maxRecDepth 1000000 in
theorem rx_r14_0 : rx_isE (rx_lawR [((0, [(0, 63)]), 2147483662, 2147483662), ((1, []), 0, 2147483647)] 7 99999999 (rx_find rx_mL 18) rx_L0 [] rx_w0 221 26609) = true := by decide +kernel
set_option maxRecDepth 1000000 in
theorem rx_r14_1 : rx_isE (rx_lawR [((0, [(0, 63)]), 2147483662, 2147483662), ((1, []), 2147483648, 4294967295)] 7 99999999 (rx_find rx_mL 18) rx_L0 [] rx_w0 221 26609) = true := by decide +kernel
set_option maxRecDepth 1000000 in
theorem rx_r15_0 : rx_isE (rx_lawR [((0, [(0, 63)]), 2147483663, 2147483663), ((1, []), 0, 2147483648)] 7 99999999 (rx_find rx_mL 18) rx_L0 [] rx_w0 221 26609) = true := by decide +kernel
set_option maxRecDepth 1000000 in
theorem rx_r15_1 : rx_isE (rx_lawR [((0, [(0, 63)]), 2147483663, 2147483663), ((1, []), 2147483649, 2147483651)] 7 99999999 (rx_find rx_mL 18) rx_L0 [] rx_w0 221 26609) = true := by decide +kernel
set_option maxRecDepth 1000000 in
theorem rx_r15_2 : rx_isE (rx_lawR [((0, [(0, 63)]), 2147483663, 2147483663), ((1, []), 2147483652, 4294967295)] 7 99999999 (rx_find rx_mL 18) rx_L0 [] rx_w0 221 26609) = true := by decide +kernel
set_option maxRecDepth 1000000 in
theorem rx_r17_0 : rx_isE (rx_lawR [((0, [(0, 63)]), 2147483665, 2147483665), ((1, []), 0, 2147483647)] 7 99999999 (rx_find rx_mL 18) rx_L0 [] rx_w0 221 26609) = true := by decide +kernel
set_option maxRecDepth 1000000 in
theorem rx_r17_1 : rx_isE (rx_lawR [((0, [(0, 63)]), 2147483665, 2147483665), ((1, []), 2147483648, 4294967295)] 7 99999999 (rx_find rx_mL 18) rx_L0 [] rx_w0 221 26609) = true := by decide +kernel
set_option maxRecDepth 1000000 in
theorem rx_r18_0 : rx_isE (rx_lawR [((0, [(0, 63)]), 2147483666, 2147483666)] 7 99999999 (rx_find rx_mL 18) rx_L0 [] rx_w0 221 26609) = true := by decide +kernel
end
section
/-! printed by wip/p1/regs.py: closed runs of the law, a region of scripts each -/
set_option maxRecDepth 1000000 in
theorem rx_r19_0 : rx_isE (rx_lawR [((0, [(0, 63)]), 2147483667, 2147483667)] 7 99999999 (rx_find rx_mL 18) rx_L0 [] rx_w0 221 26609) = true := by decide +kernel
set_option maxRecDepth 1000000 in
theorem rx_r20_0 : rx_isE (rx_lawR [((0, [(0, 63)]), 2147483668, 2147483668), ((1, []), 0, 2147483648)] 7 99999999 (rx_find rx_mL 18) rx_L0 [] rx_w0 221 26609) = true := by decide +kernel
set_option maxRecDepth 1000000 in
theorem rx_r20_1 : rx_isE (rx_lawR [((0, [(0, 63)]), 2147483668, 2147483668), ((1, []), 2147483649, 2147483649)] 7 99999999 (rx_find rx_mL 18) rx_L0 [] rx_w0 221 26609) = true := by decide +kernel
set_option maxRecDepth 1000000 in
theorem rx_r20_2 : rx_isE (rx_lawR [((0, [(0, 63)]), 2147483668, 2147483668), ((1, []), 2147483650, 2147483650)] 7 99999999 (rx_find rx_mL 18) rx_L0 [] rx_w0 221 26609) = true := by decide +kernel
set_option maxRecDepth 1000000 in
theorem rx_r20_3 : rx_isE (rx_lawR [((0, [(0, 63)]), 2147483668, 2147483668), ((1, []), 2147483651, 2147483651)] 7 99999999 (rx_find rx_mL 18) rx_L0 [] rx_w0 221 26609) = true := by decide +kernel
set_option maxRecDepth 1000000 in
theorem rx_r20_4 : rx_isE (rx_lawR [((0, [(0, 63)]), 2147483668, 2147483668), ((1, []), 2147483652, 2147483652)] 7 99999999 (rx_find rx_mL 18) rx_L0 [] rx_w0 221 26609) = true := by decide +kernel
set_option maxRecDepth 1000000 in
theorem rx_r20_5 : rx_isE (rx_lawR [((0, [(0, 63)]), 2147483668, 2147483668), ((1, []), 2147483653, 2147483653)] 7 99999999 (rx_find rx_mL 18) rx_L0 [] rx_w0 221 26609) = true := by decide +kernel
set_option maxRecDepth 1000000 in
theorem rx_r20_6 : rx_isE (rx_lawR [((0, [(0, 63)]), 2147483668, 2147483668), ((1, []), 2147483654, 2147483654)] 7 99999999 (rx_find rx_mL 18) rx_L0 [] rx_w0 221 26609) = true := by decide +kernel
set_option maxRecDepth 1000000 in
theorem rx_r20_7 : rx_isE (rx_lawR [((0, [(0, 63)]), 2147483668, 2147483668), ((1, []), 2147483655, 2147483655)] 7 99999999 (rx_find rx_mL 18) rx_L0 [] rx_w0 221 26609) = true := by decide +kernel
set_option maxRecDepth 1000000 in
theorem rx_r20_8 : rx_isE (rx_lawR [((0, [(0, 63)]), 2147483668, 2147483668), ((1, []), 2147483656, 2147483656)] 7 99999999 (rx_find rx_mL 18) rx_L0 [] rx_w0 221 26609) = true := by decide +kernel
set_option maxRecDepth 1000000 in
theorem rx_r20_9 : rx_isE (rx_lawR [((0, [(0, 63)]), 2147483668, 2147483668), ((1, []), 2147483657, 2147483657)] 7 99999999 (rx_find rx_mL 18) rx_L0 [] rx_w0 221 26609) = true := by decide +kernel
set_option maxRecDepth 1000000 in
theorem rx_r20_10 : rx_isE (rx_lawR [((0, [(0, 63)]), 2147483668, 2147483668), ((1, []), 2147483658, 2147483658)] 7 99999999 (rx_find rx_mL 18) rx_L0 [] rx_w0 221 26609) = true := by decide +kernel
set_option maxRecDepth 1000000 in
theorem rx_r20_11 : rx_isE (rx_lawR [((0, [(0, 63)]), 2147483668, 2147483668), ((1, []), 2147483659, 2147483659)] 7 99999999 (rx_find rx_mL 18) rx_L0 [] rx_w0 221 26609) = true := by decide +kernel
set_option maxRecDepth 1000000 in
theorem rx_r20_12 : rx_isE (rx_lawR [((0, [(0, 63)]), 2147483668, 2147483668), ((1, []), 2147483660, 2147483660)] 7 99999999 (rx_find rx_mL 18) rx_L0 [] rx_w0 221 26609) = true := by decide +kernel
set_option maxRecDepth 1000000 in
theorem rx_r20_13 : rx_isE (rx_lawR [((0, [(0, 63)]), 2147483668, 2147483668), ((1, []), 2147483661, 2147483661)] 7 99999999 (rx_find rx_mL 18) rx_L0 [] rx_w0 221 26609) = true := by decide +kernel
set_option maxRecDepth 1000000 in
theorem rx_r20_14 : rx_isE (rx_lawR [((0, [(0, 63)]), 2147483668, 2147483668), ((1, []), 2147483662, 2147483662)] 7 99999999 (rx_find rx_mL 18) rx_L0 [] rx_w0 221 26609) = true := by decide +kernel
set_option maxRecDepth 1000000 in
theorem rx_r20_15 : rx_isE (rx_lawR [((0, [(0, 63)]), 2147483668, 2147483668), ((1, []), 2147483663, 2147483663)] 7 99999999 (rx_find rx_mL 18) rx_L0 [] rx_w0 221 26609) = true := by decide +kernel
set_option maxRecDepth 1000000 in
theorem rx_r20_16 : rx_isE (rx_lawR [((0, [(0, 63)]), 2147483668, 2147483668), ((1, []), 2147483664, 2147483664)] 7 99999999 (rx_find rx_mL 18) rx_L0 [] rx_w0 221 26609) = true := by decide +kernel
set_option maxRecDepth 1000000 in
theorem rx_r20_17 : rx_isE (rx_lawR [((0, [(0, 63)]), 2147483668, 2147483668), ((1, []), 2147483665, 2147483665)] 7 99999999 (rx_find rx_mL 18) rx_L0 [] rx_w0 221 26609) = true := by decide +kernel
set_option maxRecDepth 1000000 in
theorem rx_r20_18 : rx_isE (rx_lawR [((0, [(0, 63)]), 2147483668, 2147483668), ((1, []), 2147483666, 2147483666)] 7 99999999 (rx_find rx_mL 18) rx_L0 [] rx_w0 221 26609) = true := by decide +kernel
set_option maxRecDepth 1000000 in
theorem rx_r20_19 : rx_isE (rx_lawR [((0, [(0, 63)]), 2147483668, 2147483668), ((1, []), 2147483667, 2147483667)] 7 99999999 (rx_find rx_mL 18) rx_L0 [] rx_w0 221 26609) = true := by decide +kernel
set_option maxRecDepth 1000000 in
theorem rx_r20_20 : rx_isE (rx_lawR [((0, [(0, 63)]), 2147483668, 2147483668), ((1, []), 2147483668, 2147483668)] 7 99999999 (rx_find rx_mL 18) rx_L0 [] rx_w0 221 26609) = true := by decide +kernel
set_option maxRecDepth 1000000 in
theorem rx_r20_21 : rx_isE (rx_lawR [((0, [(0, 63)]), 2147483668, 2147483668), ((1, []), 2147483669, 4294967295)] 7 99999999 (rx_find rx_mL 18) rx_L0 [] rx_w0 221 26609) = true := by decide +kernel
set_option maxRecDepth 1000000 in
theorem rx_r21_0 : rx_isE (rx_lawR [((0, [(0, 63)]), 2147483669, 2147483669), ((1, []), 0, 2147483648)] 7 99999999 (rx_find rx_mL 18) rx_L0 [] rx_w0 221 26609) = true := by decide +kernel
set_option maxRecDepth 1000000 in
theorem rx_r21_1 : rx_isE (rx_lawR [((0, [(0, 63)]), 2147483669, 2147483669), ((1, []), 2147483649, 2147483649), ((2, []), 0, 2147483647)] 7 99999999 (rx_find rx_mL 18) rx_L0 [] rx_w0 221 26609) = true := by decide +kernel
set_option maxRecDepth 1000000 in
theorem rx_r21_2 : rx_isE (rx_lawR [((0, [(0, 63)]), 2147483669, 2147483669), ((1, []), 2147483650, 2147483650), ((2, []), 0, 2147483647)] 7 99999999 (rx_find rx_mL 18) rx_L0 [] rx_w0 221 26609) = true := by decide +kernel
set_option maxRecDepth 1000000 in
theorem rx_r21_3 : rx_isE (rx_lawR [((0, [(0, 63)]), 2147483669, 2147483669), ((1, []), 2147483651, 2147483651), ((2, []), 0, 2147483647)] 7 99999999 (rx_find rx_mL 18) rx_L0 [] rx_w0 221 26609) = true := by decide +kernel
set_option maxRecDepth 1000000 in
theorem rx_r21_4 : rx_isE (rx_lawR [((0, [(0, 63)]), 2147483669, 2147483669), ((1, []), 2147483652, 2147483652), ((2, []), 0, 2147483647)] 7 99999999 (rx_find rx_mL 18) rx_L0 [] rx_w0 221 26609) = true := by decide +kernel
set_option maxRecDepth 1000000 in
theorem rx_r21_5 : rx_isE (rx_lawR [((0, [(0, 63)]), 2147483669, 2147483669), ((1, []), 2147483653, 2147483653), ((2, []), 0, 2147483647)] 7 99999999 (rx_find rx_mL 18) rx_L0 [] rx_w0 221 26609) = true := by decide +kernel
set_option maxRecDepth 1000000 in
theorem rx_r21_6 : rx_isE (rx_lawR [((0, [(0, 63)]), 2147483669, 2147483669), ((1, []), 2147483654, 2147483654), ((2, []), 0, 2147483647)] 7 99999999 (rx_find rx_mL 18) rx_L0 [] rx_w0 221 26609) = true := by decide +kernel
set_option maxRecDepth 1000000 in
theorem rx_r21_7 : rx_isE (rx_lawR [((0, [(0, 63)]), 2147483669, 2147483669), ((1, []), 2147483655, 2147483655), ((2, []), 0, 2147483647)] 7 99999999 (rx_find rx_mL 18) rx_L0 [] rx_w0 221 26609) = true := by decide +kernel
set_option maxRecDepth 1000000 in
theorem rx_r21_8 : rx_isE (rx_lawR [((0, [(0, 63)]), 2147483669, 2147483669), ((1, []), 2147483656, 2147483656), ((2, []), 0, 2147483647)] 7 99999999 (rx_find rx_mL 18) rx_L0 [] rx_w0 221 26609) = true := by decide +kernel
set_option maxRecDepth 1000000 in
theorem rx_r21_9 : rx_isE (rx_lawR [((0, [(0, 63)]), 2147483669, 2147483669), ((1, []), 2147483657, 2147483657), ((2, []), 0, 2147483647)] 7 99999999 (rx_find rx_mL 18) rx_L0 [] rx_w0 221 26609) = true := by decide +kernel
set_option maxRecDepth 1000000 in
theorem rx_r21_10 : rx_isE (rx_lawR [((0, [(0, 63)]), 2147483669, 2147483669), ((1, []), 2147483658, 2147483658), ((2, []), 0, 2147483647)] 7 99999999 (rx_find rx_mL 18) rx_L0 [] rx_w0 221 26609) = true := by decide +kernel
set_option maxRecDepth 1000000 in
theorem rx_r21_11 : rx_isE (rx_lawR [((0, [(0, 63)]), 2147483669, 2147483669), ((1, []), 2147483659, 2147483659), ((2, []), 0, 2147483647)] 7 99999999 (rx_find rx_mL 18) rx_L0 [] rx_w0 221 26609) = true := by decide +kernel
set_option maxRecDepth 1000000 in
theorem rx_r21_12 : rx_isE (rx_lawR [((0, [(0, 63)]), 2147483669, 2147483669), ((1, []), 2147483660, 2147483660), ((2, []), 0, 2147483647)] 7 99999999 (rx_find rx_mL 18) rx_L0 [] rx_w0 221 26609) = true := by decide +kernel
set_option maxRecDepth 1000000 in
theorem rx_r21_13 : rx_isE (rx_lawR [((0, [(0, 63)]), 2147483669, 2147483669), ((1, []), 2147483661, 2147483661), ((2, []), 0, 2147483647)] 7 99999999 (rx_find rx_mL 18) rx_L0 [] rx_w0 221 26609) = true := by decide +kernel
set_option maxRecDepth 1000000 in
theorem rx_r21_14 : rx_isE (rx_lawR [((0, [(0, 63)]), 2147483669, 2147483669), ((1, []), 2147483662, 2147483662), ((2, []), 0, 2147483647)] 7 99999999 (rx_find rx_mL 18) rx_L0 [] rx_w0 221 26609) = true := by decide +kernel
set_option maxRecDepth 1000000 in
theorem rx_r21_15 : rx_isE (rx_lawR [((0, [(0, 63)]), 2147483669, 2147483669), ((1, []), 2147483663, 2147483663), ((2, []), 0, 2147483647)] 7 99999999 (rx_find rx_mL 18) rx_L0 [] rx_w0 221 26609) = true := by decide +kernel
set_option maxRecDepth 1000000 in
theorem rx_r21_16 : rx_isE (rx_lawR [((0, [(0, 63)]), 2147483669, 2147483669), ((1, []), 2147483664, 2147483664), ((2, []), 0, 2147483647)] 7 99999999 (rx_find rx_mL 18) rx_L0 [] rx_w0 221 26609) = true := by decide +kernel
set_option maxRecDepth 1000000 in
theorem rx_r21_17 : rx_isE (rx_lawR [((0, [(0, 63)]), 2147483669, 2147483669), ((1, []), 2147483665, 2147483665), ((2, []), 0, 2147483647)] 7 99999999 (rx_find rx_mL 18) rx_L0 [] rx_w0 221 26609) = true := by decide +kernel
set_option maxRecDepth 1000000 in
theorem rx_r21_18 : rx_isE (rx_lawR [((0, [(0, 63)]), 2147483669, 2147483669), ((1, []), 2147483666, 2147483666), ((2, []), 0, 2147483647)] 7 99999999 (rx_find rx_mL 18) rx_L0 [] rx_w0 221 26609) = true := by decide +kernel
set_option maxRecDepth 1000000 in
theorem rx_r21_19 : rx_isE (rx_lawR [((0, [(0, 63)]), 2147483669, 2147483669), ((1, []), 2147483667, 2147483667), ((2, []), 0, 2147483647)] 7 99999999 (rx_find rx_mL 18) rx_L0 [] rx_w0 221 26609) = true := by decide +kernel
set_option maxRecDepth 1000000 in
theorem rx_r21_20 : rx_isE (rx_lawR [((0, [(0, 63)]), 2147483669, 2147483669), ((1, []), 2147483668, 2147483668), ((2, []), 0, 2147483647)] 7 99999999 (rx_find rx_mL 18) rx_L0 [] rx_w0 221 26609) = true := by decide +kernel
set_option maxRecDepth 1000000 in
theorem rx_r21_21 : rx_isE (rx_lawR [((0, [(0, 63)]), 2147483669, 2147483669), ((1, []), 2147483649, 2147483649), ((2, []), 2147483648, 2147483648)] 7 99999999 (rx_find rx_mL 18) rx_L0 [] rx_w0 221 26609) = true := by decide +kernel
set_option maxRecDepth 1000000 in
theorem rx_r21_22 : rx_isE (rx_lawR [((0, [(0, 63)]), 2147483669, 2147483669), ((1, []), 2147483649, 2147483649), ((2, []), 2147483649, 4294967295)] 7 99999999 (rx_find rx_mL 18) rx_L0 [] rx_w0 221 26609) = true := by decide +kernel
set_option maxRecDepth 1000000 in
theorem rx_r21_23 : rx_isE (rx_lawR [((0, [(0, 63)]), 2147483669, 2147483669), ((1, []), 2147483650, 2147483650), ((2, []), 2147483648, 2147483649)] 7 99999999 (rx_find rx_mL 18) rx_L0 [] rx_w0 221 26609) = true := by decide +kernel
set_option maxRecDepth 1000000 in
theorem rx_r21_24 : rx_isE (rx_lawR [((0, [(0, 63)]), 2147483669, 2147483669), ((1, []), 2147483650, 2147483650), ((2, []), 2147483650, 4294967295)] 7 99999999 (rx_find rx_mL 18) rx_L0 [] rx_w0 221 26609) = true := by decide +kernel
set_option maxRecDepth 1000000 in
theorem rx_r21_25 : rx_isE (rx_lawR [((0, [(0, 63)]), 2147483669, 2147483669), ((1, []), 2147483651, 2147483651), ((2, []), 2147483648, 2147483650)] 7 99999999 (rx_find rx_mL 18) rx_L0 [] rx_w0 221 26609) = true := by decide +kernel
set_option maxRecDepth 1000000 in
theorem rx_r21_26 : rx_isE (rx_lawR [((0, [(0, 63)]), 2147483669, 2147483669), ((1, []), 2147483651, 2147483651), ((2, []), 2147483651, 4294967295)] 7 99999999 (rx_find rx_mL 18) rx_L0 [] rx_w0 221 26609) = true := by decide +kernel
set_option maxRecDepth 1000000 in
theorem rx_r21_27 : rx_isE (rx_lawR [((0, [(0, 63)]), 2147483669, 2147483669), ((1, []), 2147483652, 2147483652), ((2, []), 2147483648, 2147483651)] 7 99999999 (rx_find rx_mL 18) rx_L0 [] rx_w0 221 26609) = true := by decide +kernel
set_option maxRecDepth 1000000 in
theorem rx_r21_28 : rx_isE (rx_lawR [((0, [(0, 63)]), 2147483669, 2147483669), ((1, []), 2147483652, 2147483652), ((2, []), 2147483652, 4294967295)] 7 99999999 (rx_find rx_mL 18) rx_L0 [] rx_w0 221 26609) = true := by decide +kernel
set_option maxRecDepth 1000000 in
theorem rx_r21_29 : rx_isE (rx_lawR [((0, [(0, 63)]), 2147483669, 2147483669), ((1, []), 2147483653, 2147483653), ((2, []), 2147483648, 2147483652)] 7 99999999 (rx_find rx_mL 18) rx_L0 [] rx_w0 221 26609) = true := by decide +kernel
set_option maxRecDepth 1000000 in
theorem rx_r21_30 : rx_isE (rx_lawR [((0, [(0, 63)]), 2147483669, 2147483669), ((1, []), 2147483653, 2147483653), ((2, []), 2147483653, 4294967295)] 7 99999999 (rx_find rx_mL 18) rx_L0 [] rx_w0 221 26609) = true := by decide +kernel
set_option maxRecDepth 1000000 in
theorem rx_r21_31 : rx_isE (rx_lawR [((0, [(0, 63)]), 2147483669, 2147483669), ((1, []), 2147483654, 2147483654), ((2, []), 2147483648, 2147483653)] 7 99999999 (rx_find rx_mL 18) rx_L0 [] rx_w0 221 26609) = true := by decide +kernel
set_option maxRecDepth 1000000 in
theorem rx_r21_32 : rx_isE (rx_lawR [((0, [(0, 63)]), 2147483669, 2147483669), ((1, []), 2147483654, 2147483654), ((2, []), 2147483654, 4294967295)] 7 99999999 (rx_find rx_mL 18) rx_L0 [] rx_w0 221 26609) = true := by decide +kernel
set_option maxRecDepth 1000000 in
theorem rx_r21_33 : rx_isE (rx_lawR [((0, [(0, 63)]), 2147483669, 2147483669), ((1, []), 2147483655, 2147483655), ((2, []), 2147483648, 2147483654)] 7 99999999 (rx_find rx_mL 18) rx_L0 [] rx_w0 221 26609) = true := by decide +kernel
set_option maxRecDepth 1000000 in
theorem rx_r21_34 : rx_isE (rx_lawR [((0, [(0, 63)]), 2147483669, 2147483669), ((1, []), 2147483655, 2147483655), ((2, []), 2147483655, 4294967295)] 7 99999999 (rx_find rx_mL 18) rx_L0 [] rx_w0 221 26609) = true := by decide +kernel
set_option maxRecDepth 1000000 in
theorem rx_r21_35 : rx_isE (rx_lawR [((0, [(0, 63)]), 2147483669, 2147483669), ((1, []), 2147483656, 2147483656), ((2, []), 2147483648, 2147483655)] 7 99999999 (rx_find rx_mL 18) rx_L0 [] rx_w0 221 26609) = true := by decide +kernel
set_option maxRecDepth 1000000 in
theorem rx_r21_36 : rx_isE (rx_lawR [((0, [(0, 63)]), 2147483669, 2147483669), ((1, []), 2147483656, 2147483656), ((2, []), 2147483656, 4294967295)] 7 99999999 (rx_find rx_mL 18) rx_L0 [] rx_w0 221 26609) = true := by decide +kernel
set_option maxRecDepth 1000000 in
theorem rx_r21_37 : rx_isE (rx_lawR [((0, [(0, 63)]), 2147483669, 2147483669), ((1, []), 2147483657, 2147483657), ((2, []), 2147483648, 2147483656)] 7 99999999 (rx_find rx_mL 18) rx_L0 [] rx_w0 221 26609) = true := by decide +kernel
set_option maxRecDepth 1000000 in
theorem rx_r21_38 : rx_isE (rx_lawR [((0, [(0, 63)]), 2147483669, 2147483669), ((1, []), 2147483657, 2147483657), ((2, []), 2147483657, 4294967295)] 7 99999999 (rx_find rx_mL 18) rx_L0 [] rx_w0 221 26609) = true := by decide +kernel
set_option maxRecDepth 1000000 in
theorem rx_r21_39 : rx_isE (rx_lawR [((0, [(0, 63)]), 2147483669, 2147483669), ((1, []), 2147483658, 2147483658), ((2, []), 2147483648, 2147483657)] 7 99999999 (rx_find rx_mL 18) rx_L0 [] rx_w0 221 26609) = true := by decide +kernel
set_option maxRecDepth 1000000 in
theorem rx_r21_40 : rx_isE (rx_lawR [((0, [(0, 63)]), 2147483669, 2147483669), ((1, []), 2147483658, 2147483658), ((2, []), 2147483658, 4294967295)] 7 99999999 (rx_find rx_mL 18) rx_L0 [] rx_w0 221 26609) = true := by decide +kernel
set_option maxRecDepth 1000000 in
theorem rx_r21_41 : rx_isE (rx_lawR [((0, [(0, 63)]), 2147483669, 2147483669), ((1, []), 2147483659, 2147483659), ((2, []), 2147483648, 2147483658)] 7 99999999 (rx_find rx_mL 18) rx_L0 [] rx_w0 221 26609) = true := by decide +kernel
set_option maxRecDepth 1000000 in
theorem rx_r21_42 : rx_isE (rx_lawR [((0, [(0, 63)]), 2147483669, 2147483669), ((1, []), 2147483659, 2147483659), ((2, []), 2147483659, 4294967295)] 7 99999999 (rx_find rx_mL 18) rx_L0 [] rx_w0 221 26609) = true := by decide +kernel
set_option maxRecDepth 1000000 in
theorem rx_r21_43 : rx_isE (rx_lawR [((0, [(0, 63)]), 2147483669, 2147483669), ((1, []), 2147483660, 2147483660), ((2, []), 2147483648, 2147483659)] 7 99999999 (rx_find rx_mL 18) rx_L0 [] rx_w0 221 26609) = true := by decide +kernel
end
section
/-! printed by wip/p1/regs.py: closed runs of the law, a region of scripts each -/
set_option maxRecDepth 1000000 in
theorem rx_r21_44 : rx_isE (rx_lawR [((0, [(0, 63)]), 2147483669, 2147483669), ((1, []), 2147483660, 2147483660), ((2, []), 2147483660, 4294967295)] 7 99999999 (rx_find rx_mL 18) rx_L0 [] rx_w0 221 26609) = true := by decide +kernel
set_option maxRecDepth 1000000 in
theorem rx_r21_45 : rx_isE (rx_lawR [((0, [(0, 63)]), 2147483669, 2147483669), ((1, []), 2147483661, 2147483661), ((2, []), 2147483648, 2147483660)] 7 99999999 (rx_find rx_mL 18) rx_L0 [] rx_w0 221 26609) = true := by decide +kernel
set_option maxRecDepth 1000000 in
theorem rx_r21_46 : rx_isE (rx_lawR [((0, [(0, 63)]), 2147483669, 2147483669), ((1, []), 2147483661, 2147483661), ((2, []), 2147483661, 4294967295)] 7 99999999 (rx_find rx_mL 18) rx_L0 [] rx_w0 221 26609) = true := by decide +kernel
set_option maxRecDepth 1000000 in
theorem rx_r21_47 : rx_isE (rx_lawR [((0, [(0, 63)]), 2147483669, 2147483669), ((1, []), 2147483662, 2147483662), ((2, []), 2147483648, 2147483661)] 7 99999999 (rx_find rx_mL 18) rx_L0 [] rx_w0 221 26609) = true := by decide +kernel
set_option maxRecDepth 1000000 in
theorem rx_r21_48 : rx_isE (rx_lawR [((0, [(0, 63)]), 2147483669, 2147483669), ((1, []), 2147483662, 2147483662), ((2, []), 2147483662, 4294967295)] 7 99999999 (rx_find rx_mL 18) rx_L0 [] rx_w0 221 26609) = true := by decide +kernel
set_option maxRecDepth 1000000 in
theorem rx_r21_49 : rx_isE (rx_lawR [((0, [(0, 63)]), 2147483669, 2147483669), ((1, []), 2147483663, 2147483663), ((2, []), 2147483648, 2147483662)] 7 99999999 (rx_find rx_mL 18) rx_L0 [] rx_w0 221 26609) = true := by decide +kernel
set_option maxRecDepth 1000000 in
theorem rx_r21_50 : rx_isE (rx_lawR [((0, [(0, 63)]), 2147483669, 2147483669), ((1, []), 2147483663, 2147483663), ((2, []), 2147483663, 4294967295)] 7 99999999 (rx_find rx_mL 18) rx_L0 [] rx_w0 221 26609) = true := by decide +kernel
set_option maxRecDepth 1000000 in
theorem rx_r21_51 : rx_isE (rx_lawR [((0, [(0, 63)]), 2147483669, 2147483669), ((1, []), 2147483664, 2147483664), ((2, []), 2147483648, 2147483663)] 7 99999999 (rx_find rx_mL 18) rx_L0 [] rx_w0 221 26609) = true := by decide +kernel
set_option maxRecDepth 1000000 in
theorem rx_r21_52 : rx_isE (rx_lawR [((0, [(0, 63)]), 2147483669, 2147483669), ((1, []), 2147483664, 2147483664), ((2, []), 2147483664, 4294967295)] 7 99999999 (rx_find rx_mL 18) rx_L0 [] rx_w0 221 26609) = true := by decide +kernel
set_option maxRecDepth 1000000 in
theorem rx_r21_53 : rx_isE (rx_lawR [((0, [(0, 63)]), 2147483669, 2147483669), ((1, []), 2147483665, 2147483665), ((2, []), 2147483648, 2147483664)] 7 99999999 (rx_find rx_mL 18) rx_L0 [] rx_w0 221 26609) = true := by decide +kernel
set_option maxRecDepth 1000000 in
theorem rx_r21_54 : rx_isE (rx_lawR [((0, [(0, 63)]), 2147483669, 2147483669), ((1, []), 2147483665, 2147483665), ((2, []), 2147483665, 4294967295)] 7 99999999 (rx_find rx_mL 18) rx_L0 [] rx_w0 221 26609) = true := by decide +kernel
set_option maxRecDepth 1000000 in
theorem rx_r21_55 : rx_isE (rx_lawR [((0, [(0, 63)]), 2147483669, 2147483669), ((1, []), 2147483666, 2147483666), ((2, []), 2147483648, 2147483665)] 7 99999999 (rx_find rx_mL 18) rx_L0 [] rx_w0 221 26609) = true := by decide +kernel
set_option maxRecDepth 1000000 in
theorem rx_r21_56 : rx_isE (rx_lawR [((0, [(0, 63)]), 2147483669, 2147483669), ((1, []), 2147483666, 2147483666), ((2, []), 2147483666, 4294967295)] 7 99999999 (rx_find rx_mL 18) rx_L0 [] rx_w0 221 26609) = true := by decide +kernel
set_option maxRecDepth 1000000 in
theorem rx_r21_57 : rx_isE (rx_lawR [((0, [(0, 63)]), 2147483669, 2147483669), ((1, []), 2147483667, 2147483667), ((2, []), 2147483648, 2147483666)] 7 99999999 (rx_find rx_mL 18) rx_L0 [] rx_w0 221 26609) = true := by decide +kernel
set_option maxRecDepth 1000000 in
theorem rx_r21_58 : rx_isE (rx_lawR [((0, [(0, 63)]), 2147483669, 2147483669), ((1, []), 2147483667, 2147483667), ((2, []), 2147483667, 4294967295)] 7 99999999 (rx_find rx_mL 18) rx_L0 [] rx_w0 221 26609) = true := by decide +kernel
set_option maxRecDepth 1000000 in
theorem rx_r21_59 : rx_isE (rx_lawR [((0, [(0, 63)]), 2147483669, 2147483669), ((1, []), 2147483668, 2147483668), ((2, []), 2147483648, 2147483667)] 7 99999999 (rx_find rx_mL 18) rx_L0 [] rx_w0 221 26609) = true := by decide +kernel
set_option maxRecDepth 1000000 in
theorem rx_r21_60 : rx_isE (rx_lawR [((0, [(0, 63)]), 2147483669, 2147483669), ((1, []), 2147483668, 2147483668), ((2, []), 2147483668, 4294967295)] 7 99999999 (rx_find rx_mL 18) rx_L0 [] rx_w0 221 26609) = true := by decide +kernel
set_option maxRecDepth 1000000 in
theorem rx_r21_61 : rx_isE (rx_lawR [((0, [(0, 63)]), 2147483669, 2147483669), ((1, []), 2147483669, 4294967295)] 7 99999999 (rx_find rx_mL 18) rx_L0 [] rx_w0 221 26609) = true := by decide +kernel
set_option maxRecDepth 1000000 in
theorem rx_r22_0 : rx_isE (rx_lawR [((0, [(0, 63)]), 2147483670, 2147483670), ((1, []), 0, 2147483648)] 7 99999999 (rx_find rx_mL 18) rx_L0 [] rx_w0 221 26609) = true := by decide +kernel
set_option maxRecDepth 1000000 in
theorem rx_r22_1 : rx_isE (rx_lawR [((0, [(0, 63)]), 2147483670, 2147483670), ((1, []), 2147483649, 2147483668), ((2, []), 0, 2147483647)] 7 99999999 (rx_find rx_mL 18) rx_L0 [] rx_w0 221 26609) = true := by decide +kernel
set_option maxRecDepth 1000000 in
theorem rx_r22_2 : rx_isE (rx_lawR [((0, [(0, 63)]), 2147483670, 2147483670), ((1, []), 2147483649, 2147483649), ((2, []), 2147483648, 2147483649)] 7 99999999 (rx_find rx_mL 18) rx_L0 [] rx_w0 221 26609) = true := by decide +kernel
set_option maxRecDepth 1000000 in
theorem rx_r22_3 : rx_isE (rx_lawR [((0, [(0, 63)]), 2147483670, 2147483670), ((1, []), 2147483650, 2147483650), ((2, []), 2147483648, 2147483649)] 7 99999999 (rx_find rx_mL 18) rx_L0 [] rx_w0 221 26609) = true := by decide +kernel
set_option maxRecDepth 1000000 in
theorem rx_r22_4 : rx_isE (rx_lawR [((0, [(0, 63)]), 2147483670, 2147483670), ((1, []), 2147483651, 2147483651), ((2, []), 2147483648, 2147483649)] 7 99999999 (rx_find rx_mL 18) rx_L0 [] rx_w0 221 26609) = true := by decide +kernel
set_option maxRecDepth 1000000 in
theorem rx_r22_5 : rx_isE (rx_lawR [((0, [(0, 63)]), 2147483670, 2147483670), ((1, []), 2147483652, 2147483652), ((2, []), 2147483648, 2147483649)] 7 99999999 (rx_find rx_mL 18) rx_L0 [] rx_w0 221 26609) = true := by decide +kernel
set_option maxRecDepth 1000000 in
theorem rx_r22_6 : rx_isE (rx_lawR [((0, [(0, 63)]), 2147483670, 2147483670), ((1, []), 2147483653, 2147483653), ((2, []), 2147483648, 2147483649)] 7 99999999 (rx_find rx_mL 18) rx_L0 [] rx_w0 221 26609) = true := by decide +kernel
set_option maxRecDepth 1000000 in
theorem rx_r22_7 : rx_isE (rx_lawR [((0, [(0, 63)]), 2147483670, 2147483670), ((1, []), 2147483654, 2147483654), ((2, []), 2147483648, 2147483649)] 7 99999999 (rx_find rx_mL 18) rx_L0 [] rx_w0 221 26609) = true := by decide +kernel
set_option maxRecDepth 1000000 in
theorem rx_r22_8 : rx_isE (rx_lawR [((0, [(0, 63)]), 2147483670, 2147483670), ((1, []), 2147483655, 2147483655), ((2, []), 2147483648, 2147483649)] 7 99999999 (rx_find rx_mL 18) rx_L0 [] rx_w0 221 26609) = true := by decide +kernel
set_option maxRecDepth 1000000 in
theorem rx_r22_9 : rx_isE (rx_lawR [((0, [(0, 63)]), 2147483670, 2147483670), ((1, []), 2147483656, 2147483656), ((2, []), 2147483648, 2147483649)] 7 99999999 (rx_find rx_mL 18) rx_L0 [] rx_w0 221 26609) = true := by decide +kernel
set_option maxRecDepth 1000000 in
theorem rx_r22_10 : rx_isE (rx_lawR [((0, [(0, 63)]), 2147483670, 2147483670), ((1, []), 2147483657, 2147483657), ((2, []), 2147483648, 2147483649)] 7 99999999 (rx_find rx_mL 18) rx_L0 [] rx_w0 221 26609) = true := by decide +kernel
set_option maxRecDepth 1000000 in
theorem rx_r22_11 : rx_isE (rx_lawR [((0, [(0, 63)]), 2147483670, 2147483670), ((1, []), 2147483658, 2147483658), ((2, []), 2147483648, 2147483649)] 7 99999999 (rx_find rx_mL 18) rx_L0 [] rx_w0 221 26609) = true := by decide +kernel
set_option maxRecDepth 1000000 in
theorem rx_r22_12 : rx_isE (rx_lawR [((0, [(0, 63)]), 2147483670, 2147483670), ((1, []), 2147483659, 2147483659), ((2, []), 2147483648, 2147483649)] 7 99999999 (rx_find rx_mL 18) rx_L0 [] rx_w0 221 26609) = true := by decide +kernel
set_option maxRecDepth 1000000 in
theorem rx_r22_13 : rx_isE (rx_lawR [((0, [(0, 63)]), 2147483670, 2147483670), ((1, []), 2147483660, 2147483660), ((2, []), 2147483648, 2147483649)] 7 99999999 (rx_find rx_mL 18) rx_L0 [] rx_w0 221 26609) = true := by decide +kernel
set_option maxRecDepth 1000000 in
theorem rx_r22_14 : rx_isE (rx_lawR [((0, [(0, 63)]), 2147483670, 2147483670), ((1, []), 2147483661, 2147483661), ((2, []), 2147483648, 2147483649)] 7 99999999 (rx_find rx_mL 18) rx_L0 [] rx_w0 221 26609) = true := by decide +kernel
set_option maxRecDepth 1000000 in
theorem rx_r22_15 : rx_isE (rx_lawR [((0, [(0, 63)]), 2147483670, 2147483670), ((1, []), 2147483662, 2147483662), ((2, []), 2147483648, 2147483649)] 7 99999999 (rx_find rx_mL 18) rx_L0 [] rx_w0 221 26609) = true := by decide +kernel
set_option maxRecDepth 1000000 in
theorem rx_r22_16 : rx_isE (rx_lawR [((0, [(0, 63)]), 2147483670, 2147483670), ((1, []), 2147483663, 2147483663), ((2, []), 2147483648, 2147483649)] 7 99999999 (rx_find rx_mL 18) rx_L0 [] rx_w0 221 26609) = true := by decide +kernel
set_option maxRecDepth 1000000 in
theorem rx_r22_17 : rx_isE (rx_lawR [((0, [(0, 63)]), 2147483670, 2147483670), ((1, []), 2147483664, 2147483664), ((2, []), 2147483648, 2147483649)] 7 99999999 (rx_find rx_mL 18) rx_L0 [] rx_w0 221 26609) = true := by decide +kernel
set_option maxRecDepth 1000000 in
theorem rx_r22_18 : rx_isE (rx_lawR [((0, [(0, 63)]), 2147483670, 2147483670), ((1, []), 2147483665, 2147483665), ((2, []), 2147483648, 2147483649)] 7 99999999 (rx_find rx_mL 18) rx_L0 [] rx_w0 221 26609) = true := by decide +kernel
set_option maxRecDepth 1000000 in
theorem rx_r22_19 : rx_isE (rx_lawR [((0, [(0, 63)]), 2147483670, 2147483670), ((1, []), 2147483666, 2147483666), ((2, []), 2147483648, 2147483649)] 7 99999999 (rx_find rx_mL 18) rx_L0 [] rx_w0 221 26609) = true := by decide +kernel
set_option maxRecDepth 1000000 in
theorem rx_r22_20 : rx_isE (rx_lawR [((0, [(0, 63)]), 2147483670, 2147483670), ((1, []), 2147483667, 2147483667), ((2, []), 2147483648, 2147483649)] 7 99999999 (rx_find rx_mL 18) rx_L0 [] rx_w0 221 26609) = true := by decide +kernel
set_option maxRecDepth 1000000 in
theorem rx_r22_21 : rx_isE (rx_lawR [((0, [(0, 63)]), 2147483670, 2147483670), ((1, []), 2147483668, 2147483668), ((2, []), 2147483648, 2147483649)] 7 99999999 (rx_find rx_mL 18) rx_L0 [] rx_w0 221 26609) = true := by decide +kernel
set_option maxRecDepth 1000000 in
theorem rx_r22_22 : rx_isE (rx_lawR [((0, [(0, 63)]), 2147483670, 2147483670), ((1, []), 2147483649, 2147483668), ((2, []), 2147483650, 4294967295)] 7 99999999 (rx_find rx_mL 18) rx_L0 [] rx_w0 221 26609) = true := by decide +kernel
set_option maxRecDepth 1000000 in
theorem rx_r22_23 : rx_isE (rx_lawR [((0, [(0, 63)]), 2147483670, 2147483670), ((1, []), 2147483669, 4294967295)] 7 99999999 (rx_find rx_mL 18) rx_L0 [] rx_w0 221 26609) = true := by decide +kernel
set_option maxRecDepth 1000000 in
theorem rx_r25_0 : rx_isE (rx_lawR [((0, [(0, 63)]), 2147483673, 2147483673), ((1, []), 0, 2147483647)] 7 99999999 (rx_find rx_mL 18) rx_L0 [] rx_w0 221 26609) = true := by decide +kernel
set_option maxRecDepth 1000000 in
theorem rx_r25_1 : rx_isE (rx_lawR [((0, [(0, 63)]), 2147483673, 2147483673), ((1, []), 2147483648, 4294967295)] 7 99999999 (rx_find rx_mL 18) rx_L0 [] rx_w0 221 26609) = true := by decide +kernel
set_option maxRecDepth 1000000 in
theorem rx_r26_0 : rx_isE (rx_lawR [((0, [(0, 63)]), 2147483674, 2147483674), ((1, []), 0, 2147483647)] 7 99999999 (rx_find rx_mL 18) rx_L0 [] rx_w0 221 26609) = true := by decide +kernel
set_option maxRecDepth 1000000 in
theorem rx_r26_1 : rx_isE (rx_lawR [((0, [(0, 63)]), 2147483674, 2147483674), ((1, []), 2147483648, 4294967295)] 7 99999999 (rx_find rx_mL 18) rx_L0 [] rx_w0 221 26609) = true := by decide +kernel
set_option maxRecDepth 1000000 in
theorem rx_r27_0 : rx_isE (rx_lawR [((0, [(0, 63)]), 2147483675, 2147483675), ((1, []), 0, 2147483647)] 7 99999999 (rx_find rx_mL 18) rx_L0 [] rx_w0 221 26609) = true := by decide +kernel
set_option maxRecDepth 1000000 in
theorem rx_r27_1 : rx_isE (rx_lawR [((0, [(0, 63)]), 2147483675, 2147483675), ((1, []), 2147483648, 4294967295)] 7 99999999 (rx_find rx_mL 18) rx_L0 [] rx_w0 221 26609) = true := by decide +kernel
set_option maxRecDepth 1000000 in
theorem rx_r28_0 : rx_isE (rx_lawR [((0, [(0, 63)]), 2147483676, 2147483676)] 7 99999999 (rx_find rx_mL 18) rx_L0 [] rx_w0 221 26609) = true := by decide +kernel
set_option maxRecDepth 1000000 in
theorem rx_r29_0 : rx_isE (rx_lawR [((0, [(0, 63)]), 2147483677, 2147483677)] 7 99999999 (rx_find rx_mL 18) rx_L0 [] rx_w0 221 26609) = true := by decide +kernel
set_option maxRecDepth 1000000 in
theorem rx_r30_0 : rx_isE (rx_lawR [((0, [(0, 63)]), 2147483678, 2147483678), ((1, []), 0, 2147483647)] 7 99999999 (rx_find rx_mL 18) rx_L0 [] rx_w0 221 26609) = true := by decide +kernel
set_option maxRecDepth 1000000 in
theorem rx_r30_1 : rx_isE (rx_lawR [((0, [(0, 63)]), 2147483678, 2147483678), ((1, []), 2147483648, 4294967295)] 7 99999999 (rx_find rx_mL 18) rx_L0 [] rx_w0 221 26609) = true := by decide +kernel
set_option maxRecDepth 1000000 in
theorem rx_r31_0 : rx_isE (rx_lawR [((0, [(0, 63)]), 2147483679, 2147483679), ((1, []), 0, 2147483647)] 7 99999999 (rx_find rx_mL 18) rx_L0 [] rx_w0 221 26609) = true := by decide +kernel
set_option maxRecDepth 1000000 in
theorem rx_r31_1 : rx_isE (rx_lawR [((0, [(0, 63)]), 2147483679, 2147483679), ((1, []), 2147483648, 4294967295)] 7 99999999 (rx_find rx_mL 18) rx_L0 [] rx_w0 221 26609) = true := by decide +kernel
set_option maxRecDepth 1000000 in
theorem rx_r32_0 : rx_isE (rx_lawR [((0, [(0, 63)]), 2147483680, 2147483680)] 7 99999999 (rx_find rx_mL 18) rx_L0 [] rx_w0 221 26609) = true := by decide +kernel
set_option maxRecDepth 1000000 in
theorem rx_r33_0 : rx_isE (rx_lawR [((0, [(0, 63)]), 2147483681, 2147483681), ((1, []), 0, 2147483647)] 7 99999999 (rx_find rx_mL 18) rx_L0 [] rx_w0 221 26609) = true := by decide +kernel
set_option maxRecDepth 1000000 in
theorem rx_r33_1 : rx_isE (rx_lawR [((0, [(0, 63)]), 2147483681, 2147483681), ((1, []), 2147483648, 4294967295)] 7 99999999 (rx_find rx_mL 18) rx_L0 [] rx_w0 221 26609) = true := by decide +kernel
set_option maxRecDepth 1000000 in
theorem rx_r34_0 : rx_isE (rx_lawR [((0, [(0, 63)]), 2147483682, 2147483682)] 7 99999999 (rx_find rx_mL 18) rx_L0 [] rx_w0 221 26609) = true := by decide +kernel
set_option maxRecDepth 1000000 in
theorem rx_r35_0 : rx_isE (rx_lawR [((0, [(0, 63)]), 2147483683, 2147483683), ((1, []), 0, 2147483647)] 7 99999999 (rx_find rx_mL 18) rx_L0 [] rx_w0 221 26609) = true := by decide +kernel
end
section
/-! printed by wip/p1/regs.py: closed runs of the law, a region of scripts each -/
set_option maxRecDepth 1000000 in
theorem rx_r35_1 : rx_isE (rx_lawR [((0, [(0, 63)]), 2147483683, 2147483683), ((1, []), 2147483648, 2147483648)] 7 99999999 (rx_find rx_mL 18) rx_L0 [] rx_w0 221 26609) = true := by decide +kernel
set_option maxRecDepth 1000000 in
theorem rx_r35_2 : rx_isE (rx_lawR [((0, [(0, 63)]), 2147483683, 2147483683), ((1, []), 2147483649, 2147483649)] 7 99999999 (rx_find rx_mL 18) rx_L0 [] rx_w0 221 26609) = true := by decide +kernel
set_option maxRecDepth 1000000 in
theorem rx_r35_3 : rx_isE (rx_lawR [((0, [(0, 63)]), 2147483683, 2147483683), ((1, []), 2147483650, 2147483650)] 7 99999999 (rx_find rx_mL 18) rx_L0 [] rx_w0 221 26609) = true := by decide +kernel
set_option maxRecDepth 1000000 in
theorem rx_r35_4 : rx_isE (rx_lawR [((0, [(0, 63)]), 2147483683, 2147483683), ((1, []), 2147483651, 2147483651)] 7 99999999 (rx_find rx_mL 18) rx_L0 [] rx_w0 221 26609) = true := by decide +kernel
set_option maxRecDepth 1000000 in
theorem rx_r35_5 : rx_isE (rx_lawR [((0, [(0, 63)]), 2147483683, 2147483683), ((1, []), 2147483652, 2147483652)] 7 99999999 (rx_find rx_mL 18) rx_L0 [] rx_w0 221 26609) = true := by decide +kernel
set_option maxRecDepth 1000000 in
theorem rx_r35_6 : rx_isE (rx_lawR [((0, [(0, 63)]), 2147483683, 2147483683), ((1, []), 2147483653, 2147483653)] 7 99999999 (rx_find rx_mL 18) rx_L0 [] rx_w0 221 26609) = true := by decide +kernel
set_option maxRecDepth 1000000 in
theorem rx_r35_7 : rx_isE (rx_lawR [((0, [(0, 63)]), 2147483683, 2147483683), ((1, []), 2147483654, 4294967295)] 7 99999999 (rx_find rx_mL 18) rx_L0 [] rx_w0 221 26609) = true := by decide +kernel
set_option maxRecDepth 1000000 in
theorem rx_r36_0 : rx_isE (rx_lawR [((0, [(0, 63)]), 2147483684, 2147483711)] 7 99999999 (rx_find rx_mL 18) rx_L0 [] rx_w0 221 26609) = true := by decide +kernel
end
section
/-! printed by wip/p1/regs.py: the cases out of the regions -/
section RXG
variable {p : Program} {l : Launch} {e : Env} {s : State} {m : MethodId} {below : List Frame} {meth : Method} {c : Code} {b : Nat} {xs : Nat → Int32} {X : rx_X} {D : va_G}
theorem rx_case0 (C0 : rx_lawC p s m meth c b 6 xs X D) (h0 : 2147483648 ≤ rx_b (rx_U X 0 [(0, 63)]) ∧ rx_b (rx_U X 0 [(0, 63)]) ≤ 2147483648) : rx_LW p l e s m below meth c b X D 18 rx_L0 [] rx_w0 221 26609 := by
  exact rx_lawE C0 (Or.inr rfl) (rx_fok_c h0.1 h0.2 rx_fok_n) rx_r0_0
theorem rx_case1 (C0 : rx_lawC p s m meth c b 6 xs X D) (h0 : 2147483649 ≤ rx_b (rx_U X 0 [(0, 63)]) ∧ rx_b (rx_U X 0 [(0, 63)]) ≤ 2147483649) : rx_LW p l e s m below meth c b X D 18 rx_L0 [] rx_w0 221 26609 := by
  have l0 := rx_b_lt (rx_U X 1 [])
  by_cases q0 : rx_b (rx_U X 1 []) < 2147483648
  · exact rx_lawE C0 (Or.inr rfl) (rx_fok_c h0.1 h0.2 (rx_fok_c (by omega) (by omega) rx_fok_n)) rx_r1_0
  · by_cases q1 : rx_b (rx_U X 1 []) < 2147483649
    · exact rx_lawE C0 (Or.inr rfl) (rx_fok_c h0.1 h0.2 (rx_fok_c (by omega) (by omega) rx_fok_n)) rx_r1_1
    · exact rx_lawE C0 (Or.inr rfl) (rx_fok_c h0.1 h0.2 (rx_fok_c (by omega) (by omega) rx_fok_n)) rx_r1_2
theorem rx_case2 (C0 : rx_lawC p s m meth c b 6 xs X D) (h0 : 2147483650 ≤ rx_b (rx_U X 0 [(0, 63)]) ∧ rx_b (rx_U X 0 [(0, 63)]) ≤ 2147483650) : rx_LW p l e s m below meth c b X D 18 rx_L0 [] rx_w0 221 26609 := by
  exact rx_lawE C0 (Or.inr rfl) (rx_fok_c h0.1 h0.2 rx_fok_n) rx_r2_0
theorem rx_case3 (C0 : rx_lawC p s m meth c b 6 xs X D) (h0 : 2147483651 ≤ rx_b (rx_U X 0 [(0, 63)]) ∧ rx_b (rx_U X 0 [(0, 63)]) ≤ 2147483651) : rx_LW p l e s m below meth c b X D 18 rx_L0 [] rx_w0 221 26609 := by
  have l0 := rx_b_lt (rx_U X 1 [])
  by_cases q0 : rx_b (rx_U X 1 []) < 2147483648
  · exact rx_lawE C0 (Or.inr rfl) (rx_fok_c h0.1 h0.2 (rx_fok_c (by omega) (by omega) rx_fok_n)) rx_r3_0
  · by_cases q1 : rx_b (rx_U X 1 []) < 2147483649
    · exact rx_lawE C0 (Or.inr rfl) (rx_fok_c h0.1 h0.2 (rx_fok_c (by omega) (by omega) rx_fok_n)) rx_r3_1
    · by_cases q2 : rx_b (rx_U X 1 []) < 2147483650
      · exact rx_lawE C0 (Or.inr rfl) (rx_fok_c h0.1 h0.2 (rx_fok_c (by omega) (by omega) rx_fok_n)) rx_r3_2
      · exact rx_lawE C0 (Or.inr rfl) (rx_fok_c h0.1 h0.2 (rx_fok_c (by omega) (by omega) rx_fok_n)) rx_r3_3
theorem rx_case4 (C0 : rx_lawC p s m meth c b 6 xs X D) (h0 : 2147483652 ≤ rx_b (rx_U X 0 [(0, 63)]) ∧ rx_b (rx_U X 0 [(0, 63)]) ≤ 2147483652) : rx_LW p l e s m below meth c b X D 18 rx_L0 [] rx_w0 221 26609 := by
  have l0 := rx_b_lt (rx_U X 1 [])
  by_cases q0 : rx_b (rx_U X 1 []) < 2147483648
  · exact rx_lawE C0 (Or.inr rfl) (rx_fok_c h0.1 h0.2 (rx_fok_c (by omega) (by omega) rx_fok_n)) rx_r4_0
  · by_cases q1 : rx_b (rx_U X 1 []) < 2147483649
    · exact rx_lawE C0 (Or.inr rfl) (rx_fok_c h0.1 h0.2 (rx_fok_c (by omega) (by omega) rx_fok_n)) rx_r4_1
    · by_cases q2 : rx_b (rx_U X 1 []) < 2147483650
      · exact rx_lawE C0 (Or.inr rfl) (rx_fok_c h0.1 h0.2 (rx_fok_c (by omega) (by omega) rx_fok_n)) rx_r4_2
      · by_cases q3 : rx_b (rx_U X 1 []) < 2147483651
        · exact rx_lawE C0 (Or.inr rfl) (rx_fok_c h0.1 h0.2 (rx_fok_c (by omega) (by omega) rx_fok_n)) rx_r4_3
        · by_cases q4 : rx_b (rx_U X 1 []) < 2147483652
          · exact rx_lawE C0 (Or.inr rfl) (rx_fok_c h0.1 h0.2 (rx_fok_c (by omega) (by omega) rx_fok_n)) rx_r4_4
          · by_cases q5 : rx_b (rx_U X 1 []) < 2147483653
            · exact rx_lawE C0 (Or.inr rfl) (rx_fok_c h0.1 h0.2 (rx_fok_c (by omega) (by omega) rx_fok_n)) rx_r4_5
            · by_cases q6 : rx_b (rx_U X 1 []) < 2147483654
              · exact rx_lawE C0 (Or.inr rfl) (rx_fok_c h0.1 h0.2 (rx_fok_c (by omega) (by omega) rx_fok_n)) rx_r4_6
              · by_cases q7 : rx_b (rx_U X 1 []) < 2147483655
                · exact rx_lawE C0 (Or.inr rfl) (rx_fok_c h0.1 h0.2 (rx_fok_c (by omega) (by omega) rx_fok_n)) rx_r4_7
                · by_cases q8 : rx_b (rx_U X 1 []) < 2147483656
                  · exact rx_lawE C0 (Or.inr rfl) (rx_fok_c h0.1 h0.2 (rx_fok_c (by omega) (by omega) rx_fok_n)) rx_r4_8
                  · by_cases q9 : rx_b (rx_U X 1 []) < 2147483657
                    · exact rx_lawE C0 (Or.inr rfl) (rx_fok_c h0.1 h0.2 (rx_fok_c (by omega) (by omega) rx_fok_n)) rx_r4_9
                    · by_cases q10 : rx_b (rx_U X 1 []) < 2147483658
                      · exact rx_lawE C0 (Or.inr rfl) (rx_fok_c h0.1 h0.2 (rx_fok_c (by omega) (by omega) rx_fok_n)) rx_r4_10
                      · exact rx_lawE C0 (Or.inr rfl) (rx_fok_c h0.1 h0.2 (rx_fok_c (by omega) (by omega) rx_fok_n)) rx_r4_11
theorem rx_case5 (C0 : rx_lawC p s m meth c b 6 xs X D) (h0 : 2147483653 ≤ rx_b (rx_U X 0 [(0, 63)]) ∧ rx_b (rx_U X 0 [(0, 63)]) ≤ 2147483653) : rx_LW p l e s m below meth c b X D 18 rx_L0 [] rx_w0 221 26609 := by
  have l0 := rx_b_lt (rx_U X 1 [])
  have l1 := rx_b_lt (rx_U X 2 [])
  have l2 := rx_b_lt (rx_U X 3 [])
  by_cases q0 : rx_b (rx_U X 3 []) < 2147483648
  · by_cases q1 : rx_b (rx_U X 1 []) < 2147483648
    · exact rx_lawE C0 (Or.inr rfl) (rx_fok_c h0.1 h0.2 (rx_fok_c (by omega) (by omega) (rx_fok_c (by omega) (by omega) rx_fok_n))) rx_r5_0
    · by_cases q2 : rx_b (rx_U X 1 []) < 2147483650
      · by_cases q3 : rx_b (rx_U X 1 []) < 2147483649
        · by_cases q4 : rx_b (rx_U X 2 []) < 2147483648
          · exact rx_lawE C0 (Or.inr rfl) (rx_fok_c h0.1 h0.2 (rx_fok_c (by omega) (by omega) (rx_fok_c (by omega) (by omega) (rx_fok_c (by omega) (by omega) rx_fok_n)))) rx_r5_1
          · exact rx_lawE C0 (Or.inr rfl) (rx_fok_c h0.1 h0.2 (rx_fok_c (by omega) (by omega) (rx_fok_c (by omega) (by omega) (rx_fok_c (by omega) (by omega) rx_fok_n)))) rx_r5_2
        · by_cases q4 : rx_b (rx_U X 2 []) < 2147483648
          · exact rx_lawE C0 (Or.inr rfl) (rx_fok_c h0.1 h0.2 (rx_fok_c (by omega) (by omega) (rx_fok_c (by omega) (by omega) (rx_fok_c (by omega) (by omega) rx_fok_n)))) rx_r5_3
          · exact rx_lawE C0 (Or.inr rfl) (rx_fok_c h0.1 h0.2 (rx_fok_c (by omega) (by omega) (rx_fok_c (by omega) (by omega) (rx_fok_c (by omega) (by omega) rx_fok_n)))) rx_r5_4
      · exact rx_lawE C0 (Or.inr rfl) (rx_fok_c h0.1 h0.2 (rx_fok_c (by omega) (by omega) (rx_fok_c (by omega) (by omega) rx_fok_n))) rx_r5_5
  · by_cases q1 : rx_b (rx_U X 3 []) < 2147483654
    · by_cases q2 : rx_b (rx_U X 1 []) < 2147483648
      · exact rx_lawE C0 (Or.inr rfl) (rx_fok_c h0.1 h0.2 (rx_fok_c (by omega) (by omega) (rx_fok_c (by omega) (by omega) rx_fok_n))) rx_r5_6
      · by_cases q3 : rx_b (rx_U X 1 []) < 2147483649
        · by_cases q4 : rx_b (rx_U X 2 []) < 2147483648
          · exact rx_lawE C0 (Or.inr rfl) (rx_fok_c h0.1 h0.2 (rx_fok_c (by omega) (by omega) (rx_fok_c (by omega) (by omega) (rx_fok_c (by omega) (by omega) rx_fok_n)))) rx_r5_7
          · exact rx_lawE C0 (Or.inr rfl) (rx_fok_c h0.1 h0.2 (rx_fok_c (by omega) (by omega) (rx_fok_c (by omega) (by omega) (rx_fok_c (by omega) (by omega) rx_fok_n)))) rx_r5_8
        · by_cases q4 : rx_b (rx_U X 1 []) < 2147483650
          · by_cases q5 : rx_b (rx_U X 2 []) < 2147483648
            · exact rx_lawE C0 (Or.inr rfl) (rx_fok_c h0.1 h0.2 (rx_fok_c (by omega) (by omega) (rx_fok_c (by omega) (by omega) (rx_fok_c (by omega) (by omega) rx_fok_n)))) rx_r5_9
            · exact rx_lawE C0 (Or.inr rfl) (rx_fok_c h0.1 h0.2 (rx_fok_c (by omega) (by omega) (rx_fok_c (by omega) (by omega) (rx_fok_c (by omega) (by omega) rx_fok_n)))) rx_r5_10
          · exact rx_lawE C0 (Or.inr rfl) (rx_fok_c h0.1 h0.2 (rx_fok_c (by omega) (by omega) (rx_fok_c (by omega) (by omega) rx_fok_n))) rx_r5_11
    · by_cases q2 : rx_b (rx_U X 1 []) < 2147483648
      · exact rx_lawE C0 (Or.inr rfl) (rx_fok_c h0.1 h0.2 (rx_fok_c (by omega) (by omega) (rx_fok_c (by omega) (by omega) rx_fok_n))) rx_r5_12
      · by_cases q3 : rx_b (rx_U X 1 []) < 2147483650
        · by_cases q4 : rx_b (rx_U X 1 []) < 2147483649
          · by_cases q5 : rx_b (rx_U X 2 []) < 2147483648
            · exact rx_lawE C0 (Or.inr rfl) (rx_fok_c h0.1 h0.2 (rx_fok_c (by omega) (by omega) (rx_fok_c (by omega) (by omega) (rx_fok_c (by omega) (by omega) rx_fok_n)))) rx_r5_13
            · exact rx_lawE C0 (Or.inr rfl) (rx_fok_c h0.1 h0.2 (rx_fok_c (by omega) (by omega) (rx_fok_c (by omega) (by omega) (rx_fok_c (by omega) (by omega) rx_fok_n)))) rx_r5_14
          · by_cases q5 : rx_b (rx_U X 2 []) < 2147483648
            · exact rx_lawE C0 (Or.inr rfl) (rx_fok_c h0.1 h0.2 (rx_fok_c (by omega) (by omega) (rx_fok_c (by omega) (by omega) (rx_fok_c (by omega) (by omega) rx_fok_n)))) rx_r5_15
            · exact rx_lawE C0 (Or.inr rfl) (rx_fok_c h0.1 h0.2 (rx_fok_c (by omega) (by omega) (rx_fok_c (by omega) (by omega) (rx_fok_c (by omega) (by omega) rx_fok_n)))) rx_r5_16
        · exact rx_lawE C0 (Or.inr rfl) (rx_fok_c h0.1 h0.2 (rx_fok_c (by omega) (by omega) (rx_fok_c (by omega) (by omega) rx_fok_n))) rx_r5_17
theorem rx_case6 (C0 : rx_lawC p s m meth c b 6 xs X D) (h0 : 2147483654 ≤ rx_b (rx_U X 0 [(0, 63)]) ∧ rx_b (rx_U X 0 [(0, 63)]) ≤ 2147483654) : rx_LW p l e s m below meth c b X D 18 rx_L0 [] rx_w0 221 26609 := by
  have l0 := rx_b_lt (rx_U X 1 [])
  by_cases q0 : rx_b (rx_U X 1 []) < 2147483648
  · exact rx_lawE C0 (Or.inr rfl) (rx_fok_c h0.1 h0.2 (rx_fok_c (by omega) (by omega) rx_fok_n)) rx_r6_0
  · exact rx_lawE C0 (Or.inr rfl) (rx_fok_c h0.1 h0.2 (rx_fok_c (by omega) (by omega) rx_fok_n)) rx_r6_1
theorem rx_case7 (C0 : rx_lawC p s m meth c b 6 xs X D) (h0 : 2147483655 ≤ rx_b (rx_U X 0 [(0, 63)]) ∧ rx_b (rx_U X 0 [(0, 63)]) ≤ 2147483655) : rx_LW p l e s m below meth c b X D 18 rx_L0 [] rx_w0 221 26609 := by
  have l0 := rx_b_lt (rx_U X 1 [])
  by_cases q0 : rx_b (rx_U X 1 []) < 2147483648
  · exact rx_lawE C0 (Or.inr rfl) (rx_fok_c h0.1 h0.2 (rx_fok_c (by omega) (by omega) rx_fok_n)) rx_r7_0
  · exact rx_lawE C0 (Or.inr rfl) (rx_fok_c h0.1 h0.2 (rx_fok_c (by omega) (by omega) rx_fok_n)) rx_r7_1
theorem rx_case8 (C0 : rx_lawC p s m meth c b 6 xs X D) (h0 : 2147483656 ≤ rx_b (rx_U X 0 [(0, 63)]) ∧ rx_b (rx_U X 0 [(0, 63)]) ≤ 2147483656) : rx_LW p l e s m below meth c b X D 18 rx_L0 [] rx_w0 221 26609 := by
  have l0 := rx_b_lt (rx_U X 1 [])
  by_cases q0 : rx_b (rx_U X 1 []) < 2147483648
  · exact rx_lawE C0 (Or.inr rfl) (rx_fok_c h0.1 h0.2 (rx_fok_c (by omega) (by omega) rx_fok_n)) rx_r8_0
  · exact rx_lawE C0 (Or.inr rfl) (rx_fok_c h0.1 h0.2 (rx_fok_c (by omega) (by omega) rx_fok_n)) rx_r8_1
theorem rx_case9 (C0 : rx_lawC p s m meth c b 6 xs X D) (h0 : 2147483657 ≤ rx_b (rx_U X 0 [(0, 63)]) ∧ rx_b (rx_U X 0 [(0, 63)]) ≤ 2147483657) : rx_LW p l e s m below meth c b X D 18 rx_L0 [] rx_w0 221 26609 := by
  have l0 := rx_b_lt (rx_U X 1 [])
  by_cases q0 : rx_b (rx_U X 1 []) < 2147483648
  · exact rx_lawE C0 (Or.inr rfl) (rx_fok_c h0.1 h0.2 (rx_fok_c (by omega) (by omega) rx_fok_n)) rx_r9_0
  · exact rx_lawE C0 (Or.inr rfl) (rx_fok_c h0.1 h0.2 (rx_fok_c (by omega) (by omega) rx_fok_n)) rx_r9_1
theorem rx_case10 (C0 : rx_lawC p s m meth c b 6 xs X D) (h0 : 2147483658 ≤ rx_b (rx_U X 0 [(0, 63)]) ∧ rx_b (rx_U X 0 [(0, 63)]) ≤ 2147483658) : rx_LW p l e s m below meth c b X D 18 rx_L0 [] rx_w0 221 26609 := by
  have l0 := rx_b_lt (rx_U X 1 [])
  by_cases q0 : rx_b (rx_U X 1 []) < 2147483648
  · exact rx_lawE C0 (Or.inr rfl) (rx_fok_c h0.1 h0.2 (rx_fok_c (by omega) (by omega) rx_fok_n)) rx_r10_0
  · by_cases q1 : rx_b (rx_U X 1 []) < 2147483649
    · exact rx_lawE C0 (Or.inr rfl) (rx_fok_c h0.1 h0.2 (rx_fok_c (by omega) (by omega) rx_fok_n)) rx_r10_1
    · by_cases q2 : rx_b (rx_U X 1 []) < 2147483650
      · exact rx_lawE C0 (Or.inr rfl) (rx_fok_c h0.1 h0.2 (rx_fok_c (by omega) (by omega) rx_fok_n)) rx_r10_2
      · by_cases q3 : rx_b (rx_U X 1 []) < 2147483651
        · exact rx_lawE C0 (Or.inr rfl) (rx_fok_c h0.1 h0.2 (rx_fok_c (by omega) (by omega) rx_fok_n)) rx_r10_3
        · by_cases q4 : rx_b (rx_U X 1 []) < 2147483652
          · exact rx_lawE C0 (Or.inr rfl) (rx_fok_c h0.1 h0.2 (rx_fok_c (by omega) (by omega) rx_fok_n)) rx_r10_4
          · exact rx_lawE C0 (Or.inr rfl) (rx_fok_c h0.1 h0.2 (rx_fok_c (by omega) (by omega) rx_fok_n)) rx_r10_5
theorem rx_case11 (C0 : rx_lawC p s m meth c b 6 xs X D) (h0 : 2147483659 ≤ rx_b (rx_U X 0 [(0, 63)]) ∧ rx_b (rx_U X 0 [(0, 63)]) ≤ 2147483659) : rx_LW p l e s m below meth c b X D 18 rx_L0 [] rx_w0 221 26609 := by
  have l0 := rx_b_lt (rx_U X 1 [])
  have l1 := rx_b_lt (rx_U X 2 [])
  by_cases q0 : rx_b (rx_U X 1 []) < 2147483648
  · by_cases q1 : rx_b (rx_U X 2 []) < 2147483648
    · exact rx_lawE C0 (Or.inr rfl) (rx_fok_c h0.1 h0.2 (rx_fok_c (by omega) (by omega) (rx_fok_c (by omega) (by omega) rx_fok_n))) rx_r11_0
    · by_cases q2 : rx_b (rx_U X 2 []) < 2147483651
      · exact rx_lawE C0 (Or.inr rfl) (rx_fok_c h0.1 h0.2 (rx_fok_c (by omega) (by omega) (rx_fok_c (by omega) (by omega) rx_fok_n))) rx_r11_1
      · exact rx_lawE C0 (Or.inr rfl) (rx_fok_c h0.1 h0.2 (rx_fok_c (by omega) (by omega) (rx_fok_c (by omega) (by omega) rx_fok_n))) rx_r11_2
  · by_cases q1 : rx_b (rx_U X 2 []) < 2147483648
    · exact rx_lawE C0 (Or.inr rfl) (rx_fok_c h0.1 h0.2 (rx_fok_c (by omega) (by omega) (rx_fok_c (by omega) (by omega) rx_fok_n))) rx_r11_3
    · by_cases q2 : rx_b (rx_U X 2 []) < 2147483651
      · exact rx_lawE C0 (Or.inr rfl) (rx_fok_c h0.1 h0.2 (rx_fok_c (by omega) (by omega) (rx_fok_c (by omega) (by omega) rx_fok_n))) rx_r11_4
      · exact rx_lawE C0 (Or.inr rfl) (rx_fok_c h0.1 h0.2 (rx_fok_c (by omega) (by omega) (rx_fok_c (by omega) (by omega) rx_fok_n))) rx_r11_5
theorem rx_case12 (C0 : rx_lawC p s m meth c b 6 xs X D) (h0 : 2147483660 ≤ rx_b (rx_U X 0 [(0, 63)]) ∧ rx_b (rx_U X 0 [(0, 63)]) ≤ 2147483660) : rx_LW p l e s m below meth c b X D 18 rx_L0 [] rx_w0 221 26609 := by
  exact rx_lawE C0 (Or.inr rfl) (rx_fok_c h0.1 h0.2 rx_fok_n) rx_r12_0
theorem rx_case13 (C0 : rx_lawC p s m meth c b 6 xs X D) (h0 : 2147483661 ≤ rx_b (rx_U X 0 [(0, 63)]) ∧ rx_b (rx_U X 0 [(0, 63)]) ≤ 2147483661) : rx_LW p l e s m below meth c b X D 18 rx_L0 [] rx_w0 221 26609 := by
  have l0 := rx_b_lt (rx_U X 1 [])
  by_cases q0 : rx_b (rx_U X 1 []) < 2147483648
  · exact rx_lawE C0 (Or.inr rfl) (rx_fok_c h0.1 h0.2 (rx_fok_c (by omega) (by omega) rx_fok_n)) rx_r13_0
  · by_cases q1 : rx_b (rx_U X 1 []) < 2147483709
    · exact rx_lawE C0 (Or.inr rfl) (rx_fok_c h0.1 h0.2 (rx_fok_c (by omega) (by omega) rx_fok_n)) rx_r13_1
    · exact rx_lawE C0 (Or.inr rfl) (rx_fok_c h0.1 h0.2 (rx_fok_c (by omega) (by omega) rx_fok_n)) rx_r13_2
theorem rx_case14 (C0 : rx_lawC p s m meth c b 6 xs X D) (h0 : 2147483662 ≤ rx_b (rx_U X 0 [(0, 63)]) ∧ rx_b (rx_U X 0 [(0, 63)]) ≤ 2147483662) : rx_LW p l e s m below meth c b X D 18 rx_L0 [] rx_w0 221 26609 := by
  have l0 := rx_b_lt (rx_U X 1 [])
  by_cases q0 : rx_b (rx_U X 1 []) < 2147483648
  · exact rx_lawE C0 (Or.inr rfl) (rx_fok_c h0.1 h0.2 (rx_fok_c (by omega) (by omega) rx_fok_n)) rx_r14_0
  · exact rx_lawE C0 (Or.inr rfl) (rx_fok_c h0.1 h0.2 (rx_fok_c (by omega) (by omega) rx_fok_n)) rx_r14_1
theorem rx_case15 (C0 : rx_lawC p s m meth c b 6 xs X D) (h0 : 2147483663 ≤ rx_b (rx_U X 0 [(0, 63)]) ∧ rx_b (rx_U X 0 [(0, 63)]) ≤ 2147483663) : rx_LW p l e s m below meth c b X D 18 rx_L0 [] rx_w0 221 26609 := by
  have l0 := rx_b_lt (rx_U X 1 [])
  by_cases q0 : rx_b (rx_U X 1 []) < 2147483649
  · exact rx_lawE C0 (Or.inr rfl) (rx_fok_c h0.1 h0.2 (rx_fok_c (by omega) (by omega) rx_fok_n)) rx_r15_0
  · by_cases q1 : rx_b (rx_U X 1 []) < 2147483652
    · exact rx_lawE C0 (Or.inr rfl) (rx_fok_c h0.1 h0.2 (rx_fok_c (by omega) (by omega) rx_fok_n)) rx_r15_1
    · exact rx_lawE C0 (Or.inr rfl) (rx_fok_c h0.1 h0.2 (rx_fok_c (by omega) (by omega) rx_fok_n)) rx_r15_2
theorem rx_case17 (C0 : rx_lawC p s m meth c b 6 xs X D) (h0 : 2147483665 ≤ rx_b (rx_U X 0 [(0, 63)]) ∧ rx_b (rx_U X 0 [(0, 63)]) ≤ 2147483665) : rx_LW p l e s m below meth c b X D 18 rx_L0 [] rx_w0 221 26609 := by
  have l0 := rx_b_lt (rx_U X 1 [])
  by_cases q0 : rx_b (rx_U X 1 []) < 2147483648
  · exact rx_lawE C0 (Or.inr rfl) (rx_fok_c h0.1 h0.2 (rx_fok_c (by omega) (by omega) rx_fok_n)) rx_r17_0
  · exact rx_lawE C0 (Or.inr rfl) (rx_fok_c h0.1 h0.2 (rx_fok_c (by omega) (by omega) rx_fok_n)) rx_r17_1
theorem rx_case18 (C0 : rx_lawC p s m meth c b 6 xs X D) (h0 : 2147483666 ≤ rx_b (rx_U X 0 [(0, 63)]) ∧ rx_b (rx_U X 0 [(0, 63)]) ≤ 2147483666) : rx_LW p l e s m below meth c b X D 18 rx_L0 [] rx_w0 221 26609 := by
  exact rx_lawE C0 (Or.inr rfl) (rx_fok_c h0.1 h0.2 rx_fok_n) rx_r18_0
theorem rx_case19 (C0 : rx_lawC p s m meth c b 6 xs X D) (h0 : 2147483667 ≤ rx_b (rx_U X 0 [(0, 63)]) ∧ rx_b (rx_U X 0 [(0, 63)]) ≤ 2147483667) : rx_LW p l e s m below meth c b X D 18 rx_L0 [] rx_w0 221 26609 := by
  exact rx_lawE C0 (Or.inr rfl) (rx_fok_c h0.1 h0.2 rx_fok_n) rx_r19_0
theorem rx_case20 (C0 : rx_lawC p s m meth c b 6 xs X D) (h0 : 2147483668 ≤ rx_b (rx_U X 0 [(0, 63)]) ∧ rx_b (rx_U X 0 [(0, 63)]) ≤ 2147483668) : rx_LW p l e s m below meth c b X D 18 rx_L0 [] rx_w0 221 26609 := by
  have l0 := rx_b_lt (rx_U X 1 [])
  by_cases q0 : rx_b (rx_U X 1 []) < 2147483649
  · exact rx_lawE C0 (Or.inr rfl) (rx_fok_c h0.1 h0.2 (rx_fok_c (by omega) (by omega) rx_fok_n)) rx_r20_0
  · by_cases q1 : rx_b (rx_U X 1 []) < 2147483669
    · by_cases q2 : rx_b (rx_U X 1 []) < 2147483650
      · exact rx_lawE C0 (Or.inr rfl) (rx_fok_c h0.1 h0.2 (rx_fok_c (by omega) (by omega) rx_fok_n)) rx_r20_1
      · by_cases q3 : rx_b (rx_U X 1 []) < 2147483651
        · exact rx_lawE C0 (Or.inr rfl) (rx_fok_c h0.1 h0.2 (rx_fok_c (by omega) (by omega) rx_fok_n)) rx_r20_2
        · by_cases q4 : rx_b (rx_U X 1 []) < 2147483652
          · exact rx_lawE C0 (Or.inr rfl) (rx_fok_c h0.1 h0.2 (rx_fok_c (by omega) (by omega) rx_fok_n)) rx_r20_3
          · by_cases q5 : rx_b (rx_U X 1 []) < 2147483653
            · exact rx_lawE C0 (Or.inr rfl) (rx_fok_c h0.1 h0.2 (rx_fok_c (by omega) (by omega) rx_fok_n)) rx_r20_4
            · by_cases q6 : rx_b (rx_U X 1 []) < 2147483654
              · exact rx_lawE C0 (Or.inr rfl) (rx_fok_c h0.1 h0.2 (rx_fok_c (by omega) (by omega) rx_fok_n)) rx_r20_5
              · by_cases q7 : rx_b (rx_U X 1 []) < 2147483655
                · exact rx_lawE C0 (Or.inr rfl) (rx_fok_c h0.1 h0.2 (rx_fok_c (by omega) (by omega) rx_fok_n)) rx_r20_6
                · by_cases q8 : rx_b (rx_U X 1 []) < 2147483656
                  · exact rx_lawE C0 (Or.inr rfl) (rx_fok_c h0.1 h0.2 (rx_fok_c (by omega) (by omega) rx_fok_n)) rx_r20_7
                  · by_cases q9 : rx_b (rx_U X 1 []) < 2147483657
                    · exact rx_lawE C0 (Or.inr rfl) (rx_fok_c h0.1 h0.2 (rx_fok_c (by omega) (by omega) rx_fok_n)) rx_r20_8
                    · by_cases q10 : rx_b (rx_U X 1 []) < 2147483658
                      · exact rx_lawE C0 (Or.inr rfl) (rx_fok_c h0.1 h0.2 (rx_fok_c (by omega) (by omega) rx_fok_n)) rx_r20_9
                      · by_cases q11 : rx_b (rx_U X 1 []) < 2147483659
                        · exact rx_lawE C0 (Or.inr rfl) (rx_fok_c h0.1 h0.2 (rx_fok_c (by omega) (by omega) rx_fok_n)) rx_r20_10
                        · by_cases q12 : rx_b (rx_U X 1 []) < 2147483660
                          · exact rx_lawE C0 (Or.inr rfl) (rx_fok_c h0.1 h0.2 (rx_fok_c (by omega) (by omega) rx_fok_n)) rx_r20_11
                          · by_cases q13 : rx_b (rx_U X 1 []) < 2147483661
                            · exact rx_lawE C0 (Or.inr rfl) (rx_fok_c h0.1 h0.2 (rx_fok_c (by omega) (by omega) rx_fok_n)) rx_r20_12
                            · by_cases q14 : rx_b (rx_U X 1 []) < 2147483662
                              · exact rx_lawE C0 (Or.inr rfl) (rx_fok_c h0.1 h0.2 (rx_fok_c (by omega) (by omega) rx_fok_n)) rx_r20_13
                              · by_cases q15 : rx_b (rx_U X 1 []) < 2147483663
                                · exact rx_lawE C0 (Or.inr rfl) (rx_fok_c h0.1 h0.2 (rx_fok_c (by omega) (by omega) rx_fok_n)) rx_r20_14
                                · by_cases q16 : rx_b (rx_U X 1 []) < 2147483664
                                  · exact rx_lawE C0 (Or.inr rfl) (rx_fok_c h0.1 h0.2 (rx_fok_c (by omega) (by omega) rx_fok_n)) rx_r20_15
                                  · by_cases q17 : rx_b (rx_U X 1 []) < 2147483665
                                    · exact rx_lawE C0 (Or.inr rfl) (rx_fok_c h0.1 h0.2 (rx_fok_c (by omega) (by omega) rx_fok_n)) rx_r20_16
                                    · by_cases q18 : rx_b (rx_U X 1 []) < 2147483666
                                      · exact rx_lawE C0 (Or.inr rfl) (rx_fok_c h0.1 h0.2 (rx_fok_c (by omega) (by omega) rx_fok_n)) rx_r20_17
                                      · by_cases q19 : rx_b (rx_U X 1 []) < 2147483667
                                        · exact rx_lawE C0 (Or.inr rfl) (rx_fok_c h0.1 h0.2 (rx_fok_c (by omega) (by omega) rx_fok_n)) rx_r20_18
                                        · by_cases q20 : rx_b (rx_U X 1 []) < 2147483668
                                          · exact rx_lawE C0 (Or.inr rfl) (rx_fok_c h0.1 h0.2 (rx_fok_c (by omega) (by omega) rx_fok_n)) rx_r20_19
                                          · exact rx_lawE C0 (Or.inr rfl) (rx_fok_c h0.1 h0.2 (rx_fok_c (by omega) (by omega) rx_fok_n)) rx_r20_20
    · exact rx_lawE C0 (Or.inr rfl) (rx_fok_c h0.1 h0.2 (rx_fok_c (by omega) (by omega) rx_fok_n)) rx_r20_21
theorem rx_case21 (C0 : rx_lawC p s m meth c b 6 xs X D) (h0 : 2147483669 ≤ rx_b (rx_U X 0 [(0, 63)]) ∧ rx_b (rx_U X 0 [(0, 63)]) ≤ 2147483669) : rx_LW p l e s m below meth c b X D 18 rx_L0 [] rx_w0 221 26609 := by
  have l0 := rx_b_lt (rx_U X 1 [])
  have l1 := rx_b_lt (rx_U X 2 [])
  by_cases q0 : rx_b (rx_U X 1 []) < 2147483649
  · exact rx_lawE C0 (Or.inr rfl) (rx_fok_c h0.1 h0.2 (rx_fok_c (by omega) (by omega) rx_fok_n)) rx_r21_0
  · by_cases q1 : rx_b (rx_U X 1 []) < 2147483669
    · by_cases q2 : rx_b (rx_U X 2 []) < 2147483648
      · by_cases q3 : rx_b (rx_U X 1 []) < 2147483650
        · exact rx_lawE C0 (Or.inr rfl) (rx_fok_c h0.1 h0.2 (rx_fok_c (by omega) (by omega) (rx_fok_c (by omega) (by omega) rx_fok_n))) rx_r21_1
        · by_cases q4 : rx_b (rx_U X 1 []) < 2147483651
          · exact rx_lawE C0 (Or.inr rfl) (rx_fok_c h0.1 h0.2 (rx_fok_c (by omega) (by omega) (rx_fok_c (by omega) (by omega) rx_fok_n))) rx_r21_2
          · by_cases q5 : rx_b (rx_U X 1 []) < 2147483652
            · exact rx_lawE C0 (Or.inr rfl) (rx_fok_c h0.1 h0.2 (rx_fok_c (by omega) (by omega) (rx_fok_c (by omega) (by omega) rx_fok_n))) rx_r21_3
            · by_cases q6 : rx_b (rx_U X 1 []) < 2147483653
              · exact rx_lawE C0 (Or.inr rfl) (rx_fok_c h0.1 h0.2 (rx_fok_c (by omega) (by omega) (rx_fok_c (by omega) (by omega) rx_fok_n))) rx_r21_4
              · by_cases q7 : rx_b (rx_U X 1 []) < 2147483654
                · exact rx_lawE C0 (Or.inr rfl) (rx_fok_c h0.1 h0.2 (rx_fok_c (by omega) (by omega) (rx_fok_c (by omega) (by omega) rx_fok_n))) rx_r21_5
                · by_cases q8 : rx_b (rx_U X 1 []) < 2147483655
                  · exact rx_lawE C0 (Or.inr rfl) (rx_fok_c h0.1 h0.2 (rx_fok_c (by omega) (by omega) (rx_fok_c (by omega) (by omega) rx_fok_n))) rx_r21_6
                  · by_cases q9 : rx_b (rx_U X 1 []) < 2147483656
                    · exact rx_lawE C0 (Or.inr rfl) (rx_fok_c h0.1 h0.2 (rx_fok_c (by omega) (by omega) (rx_fok_c (by omega) (by omega) rx_fok_n))) rx_r21_7
                    · by_cases q10 : rx_b (rx_U X 1 []) < 2147483657
                      · exact rx_lawE C0 (Or.inr rfl) (rx_fok_c h0.1 h0.2 (rx_fok_c (by omega) (by omega) (rx_fok_c (by omega) (by omega) rx_fok_n))) rx_r21_8
                      · by_cases q11 : rx_b (rx_U X 1 []) < 2147483658
                        · exact rx_lawE C0 (Or.inr rfl) (rx_fok_c h0.1 h0.2 (rx_fok_c (by omega) (by omega) (rx_fok_c (by omega) (by omega) rx_fok_n))) rx_r21_9
                        · by_cases q12 : rx_b (rx_U X 1 []) < 2147483659
                          · exact rx_lawE C0 (Or.inr rfl) (rx_fok_c h0.1 h0.2 (rx_fok_c (by omega) (by omega) (rx_fok_c (by omega) (by omega) rx_fok_n))) rx_r21_10
                          · by_cases q13 : rx_b (rx_U X 1 []) < 2147483660
                            · exact rx_lawE C0 (Or.inr rfl) (rx_fok_c h0.1 h0.2 (rx_fok_c (by omega) (by omega) (rx_fok_c (by omega) (by omega) rx_fok_n))) rx_r21_11
                            · by_cases q14 : rx_b (rx_U X 1 []) < 2147483661
                              · exact rx_lawE C0 (Or.inr rfl) (rx_fok_c h0.1 h0.2 (rx_fok_c (by omega) (by omega) (rx_fok_c (by omega) (by omega) rx_fok_n))) rx_r21_12
                              · by_cases q15 : rx_b (rx_U X 1 []) < 2147483662
                                · exact rx_lawE C0 (Or.inr rfl) (rx_fok_c h0.1 h0.2 (rx_fok_c (by omega) (by omega) (rx_fok_c (by omega) (by omega) rx_fok_n))) rx_r21_13
                                · by_cases q16 : rx_b (rx_U X 1 []) < 2147483663
                                  · exact rx_lawE C0 (Or.inr rfl) (rx_fok_c h0.1 h0.2 (rx_fok_c (by omega) (by omega) (rx_fok_c (by omega) (by omega) rx_fok_n))) rx_r21_14
                                  · by_cases q17 : rx_b (rx_U X 1 []) < 2147483664
                                    · exact rx_lawE C0 (Or.inr rfl) (rx_fok_c h0.1 h0.2 (rx_fok_c (by omega) (by omega) (rx_fok_c (by omega) (by omega) rx_fok_n))) rx_r21_15
                                    · by_cases q18 : rx_b (rx_U X 1 []) < 2147483665
                                      · exact rx_lawE C0 (Or.inr rfl) (rx_fok_c h0.1 h0.2 (rx_fok_c (by omega) (by omega) (rx_fok_c (by omega) (by omega) rx_fok_n))) rx_r21_16
                                      · by_cases q19 : rx_b (rx_U X 1 []) < 2147483666
                                        · exact rx_lawE C0 (Or.inr rfl) (rx_fok_c h0.1 h0.2 (rx_fok_c (by omega) (by omega) (rx_fok_c (by omega) (by omega) rx_fok_n))) rx_r21_17
                                        · by_cases q20 : rx_b (rx_U X 1 []) < 2147483667
                                          · exact rx_lawE C0 (Or.inr rfl) (rx_fok_c h0.1 h0.2 (rx_fok_c (by omega) (by omega) (rx_fok_c (by omega) (by omega) rx_fok_n))) rx_r21_18
                                          · by_cases q21 : rx_b (rx_U X 1 []) < 2147483668
                                            · exact rx_lawE C0 (Or.inr rfl) (rx_fok_c h0.1 h0.2 (rx_fok_c (by omega) (by omega) (rx_fok_c (by omega) (by omega) rx_fok_n))) rx_r21_19
                                            · exact rx_lawE C0 (Or.inr rfl) (rx_fok_c h0.1 h0.2 (rx_fok_c (by omega) (by omega) (rx_fok_c (by omega) (by omega) rx_fok_n))) rx_r21_20
      · by_cases q3 : rx_b (rx_U X 1 []) < 2147483650
        · by_cases q4 : rx_b (rx_U X 2 []) < 2147483649
          · exact rx_lawE C0 (Or.inr rfl) (rx_fok_c h0.1 h0.2 (rx_fok_c (by omega) (by omega) (rx_fok_c (by omega) (by omega) rx_fok_n))) rx_r21_21
          · exact rx_lawE C0 (Or.inr rfl) (rx_fok_c h0.1 h0.2 (rx_fok_c (by omega) (by omega) (rx_fok_c (by omega) (by omega) rx_fok_n))) rx_r21_22
        · by_cases q4 : rx_b (rx_U X 1 []) < 2147483651
          · by_cases q5 : rx_b (rx_U X 2 []) < 2147483650
            · exact rx_lawE C0 (Or.inr rfl) (rx_fok_c h0.1 h0.2 (rx_fok_c (by omega) (by omega) (rx_fok_c (by omega) (by omega) rx_fok_n))) rx_r21_23
            · exact rx_lawE C0 (Or.inr rfl) (rx_fok_c h0.1 h0.2 (rx_fok_c (by omega) (by omega) (rx_fok_c (by omega) (by omega) rx_fok_n))) rx_r21_24
          · by_cases q5 : rx_b (rx_U X 1 []) < 2147483652
            · by_cases q6 : rx_b (rx_U X 2 []) < 2147483651
              · exact rx_lawE C0 (Or.inr rfl) (rx_fok_c h0.1 h0.2 (rx_fok_c (by omega) (by omega) (rx_fok_c (by omega) (by omega) rx_fok_n))) rx_r21_25
              · exact rx_lawE C0 (Or.inr rfl) (rx_fok_c h0.1 h0.2 (rx_fok_c (by omega) (by omega) (rx_fok_c (by omega) (by omega) rx_fok_n))) rx_r21_26
            · by_cases q6 : rx_b (rx_U X 1 []) < 2147483653
              · by_cases q7 : rx_b (rx_U X 2 []) < 2147483652
                · exact rx_lawE C0 (Or.inr rfl) (rx_fok_c h0.1 h0.2 (rx_fok_c (by omega) (by omega) (rx_fok_c (by omega) (by omega) rx_fok_n))) rx_r21_27
                · exact rx_lawE C0 (Or.inr rfl) (rx_fok_c h0.1 h0.2 (rx_fok_c (by omega) (by omega) (rx_fok_c (by omega) (by omega) rx_fok_n))) rx_r21_28
              · by_cases q7 : rx_b (rx_U X 1 []) < 2147483654
                · by_cases q8 : rx_b (rx_U X 2 []) < 2147483653
                  · exact rx_lawE C0 (Or.inr rfl) (rx_fok_c h0.1 h0.2 (rx_fok_c (by omega) (by omega) (rx_fok_c (by omega) (by omega) rx_fok_n))) rx_r21_29
                  · exact rx_lawE C0 (Or.inr rfl) (rx_fok_c h0.1 h0.2 (rx_fok_c (by omega) (by omega) (rx_fok_c (by omega) (by omega) rx_fok_n))) rx_r21_30
                · by_cases q8 : rx_b (rx_U X 1 []) < 2147483655
                  · by_cases q9 : rx_b (rx_U X 2 []) < 2147483654
                    · exact rx_lawE C0 (Or.inr rfl) (rx_fok_c h0.1 h0.2 (rx_fok_c (by omega) (by omega) (rx_fok_c (by omega) (by omega) rx_fok_n))) rx_r21_31
                    · exact rx_lawE C0 (Or.inr rfl) (rx_fok_c h0.1 h0.2 (rx_fok_c (by omega) (by omega) (rx_fok_c (by omega) (by omega) rx_fok_n))) rx_r21_32
                  · by_cases q9 : rx_b (rx_U X 1 []) < 2147483656
                    · by_cases q10 : rx_b (rx_U X 2 []) < 2147483655
                      · exact rx_lawE C0 (Or.inr rfl) (rx_fok_c h0.1 h0.2 (rx_fok_c (by omega) (by omega) (rx_fok_c (by omega) (by omega) rx_fok_n))) rx_r21_33
                      · exact rx_lawE C0 (Or.inr rfl) (rx_fok_c h0.1 h0.2 (rx_fok_c (by omega) (by omega) (rx_fok_c (by omega) (by omega) rx_fok_n))) rx_r21_34
                    · by_cases q10 : rx_b (rx_U X 1 []) < 2147483657
                      · by_cases q11 : rx_b (rx_U X 2 []) < 2147483656
                        · exact rx_lawE C0 (Or.inr rfl) (rx_fok_c h0.1 h0.2 (rx_fok_c (by omega) (by omega) (rx_fok_c (by omega) (by omega) rx_fok_n))) rx_r21_35
                        · exact rx_lawE C0 (Or.inr rfl) (rx_fok_c h0.1 h0.2 (rx_fok_c (by omega) (by omega) (rx_fok_c (by omega) (by omega) rx_fok_n))) rx_r21_36
                      · by_cases q11 : rx_b (rx_U X 1 []) < 2147483658
                        · by_cases q12 : rx_b (rx_U X 2 []) < 2147483657
                          · exact rx_lawE C0 (Or.inr rfl) (rx_fok_c h0.1 h0.2 (rx_fok_c (by omega) (by omega) (rx_fok_c (by omega) (by omega) rx_fok_n))) rx_r21_37
                          · exact rx_lawE C0 (Or.inr rfl) (rx_fok_c h0.1 h0.2 (rx_fok_c (by omega) (by omega) (rx_fok_c (by omega) (by omega) rx_fok_n))) rx_r21_38
                        · by_cases q12 : rx_b (rx_U X 1 []) < 2147483659
                          · by_cases q13 : rx_b (rx_U X 2 []) < 2147483658
                            · exact rx_lawE C0 (Or.inr rfl) (rx_fok_c h0.1 h0.2 (rx_fok_c (by omega) (by omega) (rx_fok_c (by omega) (by omega) rx_fok_n))) rx_r21_39
                            · exact rx_lawE C0 (Or.inr rfl) (rx_fok_c h0.1 h0.2 (rx_fok_c (by omega) (by omega) (rx_fok_c (by omega) (by omega) rx_fok_n))) rx_r21_40
                          · by_cases q13 : rx_b (rx_U X 1 []) < 2147483660
                            · by_cases q14 : rx_b (rx_U X 2 []) < 2147483659
                              · exact rx_lawE C0 (Or.inr rfl) (rx_fok_c h0.1 h0.2 (rx_fok_c (by omega) (by omega) (rx_fok_c (by omega) (by omega) rx_fok_n))) rx_r21_41
                              · exact rx_lawE C0 (Or.inr rfl) (rx_fok_c h0.1 h0.2 (rx_fok_c (by omega) (by omega) (rx_fok_c (by omega) (by omega) rx_fok_n))) rx_r21_42
                            · by_cases q14 : rx_b (rx_U X 1 []) < 2147483661
                              · by_cases q15 : rx_b (rx_U X 2 []) < 2147483660
                                · exact rx_lawE C0 (Or.inr rfl) (rx_fok_c h0.1 h0.2 (rx_fok_c (by omega) (by omega) (rx_fok_c (by omega) (by omega) rx_fok_n))) rx_r21_43
                                · exact rx_lawE C0 (Or.inr rfl) (rx_fok_c h0.1 h0.2 (rx_fok_c (by omega) (by omega) (rx_fok_c (by omega) (by omega) rx_fok_n))) rx_r21_44
                              · by_cases q15 : rx_b (rx_U X 1 []) < 2147483662
                                · by_cases q16 : rx_b (rx_U X 2 []) < 2147483661
                                  · exact rx_lawE C0 (Or.inr rfl) (rx_fok_c h0.1 h0.2 (rx_fok_c (by omega) (by omega) (rx_fok_c (by omega) (by omega) rx_fok_n))) rx_r21_45
                                  · exact rx_lawE C0 (Or.inr rfl) (rx_fok_c h0.1 h0.2 (rx_fok_c (by omega) (by omega) (rx_fok_c (by omega) (by omega) rx_fok_n))) rx_r21_46
                                · by_cases q16 : rx_b (rx_U X 1 []) < 2147483663
                                  · by_cases q17 : rx_b (rx_U X 2 []) < 2147483662
                                    · exact rx_lawE C0 (Or.inr rfl) (rx_fok_c h0.1 h0.2 (rx_fok_c (by omega) (by omega) (rx_fok_c (by omega) (by omega) rx_fok_n))) rx_r21_47
                                    · exact rx_lawE C0 (Or.inr rfl) (rx_fok_c h0.1 h0.2 (rx_fok_c (by omega) (by omega) (rx_fok_c (by omega) (by omega) rx_fok_n))) rx_r21_48
                                  · by_cases q17 : rx_b (rx_U X 1 []) < 2147483664
                                    · by_cases q18 : rx_b (rx_U X 2 []) < 2147483663
                                      · exact rx_lawE C0 (Or.inr rfl) (rx_fok_c h0.1 h0.2 (rx_fok_c (by omega) (by omega) (rx_fok_c (by omega) (by omega) rx_fok_n))) rx_r21_49
                                      · exact rx_lawE C0 (Or.inr rfl) (rx_fok_c h0.1 h0.2 (rx_fok_c (by omega) (by omega) (rx_fok_c (by omega) (by omega) rx_fok_n))) rx_r21_50
                                    · by_cases q18 : rx_b (rx_U X 1 []) < 2147483665
                                      · by_cases q19 : rx_b (rx_U X 2 []) < 2147483664
                                        · exact rx_lawE C0 (Or.inr rfl) (rx_fok_c h0.1 h0.2 (rx_fok_c (by omega) (by omega) (rx_fok_c (by omega) (by omega) rx_fok_n))) rx_r21_51
                                        · exact rx_lawE C0 (Or.inr rfl) (rx_fok_c h0.1 h0.2 (rx_fok_c (by omega) (by omega) (rx_fok_c (by omega) (by omega) rx_fok_n))) rx_r21_52
                                      · by_cases q19 : rx_b (rx_U X 1 []) < 2147483666
                                        · by_cases q20 : rx_b (rx_U X 2 []) < 2147483665
                                          · exact rx_lawE C0 (Or.inr rfl) (rx_fok_c h0.1 h0.2 (rx_fok_c (by omega) (by omega) (rx_fok_c (by omega) (by omega) rx_fok_n))) rx_r21_53
                                          · exact rx_lawE C0 (Or.inr rfl) (rx_fok_c h0.1 h0.2 (rx_fok_c (by omega) (by omega) (rx_fok_c (by omega) (by omega) rx_fok_n))) rx_r21_54
                                        · by_cases q20 : rx_b (rx_U X 1 []) < 2147483667
                                          · by_cases q21 : rx_b (rx_U X 2 []) < 2147483666
                                            · exact rx_lawE C0 (Or.inr rfl) (rx_fok_c h0.1 h0.2 (rx_fok_c (by omega) (by omega) (rx_fok_c (by omega) (by omega) rx_fok_n))) rx_r21_55
                                            · exact rx_lawE C0 (Or.inr rfl) (rx_fok_c h0.1 h0.2 (rx_fok_c (by omega) (by omega) (rx_fok_c (by omega) (by omega) rx_fok_n))) rx_r21_56
                                          · by_cases q21 : rx_b (rx_U X 1 []) < 2147483668
                                            · by_cases q22 : rx_b (rx_U X 2 []) < 2147483667
                                              · exact rx_lawE C0 (Or.inr rfl) (rx_fok_c h0.1 h0.2 (rx_fok_c (by omega) (by omega) (rx_fok_c (by omega) (by omega) rx_fok_n))) rx_r21_57
                                              · exact rx_lawE C0 (Or.inr rfl) (rx_fok_c h0.1 h0.2 (rx_fok_c (by omega) (by omega) (rx_fok_c (by omega) (by omega) rx_fok_n))) rx_r21_58
                                            · by_cases q22 : rx_b (rx_U X 2 []) < 2147483668
                                              · exact rx_lawE C0 (Or.inr rfl) (rx_fok_c h0.1 h0.2 (rx_fok_c (by omega) (by omega) (rx_fok_c (by omega) (by omega) rx_fok_n))) rx_r21_59
                                              · exact rx_lawE C0 (Or.inr rfl) (rx_fok_c h0.1 h0.2 (rx_fok_c (by omega) (by omega) (rx_fok_c (by omega) (by omega) rx_fok_n))) rx_r21_60
    · exact rx_lawE C0 (Or.inr rfl) (rx_fok_c h0.1 h0.2 (rx_fok_c (by omega) (by omega) rx_fok_n)) rx_r21_61
theorem rx_case22 (C0 : rx_lawC p s m meth c b 6 xs X D) (h0 : 2147483670 ≤ rx_b (rx_U X 0 [(0, 63)]) ∧ rx_b (rx_U X 0 [(0, 63)]) ≤ 2147483670) : rx_LW p l e s m below meth c b X D 18 rx_L0 [] rx_w0 221 26609 := by
  have l0 := rx_b_lt (rx_U X 1 [])
  have l1 := rx_b_lt (rx_U X 2 [])
  by_cases q0 : rx_b (rx_U X 1 []) < 2147483649
  · exact rx_lawE C0 (Or.inr rfl) (rx_fok_c h0.1 h0.2 (rx_fok_c (by omega) (by omega) rx_fok_n)) rx_r22_0
  · by_cases q1 : rx_b (rx_U X 1 []) < 2147483669
    · by_cases q2 : rx_b (rx_U X 2 []) < 2147483648
      · exact rx_lawE C0 (Or.inr rfl) (rx_fok_c h0.1 h0.2 (rx_fok_c (by omega) (by omega) (rx_fok_c (by omega) (by omega) rx_fok_n))) rx_r22_1
      · by_cases q3 : rx_b (rx_U X 2 []) < 2147483650
        · by_cases q4 : rx_b (rx_U X 1 []) < 2147483650
          · exact rx_lawE C0 (Or.inr rfl) (rx_fok_c h0.1 h0.2 (rx_fok_c (by omega) (by omega) (rx_fok_c (by omega) (by omega) rx_fok_n))) rx_r22_2
          · by_cases q5 : rx_b (rx_U X 1 []) < 2147483651
            · exact rx_lawE C0 (Or.inr rfl) (rx_fok_c h0.1 h0.2 (rx_fok_c (by omega) (by omega) (rx_fok_c (by omega) (by omega) rx_fok_n))) rx_r22_3
            · by_cases q6 : rx_b (rx_U X 1 []) < 2147483652
              · exact rx_lawE C0 (Or.inr rfl) (rx_fok_c h0.1 h0.2 (rx_fok_c (by omega) (by omega) (rx_fok_c (by omega) (by omega) rx_fok_n))) rx_r22_4
              · by_cases q7 : rx_b (rx_U X 1 []) < 2147483653
                · exact rx_lawE C0 (Or.inr rfl) (rx_fok_c h0.1 h0.2 (rx_fok_c (by omega) (by omega) (rx_fok_c (by omega) (by omega) rx_fok_n))) rx_r22_5
                · by_cases q8 : rx_b (rx_U X 1 []) < 2147483654
                  · exact rx_lawE C0 (Or.inr rfl) (rx_fok_c h0.1 h0.2 (rx_fok_c (by omega) (by omega) (rx_fok_c (by omega) (by omega) rx_fok_n))) rx_r22_6
                  · by_cases q9 : rx_b (rx_U X 1 []) < 2147483655
                    · exact rx_lawE C0 (Or.inr rfl) (rx_fok_c h0.1 h0.2 (rx_fok_c (by omega) (by omega) (rx_fok_c (by omega) (by omega) rx_fok_n))) rx_r22_7
                    · by_cases q10 : rx_b (rx_U X 1 []) < 2147483656
                      · exact rx_lawE C0 (Or.inr rfl) (rx_fok_c h0.1 h0.2 (rx_fok_c (by omega) (by omega) (rx_fok_c (by omega) (by omega) rx_fok_n))) rx_r22_8
                      · by_cases q11 : rx_b (rx_U X 1 []) < 2147483657
                        · exact rx_lawE C0 (Or.inr rfl) (rx_fok_c h0.1 h0.2 (rx_fok_c (by omega) (by omega) (rx_fok_c (by omega) (by omega) rx_fok_n))) rx_r22_9
                        · by_cases q12 : rx_b (rx_U X 1 []) < 2147483658
                          · exact rx_lawE C0 (Or.inr rfl) (rx_fok_c h0.1 h0.2 (rx_fok_c (by omega) (by omega) (rx_fok_c (by omega) (by omega) rx_fok_n))) rx_r22_10
                          · by_cases q13 : rx_b (rx_U X 1 []) < 2147483659
                            · exact rx_lawE C0 (Or.inr rfl) (rx_fok_c h0.1 h0.2 (rx_fok_c (by omega) (by omega) (rx_fok_c (by omega) (by omega) rx_fok_n))) rx_r22_11
                            · by_cases q14 : rx_b (rx_U X 1 []) < 2147483660
                              · exact rx_lawE C0 (Or.inr rfl) (rx_fok_c h0.1 h0.2 (rx_fok_c (by omega) (by omega) (rx_fok_c (by omega) (by omega) rx_fok_n))) rx_r22_12
                              · by_cases q15 : rx_b (rx_U X 1 []) < 2147483661
                                · exact rx_lawE C0 (Or.inr rfl) (rx_fok_c h0.1 h0.2 (rx_fok_c (by omega) (by omega) (rx_fok_c (by omega) (by omega) rx_fok_n))) rx_r22_13
                                · by_cases q16 : rx_b (rx_U X 1 []) < 2147483662
                                  · exact rx_lawE C0 (Or.inr rfl) (rx_fok_c h0.1 h0.2 (rx_fok_c (by omega) (by omega) (rx_fok_c (by omega) (by omega) rx_fok_n))) rx_r22_14
                                  · by_cases q17 : rx_b (rx_U X 1 []) < 2147483663
                                    · exact rx_lawE C0 (Or.inr rfl) (rx_fok_c h0.1 h0.2 (rx_fok_c (by omega) (by omega) (rx_fok_c (by omega) (by omega) rx_fok_n))) rx_r22_15
                                    · by_cases q18 : rx_b (rx_U X 1 []) < 2147483664
                                      · exact rx_lawE C0 (Or.inr rfl) (rx_fok_c h0.1 h0.2 (rx_fok_c (by omega) (by omega) (rx_fok_c (by omega) (by omega) rx_fok_n))) rx_r22_16
                                      · by_cases q19 : rx_b (rx_U X 1 []) < 2147483665
                                        · exact rx_lawE C0 (Or.inr rfl) (rx_fok_c h0.1 h0.2 (rx_fok_c (by omega) (by omega) (rx_fok_c (by omega) (by omega) rx_fok_n))) rx_r22_17
                                        · by_cases q20 : rx_b (rx_U X 1 []) < 2147483666
                                          · exact rx_lawE C0 (Or.inr rfl) (rx_fok_c h0.1 h0.2 (rx_fok_c (by omega) (by omega) (rx_fok_c (by omega) (by omega) rx_fok_n))) rx_r22_18
                                          · by_cases q21 : rx_b (rx_U X 1 []) < 2147483667
                                            · exact rx_lawE C0 (Or.inr rfl) (rx_fok_c h0.1 h0.2 (rx_fok_c (by omega) (by omega) (rx_fok_c (by omega) (by omega) rx_fok_n))) rx_r22_19
                                            · by_cases q22 : rx_b (rx_U X 1 []) < 2147483668
                                              · exact rx_lawE C0 (Or.inr rfl) (rx_fok_c h0.1 h0.2 (rx_fok_c (by omega) (by omega) (rx_fok_c (by omega) (by omega) rx_fok_n))) rx_r22_20
                                              · exact rx_lawE C0 (Or.inr rfl) (rx_fok_c h0.1 h0.2 (rx_fok_c (by omega) (by omega) (rx_fok_c (by omega) (by omega) rx_fok_n))) rx_r22_21
        · exact rx_lawE C0 (Or.inr rfl) (rx_fok_c h0.1 h0.2 (rx_fok_c (by omega) (by omega) (rx_fok_c (by omega) (by omega) rx_fok_n))) rx_r22_22
    · exact rx_lawE C0 (Or.inr rfl) (rx_fok_c h0.1 h0.2 (rx_fok_c (by omega) (by omega) rx_fok_n)) rx_r22_23
theorem rx_case25 (C0 : rx_lawC p s m meth c b 6 xs X D) (h0 : 2147483673 ≤ rx_b (rx_U X 0 [(0, 63)]) ∧ rx_b (rx_U X 0 [(0, 63)]) ≤ 2147483673) : rx_LW p l e s m below meth c b X D 18 rx_L0 [] rx_w0 221 26609 := by
  have l0 := rx_b_lt (rx_U X 1 [])
  by_cases q0 : rx_b (rx_U X 1 []) < 2147483648
  · exact rx_lawE C0 (Or.inr rfl) (rx_fok_c h0.1 h0.2 (rx_fok_c (by omega) (by omega) rx_fok_n)) rx_r25_0
  · exact rx_lawE C0 (Or.inr rfl) (rx_fok_c h0.1 h0.2 (rx_fok_c (by omega) (by omega) rx_fok_n)) rx_r25_1
theorem rx_case26 (C0 : rx_lawC p s m meth c b 6 xs X D) (h0 : 2147483674 ≤ rx_b (rx_U X 0 [(0, 63)]) ∧ rx_b (rx_U X 0 [(0, 63)]) ≤ 2147483674) : rx_LW p l e s m below meth c b X D 18 rx_L0 [] rx_w0 221 26609 := by
  have l0 := rx_b_lt (rx_U X 1 [])
  by_cases q0 : rx_b (rx_U X 1 []) < 2147483648
  · exact rx_lawE C0 (Or.inr rfl) (rx_fok_c h0.1 h0.2 (rx_fok_c (by omega) (by omega) rx_fok_n)) rx_r26_0
  · exact rx_lawE C0 (Or.inr rfl) (rx_fok_c h0.1 h0.2 (rx_fok_c (by omega) (by omega) rx_fok_n)) rx_r26_1
theorem rx_case27 (C0 : rx_lawC p s m meth c b 6 xs X D) (h0 : 2147483675 ≤ rx_b (rx_U X 0 [(0, 63)]) ∧ rx_b (rx_U X 0 [(0, 63)]) ≤ 2147483675) : rx_LW p l e s m below meth c b X D 18 rx_L0 [] rx_w0 221 26609 := by
  have l0 := rx_b_lt (rx_U X 1 [])
  by_cases q0 : rx_b (rx_U X 1 []) < 2147483648
  · exact rx_lawE C0 (Or.inr rfl) (rx_fok_c h0.1 h0.2 (rx_fok_c (by omega) (by omega) rx_fok_n)) rx_r27_0
  · exact rx_lawE C0 (Or.inr rfl) (rx_fok_c h0.1 h0.2 (rx_fok_c (by omega) (by omega) rx_fok_n)) rx_r27_1
theorem rx_case28 (C0 : rx_lawC p s m meth c b 6 xs X D) (h0 : 2147483676 ≤ rx_b (rx_U X 0 [(0, 63)]) ∧ rx_b (rx_U X 0 [(0, 63)]) ≤ 2147483676) : rx_LW p l e s m below meth c b X D 18 rx_L0 [] rx_w0 221 26609 := by
  exact rx_lawE C0 (Or.inr rfl) (rx_fok_c h0.1 h0.2 rx_fok_n) rx_r28_0
theorem rx_case29 (C0 : rx_lawC p s m meth c b 6 xs X D) (h0 : 2147483677 ≤ rx_b (rx_U X 0 [(0, 63)]) ∧ rx_b (rx_U X 0 [(0, 63)]) ≤ 2147483677) : rx_LW p l e s m below meth c b X D 18 rx_L0 [] rx_w0 221 26609 := by
  exact rx_lawE C0 (Or.inr rfl) (rx_fok_c h0.1 h0.2 rx_fok_n) rx_r29_0
theorem rx_case30 (C0 : rx_lawC p s m meth c b 6 xs X D) (h0 : 2147483678 ≤ rx_b (rx_U X 0 [(0, 63)]) ∧ rx_b (rx_U X 0 [(0, 63)]) ≤ 2147483678) : rx_LW p l e s m below meth c b X D 18 rx_L0 [] rx_w0 221 26609 := by
  have l0 := rx_b_lt (rx_U X 1 [])
  by_cases q0 : rx_b (rx_U X 1 []) < 2147483648
  · exact rx_lawE C0 (Or.inr rfl) (rx_fok_c h0.1 h0.2 (rx_fok_c (by omega) (by omega) rx_fok_n)) rx_r30_0
  · exact rx_lawE C0 (Or.inr rfl) (rx_fok_c h0.1 h0.2 (rx_fok_c (by omega) (by omega) rx_fok_n)) rx_r30_1
theorem rx_case31 (C0 : rx_lawC p s m meth c b 6 xs X D) (h0 : 2147483679 ≤ rx_b (rx_U X 0 [(0, 63)]) ∧ rx_b (rx_U X 0 [(0, 63)]) ≤ 2147483679) : rx_LW p l e s m below meth c b X D 18 rx_L0 [] rx_w0 221 26609 := by
  have l0 := rx_b_lt (rx_U X 1 [])
  by_cases q0 : rx_b (rx_U X 1 []) < 2147483648
  · exact rx_lawE C0 (Or.inr rfl) (rx_fok_c h0.1 h0.2 (rx_fok_c (by omega) (by omega) rx_fok_n)) rx_r31_0
  · exact rx_lawE C0 (Or.inr rfl) (rx_fok_c h0.1 h0.2 (rx_fok_c (by omega) (by omega) rx_fok_n)) rx_r31_1
theorem rx_case32 (C0 : rx_lawC p s m meth c b 6 xs X D) (h0 : 2147483680 ≤ rx_b (rx_U X 0 [(0, 63)]) ∧ rx_b (rx_U X 0 [(0, 63)]) ≤ 2147483680) : rx_LW p l e s m below meth c b X D 18 rx_L0 [] rx_w0 221 26609 := by
  exact rx_lawE C0 (Or.inr rfl) (rx_fok_c h0.1 h0.2 rx_fok_n) rx_r32_0
theorem rx_case33 (C0 : rx_lawC p s m meth c b 6 xs X D) (h0 : 2147483681 ≤ rx_b (rx_U X 0 [(0, 63)]) ∧ rx_b (rx_U X 0 [(0, 63)]) ≤ 2147483681) : rx_LW p l e s m below meth c b X D 18 rx_L0 [] rx_w0 221 26609 := by
  have l0 := rx_b_lt (rx_U X 1 [])
  by_cases q0 : rx_b (rx_U X 1 []) < 2147483648
  · exact rx_lawE C0 (Or.inr rfl) (rx_fok_c h0.1 h0.2 (rx_fok_c (by omega) (by omega) rx_fok_n)) rx_r33_0
  · exact rx_lawE C0 (Or.inr rfl) (rx_fok_c h0.1 h0.2 (rx_fok_c (by omega) (by omega) rx_fok_n)) rx_r33_1
theorem rx_case34 (C0 : rx_lawC p s m meth c b 6 xs X D) (h0 : 2147483682 ≤ rx_b (rx_U X 0 [(0, 63)]) ∧ rx_b (rx_U X 0 [(0, 63)]) ≤ 2147483682) : rx_LW p l e s m below meth c b X D 18 rx_L0 [] rx_w0 221 26609 := by
  exact rx_lawE C0 (Or.inr rfl) (rx_fok_c h0.1 h0.2 rx_fok_n) rx_r34_0
theorem rx_case35 (C0 : rx_lawC p s m meth c b 6 xs X D) (h0 : 2147483683 ≤ rx_b (rx_U X 0 [(0, 63)]) ∧ rx_b (rx_U X 0 [(0, 63)]) ≤ 2147483683) : rx_LW p l e s m below meth c b X D 18 rx_L0 [] rx_w0 221 26609 := by
  have l0 := rx_b_lt (rx_U X 1 [])
  by_cases q0 : rx_b (rx_U X 1 []) < 2147483648
  · exact rx_lawE C0 (Or.inr rfl) (rx_fok_c h0.1 h0.2 (rx_fok_c (by omega) (by omega) rx_fok_n)) rx_r35_0
  · by_cases q1 : rx_b (rx_U X 1 []) < 2147483654
    · by_cases q2 : rx_b (rx_U X 1 []) < 2147483649
      · exact rx_lawE C0 (Or.inr rfl) (rx_fok_c h0.1 h0.2 (rx_fok_c (by omega) (by omega) rx_fok_n)) rx_r35_1
      · by_cases q3 : rx_b (rx_U X 1 []) < 2147483650
        · exact rx_lawE C0 (Or.inr rfl) (rx_fok_c h0.1 h0.2 (rx_fok_c (by omega) (by omega) rx_fok_n)) rx_r35_2
        · by_cases q4 : rx_b (rx_U X 1 []) < 2147483651
          · exact rx_lawE C0 (Or.inr rfl) (rx_fok_c h0.1 h0.2 (rx_fok_c (by omega) (by omega) rx_fok_n)) rx_r35_3
          · by_cases q5 : rx_b (rx_U X 1 []) < 2147483652
            · exact rx_lawE C0 (Or.inr rfl) (rx_fok_c h0.1 h0.2 (rx_fok_c (by omega) (by omega) rx_fok_n)) rx_r35_4
            · by_cases q6 : rx_b (rx_U X 1 []) < 2147483653
              · exact rx_lawE C0 (Or.inr rfl) (rx_fok_c h0.1 h0.2 (rx_fok_c (by omega) (by omega) rx_fok_n)) rx_r35_5
              · exact rx_lawE C0 (Or.inr rfl) (rx_fok_c h0.1 h0.2 (rx_fok_c (by omega) (by omega) rx_fok_n)) rx_r35_6
    · exact rx_lawE C0 (Or.inr rfl) (rx_fok_c h0.1 h0.2 (rx_fok_c (by omega) (by omega) rx_fok_n)) rx_r35_7
theorem rx_case36 (C0 : rx_lawC p s m meth c b 6 xs X D) (h0 : 2147483684 ≤ rx_b (rx_U X 0 [(0, 63)]) ∧ rx_b (rx_U X 0 [(0, 63)]) ≤ 2147483711) : rx_LW p l e s m below meth c b X D 18 rx_L0 [] rx_w0 221 26609 := by
  exact rx_lawE C0 (Or.inr rfl) (rx_fok_c h0.1 h0.2 rx_fok_n) rx_r36_0
end RXG
end
