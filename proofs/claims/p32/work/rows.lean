section
-- ===== PART A: goes FIRST, ahead of the names: the tables' words, and 'selects' of the private methods out of them =====
/-- a private method of a class that the tables say can be made, by its rows of tables_1 -/
def lw_okq (q : MethodName × Nat) : Prop := (q.1.cls ≠ "java/lang/invoke/MethodHandle" ∧ q.1.cls ≠ "java/lang/invoke/VarHandle") ∧ Cond.instantiable q.1.cls q.2 ∈ tables_1 ∧ Cond.privateMethod q.1 ∈ tables_1 ∧ Cond.instanceMethod q.1 ∈ tables_1
theorem lw_p0 : lw_okq (⟨"GreyRoute$Words", "packOwnWords", "()V"⟩, 7) := ⟨⟨by decide +kernel, by decide +kernel⟩, List.mem_of_getElem? (i := 294) (by decide +kernel), List.mem_of_getElem? (i := 300) (by decide +kernel), List.mem_of_getElem? (i := 301) (by decide +kernel)⟩
theorem lw_p1 : lw_okq (⟨"GreyRoute", "refuse", "(I)I"⟩, 13) := ⟨⟨by decide +kernel, by decide +kernel⟩, List.mem_of_getElem? (i := 23) (by decide +kernel), List.mem_of_getElem? (i := 545) (by decide +kernel), List.mem_of_getElem? (i := 546) (by decide +kernel)⟩
theorem lw_p2 : lw_okq (⟨"GreyRoute", "deny", "(I)Z"⟩, 13) := ⟨⟨by decide +kernel, by decide +kernel⟩, List.mem_of_getElem? (i := 23) (by decide +kernel), List.mem_of_getElem? (i := 561) (by decide +kernel), List.mem_of_getElem? (i := 562) (by decide +kernel)⟩
theorem lw_p3 : lw_okq (⟨"GreyRoute$Words", "isWordOrNumber", "()Z"⟩, 7) := ⟨⟨by decide +kernel, by decide +kernel⟩, List.mem_of_getElem? (i := 294) (by decide +kernel), List.mem_of_getElem? (i := 586) (by decide +kernel), List.mem_of_getElem? (i := 587) (by decide +kernel)⟩
theorem lw_p4 : lw_okq (⟨"GreyRoute$Words", "takeWord", "()V"⟩, 7) := ⟨⟨by decide +kernel, by decide +kernel⟩, List.mem_of_getElem? (i := 294) (by decide +kernel), List.mem_of_getElem? (i := 597) (by decide +kernel), List.mem_of_getElem? (i := 598) (by decide +kernel)⟩
theorem lw_p5 : lw_okq (⟨"GreyRoute$Words", "findOwnWord", "()V"⟩, 7) := ⟨⟨by decide +kernel, by decide +kernel⟩, List.mem_of_getElem? (i := 294) (by decide +kernel), List.mem_of_getElem? (i := 601) (by decide +kernel), List.mem_of_getElem? (i := 602) (by decide +kernel)⟩
theorem lw_p6 : lw_okq (⟨"GreyRoute$Words", "takeNumber", "()V"⟩, 7) := ⟨⟨by decide +kernel, by decide +kernel⟩, List.mem_of_getElem? (i := 294) (by decide +kernel), List.mem_of_getElem? (i := 608) (by decide +kernel), List.mem_of_getElem? (i := 609) (by decide +kernel)⟩
theorem lw_p7 : lw_okq (⟨"GreyRoute$Reader", "readStatement", "()Z"⟩, 5) := ⟨⟨by decide +kernel, by decide +kernel⟩, List.mem_of_getElem? (i := 292) (by decide +kernel), List.mem_of_getElem? (i := 612) (by decide +kernel), List.mem_of_getElem? (i := 613) (by decide +kernel)⟩
theorem lw_p8 : lw_okq (⟨"GreyRoute$Reader", "unfit", "()Z"⟩, 5) := ⟨⟨by decide +kernel, by decide +kernel⟩, List.mem_of_getElem? (i := 292) (by decide +kernel), List.mem_of_getElem? (i := 616) (by decide +kernel), List.mem_of_getElem? (i := 617) (by decide +kernel)⟩
theorem lw_p9 : lw_okq (⟨"GreyRoute$Reader", "wrong", "(II)Z"⟩, 5) := ⟨⟨by decide +kernel, by decide +kernel⟩, List.mem_of_getElem? (i := 292) (by decide +kernel), List.mem_of_getElem? (i := 620) (by decide +kernel), List.mem_of_getElem? (i := 621) (by decide +kernel)⟩
theorem lw_p10 : lw_okq (⟨"GreyRoute$Reader", "another", "(Z)Z"⟩, 5) := ⟨⟨by decide +kernel, by decide +kernel⟩, List.mem_of_getElem? (i := 292) (by decide +kernel), List.mem_of_getElem? (i := 624) (by decide +kernel), List.mem_of_getElem? (i := 625) (by decide +kernel)⟩
theorem lw_p11 : lw_okq (⟨"GreyRoute$Reader", "readPlace", "()Z"⟩, 5) := ⟨⟨by decide +kernel, by decide +kernel⟩, List.mem_of_getElem? (i := 292) (by decide +kernel), List.mem_of_getElem? (i := 629) (by decide +kernel), List.mem_of_getElem? (i := 630) (by decide +kernel)⟩
theorem lw_p12 : lw_okq (⟨"GreyRoute$Reader", "newName", "()I"⟩, 5) := ⟨⟨by decide +kernel, by decide +kernel⟩, List.mem_of_getElem? (i := 292) (by decide +kernel), List.mem_of_getElem? (i := 633) (by decide +kernel), List.mem_of_getElem? (i := 634) (by decide +kernel)⟩
theorem lw_p13 : lw_okq (⟨"GreyRoute$Reader", "readStreet", "()Z"⟩, 5) := ⟨⟨by decide +kernel, by decide +kernel⟩, List.mem_of_getElem? (i := 292) (by decide +kernel), List.mem_of_getElem? (i := 649) (by decide +kernel), List.mem_of_getElem? (i := 650) (by decide +kernel)⟩
theorem lw_p14 : lw_okq (⟨"GreyRoute$Reader", "knownPlace", "()I"⟩, 5) := ⟨⟨by decide +kernel, by decide +kernel⟩, List.mem_of_getElem? (i := 292) (by decide +kernel), List.mem_of_getElem? (i := 653) (by decide +kernel), List.mem_of_getElem? (i := 654) (by decide +kernel)⟩
theorem lw_p15 : lw_okq (⟨"GreyRoute$Reader", "takeOwn", "(I)Z"⟩, 5) := ⟨⟨by decide +kernel, by decide +kernel⟩, List.mem_of_getElem? (i := 292) (by decide +kernel), List.mem_of_getElem? (i := 658) (by decide +kernel), List.mem_of_getElem? (i := 659) (by decide +kernel)⟩
def lw_privs_1 : List (MethodName × Nat) := [(⟨"GreyRoute$Words", "packOwnWords", "()V"⟩, 7), (⟨"GreyRoute", "refuse", "(I)I"⟩, 13), (⟨"GreyRoute", "deny", "(I)Z"⟩, 13), (⟨"GreyRoute$Words", "isWordOrNumber", "()Z"⟩, 7), (⟨"GreyRoute$Words", "takeWord", "()V"⟩, 7), (⟨"GreyRoute$Words", "findOwnWord", "()V"⟩, 7), (⟨"GreyRoute$Words", "takeNumber", "()V"⟩, 7), (⟨"GreyRoute$Reader", "readStatement", "()Z"⟩, 5), (⟨"GreyRoute$Reader", "unfit", "()Z"⟩, 5), (⟨"GreyRoute$Reader", "wrong", "(II)Z"⟩, 5), (⟨"GreyRoute$Reader", "another", "(Z)Z"⟩, 5), (⟨"GreyRoute$Reader", "readPlace", "()Z"⟩, 5), (⟨"GreyRoute$Reader", "newName", "()I"⟩, 5), (⟨"GreyRoute$Reader", "readStreet", "()Z"⟩, 5), (⟨"GreyRoute$Reader", "knownPlace", "()I"⟩, 5), (⟨"GreyRoute$Reader", "takeOwn", "(I)Z"⟩, 5)]
theorem lw_r1 : ∀ q ∈ lw_privs_1, lw_okq q := List.forall_mem_cons.mpr ⟨lw_p0, List.forall_mem_cons.mpr ⟨lw_p1, List.forall_mem_cons.mpr ⟨lw_p2, List.forall_mem_cons.mpr ⟨lw_p3, List.forall_mem_cons.mpr ⟨lw_p4, List.forall_mem_cons.mpr ⟨lw_p5, List.forall_mem_cons.mpr ⟨lw_p6, List.forall_mem_cons.mpr ⟨lw_p7, List.forall_mem_cons.mpr ⟨lw_p8, List.forall_mem_cons.mpr ⟨lw_p9, List.forall_mem_cons.mpr ⟨lw_p10, List.forall_mem_cons.mpr ⟨lw_p11, List.forall_mem_cons.mpr ⟨lw_p12, List.forall_mem_cons.mpr ⟨lw_p13, List.forall_mem_cons.mpr ⟨lw_p14, List.forall_mem_cons.mpr ⟨lw_p15, fun _ h => absurd h List.not_mem_nil⟩⟩⟩⟩⟩⟩⟩⟩⟩⟩⟩⟩⟩⟩⟩⟩
theorem lw_p16 : lw_okq (⟨"GreyRoute$Town", "isSpot", "(I)Z"⟩, 19) := ⟨⟨by decide +kernel, by decide +kernel⟩, List.mem_of_getElem? (i := 177) (by decide +kernel), List.mem_of_getElem? (i := 670) (by decide +kernel), List.mem_of_getElem? (i := 671) (by decide +kernel)⟩
theorem lw_p17 : lw_okq (⟨"GreyRoute$Reader", "number", "(II)I"⟩, 5) := ⟨⟨by decide +kernel, by decide +kernel⟩, List.mem_of_getElem? (i := 292) (by decide +kernel), List.mem_of_getElem? (i := 674) (by decide +kernel), List.mem_of_getElem? (i := 675) (by decide +kernel)⟩
theorem lw_p18 : lw_okq (⟨"GreyRoute$Reader", "readStep", "()Z"⟩, 5) := ⟨⟨by decide +kernel, by decide +kernel⟩, List.mem_of_getElem? (i := 292) (by decide +kernel), List.mem_of_getElem? (i := 682) (by decide +kernel), List.mem_of_getElem? (i := 683) (by decide +kernel)⟩
theorem lw_p19 : lw_okq (⟨"GreyRoute$Reader", "readThing", "()Z"⟩, 5) := ⟨⟨by decide +kernel, by decide +kernel⟩, List.mem_of_getElem? (i := 292) (by decide +kernel), List.mem_of_getElem? (i := 699) (by decide +kernel), List.mem_of_getElem? (i := 700) (by decide +kernel)⟩
theorem lw_p20 : lw_okq (⟨"GreyRoute$Reader", "beginCode", "(Z)Z"⟩, 5) := ⟨⟨by decide +kernel, by decide +kernel⟩, List.mem_of_getElem? (i := 292) (by decide +kernel), List.mem_of_getElem? (i := 711) (by decide +kernel), List.mem_of_getElem? (i := 712) (by decide +kernel)⟩
theorem lw_p21 : lw_okq (⟨"GreyRoute$Reader", "readSum", "(I)Z"⟩, 5) := ⟨⟨by decide +kernel, by decide +kernel⟩, List.mem_of_getElem? (i := 292) (by decide +kernel), List.mem_of_getElem? (i := 715) (by decide +kernel), List.mem_of_getElem? (i := 716) (by decide +kernel)⟩
theorem lw_p22 : lw_okq (⟨"GreyRoute$Reader", "readProduct", "(I)Z"⟩, 5) := ⟨⟨by decide +kernel, by decide +kernel⟩, List.mem_of_getElem? (i := 292) (by decide +kernel), List.mem_of_getElem? (i := 719) (by decide +kernel), List.mem_of_getElem? (i := 720) (by decide +kernel)⟩
theorem lw_p23 : lw_okq (⟨"GreyRoute$Reader", "readPart", "(I)Z"⟩, 5) := ⟨⟨by decide +kernel, by decide +kernel⟩, List.mem_of_getElem? (i := 292) (by decide +kernel), List.mem_of_getElem? (i := 723) (by decide +kernel), List.mem_of_getElem? (i := 724) (by decide +kernel)⟩
theorem lw_p24 : lw_okq (⟨"GreyRoute$Reader", "takeOpening", "(ZI)Z"⟩, 5) := ⟨⟨by decide +kernel, by decide +kernel⟩, List.mem_of_getElem? (i := 292) (by decide +kernel), List.mem_of_getElem? (i := 738) (by decide +kernel), List.mem_of_getElem? (i := 739) (by decide +kernel)⟩
theorem lw_p25 : lw_okq (⟨"GreyRoute$Reader", "takeSign", "(I)Z"⟩, 5) := ⟨⟨by decide +kernel, by decide +kernel⟩, List.mem_of_getElem? (i := 292) (by decide +kernel), List.mem_of_getElem? (i := 742) (by decide +kernel), List.mem_of_getElem? (i := 743) (by decide +kernel)⟩
theorem lw_p26 : lw_okq (⟨"GreyRoute$Reader", "readFigure", "(IZ)Z"⟩, 5) := ⟨⟨by decide +kernel, by decide +kernel⟩, List.mem_of_getElem? (i := 292) (by decide +kernel), List.mem_of_getElem? (i := 746) (by decide +kernel), List.mem_of_getElem? (i := 747) (by decide +kernel)⟩
theorem lw_p27 : lw_okq (⟨"GreyRoute$Reader", "readOfTwo", "(II)Z"⟩, 5) := ⟨⟨by decide +kernel, by decide +kernel⟩, List.mem_of_getElem? (i := 292) (by decide +kernel), List.mem_of_getElem? (i := 750) (by decide +kernel), List.mem_of_getElem? (i := 751) (by decide +kernel)⟩
theorem lw_p28 : lw_okq (⟨"GreyRoute$Reader", "readIf", "(I)Z"⟩, 5) := ⟨⟨by decide +kernel, by decide +kernel⟩, List.mem_of_getElem? (i := 292) (by decide +kernel), List.mem_of_getElem? (i := 754) (by decide +kernel), List.mem_of_getElem? (i := 755) (by decide +kernel)⟩
theorem lw_p29 : lw_okq (⟨"GreyRoute$Reader", "readTest", "(I)Z"⟩, 5) := ⟨⟨by decide +kernel, by decide +kernel⟩, List.mem_of_getElem? (i := 292) (by decide +kernel), List.mem_of_getElem? (i := 758) (by decide +kernel), List.mem_of_getElem? (i := 759) (by decide +kernel)⟩
theorem lw_p30 : lw_okq (⟨"GreyRoute$Reader", "readBoth", "(I)Z"⟩, 5) := ⟨⟨by decide +kernel, by decide +kernel⟩, List.mem_of_getElem? (i := 292) (by decide +kernel), List.mem_of_getElem? (i := 762) (by decide +kernel), List.mem_of_getElem? (i := 763) (by decide +kernel)⟩
theorem lw_p31 : lw_okq (⟨"GreyRoute$Reader", "readFact", "(I)Z"⟩, 5) := ⟨⟨by decide +kernel, by decide +kernel⟩, List.mem_of_getElem? (i := 292) (by decide +kernel), List.mem_of_getElem? (i := 766) (by decide +kernel), List.mem_of_getElem? (i := 767) (by decide +kernel)⟩
def lw_privs_2 : List (MethodName × Nat) := [(⟨"GreyRoute$Town", "isSpot", "(I)Z"⟩, 19), (⟨"GreyRoute$Reader", "number", "(II)I"⟩, 5), (⟨"GreyRoute$Reader", "readStep", "()Z"⟩, 5), (⟨"GreyRoute$Reader", "readThing", "()Z"⟩, 5), (⟨"GreyRoute$Reader", "beginCode", "(Z)Z"⟩, 5), (⟨"GreyRoute$Reader", "readSum", "(I)Z"⟩, 5), (⟨"GreyRoute$Reader", "readProduct", "(I)Z"⟩, 5), (⟨"GreyRoute$Reader", "readPart", "(I)Z"⟩, 5), (⟨"GreyRoute$Reader", "takeOpening", "(ZI)Z"⟩, 5), (⟨"GreyRoute$Reader", "takeSign", "(I)Z"⟩, 5), (⟨"GreyRoute$Reader", "readFigure", "(IZ)Z"⟩, 5), (⟨"GreyRoute$Reader", "readOfTwo", "(II)Z"⟩, 5), (⟨"GreyRoute$Reader", "readIf", "(I)Z"⟩, 5), (⟨"GreyRoute$Reader", "readTest", "(I)Z"⟩, 5), (⟨"GreyRoute$Reader", "readBoth", "(I)Z"⟩, 5), (⟨"GreyRoute$Reader", "readFact", "(I)Z"⟩, 5)]
theorem lw_r2 : ∀ q ∈ lw_privs_2, lw_okq q := List.forall_mem_cons.mpr ⟨lw_p16, List.forall_mem_cons.mpr ⟨lw_p17, List.forall_mem_cons.mpr ⟨lw_p18, List.forall_mem_cons.mpr ⟨lw_p19, List.forall_mem_cons.mpr ⟨lw_p20, List.forall_mem_cons.mpr ⟨lw_p21, List.forall_mem_cons.mpr ⟨lw_p22, List.forall_mem_cons.mpr ⟨lw_p23, List.forall_mem_cons.mpr ⟨lw_p24, List.forall_mem_cons.mpr ⟨lw_p25, List.forall_mem_cons.mpr ⟨lw_p26, List.forall_mem_cons.mpr ⟨lw_p27, List.forall_mem_cons.mpr ⟨lw_p28, List.forall_mem_cons.mpr ⟨lw_p29, List.forall_mem_cons.mpr ⟨lw_p30, List.forall_mem_cons.mpr ⟨lw_p31, fun _ h => absurd h List.not_mem_nil⟩⟩⟩⟩⟩⟩⟩⟩⟩⟩⟩⟩⟩⟩⟩⟩
theorem lw_p32 : lw_okq (⟨"GreyRoute$Reader", "readComparison", "(I)Z"⟩, 5) := ⟨⟨by decide +kernel, by decide +kernel⟩, List.mem_of_getElem? (i := 292) (by decide +kernel), List.mem_of_getElem? (i := 770) (by decide +kernel), List.mem_of_getElem? (i := 771) (by decide +kernel)⟩
theorem lw_p33 : lw_okq (⟨"GreyRoute$Reader", "endCode", "()Z"⟩, 5) := ⟨⟨by decide +kernel, by decide +kernel⟩, List.mem_of_getElem? (i := 292) (by decide +kernel), List.mem_of_getElem? (i := 774) (by decide +kernel), List.mem_of_getElem? (i := 775) (by decide +kernel)⟩
theorem lw_p34 : lw_okq (⟨"GreyRoute$Reader", "readHeat", "()Z"⟩, 5) := ⟨⟨by decide +kernel, by decide +kernel⟩, List.mem_of_getElem? (i := 292) (by decide +kernel), List.mem_of_getElem? (i := 782) (by decide +kernel), List.mem_of_getElem? (i := 783) (by decide +kernel)⟩
theorem lw_p35 : lw_okq (⟨"GreyRoute$Reader", "readHot", "()Z"⟩, 5) := ⟨⟨by decide +kernel, by decide +kernel⟩, List.mem_of_getElem? (i := 292) (by decide +kernel), List.mem_of_getElem? (i := 786) (by decide +kernel), List.mem_of_getElem? (i := 787) (by decide +kernel)⟩
theorem lw_p36 : lw_okq (⟨"GreyRoute", "toldAsKept", "()I"⟩, 13) := ⟨⟨by decide +kernel, by decide +kernel⟩, List.mem_of_getElem? (i := 23) (by decide +kernel), List.mem_of_getElem? (i := 824) (by decide +kernel), List.mem_of_getElem? (i := 825) (by decide +kernel)⟩
theorem lw_p37 : lw_okq (⟨"GreyRoute", "isPlace", "(I)Z"⟩, 13) := ⟨⟨by decide +kernel, by decide +kernel⟩, List.mem_of_getElem? (i := 23) (by decide +kernel), List.mem_of_getElem? (i := 835) (by decide +kernel), List.mem_of_getElem? (i := 836) (by decide +kernel)⟩
theorem lw_p38 : lw_okq (⟨"GreyRoute", "isThing", "(I)Z"⟩, 13) := ⟨⟨by decide +kernel, by decide +kernel⟩, List.mem_of_getElem? (i := 23) (by decide +kernel), List.mem_of_getElem? (i := 842) (by decide +kernel), List.mem_of_getElem? (i := 843) (by decide +kernel)⟩
theorem lw_p39 : lw_okq (⟨"GreyRoute", "isStreet", "(I)Z"⟩, 13) := ⟨⟨by decide +kernel, by decide +kernel⟩, List.mem_of_getElem? (i := 23) (by decide +kernel), List.mem_of_getElem? (i := 850) (by decide +kernel), List.mem_of_getElem? (i := 851) (by decide +kernel)⟩
theorem lw_p40 : lw_okq (⟨"GreyRoute$Ways", "shortenOver", "(II)V"⟩, 2) := ⟨⟨by decide +kernel, by decide +kernel⟩, List.mem_of_getElem? (i := 415) (by decide +kernel), List.mem_of_getElem? (i := 865) (by decide +kernel), List.mem_of_getElem? (i := 866) (by decide +kernel)⟩
theorem lw_p41 : lw_okq (⟨"GreyRoute", "goThisYear", "()V"⟩, 13) := ⟨⟨by decide +kernel, by decide +kernel⟩, List.mem_of_getElem? (i := 23) (by decide +kernel), List.mem_of_getElem? (i := 888) (by decide +kernel), List.mem_of_getElem? (i := 889) (by decide +kernel)⟩
theorem lw_p42 : lw_okq (⟨"GreyRoute$Pageant", "beginRoute", "(LGreyRoute$Town;LGreyRoute$State;I)V"⟩, 16) := ⟨⟨by decide +kernel, by decide +kernel⟩, List.mem_of_getElem? (i := 407) (by decide +kernel), List.mem_of_getElem? (i := 896) (by decide +kernel), List.mem_of_getElem? (i := 897) (by decide +kernel)⟩
theorem lw_p43 : lw_okq (⟨"GreyRoute$Pageant", "gatherPulls", "(LGreyRoute$State;I)V"⟩, 16) := ⟨⟨by decide +kernel, by decide +kernel⟩, List.mem_of_getElem? (i := 407) (by decide +kernel), List.mem_of_getElem? (i := 902) (by decide +kernel), List.mem_of_getElem? (i := 903) (by decide +kernel)⟩
theorem lw_p44 : lw_okq (⟨"GreyRoute$Pageant", "goRound", "()V"⟩, 16) := ⟨⟨by decide +kernel, by decide +kernel⟩, List.mem_of_getElem? (i := 407) (by decide +kernel), List.mem_of_getElem? (i := 911) (by decide +kernel), List.mem_of_getElem? (i := 912) (by decide +kernel)⟩
theorem lw_p45 : lw_okq (⟨"GreyRoute$Ways", "next", "(II)I"⟩, 2) := ⟨⟨by decide +kernel, by decide +kernel⟩, List.mem_of_getElem? (i := 415) (by decide +kernel), List.mem_of_getElem? (i := 921) (by decide +kernel), List.mem_of_getElem? (i := 922) (by decide +kernel)⟩
theorem lw_p46 : lw_okq (⟨"GreyRoute$Pageant", "standingAt", "(I)I"⟩, 16) := ⟨⟨by decide +kernel, by decide +kernel⟩, List.mem_of_getElem? (i := 407) (by decide +kernel), List.mem_of_getElem? (i := 938) (by decide +kernel), List.mem_of_getElem? (i := 939) (by decide +kernel)⟩
theorem lw_p47 : lw_okq (⟨"GreyRoute$Sums", "figure", "(I)I"⟩, 2) := ⟨⟨by decide +kernel, by decide +kernel⟩, List.mem_of_getElem? (i := 428) (by decide +kernel), List.mem_of_getElem? (i := 949) (by decide +kernel), List.mem_of_getElem? (i := 950) (by decide +kernel)⟩
def lw_privs_3 : List (MethodName × Nat) := [(⟨"GreyRoute$Reader", "readComparison", "(I)Z"⟩, 5), (⟨"GreyRoute$Reader", "endCode", "()Z"⟩, 5), (⟨"GreyRoute$Reader", "readHeat", "()Z"⟩, 5), (⟨"GreyRoute$Reader", "readHot", "()Z"⟩, 5), (⟨"GreyRoute", "toldAsKept", "()I"⟩, 13), (⟨"GreyRoute", "isPlace", "(I)Z"⟩, 13), (⟨"GreyRoute", "isThing", "(I)Z"⟩, 13), (⟨"GreyRoute", "isStreet", "(I)Z"⟩, 13), (⟨"GreyRoute$Ways", "shortenOver", "(II)V"⟩, 2), (⟨"GreyRoute", "goThisYear", "()V"⟩, 13), (⟨"GreyRoute$Pageant", "beginRoute", "(LGreyRoute$Town;LGreyRoute$State;I)V"⟩, 16), (⟨"GreyRoute$Pageant", "gatherPulls", "(LGreyRoute$State;I)V"⟩, 16), (⟨"GreyRoute$Pageant", "goRound", "()V"⟩, 16), (⟨"GreyRoute$Ways", "next", "(II)I"⟩, 2), (⟨"GreyRoute$Pageant", "standingAt", "(I)I"⟩, 16), (⟨"GreyRoute$Sums", "figure", "(I)I"⟩, 2)]
theorem lw_r3 : ∀ q ∈ lw_privs_3, lw_okq q := List.forall_mem_cons.mpr ⟨lw_p32, List.forall_mem_cons.mpr ⟨lw_p33, List.forall_mem_cons.mpr ⟨lw_p34, List.forall_mem_cons.mpr ⟨lw_p35, List.forall_mem_cons.mpr ⟨lw_p36, List.forall_mem_cons.mpr ⟨lw_p37, List.forall_mem_cons.mpr ⟨lw_p38, List.forall_mem_cons.mpr ⟨lw_p39, List.forall_mem_cons.mpr ⟨lw_p40, List.forall_mem_cons.mpr ⟨lw_p41, List.forall_mem_cons.mpr ⟨lw_p42, List.forall_mem_cons.mpr ⟨lw_p43, List.forall_mem_cons.mpr ⟨lw_p44, List.forall_mem_cons.mpr ⟨lw_p45, List.forall_mem_cons.mpr ⟨lw_p46, List.forall_mem_cons.mpr ⟨lw_p47, fun _ h => absurd h List.not_mem_nil⟩⟩⟩⟩⟩⟩⟩⟩⟩⟩⟩⟩⟩⟩⟩⟩
theorem lw_p48 : lw_okq (⟨"GreyRoute$Sums", "join", "(II)I"⟩, 2) := ⟨⟨by decide +kernel, by decide +kernel⟩, List.mem_of_getElem? (i := 428) (by decide +kernel), List.mem_of_getElem? (i := 953) (by decide +kernel), List.mem_of_getElem? (i := 954) (by decide +kernel)⟩
theorem lw_p49 : lw_okq (⟨"GreyRoute$Half", "openPlaces", "(LGreyRoute$Town;I)V"⟩, 8) := ⟨⟨by decide +kernel, by decide +kernel⟩, List.mem_of_getElem? (i := 142) (by decide +kernel), List.mem_of_getElem? (i := 1070) (by decide +kernel), List.mem_of_getElem? (i := 1071) (by decide +kernel)⟩
theorem lw_p50 : lw_okq (⟨"GreyRoute$Half", "mayBe", "(II)Z"⟩, 8) := ⟨⟨by decide +kernel, by decide +kernel⟩, List.mem_of_getElem? (i := 142) (by decide +kernel), List.mem_of_getElem? (i := 1079) (by decide +kernel), List.mem_of_getElem? (i := 1080) (by decide +kernel)⟩
theorem lw_p51 : lw_okq (⟨"GreyRoute$Half", "leastOnward", "(LGreyRoute$Town;II)I"⟩, 8) := ⟨⟨by decide +kernel, by decide +kernel⟩, List.mem_of_getElem? (i := 142) (by decide +kernel), List.mem_of_getElem? (i := 1102) (by decide +kernel), List.mem_of_getElem? (i := 1103) (by decide +kernel)⟩
theorem lw_p52 : lw_okq (⟨"GreyRoute$Half", "mostAt", "(LGreyRoute$Town;I)J"⟩, 8) := ⟨⟨by decide +kernel, by decide +kernel⟩, List.mem_of_getElem? (i := 142) (by decide +kernel), List.mem_of_getElem? (i := 1114) (by decide +kernel), List.mem_of_getElem? (i := 1115) (by decide +kernel)⟩
theorem lw_p53 : lw_okq (⟨"GreyRoute", "canPass", "(I)Z"⟩, 13) := ⟨⟨by decide +kernel, by decide +kernel⟩, List.mem_of_getElem? (i := 23) (by decide +kernel), List.mem_of_getElem? (i := 1125) (by decide +kernel), List.mem_of_getElem? (i := 1126) (by decide +kernel)⟩
theorem lw_p54 : lw_okq (⟨"GreyRoute", "passOneYear", "(I)V"⟩, 13) := ⟨⟨by decide +kernel, by decide +kernel⟩, List.mem_of_getElem? (i := 23) (by decide +kernel), List.mem_of_getElem? (i := 1138) (by decide +kernel), List.mem_of_getElem? (i := 1139) (by decide +kernel)⟩
theorem lw_p55 : lw_okq (⟨"GreyRoute", "draw", "(I)I"⟩, 13) := ⟨⟨by decide +kernel, by decide +kernel⟩, List.mem_of_getElem? (i := 23) (by decide +kernel), List.mem_of_getElem? (i := 1155) (by decide +kernel), List.mem_of_getElem? (i := 1156) (by decide +kernel)⟩
theorem lw_p56 : lw_okq (⟨"GreyRouteModel", "refuses", "(I)I"⟩, 78) := ⟨⟨by decide +kernel, by decide +kernel⟩, List.mem_of_getElem? (i := 1243) (by decide +kernel), List.mem_of_getElem? (i := 1489) (by decide +kernel), List.mem_of_getElem? (i := 1490) (by decide +kernel)⟩
theorem lw_p57 : lw_okq (⟨"GreyRouteModel", "put", "(I)V"⟩, 78) := ⟨⟨by decide +kernel, by decide +kernel⟩, List.mem_of_getElem? (i := 1243) (by decide +kernel), List.mem_of_getElem? (i := 1493) (by decide +kernel), List.mem_of_getElem? (i := 1494) (by decide +kernel)⟩
theorem lw_p58 : lw_okq (⟨"GreyRouteModel", "ahead", "()V"⟩, 78) := ⟨⟨by decide +kernel, by decide +kernel⟩, List.mem_of_getElem? (i := 1243) (by decide +kernel), List.mem_of_getElem? (i := 1505) (by decide +kernel), List.mem_of_getElem? (i := 1506) (by decide +kernel)⟩
theorem lw_p59 : lw_okq (⟨"GreyRouteModel", "statement", "()V"⟩, 78) := ⟨⟨by decide +kernel, by decide +kernel⟩, List.mem_of_getElem? (i := 1243) (by decide +kernel), List.mem_of_getElem? (i := 1515) (by decide +kernel), List.mem_of_getElem? (i := 1516) (by decide +kernel)⟩
theorem lw_p60 : lw_okq (⟨"GreyRouteModel", "lex", "()V"⟩, 78) := ⟨⟨by decide +kernel, by decide +kernel⟩, List.mem_of_getElem? (i := 1243) (by decide +kernel), List.mem_of_getElem? (i := 1519) (by decide +kernel), List.mem_of_getElem? (i := 1520) (by decide +kernel)⟩
theorem lw_p61 : lw_okq (⟨"GreyRouteModel", "blame", "(II)V"⟩, 78) := ⟨⟨by decide +kernel, by decide +kernel⟩, List.mem_of_getElem? (i := 1243) (by decide +kernel), List.mem_of_getElem? (i := 1523) (by decide +kernel), List.mem_of_getElem? (i := 1524) (by decide +kernel)⟩
theorem lw_p62 : lw_okq (⟨"GreyRouteModel", "isWord", "(J)Z"⟩, 78) := ⟨⟨by decide +kernel, by decide +kernel⟩, List.mem_of_getElem? (i := 1243) (by decide +kernel), List.mem_of_getElem? (i := 1528) (by decide +kernel), List.mem_of_getElem? (i := 1529) (by decide +kernel)⟩
theorem lw_p63 : lw_okq (⟨"GreyRouteModel", "placing", "()V"⟩, 78) := ⟨⟨by decide +kernel, by decide +kernel⟩, List.mem_of_getElem? (i := 1243) (by decide +kernel), List.mem_of_getElem? (i := 1532) (by decide +kernel), List.mem_of_getElem? (i := 1533) (by decide +kernel)⟩
def lw_privs_4 : List (MethodName × Nat) := [(⟨"GreyRoute$Sums", "join", "(II)I"⟩, 2), (⟨"GreyRoute$Half", "openPlaces", "(LGreyRoute$Town;I)V"⟩, 8), (⟨"GreyRoute$Half", "mayBe", "(II)Z"⟩, 8), (⟨"GreyRoute$Half", "leastOnward", "(LGreyRoute$Town;II)I"⟩, 8), (⟨"GreyRoute$Half", "mostAt", "(LGreyRoute$Town;I)J"⟩, 8), (⟨"GreyRoute", "canPass", "(I)Z"⟩, 13), (⟨"GreyRoute", "passOneYear", "(I)V"⟩, 13), (⟨"GreyRoute", "draw", "(I)I"⟩, 13), (⟨"GreyRouteModel", "refuses", "(I)I"⟩, 78), (⟨"GreyRouteModel", "put", "(I)V"⟩, 78), (⟨"GreyRouteModel", "ahead", "()V"⟩, 78), (⟨"GreyRouteModel", "statement", "()V"⟩, 78), (⟨"GreyRouteModel", "lex", "()V"⟩, 78), (⟨"GreyRouteModel", "blame", "(II)V"⟩, 78), (⟨"GreyRouteModel", "isWord", "(J)Z"⟩, 78), (⟨"GreyRouteModel", "placing", "()V"⟩, 78)]
theorem lw_r4 : ∀ q ∈ lw_privs_4, lw_okq q := List.forall_mem_cons.mpr ⟨lw_p48, List.forall_mem_cons.mpr ⟨lw_p49, List.forall_mem_cons.mpr ⟨lw_p50, List.forall_mem_cons.mpr ⟨lw_p51, List.forall_mem_cons.mpr ⟨lw_p52, List.forall_mem_cons.mpr ⟨lw_p53, List.forall_mem_cons.mpr ⟨lw_p54, List.forall_mem_cons.mpr ⟨lw_p55, List.forall_mem_cons.mpr ⟨lw_p56, List.forall_mem_cons.mpr ⟨lw_p57, List.forall_mem_cons.mpr ⟨lw_p58, List.forall_mem_cons.mpr ⟨lw_p59, List.forall_mem_cons.mpr ⟨lw_p60, List.forall_mem_cons.mpr ⟨lw_p61, List.forall_mem_cons.mpr ⟨lw_p62, List.forall_mem_cons.mpr ⟨lw_p63, fun _ h => absurd h List.not_mem_nil⟩⟩⟩⟩⟩⟩⟩⟩⟩⟩⟩⟩⟩⟩⟩⟩
theorem lw_p64 : lw_okq (⟨"GreyRouteModel", "counts", "(Z)Z"⟩, 78) := ⟨⟨by decide +kernel, by decide +kernel⟩, List.mem_of_getElem? (i := 1243) (by decide +kernel), List.mem_of_getElem? (i := 1536) (by decide +kernel), List.mem_of_getElem? (i := 1537) (by decide +kernel)⟩
theorem lw_p65 : lw_okq (⟨"GreyRouteModel", "fresh", "()J"⟩, 78) := ⟨⟨by decide +kernel, by decide +kernel⟩, List.mem_of_getElem? (i := 1243) (by decide +kernel), List.mem_of_getElem? (i := 1540) (by decide +kernel), List.mem_of_getElem? (i := 1541) (by decide +kernel)⟩
theorem lw_p66 : lw_okq (⟨"GreyRouteModel", "isOwn", "(J)Z"⟩, 78) := ⟨⟨by decide +kernel, by decide +kernel⟩, List.mem_of_getElem? (i := 1243) (by decide +kernel), List.mem_of_getElem? (i := 1544) (by decide +kernel), List.mem_of_getElem? (i := 1545) (by decide +kernel)⟩
theorem lw_p67 : lw_okq (⟨"GreyRouteModel", "named", "(IJ)I"⟩, 78) := ⟨⟨by decide +kernel, by decide +kernel⟩, List.mem_of_getElem? (i := 1243) (by decide +kernel), List.mem_of_getElem? (i := 1573) (by decide +kernel), List.mem_of_getElem? (i := 1574) (by decide +kernel)⟩
theorem lw_p68 : lw_okq (⟨"GreyRouteModel", "manyOf", "(II)I"⟩, 78) := ⟨⟨by decide +kernel, by decide +kernel⟩, List.mem_of_getElem? (i := 1243) (by decide +kernel), List.mem_of_getElem? (i := 1577) (by decide +kernel), List.mem_of_getElem? (i := 1578) (by decide +kernel)⟩
theorem lw_p69 : lw_okq (⟨"GreyRouteModel", "nameOf", "(III)J"⟩, 78) := ⟨⟨by decide +kernel, by decide +kernel⟩, List.mem_of_getElem? (i := 1243) (by decide +kernel), List.mem_of_getElem? (i := 1581) (by decide +kernel), List.mem_of_getElem? (i := 1582) (by decide +kernel)⟩
theorem lw_p70 : lw_okq (⟨"GreyRouteModel", "streeting", "()V"⟩, 78) := ⟨⟨by decide +kernel, by decide +kernel⟩, List.mem_of_getElem? (i := 1243) (by decide +kernel), List.mem_of_getElem? (i := 1585) (by decide +kernel), List.mem_of_getElem? (i := 1586) (by decide +kernel)⟩
theorem lw_p71 : lw_okq (⟨"GreyRouteModel", "knownBut", "(I)I"⟩, 78) := ⟨⟨by decide +kernel, by decide +kernel⟩, List.mem_of_getElem? (i := 1243) (by decide +kernel), List.mem_of_getElem? (i := 1589) (by decide +kernel), List.mem_of_getElem? (i := 1590) (by decide +kernel)⟩
theorem lw_p72 : lw_okq (⟨"GreyRouteModel", "must", "(J)V"⟩, 78) := ⟨⟨by decide +kernel, by decide +kernel⟩, List.mem_of_getElem? (i := 1243) (by decide +kernel), List.mem_of_getElem? (i := 1596) (by decide +kernel), List.mem_of_getElem? (i := 1597) (by decide +kernel)⟩
theorem lw_p73 : lw_okq (⟨"GreyRouteModel", "between", "(III)I"⟩, 78) := ⟨⟨by decide +kernel, by decide +kernel⟩, List.mem_of_getElem? (i := 1243) (by decide +kernel), List.mem_of_getElem? (i := 1600) (by decide +kernel), List.mem_of_getElem? (i := 1601) (by decide +kernel)⟩
theorem lw_p74 : lw_okq (⟨"GreyRouteModel", "number", "(II)I"⟩, 78) := ⟨⟨by decide +kernel, by decide +kernel⟩, List.mem_of_getElem? (i := 1243) (by decide +kernel), List.mem_of_getElem? (i := 1604) (by decide +kernel), List.mem_of_getElem? (i := 1605) (by decide +kernel)⟩
theorem lw_p75 : lw_okq (⟨"GreyRouteModel", "stepping", "()V"⟩, 78) := ⟨⟨by decide +kernel, by decide +kernel⟩, List.mem_of_getElem? (i := 1243) (by decide +kernel), List.mem_of_getElem? (i := 1611) (by decide +kernel), List.mem_of_getElem? (i := 1612) (by decide +kernel)⟩
theorem lw_p76 : lw_okq (⟨"GreyRouteModel", "thinging", "()V"⟩, 78) := ⟨⟨by decide +kernel, by decide +kernel⟩, List.mem_of_getElem? (i := 1243) (by decide +kernel), List.mem_of_getElem? (i := 1615) (by decide +kernel), List.mem_of_getElem? (i := 1616) (by decide +kernel)⟩
theorem lw_p77 : lw_okq (⟨"GreyRouteModel", "reading", "(I)V"⟩, 78) := ⟨⟨by decide +kernel, by decide +kernel⟩, List.mem_of_getElem? (i := 1243) (by decide +kernel), List.mem_of_getElem? (i := 1619) (by decide +kernel), List.mem_of_getElem? (i := 1620) (by decide +kernel)⟩
theorem lw_p78 : lw_okq (⟨"GreyRouteModel", "reads", "(Z)V"⟩, 78) := ⟨⟨by decide +kernel, by decide +kernel⟩, List.mem_of_getElem? (i := 1243) (by decide +kernel), List.mem_of_getElem? (i := 1623) (by decide +kernel), List.mem_of_getElem? (i := 1624) (by decide +kernel)⟩
theorem lw_p79 : lw_okq (⟨"GreyRouteModel", "pushes", "(I)V"⟩, 78) := ⟨⟨by decide +kernel, by decide +kernel⟩, List.mem_of_getElem? (i := 1243) (by decide +kernel), List.mem_of_getElem? (i := 1627) (by decide +kernel), List.mem_of_getElem? (i := 1628) (by decide +kernel)⟩
def lw_privs_5 : List (MethodName × Nat) := [(⟨"GreyRouteModel", "counts", "(Z)Z"⟩, 78), (⟨"GreyRouteModel", "fresh", "()J"⟩, 78), (⟨"GreyRouteModel", "isOwn", "(J)Z"⟩, 78), (⟨"GreyRouteModel", "named", "(IJ)I"⟩, 78), (⟨"GreyRouteModel", "manyOf", "(II)I"⟩, 78), (⟨"GreyRouteModel", "nameOf", "(III)J"⟩, 78), (⟨"GreyRouteModel", "streeting", "()V"⟩, 78), (⟨"GreyRouteModel", "knownBut", "(I)I"⟩, 78), (⟨"GreyRouteModel", "must", "(J)V"⟩, 78), (⟨"GreyRouteModel", "between", "(III)I"⟩, 78), (⟨"GreyRouteModel", "number", "(II)I"⟩, 78), (⟨"GreyRouteModel", "stepping", "()V"⟩, 78), (⟨"GreyRouteModel", "thinging", "()V"⟩, 78), (⟨"GreyRouteModel", "reading", "(I)V"⟩, 78), (⟨"GreyRouteModel", "reads", "(Z)V"⟩, 78), (⟨"GreyRouteModel", "pushes", "(I)V"⟩, 78)]
theorem lw_r5 : ∀ q ∈ lw_privs_5, lw_okq q := List.forall_mem_cons.mpr ⟨lw_p64, List.forall_mem_cons.mpr ⟨lw_p65, List.forall_mem_cons.mpr ⟨lw_p66, List.forall_mem_cons.mpr ⟨lw_p67, List.forall_mem_cons.mpr ⟨lw_p68, List.forall_mem_cons.mpr ⟨lw_p69, List.forall_mem_cons.mpr ⟨lw_p70, List.forall_mem_cons.mpr ⟨lw_p71, List.forall_mem_cons.mpr ⟨lw_p72, List.forall_mem_cons.mpr ⟨lw_p73, List.forall_mem_cons.mpr ⟨lw_p74, List.forall_mem_cons.mpr ⟨lw_p75, List.forall_mem_cons.mpr ⟨lw_p76, List.forall_mem_cons.mpr ⟨lw_p77, List.forall_mem_cons.mpr ⟨lw_p78, List.forall_mem_cons.mpr ⟨lw_p79, fun _ h => absurd h List.not_mem_nil⟩⟩⟩⟩⟩⟩⟩⟩⟩⟩⟩⟩⟩⟩⟩⟩
theorem lw_p80 : lw_okq (⟨"GreyRouteModel", "operand", "()Z"⟩, 78) := ⟨⟨by decide +kernel, by decide +kernel⟩, List.mem_of_getElem? (i := 1243) (by decide +kernel), List.mem_of_getElem? (i := 1631) (by decide +kernel), List.mem_of_getElem? (i := 1632) (by decide +kernel)⟩
theorem lw_p81 : lw_okq (⟨"GreyRouteModel", "holdsBack", "(I)V"⟩, 78) := ⟨⟨by decide +kernel, by decide +kernel⟩, List.mem_of_getElem? (i := 1243) (by decide +kernel), List.mem_of_getElem? (i := 1638) (by decide +kernel), List.mem_of_getElem? (i := 1639) (by decide +kernel)⟩
theorem lw_p82 : lw_okq (⟨"GreyRouteModel", "isSign", "(I)Z"⟩, 78) := ⟨⟨by decide +kernel, by decide +kernel⟩, List.mem_of_getElem? (i := 1243) (by decide +kernel), List.mem_of_getElem? (i := 1642) (by decide +kernel), List.mem_of_getElem? (i := 1643) (by decide +kernel)⟩
theorem lw_p83 : lw_okq (⟨"GreyRouteModel", "opens", "(I)V"⟩, 78) := ⟨⟨by decide +kernel, by decide +kernel⟩, List.mem_of_getElem? (i := 1243) (by decide +kernel), List.mem_of_getElem? (i := 1646) (by decide +kernel), List.mem_of_getElem? (i := 1647) (by decide +kernel)⟩
theorem lw_p84 : lw_okq (⟨"GreyRouteModel", "add", "(II)V"⟩, 78) := ⟨⟨by decide +kernel, by decide +kernel⟩, List.mem_of_getElem? (i := 1243) (by decide +kernel), List.mem_of_getElem? (i := 1650) (by decide +kernel), List.mem_of_getElem? (i := 1651) (by decide +kernel)⟩
theorem lw_p85 : lw_okq (⟨"GreyRouteModel", "goesOn", "()Z"⟩, 78) := ⟨⟨by decide +kernel, by decide +kernel⟩, List.mem_of_getElem? (i := 1243) (by decide +kernel), List.mem_of_getElem? (i := 1654) (by decide +kernel), List.mem_of_getElem? (i := 1655) (by decide +kernel)⟩
theorem lw_p86 : lw_okq (⟨"GreyRouteModel", "joins", "(I)V"⟩, 78) := ⟨⟨by decide +kernel, by decide +kernel⟩, List.mem_of_getElem? (i := 1243) (by decide +kernel), List.mem_of_getElem? (i := 1658) (by decide +kernel), List.mem_of_getElem? (i := 1659) (by decide +kernel)⟩
theorem lw_p87 : lw_okq (⟨"GreyRouteModel", "heating", "(Z)V"⟩, 78) := ⟨⟨by decide +kernel, by decide +kernel⟩, List.mem_of_getElem? (i := 1243) (by decide +kernel), List.mem_of_getElem? (i := 1665) (by decide +kernel), List.mem_of_getElem? (i := 1666) (by decide +kernel)⟩
theorem lw_p88 : lw_okq (⟨"GreyRouteModel", "finishes", "(I)V"⟩, 78) := ⟨⟨by decide +kernel, by decide +kernel⟩, List.mem_of_getElem? (i := 1243) (by decide +kernel), List.mem_of_getElem? (i := 1669) (by decide +kernel), List.mem_of_getElem? (i := 1670) (by decide +kernel)⟩
theorem lw_p89 : lw_okq (⟨"GreyRouteModel", "must", "(I)V"⟩, 78) := ⟨⟨by decide +kernel, by decide +kernel⟩, List.mem_of_getElem? (i := 1243) (by decide +kernel), List.mem_of_getElem? (i := 1673) (by decide +kernel), List.mem_of_getElem? (i := 1674) (by decide +kernel)⟩
theorem lw_p90 : lw_okq (⟨"GreyRouteModel", "begin", "()V"⟩, 78) := ⟨⟨by decide +kernel, by decide +kernel⟩, List.mem_of_getElem? (i := 1243) (by decide +kernel), List.mem_of_getElem? (i := 1677) (by decide +kernel), List.mem_of_getElem? (i := 1678) (by decide +kernel)⟩
theorem lw_p91 : lw_okq (⟨"GreyRouteModel", "slot", "(I)I"⟩, 78) := ⟨⟨by decide +kernel, by decide +kernel⟩, List.mem_of_getElem? (i := 1243) (by decide +kernel), List.mem_of_getElem? (i := 1693) (by decide +kernel), List.mem_of_getElem? (i := 1694) (by decide +kernel)⟩
theorem lw_p92 : lw_okq (⟨"GreyRouteModel", "copies", "(II)V"⟩, 78) := ⟨⟨by decide +kernel, by decide +kernel⟩, List.mem_of_getElem? (i := 1243) (by decide +kernel), List.mem_of_getElem? (i := 1697) (by decide +kernel), List.mem_of_getElem? (i := 1698) (by decide +kernel)⟩
theorem lw_p93 : lw_okq (⟨"GreyRouteModel", "isPlace", "(I)Z"⟩, 78) := ⟨⟨by decide +kernel, by decide +kernel⟩, List.mem_of_getElem? (i := 1243) (by decide +kernel), List.mem_of_getElem? (i := 1721) (by decide +kernel), List.mem_of_getElem? (i := 1722) (by decide +kernel)⟩
theorem lw_p94 : lw_okq (⟨"GreyRouteModel", "measures", "(I)V"⟩, 78) := ⟨⟨by decide +kernel, by decide +kernel⟩, List.mem_of_getElem? (i := 1243) (by decide +kernel), List.mem_of_getElem? (i := 1725) (by decide +kernel), List.mem_of_getElem? (i := 1726) (by decide +kernel)⟩
theorem lw_p95 : lw_okq (⟨"GreyRouteModel", "heatNow", "()I"⟩, 78) := ⟨⟨by decide +kernel, by decide +kernel⟩, List.mem_of_getElem? (i := 1243) (by decide +kernel), List.mem_of_getElem? (i := 1742) (by decide +kernel), List.mem_of_getElem? (i := 1743) (by decide +kernel)⟩
def lw_privs_6 : List (MethodName × Nat) := [(⟨"GreyRouteModel", "operand", "()Z"⟩, 78), (⟨"GreyRouteModel", "holdsBack", "(I)V"⟩, 78), (⟨"GreyRouteModel", "isSign", "(I)Z"⟩, 78), (⟨"GreyRouteModel", "opens", "(I)V"⟩, 78), (⟨"GreyRouteModel", "add", "(II)V"⟩, 78), (⟨"GreyRouteModel", "goesOn", "()Z"⟩, 78), (⟨"GreyRouteModel", "joins", "(I)V"⟩, 78), (⟨"GreyRouteModel", "heating", "(Z)V"⟩, 78), (⟨"GreyRouteModel", "finishes", "(I)V"⟩, 78), (⟨"GreyRouteModel", "must", "(I)V"⟩, 78), (⟨"GreyRouteModel", "begin", "()V"⟩, 78), (⟨"GreyRouteModel", "slot", "(I)I"⟩, 78), (⟨"GreyRouteModel", "copies", "(II)V"⟩, 78), (⟨"GreyRouteModel", "isPlace", "(I)Z"⟩, 78), (⟨"GreyRouteModel", "measures", "(I)V"⟩, 78), (⟨"GreyRouteModel", "heatNow", "()I"⟩, 78)]
theorem lw_r6 : ∀ q ∈ lw_privs_6, lw_okq q := List.forall_mem_cons.mpr ⟨lw_p80, List.forall_mem_cons.mpr ⟨lw_p81, List.forall_mem_cons.mpr ⟨lw_p82, List.forall_mem_cons.mpr ⟨lw_p83, List.forall_mem_cons.mpr ⟨lw_p84, List.forall_mem_cons.mpr ⟨lw_p85, List.forall_mem_cons.mpr ⟨lw_p86, List.forall_mem_cons.mpr ⟨lw_p87, List.forall_mem_cons.mpr ⟨lw_p88, List.forall_mem_cons.mpr ⟨lw_p89, List.forall_mem_cons.mpr ⟨lw_p90, List.forall_mem_cons.mpr ⟨lw_p91, List.forall_mem_cons.mpr ⟨lw_p92, List.forall_mem_cons.mpr ⟨lw_p93, List.forall_mem_cons.mpr ⟨lw_p94, List.forall_mem_cons.mpr ⟨lw_p95, fun _ h => absurd h List.not_mem_nil⟩⟩⟩⟩⟩⟩⟩⟩⟩⟩⟩⟩⟩⟩⟩⟩
theorem lw_p96 : lw_okq (⟨"GreyRouteModel", "runs", "(IIII)V"⟩, 78) := ⟨⟨by decide +kernel, by decide +kernel⟩, List.mem_of_getElem? (i := 1243) (by decide +kernel), List.mem_of_getElem? (i := 1746) (by decide +kernel), List.mem_of_getElem? (i := 1747) (by decide +kernel)⟩
theorem lw_p97 : lw_okq (⟨"GreyRouteModel", "walks", "(II)V"⟩, 78) := ⟨⟨by decide +kernel, by decide +kernel⟩, List.mem_of_getElem? (i := 1243) (by decide +kernel), List.mem_of_getElem? (i := 1750) (by decide +kernel), List.mem_of_getElem? (i := 1751) (by decide +kernel)⟩
theorem lw_p98 : lw_okq (⟨"GreyRouteModel", "onward", "(III)I"⟩, 78) := ⟨⟨by decide +kernel, by decide +kernel⟩, List.mem_of_getElem? (i := 1243) (by decide +kernel), List.mem_of_getElem? (i := 1754) (by decide +kernel), List.mem_of_getElem? (i := 1755) (by decide +kernel)⟩
theorem lw_p99 : lw_okq (⟨"GreyRouteModel", "appends", "(II)V"⟩, 78) := ⟨⟨by decide +kernel, by decide +kernel⟩, List.mem_of_getElem? (i := 1243) (by decide +kernel), List.mem_of_getElem? (i := 1758) (by decide +kernel), List.mem_of_getElem? (i := 1759) (by decide +kernel)⟩
theorem lw_p100 : lw_okq (⟨"GreyRouteModel", "stands", "(IIII)I"⟩, 78) := ⟨⟨by decide +kernel, by decide +kernel⟩, List.mem_of_getElem? (i := 1243) (by decide +kernel), List.mem_of_getElem? (i := 1762) (by decide +kernel), List.mem_of_getElem? (i := 1763) (by decide +kernel)⟩
theorem lw_p101 : lw_okq (⟨"GreyRouteModel", "isTold", "(I)Z"⟩, 78) := ⟨⟨by decide +kernel, by decide +kernel⟩, List.mem_of_getElem? (i := 1243) (by decide +kernel), List.mem_of_getElem? (i := 1766) (by decide +kernel), List.mem_of_getElem? (i := 1767) (by decide +kernel)⟩
theorem lw_p102 : lw_okq (⟨"GreyRouteModel", "pulls", "(III)I"⟩, 78) := ⟨⟨by decide +kernel, by decide +kernel⟩, List.mem_of_getElem? (i := 1243) (by decide +kernel), List.mem_of_getElem? (i := 1770) (by decide +kernel), List.mem_of_getElem? (i := 1771) (by decide +kernel)⟩
theorem lw_p103 : lw_okq (⟨"GreyRouteModel", "reckons", "(I)J"⟩, 78) := ⟨⟨by decide +kernel, by decide +kernel⟩, List.mem_of_getElem? (i := 1243) (by decide +kernel), List.mem_of_getElem? (i := 1774) (by decide +kernel), List.mem_of_getElem? (i := 1775) (by decide +kernel)⟩
theorem lw_p104 : lw_okq (⟨"GreyRouteModel", "pairs", "()I"⟩, 78) := ⟨⟨by decide +kernel, by decide +kernel⟩, List.mem_of_getElem? (i := 1243) (by decide +kernel), List.mem_of_getElem? (i := 1790) (by decide +kernel), List.mem_of_getElem? (i := 1791) (by decide +kernel)⟩
theorem lw_p105 : lw_okq (⟨"GreyRouteModel", "longest", "()I"⟩, 78) := ⟨⟨by decide +kernel, by decide +kernel⟩, List.mem_of_getElem? (i := 1243) (by decide +kernel), List.mem_of_getElem? (i := 1802) (by decide +kernel), List.mem_of_getElem? (i := 1803) (by decide +kernel)⟩
theorem lw_p106 : lw_okq (⟨"GreyRouteModel", "comesBy", "(I)Z"⟩, 78) := ⟨⟨by decide +kernel, by decide +kernel⟩, List.mem_of_getElem? (i := 1243) (by decide +kernel), List.mem_of_getElem? (i := 1814) (by decide +kernel), List.mem_of_getElem? (i := 1815) (by decide +kernel)⟩
theorem lw_p107 : lw_okq (⟨"GreyRouteModel", "isAhead", "(III)Z"⟩, 78) := ⟨⟨by decide +kernel, by decide +kernel⟩, List.mem_of_getElem? (i := 1243) (by decide +kernel), List.mem_of_getElem? (i := 1826) (by decide +kernel), List.mem_of_getElem? (i := 1827) (by decide +kernel)⟩
theorem lw_p108 : lw_okq (⟨"GreyRouteModel", "passes", "(II)V"⟩, 78) := ⟨⟨by decide +kernel, by decide +kernel⟩, List.mem_of_getElem? (i := 1243) (by decide +kernel), List.mem_of_getElem? (i := 1830) (by decide +kernel), List.mem_of_getElem? (i := 1831) (by decide +kernel)⟩
theorem lw_p109 : lw_okq (⟨"GreyRouteModel", "writesDown", "(I)V"⟩, 78) := ⟨⟨by decide +kernel, by decide +kernel⟩, List.mem_of_getElem? (i := 1243) (by decide +kernel), List.mem_of_getElem? (i := 1834) (by decide +kernel), List.mem_of_getElem? (i := 1835) (by decide +kernel)⟩
theorem lw_p110 : lw_okq (⟨"GreyRouteModel", "isClever", "(II)Z"⟩, 78) := ⟨⟨by decide +kernel, by decide +kernel⟩, List.mem_of_getElem? (i := 1243) (by decide +kernel), List.mem_of_getElem? (i := 1838) (by decide +kernel), List.mem_of_getElem? (i := 1839) (by decide +kernel)⟩
theorem lw_p111 : lw_okq (⟨"GreyRouteModel", "leavesOut", "()V"⟩, 78) := ⟨⟨by decide +kernel, by decide +kernel⟩, List.mem_of_getElem? (i := 1243) (by decide +kernel), List.mem_of_getElem? (i := 1842) (by decide +kernel), List.mem_of_getElem? (i := 1843) (by decide +kernel)⟩
def lw_privs_7 : List (MethodName × Nat) := [(⟨"GreyRouteModel", "runs", "(IIII)V"⟩, 78), (⟨"GreyRouteModel", "walks", "(II)V"⟩, 78), (⟨"GreyRouteModel", "onward", "(III)I"⟩, 78), (⟨"GreyRouteModel", "appends", "(II)V"⟩, 78), (⟨"GreyRouteModel", "stands", "(IIII)I"⟩, 78), (⟨"GreyRouteModel", "isTold", "(I)Z"⟩, 78), (⟨"GreyRouteModel", "pulls", "(III)I"⟩, 78), (⟨"GreyRouteModel", "reckons", "(I)J"⟩, 78), (⟨"GreyRouteModel", "pairs", "()I"⟩, 78), (⟨"GreyRouteModel", "longest", "()I"⟩, 78), (⟨"GreyRouteModel", "comesBy", "(I)Z"⟩, 78), (⟨"GreyRouteModel", "isAhead", "(III)Z"⟩, 78), (⟨"GreyRouteModel", "passes", "(II)V"⟩, 78), (⟨"GreyRouteModel", "writesDown", "(I)V"⟩, 78), (⟨"GreyRouteModel", "isClever", "(II)Z"⟩, 78), (⟨"GreyRouteModel", "leavesOut", "()V"⟩, 78)]
theorem lw_r7 : ∀ q ∈ lw_privs_7, lw_okq q := List.forall_mem_cons.mpr ⟨lw_p96, List.forall_mem_cons.mpr ⟨lw_p97, List.forall_mem_cons.mpr ⟨lw_p98, List.forall_mem_cons.mpr ⟨lw_p99, List.forall_mem_cons.mpr ⟨lw_p100, List.forall_mem_cons.mpr ⟨lw_p101, List.forall_mem_cons.mpr ⟨lw_p102, List.forall_mem_cons.mpr ⟨lw_p103, List.forall_mem_cons.mpr ⟨lw_p104, List.forall_mem_cons.mpr ⟨lw_p105, List.forall_mem_cons.mpr ⟨lw_p106, List.forall_mem_cons.mpr ⟨lw_p107, List.forall_mem_cons.mpr ⟨lw_p108, List.forall_mem_cons.mpr ⟨lw_p109, List.forall_mem_cons.mpr ⟨lw_p110, List.forall_mem_cons.mpr ⟨lw_p111, fun _ h => absurd h List.not_mem_nil⟩⟩⟩⟩⟩⟩⟩⟩⟩⟩⟩⟩⟩⟩⟩⟩
theorem lw_p112 : lw_okq (⟨"GreyRouteModel", "isAsWas", "()Z"⟩, 78) := ⟨⟨by decide +kernel, by decide +kernel⟩, List.mem_of_getElem? (i := 1243) (by decide +kernel), List.mem_of_getElem? (i := 1854) (by decide +kernel), List.mem_of_getElem? (i := 1855) (by decide +kernel)⟩
theorem lw_p113 : lw_okq (⟨"GreyRouteModel", "fills", "(I)J"⟩, 78) := ⟨⟨by decide +kernel, by decide +kernel⟩, List.mem_of_getElem? (i := 1243) (by decide +kernel), List.mem_of_getElem? (i := 1866) (by decide +kernel), List.mem_of_getElem? (i := 1867) (by decide +kernel)⟩
theorem lw_p114 : lw_okq (⟨"GreyRouteModel", "canBe", "(II)Z"⟩, 78) := ⟨⟨by decide +kernel, by decide +kernel⟩, List.mem_of_getElem? (i := 1243) (by decide +kernel), List.mem_of_getElem? (i := 1870) (by decide +kernel), List.mem_of_getElem? (i := 1871) (by decide +kernel)⟩
theorem lw_p115 : lw_okq (⟨"GreyRouteModel", "keeps", "()V"⟩, 78) := ⟨⟨by decide +kernel, by decide +kernel⟩, List.mem_of_getElem? (i := 1243) (by decide +kernel), List.mem_of_getElem? (i := 1891) (by decide +kernel), List.mem_of_getElem? (i := 1892) (by decide +kernel)⟩
theorem lw_p116 : lw_okq (⟨"GreyRouteModel", "draw", "(I)I"⟩, 78) := ⟨⟨by decide +kernel, by decide +kernel⟩, List.mem_of_getElem? (i := 1243) (by decide +kernel), List.mem_of_getElem? (i := 1899) (by decide +kernel), List.mem_of_getElem? (i := 1900) (by decide +kernel)⟩
theorem lw_p117 : lw_okq (⟨"GreyRouteModel", "writes", "(I)V"⟩, 78) := ⟨⟨by decide +kernel, by decide +kernel⟩, List.mem_of_getElem? (i := 1243) (by decide +kernel), List.mem_of_getElem? (i := 1935) (by decide +kernel), List.mem_of_getElem? (i := 1936) (by decide +kernel)⟩
theorem lw_p118 : lw_okq (⟨"GreyRouteModel", "comesOn", "(I)Z"⟩, 78) := ⟨⟨by decide +kernel, by decide +kernel⟩, List.mem_of_getElem? (i := 1243) (by decide +kernel), List.mem_of_getElem? (i := 1947) (by decide +kernel), List.mem_of_getElem? (i := 1948) (by decide +kernel)⟩
theorem lw_p119 : lw_okq (⟨"GreyRouteModel", "stepOn", "(II)Z"⟩, 78) := ⟨⟨by decide +kernel, by decide +kernel⟩, List.mem_of_getElem? (i := 1243) (by decide +kernel), List.mem_of_getElem? (i := 1951) (by decide +kernel), List.mem_of_getElem? (i := 1952) (by decide +kernel)⟩
def lw_privs_8 : List (MethodName × Nat) := [(⟨"GreyRouteModel", "isAsWas", "()Z"⟩, 78), (⟨"GreyRouteModel", "fills", "(I)J"⟩, 78), (⟨"GreyRouteModel", "canBe", "(II)Z"⟩, 78), (⟨"GreyRouteModel", "keeps", "()V"⟩, 78), (⟨"GreyRouteModel", "draw", "(I)I"⟩, 78), (⟨"GreyRouteModel", "writes", "(I)V"⟩, 78), (⟨"GreyRouteModel", "comesOn", "(I)Z"⟩, 78), (⟨"GreyRouteModel", "stepOn", "(II)Z"⟩, 78)]
theorem lw_r8 : ∀ q ∈ lw_privs_8, lw_okq q := List.forall_mem_cons.mpr ⟨lw_p112, List.forall_mem_cons.mpr ⟨lw_p113, List.forall_mem_cons.mpr ⟨lw_p114, List.forall_mem_cons.mpr ⟨lw_p115, List.forall_mem_cons.mpr ⟨lw_p116, List.forall_mem_cons.mpr ⟨lw_p117, List.forall_mem_cons.mpr ⟨lw_p118, List.forall_mem_cons.mpr ⟨lw_p119, fun _ h => absurd h List.not_mem_nil⟩⟩⟩⟩⟩⟩⟩⟩
def lw_privs : List (MethodName × Nat) := lw_privs_1 ++ (lw_privs_2 ++ (lw_privs_3 ++ (lw_privs_4 ++ (lw_privs_5 ++ (lw_privs_6 ++ (lw_privs_7 ++ (lw_privs_8)))))))
def lw_tbl : List Cond := k2_sels lw_privs ++ tables_1
theorem lw_privs_ok : ∀ q ∈ lw_privs, lw_okq q := by
  show ∀ q ∈ lw_privs_1 ++ (lw_privs_2 ++ (lw_privs_3 ++ (lw_privs_4 ++ (lw_privs_5 ++ (lw_privs_6 ++ (lw_privs_7 ++ (lw_privs_8))))))), lw_okq q
  exact List.forall_mem_append.mpr ⟨lw_r1, List.forall_mem_append.mpr ⟨lw_r2, List.forall_mem_append.mpr ⟨lw_r3, List.forall_mem_append.mpr ⟨lw_r4, List.forall_mem_append.mpr ⟨lw_r5, List.forall_mem_append.mpr ⟨lw_r6, List.forall_mem_append.mpr ⟨lw_r7, lw_r8⟩⟩⟩⟩⟩⟩⟩
end
section
def RX0 : String := "GreyRoute$Bytes"
def TX0 : u_T := fun k => match k with
  | 0 => ("GreyRoute$Bytes", "row", "[B", true)
  | _ => ("GreyRoute$Bytes", "size", "I", false)
def tyX0 : Nat → FieldType := fun k => match k with
  | 0 => .array .byte
  | _ => .int
theorem nmX0 : ∀ a, a < 2 → ∀ b, b < 2 → a ≠ b → (TX0 a).2.1 ≠ (TX0 b).2.1 := by decide +kernel
theorem tyX0_ok : ∀ k, k < 2 → parseFieldDescriptor (TX0 k).2.2.1 = some (tyX0 k) := by decide +kernel
abbrev cX0_init : ByteArray := prog_2_method_1_code
def yX0_init : MethodName := ⟨RX0, "<init>", "(I)V"⟩
abbrev cX0_put : ByteArray := prog_2_method_2_code
def yX0_put : MethodName := ⟨RX0, "put", "(I)V"⟩
abbrev cX0_putNumber : ByteArray := prog_2_method_3_code
def yX0_putNumber : MethodName := ⟨RX0, "putNumber", "(I)V"⟩
abbrev cX0_at : ByteArray := prog_2_method_4_code
def yX0_at : MethodName := ⟨RX0, "at", "(I)I"⟩
abbrev cX0_cut : ByteArray := prog_2_method_5_code
def yX0_cut : MethodName := ⟨RX0, "cut", "(I)V"⟩
def RX1 : String := "GreyRoute$Half"
def TX1 : u_T := fun k => match k with
  | 0 => ("GreyRoute$Half", "numbers", "[I", true)
  | 1 => ("GreyRoute$Half", "spots", "[I", true)
  | 2 => ("GreyRoute$Half", "open", "[I", true)
  | 3 => ("GreyRoute$Half", "onward", "[J", true)
  | 4 => ("GreyRoute$Half", "toward", "[J", true)
  | 5 => ("GreyRoute$Half", "count", "I", false)
  | 6 => ("GreyRoute$Half", "askedStep", "I", false)
  | _ => ("GreyRoute$Half", "askedLeft", "J", false)
def tyX1 : Nat → FieldType := fun k => match k with
  | 0 => .array .int
  | 1 => .array .int
  | 2 => .array .int
  | 3 => .array .long
  | 4 => .array .long
  | 5 => .int
  | 6 => .int
  | _ => .long
theorem nmX1 : ∀ a, a < 8 → ∀ b, b < 8 → a ≠ b → (TX1 a).2.1 ≠ (TX1 b).2.1 := by decide +kernel
theorem tyX1_ok : ∀ k, k < 8 → parseFieldDescriptor (TX1 k).2.2.1 = some (tyX1 k) := by decide +kernel
abbrev cX1_init : ByteArray := prog_3_method_1_code
def yX1_init : MethodName := ⟨RX1, "<init>", "()V"⟩
abbrev cX1_clear : ByteArray := prog_3_method_2_code
def yX1_clear : MethodName := ⟨RX1, "clear", "()V"⟩
abbrev cX1_fits : ByteArray := prog_3_method_3_code
def yX1_fits : MethodName := ⟨RX1, "fits", "(LGreyRoute$Bytes;I)Z"⟩
abbrev cX1_take : ByteArray := prog_3_method_4_code
def yX1_take : MethodName := ⟨RX1, "take", "(LGreyRoute$Bytes;)V"⟩
abbrev cX1_capped : ByteArray := prog_3_method_5_code
def yX1_capped : MethodName := ⟨RX1, "capped", "(J)I"⟩
abbrev cX1_openPlaces : ByteArray := prog_3_method_6_code
def yX1_openPlaces : MethodName := ⟨RX1, "openPlaces", "(LGreyRoute$Town;I)V"⟩
abbrev cX1_mayBe : ByteArray := prog_3_method_7_code
def yX1_mayBe : MethodName := ⟨RX1, "mayBe", "(II)Z"⟩
abbrev cX1_countRoutes : ByteArray := prog_3_method_8_code
def yX1_countRoutes : MethodName := ⟨RX1, "countRoutes", "(LGreyRoute$Town;I)J"⟩
abbrev cX1_sumBeside : ByteArray := prog_3_method_9_code
def yX1_sumBeside : MethodName := ⟨RX1, "sumBeside", "(LGreyRoute$Town;[JII)J"⟩
abbrev cX1_sumOf : ByteArray := prog_3_method_10_code
def yX1_sumOf : MethodName := ⟨RX1, "sumOf", "(LGreyRoute$Town;[JI)J"⟩
abbrev cX1_placeOfFirst : ByteArray := prog_3_method_11_code
def yX1_placeOfFirst : MethodName := ⟨RX1, "placeOfFirst", "(LGreyRoute$Town;II)I"⟩
abbrev cX1_leastOnward : ByteArray := prog_3_method_12_code
def yX1_leastOnward : MethodName := ⟨RX1, "leastOnward", "(LGreyRoute$Town;II)I"⟩
abbrev cX1_ask : ByteArray := prog_3_method_13_code
def yX1_ask : MethodName := ⟨RX1, "ask", "(LGreyRoute$Town;I)V"⟩
abbrev cX1_mostAt : ByteArray := prog_3_method_14_code
def yX1_mostAt : MethodName := ⟨RX1, "mostAt", "(LGreyRoute$Town;I)J"⟩
def RX2 : String := "GreyRoute$Pageant"
def TX2 : u_T := fun k => match k with
  | 0 => ("GreyRoute$Pageant", "route", "LGreyRoute$Route;", true)
  | 1 => ("GreyRoute$Pageant", "stood", "[I", true)
  | 2 => ("GreyRoute$Pageant", "comes", "[I", true)
  | 3 => ("GreyRoute$Pageant", "been", "[I", true)
  | 4 => ("GreyRoute$Pageant", "pulls", "[I", true)
  | 5 => ("GreyRoute$Pageant", "stoodByPlace", "[I", true)
  | 6 => ("GreyRoute$Pageant", "between", "[I", true)
  | 7 => ("GreyRoute$Pageant", "before", "LGreyRoute$Route;", true)
  | 8 => ("GreyRoute$Pageant", "ways", "LGreyRoute$Ways;", true)
  | 9 => ("GreyRoute$Pageant", "sums", "LGreyRoute$Sums;", true)
  | 10 => ("GreyRoute$Pageant", "town", "LGreyRoute$Town;", false)
  | 11 => ("GreyRoute$Pageant", "shutBits", "I", false)
  | 12 => ("GreyRoute$Pageant", "year", "I", false)
  | 13 => ("GreyRoute$Pageant", "time", "I", false)
  | 14 => ("GreyRoute$Pageant", "standing", "I", false)
  | _ => ("GreyRoute$Pageant", "pairs", "I", false)
def tyX2 : Nat → FieldType := fun k => match k with
  | 0 => .object "GreyRoute$Route"
  | 1 => .array .int
  | 2 => .array .int
  | 3 => .array .int
  | 4 => .array .int
  | 5 => .array .int
  | 6 => .array .int
  | 7 => .object "GreyRoute$Route"
  | 8 => .object "GreyRoute$Ways"
  | 9 => .object "GreyRoute$Sums"
  | 10 => .object "GreyRoute$Town"
  | 11 => .int
  | 12 => .int
  | 13 => .int
  | 14 => .int
  | _ => .int
theorem nmX2 : ∀ a, a < 16 → ∀ b, b < 16 → a ≠ b → (TX2 a).2.1 ≠ (TX2 b).2.1 := by decide +kernel
theorem tyX2_ok : ∀ k, k < 16 → parseFieldDescriptor (TX2 k).2.2.1 = some (tyX2 k) := by decide +kernel
abbrev cX2_init : ByteArray := prog_4_method_1_code
def yX2_init : MethodName := ⟨RX2, "<init>", "(LGreyRoute$Town;)V"⟩
abbrev cX2_begin : ByteArray := prog_4_method_2_code
def yX2_begin : MethodName := ⟨RX2, "begin", "(LGreyRoute$Town;LGreyRoute$State;)V"⟩
abbrev cX2_beginRoute : ByteArray := prog_4_method_3_code
def yX2_beginRoute : MethodName := ⟨RX2, "beginRoute", "(LGreyRoute$Town;LGreyRoute$State;I)V"⟩
abbrev cX2_gatherPulls : ByteArray := prog_4_method_4_code
def yX2_gatherPulls : MethodName := ⟨RX2, "gatherPulls", "(LGreyRoute$State;I)V"⟩
abbrev cX2_go : ByteArray := prog_4_method_5_code
def yX2_go : MethodName := ⟨RX2, "go", "(I)V"⟩
abbrev cX2_pass : ByteArray := prog_4_method_6_code
def yX2_pass : MethodName := ⟨RX2, "pass", "()V"⟩
abbrev cX2_leavesRoute : ByteArray := prog_4_method_7_code
def yX2_leavesRoute : MethodName := ⟨RX2, "leavesRoute", "(I)Z"⟩
abbrev cX2_leaveIn : ByteArray := prog_4_method_8_code
def yX2_leaveIn : MethodName := ⟨RX2, "leaveIn", "(LGreyRoute$State;)V"⟩
abbrev cX2_goRound : ByteArray := prog_4_method_9_code
def yX2_goRound : MethodName := ⟨RX2, "goRound", "()V"⟩
abbrev cX2_standingAt : ByteArray := prog_4_method_10_code
def yX2_standingAt : MethodName := ⟨RX2, "standingAt", "(I)I"⟩
abbrev cX2_standsWithin : ByteArray := prog_4_method_11_code
def yX2_standsWithin : MethodName := ⟨RX2, "standsWithin", "(ILGreyRoute$State;I)Z"⟩
abbrev cX2_comesBy : ByteArray := prog_4_method_12_code
def yX2_comesBy : MethodName := ⟨RX2, "comesBy", "(LGreyRoute$Town;LGreyRoute$State;II)Z"⟩
abbrev cX2_sumByPlace : ByteArray := prog_4_method_13_code
def yX2_sumByPlace : MethodName := ⟨RX2, "sumByPlace", "()V"⟩
abbrev cX2_seenFrom : ByteArray := prog_4_method_14_code
def yX2_seenFrom : MethodName := ⟨RX2, "seenFrom", "(I)I"⟩
def RX3 : String := "GreyRoute$Past"
def TX3 : u_T := fun k => match k with
  | 0 => ("GreyRoute$Past", "keptYears", "[I", true)
  | 1 => ("GreyRoute$Past", "keptSteps", "[I", true)
  | 2 => ("GreyRoute$Past", "keptTimes", "[I", true)
  | 3 => ("GreyRoute$Past", "acts", "[LGreyRoute$State;", true)
  | 4 => ("GreyRoute$Past", "nextAct", "I", false)
  | _ => ("GreyRoute$Past", "actCount", "I", false)
def tyX3 : Nat → FieldType := fun k => match k with
  | 0 => .array .int
  | 1 => .array .int
  | 2 => .array .int
  | 3 => .array (.object "GreyRoute$State")
  | 4 => .int
  | _ => .int
theorem nmX3 : ∀ a, a < 6 → ∀ b, b < 6 → a ≠ b → (TX3 a).2.1 ≠ (TX3 b).2.1 := by decide +kernel
theorem tyX3_ok : ∀ k, k < 6 → parseFieldDescriptor (TX3 k).2.2.1 = some (tyX3 k) := by decide +kernel
abbrev cX3_init : ByteArray := prog_5_method_1_code
def yX3_init : MethodName := ⟨RX3, "<init>", "()V"⟩
abbrev cX3_forgetActs : ByteArray := prog_5_method_2_code
def yX3_forgetActs : MethodName := ⟨RX3, "forgetActs", "()V"⟩
abbrev cX3_remember : ByteArray := prog_5_method_3_code
def yX3_remember : MethodName := ⟨RX3, "remember", "(LGreyRoute$State;)V"⟩
abbrev cX3_takeBack : ByteArray := prog_5_method_4_code
def yX3_takeBack : MethodName := ⟨RX3, "takeBack", "(LGreyRoute$State;)Z"⟩
abbrev cX3_keep : ByteArray := prog_5_method_5_code
def yX3_keep : MethodName := ⟨RX3, "keep", "(LGreyRoute$State;LGreyRoute$Pageant;)V"⟩
abbrev cX3_keptOf : ByteArray := prog_5_method_6_code
def yX3_keptOf : MethodName := ⟨RX3, "keptOf", "(II)I"⟩
def RX4 : String := "GreyRoute$Reader"
def TX4 : u_T := fun k => match k with
  | 0 => ("GreyRoute$Reader", "words", "LGreyRoute$Words;", true)
  | 1 => ("GreyRoute$Reader", "town", "LGreyRoute$Town;", false)
  | 2 => ("GreyRoute$Reader", "inClever", "Z", false)
  | 3 => ("GreyRoute$Reader", "fault", "I", false)
  | _ => ("GreyRoute$Reader", "faultAt", "I", false)
def tyX4 : Nat → FieldType := fun k => match k with
  | 0 => .object "GreyRoute$Words"
  | 1 => .object "GreyRoute$Town"
  | 2 => .boolean
  | 3 => .int
  | _ => .int
theorem nmX4 : ∀ a, a < 5 → ∀ b, b < 5 → a ≠ b → (TX4 a).2.1 ≠ (TX4 b).2.1 := by decide +kernel
theorem tyX4_ok : ∀ k, k < 5 → parseFieldDescriptor (TX4 k).2.2.1 = some (tyX4 k) := by decide +kernel
abbrev cX4_init : ByteArray := prog_6_method_1_code
def yX4_init : MethodName := ⟨RX4, "<init>", "(LGreyRoute$Words;LGreyRoute$Town;)V"⟩
abbrev cX4_read : ByteArray := prog_6_method_2_code
def yX4_read : MethodName := ⟨RX4, "read", "(LGreyRoute$Town;)Z"⟩
abbrev cX4_wrong : ByteArray := prog_6_method_3_code
def yX4_wrong : MethodName := ⟨RX4, "wrong", "(II)Z"⟩
abbrev cX4_unfit : ByteArray := prog_6_method_4_code
def yX4_unfit : MethodName := ⟨RX4, "unfit", "()Z"⟩
abbrev cX4_readStatement : ByteArray := prog_6_method_5_code
def yX4_readStatement : MethodName := ⟨RX4, "readStatement", "()Z"⟩
abbrev cX4_another : ByteArray := prog_6_method_6_code
def yX4_another : MethodName := ⟨RX4, "another", "(Z)Z"⟩
abbrev cX4_readPlace : ByteArray := prog_6_method_7_code
def yX4_readPlace : MethodName := ⟨RX4, "readPlace", "()Z"⟩
abbrev cX4_readStreet : ByteArray := prog_6_method_8_code
def yX4_readStreet : MethodName := ⟨RX4, "readStreet", "()Z"⟩
abbrev cX4_readStep : ByteArray := prog_6_method_9_code
def yX4_readStep : MethodName := ⟨RX4, "readStep", "()Z"⟩
abbrev cX4_readThing : ByteArray := prog_6_method_10_code
def yX4_readThing : MethodName := ⟨RX4, "readThing", "()Z"⟩
abbrev cX4_beginCode : ByteArray := prog_6_method_11_code
def yX4_beginCode : MethodName := ⟨RX4, "beginCode", "(Z)Z"⟩
abbrev cX4_endCode : ByteArray := prog_6_method_12_code
def yX4_endCode : MethodName := ⟨RX4, "endCode", "()Z"⟩
abbrev cX4_readHeat : ByteArray := prog_6_method_13_code
def yX4_readHeat : MethodName := ⟨RX4, "readHeat", "()Z"⟩
abbrev cX4_readHot : ByteArray := prog_6_method_14_code
def yX4_readHot : MethodName := ⟨RX4, "readHot", "()Z"⟩
abbrev cX4_newName : ByteArray := prog_6_method_15_code
def yX4_newName : MethodName := ⟨RX4, "newName", "()I"⟩
abbrev cX4_knownPlace : ByteArray := prog_6_method_16_code
def yX4_knownPlace : MethodName := ⟨RX4, "knownPlace", "()I"⟩
abbrev cX4_number : ByteArray := prog_6_method_17_code
def yX4_number : MethodName := ⟨RX4, "number", "(II)I"⟩
abbrev cX4_takeOwn : ByteArray := prog_6_method_18_code
def yX4_takeOwn : MethodName := ⟨RX4, "takeOwn", "(I)Z"⟩
abbrev cX4_takeSign : ByteArray := prog_6_method_19_code
def yX4_takeSign : MethodName := ⟨RX4, "takeSign", "(I)Z"⟩
abbrev cX4_takeOpening : ByteArray := prog_6_method_20_code
def yX4_takeOpening : MethodName := ⟨RX4, "takeOpening", "(ZI)Z"⟩
abbrev cX4_readSum : ByteArray := prog_6_method_21_code
def yX4_readSum : MethodName := ⟨RX4, "readSum", "(I)Z"⟩
abbrev cX4_readProduct : ByteArray := prog_6_method_22_code
def yX4_readProduct : MethodName := ⟨RX4, "readProduct", "(I)Z"⟩
abbrev cX4_readPart : ByteArray := prog_6_method_23_code
def yX4_readPart : MethodName := ⟨RX4, "readPart", "(I)Z"⟩
abbrev cX4_readFigure : ByteArray := prog_6_method_24_code
def yX4_readFigure : MethodName := ⟨RX4, "readFigure", "(IZ)Z"⟩
abbrev cX4_readOfTwo : ByteArray := prog_6_method_25_code
def yX4_readOfTwo : MethodName := ⟨RX4, "readOfTwo", "(II)Z"⟩
abbrev cX4_readIf : ByteArray := prog_6_method_26_code
def yX4_readIf : MethodName := ⟨RX4, "readIf", "(I)Z"⟩
abbrev cX4_readTest : ByteArray := prog_6_method_27_code
def yX4_readTest : MethodName := ⟨RX4, "readTest", "(I)Z"⟩
abbrev cX4_readBoth : ByteArray := prog_6_method_28_code
def yX4_readBoth : MethodName := ⟨RX4, "readBoth", "(I)Z"⟩
abbrev cX4_readFact : ByteArray := prog_6_method_29_code
def yX4_readFact : MethodName := ⟨RX4, "readFact", "(I)Z"⟩
abbrev cX4_readComparison : ByteArray := prog_6_method_30_code
def yX4_readComparison : MethodName := ⟨RX4, "readComparison", "(I)Z"⟩
def RX5 : String := "GreyRoute$Route"
def TX5 : u_T := fun k => match k with
  | 0 => ("GreyRoute$Route", "spots", "[I", true)
  | 1 => ("GreyRoute$Route", "minutes", "[I", true)
  | _ => ("GreyRoute$Route", "count", "I", false)
def tyX5 : Nat → FieldType := fun k => match k with
  | 0 => .array .int
  | 1 => .array .int
  | _ => .int
theorem nmX5 : ∀ a, a < 3 → ∀ b, b < 3 → a ≠ b → (TX5 a).2.1 ≠ (TX5 b).2.1 := by decide +kernel
theorem tyX5_ok : ∀ k, k < 3 → parseFieldDescriptor (TX5 k).2.2.1 = some (tyX5 k) := by decide +kernel
abbrev cX5_init : ByteArray := prog_7_method_1_code
def yX5_init : MethodName := ⟨RX5, "<init>", "()V"⟩
abbrev cX5_copy : ByteArray := prog_7_method_2_code
def yX5_copy : MethodName := ⟨RX5, "copy", "(LGreyRoute$Route;)V"⟩
abbrev cX5_isLike : ByteArray := prog_7_method_3_code
def yX5_isLike : MethodName := ⟨RX5, "isLike", "(LGreyRoute$Route;)Z"⟩
abbrev cX5_append : ByteArray := prog_7_method_4_code
def yX5_append : MethodName := ⟨RX5, "append", "(II)Z"⟩
abbrev cX5_cutTo : ByteArray := prog_7_method_5_code
def yX5_cutTo : MethodName := ⟨RX5, "cutTo", "(I)V"⟩
abbrev cX5_lastSpot : ByteArray := prog_7_method_6_code
def yX5_lastSpot : MethodName := ⟨RX5, "lastSpot", "()I"⟩
abbrev cX5_holds : ByteArray := prog_7_method_7_code
def yX5_holds : MethodName := ⟨RX5, "holds", "(I)Z"⟩
abbrev cX5_beenAhead : ByteArray := prog_7_method_8_code
def yX5_beenAhead : MethodName := ⟨RX5, "beenAhead", "(I)I"⟩
abbrev cX5_insert : ByteArray := prog_7_method_9_code
def yX5_insert : MethodName := ⟨RX5, "insert", "(I[II)Z"⟩
abbrev cX5_leaveOutFirstLoop : ByteArray := prog_7_method_10_code
def yX5_leaveOutFirstLoop : MethodName := ⟨RX5, "leaveOutFirstLoop", "()V"⟩
def RX6 : String := "GreyRoute$State"
def TX6 : u_T := fun k => match k with
  | 0 => ("GreyRoute$State", "year", "I", false)
  | 1 => ("GreyRoute$State", "shutBits", "I", false)
  | 2 => ("GreyRoute$State", "thingSpots", "[I", true)
  | 3 => ("GreyRoute$State", "route", "LGreyRoute$Route;", true)
  | _ => ("GreyRoute$State", "keptCount", "I", false)
def tyX6 : Nat → FieldType := fun k => match k with
  | 0 => .int
  | 1 => .int
  | 2 => .array .int
  | 3 => .object "GreyRoute$Route"
  | _ => .int
theorem nmX6 : ∀ a, a < 5 → ∀ b, b < 5 → a ≠ b → (TX6 a).2.1 ≠ (TX6 b).2.1 := by decide +kernel
theorem tyX6_ok : ∀ k, k < 5 → parseFieldDescriptor (TX6 k).2.2.1 = some (tyX6 k) := by decide +kernel
abbrev cX6_init : ByteArray := prog_8_method_1_code
def yX6_init : MethodName := ⟨RX6, "<init>", "()V"⟩
abbrev cX6_beginIn : ByteArray := prog_8_method_2_code
def yX6_beginIn : MethodName := ⟨RX6, "beginIn", "(LGreyRoute$Town;)V"⟩
abbrev cX6_copy : ByteArray := prog_8_method_3_code
def yX6_copy : MethodName := ⟨RX6, "copy", "(LGreyRoute$State;)V"⟩
abbrev cX6_write : ByteArray := prog_8_method_4_code
def yX6_write : MethodName := ⟨RX6, "write", "(LGreyRoute$Bytes;LGreyRoute$Town;)V"⟩
abbrev cX6_checkByte : ByteArray := prog_8_method_5_code
def yX6_checkByte : MethodName := ⟨RX6, "checkByte", "(LGreyRoute$Bytes;I)I"⟩
abbrev cX6_isImage : ByteArray := prog_8_method_6_code
def yX6_isImage : MethodName := ⟨RX6, "isImage", "(LGreyRoute$Bytes;LGreyRoute$Town;)Z"⟩
abbrev cX6_yearIn : ByteArray := prog_8_method_7_code
def yX6_yearIn : MethodName := ⟨RX6, "yearIn", "(LGreyRoute$Bytes;)I"⟩
abbrev cX6_areSteps : ByteArray := prog_8_method_8_code
def yX6_areSteps : MethodName := ⟨RX6, "areSteps", "(LGreyRoute$Bytes;LGreyRoute$Town;II)Z"⟩
abbrev cX6_take : ByteArray := prog_8_method_9_code
def yX6_take : MethodName := ⟨RX6, "take", "(LGreyRoute$Bytes;LGreyRoute$Town;)V"⟩
def RX7 : String := "GreyRoute$Sums"
def TX7 : u_T := fun k => match k with
  | 0 => ("GreyRoute$Sums", "waiting", "[I", true)
  | _ => ("GreyRoute$Sums", "figures", "[I", true)
def tyX7 : Nat → FieldType := fun k => match k with
  | 0 => .array .int
  | _ => .array .int
theorem nmX7 : ∀ a, a < 2 → ∀ b, b < 2 → a ≠ b → (TX7 a).2.1 ≠ (TX7 b).2.1 := by decide +kernel
theorem tyX7_ok : ∀ k, k < 2 → parseFieldDescriptor (TX7 k).2.2.1 = some (tyX7 k) := by decide +kernel
abbrev cX7_init : ByteArray := prog_9_method_1_code
def yX7_init : MethodName := ⟨RX7, "<init>", "()V"⟩
abbrev cX7_codeOf : ByteArray := prog_9_method_2_code
def yX7_codeOf : MethodName := ⟨RX7, "codeOf", "(II)I"⟩
abbrev cX7_work : ByteArray := prog_9_method_3_code
def yX7_work : MethodName := ⟨RX7, "work", "([II)I"⟩
abbrev cX7_figure : ByteArray := prog_9_method_4_code
def yX7_figure : MethodName := ⟨RX7, "figure", "(I)I"⟩
abbrev cX7_join : ByteArray := prog_9_method_5_code
def yX7_join : MethodName := ⟨RX7, "join", "(II)I"⟩
abbrev cX7_ofTwo : ByteArray := prog_9_method_6_code
def yX7_ofTwo : MethodName := ⟨RX7, "ofTwo", "(III)I"⟩
abbrev cX7_limited : ByteArray := prog_9_method_7_code
def yX7_limited : MethodName := ⟨RX7, "limited", "(J)I"⟩
def RX8 : String := "GreyRoute$Town"
def TX8 : u_T := fun k => match k with
  | 0 => ("GreyRoute$Town", "statements", "I", false)
  | 1 => ("GreyRoute$Town", "placeCount", "I", false)
  | 2 => ("GreyRoute$Town", "placeNames", "[I", true)
  | 3 => ("GreyRoute$Town", "streetCount", "I", false)
  | 4 => ("GreyRoute$Town", "streetFrom", "[I", true)
  | 5 => ("GreyRoute$Town", "streetTo", "[I", true)
  | 6 => ("GreyRoute$Town", "streetPaces", "[I", true)
  | 7 => ("GreyRoute$Town", "links", "[I", true)
  | 8 => ("GreyRoute$Town", "thingCount", "I", false)
  | 9 => ("GreyRoute$Town", "thingNames", "[I", true)
  | 10 => ("GreyRoute$Town", "thingSpots", "[I", true)
  | 11 => ("GreyRoute$Town", "thingPulls", "[I", true)
  | 12 => ("GreyRoute$Town", "told", "LGreyRoute$Route;", true)
  | 13 => ("GreyRoute$Town", "heat", "I", false)
  | 14 => ("GreyRoute$Town", "hot", "I", false)
  | 15 => ("GreyRoute$Town", "code", "[I", true)
  | 16 => ("GreyRoute$Town", "codeCount", "I", false)
  | 17 => ("GreyRoute$Town", "standsFrom", "I", false)
  | _ => ("GreyRoute$Town", "cleverFrom", "I", false)
def tyX8 : Nat → FieldType := fun k => match k with
  | 0 => .int
  | 1 => .int
  | 2 => .array .int
  | 3 => .int
  | 4 => .array .int
  | 5 => .array .int
  | 6 => .array .int
  | 7 => .array .int
  | 8 => .int
  | 9 => .array .int
  | 10 => .array .int
  | 11 => .array .int
  | 12 => .object "GreyRoute$Route"
  | 13 => .int
  | 14 => .int
  | 15 => .array .int
  | 16 => .int
  | 17 => .int
  | _ => .int
theorem nmX8 : ∀ a, a < 19 → ∀ b, b < 19 → a ≠ b → (TX8 a).2.1 ≠ (TX8 b).2.1 := by decide +kernel
theorem tyX8_ok : ∀ k, k < 19 → parseFieldDescriptor (TX8 k).2.2.1 = some (tyX8 k) := by decide +kernel
abbrev cX8_init : ByteArray := prog_10_method_1_code
def yX8_init : MethodName := ⟨RX8, "<init>", "()V"⟩
abbrev cX8_clear : ByteArray := prog_10_method_2_code
def yX8_clear : MethodName := ⟨RX8, "clear", "()V"⟩
abbrev cX8_hasStands : ByteArray := prog_10_method_3_code
def yX8_hasStands : MethodName := ⟨RX8, "hasStands", "()Z"⟩
abbrev cX8_hasClever : ByteArray := prog_10_method_4_code
def yX8_hasClever : MethodName := ⟨RX8, "hasClever", "()Z"⟩
abbrev cX8_addPlace : ByteArray := prog_10_method_5_code
def yX8_addPlace : MethodName := ⟨RX8, "addPlace", "(I)Z"⟩
abbrev cX8_addStreet : ByteArray := prog_10_method_6_code
def yX8_addStreet : MethodName := ⟨RX8, "addStreet", "(III)Z"⟩
abbrev cX8_addThing : ByteArray := prog_10_method_7_code
def yX8_addThing : MethodName := ⟨RX8, "addThing", "(III)Z"⟩
abbrev cX8_addCode : ByteArray := prog_10_method_8_code
def yX8_addCode : MethodName := ⟨RX8, "addCode", "(II)V"⟩
abbrev cX8_placeNamed : ByteArray := prog_10_method_9_code
def yX8_placeNamed : MethodName := ⟨RX8, "placeNamed", "(I)I"⟩
abbrev cX8_isNamed : ByteArray := prog_10_method_10_code
def yX8_isNamed : MethodName := ⟨RX8, "isNamed", "(I)Z"⟩
abbrev cX8_isSpot : ByteArray := prog_10_method_11_code
def yX8_isSpot : MethodName := ⟨RX8, "isSpot", "(I)Z"⟩
abbrev cX8_streetBetween : ByteArray := prog_10_method_12_code
def yX8_streetBetween : MethodName := ⟨RX8, "streetBetween", "(II)I"⟩
abbrev cX8_pacesBetween : ByteArray := prog_10_method_13_code
def yX8_pacesBetween : MethodName := ⟨RX8, "pacesBetween", "(II)I"⟩
abbrev cX8_canFollow : ByteArray := prog_10_method_14_code
def yX8_canFollow : MethodName := ⟨RX8, "canFollow", "(LGreyRoute$Route;I)Z"⟩
def RX9 : String := "GreyRoute$Ways"
def TX9 : u_T := fun k => match k with
  | 0 => ("GreyRoute$Ways", "direct", "[I", true)
  | _ => ("GreyRoute$Ways", "shortest", "[I", true)
def tyX9 : Nat → FieldType := fun k => match k with
  | 0 => .array .int
  | _ => .array .int
theorem nmX9 : ∀ a, a < 2 → ∀ b, b < 2 → a ≠ b → (TX9 a).2.1 ≠ (TX9 b).2.1 := by decide +kernel
theorem tyX9_ok : ∀ k, k < 2 → parseFieldDescriptor (TX9 k).2.2.1 = some (tyX9 k) := by decide +kernel
abbrev cX9_init : ByteArray := prog_11_method_1_code
def yX9_init : MethodName := ⟨RX9, "<init>", "()V"⟩
abbrev cX9_measure : ByteArray := prog_11_method_2_code
def yX9_measure : MethodName := ⟨RX9, "measure", "(LGreyRoute$Town;I)V"⟩
abbrev cX9_shortenOver : ByteArray := prog_11_method_3_code
def yX9_shortenOver : MethodName := ⟨RX9, "shortenOver", "(II)V"⟩
abbrev cX9_isSpot : ByteArray := prog_11_method_4_code
def yX9_isSpot : MethodName := ⟨RX9, "isSpot", "(I)Z"⟩
abbrev cX9_paces : ByteArray := prog_11_method_5_code
def yX9_paces : MethodName := ⟨RX9, "paces", "(II)I"⟩
abbrev cX9_next : ByteArray := prog_11_method_6_code
def yX9_next : MethodName := ⟨RX9, "next", "(II)I"⟩
abbrev cX9_between : ByteArray := prog_11_method_7_code
def yX9_between : MethodName := ⟨RX9, "between", "(II[I)I"⟩
def RX10 : String := "GreyRoute$Words"
def TX10 : u_T := fun k => match k with
  | 0 => ("GreyRoute$Words", "text", "LGreyRoute$Bytes;", true)
  | 1 => ("GreyRoute$Words", "ownWords", "[I", true)
  | 2 => ("GreyRoute$Words", "at", "I", false)
  | 3 => ("GreyRoute$Words", "kind", "I", false)
  | 4 => ("GreyRoute$Words", "value", "I", false)
  | 5 => ("GreyRoute$Words", "start", "I", false)
  | _ => ("GreyRoute$Words", "spot", "I", false)
def tyX10 : Nat → FieldType := fun k => match k with
  | 0 => .object "GreyRoute$Bytes"
  | 1 => .array .int
  | 2 => .int
  | 3 => .int
  | 4 => .int
  | 5 => .int
  | _ => .int
theorem nmX10 : ∀ a, a < 7 → ∀ b, b < 7 → a ≠ b → (TX10 a).2.1 ≠ (TX10 b).2.1 := by decide +kernel
theorem tyX10_ok : ∀ k, k < 7 → parseFieldDescriptor (TX10 k).2.2.1 = some (tyX10 k) := by decide +kernel
abbrev cX10_init : ByteArray := prog_12_method_1_code
def yX10_init : MethodName := ⟨RX10, "<init>", "(LGreyRoute$Bytes;)V"⟩
abbrev cX10_packOwnWords : ByteArray := prog_12_method_2_code
def yX10_packOwnWords : MethodName := ⟨RX10, "packOwnWords", "()V"⟩
abbrev cX10_filledUp : ByteArray := prog_12_method_3_code
def yX10_filledUp : MethodName := ⟨RX10, "filledUp", "(II)I"⟩
abbrev cX10_letterNumber : ByteArray := prog_12_method_4_code
def yX10_letterNumber : MethodName := ⟨RX10, "letterNumber", "(I)I"⟩
abbrev cX10_letterOf : ByteArray := prog_12_method_5_code
def yX10_letterOf : MethodName := ⟨RX10, "letterOf", "(II)I"⟩
abbrev cX10_isLetter : ByteArray := prog_12_method_6_code
def yX10_isLetter : MethodName := ⟨RX10, "isLetter", "(I)Z"⟩
abbrev cX10_isDigit : ByteArray := prog_12_method_7_code
def yX10_isDigit : MethodName := ⟨RX10, "isDigit", "(I)Z"⟩
abbrev cX10_rewind : ByteArray := prog_12_method_8_code
def yX10_rewind : MethodName := ⟨RX10, "rewind", "()V"⟩
abbrev cX10_advance : ByteArray := prog_12_method_9_code
def yX10_advance : MethodName := ⟨RX10, "advance", "()V"⟩
abbrev cX10_isWordOrNumber : ByteArray := prog_12_method_10_code
def yX10_isWordOrNumber : MethodName := ⟨RX10, "isWordOrNumber", "()Z"⟩
abbrev cX10_takeWord : ByteArray := prog_12_method_11_code
def yX10_takeWord : MethodName := ⟨RX10, "takeWord", "()V"⟩
abbrev cX10_findOwnWord : ByteArray := prog_12_method_12_code
def yX10_findOwnWord : MethodName := ⟨RX10, "findOwnWord", "()V"⟩
abbrev cX10_takeNumber : ByteArray := prog_12_method_13_code
def yX10_takeNumber : MethodName := ⟨RX10, "takeNumber", "()V"⟩
abbrev cX10_isOwn : ByteArray := prog_12_method_14_code
def yX10_isOwn : MethodName := ⟨RX10, "isOwn", "(I)Z"⟩
abbrev cX10_isSign : ByteArray := prog_12_method_15_code
def yX10_isSign : MethodName := ⟨RX10, "isSign", "(I)Z"⟩
def RX11 : String := "GreyRoute"
def TX11 : u_T := fun k => match k with
  | 0 => ("GreyRoute", "tape", "LGreyRoute$Bytes;", true)
  | 1 => ("GreyRoute", "picture", "LGreyRoute$Bytes;", true)
  | 2 => ("GreyRoute", "now", "LGreyRoute$State;", true)
  | 3 => ("GreyRoute", "past", "LGreyRoute$Past;", true)
  | 4 => ("GreyRoute", "rows", "LGreyRoute$Half;", true)
  | 5 => ("GreyRoute", "refused", "[I", true)
  | 6 => ("GreyRoute", "reader", "LGreyRoute$Reader;", true)
  | 7 => ("GreyRoute", "pageant", "LGreyRoute$Pageant;", true)
  | 8 => ("GreyRoute", "theTown", "LGreyRoute$Town;", false)
  | 9 => ("GreyRoute", "spareTown", "LGreyRoute$Town;", false)
  | 10 => ("GreyRoute", "latestFault", "I", false)
  | 11 => ("GreyRoute", "latestFaultAt", "I", false)
  | _ => ("GreyRoute", "chanceSeed", "I", false)
def tyX11 : Nat → FieldType := fun k => match k with
  | 0 => .object "GreyRoute$Bytes"
  | 1 => .object "GreyRoute$Bytes"
  | 2 => .object "GreyRoute$State"
  | 3 => .object "GreyRoute$Past"
  | 4 => .object "GreyRoute$Half"
  | 5 => .array .int
  | 6 => .object "GreyRoute$Reader"
  | 7 => .object "GreyRoute$Pageant"
  | 8 => .object "GreyRoute$Town"
  | 9 => .object "GreyRoute$Town"
  | 10 => .int
  | 11 => .int
  | _ => .int
theorem nmX11 : ∀ a, a < 13 → ∀ b, b < 13 → a ≠ b → (TX11 a).2.1 ≠ (TX11 b).2.1 := by decide +kernel
theorem tyX11_ok : ∀ k, k < 13 → parseFieldDescriptor (TX11 k).2.2.1 = some (tyX11 k) := by decide +kernel
abbrev cX11_init : ByteArray := prog_1_method_1_code
def yX11_init : MethodName := ⟨RX11, "<init>", "()V"⟩
abbrev cX11_feed : ByteArray := prog_1_method_2_code
def yX11_feed : MethodName := ⟨RX11, "feed", "(IIIII)I"⟩
abbrev cX11_end : ByteArray := prog_1_method_3_code
def yX11_end : MethodName := ⟨RX11, "end", "(I)Z"⟩
abbrev cX11_town : ByteArray := prog_1_method_4_code
def yX11_town : MethodName := ⟨RX11, "town", "()I"⟩
abbrev cX11_fault : ByteArray := prog_1_method_5_code
def yX11_fault : MethodName := ⟨RX11, "fault", "(I)I"⟩
abbrev cX11_has : ByteArray := prog_1_method_6_code
def yX11_has : MethodName := ⟨RX11, "has", "(I)I"⟩
abbrev cX11_letter : ByteArray := prog_1_method_7_code
def yX11_letter : MethodName := ⟨RX11, "letter", "(III)I"⟩
abbrev cX11_street : ByteArray := prog_1_method_8_code
def yX11_street : MethodName := ⟨RX11, "street", "(II)I"⟩
abbrev cX11_way : ByteArray := prog_1_method_9_code
def yX11_way : MethodName := ⟨RX11, "way", "(II)I"⟩
abbrev cX11_thing : ByteArray := prog_1_method_10_code
def yX11_thing : MethodName := ⟨RX11, "thing", "(II)I"⟩
abbrev cX11_step : ByteArray := prog_1_method_11_code
def yX11_step : MethodName := ⟨RX11, "step", "(II)I"⟩
abbrev cX11_year : ByteArray := prog_1_method_12_code
def yX11_year : MethodName := ⟨RX11, "year", "(I)I"⟩
abbrev cX11_goes : ByteArray := prog_1_method_13_code
def yX11_goes : MethodName := ⟨RX11, "goes", "(II)I"⟩
abbrev cX11_wall : ByteArray := prog_1_method_14_code
def yX11_wall : MethodName := ⟨RX11, "wall", "()I"⟩
abbrev cX11_away : ByteArray := prog_1_method_15_code
def yX11_away : MethodName := ⟨RX11, "away", "(I)I"⟩
abbrev cX11_by : ByteArray := prog_1_method_16_code
def yX11_by : MethodName := ⟨RX11, "by", "(I)I"⟩
abbrev cX11_seats : ByteArray := prog_1_method_17_code
def yX11_seats : MethodName := ⟨RX11, "seats", "(I)I"⟩
abbrev cX11_later : ByteArray := prog_1_method_18_code
def yX11_later : MethodName := ⟨RX11, "later", "(II)I"⟩
abbrev cX11_missed : ByteArray := prog_1_method_19_code
def yX11_missed : MethodName := ⟨RX11, "missed", "(I)I"⟩
abbrev cX11_held : ByteArray := prog_1_method_20_code
def yX11_held : MethodName := ⟨RX11, "held", "()I"⟩
abbrev cX11_half : ByteArray := prog_1_method_21_code
def yX11_half : MethodName := ⟨RX11, "half", "()I"⟩
abbrev cX11_filled : ByteArray := prog_1_method_22_code
def yX11_filled : MethodName := ⟨RX11, "filled", "(I)I"⟩
abbrev cX11_filling : ByteArray := prog_1_method_23_code
def yX11_filling : MethodName := ⟨RX11, "filling", "(II)I"⟩
abbrev cX11_asked : ByteArray := prog_1_method_24_code
def yX11_asked : MethodName := ⟨RX11, "asked", "(II)I"⟩
abbrev cX11_years : ByteArray := prog_1_method_25_code
def yX11_years : MethodName := ⟨RX11, "years", "(I)I"⟩
abbrev cX11_chance : ByteArray := prog_1_method_26_code
def yX11_chance : MethodName := ⟨RX11, "chance", "(I)I"⟩
abbrev cX11_shut : ByteArray := prog_1_method_27_code
def yX11_shut : MethodName := ⟨RX11, "shut", "(II)Z"⟩
abbrev cX11_move : ByteArray := prog_1_method_28_code
def yX11_move : MethodName := ⟨RX11, "move", "(II)Z"⟩
abbrev cX11_teach : ByteArray := prog_1_method_29_code
def yX11_teach : MethodName := ⟨RX11, "teach", "(II)Z"⟩
abbrev cX11_forget : ByteArray := prog_1_method_30_code
def yX11_forget : MethodName := ⟨RX11, "forget", "()Z"⟩
abbrev cX11_undo : ByteArray := prog_1_method_31_code
def yX11_undo : MethodName := ⟨RX11, "undo", "()Z"⟩
abbrev cX11_seed : ByteArray := prog_1_method_32_code
def yX11_seed : MethodName := ⟨RX11, "seed", "(I)Z"⟩
abbrev cX11_kept : ByteArray := prog_1_method_33_code
def yX11_kept : MethodName := ⟨RX11, "kept", "(II)I"⟩
abbrev cX11_image : ByteArray := prog_1_method_34_code
def yX11_image : MethodName := ⟨RX11, "image", "()I"⟩
abbrev cX11_octet : ByteArray := prog_1_method_35_code
def yX11_octet : MethodName := ⟨RX11, "octet", "(I)I"⟩
abbrev cX11_on : ByteArray := prog_1_method_36_code
def yX11_on : MethodName := ⟨RX11, "on", "()Z"⟩
abbrev cX11_status : ByteArray := prog_1_method_37_code
def yX11_status : MethodName := ⟨RX11, "status", "(I)I"⟩
abbrev cX11_refuse : ByteArray := prog_1_method_38_code
def yX11_refuse : MethodName := ⟨RX11, "refuse", "(I)I"⟩
abbrev cX11_deny : ByteArray := prog_1_method_39_code
def yX11_deny : MethodName := ⟨RX11, "deny", "(I)Z"⟩
abbrev cX11_isPlace : ByteArray := prog_1_method_40_code
def yX11_isPlace : MethodName := ⟨RX11, "isPlace", "(I)Z"⟩
abbrev cX11_isStreet : ByteArray := prog_1_method_41_code
def yX11_isStreet : MethodName := ⟨RX11, "isStreet", "(I)Z"⟩
abbrev cX11_isThing : ByteArray := prog_1_method_42_code
def yX11_isThing : MethodName := ⟨RX11, "isThing", "(I)Z"⟩
abbrev cX11_toldAsKept : ByteArray := prog_1_method_43_code
def yX11_toldAsKept : MethodName := ⟨RX11, "toldAsKept", "()I"⟩
abbrev cX11_canPass : ByteArray := prog_1_method_44_code
def yX11_canPass : MethodName := ⟨RX11, "canPass", "(I)Z"⟩
abbrev cX11_goThisYear : ByteArray := prog_1_method_45_code
def yX11_goThisYear : MethodName := ⟨RX11, "goThisYear", "()V"⟩
abbrev cX11_passOneYear : ByteArray := prog_1_method_46_code
def yX11_passOneYear : MethodName := ⟨RX11, "passOneYear", "(I)V"⟩
abbrev cX11_draw : ByteArray := prog_1_method_47_code
def yX11_draw : MethodName := ⟨RX11, "draw", "(I)I"⟩
def RX12 : String := "GreyRouteModel"
def TX12 : u_T := fun k => match k with
  | 0 => ("GreyRouteModel", "tape", "[I", true)
  | 1 => ("GreyRouteModel", "taped", "I", false)
  | 2 => ("GreyRouteModel", "size", "I", false)
  | 3 => ("GreyRouteModel", "sign", "I", false)
  | 4 => ("GreyRouteModel", "signAt", "I", false)
  | 5 => ("GreyRouteModel", "signEnd", "I", false)
  | 6 => ("GreyRouteModel", "value", "I", false)
  | 7 => ("GreyRouteModel", "word", "J", false)
  | 8 => ("GreyRouteModel", "faultKind", "I", false)
  | 9 => ("GreyRouteModel", "faultPlace", "I", false)
  | 10 => ("GreyRouteModel", "toldKind", "I", false)
  | 11 => ("GreyRouteModel", "toldPlace", "I", false)
  | 12 => ("GreyRouteModel", "lexAt", "I", false)
  | 13 => ("GreyRouteModel", "bank", "I", false)
  | 14 => ("GreyRouteModel", "places", "[I", true)
  | 15 => ("GreyRouteModel", "streets", "[I", true)
  | 16 => ("GreyRouteModel", "fromOf", "[I", true)
  | 17 => ("GreyRouteModel", "toOf", "[I", true)
  | 18 => ("GreyRouteModel", "pacesOf", "[I", true)
  | 19 => ("GreyRouteModel", "streetAt", "[I", true)
  | 20 => ("GreyRouteModel", "steps", "[I", true)
  | 21 => ("GreyRouteModel", "stepTold", "[I", true)
  | 22 => ("GreyRouteModel", "minutesTold", "[I", true)
  | 23 => ("GreyRouteModel", "things", "[I", true)
  | 24 => ("GreyRouteModel", "thingTold", "[I", true)
  | 25 => ("GreyRouteModel", "pullOf", "[I", true)
  | 26 => ("GreyRouteModel", "heatTold", "[I", true)
  | 27 => ("GreyRouteModel", "hotTold", "[I", true)
  | 28 => ("GreyRouteModel", "sumFrom", "[I", true)
  | 29 => ("GreyRouteModel", "sumBehind", "[I", true)
  | 30 => ("GreyRouteModel", "codeSort", "[I", true)
  | 31 => ("GreyRouteModel", "codeValue", "[I", true)
  | 32 => ("GreyRouteModel", "placeName", "[J", true)
  | 33 => ("GreyRouteModel", "thingName", "[J", true)
  | 34 => ("GreyRouteModel", "codes", "I", false)
  | 35 => ("GreyRouteModel", "in", "I", false)
  | 36 => ("GreyRouteModel", "isClever", "Z", false)
  | 37 => ("GreyRouteModel", "frame", "[I", true)
  | 38 => ("GreyRouteModel", "phase", "[I", true)
  | 39 => ("GreyRouteModel", "begins", "[Z", true)
  | 40 => ("GreyRouteModel", "pair", "[I", true)
  | 41 => ("GreyRouteModel", "base", "[I", true)
  | 42 => ("GreyRouteModel", "deep", "I", false)
  | 43 => ("GreyRouteModel", "open", "I", false)
  | 44 => ("GreyRouteModel", "ops", "[I", true)
  | 45 => ("GreyRouteModel", "opMany", "I", false)
  | 46 => ("GreyRouteModel", "operand", "Z", false)
  | 47 => ("GreyRouteModel", "refused", "[I", true)
  | 48 => ("GreyRouteModel", "yearOf", "[I", true)
  | 49 => ("GreyRouteModel", "shutOf", "[I", true)
  | 50 => ("GreyRouteModel", "thingAt", "[I", true)
  | 51 => ("GreyRouteModel", "stepMany", "[I", true)
  | 52 => ("GreyRouteModel", "stepPlace", "[I", true)
  | 53 => ("GreyRouteModel", "stepMinutes", "[I", true)
  | 54 => ("GreyRouteModel", "keptMany", "[I", true)
  | 55 => ("GreyRouteModel", "keptRow", "[I", true)
  | 56 => ("GreyRouteModel", "undoFirst", "I", false)
  | 57 => ("GreyRouteModel", "undos", "I", false)
  | 58 => ("GreyRouteModel", "seeds", "J", false)
  | 59 => ("GreyRouteModel", "stack", "[J", true)
  | 60 => ("GreyRouteModel", "askedOf", "[I", true)
  | 61 => ("GreyRouteModel", "distance", "[I", true)
  | 62 => ("GreyRouteModel", "goMany", "I", false)
  | 63 => ("GreyRouteModel", "goPlace", "[I", true)
  | 64 => ("GreyRouteModel", "goTold", "[I", true)
  | 65 => ("GreyRouteModel", "goStands", "[I", true)
  | 66 => ("GreyRouteModel", "goTime", "[I", true)
  | 67 => ("GreyRouteModel", "time", "I", false)
  | 68 => ("GreyRouteModel", "wasMany", "I", false)
  | 69 => ("GreyRouteModel", "wasPlace", "[I", true)
  | 70 => ("GreyRouteModel", "wasMinutes", "[I", true)
  | 71 => ("GreyRouteModel", "rows", "I", false)
  | 72 => ("GreyRouteModel", "rowNumber", "[I", true)
  | 73 => ("GreyRouteModel", "rowPlace", "[I", true)
  | 74 => ("GreyRouteModel", "onFrom", "[J", true)
  | 75 => ("GreyRouteModel", "upTo", "[J", true)
  | 76 => ("GreyRouteModel", "out", "[I", true)
  | _ => ("GreyRouteModel", "outs", "I", false)
def tyX12 : Nat → FieldType := fun k => match k with
  | 0 => .array .int
  | 1 => .int
  | 2 => .int
  | 3 => .int
  | 4 => .int
  | 5 => .int
  | 6 => .int
  | 7 => .long
  | 8 => .int
  | 9 => .int
  | 10 => .int
  | 11 => .int
  | 12 => .int
  | 13 => .int
  | 14 => .array .int
  | 15 => .array .int
  | 16 => .array .int
  | 17 => .array .int
  | 18 => .array .int
  | 19 => .array .int
  | 20 => .array .int
  | 21 => .array .int
  | 22 => .array .int
  | 23 => .array .int
  | 24 => .array .int
  | 25 => .array .int
  | 26 => .array .int
  | 27 => .array .int
  | 28 => .array .int
  | 29 => .array .int
  | 30 => .array .int
  | 31 => .array .int
  | 32 => .array .long
  | 33 => .array .long
  | 34 => .int
  | 35 => .int
  | 36 => .boolean
  | 37 => .array .int
  | 38 => .array .int
  | 39 => .array .boolean
  | 40 => .array .int
  | 41 => .array .int
  | 42 => .int
  | 43 => .int
  | 44 => .array .int
  | 45 => .int
  | 46 => .boolean
  | 47 => .array .int
  | 48 => .array .int
  | 49 => .array .int
  | 50 => .array .int
  | 51 => .array .int
  | 52 => .array .int
  | 53 => .array .int
  | 54 => .array .int
  | 55 => .array .int
  | 56 => .int
  | 57 => .int
  | 58 => .long
  | 59 => .array .long
  | 60 => .array .int
  | 61 => .array .int
  | 62 => .int
  | 63 => .array .int
  | 64 => .array .int
  | 65 => .array .int
  | 66 => .array .int
  | 67 => .int
  | 68 => .int
  | 69 => .array .int
  | 70 => .array .int
  | 71 => .int
  | 72 => .array .int
  | 73 => .array .int
  | 74 => .array .long
  | 75 => .array .long
  | 76 => .array .int
  | _ => .int
theorem nmX12 : ∀ a, a < 78 → ∀ b, b < 78 → a ≠ b → (TX12 a).2.1 ≠ (TX12 b).2.1 := by decide +kernel
theorem tyX12_ok : ∀ k, k < 78 → parseFieldDescriptor (TX12 k).2.2.1 = some (tyX12 k) := by decide +kernel
abbrev cX12_init : ByteArray := prog_14_method_1_code
def yX12_init : MethodName := ⟨RX12, "<init>", "()V"⟩
abbrev cX12_is : ByteArray := prog_14_method_2_code
def yX12_is : MethodName := ⟨RX12, "is", "(III)Z"⟩
abbrev cX12_put : ByteArray := prog_14_method_3_code
def yX12_put : MethodName := ⟨RX12, "put", "(I)V"⟩
abbrev cX12_feed : ByteArray := prog_14_method_4_code
def yX12_feed : MethodName := ⟨RX12, "feed", "(IIIII)I"⟩
abbrev cX12_end : ByteArray := prog_14_method_5_code
def yX12_end : MethodName := ⟨RX12, "end", "(I)Z"⟩
abbrev cX12_blame : ByteArray := prog_14_method_6_code
def yX12_blame : MethodName := ⟨RX12, "blame", "(II)V"⟩
abbrev cX12_isLetter : ByteArray := prog_14_method_7_code
def yX12_isLetter : MethodName := ⟨RX12, "isLetter", "(I)Z"⟩
abbrev cX12_isDigit : ByteArray := prog_14_method_8_code
def yX12_isDigit : MethodName := ⟨RX12, "isDigit", "(I)Z"⟩
abbrev cX12_lex : ByteArray := prog_14_method_9_code
def yX12_lex : MethodName := ⟨RX12, "lex", "()V"⟩
abbrev cX12_ahead : ByteArray := prog_14_method_10_code
def yX12_ahead : MethodName := ⟨RX12, "ahead", "()V"⟩
abbrev cX12_isSign : ByteArray := prog_14_method_11_code
def yX12_isSign : MethodName := ⟨RX12, "isSign", "(I)Z"⟩
abbrev cX12_isWord : ByteArray := prog_14_method_12_code
def yX12_isWord : MethodName := ⟨RX12, "isWord", "(J)Z"⟩
abbrev cX12_must : ByteArray := prog_14_method_13_code
def yX12_must : MethodName := ⟨RX12, "must", "(I)V"⟩
abbrev cX12_isOwn : ByteArray := prog_14_method_14_code
def yX12_isOwn : MethodName := ⟨RX12, "isOwn", "(J)Z"⟩
abbrev cX12_manyOf : ByteArray := prog_14_method_15_code
def yX12_manyOf : MethodName := ⟨RX12, "manyOf", "(II)I"⟩
abbrev cX12_nameOf : ByteArray := prog_14_method_16_code
def yX12_nameOf : MethodName := ⟨RX12, "nameOf", "(III)J"⟩
abbrev cX12_named : ByteArray := prog_14_method_17_code
def yX12_named : MethodName := ⟨RX12, "named", "(IJ)I"⟩
abbrev cX12_number : ByteArray := prog_14_method_18_code
def yX12_number : MethodName := ⟨RX12, "number", "(II)I"⟩
abbrev cX12_add : ByteArray := prog_14_method_19_code
def yX12_add : MethodName := ⟨RX12, "add", "(II)V"⟩
abbrev cX12_rank : ByteArray := prog_14_method_20_code
def yX12_rank : MethodName := ⟨RX12, "rank", "(I)I"⟩
abbrev cX12_joins : ByteArray := prog_14_method_21_code
def yX12_joins : MethodName := ⟨RX12, "joins", "(I)V"⟩
abbrev cX12_holdsBack : ByteArray := prog_14_method_22_code
def yX12_holdsBack : MethodName := ⟨RX12, "holdsBack", "(I)V"⟩
abbrev cX12_pushes : ByteArray := prog_14_method_23_code
def yX12_pushes : MethodName := ⟨RX12, "pushes", "(I)V"⟩
abbrev cX12_opens : ByteArray := prog_14_method_24_code
def yX12_opens : MethodName := ⟨RX12, "opens", "(I)V"⟩
abbrev cX12_isTest : ByteArray := prog_14_method_25_code
def yX12_isTest : MethodName := ⟨RX12, "isTest", "(I)Z"⟩
abbrev cX12_operand : ByteArray := prog_14_method_26_code
def yX12_operand : MethodName := ⟨RX12, "operand", "()Z"⟩
abbrev cX12_goesOn : ByteArray := prog_14_method_27_code
def yX12_goesOn : MethodName := ⟨RX12, "goesOn", "()Z"⟩
abbrev cX12_reads : ByteArray := prog_14_method_28_code
def yX12_reads : MethodName := ⟨RX12, "reads", "(Z)V"⟩
abbrev cX12_counts : ByteArray := prog_14_method_29_code
def yX12_counts : MethodName := ⟨RX12, "counts", "(Z)Z"⟩
abbrev cX12_must_ : ByteArray := prog_14_method_30_code
def yX12_must_ : MethodName := ⟨RX12, "must", "(J)V"⟩
abbrev cX12_has2 : ByteArray := prog_14_method_31_code
def yX12_has2 : MethodName := ⟨RX12, "has2", "(II)Z"⟩
abbrev cX12_fresh : ByteArray := prog_14_method_32_code
def yX12_fresh : MethodName := ⟨RX12, "fresh", "()J"⟩
abbrev cX12_knownBut : ByteArray := prog_14_method_33_code
def yX12_knownBut : MethodName := ⟨RX12, "knownBut", "(I)I"⟩
abbrev cX12_between : ByteArray := prog_14_method_34_code
def yX12_between : MethodName := ⟨RX12, "between", "(III)I"⟩
abbrev cX12_placing : ByteArray := prog_14_method_35_code
def yX12_placing : MethodName := ⟨RX12, "placing", "()V"⟩
abbrev cX12_streeting : ByteArray := prog_14_method_36_code
def yX12_streeting : MethodName := ⟨RX12, "streeting", "()V"⟩
abbrev cX12_stepping : ByteArray := prog_14_method_37_code
def yX12_stepping : MethodName := ⟨RX12, "stepping", "()V"⟩
abbrev cX12_thinging : ByteArray := prog_14_method_38_code
def yX12_thinging : MethodName := ⟨RX12, "thinging", "()V"⟩
abbrev cX12_reading : ByteArray := prog_14_method_39_code
def yX12_reading : MethodName := ⟨RX12, "reading", "(I)V"⟩
abbrev cX12_heating : ByteArray := prog_14_method_40_code
def yX12_heating : MethodName := ⟨RX12, "heating", "(Z)V"⟩
abbrev cX12_statement : ByteArray := prog_14_method_41_code
def yX12_statement : MethodName := ⟨RX12, "statement", "()V"⟩
abbrev cX12_finishes : ByteArray := prog_14_method_42_code
def yX12_finishes : MethodName := ⟨RX12, "finishes", "(I)V"⟩
abbrev cX12_town : ByteArray := prog_14_method_43_code
def yX12_town : MethodName := ⟨RX12, "town", "()I"⟩
abbrev cX12_fault : ByteArray := prog_14_method_44_code
def yX12_fault : MethodName := ⟨RX12, "fault", "(I)I"⟩
abbrev cX12_refuses : ByteArray := prog_14_method_45_code
def yX12_refuses : MethodName := ⟨RX12, "refuses", "(I)I"⟩
abbrev cX12_status : ByteArray := prog_14_method_46_code
def yX12_status : MethodName := ⟨RX12, "status", "(I)I"⟩
abbrev cX12_copies : ByteArray := prog_14_method_47_code
def yX12_copies : MethodName := ⟨RX12, "copies", "(II)V"⟩
abbrev cX12_begin : ByteArray := prog_14_method_48_code
def yX12_begin : MethodName := ⟨RX12, "begin", "()V"⟩
abbrev cX12_slot : ByteArray := prog_14_method_49_code
def yX12_slot : MethodName := ⟨RX12, "slot", "(I)I"⟩
abbrev cX12_keeps : ByteArray := prog_14_method_50_code
def yX12_keeps : MethodName := ⟨RX12, "keeps", "()V"⟩
abbrev cX12_undo : ByteArray := prog_14_method_51_code
def yX12_undo : MethodName := ⟨RX12, "undo", "()Z"⟩
abbrev cX12_within : ByteArray := prog_14_method_52_code
def yX12_within : MethodName := ⟨RX12, "within", "(J)J"⟩
abbrev cX12_floor : ByteArray := prog_14_method_53_code
def yX12_floor : MethodName := ⟨RX12, "floor", "(JJ)J"⟩
abbrev cX12_two : ByteArray := prog_14_method_54_code
def yX12_two : MethodName := ⟨RX12, "two", "(IJJ)J"⟩
abbrev cX12_reckons : ByteArray := prog_14_method_55_code
def yX12_reckons : MethodName := ⟨RX12, "reckons", "(I)J"⟩
abbrev cX12_isTold : ByteArray := prog_14_method_56_code
def yX12_isTold : MethodName := ⟨RX12, "isTold", "(I)Z"⟩
abbrev cX12_measures : ByteArray := prog_14_method_57_code
def yX12_measures : MethodName := ⟨RX12, "measures", "(I)V"⟩
abbrev cX12_onward : ByteArray := prog_14_method_58_code
def yX12_onward : MethodName := ⟨RX12, "onward", "(III)I"⟩
abbrev cX12_appends : ByteArray := prog_14_method_59_code
def yX12_appends : MethodName := ⟨RX12, "appends", "(II)V"⟩
abbrev cX12_walks : ByteArray := prog_14_method_60_code
def yX12_walks : MethodName := ⟨RX12, "walks", "(II)V"⟩
abbrev cX12_pulls : ByteArray := prog_14_method_61_code
def yX12_pulls : MethodName := ⟨RX12, "pulls", "(III)I"⟩
abbrev cX12_stands : ByteArray := prog_14_method_62_code
def yX12_stands : MethodName := ⟨RX12, "stands", "(IIII)I"⟩
abbrev cX12_runs : ByteArray := prog_14_method_63_code
def yX12_runs : MethodName := ⟨RX12, "runs", "(IIII)V"⟩
abbrev cX12_pairs : ByteArray := prog_14_method_64_code
def yX12_pairs : MethodName := ⟨RX12, "pairs", "()I"⟩
abbrev cX12_isClever : ByteArray := prog_14_method_65_code
def yX12_isClever : MethodName := ⟨RX12, "isClever", "(II)Z"⟩
abbrev cX12_leavesOut : ByteArray := prog_14_method_66_code
def yX12_leavesOut : MethodName := ⟨RX12, "leavesOut", "()V"⟩
abbrev cX12_writesDown : ByteArray := prog_14_method_67_code
def yX12_writesDown : MethodName := ⟨RX12, "writesDown", "(I)V"⟩
abbrev cX12_passes : ByteArray := prog_14_method_68_code
def yX12_passes : MethodName := ⟨RX12, "passes", "(II)V"⟩
abbrev cX12_heatNow : ByteArray := prog_14_method_69_code
def yX12_heatNow : MethodName := ⟨RX12, "heatNow", "()I"⟩
abbrev cX12_isPlace : ByteArray := prog_14_method_70_code
def yX12_isPlace : MethodName := ⟨RX12, "isPlace", "(I)Z"⟩
abbrev cX12_bits : ByteArray := prog_14_method_71_code
def yX12_bits : MethodName := ⟨RX12, "bits", "(I)I"⟩
abbrev cX12_has : ByteArray := prog_14_method_72_code
def yX12_has : MethodName := ⟨RX12, "has", "(I)I"⟩
abbrev cX12_letter : ByteArray := prog_14_method_73_code
def yX12_letter : MethodName := ⟨RX12, "letter", "(III)I"⟩
abbrev cX12_street : ByteArray := prog_14_method_74_code
def yX12_street : MethodName := ⟨RX12, "street", "(II)I"⟩
abbrev cX12_way : ByteArray := prog_14_method_75_code
def yX12_way : MethodName := ⟨RX12, "way", "(II)I"⟩
abbrev cX12_thing : ByteArray := prog_14_method_76_code
def yX12_thing : MethodName := ⟨RX12, "thing", "(II)I"⟩
abbrev cX12_step : ByteArray := prog_14_method_77_code
def yX12_step : MethodName := ⟨RX12, "step", "(II)I"⟩
abbrev cX12_year : ByteArray := prog_14_method_78_code
def yX12_year : MethodName := ⟨RX12, "year", "(I)I"⟩
abbrev cX12_goes : ByteArray := prog_14_method_79_code
def yX12_goes : MethodName := ⟨RX12, "goes", "(II)I"⟩
abbrev cX12_longest : ByteArray := prog_14_method_80_code
def yX12_longest : MethodName := ⟨RX12, "longest", "()I"⟩
abbrev cX12_wall : ByteArray := prog_14_method_81_code
def yX12_wall : MethodName := ⟨RX12, "wall", "()I"⟩
abbrev cX12_away : ByteArray := prog_14_method_82_code
def yX12_away : MethodName := ⟨RX12, "away", "(I)I"⟩
abbrev cX12_comesBy : ByteArray := prog_14_method_83_code
def yX12_comesBy : MethodName := ⟨RX12, "comesBy", "(I)Z"⟩
abbrev cX12_by : ByteArray := prog_14_method_84_code
def yX12_by : MethodName := ⟨RX12, "by", "(I)I"⟩
abbrev cX12_seats : ByteArray := prog_14_method_85_code
def yX12_seats : MethodName := ⟨RX12, "seats", "(I)I"⟩
abbrev cX12_isAhead : ByteArray := prog_14_method_86_code
def yX12_isAhead : MethodName := ⟨RX12, "isAhead", "(III)Z"⟩
abbrev cX12_later : ByteArray := prog_14_method_87_code
def yX12_later : MethodName := ⟨RX12, "later", "(II)I"⟩
abbrev cX12_missed : ByteArray := prog_14_method_88_code
def yX12_missed : MethodName := ⟨RX12, "missed", "(I)I"⟩
abbrev cX12_isAsWas : ByteArray := prog_14_method_89_code
def yX12_isAsWas : MethodName := ⟨RX12, "isAsWas", "()Z"⟩
abbrev cX12_held : ByteArray := prog_14_method_90_code
def yX12_held : MethodName := ⟨RX12, "held", "()I"⟩
abbrev cX12_half : ByteArray := prog_14_method_91_code
def yX12_half : MethodName := ⟨RX12, "half", "()I"⟩
abbrev cX12_canBe : ByteArray := prog_14_method_92_code
def yX12_canBe : MethodName := ⟨RX12, "canBe", "(II)Z"⟩
abbrev cX12_fills : ByteArray := prog_14_method_93_code
def yX12_fills : MethodName := ⟨RX12, "fills", "(I)J"⟩
abbrev cX12_cut : ByteArray := prog_14_method_94_code
def yX12_cut : MethodName := ⟨RX12, "cut", "(J)I"⟩
abbrev cX12_filled : ByteArray := prog_14_method_95_code
def yX12_filled : MethodName := ⟨RX12, "filled", "(I)I"⟩
abbrev cX12_filling : ByteArray := prog_14_method_96_code
def yX12_filling : MethodName := ⟨RX12, "filling", "(II)I"⟩
abbrev cX12_asked : ByteArray := prog_14_method_97_code
def yX12_asked : MethodName := ⟨RX12, "asked", "(II)I"⟩
abbrev cX12_years : ByteArray := prog_14_method_98_code
def yX12_years : MethodName := ⟨RX12, "years", "(I)I"⟩
abbrev cX12_draw : ByteArray := prog_14_method_99_code
def yX12_draw : MethodName := ⟨RX12, "draw", "(I)I"⟩
abbrev cX12_chance : ByteArray := prog_14_method_100_code
def yX12_chance : MethodName := ⟨RX12, "chance", "(I)I"⟩
abbrev cX12_shut : ByteArray := prog_14_method_101_code
def yX12_shut : MethodName := ⟨RX12, "shut", "(II)Z"⟩
abbrev cX12_move : ByteArray := prog_14_method_102_code
def yX12_move : MethodName := ⟨RX12, "move", "(II)Z"⟩
abbrev cX12_teach : ByteArray := prog_14_method_103_code
def yX12_teach : MethodName := ⟨RX12, "teach", "(II)Z"⟩
abbrev cX12_forget : ByteArray := prog_14_method_104_code
def yX12_forget : MethodName := ⟨RX12, "forget", "()Z"⟩
abbrev cX12_seed : ByteArray := prog_14_method_105_code
def yX12_seed : MethodName := ⟨RX12, "seed", "(I)Z"⟩
abbrev cX12_kept : ByteArray := prog_14_method_106_code
def yX12_kept : MethodName := ⟨RX12, "kept", "(II)I"⟩
abbrev cX12_writes : ByteArray := prog_14_method_107_code
def yX12_writes : MethodName := ⟨RX12, "writes", "(I)V"⟩
abbrev cX12_image : ByteArray := prog_14_method_108_code
def yX12_image : MethodName := ⟨RX12, "image", "()I"⟩
abbrev cX12_octet : ByteArray := prog_14_method_109_code
def yX12_octet : MethodName := ⟨RX12, "octet", "(I)I"⟩
abbrev cX12_stepOn : ByteArray := prog_14_method_110_code
def yX12_stepOn : MethodName := ⟨RX12, "stepOn", "(II)Z"⟩
abbrev cX12_comesOn : ByteArray := prog_14_method_111_code
def yX12_comesOn : MethodName := ⟨RX12, "comesOn", "(I)Z"⟩
abbrev cX12_on : ByteArray := prog_14_method_112_code
def yX12_on : MethodName := ⟨RX12, "on", "()Z"⟩
def RJx145de : String := "java/io/Serializable"
def TJx145de : u_T := fun k => match k with
  | _ => ("", "", "", false)
def tyJx145de : Nat → FieldType := fun k => match k with
  | _ => .int
theorem nmJx145de : ∀ a, a < 0 → ∀ b, b < 0 → a ≠ b → (TJx145de a).2.1 ≠ (TJx145de b).2.1 := by decide +kernel
theorem tyJx145de_ok : ∀ k, k < 0 → parseFieldDescriptor (TJx145de k).2.2.1 = some (tyJx145de k) := by decide +kernel
def RJx9f9b0 : String := "java/lang/CharSequence"
def TJx9f9b0 : u_T := fun k => match k with
  | _ => ("", "", "", false)
def tyJx9f9b0 : Nat → FieldType := fun k => match k with
  | _ => .int
theorem nmJx9f9b0 : ∀ a, a < 0 → ∀ b, b < 0 → a ≠ b → (TJx9f9b0 a).2.1 ≠ (TJx9f9b0 b).2.1 := by decide +kernel
theorem tyJx9f9b0_ok : ∀ k, k < 0 → parseFieldDescriptor (TJx9f9b0 k).2.2.1 = some (tyJx9f9b0 k) := by decide +kernel
def RJxb160c : String := "java/lang/Comparable"
def TJxb160c : u_T := fun k => match k with
  | _ => ("", "", "", false)
def tyJxb160c : Nat → FieldType := fun k => match k with
  | _ => .int
theorem nmJxb160c : ∀ a, a < 0 → ∀ b, b < 0 → a ≠ b → (TJxb160c a).2.1 ≠ (TJxb160c b).2.1 := by decide +kernel
theorem tyJxb160c_ok : ∀ k, k < 0 → parseFieldDescriptor (TJxb160c k).2.2.1 = some (tyJxb160c k) := by decide +kernel
def RJ6 : String := "java/lang/Integer"
def TJ6 : u_T := fun k => match k with
  | _ => ("", "", "", false)
def tyJ6 : Nat → FieldType := fun k => match k with
  | _ => .int
theorem nmJ6 : ∀ a, a < 0 → ∀ b, b < 0 → a ≠ b → (TJ6 a).2.1 ≠ (TJ6 b).2.1 := by decide +kernel
theorem tyJ6_ok : ∀ k, k < 0 → parseFieldDescriptor (TJ6 k).2.2.1 = some (tyJ6 k) := by decide +kernel
abbrev cJ6_bitCount_0f7a4 : ByteArray := prog_15_method_49_code
def yJ6_bitCount_0f7a4 : MethodName := ⟨RJ6, "bitCount", "(I)I"⟩
def RJ9 : String := "java/lang/Math"
def TJ9 : u_T := fun k => match k with
  | _ => ("", "", "", false)
def tyJ9 : Nat → FieldType := fun k => match k with
  | _ => .int
theorem nmJ9 : ∀ a, a < 0 → ∀ b, b < 0 → a ≠ b → (TJ9 a).2.1 ≠ (TJ9 b).2.1 := by decide +kernel
theorem tyJ9_ok : ∀ k, k < 0 → parseFieldDescriptor (TJ9 k).2.2.1 = some (tyJ9 k) := by decide +kernel
abbrev cJ9_floorDiv_7cf53 : ByteArray := prog_16_method_47_code
def yJ9_floorDiv_7cf53 : MethodName := ⟨RJ9, "floorDiv", "(II)I"⟩
abbrev cJ9_floorMod_7cf53 : ByteArray := prog_16_method_50_code
def yJ9_floorMod_7cf53 : MethodName := ⟨RJ9, "floorMod", "(II)I"⟩
abbrev cJ9_max_7cf53 : ByteArray := prog_16_method_65_code
def yJ9_max_7cf53 : MethodName := ⟨RJ9, "max", "(II)I"⟩
abbrev cJ9_max_f86c9 : ByteArray := prog_16_method_66_code
def yJ9_max_f86c9 : MethodName := ⟨RJ9, "max", "(JJ)J"⟩
abbrev cJ9_min_7cf53 : ByteArray := prog_16_method_69_code
def yJ9_min_7cf53 : MethodName := ⟨RJ9, "min", "(II)I"⟩
abbrev cJ9_min_f86c9 : ByteArray := prog_16_method_70_code
def yJ9_min_f86c9 : MethodName := ⟨RJ9, "min", "(JJ)J"⟩
def RJ0 : String := "java/lang/String"
def TJ0 : u_T := fun k => match k with
  | _ => ("", "", "", false)
def tyJ0 : Nat → FieldType := fun k => match k with
  | _ => .int
theorem nmJ0 : ∀ a, a < 0 → ∀ b, b < 0 → a ≠ b → (TJ0 a).2.1 ≠ (TJ0 b).2.1 := by decide +kernel
theorem tyJ0_ok : ∀ k, k < 0 → parseFieldDescriptor (TJ0 k).2.2.1 = some (tyJ0 k) := by decide +kernel
abbrev cJ0_length_8abf5 : ByteArray := prog_17_method_54_code
def yJ0_length_8abf5 : MethodName := ⟨RJ0, "length", "()I"⟩
abbrev cJ0_charAt_5068e : ByteArray := prog_17_method_56_code
def yJ0_charAt_5068e : MethodName := ⟨RJ0, "charAt", "(I)C"⟩
abbrev cJ0_coder_7d493 : ByteArray := prog_17_method_152_code
def yJ0_coder_7d493 : MethodName := ⟨RJ0, "coder", "()B"⟩
abbrev cJ0_isLatin1_aae02 : ByteArray := prog_17_method_154_code
def yJ0_isLatin1_aae02 : MethodName := ⟨RJ0, "isLatin1", "()Z"⟩
abbrev cJ0_checkIndex_df160 : ByteArray := prog_17_method_155_code
def yJ0_checkIndex_df160 : MethodName := ⟨RJ0, "checkIndex", "(II)V"⟩
def RJ1 : String := "java/lang/StringLatin1"
def TJ1 : u_T := fun k => match k with
  | _ => ("", "", "", false)
def tyJ1 : Nat → FieldType := fun k => match k with
  | _ => .int
theorem nmJ1 : ∀ a, a < 0 → ∀ b, b < 0 → a ≠ b → (TJ1 a).2.1 ≠ (TJ1 b).2.1 := by decide +kernel
theorem tyJ1_ok : ∀ k, k < 0 → parseFieldDescriptor (TJ1 k).2.2.1 = some (tyJ1 k) := by decide +kernel
abbrev cJ1_charAt_3b067 : ByteArray := prog_18_method_2_code
def yJ1_charAt_3b067 : MethodName := ⟨RJ1, "charAt", "([BI)C"⟩
def RJ2 : String := "java/lang/StringUTF16"
def TJ2 : u_T := fun k => match k with
  | _ => ("", "", "", false)
def tyJ2 : Nat → FieldType := fun k => match k with
  | _ => .int
theorem nmJ2 : ∀ a, a < 0 → ∀ b, b < 0 → a ≠ b → (TJ2 a).2.1 ≠ (TJ2 b).2.1 := by decide +kernel
theorem tyJ2_ok : ∀ k, k < 0 → parseFieldDescriptor (TJ2 k).2.2.1 = some (tyJ2 k) := by decide +kernel
abbrev cJ2_getChar_3b067 : ByteArray := prog_19_method_5_code
def yJ2_getChar_3b067 : MethodName := ⟨RJ2, "getChar", "([BI)C"⟩
abbrev cJ2_length_9d52b : ByteArray := prog_19_method_6_code
def yJ2_length_9d52b : MethodName := ⟨RJ2, "length", "([B)I"⟩
abbrev cJ2_charAt_3b067 : ByteArray := prog_19_method_83_code
def yJ2_charAt_3b067 : MethodName := ⟨RJ2, "charAt", "([BI)C"⟩
abbrev cJ2_checkIndex_2214a : ByteArray := prog_19_method_91_code
def yJ2_checkIndex_2214a : MethodName := ⟨RJ2, "checkIndex", "(I[B)V"⟩
def RJ10 : String := "java/lang/System"
def TJ10 : u_T := fun k => match k with
  | _ => ("", "", "", false)
def tyJ10 : Nat → FieldType := fun k => match k with
  | _ => .int
theorem nmJ10 : ∀ a, a < 0 → ∀ b, b < 0 → a ≠ b → (TJ10 a).2.1 ≠ (TJ10 b).2.1 := by decide +kernel
theorem tyJ10_ok : ∀ k, k < 0 → parseFieldDescriptor (TJ10 k).2.2.1 = some (tyJ10 k) := by decide +kernel
def RJxfd54e : String := "java/lang/constant/Constable"
def TJxfd54e : u_T := fun k => match k with
  | _ => ("", "", "", false)
def tyJxfd54e : Nat → FieldType := fun k => match k with
  | _ => .int
theorem nmJxfd54e : ∀ a, a < 0 → ∀ b, b < 0 → a ≠ b → (TJxfd54e a).2.1 ≠ (TJxfd54e b).2.1 := by decide +kernel
theorem tyJxfd54e_ok : ∀ k, k < 0 → parseFieldDescriptor (TJxfd54e k).2.2.1 = some (tyJxfd54e k) := by decide +kernel
def RJx3cf43 : String := "java/lang/constant/ConstantDesc"
def TJx3cf43 : u_T := fun k => match k with
  | _ => ("", "", "", false)
def tyJx3cf43 : Nat → FieldType := fun k => match k with
  | _ => .int
theorem nmJx3cf43 : ∀ a, a < 0 → ∀ b, b < 0 → a ≠ b → (TJx3cf43 a).2.1 ≠ (TJx3cf43 b).2.1 := by decide +kernel
theorem tyJx3cf43_ok : ∀ k, k < 0 → parseFieldDescriptor (TJx3cf43 k).2.2.1 = some (tyJx3cf43 k) := by decide +kernel
def RJ7 : String := "java/util/Arrays"
def TJ7 : u_T := fun k => match k with
  | _ => ("", "", "", false)
def tyJ7 : Nat → FieldType := fun k => match k with
  | _ => .int
theorem nmJ7 : ∀ a, a < 0 → ∀ b, b < 0 → a ≠ b → (TJ7 a).2.1 ≠ (TJ7 b).2.1 := by decide +kernel
theorem tyJ7_ok : ∀ k, k < 0 → parseFieldDescriptor (TJ7 k).2.2.1 = some (tyJ7 k) := by decide +kernel
abbrev cJ7_fill_53178 : ByteArray := prog_21_method_103_code
def yJ7_fill_53178 : MethodName := ⟨RJ7, "fill", "([II)V"⟩
def RJ3 : String := "jdk/internal/util/Preconditions"
def TJ3 : u_T := fun k => match k with
  | _ => ("", "", "", false)
def tyJ3 : Nat → FieldType := fun k => match k with
  | _ => .int
theorem nmJ3 : ∀ a, a < 0 → ∀ b, b < 0 → a ≠ b → (TJ3 a).2.1 ≠ (TJ3 b).2.1 := by decide +kernel
theorem tyJ3_ok : ∀ k, k < 0 → parseFieldDescriptor (TJ3 k).2.2.1 = some (tyJ3 k) := by decide +kernel
abbrev cJ3_checkIndex_8e157 : ByteArray := prog_22_method_11_code
def yJ3_checkIndex_8e157 : MethodName := ⟨RJ3, "checkIndex", "(IILjava/util/function/BiFunction;)I"⟩
def RL : String := "GreyRouteLaw"
abbrev cL_law : ByteArray := code
def yL_law : MethodName := ⟨RL, "law", "([I)Z"⟩
abbrev vwCl : List vw_C := [(RX0, TX0, 2), (RX1, TX1, 8), (RX2, TX2, 16), (RX3, TX3, 6), (RX4, TX4, 5), (RX5, TX5, 3), (RX6, TX6, 5), (RX7, TX7, 2), (RX8, TX8, 19), (RX9, TX9, 2), (RX10, TX10, 7), (RX11, TX11, 13), (RX12, TX12, 78)]
end
section
/-! NUMBERS: an int by its key, the order's own number -/
def rx_b (x : Int32) : Nat := (x.toBitVec.toNat + 2147483648) % 4294967296
theorem rx_b_int (x : Int32) : (rx_b x : Int) = x.toInt + 2147483648 := by
  have h : x.toInt = x.toBitVec.toInt := rfl
  have h1 := x.toBitVec.isLt
  rw [h, BitVec.toInt_eq_toNat_cond]
  unfold rx_b
  split <;> omega
theorem rx_lt (x y : Int32) : x < y ↔ rx_b x < rx_b y := by
  rw [Int32.lt_iff_toInt_lt]
  have h1 := rx_b_int x
  have h2 := rx_b_int y
  omega
theorem rx_le (x y : Int32) : x ≤ y ↔ rx_b x ≤ rx_b y := by
  rw [Int32.le_iff_toInt_le]
  have h1 := rx_b_int x
  have h2 := rx_b_int y
  omega
theorem rx_eq (x y : Int32) : x = y ↔ rx_b x = rx_b y := by
  rw [← Int32.toInt_inj]
  have h1 := rx_b_int x
  have h2 := rx_b_int y
  omega
theorem rx_tn (n : Nat) : (nI n).toBitVec.toNat = n % 4294967296 := by
  show (BitVec.ofNat 32 n).toNat = _
  rw [BitVec.toNat_ofNat]
theorem rx_b_nI (n : Nat) : rx_b (nI n) = (n + 2147483648) % 4294967296 := by
  unfold rx_b
  rw [rx_tn]
  omega
theorem rx_b_lt (x : Int32) : rx_b x < 4294967296 := Nat.mod_lt _ (by decide)
theorem rx_nI_eq {a b : Nat} (h : a % 4294967296 = b % 4294967296) : nI a = nI b := by
  rw [rx_eq, rx_b_nI, rx_b_nI]
  omega
theorem rx_nI_mod (a : Nat) : nI (a % 4294967296) = nI a := rx_nI_eq (by omega)
theorem rx_add (a b : Nat) : nI ((a + b) % 4294967296) = nI a + nI b := by rw [rx_nI_mod, nI_add]
theorem rx_mul (a b : Nat) : nI ((a * b) % 4294967296) = nI a * nI b := by rw [rx_nI_mod, pk_mul]
theorem rx_sub (a b : Nat) : nI ((a + (4294967296 - b % 4294967296)) % 4294967296) = nI a - nI b := by
  rw [rx_nI_mod]
  have h1 : nI a = nI (a + (4294967296 - b % 4294967296)) + nI b := by
    rw [nI_add]
    exact rx_nI_eq (by omega)
  rw [h1]
  have h2 : ∀ x y : Int32, x = x + y - y := fun x y => by
    rw [Int32.sub_eq_add_neg, Int32.add_assoc, ← Int32.sub_eq_add_neg, Int32.sub_self, Int32.add_zero]
  exact h2 _ _
theorem rx_bv (n : Nat) : (nI n).toBitVec = BitVec.ofNat 32 n := rfl
theorem rx_inj {x y : Int32} (h : x.toBitVec.toNat = y.toBitVec.toNat) : x = y := Int32.toBitVec_inj.mp (BitVec.eq_of_toNat_eq h)
theorem rx_and (a b : Nat) : nI (Nat.land a b) = nI a &&& nI b := by
  refine rx_inj ?_
  show _ = ((nI a).toBitVec &&& (nI b).toBitVec).toNat
  rw [rx_tn, BitVec.toNat_and, rx_tn, rx_tn]
  exact Nat.and_mod_two_pow (a := a) (b := b) (n := 32)
theorem rx_or (a b : Nat) : nI (Nat.lor a b) = nI a ||| nI b := by
  refine rx_inj ?_
  show _ = ((nI a).toBitVec ||| (nI b).toBitVec).toNat
  rw [rx_tn, BitVec.toNat_or, rx_tn, rx_tn]
  exact Nat.or_mod_two_pow (a := a) (b := b) (n := 32)
theorem rx_xor (a b : Nat) : nI (Nat.xor a b) = nI a ^^^ nI b := by
  refine rx_inj ?_
  show _ = ((nI a).toBitVec ^^^ (nI b).toBitVec).toNat
  rw [rx_tn, BitVec.toNat_xor, rx_tn, rx_tn]
  exact Nat.xor_mod_two_pow (a := a) (b := b) (n := 32)
theorem rx_a31 (s : Nat) : nI s &&& 31 = nI (s % 32) := by
  rw [show (31 : Int32) = nI 31 from rfl, ← rx_and]
  exact congrArg nI (Nat.and_two_pow_sub_one_eq_mod s 5)
theorem rx_smod : ∀ k, k < 32 → ((nI k).toBitVec.smod 32).toNat = k := by decide +kernel
theorem rx_umod : ∀ k, k < 32 → (((nI k).toUInt32 &&& Int32.toUInt32 31).toBitVec % 32).toNat = k := by decide +kernel
theorem rx_shl (x s : Nat) : nI ((x * 2 ^ (s % 32)) % 4294967296) = nI x <<< (nI s &&& 31) := by
  have hk : s % 32 < 32 := Nat.mod_lt _ (by decide)
  rw [rx_a31]
  refine rx_inj ?_
  rw [pk_shl (nI x) (nI (s % 32)) (s % 32) (rx_smod _ hk), rx_tn, rx_tn]
  rw [Nat.mod_mod, Nat.mod_mul_mod]
theorem rx_shr {x : Nat} (s : Nat) (hx : x < 2147483648) : nI (x / 2 ^ (s % 32)) = nI x >>> (nI s &&& 31) := by
  rw [rx_a31]
  exact (pk_shrN hx (nI (s % 32)) (s % 32) (rx_smod _ (Nat.mod_lt _ (by decide)))).symm
theorem rx_ushr (x s : Nat) : nI (x % 4294967296 / 2 ^ (s % 32)) = ((nI x).toUInt32 >>> ((nI s).toUInt32 &&& Int32.toUInt32 31)).toInt32 := by
  have h0 : (nI s).toUInt32 &&& Int32.toUInt32 31 = (nI (s % 32)).toUInt32 &&& Int32.toUInt32 31 := by
    have h1 : nI s &&& 31 = nI (s % 32) &&& 31 := by rw [rx_a31, rx_a31, Nat.mod_mod]
    exact congrArg Int32.toUInt32 h1
  rw [h0, ← rx_nI_mod x]
  exact (pk_ushrN (Nat.mod_lt _ (by decide)) (nI (s % 32)) (s % 32) (rx_umod _ (Nat.mod_lt _ (by decide)))).symm
theorem rx_neg (x : Nat) : nI ((4294967296 - x % 4294967296) % 4294967296) = - nI x := by
  have h := rx_sub 0 x
  rw [Nat.zero_add] at h
  rw [h, nI_0, Int32.zero_sub]
theorem rx_i2b (x : Nat) : nI (cond (Nat.blt (x % 256) 128) (x % 256) (x % 256 + 4294967040)) = (nI x).toInt8.toInt32 := by
  have h : ∀ k, k < 256 → nI (cond (Nat.blt k 128) k (k + 4294967040)) = (nI k).toInt8.toInt32 := by decide +kernel
  rw [h _ (Nat.mod_lt _ (by decide))]
  have h8 : (nI (x % 256)).toInt8 = (nI x).toInt8 := by
    refine Int8.toBitVec_inj.mp (BitVec.eq_of_toNat_eq ?_)
    show ((nI (x % 256)).toBitVec.signExtend 8).toNat = ((nI x).toBitVec.signExtend 8).toNat
    rw [rx_bv, rx_bv, BitVec.signExtend_eq_setWidth_of_le _ (by decide), BitVec.signExtend_eq_setWidth_of_le _ (by decide), BitVec.toNat_setWidth, BitVec.toNat_setWidth, BitVec.toNat_ofNat, BitVec.toNat_ofNat]
    omega
  rw [h8]
end
section
/-! longs -/
theorem rl_tn (n : Nat) : (lN n).toBitVec.toNat = n % 18446744073709551616 := by
  show (BitVec.ofNat 64 n).toNat = _
  rw [BitVec.toNat_ofNat]
theorem rl_inj {x y : Int64} (h : x.toBitVec.toNat = y.toBitVec.toNat) : x = y := Int64.toBitVec_inj.mp (BitVec.eq_of_toNat_eq h)
theorem rl_eq {a b : Nat} (h : a % 18446744073709551616 = b % 18446744073709551616) : lN a = lN b := rl_inj (by rw [rl_tn, rl_tn, h])
theorem rl_mod (a : Nat) : lN (a % 18446744073709551616) = lN a := rl_eq (by omega)
theorem rl_add (a b : Nat) : lN ((a + b) % 18446744073709551616) = lN a + lN b := by rw [rl_mod, lN_add]
theorem rl_mul (a b : Nat) : lN ((a * b) % 18446744073709551616) = lN a * lN b := by rw [rl_mod, lN_mul]
theorem rl_sub (a b : Nat) : lN ((a + (18446744073709551616 - b % 18446744073709551616)) % 18446744073709551616) = lN a - lN b := by
  rw [rl_mod]
  have h1 : lN a = lN (a + (18446744073709551616 - b % 18446744073709551616)) + lN b := by
    rw [lN_add]
    exact rl_eq (by omega)
  rw [h1]
  have h2 : ∀ x y : Int64, x = x + y - y := fun x y => by
    rw [Int64.sub_eq_add_neg, Int64.add_assoc, ← Int64.sub_eq_add_neg, Int64.sub_self, Int64.add_zero]
  exact h2 _ _
theorem rl_and (a b : Nat) : lN (Nat.land a b) = lN a &&& lN b := by
  refine rl_inj ?_
  show _ = ((lN a).toBitVec &&& (lN b).toBitVec).toNat
  rw [rl_tn, BitVec.toNat_and, rl_tn, rl_tn]
  exact Nat.and_mod_two_pow (a := a) (b := b) (n := 64)
theorem rl_or (a b : Nat) : lN (Nat.lor a b) = lN a ||| lN b := by
  refine rl_inj ?_
  show _ = ((lN a).toBitVec ||| (lN b).toBitVec).toNat
  rw [rl_tn, BitVec.toNat_or, rl_tn, rl_tn]
  exact Nat.or_mod_two_pow (a := a) (b := b) (n := 64)
theorem rl_div {a b : Nat} (ha : a < 9223372036854775808) (hb : b < 9223372036854775808) (h0 : 0 < b) : lN (a / b) = lN a / lN b := (pk_lDiv ha h0 hb).symm
theorem rl_rem {a b : Nat} (ha : a < 9223372036854775808) (hb : b < 9223372036854775808) (h0 : 0 < b) : lN (a % b) = lN a - lN a / lN b * lN b := (pk_lRem ha h0 hb).symm
theorem rl_ne0 {b : Nat} (hb : b < 9223372036854775808) (h0 : 0 < b) : ¬ lN b = 0 := by
  intro h
  have := (pk_lEQ (a := b) (b := 0) hb (by decide)).mp h
  omega
theorem rx_div {a b : Nat} (ha : a < 2147483648) (hb : b < 2147483648) (h0 : 0 < b) : nI (a / b) = nI a / nI b := (pk_div ha h0 hb).symm
theorem rx_rem' {a b : Nat} (ha : a < 2147483648) (hb : b < 2147483648) (h0 : 0 < b) : nI (a % b) = nI a - nI a / nI b * nI b := (pk_rem ha h0 hb).symm
def rl_b (x : Int64) : Nat := (x.toBitVec.toNat + 9223372036854775808) % 18446744073709551616
theorem rl_b_int (x : Int64) : (rl_b x : Int) = x.toInt + 9223372036854775808 := by
  have h : x.toInt = x.toBitVec.toInt := rfl
  have h1 := x.toBitVec.isLt
  rw [h, BitVec.toInt_eq_toNat_cond]
  unfold rl_b
  split <;> omega
theorem rl_lt (x y : Int64) : x < y ↔ rl_b x < rl_b y := by
  rw [Int64.lt_iff_toInt_lt]
  have h1 := rl_b_int x
  have h2 := rl_b_int y
  omega
theorem rl_eqv (x y : Int64) : x = y ↔ rl_b x = rl_b y := by
  rw [← Int64.toInt_inj]
  have h1 := rl_b_int x
  have h2 := rl_b_int y
  omega
theorem rl_b_lN (n : Nat) : rl_b (lN n) = (n + 9223372036854775808) % 18446744073709551616 := by
  unfold rl_b
  rw [rl_tn]
  omega
theorem rl_cmp (x y : Nat) : nI (cond (Nat.blt ((x + 9223372036854775808) % 18446744073709551616) ((y + 9223372036854775808) % 18446744073709551616)) 4294967295 (cond (Nat.blt ((y + 9223372036854775808) % 18446744073709551616) ((x + 9223372036854775808) % 18446744073709551616)) 1 0)) = lg_cmp (lN x) (lN y) := by
  have hb : ∀ a b : Nat, Nat.blt a b = decide (a < b) := fun a b => by
    rcases Nat.lt_or_ge a b with h | h
    · rw [decide_eq_true h]; exact Nat.ble_eq_true_of_le h
    · rw [decide_eq_false (Nat.not_lt.mpr h)]
      cases c : Nat.blt a b with
      | true => have := Nat.le_of_ble_eq_true (show Nat.ble (a + 1) b = true from c); omega
      | false => rfl
  rw [hb, hb, ← rl_b_lN, ← rl_b_lN]
  unfold lg_cmp
  simp only [gt_iff_lt, rl_lt, rl_eqv]
  generalize rl_b (lN x) = a
  generalize rl_b (lN y) = b
  rcases Nat.lt_or_ge a b with h | h
  · have h2 : ¬ b < a := by omega
    have h3 : ¬ a = b := by omega
    simp only [h, h2, h3, decide_true, cond_true, if_false]
    decide
  · rcases Nat.lt_or_ge b a with h2 | h2
    · have h3 : ¬ a < b := by omega
      simp only [h2, h3, decide_true, decide_false, cond_true, cond_false, if_true]
      decide
    · have h3 : ¬ a < b := by omega
      have h4 : ¬ b < a := by omega
      have h5 : a = b := by omega
      simp only [h3, h4, decide_false, cond_false, if_false, h5, if_true]
      simp
      decide
end
section
/-! THE EXECUTOR: bytecode over a world of cells that is a list; closed runs are decided by the kernel.
An int is a number below 2^32, or a script's int with operations behind it. A long is a number below 2^64, or a script's int widened. A reference is null, a place of the world, or a constant (0 the script, 1 a text, 2 its bytes). -/
abbrev rx_I : Type := Nat ⊕ (Nat × List (Nat × Nat))
abbrev rx_V : Type := rx_I ⊕ ((Nat ⊕ Nat) ⊕ (Option Nat ⊕ Nat))
/-- a cell: an object (class, fields), or an array (0 int, 1 byte, 2 boolean, 3 long, 4 references; length; what was written) -/
abbrev rx_C : Type := (Nat × List rx_V) ⊕ (Nat × Nat × List (Nat × rx_V))
/-- bounds of script ints, by their keys -/
abbrev rx_F : Type := List ((Nat × List (Nat × Nat)) × Nat × Nat)
/-- a row of code: pc, instruction, its length, three numbers, places of words -/
abbrev rx_E : Type := Nat × Jvm.ClassFile.Instr × Nat × Nat × Nat × Nat × List Nat
abbrev rx_L : Type := List (Nat × rx_V)
abbrev rx_R : Type := List rx_E × rx_L × List rx_V × List rx_C × Nat × Nat
abbrev rx_K : Type := List rx_E → rx_L → List rx_V → List rx_C → Nat → Nat → Option rx_R
noncomputable def rx_fN {α : Type} (n : Nat) (k : Nat → α) : α := Nat.rec (k 0) (fun m _ => k (Nat.succ m)) n
theorem rx_fN_eq {α : Type} (n : Nat) (k : Nat → α) : rx_fN n k = k n := by cases n <;> rfl
noncomputable def rx_get {α : Type} (L : rx_L) (i : Nat) (k : rx_V → Option α) : Option α := List.rec none (fun q _ ih => cond (Nat.beq q.1 i) (k q.2) ih) L
theorem rx_get_ok {α : Type} {L : rx_L} {i : Nat} {k : rx_V → Option α} {r : α} (h : rx_get L i k = some r) : ∃ v, (i, v) ∈ L ∧ k v = some r := by
  induction L with
  | nil => cases h
  | cons q t ih =>
    change cond (Nat.beq q.1 i) (k q.2) (rx_get t i k) = some r at h
    cases hq : Nat.beq q.1 i with
    | true =>
      rw [hq] at h
      have e : q.1 = i := Nat.eq_of_beq_eq_true hq
      exact ⟨q.2, by rw [← e]; exact List.mem_cons_self, h⟩
    | false =>
      rw [hq] at h
      obtain ⟨v, h1, h2⟩ := ih h
      exact ⟨v, List.mem_cons_of_mem _ h1, h2⟩
noncomputable def rx_at {α β : Type} (l : List α) : Nat → (α → Option β) → Option β := List.rec (fun _ _ => none) (fun a _ ih n k => Nat.rec (k a) (fun m _ => ih m k) n) l
theorem rx_at_ok {α β : Type} {l : List α} : ∀ {n : Nat} {k : α → Option β} {r : β}, rx_at l n k = some r → ∃ x, l[n]? = some x ∧ k x = some r := by
  induction l with
  | nil => intro n k r h; cases h
  | cons a t ih =>
    intro n k r h
    cases n with
    | zero => exact ⟨a, rfl, h⟩
    | succ m =>
      obtain ⟨x, h1, h2⟩ := ih (n := m) h
      exact ⟨x, by simpa using h1, h2⟩
noncomputable def rx_set {α β : Type} (l : List α) : Nat → α → (List α → Option β) → Option β := List.rec (fun _ _ _ => none) (fun a t ih n v k => Nat.rec (k (v :: t)) (fun m _ => ih m v (fun t' => k (a :: t'))) n) l
theorem rx_set_ok {α β : Type} {l : List α} : ∀ {n : Nat} {v : α} {k : List α → Option β} {r : β}, rx_set l n v k = some r → k (l.set n v) = some r := by
  induction l with
  | nil => intro n v k r h; cases h
  | cons a t ih =>
    intro n v k r h
    cases n with
    | zero => exact h
    | succ m => exact ih (n := m) (k := fun t' => k (a :: t')) h
noncomputable def rx_snoc {α β : Type} (l : List α) (v : α) : Nat → (List α → Nat → β) → β := List.rec (fun n k => k [v] n) (fun a _ ih n k => ih (Nat.succ n) (fun t' m => k (a :: t') m)) l
theorem rx_snoc_eq {α β : Type} (l : List α) (v : α) : ∀ (n : Nat) (k : List α → Nat → β), rx_snoc l v n k = k (l ++ [v]) (n + l.length) := by
  induction l with
  | nil => intro n k; rfl
  | cons a t ih =>
    intro n k
    refine (ih (Nat.succ n) (fun t' m => k (a :: t') m)).trans ?_
    show k (a :: (t ++ [v])) (Nat.succ n + t.length) = k (a :: (t ++ [v])) (n + (t.length + 1))
    rw [show Nat.succ n + t.length = n + (t.length + 1) by omega]
noncomputable def rx_rem {β : Type} (P : Nat → rx_V → Bool) (L : rx_L) : (rx_L → β) → β := List.rec (fun k => k []) (fun q _ ih k => cond (P q.1 q.2) (ih k) (ih (fun t' => k (q :: t')))) L
theorem rx_rem_eq {β : Type} (P : Nat → rx_V → Bool) (L : rx_L) : ∀ k : rx_L → β, rx_rem P L k = k (L.filter (fun q => !P q.1 q.2)) := by
  induction L with
  | nil => intro k; rfl
  | cons q t ih =>
    intro k
    change cond (P q.1 q.2) (rx_rem P t k) (rx_rem P t (fun t' => k (q :: t'))) = _
    cases hq : P q.1 q.2 with
    | true => simp [hq, ih]
    | false => simp [hq, ih]
noncomputable def rx_lk (l : List (Nat × rx_V)) (j : Nat) (d : rx_V) : rx_V := List.rec d (fun q _ ih => cond (Nat.beq q.1 j) q.2 ih) l
noncomputable def rx_find (cd : List rx_E) (tgt : Nat) : List rx_E := List.rec [] (fun e t ih => cond (Nat.beq e.1 tgt) (e :: t) ih) cd
noncomputable def rx_take {β : Type} : Nat → List rx_V → List rx_V → (List rx_V → List rx_V → Option β) → Option β := fun n => Nat.rec (fun S acc k => k acc S) (fun _ ih S acc k => List.rec none (fun v t _ => ih t (v :: acc) k) S) n
theorem rx_take_ok {β : Type} : ∀ {n : Nat} {S acc : List rx_V} {k : List rx_V → List rx_V → Option β} {r : β}, rx_take n S acc k = some r → ∃ as S', S = as.reverse ++ S' ∧ as.length = n ∧ k (as ++ acc) S' = some r := by
  intro n
  induction n with
  | zero => intro S acc k r h; exact ⟨[], S, rfl, rfl, h⟩
  | succ n ih =>
    intro S acc k r h
    cases S with
    | nil => cases h
    | cons v t =>
      obtain ⟨as, S', h1, h2, h3⟩ := ih (S := t) (acc := v :: acc) h
      refine ⟨as ++ [v], S', ?_, ?_, ?_⟩
      · simp [h1]
      · simp [h2]
      · simpa using h3
def rx_cat (v : rx_V) : Nat := match v with
  | .inr (.inl _) => 2
  | _ => 1
noncomputable def rx_cats (S : List rx_V) : Nat := List.rec 0 (fun v _ ih => Nat.add (rx_cat v) ih) S
noncomputable def rx_fact (F : rx_F) (u : Nat × List (Nat × Nat)) : Nat × Nat := List.rec (0, 4294967295) (fun q _ ih => cond (decide (q.1 = u)) q.2 ih) F
noncomputable def rx_iv (F : rx_F) (x : rx_I) : Nat × Nat := match x with
  | .inl n => ((n + 2147483648) % 4294967296, (n + 2147483648) % 4294967296)
  | .inr u => rx_fact F u
noncomputable def rx_lt? (F : rx_F) (x y : rx_I) : Option Bool := cond (Nat.blt (rx_iv F x).2 (rx_iv F y).1) (some true) (cond (Nat.ble (rx_iv F y).2 (rx_iv F x).1) (some false) none)
noncomputable def rx_eq? (F : rx_F) (x y : rx_I) : Option Bool := cond (Nat.blt (rx_iv F x).2 (rx_iv F y).1) (some false) (cond (Nat.blt (rx_iv F y).2 (rx_iv F x).1) (some false) (cond (Nat.beq (rx_iv F x).1 (rx_iv F x).2 && (Nat.beq (rx_iv F y).1 (rx_iv F y).2 && Nat.beq (rx_iv F x).1 (rx_iv F y).1)) (some true) none))
/-- a script's int, or the number that its bounds make it -/
noncomputable def rx_nm (F : rx_F) (u : Nat × List (Nat × Nat)) : rx_I := cond (Nat.beq (rx_fact F u).1 (rx_fact F u).2 && Nat.blt (rx_fact F u).1 4294967296) (.inl (((rx_fact F u).1 + 2147483648) % 4294967296)) (.inr u)
noncomputable def rx_br {β : Type} (o : Option Bool) (t f : Option β) : Option β := match o with
  | some true => t
  | some false => f
  | none => none
noncomputable def rx_cmp {β : Type} (F : rx_F) (c : Jvm.ClassFile.Cond) (x y : rx_I) (t f : Option β) : Option β := match c with
  | .lt => rx_br (rx_lt? F x y) t f
  | .ge => rx_br (rx_lt? F x y) f t
  | .gt => rx_br (rx_lt? F y x) t f
  | .le => rx_br (rx_lt? F y x) f t
  | .eq => rx_br (rx_eq? F x y) t f
  | .ne => rx_br (rx_eq? F x y) f t
-- the instructions by kinds
noncomputable def rx_ld (q : Nat) (K : rx_K) (rest : List rx_E) (a : Nat) (L : rx_L) (S : List rx_V) (w : List rx_C) (cc ss : Nat) : Option rx_R := rx_get L a (fun v => match v with
  | .inl _ => cond (Nat.beq q 0) (K rest L (v :: S) w cc ss) none
  | .inr (.inl _) => cond (Nat.beq q 1) (K rest L (v :: S) w cc ss) none
  | .inr (.inr (.inl none)) => none
  | .inr (.inr _) => cond (Nat.beq q 2) (K rest L (v :: S) w cc ss) none)
def rx_P1 (a : Nat) (j : Nat) (v : rx_V) : Bool := Nat.beq j a || (Nat.beq (Nat.succ j) a && Nat.beq (rx_cat v) 2)
def rx_P2 (a : Nat) (j : Nat) (v : rx_V) : Bool := Nat.beq j a || (Nat.beq j (Nat.succ a) || (Nat.beq (Nat.succ j) a && Nat.beq (rx_cat v) 2))
noncomputable def rx_st (q nL : Nat) (K : rx_K) (rest : List rx_E) (a : Nat) (L : rx_L) (S : List rx_V) (w : List rx_C) (cc ss : Nat) : Option rx_R := match S with
  | v :: S' => (match v with
    | .inl _ => cond (Nat.beq q 0 && Nat.blt a nL) (rx_rem (rx_P1 a) L (fun L' => K rest ((a, v) :: L') S' w cc ss)) none
    | .inr (.inl _) => cond (Nat.beq q 1 && Nat.blt (Nat.succ a) nL) (rx_rem (rx_P2 a) L (fun L' => K rest ((a, v) :: L') S' w cc ss)) none
    | .inr (.inr (.inl none)) => none
    | .inr (.inr _) => cond (Nat.beq q 2 && Nat.blt a nL) (rx_rem (rx_P1 a) L (fun L' => K rest ((a, v) :: L') S' w cc ss)) none)
  | [] => none
noncomputable def rx_o2 (g : Nat → Nat → Bool) (f : Nat → Nat → Nat) (K : rx_K) (rest : List rx_E) (L : rx_L) (S : List rx_V) (w : List rx_C) (cc ss : Nat) : Option rx_R := match S with
  | .inl (.inl y) :: .inl (.inl x) :: S' => cond (g x y) (rx_fN (f x y) (fun z => K rest L (.inl (.inl z) :: S') w cc ss)) none
  | _ => none
noncomputable def rx_o2u (F : rx_F) (o : Nat) (g : Nat → Nat → Bool) (f : Nat → Nat → Nat) (K : rx_K) (rest : List rx_E) (L : rx_L) (S : List rx_V) (w : List rx_C) (cc ss : Nat) : Option rx_R := match S with
  | .inl (.inl y) :: .inl (.inl x) :: S' => cond (g x y) (rx_fN (f x y) (fun z => K rest L (.inl (.inl z) :: S') w cc ss)) none
  | .inl (.inl y) :: .inl (.inr u) :: S' => K rest L (.inl (rx_nm F (u.1, (o, y) :: u.2)) :: S') w cc ss
  | _ => none
noncomputable def rx_o1 (f : Nat → Nat) (K : rx_K) (rest : List rx_E) (L : rx_L) (S : List rx_V) (w : List rx_C) (cc ss : Nat) : Option rx_R := match S with
  | .inl (.inl x) :: S' => rx_fN (f x) (fun z => K rest L (.inl (.inl z) :: S') w cc ss)
  | _ => none
noncomputable def rx_l2 (g : Nat → Nat → Bool) (f : Nat → Nat → Nat) (K : rx_K) (rest : List rx_E) (L : rx_L) (S : List rx_V) (w : List rx_C) (cc ss : Nat) : Option rx_R := match S with
  | .inr (.inl (.inl y)) :: .inr (.inl (.inl x)) :: S' => cond (g x y) (rx_fN (f x y) (fun z => K rest L (.inr (.inl (.inl z)) :: S') w cc ss)) none
  | _ => none
noncomputable def rx_lsh (g : Nat → Bool) (f : Nat → Nat → Nat) (K : rx_K) (rest : List rx_E) (L : rx_L) (S : List rx_V) (w : List rx_C) (cc ss : Nat) : Option rx_R := match S with
  | .inl (.inl y) :: .inr (.inl (.inl x)) :: S' => cond (g x) (rx_fN (f x y) (fun z => K rest L (.inr (.inl (.inl z)) :: S') w cc ss)) none
  | _ => none
noncomputable def rx_lcmp (K : rx_K) (rest : List rx_E) (L : rx_L) (S : List rx_V) (w : List rx_C) (cc ss : Nat) : Option rx_R := match S with
  | .inr (.inl (.inl y)) :: .inr (.inl (.inl x)) :: S' => K rest L (.inl (.inl (cond (Nat.blt ((x + 9223372036854775808) % 18446744073709551616) ((y + 9223372036854775808) % 18446744073709551616)) 4294967295 (cond (Nat.blt ((y + 9223372036854775808) % 18446744073709551616) ((x + 9223372036854775808) % 18446744073709551616)) 1 0))) :: S') w cc ss
  | _ => none
noncomputable def rx_i2l (K : rx_K) (rest : List rx_E) (L : rx_L) (S : List rx_V) (w : List rx_C) (cc ss : Nat) : Option rx_R := match S with
  | .inl (.inl x) :: S' => cond (Nat.blt x 2147483648) (K rest L (.inr (.inl (.inl x)) :: S') w cc ss) none
  | .inl (.inr (k, [])) :: S' => K rest L (.inr (.inl (.inr k)) :: S') w cc ss
  | _ => none
noncomputable def rx_l2i (K : rx_K) (rest : List rx_E) (L : rx_L) (S : List rx_V) (w : List rx_C) (cc ss : Nat) : Option rx_R := match S with
  | .inr (.inl (.inl x)) :: S' => rx_fN (x % 4294967296) (fun z => K rest L (.inl (.inl z) :: S') w cc ss)
  | _ => none
noncomputable def rx_i2bS (F : rx_F) (K : rx_K) (rest : List rx_E) (L : rx_L) (S : List rx_V) (w : List rx_C) (cc ss : Nat) : Option rx_R := match S with
  | .inl (.inl x) :: S' => rx_fN (cond (Nat.blt (x % 256) 128) (x % 256) (x % 256 + 4294967040)) (fun z => K rest L (.inl (.inl z) :: S') w cc ss)
  | .inl (.inr u) :: S' => K rest L (.inl (rx_nm F (u.1, (2, 0) :: u.2)) :: S') w cc ss
  | _ => none
noncomputable def rx_dup (K : rx_K) (rest : List rx_E) (L : rx_L) (S : List rx_V) (w : List rx_C) (cc ss : Nat) : Option rx_R := match S with
  | v :: S' => cond (Nat.beq (rx_cat v) 1) (K rest L (v :: v :: S') w cc ss) none
  | _ => none
noncomputable def rx_dup2 (K : rx_K) (rest : List rx_E) (L : rx_L) (S : List rx_V) (w : List rx_C) (cc ss : Nat) : Option rx_R := match S with
  | v :: u :: S' => cond (Nat.beq (rx_cat v) 1 && Nat.beq (rx_cat u) 1) (K rest L (v :: u :: v :: u :: S') w cc ss) none
  | _ => none
noncomputable def rx_pop (K : rx_K) (rest : List rx_E) (L : rx_L) (S : List rx_V) (w : List rx_C) (cc ss : Nat) : Option rx_R := match S with
  | v :: S' => cond (Nat.beq (rx_cat v) 1) (K rest L S' w cc ss) none
  | _ => none
noncomputable def rx_ic (F : rx_F) (c : Jvm.ClassFile.Cond) (cd : List rx_E) (K : rx_K) (rest : List rx_E) (a : Nat) (L : rx_L) (S : List rx_V) (w : List rx_C) (cc ss : Nat) : Option rx_R := match S with
  | .inl y :: .inl x :: S' => rx_cmp F c x y (K (rx_find cd a) L S' w cc ss) (K rest L S' w cc ss)
  | _ => none
noncomputable def rx_if (F : rx_F) (c : Jvm.ClassFile.Cond) (cd : List rx_E) (K : rx_K) (rest : List rx_E) (a : Nat) (L : rx_L) (S : List rx_V) (w : List rx_C) (cc ss : Nat) : Option rx_R := match S with
  | .inl x :: S' => rx_cmp F c x (.inl 0) (K (rx_find cd a) L S' w cc ss) (K rest L S' w cc ss)
  | _ => none
noncomputable def rx_sw (F : rx_F) (cd : List rx_E) (K : rx_K) (a b c : Nat) (t : List Nat) (L : rx_L) (S : List rx_V) (w : List rx_C) (cc ss : Nat) : Option rx_R := match S with
  | .inl x :: S' => cond (Nat.blt (rx_iv F x).2 b || Nat.blt c (rx_iv F x).1) (K (rx_find cd a) L S' w cc ss) (cond (Nat.beq (rx_iv F x).1 (rx_iv F x).2) (rx_at t ((rx_iv F x).1 - b) (fun g => K (rx_find cd g) L S' w cc ss)) none)
  | _ => none
noncomputable def rx_gf (K : rx_K) (rest : List rx_E) (a b c : Nat) (L : rx_L) (S : List rx_V) (w : List rx_C) (cc ss : Nat) : Option rx_R := match S with
  | .inr (.inr (.inl (some k))) :: S' => cond (Nat.ble c 1) (rx_at w k (fun x => match x with
    | .inl o => cond (Nat.beq o.1 a) (rx_at o.2 b (fun v => K rest L (v :: S') w cc ss)) none
    | .inr _ => none)) none
  | .inr (.inr (.inr k)) :: S' => cond (Nat.beq k 1) (cond (Nat.beq c 2) (K rest L (.inr (.inr (.inr 2)) :: S') w cc ss) (cond (Nat.beq c 3) (K rest L (.inl (.inl 0) :: S') w cc ss) none)) none
  | _ => none
/-- whether a value may lie in a field or place of a kind: 0 int, 2 boolean, 3 long, 4 a reference -/
def rx_fit (q : Nat) (v : rx_V) : Bool := match v with
  | .inl (.inl n) => Nat.beq q 0 || (Nat.beq q 2 && Nat.ble n 1)
  | .inl (.inr _) => Nat.beq q 0
  | .inr (.inl _) => Nat.beq q 3
  | .inr (.inr _) => Nat.beq q 4
noncomputable def rx_pf (K : rx_K) (rest : List rx_E) (a b c : Nat) (L : rx_L) (S : List rx_V) (w : List rx_C) (cc ss : Nat) : Option rx_R := match S with
  | v :: .inr (.inr (.inl (some k))) :: S' => cond (rx_fit c v) (rx_at w k (fun x => match x with
    | .inl o => cond (Nat.beq o.1 a) (rx_set o.2 b v (fun fs => rx_set w k (.inl (o.1, fs)) (fun w' => K rest L S' w' cc ss))) none
    | .inr _ => none)) none
  | _ => none
/-- what an array's untouched place holds -/
def rx_df (t : Nat) : rx_V := match t with
  | 3 => .inr (.inl (.inl 0))
  | 4 => .inr (.inr (.inl none))
  | _ => .inl (.inl 0)
def rx_isK (q : Nat) (v : rx_V) : Bool := match v with
  | .inl _ => Nat.beq q 0 || Nat.beq q 1
  | .inr (.inl _) => Nat.beq q 3
  | .inr (.inr (.inl _)) => Nat.beq q 4
  | .inr (.inr (.inr _)) => false
noncomputable def rx_al (F : rx_F) (sl : Nat) (txt : List Nat) (q : Nat) (K : rx_K) (rest : List rx_E) (L : rx_L) (S : List rx_V) (w : List rx_C) (cc ss : Nat) : Option rx_R := match S with
  | .inl (.inl j) :: .inr (.inr (.inl (some k))) :: S' => rx_at w k (fun x => match x with
    | .inr (t, n, u) => cond (Nat.blt j n && (Nat.blt n 2147483648 && (Nat.beq t q || (Nat.beq q 1 && Nat.beq t 2)))) (cond (rx_isK q (rx_lk u j (rx_df t))) (K rest L (rx_lk u j (rx_df t) :: S') w cc ss) none) none
    | .inl _ => none)
  | .inl (.inl j) :: .inr (.inr (.inr k)) :: S' => cond (Nat.beq k 0) (cond (Nat.blt (Nat.succ j) sl && (Nat.blt sl 2147483648 && Nat.beq q 0)) (K rest L (.inl (rx_nm F (j, [])) :: S') w cc ss) none) (cond (Nat.beq k 2 && Nat.beq q 1) (rx_at txt j (fun z => K rest L (.inl (.inl z) :: S') w cc ss)) none)
  | _ => none
/-- what an array keeps of a value -/
def rx_nar (t : Nat) (v : rx_V) : rx_V := match t with
  | 1 => (match v with
    | .inl (.inl x) => .inl (.inl (cond (Nat.blt (x % 256) 128) (x % 256) (x % 256 + 4294967040)))
    | .inl (.inr u) => .inl (.inr (u.1, (2, 0) :: u.2))
    | y => y)
  | _ => v
noncomputable def rx_as (q : Nat) (K : rx_K) (rest : List rx_E) (L : rx_L) (S : List rx_V) (w : List rx_C) (cc ss : Nat) : Option rx_R := match S with
  | v :: .inl (.inl j) :: .inr (.inr (.inl (some k))) :: S' => rx_at w k (fun x => match x with
    | .inr (t, n, u) => cond (Nat.blt j n && (Nat.blt n 2147483648 && ((Nat.beq t q || (Nat.beq q 1 && Nat.beq t 2)) && rx_fit (cond (Nat.beq t 1) 0 t) v))) (rx_rem (fun i _ => Nat.beq i j) u (fun u' => rx_set w k (.inr (t, n, (j, rx_nar t v) :: u')) (fun w' => K rest L S' w' cc ss))) none
    | .inl _ => none)
  | _ => none
/-- a reference into an array of references: the object's class is looked at -/
noncomputable def rx_aq (a : Nat) (K : rx_K) (rest : List rx_E) (L : rx_L) (S : List rx_V) (w : List rx_C) (cc ss : Nat) : Option rx_R := match S with
  | .inr (.inr (.inl (some y))) :: _ => rx_at w y (fun x => match x with
    | .inl o => cond (Nat.beq o.1 a) (rx_as 4 K rest L S w cc ss) none
    | .inr _ => none)
  | _ => none
noncomputable def rx_len (sl tl : Nat) (K : rx_K) (rest : List rx_E) (L : rx_L) (S : List rx_V) (w : List rx_C) (cc ss : Nat) : Option rx_R := match S with
  | .inr (.inr (.inl (some k))) :: S' => rx_at w k (fun x => match x with
    | .inr (t, n, _) => cond (Nat.blt t 5) (K rest L (.inl (.inl n) :: S') w cc ss) none
    | .inl _ => none)
  | .inr (.inr (.inr k)) :: S' => cond (Nat.beq k 0) (cond (Nat.blt 0 sl) (K rest L (.inl (.inl (sl - 1)) :: S') w cc ss) none) (cond (Nat.beq k 2) (K rest L (.inl (.inl tl) :: S') w cc ss) none)
  | _ => none
noncomputable def rx_na (al : Bool) (mc ms t : Nat) (K : rx_K) (rest : List rx_E) (L : rx_L) (S : List rx_V) (w : List rx_C) (cc ss : Nat) : Option rx_R := match S with
  | .inl (.inl n) :: S' => cond (al && (Nat.ble n 67108864 && (Nat.ble (Nat.succ cc) mc && Nat.ble (ss + n) ms))) (rx_snoc w (.inr (t, n, [])) 0 (fun w' k => K rest L (.inr (.inr (.inl (some k))) :: S') w' (Nat.succ cc) (ss + n))) none
  | _ => none
noncomputable def rx_nw (al : Bool) (mc ms a b : Nat) (df : List rx_V) (K : rx_K) (rest : List rx_E) (L : rx_L) (S : List rx_V) (w : List rx_C) (cc ss : Nat) : Option rx_R := cond (al && (Nat.ble (Nat.succ cc) mc && Nat.ble (ss + b) ms)) (rx_snoc w (.inl (a, df)) 0 (fun w' k => K rest L (.inr (.inr (.inl (some k))) :: S) w' (Nat.succ cc) (ss + b))) none
noncomputable def rx_cpl (u : List (Nat × rx_V)) (sp dp : Nat) (tl : List (Nat × rx_V)) (n : Nat) : List (Nat × rx_V) := Nat.rec tl (fun m ih => (dp + m, rx_lk u (sp + m) (.inl (.inl 0))) :: ih) n
noncomputable def rx_cpy (K : rx_K) (rest : List rx_E) (L : rx_L) (S : List rx_V) (w : List rx_C) (cc ss : Nat) : Option rx_R := match S with
  | .inl (.inl n) :: .inl (.inl dp) :: .inr (.inr (.inl (some k1))) :: .inl (.inl sp) :: .inr (.inr (.inl (some k0))) :: S' => cond (Nat.ble (rx_cats S') 8) (rx_at w k0 (fun x => match x with
    | .inr (t0, n0, u0) => rx_at w k1 (fun y => match y with
      | .inr (t1, n1, u1) => cond (Nat.beq t0 0 && (Nat.beq t1 0 && (Nat.ble (sp + n) n0 && (Nat.ble (dp + n) n1 && (Nat.blt n0 2147483648 && Nat.blt n1 2147483648))))) (rx_set w k1 (.inr (t1, n1, rx_cpl u0 sp dp u1 n)) (fun w' => K rest L S' w' cc ss)) none
      | .inl _ => none)
    | .inl _ => none)) none
  | _ => none
/-- a call; q: 0 a method without a receiver in the world (static, constructor), 1 the receiver is an object of class a, 2 it is the text -/
noncomputable def rx_inv (al : Bool) (mc ms : Nat) (cap : Nat → Nat × Nat) (ex : Nat → List rx_V → List rx_C → Option (Option rx_V × List rx_C)) (K : rx_K) (rest : List rx_E) (nu n q a : Nat) (L : rx_L) (S : List rx_V) (w : List rx_C) (cc ss : Nat) : Option rx_R :=
  rx_take n S [] (fun as S' => cond (Nat.ble (rx_cats S') 8 && (Nat.ble (cc + (cap nu).1) mc && Nat.ble (ss + (cap nu).2) ms)) (match ex nu as w with
    | some (r, w') => (match q, as with
      | 0, _ => K rest L (match r with | some v => v :: S' | none => S') w' (cc + (cap nu).1) (ss + (cap nu).2)
      | 1, .inr (.inr (.inl (some k))) :: _ => rx_at w k (fun x => match x with
        | .inl o => cond (Nat.beq o.1 a) (K rest L (match r with | some v => v :: S' | none => S') w' (cc + (cap nu).1) (ss + (cap nu).2)) none
        | .inr _ => none)
      | 2, .inr (.inr (.inr k)) :: _ => cond (Nat.beq k 1) (K rest L (match r with | some v => v :: S' | none => S') w' (cc + (cap nu).1) (ss + (cap nu).2)) none
      | _, _ => none)
    | none => none) none)
noncomputable def rx_oi (K : rx_K) (rest : List rx_E) (L : rx_L) (S : List rx_V) (w : List rx_C) (cc ss : Nat) : Option rx_R := match S with
  | .inr (.inr (.inl (some _))) :: S' => cond (Nat.ble (rx_cats S') 8) (K rest L S' w cc ss) none
  | _ => none
noncomputable def rx_ii (nL : Nat) (K : rx_K) (rest : List rx_E) (a b : Nat) (L : rx_L) (S : List rx_V) (w : List rx_C) (cc ss : Nat) : Option rx_R := rx_get L a (fun v => match v with
  | .inl (.inl n) => cond (Nat.blt a nL) (rx_fN ((n + b) % 4294967296) (fun z => rx_rem (rx_P1 a) L (fun L' => K rest ((a, .inl (.inl z)) :: L') S w cc ss))) none
  | _ => none)
end
section
/-! a step, a run, a call. A table's row: code, locals, cells and slots that a call may make, the answer's kind (0 none, 1 int, 2 boolean, 3 byte, 4 char, 5 long) -/
abbrev rx_T : Type := List (List rx_E × Nat × Nat × Nat × Nat)
/-- bounds, whether cells may be made, the script's length, the text's bytes and length, the classes' blank fields -/
abbrev rx_G : Type := rx_F × Bool × Nat × List Nat × Nat × List (List rx_V)
noncomputable def rx_cap (tb : rx_T) (nu : Nat) : Nat × Nat := List.rec (fun _ => (0, 0)) (fun x _ ih n => Nat.rec (x.2.2.1, x.2.2.2.1) (fun m _ => ih m) n) tb nu
noncomputable def rx_step (G : rx_G) (cd : List rx_E) (nL mc ms : Nat) (cap : Nat → Nat × Nat) (ex : Nat → List rx_V → List rx_C → Option (Option rx_V × List rx_C)) (K : rx_K) (e : rx_E) (rest : List rx_E) (L : rx_L) (S : List rx_V) (w : List rx_C) (cc ss : Nat) : Option rx_R :=
  match e.2.1 with
  | .iconst _ => K rest L (.inl (.inl e.2.2.2.1) :: S) w cc ss
  | .bipush _ => K rest L (.inl (.inl e.2.2.2.1) :: S) w cc ss
  | .sipush _ => K rest L (.inl (.inl e.2.2.2.1) :: S) w cc ss
  | .ldc _ => cond (Nat.beq e.2.2.2.2.1 0) (K rest L (.inl (.inl e.2.2.2.1) :: S) w cc ss) (K rest L (.inr (.inr (.inr 1)) :: S) w cc ss)
  | .ldc_w _ => K rest L (.inl (.inl e.2.2.2.1) :: S) w cc ss
  | .lconst _ => K rest L (.inr (.inl (.inl e.2.2.2.1)) :: S) w cc ss
  | .ldc2_w _ => K rest L (.inr (.inl (.inl e.2.2.2.1)) :: S) w cc ss
  | .iload _ => rx_ld 0 K rest e.2.2.2.1 L S w cc ss
  | .iload_n _ => rx_ld 0 K rest e.2.2.2.1 L S w cc ss
  | .lload _ => rx_ld 1 K rest e.2.2.2.1 L S w cc ss
  | .lload_n _ => rx_ld 1 K rest e.2.2.2.1 L S w cc ss
  | .aload _ => rx_ld 2 K rest e.2.2.2.1 L S w cc ss
  | .aload_n _ => rx_ld 2 K rest e.2.2.2.1 L S w cc ss
  | .istore _ => rx_st 0 nL K rest e.2.2.2.1 L S w cc ss
  | .istore_n _ => rx_st 0 nL K rest e.2.2.2.1 L S w cc ss
  | .lstore _ => rx_st 1 nL K rest e.2.2.2.1 L S w cc ss
  | .lstore_n _ => rx_st 1 nL K rest e.2.2.2.1 L S w cc ss
  | .astore _ => rx_st 2 nL K rest e.2.2.2.1 L S w cc ss
  | .astore_n _ => rx_st 2 nL K rest e.2.2.2.1 L S w cc ss
  | .iinc _ _ => rx_ii nL K rest e.2.2.2.1 e.2.2.2.2.1 L S w cc ss
  | .iadd => rx_o2 (fun _ _ => true) (fun x y => (x + y) % 4294967296) K rest L S w cc ss
  | .isub => rx_o2 (fun _ _ => true) (fun x y => (x + (4294967296 - y % 4294967296)) % 4294967296) K rest L S w cc ss
  | .imul => rx_o2 (fun _ _ => true) (fun x y => (x * y) % 4294967296) K rest L S w cc ss
  | .ior => rx_o2 (fun _ _ => true) (fun x y => Nat.lor x y) K rest L S w cc ss
  | .ixor => rx_o2 (fun _ _ => true) (fun x y => Nat.xor x y) K rest L S w cc ss
  | .ishl => rx_o2 (fun _ _ => true) (fun x y => (x * 2 ^ (y % 32)) % 4294967296) K rest L S w cc ss
  | .iushr => rx_o2 (fun _ _ => true) (fun x y => x % 4294967296 / 2 ^ (y % 32)) K rest L S w cc ss
  | .idiv => rx_o2 (fun x y => Nat.blt x 2147483648 && (Nat.blt y 2147483648 && Nat.blt 0 y)) (fun x y => x / y) K rest L S w cc ss
  | .irem => rx_o2 (fun x y => Nat.blt x 2147483648 && (Nat.blt y 2147483648 && Nat.blt 0 y)) (fun x y => x % y) K rest L S w cc ss
  | .iand => rx_o2u G.1 0 (fun _ _ => true) (fun x y => Nat.land x y) K rest L S w cc ss
  | .ishr => rx_o2u G.1 1 (fun x _ => Nat.blt x 2147483648) (fun x y => x / 2 ^ (y % 32)) K rest L S w cc ss
  | .i2c => rx_o1 (fun x => x % 65536) K rest L S w cc ss
  | .i2b => rx_i2bS G.1 K rest L S w cc ss
  | .i2l => rx_i2l K rest L S w cc ss
  | .l2i => rx_l2i K rest L S w cc ss
  | .ladd => rx_l2 (fun _ _ => true) (fun x y => (x + y) % 18446744073709551616) K rest L S w cc ss
  | .lsub => rx_l2 (fun _ _ => true) (fun x y => (x + (18446744073709551616 - y % 18446744073709551616)) % 18446744073709551616) K rest L S w cc ss
  | .lmul => rx_l2 (fun _ _ => true) (fun x y => (x * y) % 18446744073709551616) K rest L S w cc ss
  | .land => rx_l2 (fun _ _ => true) (fun x y => Nat.land x y) K rest L S w cc ss
  | .lor => rx_l2 (fun _ _ => true) (fun x y => Nat.lor x y) K rest L S w cc ss
  | .ldiv => rx_l2 (fun x y => Nat.blt x 9223372036854775808 && (Nat.blt y 9223372036854775808 && Nat.blt 0 y)) (fun x y => x / y) K rest L S w cc ss
  | .lrem => rx_l2 (fun x y => Nat.blt x 9223372036854775808 && (Nat.blt y 9223372036854775808 && Nat.blt 0 y)) (fun x y => x % y) K rest L S w cc ss
  | .lcmp => rx_lcmp K rest L S w cc ss
  | .dup => rx_dup K rest L S w cc ss
  | .dup2 => rx_dup2 K rest L S w cc ss
  | .pop => rx_pop K rest L S w cc ss
  | .if_icmp c _ => rx_ic G.1 c cd K rest e.2.2.2.1 L S w cc ss
  | .ifCond c _ => rx_if G.1 c cd K rest e.2.2.2.1 L S w cc ss
  | .goto _ => K (rx_find cd e.2.2.2.1) L S w cc ss
  | .tableswitch _ _ _ _ => rx_sw G.1 cd K e.2.2.2.1 e.2.2.2.2.1 e.2.2.2.2.2.1 e.2.2.2.2.2.2 L S w cc ss
  | .getfield _ => rx_gf K rest e.2.2.2.1 e.2.2.2.2.1 e.2.2.2.2.2.1 L S w cc ss
  | .putfield _ => rx_pf K rest e.2.2.2.1 e.2.2.2.2.1 e.2.2.2.2.2.1 L S w cc ss
  | .getstatic _ => cond (Nat.beq e.2.2.2.1 0) (K rest L (.inl (.inl 1) :: S) w cc ss) (cond (Nat.beq e.2.2.2.1 1) (K rest L (.inr (.inr (.inr 3)) :: S) w cc ss) none)
  | .iaload => rx_al G.1 G.2.2.1 G.2.2.2.1 0 K rest L S w cc ss
  | .baload => rx_al G.1 G.2.2.1 G.2.2.2.1 1 K rest L S w cc ss
  | .laload => rx_al G.1 G.2.2.1 G.2.2.2.1 3 K rest L S w cc ss
  | .aaload => rx_al G.1 G.2.2.1 G.2.2.2.1 4 K rest L S w cc ss
  | .iastore => rx_as 0 K rest L S w cc ss
  | .bastore => rx_as 1 K rest L S w cc ss
  | .lastore => rx_as 3 K rest L S w cc ss
  | .aastore => rx_aq e.2.2.2.1 K rest L S w cc ss
  | .arraylength => rx_len G.2.2.1 G.2.2.2.2.1 K rest L S w cc ss
  | .newarray _ => rx_na G.2.1 mc ms e.2.2.2.1 K rest L S w cc ss
  | .anewarray _ => rx_na G.2.1 mc ms e.2.2.2.1 K rest L S w cc ss
  | .new _ => rx_at G.2.2.2.2.2 e.2.2.2.1 (fun df => rx_nw G.2.1 mc ms e.2.2.2.1 e.2.2.2.2.1 df K rest L S w cc ss)
  | .invokevirtual _ => rx_at e.2.2.2.2.2.2 0 (fun ci => rx_inv G.2.1 mc ms cap ex K rest e.2.2.2.1 e.2.2.2.2.1 e.2.2.2.2.2.1 ci L S w cc ss)
  | .invokespecial _ => cond (Nat.beq e.2.2.2.2.2.1 3) (rx_oi K rest L S w cc ss) (rx_at e.2.2.2.2.2.2 0 (fun ci => rx_inv G.2.1 mc ms cap ex K rest e.2.2.2.1 e.2.2.2.2.1 1 ci L S w cc ss))
  | .invokestatic _ => cond (Nat.beq e.2.2.2.2.2.1 4) (rx_cpy K rest L S w cc ss) (rx_inv G.2.1 mc ms cap ex K rest e.2.2.2.1 e.2.2.2.2.1 0 0 L S w cc ss)
  | .return_ => some (e :: rest, L, S, w, cc, ss)
  | .ireturn => some (e :: rest, L, S, w, cc, ss)
  | .lreturn => some (e :: rest, L, S, w, cc, ss)
  | _ => none
noncomputable def rx_loop (G : rx_G) (cd : List rx_E) (nL mc ms : Nat) (cap : Nat → Nat × Nat) (ex : Nat → List rx_V → List rx_C → Option (Option rx_V × List rx_C)) (stop n : Nat) : rx_K :=
  Nat.rec (fun _ _ _ _ _ _ => none) (fun _ ih cs L S w cc ss => match cs with
    | [] => none
    | e :: rest => cond (Nat.beq e.1 stop) (some (e :: rest, L, S, w, cc, ss)) (rx_step G cd nL mc ms cap ex ih e rest L S w cc ss)) n
noncomputable def rx_args (as : List rx_V) : Nat → rx_L := List.rec (fun _ => []) (fun v _ ih i => (i, v) :: ih (i + rx_cat v)) as
noncomputable def rx_end (q : Nat) (i : Jvm.ClassFile.Instr) (S : List rx_V) (w : List rx_C) : Option (Option rx_V × List rx_C) := match i with
  | .return_ => cond (Nat.beq q 0) (match S with | [] => some (none, w) | _ => none) none
  | .ireturn => (match S with
    | [.inl (.inl n)] => cond (Nat.beq q 1 || ((Nat.beq q 2 && Nat.ble n 1) || ((Nat.beq q 3 && Nat.blt n 128) || (Nat.beq q 4 && Nat.blt n 65536)))) (some (some (.inl (.inl n)), w)) none
    | [.inl (.inr u)] => cond (Nat.beq q 1) (some (some (.inl (.inr u)), w)) none
    | _ => none)
  | .lreturn => (match S with
    | [.inr (.inl x)] => cond (Nat.beq q 5) (some (some (.inr (.inl x)), w)) none
    | _ => none)
  | _ => none
noncomputable def rx_ex (G : rx_G) (tb : rx_T) (fuel d : Nat) : Nat → List rx_V → List rx_C → Option (Option rx_V × List rx_C) :=
  Nat.rec (fun _ _ _ => none) (fun _ ih nu as w => rx_at tb nu (fun m => cond (Nat.ble (rx_cats as) m.2.1) (match rx_loop G m.1 m.2.1 m.2.2.1 m.2.2.2.1 (rx_cap tb) ih 99999999 fuel m.1 (rx_args as 0) [] w 0 0 with
    | some (e :: _, _, S, w', cc, ss) => cond (Nat.beq m.2.2.1 cc && Nat.ble ss m.2.2.2.1) (rx_end m.2.2.2.2 e.2.1 S w') none
    | _ => none) none)) d
end
section
/-! WHAT IT MEANS. X: the script's ints, the first cell's address, the constants' addresses (0 the script, 1 the text, 2 its bytes, 3 a formatter or null), the array classes -/
abbrev rx_X : Type := (Nat → Int32) × Nat × (Nat → Option Nat) × (Nat → ClassId)
def rx_op (o : Nat) (x y : Int32) : Int32 := match o with
  | 0 => x &&& y
  | 1 => x >>> (y &&& 31)
  | 2 => x.toInt8.toInt32
  | _ => x
def rx_U (X : rx_X) (k : Nat) : List (Nat × Nat) → Int32
  | [] => X.1 k
  | q :: l => rx_op q.1 (rx_U X k l) (nI q.2)
def rx_N (X : rx_X) (x : rx_I) : Int32 := match x with
  | .inl n => nI n
  | .inr u => rx_U X u.1 u.2
def rx_d (X : rx_X) (v : rx_V) : Value := match v with
  | .inl i => .int (rx_N X i)
  | .inr (.inl (.inl n)) => .long (lN n)
  | .inr (.inl (.inr k)) => .long (X.1 k).toInt64
  | .inr (.inr (.inl none)) => .null
  | .inr (.inr (.inl (some k))) => .ref (X.2.1 + k)
  | .inr (.inr (.inr j)) => va_rf (X.2.2.1 j)
theorem rx_cat_d (X : rx_X) (v : rx_V) : (rx_d X v).category = rx_cat v := by
  rcases v with i | ((n | k) | ((_ | k) | j)) <;> try rfl
  show (va_rf (X.2.2.1 j)).category = 1
  cases X.2.2.1 j <;> rfl
def rx_vi (X : rx_X) (v : rx_V) : Int32 := match v with
  | .inl i => rx_N X i
  | _ => 0
def rx_vl (X : rx_X) (v : rx_V) : Int64 := match v with
  | .inr (.inl (.inl n)) => lN n
  | .inr (.inl (.inr k)) => (X.1 k).toInt64
  | _ => 0
def rx_vr (X : rx_X) (v : rx_V) : Option Nat := match v with
  | .inr (.inr (.inl (some k))) => some (X.2.1 + k)
  | _ => none
noncomputable def rx_ct (X : rx_X) (t : Nat) (u : List (Nat × rx_V)) : (Nat → Int32) ⊕ (Nat → Int64) ⊕ (Nat → UInt32) ⊕ (Nat → UInt64) ⊕ (Nat → Option Nat) := match t with
  | 3 => .inr (.inl (fun j => rx_vl X (rx_lk u j (rx_df 3))))
  | 4 => .inr (.inr (.inr (.inr (fun j => rx_vr X (rx_lk u j (rx_df 4))))))
  | _ => .inl (fun j => rx_vi X (rx_lk u j (rx_df 0)))
noncomputable def rx_ce (X : rx_X) (c : rx_C) : va_E := match c with
  | .inl o => .inr (o.1, o.2.map (rx_d X))
  | .inr a => .inl (X.2.2.2 a.1, a.2.1, rx_ct X a.1 a.2.2)
noncomputable def rx_w (X : rx_X) : Nat → List rx_C → va_W
  | _, [] => []
  | k, c :: t => (X.2.1 + k, rx_ce X c) :: rx_w X (k + 1) t
theorem rx_w_at (X : rx_X) : ∀ (w : List rx_C) (k i : Nat), (rx_w X k w)[i]? = (w[i]?).map (fun c => (X.2.1 + (k + i), rx_ce X c)) := by
  intro w
  induction w with
  | nil => intro k i; simp [rx_w]
  | cons c t ih =>
    intro k i
    cases i with
    | zero => simp [rx_w]
    | succ i =>
      simp only [rx_w, List.getElem?_cons_succ, ih]
      rw [show k + 1 + i = k + (i + 1) by omega]
theorem rx_w_get {X : rx_X} {w : List rx_C} {i : Nat} {c : rx_C} (h : w[i]? = some c) : (rx_w X 0 w)[i]? = some (X.2.1 + i, rx_ce X c) := by
  rw [rx_w_at, h, Option.map_some, Nat.zero_add]
theorem rx_w_set (X : rx_X) (c : rx_C) : ∀ (w : List rx_C) (k i : Nat), (rx_w X k w).set i (X.2.1 + (k + i), rx_ce X c) = rx_w X k (w.set i c) := by
  intro w
  induction w with
  | nil => intro k i; simp [rx_w]
  | cons d t ih =>
    intro k i
    cases i with
    | zero => simp [rx_w]
    | succ i =>
      simp only [rx_w, List.set_cons_succ]
      rw [← ih (k + 1) i, show k + 1 + i = k + (i + 1) by omega]
theorem rx_w_set0 {X : rx_X} {c : rx_C} {w : List rx_C} {i : Nat} : (rx_w X 0 w).set i (X.2.1 + i, rx_ce X c) = rx_w X 0 (w.set i c) := by
  have h := rx_w_set X c w 0 i
  rw [Nat.zero_add] at h
  exact h
theorem rx_w_app (X : rx_X) (c : rx_C) : ∀ (w : List rx_C) (k : Nat), rx_w X k (w ++ [c]) = rx_w X k w ++ [(X.2.1 + (k + w.length), rx_ce X c)] := by
  intro w
  induction w with
  | nil => intro k; simp [rx_w]
  | cons d t ih =>
    intro k
    simp only [rx_w, List.cons_append, ih, List.length_cons]
    rw [show k + 1 + t.length = k + (t.length + 1) by omega]
theorem rx_w_D (X : rx_X) (w : List rx_C) : va_D (fun q => X.2.1 ≤ q) (rx_w X 0 w) := by
  refine ⟨fun i j p q hi hj e => ?_, fun k q hk => ?_⟩
  · rw [rx_w_at] at hi hj
    cases h1 : w[i]? with
    | none => rw [h1] at hi; cases hi
    | some c =>
      cases h2 : w[j]? with
      | none => rw [h2] at hj; cases hj
      | some d =>
        rw [h1] at hi
        rw [h2] at hj
        cases hi
        cases hj
        simp only at e
        omega
  · rw [rx_w_at] at hk
    cases h1 : w[k]? with
    | none => rw [h1] at hk; cases hk
    | some c =>
      rw [h1] at hk
      cases hk
      exact Nat.le_add_right _ _
-- small things of Bool and Nat
theorem rx_c {α : Type} {b : Bool} {x : Option α} {r : α} (h : cond b x none = some r) : b = true ∧ x = some r := by
  cases b
  · cases h
  · exact ⟨rfl, h⟩
theorem rx_bq {a b : Nat} (h : Nat.beq a b = true) : a = b := Nat.eq_of_beq_eq_true h
theorem rx_bl {a b : Nat} (h : Nat.ble a b = true) : a ≤ b := Nat.le_of_ble_eq_true h
theorem rx_bt {a b : Nat} (h : Nat.blt a b = true) : a < b := Nat.le_of_ble_eq_true h
theorem rx_an {a b : Bool} (h : (a && b) = true) : a = true ∧ b = true := by simpa using h
theorem rx_bF {a b : Nat} (h : Nat.ble a b = false) : b < a := by
  rcases Nat.lt_or_ge b a with q | q
  · exact q
  · rw [Nat.ble_eq_true_of_le q] at h; cases h
-- facts of the script's ints
def rx_fok (X : rx_X) (F : rx_F) : Prop := ∀ q ∈ F, q.2.1 ≤ rx_b (rx_U X q.1.1 q.1.2) ∧ rx_b (rx_U X q.1.1 q.1.2) ≤ q.2.2
theorem rx_fact_ok {X : rx_X} {F : rx_F} (h : rx_fok X F) (u : Nat × List (Nat × Nat)) : (rx_fact F u).1 ≤ rx_b (rx_U X u.1 u.2) ∧ rx_b (rx_U X u.1 u.2) ≤ (rx_fact F u).2 := by
  induction F with
  | nil =>
    have h1 := rx_b_lt (rx_U X u.1 u.2)
    exact ⟨Nat.zero_le _, by show _ ≤ 4294967295; omega⟩
  | cons q t ih =>
    have ht : rx_fok X t := fun z hz => h z (List.mem_cons_of_mem _ hz)
    change (cond (decide (q.1 = u)) q.2 (rx_fact t u)).1 ≤ _ ∧ _ ≤ (cond (decide (q.1 = u)) q.2 (rx_fact t u)).2
    by_cases e : q.1 = u
    · rw [decide_eq_true e]
      have h1 := h q List.mem_cons_self
      rw [e] at h1
      exact h1
    · rw [decide_eq_false e]
      exact ih ht
theorem rx_iv_ok {X : rx_X} {F : rx_F} (h : rx_fok X F) (x : rx_I) : (rx_iv F x).1 ≤ rx_b (rx_N X x) ∧ rx_b (rx_N X x) ≤ (rx_iv F x).2 := by
  rcases x with n | u
  · have h1 := rx_b_nI n
    exact ⟨Nat.le_of_eq h1.symm, Nat.le_of_eq h1⟩
  · exact rx_fact_ok h u
theorem rx_lt_ok {X : rx_X} {F : rx_F} (h : rx_fok X F) {x y : rx_I} {b : Bool} (e : rx_lt? F x y = some b) : (rx_N X x < rx_N X y) ↔ b = true := by
  have h1 := rx_iv_ok h x
  have h2 := rx_iv_ok h y
  rw [rx_lt]
  unfold rx_lt? at e
  cases c1 : Nat.blt (rx_iv F x).2 (rx_iv F y).1 with
  | true =>
    rw [c1] at e
    cases e
    have := rx_bt c1
    exact ⟨fun _ => rfl, fun _ => by omega⟩
  | false =>
    rw [c1] at e
    cases c2 : Nat.ble (rx_iv F y).2 (rx_iv F x).1 with
    | true =>
      rw [c2] at e
      cases e
      have := rx_bl c2
      exact ⟨fun q => by omega, fun q => by cases q⟩
    | false => rw [c2] at e; cases e
theorem rx_eq_ok {X : rx_X} {F : rx_F} (h : rx_fok X F) {x y : rx_I} {b : Bool} (e : rx_eq? F x y = some b) : (rx_N X x = rx_N X y) ↔ b = true := by
  have h1 := rx_iv_ok h x
  have h2 := rx_iv_ok h y
  rw [rx_eq]
  unfold rx_eq? at e
  cases c1 : Nat.blt (rx_iv F x).2 (rx_iv F y).1 with
  | true =>
    rw [c1] at e
    cases e
    have := rx_bt c1
    exact ⟨fun q => by omega, fun q => by cases q⟩
  | false =>
    rw [c1] at e
    cases c2 : Nat.blt (rx_iv F y).2 (rx_iv F x).1 with
    | true =>
      rw [c2] at e
      cases e
      have := rx_bt c2
      exact ⟨fun q => by omega, fun q => by cases q⟩
    | false =>
      rw [c2] at e
      obtain ⟨c3, e⟩ := rx_c e
      cases e
      obtain ⟨g1, c4⟩ := rx_an c3
      obtain ⟨g2, g3⟩ := rx_an c4
      have g1 := rx_bq g1
      have g2 := rx_bq g2
      have g3 := rx_bq g3
      exact ⟨fun _ => rfl, fun _ => by omega⟩
theorem rx_nm_ok {X : rx_X} {F : rx_F} (h : rx_fok X F) (u : Nat × List (Nat × Nat)) : rx_N X (rx_nm F u) = rx_U X u.1 u.2 := by
  have h1 := rx_fact_ok h u
  unfold rx_nm
  cases c1 : (Nat.beq (rx_fact F u).1 (rx_fact F u).2 && Nat.blt (rx_fact F u).1 4294967296) with
  | true =>
    obtain ⟨g1, g2⟩ := rx_an c1
    have g1 := rx_bq g1
    have g2 := rx_bt g2
    show nI (((rx_fact F u).1 + 2147483648) % 4294967296) = _
    rw [rx_eq, rx_b_nI]
    omega
  | false => rfl
theorem rx_cmp_ok {X : rx_X} {F : rx_F} (h : rx_fok X F) {c : Jvm.ClassFile.Cond} {x y : rx_I} {t f : Option rx_R} {r : rx_R} (e : rx_cmp F c x y t f = some r) : match c with
    | .lt => (rx_N X x < rx_N X y ∧ t = some r) ∨ (¬ rx_N X x < rx_N X y ∧ f = some r)
    | .ge => (rx_N X y ≤ rx_N X x ∧ t = some r) ∨ (¬ rx_N X y ≤ rx_N X x ∧ f = some r)
    | .gt => (rx_N X y < rx_N X x ∧ t = some r) ∨ (¬ rx_N X y < rx_N X x ∧ f = some r)
    | .le => (rx_N X x ≤ rx_N X y ∧ t = some r) ∨ (¬ rx_N X x ≤ rx_N X y ∧ f = some r)
    | .eq => (rx_N X x = rx_N X y ∧ t = some r) ∨ (¬ rx_N X x = rx_N X y ∧ f = some r)
    | .ne => (¬ rx_N X x = rx_N X y ∧ t = some r) ∨ (rx_N X x = rx_N X y ∧ f = some r) := by
  have nl : ∀ a b : Int32, ¬ a < b ↔ b ≤ a := fun a b => Int32.not_lt
  cases c <;> (unfold rx_cmp at e; dsimp only at e ⊢)
  · cases q : rx_eq? F x y with
    | none => rw [q] at e; cases e
    | some b => rw [q] at e; have w := rx_eq_ok h q; cases b <;> simp_all [rx_br]
  · cases q : rx_eq? F x y with
    | none => rw [q] at e; cases e
    | some b => rw [q] at e; have w := rx_eq_ok h q; cases b <;> simp_all [rx_br]
  · cases q : rx_lt? F x y with
    | none => rw [q] at e; cases e
    | some b => rw [q] at e; have w := rx_lt_ok h q; cases b <;> simp_all [rx_br]
  · cases q : rx_lt? F x y with
    | none => rw [q] at e; cases e
    | some b => rw [q] at e; have w := rx_lt_ok h q; rw [← nl]; cases b <;> simp_all [rx_br]
  · cases q : rx_lt? F y x with
    | none => rw [q] at e; cases e
    | some b => rw [q] at e; have w := rx_lt_ok h q; cases b <;> simp_all [rx_br]
  · cases q : rx_lt? F y x with
    | none => rw [q] at e; cases e
    | some b => rw [q] at e; have w := rx_lt_ok h q; rw [← nl]; cases b <;> simp_all [rx_br]
end
section
/-! what a state must be: the tables' words, the classes, the constants -/
def rx_words : List Cond := lw_tbl.filter goodWord
theorem rx_words_good : GoodIn rx_words rx_words := fun w h => ⟨h, good_of_word (List.mem_filter.mp h).2⟩
def rx_isN (w : Cond) : Bool := match w with
  | .fieldLinkNest _ _ _ _ _ _ => true
  | .methodLinkNest _ _ _ _ => true
  | _ => false
def rx_NW : List Cond := lw_tbl.filter rx_isN
theorem rx_NW_warm {s U : State} (hW : s.WarmedH U.vm) (h : ∀ w ∈ rx_NW, va_Nw w s) : ∀ w ∈ rx_NW, va_Nw w U := by
  intro w hw
  have h1 := h w hw
  have h2 := (List.mem_filter.mp hw).2
  cases w <;> first | (exact va_Nw.warmF hW h1) | (exact va_Nw.warmM hW h1) | (cases h2)
def rx_tys (X : rx_X) : List (ClassId × FieldType) := [(X.2.2.2 0, .int), (X.2.2.2 1, .byte), (X.2.2.2 2, .boolean), (X.2.2.2 3, .long), (X.2.2.2 4, .object "GreyRoute$State")]
def rx_A (X : rx_X) : Nat → Prop := fun q => X.2.1 ≤ q
def rx_U0 (X : rx_X) (D : va_G) (G : rx_G) (U : State) : Prop :=
  va_K D vwCl (rx_tys X) U ∧ (∀ w ∈ rx_NW, va_Nw w U) ∧ va_AO "GreyRoute$State" U ∧
  (∃ b, X.2.2.1 0 = some b ∧ (0 < G.2.2.1 → va_X b (G.2.2.1 - 1) X.1 U U.heap) ∧ b < X.2.1) ∧
  (∃ (q1 q2 : Nat) (tx : String), X.2.2.1 1 = some q1 ∧ X.2.2.1 2 = some q2 ∧ vk_R "GreyRoute$Words" 38 tx q1 U ∧ va_O "java/lang/String" q1 (rx_A X) U U.heap ∧ va_OF "java/lang/String" "coder" "B" (.int 0) q1 (rx_A X) U U.heap ∧ va_OF "java/lang/String" "value" "[B" (.ref q2) q1 (rx_A X) U U.heap ∧ va_T .byte q2 G.2.2.2.2.1 (fun j => .int (nI (G.2.2.2.1.getD j 0))) (rx_A X) U U.heap) ∧
  va_Z "java/lang/String" "COMPACT_STRINGS" "Z" (.int 1) (rx_A X) U U.heap ∧
  va_Z "jdk/internal/util/Preconditions" "SIOOBE_FORMATTER" "Ljava/util/function/BiFunction;" (va_rf (X.2.2.1 3)) (rx_A X) U U.heap ∧ X.2.1 ≤ U.heap.size
theorem rx_U0.to {X : rx_X} {D : va_G} {G : rx_G} {s U : State} (hW : s.WarmedH U.vm) (hz : s.heap.size ≤ U.heap.size) (hk : ∀ q : Nat, q < s.heap.size → ¬ rx_A X q → U.heap[q]? = s.heap[q]?) (h : rx_U0 X D G s) : rx_U0 X D G U := by
  obtain ⟨h1, h2, h3, ⟨b, b1, b2, b3⟩, ⟨q1, q2, tx, c1, c2, c3, c4, c5, c6, c7⟩, h5, h6, h7⟩ := h
  have hal := hW.alike
  refine ⟨va_K.moved hal h1, rx_NW_warm hW h2, h3.moved hal, ⟨b, b1, ?_, b3⟩, ⟨q1, q2, tx, c1, c2, c3.warm hW, ?_, ?_, ?_, ?_⟩, ?_, ?_, Nat.le_trans h7 hz⟩
  · exact fun h9 => va_X.moved hal ((b2 h9).kept (hk b (Nat.lt_of_lt_of_le b3 h7) (Nat.not_le.mpr b3)))
  · exact va_O.moved hal (c4.kept hk)
  · exact va_OF.moved hal (c5.kept hk)
  · exact va_OF.moved hal (c6.kept hk)
  · exact va_T.moved hal (c7.kept hk)
  · exact va_Z.moved hal (h5.kept hk)
  · exact va_Z.moved hal (h6.kept hk)
/-- a method's start and end -/
def rx_Pc (X : rx_X) (D : va_G) (G : rx_G) (as : List rx_V) (w : List rx_C) : Array Value → State → Prop := fun v U =>
  v = (as.map (rx_d X)).toArray ∧ va_P D vwCl (rx_w X 0 w) U.heap ∧ (G.2.1 = true → U.heap.size ≤ X.2.1 + w.length) ∧ rx_U0 X D G U
def rx_Qc (X : rx_X) (D : va_G) (G : rx_G) (mc : Nat) (r : Option rx_V) (w : List rx_C) : Array Value → State → Outcome → State → Prop := fun _ st oc t =>
  oc = .returned (r.map (rx_d X)) ∧ va_P D vwCl (rx_w X 0 w) t.heap ∧ (G.2.1 = true → st.heap.size + mc ≤ X.2.1 + w.length) ∧ st.heap.size ≤ t.heap.size ∧ ∀ q : Nat, q < st.heap.size → ¬ rx_A X q → t.heap[q]? = st.heap[q]?
theorem rx_Pc_blind (X : rx_X) (D : va_G) (G : rx_G) (as : List rx_V) (w : List rx_C) : FrameBlind (rx_Pc X D G as w) := by
  intro a U g mk h
  obtain ⟨h1, h2, h3, h4⟩ := h
  exact ⟨h1, h2, h3, rx_U0.to (s := U) (U := U.calling g mk a) (State.WarmedH.refl U) (Nat.le_refl _) (fun _ _ _ => rfl) h4⟩
/-- a method: its name, bytes, locals, answer -/
abbrev rx_Y : Type := MethodName × ByteArray × Nat × Option FieldType
def rx_rm (d mc ms : Nat) : Room := { frames := d, cells := mc, slots := ms, locals := 64 * d }
def rx_Met (l : Launch) (d mc ms : Nat) (Y : rx_Y) (X : rx_X) (D : va_G) (G : rx_G) (as : List rx_V) (w : List rx_C) (r : Option rx_V) (w' : List rx_C) : Prop :=
  Met l Y.1 (Cond.code Y.1 Y.2.1 Y.2.2.1 Y.2.2.2 :: rx_words) (rx_rm d mc ms) (rx_Pc X D G as w) (rx_Qc X D G mc r w') mc ms (rx_A X)
/-- within a method's body -/
def rx_Cx (p : Program) (s : State) (m : MethodId) (args : Array Value) (c : Code) (X : rx_X) (D : va_G) (G : rx_G) (own : String) (cc : ByteArray) (nL : Nat) : Prop :=
  p.tables.exec = Jvm.exec ∧ c.code = cc ∧ c.maxLocals = nL ∧ s.vm.findClass own = some m.cls ∧ (∀ w ∈ rx_words, w.before args s = true) ∧ rx_U0 X D G s ∧ rx_fok X G.1
def rx_Iv (X : rx_X) (D : va_G) (G : rx_G) (s : State) (w : List rx_C) (cc : Nat) (H : Heap) (locs : List Loc) : Prop :=
  va_P D vwCl (rx_w X 0 w) H ∧ (G.2.1 = true → s.heap.size + cc ≤ X.2.1 + w.length) ∧ va_S (rx_A X) s.heap H locs
def rx_Lm (X : rx_X) (L : rx_L) : List (Nat × Value) := L.map (fun q => (q.1, rx_d X q.2))
def rx_W (p : Program) (l : Launch) (e : Env) (R : Room) (s : State) (m : MethodId) (args : Array Value) (below : List Frame) (meth : Method) (c : Code) (Q : State → Prop) (X : rx_X) (D : va_G) (G : rx_G) (nL pc : Nat) (L : rx_L) (S : List rx_V) (w : List rx_C) (cc ss : Nat) : Prop :=
  ∀ (H : Heap) (locs : List Loc) (ls : Array Slot), rx_Iv X D G s w cc H locs → lv_has ls nL (rx_Lm X L) → W p l e R s m args below meth c H locs cc ss Q (F0 m pc ls (S.map (rx_d X)))
theorem rx_Lm_mem {X : rx_X} {L : rx_L} {ls : Array Slot} {nL i : Nat} {v : rx_V} (hl : lv_has ls nL (rx_Lm X L)) (h : (i, v) ∈ L) : ls[i]? = some (.val (rx_d X v)) := hl.2.2 (i, rx_d X v) (List.mem_map.mpr ⟨(i, v), h, rfl⟩)
theorem rx_lv_mono {ls : Array Slot} {nL : Nat} {l l' : List (Nat × Value)} (h : lv_has ls nL l) (hs : ∀ q ∈ l', q ∈ l) : lv_has ls nL l' := ⟨h.1, h.2.1, fun q hq => h.2.2 q (hs q hq)⟩
theorem rx_bnf (a b : Nat) : Nat.beq a b = false ↔ ¬ a = b := by
  constructor
  · intro h e
    subst e
    have h2 : Nat.beq a a = true := Nat.beq_refl a
    rw [h2] at h
    cases h
  · intro h
    cases c : Nat.beq a b with
    | true => exact absurd (rx_bq c) h
    | false => rfl
theorem rx_lv1 {X : rx_X} {L : rx_L} {ls : Array Slot} {nL a : Nat} {v : rx_V} (h : lv_has ls nL ((a, rx_d X v) :: (rx_Lm X L).filter (fun q => !(q.1 == a) && !(q.1 + 1 == a && q.2.category == 2)))) : lv_has ls nL (rx_Lm X ((a, v) :: L.filter (fun q => !rx_P1 a q.1 q.2))) := by
  refine rx_lv_mono h (fun q hq => ?_)
  obtain ⟨z, hz, rfl⟩ := List.mem_map.mp hq
  rcases List.mem_cons.mp hz with rfl | hz
  · exact List.mem_cons_self
  · obtain ⟨h1, h2⟩ := List.mem_filter.mp hz
    refine List.mem_cons_of_mem _ (List.mem_filter.mpr ⟨List.mem_map.mpr ⟨z, h1, rfl⟩, ?_⟩)
    show (!(z.1 == a) && !(z.1 + 1 == a && (rx_d X z.2).category == 2)) = true
    rw [rx_cat_d]
    unfold rx_P1 at h2
    simpa [Bool.not_or, rx_bnf] using h2
theorem rx_lv2 {X : rx_X} {L : rx_L} {ls : Array Slot} {nL a : Nat} {v : rx_V} (h : lv_has ls nL ((a, rx_d X v) :: (rx_Lm X L).filter (fun q => !(q.1 == a) && (!(q.1 == a + 1) && !(q.1 + 1 == a && q.2.category == 2))))) : lv_has ls nL (rx_Lm X ((a, v) :: L.filter (fun q => !rx_P2 a q.1 q.2))) := by
  refine rx_lv_mono h (fun q hq => ?_)
  obtain ⟨z, hz, rfl⟩ := List.mem_map.mp hq
  rcases List.mem_cons.mp hz with rfl | hz
  · exact List.mem_cons_self
  · obtain ⟨h1, h2⟩ := List.mem_filter.mp hz
    refine List.mem_cons_of_mem _ (List.mem_filter.mpr ⟨List.mem_map.mpr ⟨z, h1, rfl⟩, ?_⟩)
    show (!(z.1 == a) && (!(z.1 == a + 1) && !(z.1 + 1 == a && (rx_d X z.2).category == 2))) = true
    rw [rx_cat_d]
    unfold rx_P2 at h2
    simpa [Bool.not_or, rx_bnf] using h2
theorem rx_W_size {p : Program} {l : Launch} {e : Env} {R : Room} {s : State} {m : MethodId} {args : Array Value} {below : List Frame} {meth : Method} {c : Code} {H : Heap} {locs : List Loc} {cells slots : Nat} {Q : State → Prop} {g : JFrame} (k : H.size ≤ s.heap.size + cells → W p l e R s m args below meth c H locs cells slots Q g) : W p l e R s m args below meth c H locs cells slots Q g := by
  intro T hT Y
  have h := Y.heapSize
  rw [hT] at h
  exact k h T hT Y
theorem rx_low {X : rx_X} {D : va_G} {G : rx_G} {s : State} {w : List rx_C} {cc : Nat} {H : Heap} {locs : List Loc} (hI : rx_Iv X D G s w cc H locs) (h0 : X.2.1 ≤ s.heap.size) : X.2.1 + w.length ≤ H.size := by
  rcases Nat.eq_zero_or_pos w.length with hz | hz
  · have := hI.2.2.1
    omega
  · have h1 : w[w.length - 1]? = some (w[w.length - 1]'(by omega)) := List.getElem?_eq_getElem (by omega)
    have h2 := (hI.1 _ _ (rx_w_get (X := X) h1)).lt
    simp only at h2
    omega
end
section
/-! an instruction of the executor is an instruction of the machine -/
def rx_hS (W : Nat → rx_L → List rx_V → List rx_C → Nat → Nat → Prop) (K : rx_K) (cs : List rx_E) (r : rx_R) (n : Nat) : Prop := ∀ (L : rx_L) (S : List rx_V) (w : List rx_C) (cc ss : Nat), K cs L S w cc ss = some r → W n L S w cc ss
section RXI
variable {p : Program} {l : Launch} {e : Env} {R : Room} {s : State} {m : MethodId} {args : Array Value} {below : List Frame} {meth : Method} {c : Code} {Q : State → Prop} {X : rx_X} {D : va_G} {G : rx_G} {own : String} {bc : ByteArray} {nL pc : Nat} {K : rx_K} {rest cd : List rx_E} {L : rx_L} {S : List rx_V} {w : List rx_C} {cc ss : Nat} {r : rx_R}
theorem rx_q_iconst (C : rx_Cx p s m args c X D G own bc nL) {n : Int} {a : Nat} (hv : Int32.ofInt n = nI a) (hd : decode bc pc = .ok (.iconst n, 1)) (hS : rx_hS (rx_W p l e R s m args below meth c Q X D G nL) K rest r (pc + 1)) (h : K rest L (.inl (.inl a) :: S) w cc ss = some r) : rx_W p l e R s m args below meth c Q X D G nL pc L S w cc ss := by
  intro H locs ls hI hl
  exact lv_iconst C.1 C.2.1 hd hv (hS _ _ _ _ _ h H locs ls hI hl)
theorem rx_q_bipush (C : rx_Cx p s m args c X D G own bc nL) {n : Int} {a : Nat} (hv : (Int8.ofInt n).toInt32 = nI a) (hd : decode bc pc = .ok (.bipush n, 2)) (hS : rx_hS (rx_W p l e R s m args below meth c Q X D G nL) K rest r (pc + 2)) (h : K rest L (.inl (.inl a) :: S) w cc ss = some r) : rx_W p l e R s m args below meth c Q X D G nL pc L S w cc ss := by
  intro H locs ls hI hl
  exact lv_bipush C.1 C.2.1 hd hv (hS _ _ _ _ _ h H locs ls hI hl)
theorem rx_q_sipush (C : rx_Cx p s m args c X D G own bc nL) {n : Int} {a : Nat} (hv : (Int16.ofInt n).toInt32 = nI a) (hd : decode bc pc = .ok (.sipush n, 3)) (hS : rx_hS (rx_W p l e R s m args below meth c Q X D G nL) K rest r (pc + 3)) (h : K rest L (.inl (.inl a) :: S) w cc ss = some r) : rx_W p l e R s m args below meth c Q X D G nL pc L S w cc ss := by
  intro H locs ls hI hl
  exact lv_sipush C.1 C.2.1 hd hv (hS _ _ _ _ _ h H locs ls hI hl)
theorem rx_q_ldc (C : rx_Cx p s m args c X D G own bc nL) {k : Nat} {a : Nat} (hv : Cond.constant own k (nI a) ∈ rx_words) (hd : decode bc pc = .ok (.ldc k, 2)) (hS : rx_hS (rx_W p l e R s m args below meth c Q X D G nL) K rest r (pc + 2)) (h : K rest L (.inl (.inl a) :: S) w cc ss = some r) : rx_W p l e R s m args below meth c Q X D G nL pc L S w cc ss := by
  intro H locs ls hI hl
  exact lv_ldc C.1 C.2.1 C.2.2.2.1 (C.2.2.2.2.1 _ hv) hd (hS _ _ _ _ _ h H locs ls hI hl)
theorem rx_q_ldcw (C : rx_Cx p s m args c X D G own bc nL) {k : Nat} {a : Nat} (hv : Cond.constant own k (nI a) ∈ rx_words) (hd : decode bc pc = .ok (.ldc_w k, 3)) (hS : rx_hS (rx_W p l e R s m args below meth c Q X D G nL) K rest r (pc + 3)) (h : K rest L (.inl (.inl a) :: S) w cc ss = some r) : rx_W p l e R s m args below meth c Q X D G nL pc L S w cc ss := by
  intro H locs ls hI hl
  exact lv_ldcw C.1 C.2.1 C.2.2.2.1 (C.2.2.2.2.1 _ hv) hd (hS _ _ _ _ _ h H locs ls hI hl)
theorem rx_q_lconst (C : rx_Cx p s m args c X D G own bc nL) {n : Fin 2} {a : Nat} (hv : Int64.ofNat (n : Nat) = lN a) (hd : decode bc pc = .ok (.lconst n, 1)) (hS : rx_hS (rx_W p l e R s m args below meth c Q X D G nL) K rest r (pc + 1)) (h : K rest L (.inr (.inl (.inl a)) :: S) w cc ss = some r) : rx_W p l e R s m args below meth c Q X D G nL pc L S w cc ss := by
  intro H locs ls hI hl
  exact lv_lconst C.1 C.2.1 hd hv (hS _ _ _ _ _ h H locs ls hI hl)
theorem rx_q_ldc2 (C : rx_Cx p s m args c X D G own bc nL) {k : Nat} {a : Nat} (hv : Cond.constantLong own k (lN a) ∈ rx_words) (hd : decode bc pc = .ok (.ldc2_w k, 3)) (hS : rx_hS (rx_W p l e R s m args below meth c Q X D G nL) K rest r (pc + 3)) (h : K rest L (.inr (.inl (.inl a)) :: S) w cc ss = some r) : rx_W p l e R s m args below meth c Q X D G nL pc L S w cc ss := by
  intro H locs ls hI hl
  exact lv_ldc2 C.1 C.2.1 C.2.2.2.1 (C.2.2.2.2.1 _ hv) hd (hS _ _ _ _ _ h H locs ls hI hl)
theorem rx_q_ldcS (C : rx_Cx p s m args c X D G own bc nL) (ho : own = "GreyRoute$Words") (hd : decode bc pc = .ok (.ldc 38, 2)) (hS : rx_hS (rx_W p l e R s m args below meth c Q X D G nL) K rest r (pc + 2)) (h : K rest L (.inr (.inr (.inr 1)) :: S) w cc ss = some r) : rx_W p l e R s m args below meth c Q X D G nL pc L S w cc ss := by
  intro H locs ls hI hl
  obtain ⟨-, -, -, hown, -, ⟨-, -, -, -, ⟨q1, q2, tx, c1, -, c3, -⟩, -⟩, -⟩ := id C
  subst ho
  have k := hS _ _ _ _ _ h H locs ls hI hl
  have e1 : rx_d X (.inr (.inr (.inr 1))) = .ref q1 := by show va_rf _ = _; rw [c1]; rfl
  rw [List.map_cons, e1] at k
  exact va_ldcS C.1 C.2.1 hown c3 hd k
theorem rx_q_iload (C : rx_Cx p s m args c X D G own bc nL) {a : Nat} (hd : decode bc pc = .ok (.iload a, 2)) (hS : rx_hS (rx_W p l e R s m args below meth c Q X D G nL) K rest r (pc + 2)) (h : rx_ld 0 K rest a L S w cc ss = some r) : rx_W p l e R s m args below meth c Q X D G nL pc L S w cc ss := by
  obtain ⟨v, hm, h⟩ := rx_get_ok h
  rcases v with i | (n | ((_ | k) | j))
  · obtain ⟨-, h⟩ := rx_c h
    intro H locs ls hI hl
    exact lv_iload C.1 C.2.1 hd (rx_Lm_mem hl hm) (hS _ _ _ _ _ h H locs ls hI hl)
  · exact absurd (rx_c h).1 (by decide)
  · cases h
  · exact absurd (rx_c h).1 (by decide)
  · exact absurd (rx_c h).1 (by decide)
theorem rx_q_iload_n (C : rx_Cx p s m args c X D G own bc nL) {a : Nat} {kn : Fin 4} (hk : (kn : Nat) = a) (hd : decode bc pc = .ok (.iload_n kn, 1)) (hS : rx_hS (rx_W p l e R s m args below meth c Q X D G nL) K rest r (pc + 1)) (h : rx_ld 0 K rest a L S w cc ss = some r) : rx_W p l e R s m args below meth c Q X D G nL pc L S w cc ss := by
  obtain ⟨v, hm, h⟩ := rx_get_ok h
  rcases v with i | (n | ((_ | k) | j))
  · obtain ⟨-, h⟩ := rx_c h
    intro H locs ls hI hl
    exact lv_iload_n C.1 C.2.1 hd hk (rx_Lm_mem hl hm) (hS _ _ _ _ _ h H locs ls hI hl)
  · exact absurd (rx_c h).1 (by decide)
  · cases h
  · exact absurd (rx_c h).1 (by decide)
  · exact absurd (rx_c h).1 (by decide)
theorem rx_q_lload (C : rx_Cx p s m args c X D G own bc nL) {a : Nat} (hd : decode bc pc = .ok (.lload a, 2)) (hS : rx_hS (rx_W p l e R s m args below meth c Q X D G nL) K rest r (pc + 2)) (h : rx_ld 1 K rest a L S w cc ss = some r) : rx_W p l e R s m args below meth c Q X D G nL pc L S w cc ss := by
  obtain ⟨v, hm, h⟩ := rx_get_ok h
  rcases v with i | (n | ((_ | k) | j))
  · exact absurd (rx_c h).1 (by decide)
  · obtain ⟨-, h⟩ := rx_c h
    intro H locs ls hI hl
    rcases n with n | n
    · exact lv_lload C.1 C.2.1 hd (rx_Lm_mem hl hm) (hS _ _ _ _ _ h H locs ls hI hl)
    · exact lv_lload C.1 C.2.1 hd (rx_Lm_mem hl hm) (hS _ _ _ _ _ h H locs ls hI hl)
  · cases h
  · exact absurd (rx_c h).1 (by decide)
  · exact absurd (rx_c h).1 (by decide)
theorem rx_q_lload_n (C : rx_Cx p s m args c X D G own bc nL) {a : Nat} {kn : Fin 4} (hk : (kn : Nat) = a) (hd : decode bc pc = .ok (.lload_n kn, 1)) (hS : rx_hS (rx_W p l e R s m args below meth c Q X D G nL) K rest r (pc + 1)) (h : rx_ld 1 K rest a L S w cc ss = some r) : rx_W p l e R s m args below meth c Q X D G nL pc L S w cc ss := by
  obtain ⟨v, hm, h⟩ := rx_get_ok h
  rcases v with i | (n | ((_ | k) | j))
  · exact absurd (rx_c h).1 (by decide)
  · obtain ⟨-, h⟩ := rx_c h
    intro H locs ls hI hl
    rcases n with n | n
    · exact lv_lload_n C.1 C.2.1 hd hk (rx_Lm_mem hl hm) (hS _ _ _ _ _ h H locs ls hI hl)
    · exact lv_lload_n C.1 C.2.1 hd hk (rx_Lm_mem hl hm) (hS _ _ _ _ _ h H locs ls hI hl)
  · cases h
  · exact absurd (rx_c h).1 (by decide)
  · exact absurd (rx_c h).1 (by decide)
theorem rx_q_aload (C : rx_Cx p s m args c X D G own bc nL) {a : Nat} (hd : decode bc pc = .ok (.aload a, 2)) (hS : rx_hS (rx_W p l e R s m args below meth c Q X D G nL) K rest r (pc + 2)) (h : rx_ld 2 K rest a L S w cc ss = some r) : rx_W p l e R s m args below meth c Q X D G nL pc L S w cc ss := by
  obtain ⟨v, hm, h⟩ := rx_get_ok h
  rcases v with i | (n | ((_ | k) | j))
  · exact absurd (rx_c h).1 (by decide)
  · exact absurd (rx_c h).1 (by decide)
  · cases h
  · obtain ⟨-, h⟩ := rx_c h
    intro H locs ls hI hl
    exact lv_aload C.1 C.2.1 hd (rx_Lm_mem hl hm) (hS _ _ _ _ _ h H locs ls hI hl)
  · obtain ⟨-, h⟩ := rx_c h
    intro H locs ls hI hl
    have k := hS _ _ _ _ _ h H locs ls hI hl
    have g := rx_Lm_mem hl hm
    rw [List.map_cons] at k
    have e0 : rx_d X (.inr (.inr (.inr j))) = va_rf (X.2.2.1 j) := rfl
    rw [e0] at k g
    cases ej : X.2.2.1 j with
    | none => rw [ej] at k g; exact lv_aloadN C.1 C.2.1 hd g k
    | some y => rw [ej] at k g; exact lv_aload C.1 C.2.1 hd g k
theorem rx_q_aload_n (C : rx_Cx p s m args c X D G own bc nL) {a : Nat} {kn : Fin 4} (hk : (kn : Nat) = a) (hd : decode bc pc = .ok (.aload_n kn, 1)) (hS : rx_hS (rx_W p l e R s m args below meth c Q X D G nL) K rest r (pc + 1)) (h : rx_ld 2 K rest a L S w cc ss = some r) : rx_W p l e R s m args below meth c Q X D G nL pc L S w cc ss := by
  obtain ⟨v, hm, h⟩ := rx_get_ok h
  rcases v with i | (n | ((_ | k) | j))
  · exact absurd (rx_c h).1 (by decide)
  · exact absurd (rx_c h).1 (by decide)
  · cases h
  · obtain ⟨-, h⟩ := rx_c h
    intro H locs ls hI hl
    exact lv_aload_n C.1 C.2.1 hd hk (rx_Lm_mem hl hm) (hS _ _ _ _ _ h H locs ls hI hl)
  · obtain ⟨-, h⟩ := rx_c h
    intro H locs ls hI hl
    have k := hS _ _ _ _ _ h H locs ls hI hl
    have g := rx_Lm_mem hl hm
    rw [List.map_cons] at k
    have e0 : rx_d X (.inr (.inr (.inr j))) = va_rf (X.2.2.1 j) := rfl
    rw [e0] at k g
    cases ej : X.2.2.1 j with
    | none => rw [ej] at k g; exact lv_aload_nN C.1 C.2.1 hd hk g k
    | some y => rw [ej] at k g; exact lv_aload_n C.1 C.2.1 hd hk g k
theorem rx_q_istore (C : rx_Cx p s m args c X D G own bc nL) {a : Nat} (hd : decode bc pc = .ok (.istore a, 2)) (hS : rx_hS (rx_W p l e R s m args below meth c Q X D G nL) K rest r (pc + 2)) (h : rx_st 0 nL K rest a L S w cc ss = some r) : rx_W p l e R s m args below meth c Q X D G nL pc L S w cc ss := by
  cases S with
  | nil => cases h
  | cons v S' =>
  rcases v with i | (n | ((_ | k) | j))
  · obtain ⟨hc, h⟩ := rx_c h
    have hn := rx_bt (rx_an hc).2
    rw [rx_rem_eq] at h
    intro H locs ls hI hl
    exact lv_istore C.1 C.2.1 hd hl hn rfl (fun ls' hl' => hS _ _ _ _ _ h H locs ls' hI (rx_lv1 (v := .inl i) hl'))
  · cases h
  · cases h
  · cases h
  · cases h
theorem rx_q_istore_n (C : rx_Cx p s m args c X D G own bc nL) {a : Nat} {kn : Fin 4} (hk : (kn : Nat) = a) (hd : decode bc pc = .ok (.istore_n kn, 1)) (hS : rx_hS (rx_W p l e R s m args below meth c Q X D G nL) K rest r (pc + 1)) (h : rx_st 0 nL K rest a L S w cc ss = some r) : rx_W p l e R s m args below meth c Q X D G nL pc L S w cc ss := by
  cases S with
  | nil => cases h
  | cons v S' =>
  rcases v with i | (n | ((_ | k) | j))
  · obtain ⟨hc, h⟩ := rx_c h
    have hn := rx_bt (rx_an hc).2
    rw [rx_rem_eq] at h
    intro H locs ls hI hl
    exact lv_istore_n C.1 C.2.1 hd hk hl hn rfl (fun ls' hl' => hS _ _ _ _ _ h H locs ls' hI (rx_lv1 (v := .inl i) hl'))
  · cases h
  · cases h
  · cases h
  · cases h
theorem rx_q_lstore (C : rx_Cx p s m args c X D G own bc nL) {a : Nat} (hd : decode bc pc = .ok (.lstore a, 2)) (hS : rx_hS (rx_W p l e R s m args below meth c Q X D G nL) K rest r (pc + 2)) (h : rx_st 1 nL K rest a L S w cc ss = some r) : rx_W p l e R s m args below meth c Q X D G nL pc L S w cc ss := by
  cases S with
  | nil => cases h
  | cons v S' =>
  rcases v with i | (n | ((_ | k) | j))
  · cases h
  · obtain ⟨hc, h⟩ := rx_c h
    have hn := rx_bt (rx_an hc).2
    rw [rx_rem_eq] at h
    intro H locs ls hI hl
    rcases n with n | n
    · exact lv_lstore C.1 C.2.1 hd hl hn rfl (fun ls' hl' => hS _ _ _ _ _ h H locs ls' hI (rx_lv2 (v := .inr (.inl (.inl n))) hl'))
    · exact lv_lstore C.1 C.2.1 hd hl hn rfl (fun ls' hl' => hS _ _ _ _ _ h H locs ls' hI (rx_lv2 (v := .inr (.inl (.inr n))) hl'))
  · cases h
  · cases h
  · cases h
theorem rx_q_lstore_n (C : rx_Cx p s m args c X D G own bc nL) {a : Nat} {kn : Fin 4} (hk : (kn : Nat) = a) (hd : decode bc pc = .ok (.lstore_n kn, 1)) (hS : rx_hS (rx_W p l e R s m args below meth c Q X D G nL) K rest r (pc + 1)) (h : rx_st 1 nL K rest a L S w cc ss = some r) : rx_W p l e R s m args below meth c Q X D G nL pc L S w cc ss := by
  cases S with
  | nil => cases h
  | cons v S' =>
  rcases v with i | (n | ((_ | k) | j))
  · cases h
  · obtain ⟨hc, h⟩ := rx_c h
    have hn := rx_bt (rx_an hc).2
    rw [rx_rem_eq] at h
    intro H locs ls hI hl
    rcases n with n | n
    · exact lv_lstore_n C.1 C.2.1 hd hk hl hn rfl (fun ls' hl' => hS _ _ _ _ _ h H locs ls' hI (rx_lv2 (v := .inr (.inl (.inl n))) hl'))
    · exact lv_lstore_n C.1 C.2.1 hd hk hl hn rfl (fun ls' hl' => hS _ _ _ _ _ h H locs ls' hI (rx_lv2 (v := .inr (.inl (.inr n))) hl'))
  · cases h
  · cases h
  · cases h
theorem rx_q_astore (C : rx_Cx p s m args c X D G own bc nL) {a : Nat} (hd : decode bc pc = .ok (.astore a, 2)) (hS : rx_hS (rx_W p l e R s m args below meth c Q X D G nL) K rest r (pc + 2)) (h : rx_st 2 nL K rest a L S w cc ss = some r) : rx_W p l e R s m args below meth c Q X D G nL pc L S w cc ss := by
  cases S with
  | nil => cases h
  | cons v S' =>
  rcases v with i | (n | ((_ | k) | j))
  · cases h
  · cases h
  · cases h
  · obtain ⟨hc, h⟩ := rx_c h
    have hn := rx_bt (rx_an hc).2
    rw [rx_rem_eq] at h
    intro H locs ls hI hl
    exact lv_astore C.1 C.2.1 hd hl hn rfl (fun ls' hl' => hS _ _ _ _ _ h H locs ls' hI (rx_lv1 (v := .inr (.inr (.inl (some k)))) hl'))
  · obtain ⟨hc, h⟩ := rx_c h
    have hn := rx_bt (rx_an hc).2
    rw [rx_rem_eq] at h
    intro H locs ls hI hl
    rw [List.map_cons]
    have e0 : rx_d X (.inr (.inr (.inr j))) = va_rf (X.2.2.1 j) := rfl
    rw [e0]
    have hb : ∀ ls' : Array Slot, lv_has ls' nL ((a, va_rf (X.2.2.1 j)) :: (rx_Lm X L).filter (fun q => !(q.1 == a) && !(q.1 + 1 == a && q.2.category == 2))) → _ := fun ls' hl' => hS _ _ _ _ _ h H locs ls' hI (rx_lv1 (v := .inr (.inr (.inr j))) hl')
    cases ej : X.2.2.1 j with
    | none => rw [ej] at hb; exact lv_astoreN C.1 C.2.1 hd hl hn rfl hb
    | some y => rw [ej] at hb; exact lv_astore C.1 C.2.1 hd hl hn rfl hb
theorem rx_q_astore_n (C : rx_Cx p s m args c X D G own bc nL) {a : Nat} {kn : Fin 4} (hk : (kn : Nat) = a) (hd : decode bc pc = .ok (.astore_n kn, 1)) (hS : rx_hS (rx_W p l e R s m args below meth c Q X D G nL) K rest r (pc + 1)) (h : rx_st 2 nL K rest a L S w cc ss = some r) : rx_W p l e R s m args below meth c Q X D G nL pc L S w cc ss := by
  cases S with
  | nil => cases h
  | cons v S' =>
  rcases v with i | (n | ((_ | k) | j))
  · cases h
  · cases h
  · cases h
  · obtain ⟨hc, h⟩ := rx_c h
    have hn := rx_bt (rx_an hc).2
    rw [rx_rem_eq] at h
    intro H locs ls hI hl
    exact lv_astore_n C.1 C.2.1 hd hk hl hn rfl (fun ls' hl' => hS _ _ _ _ _ h H locs ls' hI (rx_lv1 (v := .inr (.inr (.inl (some k)))) hl'))
  · obtain ⟨hc, h⟩ := rx_c h
    have hn := rx_bt (rx_an hc).2
    rw [rx_rem_eq] at h
    intro H locs ls hI hl
    rw [List.map_cons]
    have e0 : rx_d X (.inr (.inr (.inr j))) = va_rf (X.2.2.1 j) := rfl
    rw [e0]
    have hb : ∀ ls' : Array Slot, lv_has ls' nL ((a, va_rf (X.2.2.1 j)) :: (rx_Lm X L).filter (fun q => !(q.1 == a) && !(q.1 + 1 == a && q.2.category == 2))) → _ := fun ls' hl' => hS _ _ _ _ _ h H locs ls' hI (rx_lv1 (v := .inr (.inr (.inr j))) hl')
    cases ej : X.2.2.1 j with
    | none => rw [ej] at hb; exact lv_astore_nN C.1 C.2.1 hd hk hl hn rfl hb
    | some y => rw [ej] at hb; exact lv_astore_n C.1 C.2.1 hd hk hl hn rfl hb
theorem rx_q_iinc (C : rx_Cx p s m args c X D G own bc nL) {a b : Nat} {z : Int} (hz : Int32.ofInt z = nI b) (hd : decode bc pc = .ok (.iinc a z, 3)) (hS : rx_hS (rx_W p l e R s m args below meth c Q X D G nL) K rest r (pc + 3)) (h : rx_ii nL K rest a b L S w cc ss = some r) : rx_W p l e R s m args below meth c Q X D G nL pc L S w cc ss := by
  obtain ⟨v, hm, h⟩ := rx_get_ok h
  rcases v with (n | u) | q
  · obtain ⟨hn, h⟩ := rx_c h
    have hn := rx_bt hn
    rw [rx_fN_eq, rx_rem_eq] at h
    intro H locs ls hI hl
    have hmem : (a, Value.int (nI n)) ∈ rx_Lm X L := List.mem_map.mpr ⟨(a, .inl (.inl n)), hm, rfl⟩
    obtain ⟨i, hi⟩ := List.getElem?_of_mem hmem
    exact lv_iinc (v := nI ((n + b) % 4294967296)) C.1 C.2.1 hd hl hi (by rw [hz, rx_add]) hn rfl (fun ls' hl' => hS _ _ _ _ _ h H locs ls' hI (rx_lv1 (v := .inl (.inl ((n + b) % 4294967296))) hl'))
  · cases h
  · cases h
theorem rx_o2_ok {g : Nat → Nat → Bool} {f : Nat → Nat → Nat} (h : rx_o2 g f K rest L S w cc ss = some r) : ∃ x y S', S = .inl (.inl y) :: .inl (.inl x) :: S' ∧ g x y = true ∧ K rest L (.inl (.inl (f x y)) :: S') w cc ss = some r := by
  unfold rx_o2 at h
  split at h
  · obtain ⟨h1, h⟩ := rx_c h
    rw [rx_fN_eq] at h
    exact ⟨_, _, _, rfl, h1, h⟩
  · cases h
theorem rx_l2_ok {g : Nat → Nat → Bool} {f : Nat → Nat → Nat} (h : rx_l2 g f K rest L S w cc ss = some r) : ∃ x y S', S = .inr (.inl (.inl y)) :: .inr (.inl (.inl x)) :: S' ∧ g x y = true ∧ K rest L (.inr (.inl (.inl (f x y))) :: S') w cc ss = some r := by
  unfold rx_l2 at h
  split at h
  · obtain ⟨h1, h⟩ := rx_c h
    rw [rx_fN_eq] at h
    exact ⟨_, _, _, rfl, h1, h⟩
  · cases h
theorem rx_q_iadd (C : rx_Cx p s m args c X D G own bc nL) (hd : decode bc pc = .ok (.iadd, 1)) (hS : rx_hS (rx_W p l e R s m args below meth c Q X D G nL) K rest r (pc + 1)) (h : rx_o2 (fun _ _ => true) (fun x y => (x + y) % 4294967296) K rest L S w cc ss = some r) : rx_W p l e R s m args below meth c Q X D G nL pc L S w cc ss := by
  obtain ⟨x, y, S', rfl, hg, h⟩ := rx_o2_ok h
  intro H locs ls hI hl
  have k := hS _ _ _ _ _ h H locs ls hI hl
  have k : W p l e R s m args below meth c H locs cc ss Q (F0 m (pc + 1) ls (.int (nI ((x + y) % 4294967296)) :: S'.map (rx_d X))) := k
  rw [rx_add] at k
  exact lv_iadd C.1 C.2.1 hd  k
theorem rx_q_isub (C : rx_Cx p s m args c X D G own bc nL) (hd : decode bc pc = .ok (.isub, 1)) (hS : rx_hS (rx_W p l e R s m args below meth c Q X D G nL) K rest r (pc + 1)) (h : rx_o2 (fun _ _ => true) (fun x y => (x + (4294967296 - y % 4294967296)) % 4294967296) K rest L S w cc ss = some r) : rx_W p l e R s m args below meth c Q X D G nL pc L S w cc ss := by
  obtain ⟨x, y, S', rfl, hg, h⟩ := rx_o2_ok h
  intro H locs ls hI hl
  have k := hS _ _ _ _ _ h H locs ls hI hl
  have k : W p l e R s m args below meth c H locs cc ss Q (F0 m (pc + 1) ls (.int (nI ((x + (4294967296 - y % 4294967296)) % 4294967296)) :: S'.map (rx_d X))) := k
  rw [rx_sub] at k
  exact lv_isub C.1 C.2.1 hd  k
theorem rx_q_imul (C : rx_Cx p s m args c X D G own bc nL) (hd : decode bc pc = .ok (.imul, 1)) (hS : rx_hS (rx_W p l e R s m args below meth c Q X D G nL) K rest r (pc + 1)) (h : rx_o2 (fun _ _ => true) (fun x y => (x * y) % 4294967296) K rest L S w cc ss = some r) : rx_W p l e R s m args below meth c Q X D G nL pc L S w cc ss := by
  obtain ⟨x, y, S', rfl, hg, h⟩ := rx_o2_ok h
  intro H locs ls hI hl
  have k := hS _ _ _ _ _ h H locs ls hI hl
  have k : W p l e R s m args below meth c H locs cc ss Q (F0 m (pc + 1) ls (.int (nI ((x * y) % 4294967296)) :: S'.map (rx_d X))) := k
  rw [rx_mul] at k
  exact lv_imul C.1 C.2.1 hd  k
theorem rx_q_ior (C : rx_Cx p s m args c X D G own bc nL) (hd : decode bc pc = .ok (.ior, 1)) (hS : rx_hS (rx_W p l e R s m args below meth c Q X D G nL) K rest r (pc + 1)) (h : rx_o2 (fun _ _ => true) (fun x y => Nat.lor x y) K rest L S w cc ss = some r) : rx_W p l e R s m args below meth c Q X D G nL pc L S w cc ss := by
  obtain ⟨x, y, S', rfl, hg, h⟩ := rx_o2_ok h
  intro H locs ls hI hl
  have k := hS _ _ _ _ _ h H locs ls hI hl
  have k : W p l e R s m args below meth c H locs cc ss Q (F0 m (pc + 1) ls (.int (nI (Nat.lor x y)) :: S'.map (rx_d X))) := k
  rw [rx_or] at k
  exact lv_ior C.1 C.2.1 hd  k
theorem rx_q_ixor (C : rx_Cx p s m args c X D G own bc nL) (hd : decode bc pc = .ok (.ixor, 1)) (hS : rx_hS (rx_W p l e R s m args below meth c Q X D G nL) K rest r (pc + 1)) (h : rx_o2 (fun _ _ => true) (fun x y => Nat.xor x y) K rest L S w cc ss = some r) : rx_W p l e R s m args below meth c Q X D G nL pc L S w cc ss := by
  obtain ⟨x, y, S', rfl, hg, h⟩ := rx_o2_ok h
  intro H locs ls hI hl
  have k := hS _ _ _ _ _ h H locs ls hI hl
  have k : W p l e R s m args below meth c H locs cc ss Q (F0 m (pc + 1) ls (.int (nI (Nat.xor x y)) :: S'.map (rx_d X))) := k
  rw [rx_xor] at k
  exact lv_ixor C.1 C.2.1 hd  k
theorem rx_q_ishl (C : rx_Cx p s m args c X D G own bc nL) (hd : decode bc pc = .ok (.ishl, 1)) (hS : rx_hS (rx_W p l e R s m args below meth c Q X D G nL) K rest r (pc + 1)) (h : rx_o2 (fun _ _ => true) (fun x y => (x * 2 ^ (y % 32)) % 4294967296) K rest L S w cc ss = some r) : rx_W p l e R s m args below meth c Q X D G nL pc L S w cc ss := by
  obtain ⟨x, y, S', rfl, hg, h⟩ := rx_o2_ok h
  intro H locs ls hI hl
  have k := hS _ _ _ _ _ h H locs ls hI hl
  have k : W p l e R s m args below meth c H locs cc ss Q (F0 m (pc + 1) ls (.int (nI ((x * 2 ^ (y % 32)) % 4294967296)) :: S'.map (rx_d X))) := k
  rw [rx_shl] at k
  exact lv_ishl C.1 C.2.1 hd  k
theorem rx_q_idiv (C : rx_Cx p s m args c X D G own bc nL) (hd : decode bc pc = .ok (.idiv, 1)) (hS : rx_hS (rx_W p l e R s m args below meth c Q X D G nL) K rest r (pc + 1)) (h : rx_o2 (fun x y => Nat.blt x 2147483648 && (Nat.blt y 2147483648 && Nat.blt 0 y)) (fun x y => x / y) K rest L S w cc ss = some r) : rx_W p l e R s m args below meth c Q X D G nL pc L S w cc ss := by
  obtain ⟨x, y, S', rfl, hg, h⟩ := rx_o2_ok h
  intro H locs ls hI hl
  have k := hS _ _ _ _ _ h H locs ls hI hl
  obtain ⟨g1, hg⟩ := rx_an hg
  obtain ⟨g2, g3⟩ := rx_an hg
  have g1 := rx_bt g1
  have g2 := rx_bt g2
  have g3 := rx_bt g3
  have k : W p l e R s m args below meth c H locs cc ss Q (F0 m (pc + 1) ls (.int (nI (x / y)) :: S'.map (rx_d X))) := k
  rw [rx_div g1 g2 g3] at k
  exact lv_idiv C.1 C.2.1 hd (by intro q; have := (nI_eq (a := y) (b := 0) g2 (by decide)).mp q; omega) k
theorem rx_q_irem (C : rx_Cx p s m args c X D G own bc nL) (hd : decode bc pc = .ok (.irem, 1)) (hS : rx_hS (rx_W p l e R s m args below meth c Q X D G nL) K rest r (pc + 1)) (h : rx_o2 (fun x y => Nat.blt x 2147483648 && (Nat.blt y 2147483648 && Nat.blt 0 y)) (fun x y => x % y) K rest L S w cc ss = some r) : rx_W p l e R s m args below meth c Q X D G nL pc L S w cc ss := by
  obtain ⟨x, y, S', rfl, hg, h⟩ := rx_o2_ok h
  intro H locs ls hI hl
  have k := hS _ _ _ _ _ h H locs ls hI hl
  obtain ⟨g1, hg⟩ := rx_an hg
  obtain ⟨g2, g3⟩ := rx_an hg
  have g1 := rx_bt g1
  have g2 := rx_bt g2
  have g3 := rx_bt g3
  have k : W p l e R s m args below meth c H locs cc ss Q (F0 m (pc + 1) ls (.int (nI (x % y)) :: S'.map (rx_d X))) := k
  rw [rx_rem' g1 g2 g3] at k
  exact lv_irem C.1 C.2.1 hd (by intro q; have := (nI_eq (a := y) (b := 0) g2 (by decide)).mp q; omega) k
theorem rx_q_iushr (C : rx_Cx p s m args c X D G own bc nL) (hd : decode bc pc = .ok (.iushr, 1)) (hS : rx_hS (rx_W p l e R s m args below meth c Q X D G nL) K rest r (pc + 1)) (h : rx_o2 (fun _ _ => true) (fun x y => x % 4294967296 / 2 ^ (y % 32)) K rest L S w cc ss = some r) : rx_W p l e R s m args below meth c Q X D G nL pc L S w cc ss := by
  obtain ⟨x, y, S', rfl, hg, h⟩ := rx_o2_ok h
  intro H locs ls hI hl
  exact lv_iushr (v := nI (x % 4294967296 / 2 ^ (y % 32))) C.1 C.2.1 hd (rx_ushr x y).symm (hS _ _ _ _ _ h H locs ls hI hl)
theorem rx_q_ladd (C : rx_Cx p s m args c X D G own bc nL) (hd : decode bc pc = .ok (.ladd, 1)) (hS : rx_hS (rx_W p l e R s m args below meth c Q X D G nL) K rest r (pc + 1)) (h : rx_l2 (fun _ _ => true) (fun x y => (x + y) % 18446744073709551616) K rest L S w cc ss = some r) : rx_W p l e R s m args below meth c Q X D G nL pc L S w cc ss := by
  obtain ⟨x, y, S', rfl, hg, h⟩ := rx_l2_ok h
  intro H locs ls hI hl
  have k := hS _ _ _ _ _ h H locs ls hI hl
  have k : W p l e R s m args below meth c H locs cc ss Q (F0 m (pc + 1) ls (.long (lN ((x + y) % 18446744073709551616)) :: S'.map (rx_d X))) := k
  rw [rl_add] at k
  exact lv_ladd C.1 C.2.1 hd  k
theorem rx_q_lsub (C : rx_Cx p s m args c X D G own bc nL) (hd : decode bc pc = .ok (.lsub, 1)) (hS : rx_hS (rx_W p l e R s m args below meth c Q X D G nL) K rest r (pc + 1)) (h : rx_l2 (fun _ _ => true) (fun x y => (x + (18446744073709551616 - y % 18446744073709551616)) % 18446744073709551616) K rest L S w cc ss = some r) : rx_W p l e R s m args below meth c Q X D G nL pc L S w cc ss := by
  obtain ⟨x, y, S', rfl, hg, h⟩ := rx_l2_ok h
  intro H locs ls hI hl
  have k := hS _ _ _ _ _ h H locs ls hI hl
  have k : W p l e R s m args below meth c H locs cc ss Q (F0 m (pc + 1) ls (.long (lN ((x + (18446744073709551616 - y % 18446744073709551616)) % 18446744073709551616)) :: S'.map (rx_d X))) := k
  rw [rl_sub] at k
  exact lv_lsub C.1 C.2.1 hd  k
theorem rx_q_lmul (C : rx_Cx p s m args c X D G own bc nL) (hd : decode bc pc = .ok (.lmul, 1)) (hS : rx_hS (rx_W p l e R s m args below meth c Q X D G nL) K rest r (pc + 1)) (h : rx_l2 (fun _ _ => true) (fun x y => (x * y) % 18446744073709551616) K rest L S w cc ss = some r) : rx_W p l e R s m args below meth c Q X D G nL pc L S w cc ss := by
  obtain ⟨x, y, S', rfl, hg, h⟩ := rx_l2_ok h
  intro H locs ls hI hl
  have k := hS _ _ _ _ _ h H locs ls hI hl
  have k : W p l e R s m args below meth c H locs cc ss Q (F0 m (pc + 1) ls (.long (lN ((x * y) % 18446744073709551616)) :: S'.map (rx_d X))) := k
  rw [rl_mul] at k
  exact lv_lmul C.1 C.2.1 hd  k
theorem rx_q_land (C : rx_Cx p s m args c X D G own bc nL) (hd : decode bc pc = .ok (.land, 1)) (hS : rx_hS (rx_W p l e R s m args below meth c Q X D G nL) K rest r (pc + 1)) (h : rx_l2 (fun _ _ => true) (fun x y => Nat.land x y) K rest L S w cc ss = some r) : rx_W p l e R s m args below meth c Q X D G nL pc L S w cc ss := by
  obtain ⟨x, y, S', rfl, hg, h⟩ := rx_l2_ok h
  intro H locs ls hI hl
  have k := hS _ _ _ _ _ h H locs ls hI hl
  have k : W p l e R s m args below meth c H locs cc ss Q (F0 m (pc + 1) ls (.long (lN (Nat.land x y)) :: S'.map (rx_d X))) := k
  rw [rl_and] at k
  exact lv_land C.1 C.2.1 hd  k
theorem rx_q_lor (C : rx_Cx p s m args c X D G own bc nL) (hd : decode bc pc = .ok (.lor, 1)) (hS : rx_hS (rx_W p l e R s m args below meth c Q X D G nL) K rest r (pc + 1)) (h : rx_l2 (fun _ _ => true) (fun x y => Nat.lor x y) K rest L S w cc ss = some r) : rx_W p l e R s m args below meth c Q X D G nL pc L S w cc ss := by
  obtain ⟨x, y, S', rfl, hg, h⟩ := rx_l2_ok h
  intro H locs ls hI hl
  have k := hS _ _ _ _ _ h H locs ls hI hl
  have k : W p l e R s m args below meth c H locs cc ss Q (F0 m (pc + 1) ls (.long (lN (Nat.lor x y)) :: S'.map (rx_d X))) := k
  rw [rl_or] at k
  exact lv_lor C.1 C.2.1 hd  k
theorem rx_q_ldiv (C : rx_Cx p s m args c X D G own bc nL) (hd : decode bc pc = .ok (.ldiv, 1)) (hS : rx_hS (rx_W p l e R s m args below meth c Q X D G nL) K rest r (pc + 1)) (h : rx_l2 (fun x y => Nat.blt x 9223372036854775808 && (Nat.blt y 9223372036854775808 && Nat.blt 0 y)) (fun x y => x / y) K rest L S w cc ss = some r) : rx_W p l e R s m args below meth c Q X D G nL pc L S w cc ss := by
  obtain ⟨x, y, S', rfl, hg, h⟩ := rx_l2_ok h
  intro H locs ls hI hl
  have k := hS _ _ _ _ _ h H locs ls hI hl
  obtain ⟨g1, hg⟩ := rx_an hg
  obtain ⟨g2, g3⟩ := rx_an hg
  have g1 := rx_bt g1
  have g2 := rx_bt g2
  have g3 := rx_bt g3
  have k : W p l e R s m args below meth c H locs cc ss Q (F0 m (pc + 1) ls (.long (lN (x / y)) :: S'.map (rx_d X))) := k
  rw [rl_div g1 g2 g3] at k
  exact lv_ldiv C.1 C.2.1 hd (rl_ne0 g2 g3) k
theorem rx_q_lrem (C : rx_Cx p s m args c X D G own bc nL) (hd : decode bc pc = .ok (.lrem, 1)) (hS : rx_hS (rx_W p l e R s m args below meth c Q X D G nL) K rest r (pc + 1)) (h : rx_l2 (fun x y => Nat.blt x 9223372036854775808 && (Nat.blt y 9223372036854775808 && Nat.blt 0 y)) (fun x y => x % y) K rest L S w cc ss = some r) : rx_W p l e R s m args below meth c Q X D G nL pc L S w cc ss := by
  obtain ⟨x, y, S', rfl, hg, h⟩ := rx_l2_ok h
  intro H locs ls hI hl
  have k := hS _ _ _ _ _ h H locs ls hI hl
  obtain ⟨g1, hg⟩ := rx_an hg
  obtain ⟨g2, g3⟩ := rx_an hg
  have g1 := rx_bt g1
  have g2 := rx_bt g2
  have g3 := rx_bt g3
  have k : W p l e R s m args below meth c H locs cc ss Q (F0 m (pc + 1) ls (.long (lN (x % y)) :: S'.map (rx_d X))) := k
  rw [rl_rem g1 g2 g3] at k
  exact lv_lrem C.1 C.2.1 hd (rl_ne0 g2 g3) k
theorem rx_q_iand (C : rx_Cx p s m args c X D G own bc nL) (hd : decode bc pc = .ok (.iand, 1)) (hS : rx_hS (rx_W p l e R s m args below meth c Q X D G nL) K rest r (pc + 1)) (h : rx_o2u G.1 0 (fun _ _ => true) (fun x y => Nat.land x y) K rest L S w cc ss = some r) : rx_W p l e R s m args below meth c Q X D G nL pc L S w cc ss := by
  unfold rx_o2u at h
  split at h
  · rename_i y x S'
    obtain ⟨hg, h⟩ := rx_c h
    rw [rx_fN_eq] at h
    intro H locs ls hI hl
    have k := hS _ _ _ _ _ h H locs ls hI hl
    have k : W p l e R s m args below meth c H locs cc ss Q (F0 m (pc + 1) ls (.int (nI (Nat.land x y)) :: S'.map (rx_d X))) := k
    rw [rx_and] at k
    exact lv_iand C.1 C.2.1 hd k
  · rename_i y u S'
    intro H locs ls hI hl
    have k := hS _ _ _ _ _ h H locs ls hI hl
    have k : W p l e R s m args below meth c H locs cc ss Q (F0 m (pc + 1) ls (.int (rx_N X (rx_nm G.1 (u.1, (0, y) :: u.2))) :: S'.map (rx_d X))) := k
    rw [rx_nm_ok C.2.2.2.2.2.2] at k
    exact lv_iand C.1 C.2.1 hd k
  · cases h
theorem rx_q_ishr (C : rx_Cx p s m args c X D G own bc nL) (hd : decode bc pc = .ok (.ishr, 1)) (hS : rx_hS (rx_W p l e R s m args below meth c Q X D G nL) K rest r (pc + 1)) (h : rx_o2u G.1 1 (fun x _ => Nat.blt x 2147483648) (fun x y => x / 2 ^ (y % 32)) K rest L S w cc ss = some r) : rx_W p l e R s m args below meth c Q X D G nL pc L S w cc ss := by
  unfold rx_o2u at h
  split at h
  · rename_i y x S'
    obtain ⟨hg, h⟩ := rx_c h
    rw [rx_fN_eq] at h
    intro H locs ls hI hl
    have k := hS _ _ _ _ _ h H locs ls hI hl
    have k : W p l e R s m args below meth c H locs cc ss Q (F0 m (pc + 1) ls (.int (nI (x / 2 ^ (y % 32))) :: S'.map (rx_d X))) := k
    rw [rx_shr y (rx_bt hg)] at k
    exact lv_ishr C.1 C.2.1 hd k
  · rename_i y u S'
    intro H locs ls hI hl
    have k := hS _ _ _ _ _ h H locs ls hI hl
    have k : W p l e R s m args below meth c H locs cc ss Q (F0 m (pc + 1) ls (.int (rx_N X (rx_nm G.1 (u.1, (1, y) :: u.2))) :: S'.map (rx_d X))) := k
    rw [rx_nm_ok C.2.2.2.2.2.2] at k
    exact lv_ishr C.1 C.2.1 hd k
  · cases h
theorem rx_q_i2c (C : rx_Cx p s m args c X D G own bc nL) (hd : decode bc pc = .ok (.i2c, 1)) (hS : rx_hS (rx_W p l e R s m args below meth c Q X D G nL) K rest r (pc + 1)) (h : rx_o1 (fun x => x % 65536) K rest L S w cc ss = some r) : rx_W p l e R s m args below meth c Q X D G nL pc L S w cc ss := by
  unfold rx_o1 at h
  split at h
  · rename_i x S'
    rw [rx_fN_eq] at h
    intro H locs ls hI hl
    exact lv_i2c (v := nI (x % 65536)) C.1 C.2.1 hd (by rw [pk_char, show rx_N X (.inl x) = nI x from rfl, rx_tn]; exact congrArg nI (by omega)) (hS _ _ _ _ _ h H locs ls hI hl)
  · cases h
theorem rx_q_i2b (C : rx_Cx p s m args c X D G own bc nL) (hd : decode bc pc = .ok (.i2b, 1)) (hS : rx_hS (rx_W p l e R s m args below meth c Q X D G nL) K rest r (pc + 1)) (h : rx_i2bS G.1 K rest L S w cc ss = some r) : rx_W p l e R s m args below meth c Q X D G nL pc L S w cc ss := by
  unfold rx_i2bS at h
  split at h
  · rename_i x S'
    rw [rx_fN_eq] at h
    intro H locs ls hI hl
    exact lv_i2b C.1 C.2.1 hd (rx_i2b x).symm (hS _ _ _ _ _ h H locs ls hI hl)
  · rename_i u S'
    intro H locs ls hI hl
    have k := hS _ _ _ _ _ h H locs ls hI hl
    have k : W p l e R s m args below meth c H locs cc ss Q (F0 m (pc + 1) ls (.int (rx_N X (rx_nm G.1 (u.1, (2, 0) :: u.2))) :: S'.map (rx_d X))) := k
    rw [rx_nm_ok C.2.2.2.2.2.2] at k
    exact lv_i2b (v := rx_U X u.1 ((2, 0) :: u.2)) C.1 C.2.1 hd rfl k
  · cases h
theorem rx_q_i2l (C : rx_Cx p s m args c X D G own bc nL) (hd : decode bc pc = .ok (.i2l, 1)) (hS : rx_hS (rx_W p l e R s m args below meth c Q X D G nL) K rest r (pc + 1)) (h : rx_i2l K rest L S w cc ss = some r) : rx_W p l e R s m args below meth c Q X D G nL pc L S w cc ss := by
  unfold rx_i2l at h
  split at h
  · rename_i x S'
    obtain ⟨hg, h⟩ := rx_c h
    intro H locs ls hI hl
    exact lv_i2l (v := lN x) C.1 C.2.1 hd (nI_l (rx_bt hg)) (hS _ _ _ _ _ h H locs ls hI hl)
  · rename_i k S'
    intro H locs ls hI hl
    exact lv_i2l (v := (X.1 k).toInt64) C.1 C.2.1 hd rfl (hS _ _ _ _ _ h H locs ls hI hl)
  · cases h
theorem rx_q_l2i (C : rx_Cx p s m args c X D G own bc nL) (hd : decode bc pc = .ok (.l2i, 1)) (hS : rx_hS (rx_W p l e R s m args below meth c Q X D G nL) K rest r (pc + 1)) (h : rx_l2i K rest L S w cc ss = some r) : rx_W p l e R s m args below meth c Q X D G nL pc L S w cc ss := by
  unfold rx_l2i at h
  split at h
  · rename_i x S'
    rw [rx_fN_eq] at h
    intro H locs ls hI hl
    exact lv_l2i (v := nI (x % 4294967296)) C.1 C.2.1 hd (by rw [rx_nI_mod]; exact lN_i x) (hS _ _ _ _ _ h H locs ls hI hl)
  · cases h
theorem rx_q_lcmp (C : rx_Cx p s m args c X D G own bc nL) (hd : decode bc pc = .ok (.lcmp, 1)) (hS : rx_hS (rx_W p l e R s m args below meth c Q X D G nL) K rest r (pc + 1)) (h : rx_lcmp K rest L S w cc ss = some r) : rx_W p l e R s m args below meth c Q X D G nL pc L S w cc ss := by
  unfold rx_lcmp at h
  split at h
  · rename_i y x S'
    intro H locs ls hI hl
    have k := hS _ _ _ _ _ h H locs ls hI hl
    rw [List.map_cons] at k
    have e0 : ∀ n, rx_d X (.inl (.inl n)) = .int (nI n) := fun _ => rfl
    rw [e0, rl_cmp] at k
    exact W.lcmp C.1 C.2.1 hd k
  · cases h
theorem rx_q_dup (C : rx_Cx p s m args c X D G own bc nL) (hd : decode bc pc = .ok (.dup, 1)) (hS : rx_hS (rx_W p l e R s m args below meth c Q X D G nL) K rest r (pc + 1)) (h : rx_dup K rest L S w cc ss = some r) : rx_W p l e R s m args below meth c Q X D G nL pc L S w cc ss := by
  cases S with
  | nil => cases h
  | cons v S' =>
    obtain ⟨hg, h⟩ := rx_c h
    intro H locs ls hI hl
    exact lv_dup C.1 C.2.1 hd (by rw [rx_cat_d]; exact rx_bq hg) (hS _ _ _ _ _ h H locs ls hI hl)
theorem rx_q_pop (C : rx_Cx p s m args c X D G own bc nL) (hd : decode bc pc = .ok (.pop, 1)) (hS : rx_hS (rx_W p l e R s m args below meth c Q X D G nL) K rest r (pc + 1)) (h : rx_pop K rest L S w cc ss = some r) : rx_W p l e R s m args below meth c Q X D G nL pc L S w cc ss := by
  cases S with
  | nil => cases h
  | cons v S' =>
    obtain ⟨hg, h⟩ := rx_c h
    intro H locs ls hI hl
    exact lv_pop C.1 C.2.1 hd (by rw [rx_cat_d]; exact rx_bq hg) (hS _ _ _ _ _ h H locs ls hI hl)
theorem rx_q_dup2 (C : rx_Cx p s m args c X D G own bc nL) (hd : decode bc pc = .ok (.dup2, 1)) (hS : rx_hS (rx_W p l e R s m args below meth c Q X D G nL) K rest r (pc + 1)) (h : rx_dup2 K rest L S w cc ss = some r) : rx_W p l e R s m args below meth c Q X D G nL pc L S w cc ss := by
  cases S with
  | nil => cases h
  | cons v S' =>
    cases S' with
    | nil => cases h
    | cons u S' =>
      obtain ⟨hg, h⟩ := rx_c h
      obtain ⟨g1, g2⟩ := rx_an hg
      intro H locs ls hI hl
      exact lv_dup2_11 C.1 C.2.1 hd (by rw [rx_cat_d]; exact rx_bq g1) (by rw [rx_cat_d]; exact rx_bq g2) (hS _ _ _ _ _ h H locs ls hI hl)
theorem rx_q_icmp (C : rx_Cx p s m args c X D G own bc nL) {cn : Jvm.ClassFile.Cond} {off : Int} {a : Nat} (ht : (pc : Int) + off = (a : Int)) (hd : decode bc pc = .ok (.if_icmp cn off, 3)) (hS : rx_hS (rx_W p l e R s m args below meth c Q X D G nL) K rest r (pc + 3)) (hJ : ∀ t : Nat, rx_hS (rx_W p l e R s m args below meth c Q X D G nL) K (rx_find cd t) r t) (h : rx_ic G.1 cn cd K rest a L S w cc ss = some r) : rx_W p l e R s m args below meth c Q X D G nL pc L S w cc ss := by
  cases S with
  | nil => cases h
  | cons v S' =>
    rcases v with y | v
    · cases S' with
      | nil => cases h
      | cons v S' =>
        rcases v with x | v
        · intro H locs ls hI hl
          have h := rx_cmp_ok C.2.2.2.2.2.2 h
          cases cn
          · rcases h with ⟨q, h⟩ | ⟨q, h⟩
            · exact lv_icmp_eq C.1 C.2.1 hd ht (fun _ => hJ a _ _ _ _ _ h H locs ls hI hl) (fun z => absurd q z)
            · exact lv_icmp_eq C.1 C.2.1 hd ht (fun z => absurd z q) (fun _ => hS _ _ _ _ _ h H locs ls hI hl)
          · rcases h with ⟨q, h⟩ | ⟨q, h⟩
            · exact lv_icmp_ne C.1 C.2.1 hd ht (fun _ => hJ a _ _ _ _ _ h H locs ls hI hl) (fun z => absurd z q)
            · exact lv_icmp_ne C.1 C.2.1 hd ht (fun z => absurd q z) (fun _ => hS _ _ _ _ _ h H locs ls hI hl)
          · rcases h with ⟨q, h⟩ | ⟨q, h⟩
            · exact lv_icmp_lt C.1 C.2.1 hd ht (fun _ => hJ a _ _ _ _ _ h H locs ls hI hl) (fun z => absurd q z)
            · exact lv_icmp_lt C.1 C.2.1 hd ht (fun z => absurd z q) (fun _ => hS _ _ _ _ _ h H locs ls hI hl)
          · rcases h with ⟨q, h⟩ | ⟨q, h⟩
            · exact lv_icmp_ge C.1 C.2.1 hd ht (fun _ => hJ a _ _ _ _ _ h H locs ls hI hl) (fun z => absurd q z)
            · exact lv_icmp_ge C.1 C.2.1 hd ht (fun z => absurd z q) (fun _ => hS _ _ _ _ _ h H locs ls hI hl)
          · rcases h with ⟨q, h⟩ | ⟨q, h⟩
            · exact lv_icmp_gt C.1 C.2.1 hd ht (fun _ => hJ a _ _ _ _ _ h H locs ls hI hl) (fun z => absurd q z)
            · exact lv_icmp_gt C.1 C.2.1 hd ht (fun z => absurd z q) (fun _ => hS _ _ _ _ _ h H locs ls hI hl)
          · rcases h with ⟨q, h⟩ | ⟨q, h⟩
            · exact lv_icmp_le C.1 C.2.1 hd ht (fun _ => hJ a _ _ _ _ _ h H locs ls hI hl) (fun z => absurd q z)
            · exact lv_icmp_le C.1 C.2.1 hd ht (fun z => absurd z q) (fun _ => hS _ _ _ _ _ h H locs ls hI hl)
        · cases h
    · cases h
theorem rx_q_if (C : rx_Cx p s m args c X D G own bc nL) {cn : Jvm.ClassFile.Cond} {off : Int} {a : Nat} (ht : (pc : Int) + off = (a : Int)) (hd : decode bc pc = .ok (.ifCond cn off, 3)) (hS : rx_hS (rx_W p l e R s m args below meth c Q X D G nL) K rest r (pc + 3)) (hJ : ∀ t : Nat, rx_hS (rx_W p l e R s m args below meth c Q X D G nL) K (rx_find cd t) r t) (h : rx_if G.1 cn cd K rest a L S w cc ss = some r) : rx_W p l e R s m args below meth c Q X D G nL pc L S w cc ss := by
  cases S with
  | nil => cases h
  | cons v S' =>
    rcases v with x | v
    · intro H locs ls hI hl
      have h := rx_cmp_ok C.2.2.2.2.2.2 h
      have z0 : rx_N X (.inl 0) = 0 := rfl
      cases cn <;> simp only [z0] at h
      · rcases h with ⟨q, h⟩ | ⟨q, h⟩
        · exact lv_if_eq C.1 C.2.1 hd ht (fun _ => hJ a _ _ _ _ _ h H locs ls hI hl) (fun z => absurd q z)
        · exact lv_if_eq C.1 C.2.1 hd ht (fun z => absurd z q) (fun _ => hS _ _ _ _ _ h H locs ls hI hl)
      · rcases h with ⟨q, h⟩ | ⟨q, h⟩
        · exact lv_if_ne C.1 C.2.1 hd ht (fun _ => hJ a _ _ _ _ _ h H locs ls hI hl) (fun z => absurd z q)
        · exact lv_if_ne C.1 C.2.1 hd ht (fun z => absurd q z) (fun _ => hS _ _ _ _ _ h H locs ls hI hl)
      · rcases h with ⟨q, h⟩ | ⟨q, h⟩
        · exact lv_if_lt C.1 C.2.1 hd ht (fun _ => hJ a _ _ _ _ _ h H locs ls hI hl) (fun z => absurd q z)
        · exact lv_if_lt C.1 C.2.1 hd ht (fun z => absurd z q) (fun _ => hS _ _ _ _ _ h H locs ls hI hl)
      · rcases h with ⟨q, h⟩ | ⟨q, h⟩
        · exact lv_if_ge C.1 C.2.1 hd ht (fun _ => hJ a _ _ _ _ _ h H locs ls hI hl) (fun z => absurd q z)
        · exact lv_if_ge C.1 C.2.1 hd ht (fun z => absurd z q) (fun _ => hS _ _ _ _ _ h H locs ls hI hl)
      · rcases h with ⟨q, h⟩ | ⟨q, h⟩
        · exact lv_if_gt C.1 C.2.1 hd ht (fun _ => hJ a _ _ _ _ _ h H locs ls hI hl) (fun z => absurd q z)
        · exact lv_if_gt C.1 C.2.1 hd ht (fun z => absurd z q) (fun _ => hS _ _ _ _ _ h H locs ls hI hl)
      · rcases h with ⟨q, h⟩ | ⟨q, h⟩
        · exact lv_if_le C.1 C.2.1 hd ht (fun _ => hJ a _ _ _ _ _ h H locs ls hI hl) (fun z => absurd q z)
        · exact lv_if_le C.1 C.2.1 hd ht (fun z => absurd z q) (fun _ => hS _ _ _ _ _ h H locs ls hI hl)
    · cases h
theorem rx_q_goto (C : rx_Cx p s m args c X D G own bc nL) {off : Int} {a : Nat} (ht : (pc : Int) + off = (a : Int)) (hd : decode bc pc = .ok (.goto off, 3)) (hJ : ∀ t : Nat, rx_hS (rx_W p l e R s m args below meth c Q X D G nL) K (rx_find cd t) r t) (h : K (rx_find cd a) L S w cc ss = some r) : rx_W p l e R s m args below meth c Q X D G nL pc L S w cc ss := by
  intro H locs ls hI hl
  exact lv_goto C.1 C.2.1 hd ht (hJ a _ _ _ _ _ h H locs ls hI hl)
end RXI
end
section
/-! fields, arrays, switches -/
theorem rx_nar_bool {n : Nat} (h : n ≤ 1) : narrow .boolean (.int (nI n)) = .int (nI n) := by
  rcases (show n = 0 ∨ n = 1 by omega) with rfl | rfl <;> decide
theorem rx_fit_bool {n : Nat} (h : n ≤ 1) : fits .boolean (.int (nI n)) = true := by
  rcases (show n = 0 ∨ n = 1 by omega) with rfl | rfl <;> decide
/-- a field's type is of a kind -/
def rx_kd (q : Nat) (ty : FieldType) : Bool := match ty with
  | .int => Nat.beq q 0
  | .boolean => Nat.beq q 2
  | .long => Nat.beq q 3
  | .object _ => Nat.beq q 4
  | .array _ => Nat.beq q 4
  | _ => false
theorem rx_fits {X : rx_X} {q : Nat} {ty : FieldType} {v : rx_V} (hk : rx_kd q ty = true) (hf : rx_fit q v = true) : narrow ty (rx_d X v) = rx_d X v ∧ fits ty (rx_d X v) = true := by
  have hr : ∀ (o : Option Nat) (C : String), narrow (.object C) (va_rf o) = va_rf o ∧ fits (.object C) (va_rf o) = true := fun o C => by cases o <;> exact ⟨rfl, rfl⟩
  have ha : ∀ (o : Option Nat) (C : FieldType), narrow (.array C) (va_rf o) = va_rf o ∧ fits (.array C) (va_rf o) = true := fun o C => by cases o <;> exact ⟨rfl, rfl⟩
  cases ty <;> first | (cases hk; done) | skip
  · have hq : q = 0 := rx_bq hk
    subst hq
    rcases v with (n | u) | ((n | n) | ((_ | k) | j)) <;> first | (cases hf; done) | exact ⟨rfl, rfl⟩
  · have hq : q = 3 := rx_bq hk
    subst hq
    rcases v with (n | u) | ((n | n) | ((_ | k) | j)) <;> first | (cases hf; done) | exact ⟨rfl, rfl⟩
  · have hq : q = 2 := rx_bq hk
    subst hq
    rcases v with (n | u) | ((n | n) | ((_ | k) | j))
    · have h1 : n ≤ 1 := rx_bl hf
      exact ⟨rx_nar_bool h1, rx_fit_bool h1⟩
    · cases hf
    · cases hf
    · cases hf
    · cases hf
    · cases hf
    · cases hf
  · have hq : q = 4 := rx_bq hk
    subst hq
    rcases v with (n | u) | ((n | n) | ((_ | k) | j)) <;> first | (cases hf; done) | exact ⟨rfl, rfl⟩ | exact hr _ _
  · have hq : q = 4 := rx_bq hk
    subst hq
    rcases v with (n | u) | ((n | n) | ((_ | k) | j)) <;> first | (cases hf; done) | exact ⟨rfl, rfl⟩ | exact ha _ _
theorem rx_lk_put (u : List (Nat × rx_V)) (j : Nat) (v d : rx_V) (i : Nat) : rx_lk ((j, v) :: u.filter (fun q => !Nat.beq q.1 j)) i d = if i = j then v else rx_lk u i d := by
  change cond (Nat.beq j i) v (rx_lk (u.filter (fun q => !Nat.beq q.1 j)) i d) = _
  by_cases e : i = j
  · subst e
    have h2 : Nat.beq i i = true := Nat.beq_refl i
    rw [h2, if_pos rfl]
    rfl
  · rw [(rx_bnf j i).mpr (fun z => e z.symm), if_neg e]
    show rx_lk _ i d = _
    induction u with
    | nil => rfl
    | cons q t ih =>
      cases hq : Nat.beq q.1 j with
      | true =>
        have e1 := rx_bq hq
        rw [List.filter_cons_of_neg (by simp [hq])]
        rw [ih]
        change _ = cond (Nat.beq q.1 i) q.2 (rx_lk t i d)
        rw [e1, (rx_bnf j i).mpr (fun z => e z.symm)]
        rfl
      | false =>
        rw [List.filter_cons_of_pos (by simp [hq])]
        change cond (Nat.beq q.1 i) q.2 (rx_lk (t.filter _) i d) = cond (Nat.beq q.1 i) q.2 (rx_lk t i d)
        rw [ih]
section RXH
variable {p : Program} {l : Launch} {e : Env} {R : Room} {s : State} {m : MethodId} {args : Array Value} {below : List Frame} {meth : Method} {c : Code} {Q : State → Prop} {X : rx_X} {D : va_G} {G : rx_G} {own : String} {bc : ByteArray} {nL pc : Nat} {K : rx_K} {rest cd : List rx_E} {L : rx_L} {S : List rx_V} {w : List rx_C} {cc ss : Nat} {r : rx_R}
theorem rx_q_tsw (C : rx_Cx p s m args c X D G own bc nL) {dflt lo hi : Int} {offs : Array Int} {len a b d : Nat} {t : List Nat} (hd : decode bc pc = .ok (.tableswitch dflt lo hi offs, len)) (hlo : (b : Int) = lo + 2147483648) (hhi : (d : Int) = hi + 2147483648) (ha : (pc : Int) + dflt = (a : Int)) (ht : ∀ (j g : Nat), t[j]? = some g → ∃ off, offs[j]? = some off ∧ (pc : Int) + off = (g : Int)) (hJ : ∀ t : Nat, rx_hS (rx_W p l e R s m args below meth c Q X D G nL) K (rx_find cd t) r t) (h : rx_sw G.1 cd K a b d t L S w cc ss = some r) : rx_W p l e R s m args below meth c Q X D G nL pc L S w cc ss := by
  unfold rx_sw at h
  split at h
  · rename_i x S'
    intro H locs ls hI hl
    have h1 := rx_iv_ok C.2.2.2.2.2.2 x
    have h2 := rx_b_int (rx_N X x)
    cases hc : (Nat.blt (rx_iv G.1 x).2 b || Nat.blt d (rx_iv G.1 x).1) with
    | true =>
      rw [hc] at h
      have ho : (rx_N X x).toInt < lo ∨ hi < (rx_N X x).toInt := by
        rcases Bool.or_eq_true_iff.mp hc with q | q
        · have := rx_bt q; left; omega
        · have := rx_bt q; right; omega
      exact lv_tableOut C.1 C.2.1 hd ho ha (hJ a _ _ _ _ _ h H locs ls hI hl)
    | false =>
      rw [hc] at h
      have hn := Bool.or_eq_false_iff.mp hc
      have hn1 : ¬ (rx_iv G.1 x).2 < b := fun q => by have := Nat.ble_eq_true_of_le (show (rx_iv G.1 x).2 + 1 ≤ b from q); rw [show Nat.blt (rx_iv G.1 x).2 b = true from this] at hn; cases hn.1
      have hn2 : ¬ d < (rx_iv G.1 x).1 := fun q => by have := Nat.ble_eq_true_of_le (show d + 1 ≤ (rx_iv G.1 x).1 from q); rw [show Nat.blt d (rx_iv G.1 x).1 = true from this] at hn; cases hn.2
      obtain ⟨hq, h⟩ := rx_c h
      have hq := rx_bq hq
      obtain ⟨g, g1, h⟩ := rx_at_ok h
      obtain ⟨off, g2, g3⟩ := ht _ _ g1
      refine lv_tableIn (off := off) C.1 C.2.1 hd (by omega) (by omega) ?_ g3 (hJ g _ _ _ _ _ h H locs ls hI hl)
      rw [show ((rx_N X x).toInt - lo).toNat = (rx_iv G.1 x).1 - b by omega]
      exact g2
  · cases h
theorem rx_gf_ok {a b d : Nat} (h : rx_gf K rest a b d L S w cc ss = some r) : (∃ (k : Nat) (S' fs : List rx_V) (v : rx_V), S = .inr (.inr (.inl (some k))) :: S' ∧ d ≤ 1 ∧ w[k]? = some (.inl (a, fs)) ∧ fs[b]? = some v ∧ K rest L (v :: S') w cc ss = some r) ∨ (∃ S' : List rx_V, S = .inr (.inr (.inr 1)) :: S' ∧ ((d = 2 ∧ K rest L (.inr (.inr (.inr 2)) :: S') w cc ss = some r) ∨ (d = 3 ∧ K rest L (.inl (.inl 0) :: S') w cc ss = some r))) := by
  unfold rx_gf at h
  split at h
  · rename_i k S'
    obtain ⟨h0, h⟩ := rx_c h
    obtain ⟨x, h1, h5⟩ := rx_at_ok h
    rcases x with ⟨o1, o2⟩ | o
    · obtain ⟨h2, h6⟩ := rx_c h5
      obtain ⟨v, h3, h7⟩ := rx_at_ok h6
      have h2 : o1 = a := rx_bq h2
      rw [h2] at h1
      exact Or.inl ⟨k, S', o2, v, rfl, rx_bl h0, h1, h3, h7⟩
    · cases h5
  · rename_i k S'
    obtain ⟨h0, h5⟩ := rx_c h
    have h0 := rx_bq h0
    refine Or.inr ⟨S', by rw [h0], ?_⟩
    cases c2 : Nat.beq d 2 with
    | true => rw [c2] at h5; exact Or.inl ⟨rx_bq c2, h5⟩
    | false =>
      rw [c2] at h5
      obtain ⟨h6, h7⟩ := rx_c h5
      exact Or.inr ⟨rx_bq h6, h7⟩
  · cases h
theorem rx_q_getf (C : rx_Cx p s m args c X D G own bc nL) {a b d idx : Nat} {Cn : String} {T : u_T} {N : Nat} (hd : decode bc pc = .ok (.getfield idx, 3)) (hin : ∀ w ∈ u_ws Cn T N, w ∈ rx_words) (hS : rx_hS (rx_W p l e R s m args below meth c Q X D G nL) K rest r (pc + 3))
    (hl0 : d ≤ 1 → vwCl[a]? = some (Cn, T, N) ∧ b < N ∧ ((Cond.fieldLink own idx (T b).1 (T b).2.1 (T b).2.2.1 ∈ rx_words) ∨ (∃ host, Cond.fieldLinkNest own idx (T b).1 (T b).2.1 (T b).2.2.1 host ∈ rx_NW)))
    (hl2 : d = 2 → Cond.fieldLink own idx "java/lang/String" "value" "[B" ∈ rx_words) (hl3 : d = 3 → Cond.fieldLink own idx "java/lang/String" "coder" "B" ∈ rx_words) (h : rx_gf K rest a b d L S w cc ss = some r) : rx_W p l e R s m args below meth c Q X D G nL pc L S w cc ss := by
  obtain ⟨hx, hb, -, hown, hts, ⟨hK, hNW, -, -, ⟨q1, q2, tx, c1, c2, c3, c4, c5, c6, c7⟩, -⟩, -⟩ := id C
  rcases rx_gf_ok h with ⟨k, S', fs, v, rfl, hd1, h1, h2, h⟩ | ⟨S', rfl, ⟨hd2, h⟩ | ⟨hd3, h⟩⟩
  · intro H locs ls hI hl
    obtain ⟨hc, hk, hlk⟩ := hl0 hd1
    have kk := hS _ _ _ _ _ h H locs ls hI hl
    have hv : (fs.map (rx_d X))[b]? = some (rx_d X v) := by rw [List.getElem?_map, h2]; rfl
    rcases hlk with hlk | ⟨host, hlk⟩
    · exact va_get (D := D) (ci := a) (v := rx_d X v) (C := Cn) (T := T) (N := N) hx hb hts hin hown hK hI.1 k (rx_w_get h1) hc b hk (hts _ hlk) (fun _ h9 => h9) hv hd kk
    · exact va_getN (D := D) (ci := a) (v := rx_d X v) (C := Cn) (T := T) (N := N) hx hb hts hin hown hK hI.1 k (rx_w_get h1) hc b hk (va_Nw.use rfl (hNW _ hlk)) (fun _ h9 => h9) hv hd kk
  · intro H locs ls hI hl
    have kk := hS _ _ _ _ _ h H locs ls hI hl
    have e1 : rx_d X (.inr (.inr (.inr 1))) = .ref q1 := by show va_rf _ = _; rw [c1]; rfl
    have e2 : rx_d X (.inr (.inr (.inr 2))) = .ref q2 := by show va_rf _ = _; rw [c2]; rfl
    rw [List.map_cons, e2] at kk
    rw [List.map_cons, e1]
    exact vk_getf hx hb c6 hI.2.2 hown (hts _ (hl2 hd2)) (fun _ h9 => h9) hd kk
  · intro H locs ls hI hl
    have kk := hS _ _ _ _ _ h H locs ls hI hl
    have e1 : rx_d X (.inr (.inr (.inr 1))) = .ref q1 := by show va_rf _ = _; rw [c1]; rfl
    have e2 : rx_d X (.inl (.inl 0)) = .int 0 := rfl
    rw [List.map_cons, e2] at kk
    rw [List.map_cons, e1]
    exact vk_getf hx hb c5 hI.2.2 hown (hts _ (hl3 hd3)) (fun _ h9 => h9) hd kk
theorem rx_q_gets (C : rx_Cx p s m args c X D G own bc nL) {a idx : Nat} (hd : decode bc pc = .ok (.getstatic idx, 3)) (hS : rx_hS (rx_W p l e R s m args below meth c Q X D G nL) K rest r (pc + 3))
    (h0 : a = 0 → Cond.fieldLink own idx "java/lang/String" "COMPACT_STRINGS" "Z" ∈ rx_words) (h1 : a = 1 → Cond.fieldLink own idx "jdk/internal/util/Preconditions" "SIOOBE_FORMATTER" "Ljava/util/function/BiFunction;" ∈ rx_words)
    (h : cond (Nat.beq a 0) (K rest L (.inl (.inl 1) :: S) w cc ss) (cond (Nat.beq a 1) (K rest L (.inr (.inr (.inr 3)) :: S) w cc ss) none) = some r) : rx_W p l e R s m args below meth c Q X D G nL pc L S w cc ss := by
  obtain ⟨hx, hb, -, hown, hts, ⟨-, -, -, -, -, hZ1, hZ2, -⟩, -⟩ := id C
  intro H locs ls hI hl
  cases ha : Nat.beq a 0 with
  | true =>
    rw [ha] at h
    exact va_gets hx hb hZ1 hI.2.2 hown (hts _ (h0 (rx_bq ha))) (fun _ h9 => h9) hd (hS _ _ _ _ _ h H locs ls hI hl)
  | false =>
    rw [ha] at h
    obtain ⟨ha1, h⟩ := rx_c h
    exact va_gets hx hb hZ2 hI.2.2 hown (hts _ (h1 (rx_bq ha1))) (fun _ h9 => h9) hd (hS _ _ _ _ _ h H locs ls hI hl)
theorem rx_set_lt {α β : Type} : ∀ (l : List α) (b : Nat) (v : α) (k : List α → Option β) (r : β), rx_set l b v k = some r → b < l.length := by
  intro l
  induction l with
  | nil => intro b v k r h; cases h
  | cons x t ih =>
    intro b v k r h
    cases b with
    | zero => simp
    | succ b => have := ih b v _ r h; simpa using this
theorem rx_pf_ok {a b d : Nat} (h : rx_pf K rest a b d L S w cc ss = some r) : ∃ (k : Nat) (v : rx_V) (S' fs : List rx_V), S = v :: .inr (.inr (.inl (some k))) :: S' ∧ rx_fit d v = true ∧ w[k]? = some (.inl (a, fs)) ∧ b < fs.length ∧ K rest L S' (w.set k (.inl (a, fs.set b v))) cc ss = some r := by
  unfold rx_pf at h
  split at h
  · rename_i v k S'
    obtain ⟨h0, h4⟩ := rx_c h
    obtain ⟨x, h1, h5⟩ := rx_at_ok h4
    rcases x with ⟨o1, o2⟩ | o
    · obtain ⟨h2, h6⟩ := rx_c h5
      have hlt := rx_set_lt _ _ _ _ _ h6
      have h7 := rx_set_ok (rx_set_ok h6)
      have h2 : o1 = a := rx_bq h2
      rw [h2] at h1 h7
      exact ⟨k, v, S', o2, rfl, h0, h1, hlt, h7⟩
    · cases h5
  · cases h
theorem rx_Iv_set {k : Nat} {c1 : rx_C} {H H1 : Heap} {locs locs1 : List Loc} (hI : rx_Iv X D G s w cc H locs) (hP : va_P D vwCl ((rx_w X 0 w).set k (X.2.1 + k, rx_ce X c1)) H1) (hV : va_S (rx_A X) s.heap H1 locs1) : rx_Iv X D G s (w.set k c1) cc H1 locs1 := by
  refine ⟨by rw [← rx_w_set0]; exact hP, fun q => ?_, hV⟩
  rw [List.length_set]
  exact hI.2.1 q
theorem rx_q_putf (C : rx_Cx p s m args c X D G own bc nL) {a b d idx : Nat} {Cn : String} {T : u_T} {N : Nat} {ty0 : Nat → FieldType} (hd : decode bc pc = .ok (.putfield idx, 3)) (hin : ∀ w ∈ u_ws Cn T N, w ∈ rx_words) (hty : ∀ k, k < N → parseFieldDescriptor (T k).2.2.1 = some (ty0 k)) (hnm : ∀ a, a < N → ∀ b, b < N → a ≠ b → (T a).2.1 ≠ (T b).2.1) (hS : rx_hS (rx_W p l e R s m args below meth c Q X D G nL) K rest r (pc + 3))
    (hc : vwCl[a]? = some (Cn, T, N)) (hk : b < N) (hlk : Cond.fieldLink own idx (T b).1 (T b).2.1 (T b).2.2.1 ∈ rx_words) (hkd : rx_kd d (ty0 b) = true) (hfin : (T b).2.2.2 = true → (T b).1 = own ∧ meth.name = "<init>") (h : rx_pf K rest a b d L S w cc ss = some r) : rx_W p l e R s m args below meth c Q X D G nL pc L S w cc ss := by
  obtain ⟨hx, hb, -, hown, hts, ⟨hK, -⟩, -⟩ := id C
  obtain ⟨k, v, S', fs, rfl, h0, h1, hlt, h⟩ := rx_pf_ok h
  intro H locs ls hI hl
  obtain ⟨f1, f2⟩ := rx_fits (X := X) hkd h0
  have e2 : (fs.map (rx_d X)).set b (rx_d X v) = (fs.set b v).map (rx_d X) := (List.map_set).symm
  have hlt' : b < (fs.map (rx_d X)).length := by rw [List.length_map]; exact hlt
  have kk : ∀ (H1 : Heap) (locs1 : List Loc), va_P D vwCl ((rx_w X 0 w).set k (X.2.1 + k, .inr (a, (fs.map (rx_d X)).set b (rx_d X v)))) H1 → va_D (rx_A X) ((rx_w X 0 w).set k (X.2.1 + k, .inr (a, (fs.map (rx_d X)).set b (rx_d X v)))) → va_S (rx_A X) s.heap H1 locs1 → W p l e R s m args below meth c H1 locs1 cc ss Q (F0 m (pc + 3) ls (S'.map (rx_d X))) := by
    intro H1 locs1 hP1 _ hV1
    rw [e2] at hP1
    exact hS _ _ _ _ _ h H1 locs1 ls (rx_Iv_set (c1 := .inl (a, fs.set b v)) hI hP1 hV1) hl
  cases hf : (T b).2.2.2 with
  | false => exact va_put (D := D) (ci := a) (v := rx_d X v) (ty := ty0 b) (C := Cn) (T := T) (N := N) hx hb hts hin ty0 hty hnm hown hK hI.1 (rx_w_D X w) hI.2.2 k (rx_w_get h1) hc b hk (hts _ hlk) (fun _ h9 => h9) hf (hty b hk) f1 f2 hlt' hd kk
  | true =>
    obtain ⟨g1, g2⟩ := hfin hf
    exact va_putF (D := D) (ci := a) (v := rx_d X v) (ty := ty0 b) (C := Cn) (T := T) (N := N) hx hb hts hin ty0 hty hnm hown hK hI.1 (rx_w_D X w) hI.2.2 k (rx_w_get h1) hc b hk (hts _ hlk) (fun _ h9 => h9) hf g2 g1 (hty b hk) f1 f2 hlt' hd kk
-- arrays
theorem rx_al_ok {q : Nat} {sl : Nat} {txt : List Nat} {F : rx_F} (h : rx_al F sl txt q K rest L S w cc ss = some r) : (∃ (j k t n : Nat) (u : List (Nat × rx_V)) (S' : List rx_V), S = .inl (.inl j) :: .inr (.inr (.inl (some k))) :: S' ∧ w[k]? = some (.inr (t, n, u)) ∧ j < n ∧ n < 2147483648 ∧ (t = q ∨ (q = 1 ∧ t = 2)) ∧ rx_isK q (rx_lk u j (rx_df t)) = true ∧ K rest L (rx_lk u j (rx_df t) :: S') w cc ss = some r) ∨ (∃ (j : Nat) (S' : List rx_V), S = .inl (.inl j) :: .inr (.inr (.inr 0)) :: S' ∧ j + 1 < sl ∧ sl < 2147483648 ∧ q = 0 ∧ K rest L (.inl (rx_nm F (j, [])) :: S') w cc ss = some r) ∨ (∃ (j z : Nat) (S' : List rx_V), S = .inl (.inl j) :: .inr (.inr (.inr 2)) :: S' ∧ q = 1 ∧ txt[j]? = some z ∧ K rest L (.inl (.inl z) :: S') w cc ss = some r) := by
  unfold rx_al at h
  split at h
  · rename_i j k S'
    obtain ⟨x, h1, h5⟩ := rx_at_ok h
    rcases x with o | ⟨t, n, u⟩
    · cases h5
    · obtain ⟨h2, h6⟩ := rx_c h5
      obtain ⟨h7, h8⟩ := rx_c h6
      obtain ⟨g1, h2⟩ := rx_an h2
      obtain ⟨g2, g3⟩ := rx_an h2
      refine Or.inl ⟨j, k, t, n, u, S', rfl, h1, rx_bt g1, rx_bt g2, ?_, h7, h8⟩
      rcases Bool.or_eq_true_iff.mp g3 with z | z
      · exact Or.inl (rx_bq z)
      · exact Or.inr ⟨rx_bq (rx_an z).1, rx_bq (rx_an z).2⟩
  · rename_i j k S'
    cases c0 : Nat.beq k 0 with
    | true =>
      rw [c0] at h
      obtain ⟨h2, h6⟩ := rx_c h
      obtain ⟨g1, h2⟩ := rx_an h2
      obtain ⟨g2, g3⟩ := rx_an h2
      have e0 := rx_bq c0
      exact Or.inr (Or.inl ⟨j, S', by rw [e0], rx_bt g1, rx_bt g2, rx_bq g3, h6⟩)
    | false =>
      rw [c0] at h
      obtain ⟨h2, h6⟩ := rx_c h
      obtain ⟨g1, g2⟩ := rx_an h2
      obtain ⟨z, h7, h8⟩ := rx_at_ok h6
      have e0 := rx_bq g1
      exact Or.inr (Or.inr ⟨j, z, S', by rw [e0], rx_bq g2, h7, h8⟩)
  · cases h
theorem rx_vi_d {X : rx_X} {v : rx_V} {q : Nat} (hq : q = 0 ∨ q = 1) (h : rx_isK q v = true) : rx_d X v = .int (rx_vi X v) := by
  rcases v with i | (n | (_ | j))
  · rfl
  · rcases hq with rfl | rfl <;> cases h
  · rcases hq with rfl | rfl <;> cases h
  · cases h
theorem rx_vl_d {X : rx_X} {v : rx_V} (h : rx_isK 3 v = true) : rx_d X v = .long (rx_vl X v) := by
  rcases v with i | ((n | n) | (_ | j))
  · cases h
  · rfl
  · rfl
  · cases h
  · cases h
theorem rx_vr_d {X : rx_X} {v : rx_V} (h : rx_isK 4 v = true) : rx_d X v = va_rf (rx_vr X v) := by
  rcases v with i | (n | ((_ | k) | j))
  · cases h
  · cases h
  · rfl
  · rfl
  · cases h
theorem rx_q_ald (C : rx_Cx p s m args c X D G own bc nL) {q : Nat} (hd : (q = 0 ∧ decode bc pc = .ok (.iaload, 1)) ∨ (q = 1 ∧ decode bc pc = .ok (.baload, 1)) ∨ (q = 3 ∧ decode bc pc = .ok (.laload, 1)) ∨ (q = 4 ∧ decode bc pc = .ok (.aaload, 1))) (htx : G.2.2.2.1.length = G.2.2.2.2.1 ∧ G.2.2.2.2.1 < 2147483648) (hS : rx_hS (rx_W p l e R s m args below meth c Q X D G nL) K rest r (pc + 1)) (h : rx_al G.1 G.2.2.1 G.2.2.2.1 q K rest L S w cc ss = some r) : rx_W p l e R s m args below meth c Q X D G nL pc L S w cc ss := by
  obtain ⟨hx, hb, -, hown, hts, ⟨hK, -, -, ⟨b, b1, b2, b3⟩, ⟨q1, q2, tx, c1, c2, c3, c4, c5, c6, c7⟩, -, -, h00⟩, hF⟩ := id C
  intro H locs ls hI hl
  rcases rx_al_ok h with ⟨j, k, t, n, u, S', rfl, h1, hj, hn, ht, hk, h⟩ | ⟨j, S', rfl, hj, hn, hq, h5⟩ | ⟨j, z, S', rfl, hq, hz, h5⟩
  · have kk := hS _ _ _ _ _ h H locs ls hI hl
    have hw := rx_w_get (X := X) h1
    have hi : vp_in (nI j) n := vp_in_nI hj hn
    have hcl : (nI j).toNatClampNeg = j := nI_clamp (by omega)
    rw [List.map_cons] at kk
    rcases hd with ⟨rfl, hd⟩ | ⟨rfl, hd⟩ | ⟨rfl, hd⟩ | ⟨rfl, hd⟩
    · have e1 : t = 0 := by omega
      subst e1
      rw [rx_vi_d (Or.inl rfl) hk] at kk
      refine va_iald (f := fun j => rx_vi X (rx_lk u j (rx_df 0))) hx hb hK hI.1 k 0 hw rfl hi hd ?_
      show W p l e R s m args below meth c H locs cc ss Q (F0 m (pc + 1) ls (.int (rx_vi X (rx_lk u (nI j).toNatClampNeg (rx_df 0))) :: S'.map (rx_d X)))
      rw [hcl]; exact kk
    · rw [rx_vi_d (Or.inr rfl) hk] at kk
      rcases (show t = 1 ∨ t = 2 by omega) with rfl | rfl
      · refine va_bald (f := fun j => rx_vi X (rx_lk u j (rx_df 0))) hx hb hK hI.1 k 1 hw rfl hi hd ?_
        show W p l e R s m args below meth c H locs cc ss Q (F0 m (pc + 1) ls (.int (rx_vi X (rx_lk u (nI j).toNatClampNeg (rx_df 0))) :: S'.map (rx_d X)))
        rw [hcl]; exact kk
      · refine va_zald (f := fun j => rx_vi X (rx_lk u j (rx_df 0))) hx hb hK hI.1 k 2 hw rfl hi hd ?_
        show W p l e R s m args below meth c H locs cc ss Q (F0 m (pc + 1) ls (.int (rx_vi X (rx_lk u (nI j).toNatClampNeg (rx_df 0))) :: S'.map (rx_d X)))
        rw [hcl]; exact kk
    · have e1 : t = 3 := by omega
      subst e1
      rw [rx_vl_d hk] at kk
      refine va_lald (f := fun j => rx_vl X (rx_lk u j (rx_df 3))) hx hb hK hI.1 k 3 hw rfl hi hd ?_
      show W p l e R s m args below meth c H locs cc ss Q (F0 m (pc + 1) ls (.long (rx_vl X (rx_lk u (nI j).toNatClampNeg (rx_df 3))) :: S'.map (rx_d X)))
      rw [hcl]; exact kk
    · have e1 : t = 4 := by omega
      subst e1
      rw [rx_vr_d hk] at kk
      refine va_aldq (f := fun j => rx_vr X (rx_lk u j (rx_df 4))) hx hb hK hI.1 k 4 hw rfl hi hd ?_
      show W p l e R s m args below meth c H locs cc ss Q (F0 m (pc + 1) ls (va_rf (rx_vr X (rx_lk u (nI j).toNatClampNeg (rx_df 4))) :: S'.map (rx_d X)))
      rw [hcl]; exact kk
  · subst hq
    have kk := hS _ _ _ _ _ h5 H locs ls hI hl
    have hd0 : decode bc pc = .ok (.iaload, 1) := by
      rcases hd with ⟨-, hd⟩ | ⟨q, -⟩ | ⟨q, -⟩ | ⟨q, -⟩
      · exact hd
      · cases q
      · cases q
      · cases q
    have e1 : rx_d X (.inr (.inr (.inr 0))) = .ref b := by show va_rf _ = _; rw [b1]; rfl
    have e2 : rx_d X (.inl (rx_nm G.1 (j, []))) = .int (X.1 j) := by
      show Value.int (rx_N X _) = _
      rw [rx_nm_ok hF]; rfl
    rw [List.map_cons, e2] at kk
    rw [List.map_cons, List.map_cons, e1]
    refine va_sld (L := G.2.2.1 - 1) hx hb (b2 (by omega)) (by omega) (Nat.not_le.mpr b3) hI.2.2 (i := nI j) (vp_in_nI (by omega) (by omega)) hd0 ?_
    rw [nI_clamp (n := j) (by omega)]
    exact kk
  · subst hq
    have kk := hS _ _ _ _ _ h5 H locs ls hI hl
    have hd0 : decode bc pc = .ok (.baload, 1) := by
      rcases hd with ⟨q, -⟩ | ⟨-, hd⟩ | ⟨q, -⟩ | ⟨q, -⟩
      · cases q
      · exact hd
      · cases q
      · cases q
    have hj : j < G.2.2.2.2.1 := by rw [← htx.1]; exact (List.getElem?_eq_some_iff.mp hz).1
    have e1 : rx_d X (.inr (.inr (.inr 2))) = .ref q2 := by show va_rf _ = _; rw [c2]; rfl
    rw [List.map_cons, List.map_cons, e1]
    refine va_tb (v := .int (nI z)) hx hb c7 hI.2.2 (i := nI j) (vp_in_nI hj htx.2) ?_ hd0 kk
    rw [nI_clamp (n := j) (by have := htx.2; omega)]
    show Value.int (nI (G.2.2.2.1.getD j 0)) = _
    rw [List.getD_eq_getElem?_getD, hz]; rfl
end RXH
end
section
/-! stores, lengths, new cells, copies -/
theorem rx_vi_put (X : rx_X) (u : List (Nat × rx_V)) (j : Nat) (v d : rx_V) : (fun i => rx_vi X (rx_lk ((j, v) :: u.filter (fun q => !Nat.beq q.1 j)) i d)) = upd (fun i => rx_vi X (rx_lk u i d)) j (rx_vi X v) := by
  funext i
  rw [rx_lk_put]
  unfold upd
  split <;> rfl
theorem rx_vl_put (X : rx_X) (u : List (Nat × rx_V)) (j : Nat) (v d : rx_V) : (fun i => rx_vl X (rx_lk ((j, v) :: u.filter (fun q => !Nat.beq q.1 j)) i d)) = vp_updL (fun i => rx_vl X (rx_lk u i d)) j (rx_vl X v) := by
  funext i
  rw [rx_lk_put]
  unfold vp_updL
  split <;> rfl
theorem rx_vr_put (X : rx_X) (u : List (Nat × rx_V)) (j : Nat) (v d : rx_V) : (fun i => rx_vr X (rx_lk ((j, v) :: u.filter (fun q => !Nat.beq q.1 j)) i d)) = va_up (fun i => rx_vr X (rx_lk u i d)) j (rx_vr X v) := by
  funext i
  rw [rx_lk_put]
  unfold va_up
  split <;> rfl
section RXM
variable {p : Program} {l : Launch} {e : Env} {R : Room} {s : State} {m : MethodId} {args : Array Value} {below : List Frame} {meth : Method} {c : Code} {Q : State → Prop} {X : rx_X} {D : va_G} {G : rx_G} {own : String} {bc : ByteArray} {nL pc : Nat} {K : rx_K} {rest cd : List rx_E} {L : rx_L} {S : List rx_V} {w : List rx_C} {cc ss : Nat} {r : rx_R}
theorem rx_as_ok {q : Nat} (h : rx_as q K rest L S w cc ss = some r) : ∃ (v : rx_V) (j k t n : Nat) (u : List (Nat × rx_V)) (S' : List rx_V), S = v :: .inl (.inl j) :: .inr (.inr (.inl (some k))) :: S' ∧ w[k]? = some (.inr (t, n, u)) ∧ j < n ∧ n < 2147483648 ∧ (t = q ∨ (q = 1 ∧ t = 2)) ∧ rx_fit (cond (Nat.beq t 1) 0 t) v = true ∧ K rest L S' (w.set k (.inr (t, n, (j, rx_nar t v) :: u.filter (fun i => !Nat.beq i.1 j)))) cc ss = some r := by
  unfold rx_as at h
  split at h
  · rename_i v j k S'
    obtain ⟨x, h1, h5⟩ := rx_at_ok h
    rcases x with o | ⟨t, n, u⟩
    · cases h5
    · obtain ⟨h2, h6⟩ := rx_c h5
      rw [rx_rem_eq] at h6
      have h7 := rx_set_ok h6
      obtain ⟨g1, h2⟩ := rx_an h2
      obtain ⟨g2, h2⟩ := rx_an h2
      obtain ⟨g3, g4⟩ := rx_an h2
      refine ⟨v, j, k, t, n, u, S', rfl, h1, rx_bt g1, rx_bt g2, ?_, g4, h7⟩
      rcases Bool.or_eq_true_iff.mp g3 with z | z
      · exact Or.inl (rx_bq z)
      · exact Or.inr ⟨rx_bq (rx_an z).1, rx_bq (rx_an z).2⟩
  · cases h
theorem rx_q_iast (C : rx_Cx p s m args c X D G own bc nL) (hd : decode bc pc = .ok (.iastore, 1)) (hS : rx_hS (rx_W p l e R s m args below meth c Q X D G nL) K rest r (pc + 1)) (h : rx_as 0 K rest L S w cc ss = some r) : rx_W p l e R s m args below meth c Q X D G nL pc L S w cc ss := by
  obtain ⟨hx, hb, -, hown, hts, ⟨hK, -⟩, -⟩ := id C
  obtain ⟨v, j, k, t, n, u, S', rfl, h1, hj, hn, ht, hf, h⟩ := rx_as_ok h
  have e1 : t = 0 := by omega
  subst e1
  intro H locs ls hI hl
  rcases v with i | v
  · refine va_iast (f := fun i => rx_vi X (rx_lk u i (rx_df 0))) (x := rx_N X i) hx hb hK hI.1 (rx_w_D X w) hI.2.2 k 0 (rx_w_get (X := X) h1) rfl (vp_in_nI hj hn) hd (fun H1 locs1 hP1 _ hV1 => ?_)
    rw [show (rx_N X (.inl j)) = nI j from rfl, nI_clamp (n := j) (by omega)] at hP1
    refine hS _ _ _ _ _ h H1 locs1 ls (rx_Iv_set (c1 := .inr (0, n, (j, rx_nar 0 (.inl i)) :: u.filter (fun i => !Nat.beq i.1 j))) hI ?_ hV1) hl
    have e2 := rx_vi_put X u j (.inl i) (rx_df 0)
    show va_P D vwCl ((rx_w X 0 w).set k (X.2.1 + k, .inl (X.2.2.2 0, n, .inl (fun i' => rx_vi X (rx_lk ((j, .inl i) :: u.filter (fun q => !Nat.beq q.1 j)) i' (rx_df 0)))))) H1
    rw [e2]; exact hP1
  · rcases v with n | (_ | j) <;> cases hf
theorem rx_q_last (C : rx_Cx p s m args c X D G own bc nL) (hd : decode bc pc = .ok (.lastore, 1)) (hS : rx_hS (rx_W p l e R s m args below meth c Q X D G nL) K rest r (pc + 1)) (h : rx_as 3 K rest L S w cc ss = some r) : rx_W p l e R s m args below meth c Q X D G nL pc L S w cc ss := by
  obtain ⟨hx, hb, -, hown, hts, ⟨hK, -⟩, -⟩ := id C
  obtain ⟨v, j, k, t, n, u, S', rfl, h1, hj, hn, ht, hf, h⟩ := rx_as_ok h
  have e1 : t = 3 := by omega
  subst e1
  intro H locs ls hI hl
  have hv : rx_d X v = .long (rx_vl X v) := by
    rcases v with (i | i) | ((n | n) | (_ | j)) <;> first | rfl | (cases hf; done)
  rw [List.map_cons, hv]
  refine va_last (f := fun i => rx_vl X (rx_lk u i (rx_df 3))) (x := rx_vl X v) hx hb hK hI.1 (rx_w_D X w) hI.2.2 k 3 (rx_w_get (X := X) h1) rfl (vp_in_nI hj hn) hd (fun H1 locs1 hP1 _ hV1 => ?_)
  rw [show (rx_N X (.inl j)) = nI j from rfl, nI_clamp (n := j) (by omega)] at hP1
  refine hS _ _ _ _ _ h H1 locs1 ls (rx_Iv_set (c1 := .inr (3, n, (j, rx_nar 3 v) :: u.filter (fun i => !Nat.beq i.1 j))) hI ?_ hV1) hl
  have e2 := rx_vl_put X u j v (rx_df 3)
  show va_P D vwCl ((rx_w X 0 w).set k (X.2.1 + k, .inl (X.2.2.2 3, n, .inr (.inl (fun i' => rx_vl X (rx_lk ((j, v) :: u.filter (fun q => !Nat.beq q.1 j)) i' (rx_df 3))))))) H1
  rw [e2]; exact hP1
theorem rx_nar_z {n : Nat} (h : n ≤ 1) : vp_nar .boolean (nI n) = nI n := by
  rcases (show n = 0 ∨ n = 1 by omega) with rfl | rfl <;> decide
theorem rx_q_bast (C : rx_Cx p s m args c X D G own bc nL) (hd : decode bc pc = .ok (.bastore, 1)) (hS : rx_hS (rx_W p l e R s m args below meth c Q X D G nL) K rest r (pc + 1)) (h : rx_as 1 K rest L S w cc ss = some r) : rx_W p l e R s m args below meth c Q X D G nL pc L S w cc ss := by
  obtain ⟨hx, hb, -, hown, hts, ⟨hK, -⟩, -⟩ := id C
  obtain ⟨v, j, k, t, n, u, S', rfl, h1, hj, hn, ht, hf, h⟩ := rx_as_ok h
  intro H locs ls hI hl
  rcases (show t = 1 ∨ t = 2 by omega) with rfl | rfl
  · rcases v with i | v
    · refine va_bast (f := fun i => rx_vi X (rx_lk u i (rx_df 0))) (x := rx_N X i) hx hb hK hI.1 (rx_w_D X w) hI.2.2 k 1 (rx_w_get (X := X) h1) rfl (vp_in_nI hj hn) hd (fun H1 locs1 hP1 _ hV1 => ?_)
      rw [show (rx_N X (.inl j)) = nI j from rfl, nI_clamp (n := j) (by omega)] at hP1
      refine hS _ _ _ _ _ h H1 locs1 ls (rx_Iv_set (c1 := .inr (1, n, (j, rx_nar 1 (.inl i)) :: u.filter (fun i => !Nat.beq i.1 j))) hI ?_ hV1) hl
      have e2 := rx_vi_put X u j (rx_nar 1 (.inl i)) (rx_df 0)
      show va_P D vwCl ((rx_w X 0 w).set k (X.2.1 + k, .inl (X.2.2.2 1, n, .inl (fun i' => rx_vi X (rx_lk ((j, rx_nar 1 (.inl i)) :: u.filter (fun q => !Nat.beq q.1 j)) i' (rx_df 0)))))) H1
      rw [e2]
      have e3 : rx_vi X (rx_nar 1 (.inl i)) = vp_nar .byte (rx_N X i) := by
        rw [vp_nar_byte]
        rcases i with x | y
        · exact rx_i2b x
        · rfl
      rw [e3]; exact hP1
    · rcases v with n | (_ | j) <;> cases hf
  · rcases v with (i | i) | v
    · have hi : i ≤ 1 := rx_bl hf
      refine va_zast (f := fun i => rx_vi X (rx_lk u i (rx_df 0))) (x := nI i) hx hb hK hI.1 (rx_w_D X w) hI.2.2 k 2 (rx_w_get (X := X) h1) rfl (vp_in_nI hj hn) hd (fun H1 locs1 hP1 _ hV1 => ?_)
      rw [show (rx_N X (.inl j)) = nI j from rfl, nI_clamp (n := j) (by omega), rx_nar_z hi] at hP1
      refine hS _ _ _ _ _ h H1 locs1 ls (rx_Iv_set (c1 := .inr (2, n, (j, rx_nar 2 (.inl (.inl i))) :: u.filter (fun i => !Nat.beq i.1 j))) hI ?_ hV1) hl
      have e2 := rx_vi_put X u j (.inl (.inl i)) (rx_df 0)
      show va_P D vwCl ((rx_w X 0 w).set k (X.2.1 + k, .inl (X.2.2.2 2, n, .inl (fun i' => rx_vi X (rx_lk ((j, .inl (.inl i)) :: u.filter (fun q => !Nat.beq q.1 j)) i' (rx_df 0)))))) H1
      rw [e2]; exact hP1
    · cases hf
    · rcases v with n | (_ | j) <;> cases hf
theorem rx_q_aast (C : rx_Cx p s m args c X D G own bc nL) {a : Nat} (ha : ∃ T N, vwCl[a]? = some ("GreyRoute$State", T, N)) (hd : decode bc pc = .ok (.aastore, 1)) (hS : rx_hS (rx_W p l e R s m args below meth c Q X D G nL) K rest r (pc + 1)) (h : rx_aq a K rest L S w cc ss = some r) : rx_W p l e R s m args below meth c Q X D G nL pc L S w cc ss := by
  obtain ⟨hx, hb, -, hown, hts, ⟨hK, -⟩, -⟩ := id C
  obtain ⟨T, N, ha⟩ := ha
  unfold rx_aq at h
  split at h
  · rename_i y S0
    obtain ⟨x, g1, h5⟩ := rx_at_ok h
    rcases x with ⟨o1, o2⟩ | o
    · obtain ⟨g2, h6⟩ := rx_c h5
      have g2 : o1 = a := rx_bq g2
      rw [g2] at g1
      obtain ⟨v, j, k, t, n, u, S', e0, h1, hj, hn, ht, hf, h7⟩ := rx_as_ok h6
      have e1 : t = 4 := by omega
      subst e1
      obtain ⟨rfl, rfl⟩ := List.cons.inj e0
      intro H locs ls hI hl
      refine va_astq (r := ("GreyRoute$State", T, N)) (f := fun i => rx_vr X (rx_lk u i (rx_df 4))) hx hb hK hI.1 (rx_w_D X w) hI.2.2 k 4 y a (rx_w_get (X := X) h1) rfl (rx_w_get (X := X) g1) ha (vp_in_nI hj hn) hd (fun H1 locs1 hP1 _ hV1 => ?_)
      rw [show (rx_N X (.inl j)) = nI j from rfl, nI_clamp (n := j) (by omega)] at hP1
      refine hS _ _ _ _ _ h7 H1 locs1 ls (rx_Iv_set (c1 := .inr (4, n, (j, rx_nar 4 (.inr (.inr (.inl (some y))))) :: u.filter (fun i => !Nat.beq i.1 j))) hI ?_ hV1) hl
      have e2 := rx_vr_put X u j (.inr (.inr (.inl (some y)))) (rx_df 4)
      show va_P D vwCl ((rx_w X 0 w).set k (X.2.1 + k, .inl (X.2.2.2 4, n, .inr (.inr (.inr (.inr (fun i' => rx_vr X (rx_lk ((j, .inr (.inr (.inl (some y)))) :: u.filter (fun q => !Nat.beq q.1 j)) i' (rx_df 4))))))))) H1
      rw [e2]; exact hP1
    · cases h5
  · cases h
theorem rx_q_len (C : rx_Cx p s m args c X D G own bc nL) (hd : decode bc pc = .ok (.arraylength, 1)) (hS : rx_hS (rx_W p l e R s m args below meth c Q X D G nL) K rest r (pc + 1)) (h : rx_len G.2.2.1 G.2.2.2.2.1 K rest L S w cc ss = some r) : rx_W p l e R s m args below meth c Q X D G nL pc L S w cc ss := by
  obtain ⟨hx, hb, -, hown, hts, ⟨hK, -, -, ⟨b, b1, b2, b3⟩, ⟨q1, q2, tx, c1, c2, c3, c4, c5, c6, c7⟩, -, -, h00⟩, hF⟩ := id C
  unfold rx_len at h
  split at h
  · rename_i k S'
    obtain ⟨x, g1, h5⟩ := rx_at_ok h
    rcases x with o | ⟨t, n, u⟩
    · cases h5
    · obtain ⟨ht, h6⟩ := rx_c h5
      intro H locs ls hI hl
      have kk := hS _ _ _ _ _ h6 H locs ls hI hl
      have ht := rx_bt ht
      have hw := rx_w_get (X := X) g1
      rcases (show t = 0 ∨ t = 1 ∨ t = 2 ∨ t = 3 ∨ t = 4 by omega) with rfl | rfl | rfl | rfl | rfl
      · exact va_alen (v := nI n) hx hb hK hI.1 k 0 hw rfl rfl hd kk
      · exact va_alen (v := nI n) hx hb hK hI.1 k 1 hw rfl rfl hd kk
      · exact va_alen (v := nI n) hx hb hK hI.1 k 2 hw rfl rfl hd kk
      · exact va_alen (v := nI n) hx hb hK hI.1 k 3 hw rfl rfl hd kk
      · exact va_alen (v := nI n) hx hb hK hI.1 k 4 hw rfl rfl hd kk
  · rename_i k S'
    intro H locs ls hI hl
    cases c0 : Nat.beq k 0 with
    | true =>
      rw [c0] at h
      have e0 := rx_bq c0
      subst e0
      rw [cond_true] at h
      obtain ⟨gz, h5⟩ := rx_c h
      have gz := rx_bt gz
      have kk := hS _ _ _ _ _ h5 H locs ls hI hl
      have e1 : rx_d X (.inr (.inr (.inr 0))) = .ref b := by show va_rf _ = _; rw [b1]; rfl
      rw [List.map_cons, e1]
      exact va_slen (L := G.2.2.1 - 1) hx hb (b2 gz) (by omega) (Nat.not_le.mpr b3) hI.2.2 hd kk
    | false =>
      rw [c0] at h
      obtain ⟨g0, h5⟩ := rx_c h
      have e0 := rx_bq g0
      subst e0
      have kk := hS _ _ _ _ _ h5 H locs ls hI hl
      have e1 : rx_d X (.inr (.inr (.inr 2))) = .ref q2 := by show va_rf _ = _; rw [c2]; rfl
      rw [List.map_cons, e1]
      exact va_tlen (v := nI G.2.2.2.2.1) hx hb c7 hI.2.2 rfl hd kk
  · cases h
end RXM
end
section
/-! new cells, copies, Object's constructor -/
theorem rx_lk_cpl (u : List (Nat × rx_V)) (sp dp : Nat) (tl : List (Nat × rx_V)) (d : rx_V) (i : Nat) : ∀ n : Nat, rx_lk (rx_cpl u sp dp tl n) i d = if dp ≤ i ∧ i < dp + n then rx_lk u (sp + (i - dp)) (.inl (.inl 0)) else rx_lk tl i d := by
  intro n
  induction n with
  | zero =>
    rw [if_neg (by omega)]
    rfl
  | succ n ih =>
    change cond (Nat.beq (dp + n) i) (rx_lk u (sp + n) (.inl (.inl 0))) (rx_lk (rx_cpl u sp dp tl n) i d) = _
    by_cases e : dp + n = i
    · subst e
      have h2 : Nat.beq (dp + n) (dp + n) = true := Nat.beq_refl _
      rw [h2, if_pos (by omega), show sp + (dp + n - dp) = sp + n by omega]
      rfl
    · rw [(rx_bnf _ _).mpr e]
      show rx_lk (rx_cpl u sp dp tl n) i d = _
      rw [ih]
      by_cases h : dp ≤ i ∧ i < dp + n
      · rw [if_pos h, if_pos (by omega)]
      · rw [if_neg h, if_neg (by omega)]
theorem rx_cats_eq (X : rx_X) (S : List rx_V) : ((S.map (rx_d X)).map fun v => v.category).sum = rx_cats S := by
  induction S with
  | nil => rfl
  | cons v t ih =>
    simp only [List.map_cons, List.sum_cons, ih, rx_cat_d]
    rfl
section RXN
variable {p : Program} {l : Launch} {e : Env} {R : Room} {s : State} {m : MethodId} {args : Array Value} {below : List Frame} {meth : Method} {c : Code} {Q : State → Prop} {X : rx_X} {D : va_G} {G : rx_G} {own : String} {bc : ByteArray} {nL pc : Nat} {K : rx_K} {rest cd : List rx_E} {L : rx_L} {S : List rx_V} {w : List rx_C} {cc ss : Nat} {r : rx_R}
/-- one cell more -/
theorem rx_push {H H' : Heap} {locs : List Loc} {c1 : rx_C} (hI : rx_Iv X D G s w cc H locs) (hz : H.size = X.2.1 + w.length) (hz' : H'.size = H.size + 1) (ho : ∀ q, q < H.size → H'[q]? = H[q]?) (ha : va_at D vwCl (X.2.1 + w.length, rx_ce X c1) H') : rx_Iv X D G s (w ++ [c1]) (cc + 1) H' locs := by
  obtain ⟨hP, hc, hV⟩ := hI
  refine ⟨?_, fun q => ?_, Nat.le_trans hV.1 (by omega), fun q h1 h2 => ?_, hV.2.2⟩
  · rw [rx_w_app]
    refine va_P.app (hP.kept (fun k q hk => ho q.1 (hP k q hk).lt)) (fun k q hk => ?_)
    have hk0 : k < 1 := (List.getElem?_eq_some_iff.mp hk).1
    rw [show k = 0 by omega] at hk
    cases hk
    rw [Nat.zero_add]
    exact ha
  · have := hc q
    rw [List.length_append, List.length_singleton]
    omega
  · rw [ho q (Nat.lt_of_lt_of_le h1 hV.1)]
    exact hV.2.1 q h1 h2
theorem rx_sz {H : Heap} {locs : List Loc} (hI : rx_Iv X D G s w cc H locs) (h0 : X.2.1 ≤ s.heap.size) (hal : G.2.1 = true) (h : H.size ≤ s.heap.size + cc) : H.size = X.2.1 + w.length := by
  have h1 := rx_low hI h0
  have h2 := hI.2.1 hal
  omega
theorem rx_q_newa (C : rx_Cx p s m args c X D G own bc nL) {mc ms t : Nat} {at' : Jvm.ClassFile.ArrayType} (hd : decode bc pc = .ok (.newarray at', 2)) (htt : (t = 0 ∧ at' = .int) ∨ (t = 1 ∧ at' = .byte) ∨ (t = 2 ∧ at' = .boolean) ∨ (t = 3 ∧ at' = .long)) (hw : Cond.arrayClass (newarray.typeOf at') ∈ rx_words) (hmc : mc ≤ R.cells) (hms : ms ≤ R.slots) (hS : rx_hS (rx_W p l e R s m args below meth c Q X D G nL) K rest r (pc + 2)) (h : rx_na G.2.1 mc ms t K rest L S w cc ss = some r) : rx_W p l e R s m args below meth c Q X D G nL pc L S w cc ss := by
  obtain ⟨hx, hb, -, hown, hts, ⟨hK, -, -, -, -, -, -, h00⟩, -⟩ := id C
  unfold rx_na at h
  split at h
  · rename_i n S'
    obtain ⟨g, h5⟩ := rx_c h
    rw [rx_snoc_eq] at h5
    obtain ⟨hal, g⟩ := rx_an g
    obtain ⟨g1, g⟩ := rx_an g
    obtain ⟨g2, g3⟩ := rx_an g
    have g1 := rx_bl g1
    have g2 := rx_bl g2
    have g3 := rx_bl g3
    intro H locs ls hI hl
    refine rx_W_size (fun hsz => ?_)
    have hz := rx_sz hI h00 hal hsz
    have hcl : (nI n).toNatClampNeg = n := nI_clamp (by omega)
    have hn0 : ¬ nI n < 0 := nI_pos (by omega)
    rcases htt with ⟨rfl, rfl⟩ | ⟨rfl, rfl⟩ | ⟨rfl, rfl⟩ | ⟨rfl, rfl⟩
    all_goals
      refine va_newaK (h := X.2.1 + w.length) (N := n) hx hb (hts _ hw) rfl hd rfl hn0 hcl (by show n * _ ≤ _; simp only [newarray.typeOf, componentBytes]; omega) (Nat.le_trans g2 hmc) (Nat.le_trans g3 hms) hz (fun H' cA e1 z1 o1 hAr hNm => ?_)
      have kk := hS _ _ _ _ _ h5 H' locs ls (rx_push hI hz (by rw [z1, hz]) (fun q hq => o1 q (by rw [← hz]; exact hq)) ?_) hl
      · rw [Nat.zero_add] at kk
        exact kk
      · show H'[X.2.1 + w.length]? = some (vp_cell _ _)
        rw [e1]
        first
          | (have hc0 : cA = X.2.2.2 0 := Option.some.inj (hNm.symm.trans (hK.2 0 _ rfl).2)
             rw [hc0]; rfl)
          | (have hc0 : cA = X.2.2.2 1 := Option.some.inj (hNm.symm.trans (hK.2 1 _ rfl).2)
             rw [hc0]; rfl)
          | (have hc0 : cA = X.2.2.2 2 := Option.some.inj (hNm.symm.trans (hK.2 2 _ rfl).2)
             rw [hc0]; rfl)
          | (have hc0 : cA = X.2.2.2 3 := Option.some.inj (hNm.symm.trans (hK.2 3 _ rfl).2)
             rw [hc0]; rfl)
  · cases h
theorem rx_q_newq (C : rx_Cx p s m args c X D G own bc nL) {mc ms idx : Nat} (hd : decode bc pc = .ok (.anewarray idx, 3)) (hw : Cond.classLink own idx "GreyRoute$State" ∈ rx_words) (hmc : mc ≤ R.cells) (hms : ms ≤ R.slots) (hS : rx_hS (rx_W p l e R s m args below meth c Q X D G nL) K rest r (pc + 3)) (h : rx_na G.2.1 mc ms 4 K rest L S w cc ss = some r) : rx_W p l e R s m args below meth c Q X D G nL pc L S w cc ss := by
  obtain ⟨hx, hb, -, hown, hts, ⟨hK, -, hAO, -, -, -, -, h00⟩, -⟩ := id C
  unfold rx_na at h
  split at h
  · rename_i n S'
    obtain ⟨g, h5⟩ := rx_c h
    rw [rx_snoc_eq] at h5
    obtain ⟨hal, g⟩ := rx_an g
    obtain ⟨g1, g⟩ := rx_an g
    obtain ⟨g2, g3⟩ := rx_an g
    have g1 := rx_bl g1
    have g2 := rx_bl g2
    have g3 := rx_bl g3
    intro H locs ls hI hl
    refine rx_W_size (fun hsz => ?_)
    have hz := rx_sz hI h00 hal hsz
    have hcl : (nI n).toNatClampNeg = n := nI_clamp (by omega)
    have hn0 : ¬ nI n < 0 := nI_pos (by omega)
    refine W.anew (C := "GreyRoute$State") hx hb hown (hts _ hw) (va_AO.use hAO) rfl hd rfl hn0 (by show (nI n).toNatClampNeg * 4 ≤ _; rw [hcl]; omega) (Nat.le_trans g2 hmc) (by show ss + (nI n).toNatClampNeg ≤ _; rw [hcl]; exact Nat.le_trans g3 hms) (fun cA kA comp f1 f2 f3 f4 => ?_)
    show W p l e R s m args below meth c (H.push { cls := cA, slots := Array.replicate (nI n).toNatClampNeg .null, vm := .none }) locs (cc + 1) (ss + (nI n).toNatClampNeg) Q (F0 m (pc + 3) ls (.ref H.size :: S'.map (rx_d X)))
    rw [hcl, hz]
    have kk := hS _ _ _ _ _ h5 (H.push { cls := cA, slots := Array.replicate n .null, vm := .none }) locs ls (rx_push hI hz (by rw [Array.size_push]) (fun q hq => by rw [Array.getElem?_push, if_neg (Nat.ne_of_lt hq)]) ?_) hl
    · rw [Nat.zero_add] at kk
      exact kk
    · show (H.push _)[X.2.1 + w.length]? = some (vp_cell _ _)
      rw [← hz, Array.getElem?_push_size]
      obtain ⟨kA', comp', k1, k2, k3, k4⟩ := (hK.2 4 _ rfl).2
      have hc0 : cA = X.2.2.2 4 := Option.some.inj (f1.symm.trans k4)
      rw [hc0, arrV_new]
      rfl
  · cases h
theorem rx_q_new (C : rx_Cx p s m args c X D G own bc nL) {mc ms a b idx : Nat} {Cn : String} {T : u_T} {N : Nat} {ty0 : Nat → FieldType} {df : List rx_V} (hd : decode bc pc = .ok (.new idx, 3)) (hin : ∀ w ∈ u_ws Cn T N, w ∈ rx_words) (hty : ∀ k, k < N → parseFieldDescriptor (T k).2.2.1 = some (ty0 k)) (hc : vwCl[a]? = some (Cn, T, N)) (hbN : b = N) (hfs : ∀ j, j < N → defaultValue (ty0 j) = vp_V (df.map (rx_d X)) j) (hw1 : Cond.classLink own idx Cn ∈ rx_words) (hw2 : Cond.instantiable Cn N ∈ rx_words) (hw3 : Cond.initialized Cn ∈ rx_words) (hmc : mc ≤ R.cells) (hms : ms ≤ R.slots) (hS : rx_hS (rx_W p l e R s m args below meth c Q X D G nL) K rest r (pc + 3)) (h : rx_nw G.2.1 mc ms a b df K rest L S w cc ss = some r) : rx_W p l e R s m args below meth c Q X D G nL pc L S w cc ss := by
  obtain ⟨hx, hb, -, hown, hts, ⟨hK, -, -, -, -, -, -, h00⟩, -⟩ := id C
  subst hbN
  unfold rx_nw at h
  obtain ⟨g, h5⟩ := rx_c h
  rw [rx_snoc_eq] at h5
  obtain ⟨hal, g⟩ := rx_an g
  obtain ⟨g2, g3⟩ := rx_an g
  have g2 := rx_bl g2
  have g3 := rx_bl g3
  intro H locs ls hI hl
  refine rx_W_size (fun hsz => ?_)
  have hz := rx_sz hI h00 hal hsz
  have hKn := hK.1 a _ hc
  refine W.newcK hx hb hown (hts _ hw1) (hts _ hw2) (hts _ hw3) rfl hd (Nat.le_trans g2 hmc) (Nat.le_trans g3 hms) hKn.2.1 hz (fun H' kC hkC e1 z1 o1 => ?_)
  have kk := hS _ _ _ _ _ h5 H' locs ls (rx_push hI hz (by rw [z1, hz]) (fun q hq => o1 q (by rw [← hz]; exact hq)) ?_) hl
  · rw [Nat.zero_add] at kk
    exact kk
  · exact ⟨_, hc, (u_born ty0 hts hin hKn hkC e1 hty).to hfs⟩
theorem rx_q_cpy (C : rx_Cx p s m args c X D G own bc nL) {idx : Nat} (hd : decode bc pc = .ok (.invokestatic idx, 3)) (hw1 : Cond.methodLink own idx arraycopyName ∈ rx_words) (hw2 : Cond.native arraycopyName ∈ rx_words) (hw3 : Cond.static arraycopyName ∈ rx_words) (hw4 : Cond.initialized "java/lang/System" ∈ rx_words) (hfr : 1 ≤ R.frames) (hlo : 64 ≤ R.locals) (hS : rx_hS (rx_W p l e R s m args below meth c Q X D G nL) K rest r (pc + 3)) (h : rx_cpy K rest L S w cc ss = some r) : rx_W p l e R s m args below meth c Q X D G nL pc L S w cc ss := by
  obtain ⟨hx, hb, hml, hown, hts, ⟨hK, -⟩, -⟩ := id C
  unfold rx_cpy at h
  split at h
  · rename_i n dp k1 sp k0 S'
    obtain ⟨g0, h4⟩ := rx_c h
    obtain ⟨x, y1, h5⟩ := rx_at_ok h4
    rcases x with o | ⟨t0, n0, u0⟩
    · cases h5
    · obtain ⟨y, y2, h6⟩ := rx_at_ok h5
      rcases y with o | ⟨t1, n1, u1⟩
      · cases h6
      · obtain ⟨g, h7⟩ := rx_c h6
        have h8 := rx_set_ok h7
        obtain ⟨f1, g⟩ := rx_an g
        obtain ⟨f2, g⟩ := rx_an g
        obtain ⟨f3, g⟩ := rx_an g
        obtain ⟨f4, g⟩ := rx_an g
        obtain ⟨f5, f6⟩ := rx_an g
        have f1 := rx_bq f1
        have f2 := rx_bq f2
        have f3 := rx_bl f3
        have f4 := rx_bl f4
        have f5 := rx_bt f5
        have f6 := rx_bt f6
        have g0 := rx_bl g0
        subst f1
        subst f2
        intro H locs ls hI hl
        have c1 : (nI sp).toNatClampNeg = sp := nI_clamp (by omega)
        have c2 : (nI dp).toNatClampNeg = dp := nI_clamp (by omega)
        have c3 : (nI n).toNatClampNeg = n := nI_clamp (by omega)
        refine va_copyi (sp := nI sp) (dp := nI dp) (n := nI n) (ty := .int) (f := fun i => rx_vi X (rx_lk u0 i (rx_df 0))) (g := fun i => rx_vi X (rx_lk u1 i (rx_df 0))) hx hb (by rw [hml]; exact hl.1.symm) hown (hts _ hw1) (hts _ hw2) (hts _ hw3) (hts _ hw4) hK hI.1 (rx_w_D X w) hI.2.2 k0 k1 0 0 (rx_w_get (X := X) y1) (rx_w_get (X := X) y2) rfl rfl rfl (nI_pos (by omega)) (nI_pos (by omega)) (nI_pos (by omega)) (by rw [c1, c3]; exact f3) (by rw [c2, c3]; exact f4) (fun _ _ => rfl) hfr (by rw [rx_cats_eq]; exact Nat.le_trans (Nat.add_le_add_right g0 _) (Nat.le_trans (by decide +kernel) hlo)) hd (fun H1 locs1 hP1 _ hV1 => ?_)
        rw [c1, c2, c3] at hP1
        refine hS _ _ _ _ _ h8 H1 locs1 ls (rx_Iv_set (c1 := .inr (0, n1, rx_cpl u0 sp dp u1 n)) hI ?_ hV1) hl
        have e2 : (fun i => rx_vi X (rx_lk (rx_cpl u0 sp dp u1 n) i (rx_df 0))) = va_cpy (fun i => rx_vi X (rx_lk u0 i (rx_df 0))) (fun i => rx_vi X (rx_lk u1 i (rx_df 0))) sp dp n := by
          funext i
          rw [rx_lk_cpl]
          unfold va_cpy
          split <;> rfl
        show va_P D vwCl ((rx_w X 0 w).set k1 (X.2.1 + k1, .inl (X.2.2.2 0, n1, .inl (fun i => rx_vi X (rx_lk (rx_cpl u0 sp dp u1 n) i (rx_df 0)))))) H1
        rw [e2]; exact hP1
  · cases h
theorem rx_q_oi (C : rx_Cx p s m args c X D G own bc nL) {idx : Nat} (hd : decode bc pc = .ok (.invokespecial idx, 3)) (hw1 : Cond.methodLink own idx objectInit ∈ rx_words) (hw2 : Cond.instanceMethod objectInit ∈ rx_words) (hw3 : Cond.code objectInit ⟨#[0xb1]⟩ 1 none ∈ rx_words) (hfr : 1 ≤ R.frames) (hlo : 64 ≤ R.locals) (hS : rx_hS (rx_W p l e R s m args below meth c Q X D G nL) K rest r (pc + 3)) (h : rx_oi K rest L S w cc ss = some r) : rx_W p l e R s m args below meth c Q X D G nL pc L S w cc ss := by
  obtain ⟨hx, hb, hml, hown, hts, -, -⟩ := id C
  unfold rx_oi at h
  split at h
  · rename_i k S'
    obtain ⟨g0, h5⟩ := rx_c h
    have g0 := rx_bl g0
    intro H locs ls hI hl
    refine W.objInit hx hb hown (hts _ hw1) (hts _ hw2) (hts _ hw3) rfl (by rw [hml]; exact hl.1) rfl hd hfr ?_ (hS _ _ _ _ _ h5 H locs ls hI hl)
    rw [rx_cats_eq]
    show 2 * 0 + _ + 12 ≤ _
    omega
  · cases h
end RXN
end
section
/-! calls -/
theorem rx_W_sizeR {p : Program} {l : Launch} {e : Env} {R : Room} {s : State} {m : MethodId} {args : Array Value} {below : List Frame} {meth : Method} {c : Code} {H : Heap} {locs : List Loc} {cells slots mc ms : Nat} {g : JFrame} {rest : List Value} {Qa : State → Outcome → State → Prop} {free : Addr → Prop} (k : H.size ≤ s.heap.size + cells → va_Run p l e R s m args below meth c H locs cells slots mc ms g rest Qa free) : va_Run p l e R s m args below meth c H locs cells slots mc ms g rest Qa free := by
  intro T hT Y
  have h := Y.heapSize
  rw [hT] at h
  exact k h T hT Y
def rx_ps (r : Option rx_V) (S : List rx_V) : List rx_V := match r with
  | some v => v :: S
  | none => S
section RXC
variable {p : Program} {l : Launch} {e : Env} {R : Room} {s : State} {m : MethodId} {args : Array Value} {below : List Frame} {meth : Method} {c : Code} {Q : State → Prop} {X : rx_X} {D : va_G} {G : rx_G} {own : String} {bc : ByteArray} {nL pc : Nat} {K : rx_K} {rest cd : List rx_E} {L : rx_L} {S : List rx_V} {w : List rx_C} {cc ss : Nat} {r : rx_R}
theorem rx_inv_ok {al : Bool} {mc ms nu n q a : Nat} {cap : Nat → Nat × Nat} {ex : Nat → List rx_V → List rx_C → Option (Option rx_V × List rx_C)} (h : rx_inv al mc ms cap ex K rest nu n q a L S w cc ss = some r) : ∃ (as S' : List rx_V) (r' : Option rx_V) (w' : List rx_C), S = as.reverse ++ S' ∧ as.length = n ∧ rx_cats S' ≤ 8 ∧ cc + (cap nu).1 ≤ mc ∧ ss + (cap nu).2 ≤ ms ∧ ex nu as w = some (r', w') ∧ (q = 0 ∨ (q = 1 ∧ ∃ (k : Nat) (as' fs : List rx_V), as = .inr (.inr (.inl (some k))) :: as' ∧ w[k]? = some (.inl (a, fs))) ∨ (q = 2 ∧ ∃ as' : List rx_V, as = .inr (.inr (.inr 1)) :: as')) ∧ K rest L (rx_ps r' S') w' (cc + (cap nu).1) (ss + (cap nu).2) = some r := by
  unfold rx_inv at h
  obtain ⟨as, S', h1, h2, h3⟩ := rx_take_ok h
  rw [List.append_nil] at h3
  obtain ⟨g, h4⟩ := rx_c h3
  obtain ⟨g1, g⟩ := rx_an g
  obtain ⟨g2, g3⟩ := rx_an g
  cases hx : ex nu as w with
  | none => rw [hx] at h4; cases h4
  | some z =>
    obtain ⟨r', w'⟩ := z
    rw [hx] at h4
    refine ⟨as, S', r', w', h1, h2, rx_bl g1, rx_bl g2, rx_bl g3, hx, ?_⟩
    dsimp only at h4
    split at h4
    · exact ⟨Or.inl rfl, h4⟩
    · rename_i k as'
      obtain ⟨x, y1, h5⟩ := rx_at_ok h4
      rcases x with ⟨o1, o2⟩ | o
      · obtain ⟨y2, h6⟩ := rx_c h5
        have y2 : o1 = a := rx_bq y2
        rw [y2] at y1
        exact ⟨Or.inr (Or.inl ⟨rfl, k, as', o2, rfl, y1⟩), h6⟩
      · cases h5
    · rename_i k as'
      obtain ⟨y2, h6⟩ := rx_c h4
      have y2 := rx_bq y2
      exact ⟨Or.inr (Or.inr ⟨rfl, as', by rw [y2]⟩), h6⟩
    · cases h4
theorem rx_callW {H : Heap} {locs : List Loc} {ls : Array Slot} {st0 S' : List rx_V} {c1 s1 : Nat} {r' : Option rx_V} {w' : List rx_C} {av : Array Value} (hr : va_Run p l e R s m args below meth c H locs cc ss c1 s1 (F0 m pc ls (st0.map (rx_d X))) (S'.map (rx_d X)) (rx_Qc X D G c1 r' w' av) (rx_A X)) (hI : rx_Iv X D G s w cc H locs) (h00 : X.2.1 ≤ s.heap.size) (hl : lv_has ls nL (rx_Lm X L)) (kk : rx_W p l e R s m args below meth c Q X D G nL (pc + 3) L (rx_ps r' S') w' (cc + c1) (ss + s1)) : W p l e R s m args below meth c H locs cc ss Q (F0 m pc ls (st0.map (rx_d X))) := by
  intro T hT Y
  obtain ⟨v, st₀, t, T', L1, e0, Y', hL, e1, e2, ⟨hv, hP, hz, hz2, hk⟩, st⟩ := hr T hT Y
  have hlow := rx_low hI h00
  obtain ⟨hP0, hc0, hV⟩ := hI
  have hv : v = r'.map (rx_d X) := by cases hv; rfl
  rw [e0] at hz hz2 hk
  have hIv : rx_Iv X D G s w' (cc + c1) T'.heap (locs ++ L1) := by
    refine ⟨by rw [e1]; exact hP, fun q => ?_, Nat.le_trans hV.1 (by rw [e1]; exact hz2), fun q h1 h2 => ?_, fun q hq => ?_⟩
    · have y1 := hz q
      have y2 := hc0 q
      omega
    · rw [e1, hk q (Nat.lt_of_lt_of_le h1 hV.1) h2]
      exact hV.2.1 q h1 h2
    · rcases List.mem_append.mp hq with z | z
      · exact hV.2.2 q z
      · exact hL q z
  obtain ⟨t2, a1, b1⟩ := kk T'.heap (locs ++ L1) ls hIv hl T' rfl Y'
  refine ⟨t2, st t2 ?_, b1⟩
  rw [hv]
  cases r' with
  | none => exact a1
  | some x => exact a1
theorem rx_preS {H : Heap} {locs : List Loc} {as : List rx_V} (C : rx_Cx p s m args c X D G own bc nL) (hI : rx_Iv X D G s w cc H locs) (hsz : H.size ≤ s.heap.size + cc) : PreS s H (rx_Pc X D G as w) (as.map (rx_d X)) := by
  obtain ⟨-, -, -, -, -, hU, -⟩ := C
  refine ⟨rx_Pc_blind X D G as w, fun U hU2 hW => ⟨rfl, by rw [hU2]; exact hI.1, fun q => ?_, ?_⟩⟩
  · have := hI.2.1 q
    rw [hU2]
    omega
  · refine rx_U0.to hW ?_ (fun q h1 h2 => ?_) hU
    · rw [hU2]; exact hI.2.2.1
    · rw [hU2]; exact hI.2.2.2.1 q h1 h2
theorem rx_goodc {Y : rx_Y} (h : Cond.code Y.1 Y.2.1 Y.2.2.1 Y.2.2.2 ∈ rx_words) : GoodIn rx_words (Cond.code Y.1 Y.2.1 Y.2.2.1 Y.2.2.2 :: rx_words) := by
  intro w hw
  rcases List.mem_cons.mp hw with rfl | hw
  · exact rx_words_good _ h
  · exact rx_words_good _ hw
/-- a call without a receiver -/
theorem rx_q_stat (C : rx_Cx p s m args c X D G own bc nL) {Y : rx_Y} {d idx mc ms nu n : Nat} {cap : Nat → Nat × Nat} {ex : Nat → List rx_V → List rx_C → Option (Option rx_V × List rx_C)} (hd : decode bc pc = .ok (.invokestatic idx, 3)) (hmc : mc ≤ R.cells) (hms : ms ≤ R.slots) (hfr : d + 1 ≤ R.frames) (hlo : 64 * d + 64 ≤ R.locals) (hmx : Y.2.2.1 ≤ 45)
    (hM : ∀ (as : List rx_V) (w : List rx_C) (r' : Option rx_V) (w' : List rx_C), ex nu as w = some (r', w') → rx_Met l d (cap nu).1 (cap nu).2 Y X D G as w r' w')
    (hc : Cond.code Y.1 Y.2.1 Y.2.2.1 Y.2.2.2 ∈ rx_words) (hi : Cond.initialized Y.1.cls ∈ rx_words) (hst : Cond.static Y.1 ∈ rx_words) (hlk : Cond.methodLink own idx Y.1 ∈ rx_words ∨ ∃ host, Cond.methodLinkNest own idx Y.1 host ∈ rx_NW) (hy : Y.1.cls ≠ "java/lang/invoke/MethodHandle" ∧ Y.1.cls ≠ "java/lang/invoke/VarHandle" ∧ (parseMethodDescriptor Y.1.desc).map (fun d => d.parameters.length) = some n)
    (hS : rx_hS (rx_W p l e R s m args below meth c Q X D G nL) K rest r (pc + 3)) (h : rx_inv G.2.1 mc ms cap ex K rest nu n 0 0 L S w cc ss = some r) : rx_W p l e R s m args below meth c Q X D G nL pc L S w cc ss := by
  obtain ⟨hx, hb, hml, hown, hts, ⟨-, hNW, -, -, -, -, -, h00⟩, -⟩ := id C
  obtain ⟨as, S', r', w', rfl, h2, h3, h4, h5, h6, -, h7⟩ := rx_inv_ok h
  intro H locs ls hI hl
  refine rx_callW (av := #[]) (S' := S') (r' := r') (w' := w') ?_ hI h00 hl (hS _ _ _ _ _ h7)
  refine rx_W_sizeR (fun hsz => ?_)
  have hR : (rx_rm d (cap nu).1 (cap nu).2).frames + 1 ≤ R.frames ∧ 8 + (Y.2.2.1 + 11) + (rx_rm d (cap nu).1 (cap nu).2).locals ≤ R.locals := ⟨hfr, by show 8 + (Y.2.2.1 + 11) + 64 * d ≤ R.locals; omega⟩
  have hrm : ((S'.map (rx_d X)).map (fun v => v.category)).sum ≤ 8 := by rw [rx_cats_eq]; exact h3
  have hstk : (as.reverse ++ S').map (rx_d X) = (as.map (rx_d X)).reverse ++ S'.map (rx_d X) := by rw [List.map_append, List.map_reverse]
  rcases hlk with hlk | ⟨host, hlk⟩
  · exact va_runS (As := as.map (rx_d X)) ⟨hx, hb, hml, hown, hts⟩ (hM as w r' w' h6) ⟨callB_of n hts (rx_goodc hc) rfl rfl rfl (hts _ hi) (hts _ hlk) hy hR, hts _ hst⟩ (rx_preS C hI hsz) rfl (by rw [List.length_map]; exact h2) hl.1 hstk (lv_room hrm) hd ⟨Nat.le_trans h4 hmc, Nat.le_trans h5 hms⟩
  · exact va_runSN (As := as.map (rx_d X)) ⟨hx, hb, hml, hown, hts⟩ (hM as w r' w' h6) ⟨va_cnB n hts (rx_goodc hc) rfl rfl rfl (hNW _ hlk) (hts _ hi) hy hR, hts _ hst, trivial⟩ (rx_preS C hI hsz) rfl (by rw [List.length_map]; exact h2) hl.1 hstk (lv_room hrm) hd ⟨Nat.le_trans h4 hmc, Nat.le_trans h5 hms⟩
/-- a constructor -/
theorem rx_q_spec (C : rx_Cx p s m args c X D G own bc nL) {Y : rx_Y} {d idx mc ms nu n a : Nat} {cap : Nat → Nat × Nat} {ex : Nat → List rx_V → List rx_C → Option (Option rx_V × List rx_C)} (hd : decode bc pc = .ok (.invokespecial idx, 3)) (hmc : mc ≤ R.cells) (hms : ms ≤ R.slots) (hfr : d + 1 ≤ R.frames) (hlo : 64 * d + 64 ≤ R.locals) (hmx : Y.2.2.1 ≤ 45)
    (hM : ∀ (as : List rx_V) (w : List rx_C) (r' : Option rx_V) (w' : List rx_C), ex nu as w = some (r', w') → rx_Met l d (cap nu).1 (cap nu).2 Y X D G as w r' w')
    (hc : Cond.code Y.1 Y.2.1 Y.2.2.1 Y.2.2.2 ∈ rx_words) (hi : Cond.initialized Y.1.cls ∈ rx_words) (hst : Cond.instanceMethod Y.1 ∈ rx_words) (hlk : Cond.methodLink own idx Y.1 ∈ rx_words ∨ ∃ host, Cond.methodLinkNest own idx Y.1 host ∈ rx_NW) (hnm : Y.1.name = "<init>") (hrt : Y.2.2.2 = none) (hy : Y.1.cls ≠ "java/lang/invoke/MethodHandle" ∧ Y.1.cls ≠ "java/lang/invoke/VarHandle" ∧ (parseMethodDescriptor Y.1.desc).map (fun d => d.parameters.length) = some n)
    (hS : rx_hS (rx_W p l e R s m args below meth c Q X D G nL) K rest r (pc + 3)) (h : rx_inv G.2.1 mc ms cap ex K rest nu (n + 1) 1 a L S w cc ss = some r) : rx_W p l e R s m args below meth c Q X D G nL pc L S w cc ss := by
  obtain ⟨hx, hb, hml, hown, hts, ⟨-, hNW, -, -, -, -, -, h00⟩, -⟩ := id C
  obtain ⟨as, S', r', w', rfl, h2, h3, h4, h5, h6, hq, h7⟩ := rx_inv_ok h
  rcases hq with q | ⟨-, k, as', fs, rfl, y1⟩ | ⟨q, -⟩
  · cases q
  · intro H locs ls hI hl
    refine rx_callW (av := #[]) (S' := S') (r' := r') (w' := w') ?_ hI h00 hl (hS _ _ _ _ _ h7)
    refine rx_W_sizeR (fun hsz => ?_)
    have hR : (rx_rm d (cap nu).1 (cap nu).2).frames + 1 ≤ R.frames ∧ 8 + (Y.2.2.1 + 11) + (rx_rm d (cap nu).1 (cap nu).2).locals ≤ R.locals := ⟨hfr, by show 8 + (Y.2.2.1 + 11) + 64 * d ≤ R.locals; omega⟩
    have hrm : ((S'.map (rx_d X)).map (fun v => v.category)).sum ≤ 8 := by rw [rx_cats_eq]; exact h3
    have hstk : ((.inr (.inr (.inl (some k))) :: as' : List rx_V).reverse ++ S').map (rx_d X) = (as'.map (rx_d X)).reverse ++ .ref (X.2.1 + k) :: S'.map (rx_d X) := by
      rw [List.map_append, List.map_reverse, List.map_cons, List.reverse_cons, List.append_assoc]; rfl
    have hlen : (as'.map (rx_d X)).length = n := by rw [List.length_map]; simpa using h2
    have hM' := hM _ w r' w' h6
    unfold rx_Met at hM'
    rw [hrt] at hM' hc
    have hg : GoodIn rx_words (Cond.code Y.1 Y.2.1 Y.2.2.1 none :: rx_words) := rx_goodc (Y := (Y.1, Y.2.1, Y.2.2.1, none)) hc
    rcases hlk with hlk | ⟨host, hlk⟩
    · exact va_runI (As := as'.map (rx_d X)) (b := X.2.1 + k) ⟨hx, hb, hml, hown, hts⟩ hM' ⟨callB_of n hts hg rfl rfl rfl (hts _ hi) (hts _ hlk) hy hR, hnm, hts _ hst⟩ (rx_preS C hI hsz) rfl hlen hl.1 hstk (lv_room hrm) hd ⟨Nat.le_trans h4 hmc, Nat.le_trans h5 hms⟩
    · exact va_runIN (As := as'.map (rx_d X)) (b := X.2.1 + k) ⟨hx, hb, hml, hown, hts⟩ hM' ⟨va_cnB n hts hg rfl rfl rfl (hNW _ hlk) (hts _ hi) hy hR, hnm, hts _ hst⟩ (rx_preS C hI hsz) rfl hlen hl.1 hstk (lv_room hrm) hd ⟨Nat.le_trans h4 hmc, Nat.le_trans h5 hms⟩
  · cases q
/-- a call of an object's method -/
theorem rx_q_virt (C : rx_Cx p s m args c X D G own bc nL) {Y : rx_Y} {d idx mc ms nu n a q : Nat} {cap : Nat → Nat × Nat} {ex : Nat → List rx_V → List rx_C → Option (Option rx_V × List rx_C)} (hd : decode bc pc = .ok (.invokevirtual idx, 3)) (hmc : mc ≤ R.cells) (hms : ms ≤ R.slots) (hfr : d + 1 ≤ R.frames) (hlo : 64 * d + 64 ≤ R.locals) (hmx : Y.2.2.1 ≤ 45)
    (hM : ∀ (as : List rx_V) (w : List rx_C) (r' : Option rx_V) (w' : List rx_C), ex nu as w = some (r', w') → rx_Met l d (cap nu).1 (cap nu).2 Y X D G as w r' w')
    (hc : Cond.code Y.1 Y.2.1 Y.2.2.1 Y.2.2.2 ∈ rx_words) (hi : Cond.initialized Y.1.cls ∈ rx_words) (hst : Cond.instanceMethod Y.1 ∈ rx_words) (hse : Cond.selects Y.1.cls Y.1 Y.1 ∈ rx_words) (hlk : Cond.methodLink own idx Y.1 ∈ rx_words ∨ ∃ host, Cond.methodLinkNest own idx Y.1 host ∈ rx_NW) (hq : (q = 1 ∧ ∃ T N, vwCl[a]? = some (Y.1.cls, T, N)) ∨ (q = 2 ∧ Y.1.cls = "java/lang/String")) (hy : Y.1.cls ≠ "java/lang/invoke/MethodHandle" ∧ Y.1.cls ≠ "java/lang/invoke/VarHandle" ∧ (parseMethodDescriptor Y.1.desc).map (fun d => d.parameters.length) = some n)
    (hS : rx_hS (rx_W p l e R s m args below meth c Q X D G nL) K rest r (pc + 3)) (h : rx_inv G.2.1 mc ms cap ex K rest nu (n + 1) q a L S w cc ss = some r) : rx_W p l e R s m args below meth c Q X D G nL pc L S w cc ss := by
  obtain ⟨hx, hb, hml, hown, hts, ⟨hK, hNW, -, -, ⟨q1, q2, tx, c1, c2, c3, c4, -⟩, -, -, h00⟩, -⟩ := id C
  obtain ⟨as, S', r', w', rfl, h2, h3, h4, h5, h6, hq2, h7⟩ := rx_inv_ok h
  intro H locs ls hI hl
  have hR : (rx_rm d (cap nu).1 (cap nu).2).frames + 1 ≤ R.frames ∧ 8 + (Y.2.2.1 + 11) + (rx_rm d (cap nu).1 (cap nu).2).locals ≤ R.locals := ⟨hfr, by show 8 + (Y.2.2.1 + 11) + 64 * d ≤ R.locals; omega⟩
  have hrm : ((S'.map (rx_d X)).map (fun v => v.category)).sum ≤ 8 := by rw [rx_cats_eq]; exact h3
  refine rx_callW (av := #[]) (S' := S') (r' := r') (w' := w') ?_ hI h00 hl (hS _ _ _ _ _ h7)
  refine rx_W_sizeR (fun hsz => ?_)
  have hpre := rx_preS (as := as) C hI hsz
  have hM' := hM as w r' w' h6
  -- the receiver: its address, and that it is there
  have hrec : ∃ (b : Nat) (As : List Value), as.map (rx_d X) = .ref b :: As ∧ As.length = n ∧ ∃ cell : Cell, H[b]? = some cell ∧ cell.vm.isStatics = false ∧ s.vm.findClass Y.1.cls = some cell.cls := by
    rcases hq with ⟨rfl, T, N, hcl⟩ | ⟨rfl, hstr⟩
    · rcases hq2 with z | ⟨-, k, as', fs, rfl, y1⟩ | ⟨z, -⟩
      · cases z
      · exact ⟨X.2.1 + k, as'.map (rx_d X), rfl, by rw [List.length_map]; simpa using h2, va_recv hK hI.1 hcl (rx_w_get (X := X) y1)⟩
      · cases z
    · rcases hq2 with z | ⟨z, -⟩ | ⟨-, as', rfl⟩
      · cases z
      · cases z
      · have e1 : rx_d X (.inr (.inr (.inr 1))) = .ref q1 := by show va_rf _ = _; rw [c1]; rfl
        obtain ⟨cell, y1, y2, y3, -⟩ := c4.kept hI.2.2.2.1
        exact ⟨q1, as'.map (rx_d X), by rw [List.map_cons, e1], by rw [List.length_map]; simpa using h2, cell, y1, y2, by rw [hstr]; exact y3⟩
  obtain ⟨b, As, hAs, hlen, hcell⟩ := hrec
  have hstk : (as.reverse ++ S').map (rx_d X) = As.reverse ++ .ref b :: S'.map (rx_d X) := by
    rw [List.map_append, List.map_reverse, hAs, List.reverse_cons, List.append_assoc]; rfl
  rw [hAs] at hpre
  have hpv : PreV s H Y.1.cls b (rx_Pc X D G as w) As := ⟨hpre.1, hcell, hpre.2⟩
  rcases hlk with hlk | ⟨host, hlk⟩
  · exact va_runV (As := As) (b := b) ⟨hx, hb, hml, hown, hts⟩ hM' ⟨callB_of n hts (rx_goodc hc) rfl rfl rfl (hts _ hi) (hts _ hlk) hy hR, hts _ hst, hts _ hse⟩ hpv rfl hlen hl.1 hstk (lv_room hrm) hd ⟨Nat.le_trans h4 hmc, Nat.le_trans h5 hms⟩
  · exact va_runVN (As := As) (b := b) ⟨hx, hb, hml, hown, hts⟩ hM' ⟨va_cnB n hts (rx_goodc hc) rfl rfl rfl (hNW _ hlk) (hts _ hi) hy hR, hts _ hst, hts _ hse⟩ hpv rfl hlen hl.1 hstk (lv_room hrm) hd ⟨Nat.le_trans h4 hmc, Nat.le_trans h5 hms⟩
end RXC
end
section
/-! what a table must be: decided by the kernel, row by row -/
def rx_ch : List (List Cond) := [k2_sels lw_privs, tables_1_1, tables_1_2, tables_1_3, tables_1_4, tables_1_5, tables_1_6, tables_1_7, tables_1_8, tables_1_9]
theorem rx_ch_ok : ∀ c ∈ rx_ch, ∀ w ∈ c, w ∈ lw_tbl := by
  intro c hc w hw
  simp only [rx_ch, List.mem_cons, List.not_mem_nil, or_false] at hc
  unfold lw_tbl tables_1
  simp only [List.mem_append]
  rcases hc with rfl | rfl | rfl | rfl | rfl | rfl | rfl | rfl | rfl | rfl <;> simp [hw]
/-- a word of the tables: its list, its place there -/
def rx_wq (p : Nat) : Option Cond := (rx_ch.getD (p / 256) [])[p % 256]?
theorem rx_wq_ok {p : Nat} {w : Cond} (h : rx_wq p = some w) : w ∈ lw_tbl := by
  unfold rx_wq at h
  rw [List.getD_eq_getElem?_getD] at h
  cases hc : rx_ch[p / 256]? with
  | none => rw [hc] at h; simp at h
  | some c => rw [hc] at h; exact rx_ch_ok c (List.mem_of_getElem? hc) w (List.mem_of_getElem? h)
def rx_wd (p : Nat) (w : Cond) : Bool := decide (rx_wq p = some w) && goodWord w
def rx_nd (p : Nat) (w : Cond) : Bool := decide (rx_wq p = some w) && rx_isN w
theorem rx_wd_ok {p : Nat} {w : Cond} (h : rx_wd p w = true) : w ∈ rx_words := by
  obtain ⟨h1, h2⟩ := rx_an h
  exact List.mem_filter.mpr ⟨rx_wq_ok (of_decide_eq_true h1), h2⟩
theorem rx_nd_ok {p : Nat} {w : Cond} (h : rx_nd p w = true) : w ∈ rx_NW := by
  obtain ⟨h1, h2⟩ := rx_an h
  exact List.mem_filter.mpr ⟨rx_wq_ok (of_decide_eq_true h1), h2⟩
def rx_ty (T : u_T) (k : Nat) : FieldType := (parseFieldDescriptor (T k).2.2.1).getD .int
/-- a class's words, its fields' types and names -/
def rx_clOk (q : vw_C) : Prop := (∀ w ∈ u_ws q.1 q.2.1 q.2.2, w ∈ rx_words) ∧ (∀ k, k < q.2.2 → parseFieldDescriptor (q.2.1 k).2.2.1 = some (rx_ty q.2.1 k)) ∧ (∀ a, a < q.2.2 → ∀ b, b < q.2.2 → a ≠ b → (q.2.1 a).2.1 ≠ (q.2.1 b).2.1)
def rx_nth (t : List Nat) (k : Nat) : Nat := t.getD k 0
/-- the instruction stands there, of this length -/
def rx_d1 (cc : ByteArray) (e : rx_E) (n : Nat) : Bool := decide (decode cc e.1 = .ok (e.2.1, n)) && Nat.beq e.2.2.1 n
def rx_lkb (own : String) (idx : Nat) (y : MethodName) (t : List Nat) : Bool := cond (Nat.beq (rx_nth t 1) 0) (rx_wd (rx_nth t 2) (.methodLink own idx y)) (rx_nd (rx_nth t 2) (.methodLinkNest own idx y "GreyRoute"))
theorem rx_lkb_ok {own : String} {idx : Nat} {y : MethodName} {t : List Nat} (h : rx_lkb own idx y t = true) : Cond.methodLink own idx y ∈ rx_words ∨ ∃ host, Cond.methodLinkNest own idx y host ∈ rx_NW := by
  unfold rx_lkb at h
  cases c : Nat.beq (rx_nth t 1) 0 with
  | true => rw [c] at h; exact Or.inl (rx_wd_ok h)
  | false => rw [c] at h; exact Or.inr ⟨_, rx_nd_ok h⟩
/-- a called method: its code is among the words, its frame is small, it takes so many -/
def rx_yb (Y : rx_Y) (t : List Nat) (n : Nat) : Bool := Nat.ble Y.2.2.1 45 && (rx_wd (rx_nth t 4) (.initialized Y.1.cls) && (decide (Y.1.cls ≠ "java/lang/invoke/MethodHandle" ∧ Y.1.cls ≠ "java/lang/invoke/VarHandle") && decide ((parseMethodDescriptor Y.1.desc).map (fun d => d.parameters.length) = some n)))
def rx_okb (mi : List rx_Y) (own nm : String) (cc : ByteArray) (e : rx_E) : Bool :=
  match e.2.1 with
  | .iconst z => rx_d1 cc e 1 && decide (Int32.ofInt z = nI e.2.2.2.1)
  | .bipush z => rx_d1 cc e 2 && decide ((Int8.ofInt z).toInt32 = nI e.2.2.2.1)
  | .sipush z => rx_d1 cc e 3 && decide ((Int16.ofInt z).toInt32 = nI e.2.2.2.1)
  | .ldc k => rx_d1 cc e 2 && cond (Nat.beq e.2.2.2.2.1 0) (rx_wd (rx_nth e.2.2.2.2.2.2 0) (.constant own k (nI e.2.2.2.1))) (decide (own = "GreyRoute$Words" ∧ k = 38))
  | .ldc_w k => rx_d1 cc e 3 && rx_wd (rx_nth e.2.2.2.2.2.2 0) (.constant own k (nI e.2.2.2.1))
  | .lconst n => rx_d1 cc e 1 && decide (Int64.ofNat (n : Nat) = lN e.2.2.2.1)
  | .ldc2_w k => rx_d1 cc e 3 && rx_wd (rx_nth e.2.2.2.2.2.2 0) (.constantLong own k (lN e.2.2.2.1))
  | .iload i => rx_d1 cc e 2 && Nat.beq i e.2.2.2.1
  | .lload i => rx_d1 cc e 2 && Nat.beq i e.2.2.2.1
  | .aload i => rx_d1 cc e 2 && Nat.beq i e.2.2.2.1
  | .istore i => rx_d1 cc e 2 && Nat.beq i e.2.2.2.1
  | .lstore i => rx_d1 cc e 2 && Nat.beq i e.2.2.2.1
  | .astore i => rx_d1 cc e 2 && Nat.beq i e.2.2.2.1
  | .iload_n i => rx_d1 cc e 1 && Nat.beq i.val e.2.2.2.1
  | .lload_n i => rx_d1 cc e 1 && Nat.beq i.val e.2.2.2.1
  | .aload_n i => rx_d1 cc e 1 && Nat.beq i.val e.2.2.2.1
  | .istore_n i => rx_d1 cc e 1 && Nat.beq i.val e.2.2.2.1
  | .lstore_n i => rx_d1 cc e 1 && Nat.beq i.val e.2.2.2.1
  | .astore_n i => rx_d1 cc e 1 && Nat.beq i.val e.2.2.2.1
  | .iinc i z => rx_d1 cc e 3 && (Nat.beq i e.2.2.2.1 && decide (Int32.ofInt z = nI e.2.2.2.2.1))
  | .iadd => rx_d1 cc e 1 | .isub => rx_d1 cc e 1 | .imul => rx_d1 cc e 1 | .ior => rx_d1 cc e 1 | .ixor => rx_d1 cc e 1 | .ishl => rx_d1 cc e 1 | .iushr => rx_d1 cc e 1 | .idiv => rx_d1 cc e 1 | .irem => rx_d1 cc e 1 | .iand => rx_d1 cc e 1 | .ishr => rx_d1 cc e 1
  | .i2c => rx_d1 cc e 1 | .i2b => rx_d1 cc e 1 | .i2l => rx_d1 cc e 1 | .l2i => rx_d1 cc e 1
  | .ladd => rx_d1 cc e 1 | .lsub => rx_d1 cc e 1 | .lmul => rx_d1 cc e 1 | .land => rx_d1 cc e 1 | .lor => rx_d1 cc e 1 | .ldiv => rx_d1 cc e 1 | .lrem => rx_d1 cc e 1 | .lcmp => rx_d1 cc e 1 | .lshl => rx_d1 cc e 1 | .lshr => rx_d1 cc e 1
  | .dup => rx_d1 cc e 1 | .dup2 => rx_d1 cc e 1 | .pop => rx_d1 cc e 1
  | .if_icmp _ off => rx_d1 cc e 3 && decide ((e.1 : Int) + off = (e.2.2.2.1 : Int))
  | .ifCond _ off => rx_d1 cc e 3 && decide ((e.1 : Int) + off = (e.2.2.2.1 : Int))
  | .goto off => rx_d1 cc e 3 && decide ((e.1 : Int) + off = (e.2.2.2.1 : Int))
  | .tableswitch d lo hi offs => decide (decode cc e.1 = .ok (e.2.1, e.2.2.1)) && (decide ((e.1 : Int) + d = (e.2.2.2.1 : Int) ∧ (e.2.2.2.2.1 : Int) = lo + 2147483648 ∧ (e.2.2.2.2.2.1 : Int) = hi + 2147483648) && (List.range e.2.2.2.2.2.2.length).all (fun j => decide (offs[j]? = some ((e.2.2.2.2.2.2.getD j 0 : Nat) - (e.1 : Int)))))
  | .getfield k => rx_d1 cc e 3 && cond (Nat.ble e.2.2.2.2.2.1 1) (match vwCl[e.2.2.2.1]? with
      | some (_, T, N) => Nat.blt e.2.2.2.2.1 N && cond (Nat.beq e.2.2.2.2.2.1 0) (rx_wd (rx_nth e.2.2.2.2.2.2 0) (.fieldLink own k (T e.2.2.2.2.1).1 (T e.2.2.2.2.1).2.1 (T e.2.2.2.2.1).2.2.1)) (rx_nd (rx_nth e.2.2.2.2.2.2 0) (.fieldLinkNest own k (T e.2.2.2.2.1).1 (T e.2.2.2.2.1).2.1 (T e.2.2.2.2.1).2.2.1 "GreyRoute"))
      | none => false) (cond (Nat.beq e.2.2.2.2.2.1 2) (rx_wd (rx_nth e.2.2.2.2.2.2 0) (.fieldLink own k "java/lang/String" "value" "[B")) (rx_wd (rx_nth e.2.2.2.2.2.2 0) (.fieldLink own k "java/lang/String" "coder" "B")))
  | .putfield k => rx_d1 cc e 3 && (match vwCl[e.2.2.2.1]? with
      | some (_, T, N) => Nat.blt e.2.2.2.2.1 N && (rx_wd (rx_nth e.2.2.2.2.2.2 0) (.fieldLink own k (T e.2.2.2.2.1).1 (T e.2.2.2.2.1).2.1 (T e.2.2.2.2.1).2.2.1) && (rx_kd e.2.2.2.2.2.1 (rx_ty T e.2.2.2.2.1) && cond (T e.2.2.2.2.1).2.2.2 (decide ((T e.2.2.2.2.1).1 = own ∧ nm = "<init>")) true))
      | none => false)
  | .getstatic k => rx_d1 cc e 3 && cond (Nat.beq e.2.2.2.1 0) (rx_wd (rx_nth e.2.2.2.2.2.2 0) (.fieldLink own k "java/lang/String" "COMPACT_STRINGS" "Z")) (cond (Nat.beq e.2.2.2.1 1) (rx_wd (rx_nth e.2.2.2.2.2.2 0) (.fieldLink own k "jdk/internal/util/Preconditions" "SIOOBE_FORMATTER" "Ljava/util/function/BiFunction;")) false)
  | .iaload => rx_d1 cc e 1 | .baload => rx_d1 cc e 1 | .laload => rx_d1 cc e 1 | .aaload => rx_d1 cc e 1
  | .iastore => rx_d1 cc e 1 | .bastore => rx_d1 cc e 1 | .lastore => rx_d1 cc e 1
  | .aastore => rx_d1 cc e 1 && (match vwCl[e.2.2.2.1]? with
      | some (C, _, _) => decide (C = "GreyRoute$State")
      | none => false)
  | .arraylength => rx_d1 cc e 1
  | .newarray at' => rx_d1 cc e 2 && (rx_wd (rx_nth e.2.2.2.2.2.2 0) (.arrayClass (newarray.typeOf at')) && (match at' with
      | .int => Nat.beq e.2.2.2.1 0
      | .byte => Nat.beq e.2.2.2.1 1
      | .boolean => Nat.beq e.2.2.2.1 2
      | .long => Nat.beq e.2.2.2.1 3
      | _ => false))
  | .anewarray k => rx_d1 cc e 3 && (Nat.beq e.2.2.2.1 4 && rx_wd (rx_nth e.2.2.2.2.2.2 0) (.classLink own k "GreyRoute$State"))
  | .new k => rx_d1 cc e 3 && (match vwCl[e.2.2.2.1]? with
      | some (C, _, N) => Nat.beq e.2.2.2.2.1 N && (rx_wd (rx_nth e.2.2.2.2.2.2 0) (.classLink own k C) && (rx_wd (rx_nth e.2.2.2.2.2.2 1) (.instantiable C N) && rx_wd (rx_nth e.2.2.2.2.2.2 2) (.initialized C)))
      | none => false)
  | .invokevirtual k => rx_d1 cc e 3 && (match mi[e.2.2.2.1]? with
      | some Y => rx_yb Y e.2.2.2.2.2.2 (e.2.2.2.2.1 - 1) && (Nat.blt 0 e.2.2.2.2.1 && (rx_lkb own k Y.1 e.2.2.2.2.2.2 && (rx_wd (rx_nth e.2.2.2.2.2.2 3) (.instanceMethod Y.1) && (rx_wd (rx_nth e.2.2.2.2.2.2 5) (.selects Y.1.cls Y.1 Y.1) && cond (Nat.beq e.2.2.2.2.2.1 1) (match vwCl[rx_nth e.2.2.2.2.2.2 0]? with
          | some (C, _, _) => decide (C = Y.1.cls)
          | none => false) (Nat.beq e.2.2.2.2.2.1 2 && decide (Y.1.cls = "java/lang/String"))))))
      | none => true)
  | .invokespecial k => rx_d1 cc e 3 && cond (Nat.beq e.2.2.2.2.2.1 3) (rx_wd (rx_nth e.2.2.2.2.2.2 2) (.methodLink own k objectInit) && (rx_wd (rx_nth e.2.2.2.2.2.2 3) (.instanceMethod objectInit) && rx_wd (rx_nth e.2.2.2.2.2.2 4) (.code objectInit ⟨#[0xb1]⟩ 1 none))) (match mi[e.2.2.2.1]? with
      | some Y => rx_yb Y e.2.2.2.2.2.2 (e.2.2.2.2.1 - 1) && (Nat.blt 0 e.2.2.2.2.1 && (rx_lkb own k Y.1 e.2.2.2.2.2.2 && (rx_wd (rx_nth e.2.2.2.2.2.2 3) (.instanceMethod Y.1) && decide (Y.1.name = "<init>" ∧ Y.2.2.2 = none))))
      | none => true)
  | .invokestatic k => rx_d1 cc e 3 && cond (Nat.beq e.2.2.2.2.2.1 4) (rx_wd (rx_nth e.2.2.2.2.2.2 2) (.methodLink own k arraycopyName) && (rx_wd (rx_nth e.2.2.2.2.2.2 3) (.native arraycopyName) && (rx_wd (rx_nth e.2.2.2.2.2.2 4) (.static arraycopyName) && rx_wd (rx_nth e.2.2.2.2.2.2 5) (.initialized "java/lang/System")))) (match mi[e.2.2.2.1]? with
      | some Y => rx_yb Y e.2.2.2.2.2.2 e.2.2.2.2.1 && (rx_lkb own k Y.1 e.2.2.2.2.2.2 && rx_wd (rx_nth e.2.2.2.2.2.2 3) (.static Y.1))
      | none => true)
  | .return_ => rx_d1 cc e 1 | .ireturn => rx_d1 cc e 1 | .lreturn => rx_d1 cc e 1
  | _ => true
theorem rx_d1_ok {cc : ByteArray} {e : rx_E} {n : Nat} (h : rx_d1 cc e n = true) : decode cc e.1 = .ok (e.2.1, n) ∧ e.2.2.1 = n := by
  obtain ⟨h1, h2⟩ := rx_an h
  exact ⟨of_decide_eq_true h1, rx_bq h2⟩
end
section
/-! a step of the executor is steps of the machine; a run; a call -/
section RXT
variable {p : Program} {l : Launch} {e : Env} {R : Room} {s : State} {m : MethodId} {args : Array Value} {below : List Frame} {meth : Method} {c : Code} {Q : State → Prop} {X : rx_X} {D : va_G} {G : rx_G} {own nm : String} {bc : ByteArray} {nL : Nat} {K : rx_K} {rest cd : List rx_E} {L : rx_L} {S : List rx_V} {w : List rx_C} {cc ss mc ms d : Nat} {r : rx_R} {mi : List rx_Y} {cap : Nat → Nat × Nat} {ex : Nat → List rx_V → List rx_C → Option (Option rx_V × List rx_C)}
/-- what is fixed: the classes, the blank fields, the text -/
def rx_Gok (G : rx_G) : Prop := (∀ (a : Nat) (q : vw_C), vwCl[a]? = some q → rx_clOk q) ∧ (∀ (X : rx_X) (a : Nat) (q : vw_C) (df : List rx_V), vwCl[a]? = some q → G.2.2.2.2.2[a]? = some df → ∀ j, j < q.2.2 → defaultValue (rx_ty q.2.1 j) = vp_V (df.map (rx_d X)) j) ∧ (G.2.2.2.1.length = G.2.2.2.2.1 ∧ G.2.2.2.2.1 < 2147483648)
theorem rx_step_ok (C : rx_Cx p s m args c X D G own bc nL) (hG : rx_Gok G) (hnm : meth.name = nm) (hmc : mc ≤ R.cells) (hms : ms ≤ R.slots) (hfr : d + 1 ≤ R.frames) (hlo : 64 * d + 64 ≤ R.locals)
    (hex : ∀ (nu : Nat) (as : List rx_V) (w : List rx_C) (r' : Option rx_V) (w' : List rx_C), ex nu as w = some (r', w') → ∃ Y, mi[nu]? = some Y ∧ Cond.code Y.1 Y.2.1 Y.2.2.1 Y.2.2.2 ∈ rx_words ∧ rx_Met l d (cap nu).1 (cap nu).2 Y X D G as w r' w') {en : rx_E} (hok : rx_okb mi own nm bc en = true)
    (hS : rx_hS (rx_W p l e R s m args below meth c Q X D G nL) K rest r (en.1 + en.2.2.1)) (hJ : ∀ t : Nat, rx_hS (rx_W p l e R s m args below meth c Q X D G nL) K (rx_find cd t) r t) (hE : r = (en :: rest, L, S, w, cc, ss) → rx_W p l e R s m args below meth c Q X D G nL en.1 L S w cc ss) (h : rx_step G cd nL mc ms cap ex K en rest L S w cc ss = some r) : rx_W p l e R s m args below meth c Q X D G nL en.1 L S w cc ss := by
  obtain ⟨pc, i, len, a, b, k, t⟩ := en
  cases i with
  | iadd =>
    obtain ⟨hd, hlen⟩ := rx_d1_ok hok
    have hlen : len = _ := hlen
    subst hlen
    exact rx_q_iadd C hd hS h
  | isub =>
    obtain ⟨hd, hlen⟩ := rx_d1_ok hok
    have hlen : len = _ := hlen
    subst hlen
    exact rx_q_isub C hd hS h
  | imul =>
    obtain ⟨hd, hlen⟩ := rx_d1_ok hok
    have hlen : len = _ := hlen
    subst hlen
    exact rx_q_imul C hd hS h
  | ior =>
    obtain ⟨hd, hlen⟩ := rx_d1_ok hok
    have hlen : len = _ := hlen
    subst hlen
    exact rx_q_ior C hd hS h
  | ixor =>
    obtain ⟨hd, hlen⟩ := rx_d1_ok hok
    have hlen : len = _ := hlen
    subst hlen
    exact rx_q_ixor C hd hS h
  | ishl =>
    obtain ⟨hd, hlen⟩ := rx_d1_ok hok
    have hlen : len = _ := hlen
    subst hlen
    exact rx_q_ishl C hd hS h
  | iushr =>
    obtain ⟨hd, hlen⟩ := rx_d1_ok hok
    have hlen : len = _ := hlen
    subst hlen
    exact rx_q_iushr C hd hS h
  | idiv =>
    obtain ⟨hd, hlen⟩ := rx_d1_ok hok
    have hlen : len = _ := hlen
    subst hlen
    exact rx_q_idiv C hd hS h
  | irem =>
    obtain ⟨hd, hlen⟩ := rx_d1_ok hok
    have hlen : len = _ := hlen
    subst hlen
    exact rx_q_irem C hd hS h
  | iand =>
    obtain ⟨hd, hlen⟩ := rx_d1_ok hok
    have hlen : len = _ := hlen
    subst hlen
    exact rx_q_iand C hd hS h
  | ishr =>
    obtain ⟨hd, hlen⟩ := rx_d1_ok hok
    have hlen : len = _ := hlen
    subst hlen
    exact rx_q_ishr C hd hS h
  | i2c =>
    obtain ⟨hd, hlen⟩ := rx_d1_ok hok
    have hlen : len = _ := hlen
    subst hlen
    exact rx_q_i2c C hd hS h
  | i2b =>
    obtain ⟨hd, hlen⟩ := rx_d1_ok hok
    have hlen : len = _ := hlen
    subst hlen
    exact rx_q_i2b C hd hS h
  | i2l =>
    obtain ⟨hd, hlen⟩ := rx_d1_ok hok
    have hlen : len = _ := hlen
    subst hlen
    exact rx_q_i2l C hd hS h
  | l2i =>
    obtain ⟨hd, hlen⟩ := rx_d1_ok hok
    have hlen : len = _ := hlen
    subst hlen
    exact rx_q_l2i C hd hS h
  | ladd =>
    obtain ⟨hd, hlen⟩ := rx_d1_ok hok
    have hlen : len = _ := hlen
    subst hlen
    exact rx_q_ladd C hd hS h
  | lsub =>
    obtain ⟨hd, hlen⟩ := rx_d1_ok hok
    have hlen : len = _ := hlen
    subst hlen
    exact rx_q_lsub C hd hS h
  | lmul =>
    obtain ⟨hd, hlen⟩ := rx_d1_ok hok
    have hlen : len = _ := hlen
    subst hlen
    exact rx_q_lmul C hd hS h
  | land =>
    obtain ⟨hd, hlen⟩ := rx_d1_ok hok
    have hlen : len = _ := hlen
    subst hlen
    exact rx_q_land C hd hS h
  | lor =>
    obtain ⟨hd, hlen⟩ := rx_d1_ok hok
    have hlen : len = _ := hlen
    subst hlen
    exact rx_q_lor C hd hS h
  | ldiv =>
    obtain ⟨hd, hlen⟩ := rx_d1_ok hok
    have hlen : len = _ := hlen
    subst hlen
    exact rx_q_ldiv C hd hS h
  | lrem =>
    obtain ⟨hd, hlen⟩ := rx_d1_ok hok
    have hlen : len = _ := hlen
    subst hlen
    exact rx_q_lrem C hd hS h
  | lcmp =>
    obtain ⟨hd, hlen⟩ := rx_d1_ok hok
    have hlen : len = _ := hlen
    subst hlen
    exact rx_q_lcmp C hd hS h
  | dup =>
    obtain ⟨hd, hlen⟩ := rx_d1_ok hok
    have hlen : len = _ := hlen
    subst hlen
    exact rx_q_dup C hd hS h
  | dup2 =>
    obtain ⟨hd, hlen⟩ := rx_d1_ok hok
    have hlen : len = _ := hlen
    subst hlen
    exact rx_q_dup2 C hd hS h
  | pop =>
    obtain ⟨hd, hlen⟩ := rx_d1_ok hok
    have hlen : len = _ := hlen
    subst hlen
    exact rx_q_pop C hd hS h
  | iconst z =>
    obtain ⟨hok, h1⟩ := rx_an hok
    obtain ⟨hd, hlen⟩ := rx_d1_ok hok
    have hlen : len = _ := hlen
    subst hlen
    exact rx_q_iconst C (of_decide_eq_true h1) hd hS h
  | bipush z =>
    obtain ⟨hok, h1⟩ := rx_an hok
    obtain ⟨hd, hlen⟩ := rx_d1_ok hok
    have hlen : len = _ := hlen
    subst hlen
    exact rx_q_bipush C (of_decide_eq_true h1) hd hS h
  | sipush z =>
    obtain ⟨hok, h1⟩ := rx_an hok
    obtain ⟨hd, hlen⟩ := rx_d1_ok hok
    have hlen : len = _ := hlen
    subst hlen
    exact rx_q_sipush C (of_decide_eq_true h1) hd hS h
  | lconst z =>
    obtain ⟨hok, h1⟩ := rx_an hok
    obtain ⟨hd, hlen⟩ := rx_d1_ok hok
    have hlen : len = _ := hlen
    subst hlen
    exact rx_q_lconst C (of_decide_eq_true h1) hd hS h
  | ldc z =>
    obtain ⟨hok, h1⟩ := rx_an hok
    obtain ⟨hd, hlen⟩ := rx_d1_ok hok
    have hlen : len = _ := hlen
    subst hlen
    cases c0 : Nat.beq b 0 with
    | true =>
      have h2 : cond (Nat.beq b 0) (rx_wd (rx_nth t 0) (.constant own z (nI a))) (decide (own = "GreyRoute$Words" ∧ z = 38)) = true := h1
      rw [c0] at h2
      have h3 : cond (Nat.beq b 0) (K rest L (.inl (.inl a) :: S) w cc ss) (K rest L (.inr (.inr (.inr 1)) :: S) w cc ss) = some r := h
      rw [c0] at h3
      exact rx_q_ldc C (rx_wd_ok h2) hd hS h3
    | false =>
      have h2 : cond (Nat.beq b 0) (rx_wd (rx_nth t 0) (.constant own z (nI a))) (decide (own = "GreyRoute$Words" ∧ z = 38)) = true := h1
      rw [c0] at h2
      have h3 : cond (Nat.beq b 0) (K rest L (.inl (.inl a) :: S) w cc ss) (K rest L (.inr (.inr (.inr 1)) :: S) w cc ss) = some r := h
      rw [c0] at h3
      obtain ⟨e1, e2⟩ := of_decide_eq_true h2
      subst e2
      exact rx_q_ldcS C e1 hd hS h3
  | ldc_w z =>
    obtain ⟨hok, h1⟩ := rx_an hok
    obtain ⟨hd, hlen⟩ := rx_d1_ok hok
    have hlen : len = _ := hlen
    subst hlen
    exact rx_q_ldcw C (rx_wd_ok h1) hd hS h
  | ldc2_w z =>
    obtain ⟨hok, h1⟩ := rx_an hok
    obtain ⟨hd, hlen⟩ := rx_d1_ok hok
    have hlen : len = _ := hlen
    subst hlen
    exact rx_q_ldc2 C (rx_wd_ok h1) hd hS h
  | iload z =>
    obtain ⟨hok, h1⟩ := rx_an hok
    obtain ⟨hd, hlen⟩ := rx_d1_ok hok
    have hlen : len = _ := hlen
    subst hlen
    have e1 : z = a := rx_bq h1
    subst e1
    exact rx_q_iload C hd hS h
  | iload_n z =>
    obtain ⟨hok, h1⟩ := rx_an hok
    obtain ⟨hd, hlen⟩ := rx_d1_ok hok
    have hlen : len = _ := hlen
    subst hlen
    exact rx_q_iload_n C (rx_bq h1) hd hS h
  | istore z =>
    obtain ⟨hok, h1⟩ := rx_an hok
    obtain ⟨hd, hlen⟩ := rx_d1_ok hok
    have hlen : len = _ := hlen
    subst hlen
    have e1 : z = a := rx_bq h1
    subst e1
    exact rx_q_istore C hd hS h
  | istore_n z =>
    obtain ⟨hok, h1⟩ := rx_an hok
    obtain ⟨hd, hlen⟩ := rx_d1_ok hok
    have hlen : len = _ := hlen
    subst hlen
    exact rx_q_istore_n C (rx_bq h1) hd hS h
  | lload z =>
    obtain ⟨hok, h1⟩ := rx_an hok
    obtain ⟨hd, hlen⟩ := rx_d1_ok hok
    have hlen : len = _ := hlen
    subst hlen
    have e1 : z = a := rx_bq h1
    subst e1
    exact rx_q_lload C hd hS h
  | lload_n z =>
    obtain ⟨hok, h1⟩ := rx_an hok
    obtain ⟨hd, hlen⟩ := rx_d1_ok hok
    have hlen : len = _ := hlen
    subst hlen
    exact rx_q_lload_n C (rx_bq h1) hd hS h
  | lstore z =>
    obtain ⟨hok, h1⟩ := rx_an hok
    obtain ⟨hd, hlen⟩ := rx_d1_ok hok
    have hlen : len = _ := hlen
    subst hlen
    have e1 : z = a := rx_bq h1
    subst e1
    exact rx_q_lstore C hd hS h
  | lstore_n z =>
    obtain ⟨hok, h1⟩ := rx_an hok
    obtain ⟨hd, hlen⟩ := rx_d1_ok hok
    have hlen : len = _ := hlen
    subst hlen
    exact rx_q_lstore_n C (rx_bq h1) hd hS h
  | aload z =>
    obtain ⟨hok, h1⟩ := rx_an hok
    obtain ⟨hd, hlen⟩ := rx_d1_ok hok
    have hlen : len = _ := hlen
    subst hlen
    have e1 : z = a := rx_bq h1
    subst e1
    exact rx_q_aload C hd hS h
  | aload_n z =>
    obtain ⟨hok, h1⟩ := rx_an hok
    obtain ⟨hd, hlen⟩ := rx_d1_ok hok
    have hlen : len = _ := hlen
    subst hlen
    exact rx_q_aload_n C (rx_bq h1) hd hS h
  | astore z =>
    obtain ⟨hok, h1⟩ := rx_an hok
    obtain ⟨hd, hlen⟩ := rx_d1_ok hok
    have hlen : len = _ := hlen
    subst hlen
    have e1 : z = a := rx_bq h1
    subst e1
    exact rx_q_astore C hd hS h
  | astore_n z =>
    obtain ⟨hok, h1⟩ := rx_an hok
    obtain ⟨hd, hlen⟩ := rx_d1_ok hok
    have hlen : len = _ := hlen
    subst hlen
    exact rx_q_astore_n C (rx_bq h1) hd hS h
  | iinc z y =>
    obtain ⟨hok, h1⟩ := rx_an hok
    obtain ⟨hd, hlen⟩ := rx_d1_ok hok
    have hlen : len = _ := hlen
    subst hlen
    obtain ⟨g1, g2⟩ := rx_an h1
    have e1 : z = a := rx_bq g1
    subst e1
    exact rx_q_iinc C (of_decide_eq_true g2) hd hS h
  | if_icmp z y =>
    obtain ⟨hok, h1⟩ := rx_an hok
    obtain ⟨hd, hlen⟩ := rx_d1_ok hok
    have hlen : len = _ := hlen
    subst hlen
    exact rx_q_icmp C (of_decide_eq_true h1) hd hS hJ h
  | ifCond z y =>
    obtain ⟨hok, h1⟩ := rx_an hok
    obtain ⟨hd, hlen⟩ := rx_d1_ok hok
    have hlen : len = _ := hlen
    subst hlen
    exact rx_q_if C (of_decide_eq_true h1) hd hS hJ h
  | goto y =>
    obtain ⟨hok, h1⟩ := rx_an hok
    obtain ⟨hd, hlen⟩ := rx_d1_ok hok
    have hlen : len = _ := hlen
    subst hlen
    exact rx_q_goto C (of_decide_eq_true h1) hd hJ h
  | tableswitch dflt lo hi offs =>
    obtain ⟨h0, h1⟩ := rx_an hok
    obtain ⟨h2, h3⟩ := rx_an h1
    obtain ⟨g1, g2, g3⟩ := of_decide_eq_true h2
    refine rx_q_tsw C (of_decide_eq_true h0) g2 g3 g1 (fun j g hj => ?_) hJ h
    have hlt : j < t.length := (List.getElem?_eq_some_iff.mp hj).1
    have h4 := of_decide_eq_true (List.all_eq_true.mp h3 j (List.mem_range.mpr hlt))
    have h5 : t.getD j 0 = g := by rw [List.getD_eq_getElem?_getD, hj]; rfl
    refine ⟨_, h4, ?_⟩
    show (pc : Int) + (((t.getD j 0 : Nat) : Int) - (pc : Int)) = _
    rw [h5]
    omega
  | getfield z =>
    obtain ⟨hok, h1⟩ := rx_an hok
    obtain ⟨hd, hlen⟩ := rx_d1_ok hok
    have hlen : len = _ := hlen
    subst hlen
    cases hv : vwCl[a]? with
    | some q =>
      obtain ⟨Cn, T, N⟩ := q
      refine rx_q_getf (Cn := Cn) (T := T) (N := N) C hd (hG.1 a _ hv).1 hS (fun hk => ?_) (fun hk => ?_) (fun hk => ?_) h
      · have h2 := h1
        dsimp only at h2
        rw [Nat.ble_eq_true_of_le hk, hv] at h2
        obtain ⟨g1, g2⟩ := rx_an h2
        refine ⟨hv, rx_bt g1, ?_⟩
        cases c0 : Nat.beq k 0 with
        | true => rw [c0] at g2; exact Or.inl (rx_wd_ok g2)
        | false => rw [c0] at g2; exact Or.inr ⟨_, rx_nd_ok g2⟩
      · subst hk
        exact rx_wd_ok h1
      · subst hk
        exact rx_wd_ok h1
    | none =>
      refine rx_q_getf (Cn := "") (T := fun _ => ("", "", "", false)) (N := 0) C hd (fun w hw => by simp [u_ws] at hw) hS (fun hk => ?_) (fun hk => ?_) (fun hk => ?_) h
      · have h2 := h1
        dsimp only at h2
        rw [Nat.ble_eq_true_of_le hk, hv] at h2
        cases h2
      · subst hk
        exact rx_wd_ok h1
      · subst hk
        exact rx_wd_ok h1
  | putfield z =>
    obtain ⟨hok, h1⟩ := rx_an hok
    obtain ⟨hd, hlen⟩ := rx_d1_ok hok
    have hlen : len = _ := hlen
    subst hlen
    dsimp only at h1
    cases hv : vwCl[a]? with
    | none => rw [hv] at h1; cases h1
    | some q =>
      obtain ⟨Cn, T, N⟩ := q
      rw [hv] at h1
      obtain ⟨g1, h1⟩ := rx_an h1
      obtain ⟨g2, h1⟩ := rx_an h1
      obtain ⟨g3, g4⟩ := rx_an h1
      have hcl := hG.1 a _ hv
      refine rx_q_putf (Cn := Cn) (T := T) (N := N) (ty0 := rx_ty T) C hd hcl.1 hcl.2.1 hcl.2.2 hS hv (rx_bt g1) (rx_wd_ok g2) g3 (fun hf => ?_) h
      rw [hf] at g4
      obtain ⟨e1, e2⟩ := of_decide_eq_true g4
      exact ⟨e1, by rw [hnm]; exact e2⟩
  | getstatic z =>
    obtain ⟨hok, h1⟩ := rx_an hok
    obtain ⟨hd, hlen⟩ := rx_d1_ok hok
    have hlen : len = _ := hlen
    subst hlen
    refine rx_q_gets C hd hS (fun ha => ?_) (fun ha => ?_) h
    · subst ha; exact rx_wd_ok h1
    · subst ha; exact rx_wd_ok h1
  | iaload =>
    obtain ⟨hd, hlen⟩ := rx_d1_ok hok
    have hlen : len = _ := hlen
    subst hlen
    exact rx_q_ald C (Or.inl ⟨rfl, hd⟩) hG.2.2 hS h
  | baload =>
    obtain ⟨hd, hlen⟩ := rx_d1_ok hok
    have hlen : len = _ := hlen
    subst hlen
    exact rx_q_ald C (Or.inr (Or.inl ⟨rfl, hd⟩)) hG.2.2 hS h
  | laload =>
    obtain ⟨hd, hlen⟩ := rx_d1_ok hok
    have hlen : len = _ := hlen
    subst hlen
    exact rx_q_ald C (Or.inr (Or.inr (Or.inl ⟨rfl, hd⟩))) hG.2.2 hS h
  | aaload =>
    obtain ⟨hd, hlen⟩ := rx_d1_ok hok
    have hlen : len = _ := hlen
    subst hlen
    exact rx_q_ald C (Or.inr (Or.inr (Or.inr ⟨rfl, hd⟩))) hG.2.2 hS h
  | iastore =>
    obtain ⟨hd, hlen⟩ := rx_d1_ok hok
    have hlen : len = _ := hlen
    subst hlen
    exact rx_q_iast C hd hS h
  | bastore =>
    obtain ⟨hd, hlen⟩ := rx_d1_ok hok
    have hlen : len = _ := hlen
    subst hlen
    exact rx_q_bast C hd hS h
  | lastore =>
    obtain ⟨hd, hlen⟩ := rx_d1_ok hok
    have hlen : len = _ := hlen
    subst hlen
    exact rx_q_last C hd hS h
  | aastore =>
    obtain ⟨hok, h1⟩ := rx_an hok
    obtain ⟨hd, hlen⟩ := rx_d1_ok hok
    have hlen : len = _ := hlen
    subst hlen
    dsimp only at h1
    cases hv : vwCl[a]? with
    | none => rw [hv] at h1; cases h1
    | some q =>
      obtain ⟨Cn, T, N⟩ := q
      rw [hv] at h1
      have e1 := of_decide_eq_true h1
      exact rx_q_aast C ⟨T, N, by rw [hv, e1]⟩ hd hS h
  | arraylength =>
    obtain ⟨hd, hlen⟩ := rx_d1_ok hok
    have hlen : len = _ := hlen
    subst hlen
    exact rx_q_len C hd hS h
  | newarray z =>
    obtain ⟨hok, h1⟩ := rx_an hok
    obtain ⟨hd, hlen⟩ := rx_d1_ok hok
    have hlen : len = _ := hlen
    subst hlen
    obtain ⟨g1, g2⟩ := rx_an h1
    refine rx_q_newa C hd ?_ (rx_wd_ok g1) hmc hms hS h
    cases z <;> first | (cases g2; done) | skip
    · exact Or.inr (Or.inr (Or.inl ⟨rx_bq g2, rfl⟩))
    · exact Or.inr (Or.inl ⟨rx_bq g2, rfl⟩)
    · exact Or.inl ⟨rx_bq g2, rfl⟩
    · exact Or.inr (Or.inr (Or.inr ⟨rx_bq g2, rfl⟩))
  | anewarray z =>
    obtain ⟨hok, h1⟩ := rx_an hok
    obtain ⟨hd, hlen⟩ := rx_d1_ok hok
    have hlen : len = _ := hlen
    subst hlen
    obtain ⟨g1, g2⟩ := rx_an h1
    have e1 : a = 4 := rx_bq g1
    subst e1
    exact rx_q_newq C hd (rx_wd_ok g2) hmc hms hS h
  | new z =>
    obtain ⟨hok, h1⟩ := rx_an hok
    obtain ⟨hd, hlen⟩ := rx_d1_ok hok
    have hlen : len = _ := hlen
    subst hlen
    dsimp only at h1
    cases hv : vwCl[a]? with
    | none => rw [hv] at h1; cases h1
    | some q =>
      obtain ⟨Cn, T, N⟩ := q
      rw [hv] at h1
      obtain ⟨g1, h1⟩ := rx_an h1
      obtain ⟨g2, h1⟩ := rx_an h1
      obtain ⟨g3, g4⟩ := rx_an h1
      obtain ⟨df, hdf, h5⟩ := rx_at_ok h
      have hcl := hG.1 a _ hv
      exact rx_q_new (Cn := Cn) (T := T) (N := N) (ty0 := rx_ty T) C hd hcl.1 hcl.2.1 hv (rx_bq g1) (hG.2.1 X a _ df hv hdf) (rx_wd_ok g2) (rx_wd_ok g3) (rx_wd_ok g4) hmc hms hS h5
  | invokevirtual z =>
    obtain ⟨hok, h1⟩ := rx_an hok
    obtain ⟨hd, hlen⟩ := rx_d1_ok hok
    have hlen : len = _ := hlen
    subst hlen
    dsimp only at h1
    obtain ⟨ci, hci, h5⟩ := rx_at_ok h
    dsimp only at h5 hci
    have hci : rx_nth t 0 = ci := by unfold rx_nth; rw [List.getD_eq_getElem?_getD, hci]; rfl
    cases hv : mi[a]? with
    | none =>
      exfalso
      obtain ⟨as, S', r', w', -, -, -, -, -, h6, -, -⟩ := rx_inv_ok h5
      obtain ⟨Y, hY, -⟩ := hex _ _ _ _ _ h6
      rw [hv] at hY
      cases hY
    | some Y =>
      rw [hv] at h1
      obtain ⟨gy, h1⟩ := rx_an h1
      obtain ⟨y1, gy⟩ := rx_an gy
      obtain ⟨y2, gy⟩ := rx_an gy
      obtain ⟨y3, y4⟩ := rx_an gy
      have y3 := of_decide_eq_true y3
      have y4 := of_decide_eq_true y4
      have hM : ∀ (as : List rx_V) (w : List rx_C) (r' : Option rx_V) (w' : List rx_C), ex a as w = some (r', w') → rx_Met l d (cap a).1 (cap a).2 Y X D G as w r' w' := by
        intro as w r' w' h6
        obtain ⟨Y', hY', -, hM'⟩ := hex _ _ _ _ _ h6
        rw [hv] at hY'
        cases hY'
        exact hM'
      have hcode : Cond.code Y.1 Y.2.1 Y.2.2.1 Y.2.2.2 ∈ rx_words := by
        obtain ⟨as, S', r', w', -, -, -, -, -, h6, -, -⟩ := rx_inv_ok h5
        obtain ⟨Y', hY', hc, -⟩ := hex _ _ _ _ _ h6
        rw [hv] at hY'
        cases hY'
        exact hc
      obtain ⟨g0, h1⟩ := rx_an h1
      obtain ⟨g1, h1⟩ := rx_an h1
      obtain ⟨g2, h1⟩ := rx_an h1
      obtain ⟨g3, h1⟩ := rx_an h1
      have g0 := rx_bt g0
      have eb : b = (b - 1) + 1 := by omega
      rw [eb] at h5
      refine rx_q_virt C hd hmc hms hfr hlo (rx_bl y1) hM hcode (rx_wd_ok y2) (rx_wd_ok g2) (rx_wd_ok g3) (rx_lkb_ok g1) ?_ ⟨y3.1, y3.2, y4⟩ hS h5
      cases c0 : Nat.beq k 1 with
      | true =>
        rw [c0, hci] at h1
        cases hw : vwCl[ci]? with
        | none => rw [hw] at h1; cases h1
        | some q =>
          obtain ⟨Cn, T, N⟩ := q
          rw [hw] at h1
          have e1 := of_decide_eq_true h1
          exact Or.inl ⟨rx_bq c0, T, N, by rw [e1]⟩
      | false =>
        rw [c0] at h1
        obtain ⟨z1, z2⟩ := rx_an h1
        exact Or.inr ⟨rx_bq z1, of_decide_eq_true z2⟩
  | invokespecial z =>
    obtain ⟨hok, h1⟩ := rx_an hok
    obtain ⟨hd, hlen⟩ := rx_d1_ok hok
    have hlen : len = _ := hlen
    subst hlen
    dsimp only at h1
    have h3 : cond (Nat.beq k 3) (rx_oi K rest L S w cc ss) (rx_at t 0 (fun ci => rx_inv G.2.1 mc ms cap ex K rest a b 1 ci L S w cc ss)) = some r := h
    cases c0 : Nat.beq k 3 with
    | true =>
      rw [c0] at h1 h3
      obtain ⟨g1, h1⟩ := rx_an h1
      obtain ⟨g2, g3⟩ := rx_an h1
      exact rx_q_oi C hd (rx_wd_ok g1) (rx_wd_ok g2) (rx_wd_ok g3) (by omega) (by omega) hS h3
    | false =>
      rw [c0] at h1 h3
      dsimp only [cond_false] at h1 h3
      obtain ⟨ci, hci, h5⟩ := rx_at_ok h3
      cases hv : mi[a]? with
      | none =>
        exfalso
        obtain ⟨as, S', r', w', -, -, -, -, -, h6, -, -⟩ := rx_inv_ok h5
        obtain ⟨Y, hY, -⟩ := hex _ _ _ _ _ h6
        rw [hv] at hY
        cases hY
      | some Y =>
        rw [hv] at h1
        obtain ⟨gy, h1⟩ := rx_an h1
        obtain ⟨y1, gy⟩ := rx_an gy
        obtain ⟨y2, gy⟩ := rx_an gy
        obtain ⟨y3, y4⟩ := rx_an gy
        have y3 := of_decide_eq_true y3
        have y4 := of_decide_eq_true y4
        have hM : ∀ (as : List rx_V) (w : List rx_C) (r' : Option rx_V) (w' : List rx_C), ex a as w = some (r', w') → rx_Met l d (cap a).1 (cap a).2 Y X D G as w r' w' := by
          intro as w r' w' h6
          obtain ⟨Y', hY', -, hM'⟩ := hex _ _ _ _ _ h6
          rw [hv] at hY'
          cases hY'
          exact hM'
        have hcode : Cond.code Y.1 Y.2.1 Y.2.2.1 Y.2.2.2 ∈ rx_words := by
          obtain ⟨as, S', r', w', -, -, -, -, -, h6, -, -⟩ := rx_inv_ok h5
          obtain ⟨Y', hY', hc, -⟩ := hex _ _ _ _ _ h6
          rw [hv] at hY'
          cases hY'
          exact hc
        obtain ⟨g0, h1⟩ := rx_an h1
        obtain ⟨g1, h1⟩ := rx_an h1
        obtain ⟨g2, h1⟩ := rx_an h1
        obtain ⟨g3, g4⟩ := of_decide_eq_true h1
        have g0 := rx_bt g0
        have eb : b = (b - 1) + 1 := by omega
        rw [eb] at h5
        exact rx_q_spec C hd hmc hms hfr hlo (rx_bl y1) hM hcode (rx_wd_ok y2) (rx_wd_ok g2) (rx_lkb_ok g1) g3 g4 ⟨y3.1, y3.2, y4⟩ hS h5
  | invokestatic z =>
    obtain ⟨hok, h1⟩ := rx_an hok
    obtain ⟨hd, hlen⟩ := rx_d1_ok hok
    have hlen : len = _ := hlen
    subst hlen
    dsimp only at h1
    have h3 : cond (Nat.beq k 4) (rx_cpy K rest L S w cc ss) (rx_inv G.2.1 mc ms cap ex K rest a b 0 0 L S w cc ss) = some r := h
    cases c0 : Nat.beq k 4 with
    | true =>
      rw [c0] at h1 h3
      obtain ⟨g1, h1⟩ := rx_an h1
      obtain ⟨g2, h1⟩ := rx_an h1
      obtain ⟨g3, g4⟩ := rx_an h1
      exact rx_q_cpy C hd (rx_wd_ok g1) (rx_wd_ok g2) (rx_wd_ok g3) (rx_wd_ok g4) (by omega) (by omega) hS h3
    | false =>
      rw [c0] at h1 h3
      dsimp only [cond_false] at h1 h3
      cases hv : mi[a]? with
      | none =>
        exfalso
        obtain ⟨as, S', r', w', -, -, -, -, -, h6, -, -⟩ := rx_inv_ok h3
        obtain ⟨Y, hY, -⟩ := hex _ _ _ _ _ h6
        rw [hv] at hY
        cases hY
      | some Y =>
        rw [hv] at h1
        obtain ⟨gy, h1⟩ := rx_an h1
        obtain ⟨y1, gy⟩ := rx_an gy
        obtain ⟨y2, gy⟩ := rx_an gy
        obtain ⟨y3, y4⟩ := rx_an gy
        have y3 := of_decide_eq_true y3
        have y4 := of_decide_eq_true y4
        have hM : ∀ (as : List rx_V) (w : List rx_C) (r' : Option rx_V) (w' : List rx_C), ex a as w = some (r', w') → rx_Met l d (cap a).1 (cap a).2 Y X D G as w r' w' := by
          intro as w r' w' h6
          obtain ⟨Y', hY', -, hM'⟩ := hex _ _ _ _ _ h6
          rw [hv] at hY'
          cases hY'
          exact hM'
        have hcode : Cond.code Y.1 Y.2.1 Y.2.2.1 Y.2.2.2 ∈ rx_words := by
          obtain ⟨as, S', r', w', -, -, -, -, -, h6, -, -⟩ := rx_inv_ok h3
          obtain ⟨Y', hY', hc, -⟩ := hex _ _ _ _ _ h6
          rw [hv] at hY'
          cases hY'
          exact hc
        obtain ⟨g1, g2⟩ := rx_an h1
        exact rx_q_stat C hd hmc hms hfr hlo (rx_bl y1) hM hcode (rx_wd_ok y2) (rx_wd_ok g2) (rx_lkb_ok g1) ⟨y3.1, y3.2, y4⟩ hS h3
  | return_ =>
    exact hE (Option.some.inj h).symm
  | ireturn =>
    exact hE (Option.some.inj h).symm
  | lreturn =>
    exact hE (Option.some.inj h).symm
  | _ => exact absurd (show (none : Option rx_R) = some r from h) (by simp)
end RXT
end
section
/-! a run, a call -/
def rx_seq : List rx_E → Bool
  | [] => true
  | e :: t => (match t with
    | [] => true
    | e2 :: _ => Nat.beq e2.1 (e.1 + e.2.2.1)) && rx_seq t
theorem rx_seq_ok {e e2 : rx_E} {pre rest : List rx_E} (h : rx_seq (pre ++ e :: e2 :: rest) = true) : e2.1 = e.1 + e.2.2.1 := by
  induction pre with
  | nil =>
    obtain ⟨h1, -⟩ := rx_an (show (Nat.beq e2.1 (e.1 + e.2.2.1) && rx_seq (e2 :: rest)) = true from h)
    exact rx_bq h1
  | cons a t ih =>
    have h2 : (_ && rx_seq (t ++ e :: e2 :: rest)) = true := h
    exact ih (rx_an h2).2
theorem rx_find_ok (cd : List rx_E) (t : Nat) : rx_find cd t = [] ∨ ∃ pre e rest, cd = pre ++ e :: rest ∧ rx_find cd t = e :: rest ∧ e.1 = t := by
  induction cd with
  | nil => exact Or.inl rfl
  | cons a l ih =>
    change cond (Nat.beq a.1 t) (a :: l) (rx_find l t) = [] ∨ ∃ pre e rest, a :: l = pre ++ e :: rest ∧ cond (Nat.beq a.1 t) (a :: l) (rx_find l t) = e :: rest ∧ e.1 = t
    cases c : Nat.beq a.1 t with
    | true => exact Or.inr ⟨[], a, l, rfl, rfl, rx_bq c⟩
    | false =>
      rcases ih with h | ⟨pre, e, rest, h1, h2, h3⟩
      · exact Or.inl h
      · exact Or.inr ⟨a :: pre, e, rest, by rw [h1]; rfl, h2, h3⟩
section RXR
variable {p : Program} {l : Launch} {e : Env} {R : Room} {s : State} {m : MethodId} {args : Array Value} {below : List Frame} {meth : Method} {c : Code} {Q : State → Prop} {X : rx_X} {D : va_G} {G : rx_G} {own nm : String} {bc : ByteArray} {nL : Nat} {cd : List rx_E} {mc ms d : Nat} {mi : List rx_Y} {cap : Nat → Nat × Nat} {ex : Nat → List rx_V → List rx_C → Option (Option rx_V × List rx_C)}
theorem rx_loop_ok (C : rx_Cx p s m args c X D G own bc nL) (hG : rx_Gok G) (hnm : meth.name = nm) (hmc : mc ≤ R.cells) (hms : ms ≤ R.slots) (hfr : d + 1 ≤ R.frames) (hlo : 64 * d + 64 ≤ R.locals)
    (hex : ∀ (nu : Nat) (as : List rx_V) (w : List rx_C) (r' : Option rx_V) (w' : List rx_C), ex nu as w = some (r', w') → ∃ Y, mi[nu]? = some Y ∧ Cond.code Y.1 Y.2.1 Y.2.2.1 Y.2.2.2 ∈ rx_words ∧ rx_Met l d (cap nu).1 (cap nu).2 Y X D G as w r' w') (hok : cd.all (rx_okb mi own nm bc) = true) (hsq : rx_seq cd = true) {stop : Nat} {r : rx_R}
    (hF : ∀ (e1 : rx_E) (pre rest1 : List rx_E) (L1 : rx_L) (S1 : List rx_V) (w1 : List rx_C) (c1 s1 : Nat), cd = pre ++ e1 :: rest1 → r = (e1 :: rest1, L1, S1, w1, c1, s1) → rx_W p l e R s m args below meth c Q X D G nL e1.1 L1 S1 w1 c1 s1) :
    ∀ (n : Nat) (pre : List rx_E) (en : rx_E) (rest : List rx_E) (L : rx_L) (S : List rx_V) (w : List rx_C) (cc ss : Nat), cd = pre ++ en :: rest → rx_loop G cd nL mc ms cap ex stop n (en :: rest) L S w cc ss = some r → rx_W p l e R s m args below meth c Q X D G nL en.1 L S w cc ss := by
  have hnil : ∀ (n : Nat) (L : rx_L) (S : List rx_V) (w : List rx_C) (cc ss : Nat), rx_loop G cd nL mc ms cap ex stop n [] L S w cc ss = none := by
    intro n L S w cc ss
    cases n <;> rfl
  intro n
  induction n with
  | zero => intro pre en rest L S w cc ss _ h; cases h
  | succ n ih =>
    intro pre en rest L S w cc ss hcd h
    have h2 : cond (Nat.beq en.1 stop) (some (en :: rest, L, S, w, cc, ss)) (rx_step G cd nL mc ms cap ex (rx_loop G cd nL mc ms cap ex stop n) en rest L S w cc ss) = some r := h
    cases c0 : Nat.beq en.1 stop with
    | true =>
      rw [c0] at h2
      exact hF en pre rest L S w cc ss hcd (Option.some.inj h2).symm
    | false =>
      rw [c0] at h2
      have hokE : rx_okb mi own nm bc en = true := List.all_eq_true.mp hok en (by rw [hcd]; exact List.mem_append_right _ List.mem_cons_self)
      refine rx_step_ok (K := rx_loop G cd nL mc ms cap ex stop n) C hG hnm hmc hms hfr hlo hex hokE (fun L' S' w' cc' ss' hk => ?_) (fun t L' S' w' cc' ss' hk => ?_) (fun hr => hF en pre rest L S w cc ss hcd hr) h2
      · cases rest with
        | nil => rw [hnil] at hk; cases hk
        | cons e2 rest2 =>
          have h3 := ih (pre ++ [en]) e2 rest2 L' S' w' cc' ss' (by rw [hcd, List.append_assoc]; rfl) hk
          have h4 : e2.1 = en.1 + en.2.2.1 := rx_seq_ok (pre := pre) (rest := rest2) (by rw [← hcd]; exact hsq)
          rw [← h4]
          exact h3
      · rcases rx_find_ok cd t with h3 | ⟨pre2, e2, rest2, h3, h4, h5⟩
        · rw [h3, hnil] at hk; cases hk
        · rw [h4] at hk
          have h6 := ih pre2 e2 rest2 L' S' w' cc' ss' h3 hk
          rw [h5] at h6
          exact h6
end RXR
theorem rx_ofW {l : Launch} {y : MethodName} {ws ws' : List Cond} {rm : Room} {Pc : Array Value → State → Prop} {Qc : Array Value → State → Outcome → State → Prop} {mc ms : Nat} {free : Addr → Prop} {cc : ByteArray} {maxL : Nat} {ret : Option FieldType} (hy : plainFor y = true) (hw : ws = Cond.code y cc maxL ret :: ws')
    (body : ∀ p e s m args below meth c s₁, BodyLoose p l y (headSpec ws rm) cc maxL ret e s m args below meth c s₁ → c.maxLocals = maxL → Pc args s → W p l e (headSpec ws rm).room s m args below meth c s.heap [] 0 0 (MQ below Qc args s mc ms free) (entryFrame m args maxL)) : Met l y ws rm Pc Qc mc ms free := by
  refine MetFree.of_bodySF (code := cc) (maxLocals := maxL) (ret := ret) hy ?_ ?_
  · intro args s m h hn
    obtain ⟨meth, c, h1, h2, h3, h4, h5, h6, -, -⟩ := Cond.code_spec hn (atoms_spec (ws := ws) h _ (by rw [hw]; exact List.mem_cons_self))
    exact ⟨meth, c, h1, h2, h3, h4, h5, h6⟩
  · intro p e s m args below meth c s₁ B hml hP _
    have hh0 : s₁.heap = s.heap := by rw [B.state]; rfl
    obtain ⟨t, a1, o, b1, b2, b3⟩ := body p e s m args below meth c s₁ B hml hP s₁ hh0 (Stand.of_body B)
    exact ⟨t, o, a1, b1, b2, ⟨b3.1, b3.2⟩⟩
/-- the answer's kind -/
def rx_rk (q : Nat) (t : Option FieldType) : Bool := match t with
  | none => Nat.beq q 0
  | some .int => Nat.beq q 1
  | some .boolean => Nat.beq q 2
  | some .byte => Nat.beq q 3
  | some .char => Nat.beq q 4
  | some .long => Nat.beq q 5
  | _ => false
/-- a method's row and its table fit -/
def rx_tOk (mi : List rx_Y) (x : List rx_E × Nat × Nat × Nat × Nat) (Y : rx_Y) : Prop := Y.2.2.1 = x.2.1 ∧ rx_rk x.2.2.2.2 Y.2.2.2 = true ∧ Cond.code Y.1 Y.2.1 Y.2.2.1 Y.2.2.2 ∈ rx_words ∧ plainFor Y.1 = true ∧ x.1.all (rx_okb mi Y.1.cls Y.1.name Y.2.1) = true ∧ rx_seq x.1 = true ∧ ∃ e rest, x.1 = e :: rest ∧ e.1 = 0
theorem rx_args_lv (X : rx_X) (as : List rx_V) : ∀ i : Nat, lv_args i (as.map (rx_d X)) = rx_Lm X (rx_args as i) := by
  induction as with
  | nil => intro i; rfl
  | cons v t ih =>
    intro i
    show (i, rx_d X v) :: lv_args (if (rx_d X v).category = 2 then i + 2 else i + 1) (t.map (rx_d X)) = (i, rx_d X v) :: rx_Lm X (rx_args t (i + rx_cat v))
    rw [ih, rx_cat_d]
    have hc : rx_cat v = 1 ∨ rx_cat v = 2 := by rcases v with i | ((n | k) | ((_ | k) | j)) <;> simp [rx_cat]
    rcases hc with hc | hc <;> rw [hc] <;> rfl
theorem rx_sl_len (X : rx_X) (as : List rx_V) : (lg_sl (as.map (rx_d X))).length = rx_cats as := by
  induction as with
  | nil => rfl
  | cons v t ih =>
    show (lg_sl (rx_d X v :: t.map (rx_d X))).length = Nat.add (rx_cat v) (rx_cats t)
    rw [← ih]
    unfold lg_sl
    rw [List.flatMap_cons, List.length_append, rx_cat_d]
    have hc : rx_cat v = 1 ∨ rx_cat v = 2 := by rcases v with i | ((n | k) | ((_ | k) | j)) <;> simp [rx_cat]
    rcases hc with hc | hc <;> rw [hc] <;> rfl
theorem rx_cap_eq {tb : rx_T} : ∀ {nu : Nat} {x : List rx_E × Nat × Nat × Nat × Nat}, tb[nu]? = some x → rx_cap tb nu = (x.2.2.1, x.2.2.2.1) := by
  induction tb with
  | nil => intro nu x h; simp at h
  | cons y t ih =>
    intro nu x h
    cases nu with
    | zero => simp at h; rw [← h]; rfl
    | succ n => exact ih (by simpa using h)
theorem rx_end_i {q : Nat} {S : List rx_V} {w w' : List rx_C} {r : Option rx_V} (h : rx_end q .ireturn S w = some (r, w')) : (∃ n, S = [.inl (.inl n)] ∧ r = some (.inl (.inl n)) ∧ w' = w ∧ (q = 1 ∨ (q = 2 ∧ n ≤ 1) ∨ (q = 3 ∧ n < 128) ∨ (q = 4 ∧ n < 65536))) ∨ (∃ u, S = [.inl (.inr u)] ∧ r = some (.inl (.inr u)) ∧ w' = w ∧ q = 1) := by
  unfold rx_end at h
  dsimp only at h
  split at h
  · rename_i n
    obtain ⟨z1, h4⟩ := rx_c h
    cases h4
    refine Or.inl ⟨n, rfl, rfl, rfl, ?_⟩
    rcases Bool.or_eq_true_iff.mp z1 with z | z
    · exact Or.inl (rx_bq z)
    · rcases Bool.or_eq_true_iff.mp z with z | z
      · exact Or.inr (Or.inl ⟨rx_bq (rx_an z).1, rx_bl (rx_an z).2⟩)
      · rcases Bool.or_eq_true_iff.mp z with z | z
        · exact Or.inr (Or.inr (Or.inl ⟨rx_bq (rx_an z).1, rx_bt (rx_an z).2⟩))
        · exact Or.inr (Or.inr (Or.inr ⟨rx_bq (rx_an z).1, rx_bt (rx_an z).2⟩))
  · rename_i u
    obtain ⟨z1, h4⟩ := rx_c h
    cases h4
    exact Or.inr ⟨u, rfl, rfl, rfl, rx_bq z1⟩
  · cases h
theorem rx_end_l {q : Nat} {S : List rx_V} {w w' : List rx_C} {r : Option rx_V} (h : rx_end q .lreturn S w = some (r, w')) : ∃ x, S = [.inr (.inl x)] ∧ r = some (.inr (.inl x)) ∧ w' = w ∧ q = 5 := by
  unfold rx_end at h
  dsimp only at h
  split at h
  · rename_i x
    obtain ⟨z1, h4⟩ := rx_c h
    cases h4
    exact ⟨x, rfl, rfl, rfl, rx_bq z1⟩
  · cases h
theorem rx_nar_byte : ∀ n, n < 128 → narrow .byte (.int (nI n)) = .int (nI n) := by decide +kernel
set_option maxHeartbeats 1000000 in
theorem rx_ex_ok {l : Launch} {X : rx_X} {D : va_G} {G : rx_G} {tb : rx_T} {mi : List rx_Y} {fuel : Nat} (hG : rx_Gok G) (hF : rx_fok X G.1) (hT : ∀ (nu : Nat) (x : List rx_E × Nat × Nat × Nat × Nat), tb[nu]? = some x → ∃ Y, mi[nu]? = some Y ∧ rx_tOk mi x Y) :
    ∀ (d nu : Nat) (as : List rx_V) (w : List rx_C) (r : Option rx_V) (w' : List rx_C), rx_ex G tb fuel d nu as w = some (r, w') → ∃ Y, mi[nu]? = some Y ∧ Cond.code Y.1 Y.2.1 Y.2.2.1 Y.2.2.2 ∈ rx_words ∧ rx_Met l d (rx_cap tb nu).1 (rx_cap tb nu).2 Y X D G as w r w' := by
  intro d
  induction d with
  | zero => intro nu as w r w' h; cases h
  | succ d ih =>
    intro nu as w r w' h
    have h0 : rx_at tb nu (fun m => cond (Nat.ble (rx_cats as) m.2.1) (match rx_loop G m.1 m.2.1 m.2.2.1 m.2.2.2.1 (rx_cap tb) (rx_ex G tb fuel d) 99999999 fuel m.1 (rx_args as 0) [] w 0 0 with
      | some (e :: _, _, S, w', cc, ss) => cond (Nat.beq m.2.2.1 cc && Nat.ble ss m.2.2.2.1) (rx_end m.2.2.2.2 e.2.1 S w') none
      | _ => none) none) = some (r, w') := h
    obtain ⟨x, hx, h1⟩ := rx_at_ok h0
    obtain ⟨hc1, h2⟩ := rx_c h1
    have hc1 := rx_bl hc1
    obtain ⟨Y, hY, hmx, hrk, hcode, hpl, hokA, hsq, en, rest, hcd, hpc0⟩ := hT nu x hx
    refine ⟨Y, hY, hcode, ?_⟩
    rw [rx_cap_eq hx]
    obtain ⟨cd, nL, mc, ms, q⟩ := x
    dsimp only at h2 hmx hrk hokA hsq hcd hc1 ⊢
    cases hr : rx_loop G cd nL mc ms (rx_cap tb) (rx_ex G tb fuel d) 99999999 fuel cd (rx_args as 0) [] w 0 0 with
    | none => rw [hr] at h2; cases h2
    | some r1 =>
      rw [hr] at h2
      obtain ⟨cs1, L1, S1, w1, c1, s1⟩ := r1
      cases cs1 with
      | nil => cases h2
      | cons e1 rest1 =>
        obtain ⟨hc2, h3⟩ := rx_c h2
        obtain ⟨hc2, hc3⟩ := rx_an hc2
        have hc2 := rx_bq hc2
        have hc3 := rx_bl hc3
        subst hc2
        unfold rx_Met
        refine rx_ofW (cc := Y.2.1) (maxL := Y.2.2.1) (ret := Y.2.2.2) hpl rfl ?_
        intro p e s m args below meth c s₁ B hml hv
        obtain ⟨rfl, hP, hz, hU⟩ := hv
        have hts0 := atoms_spec (ws := Cond.code Y.1 Y.2.1 Y.2.2.1 Y.2.2.2 :: rx_words) B.pre
        have C : rx_Cx p s m (as.map (rx_d X)).toArray c X D G Y.1.cls Y.2.1 nL := ⟨B.exec, B.bytes, by rw [hml]; exact hmx, findClass_of_methodNamed B.named, fun w hw => hts0 w (List.mem_cons_of_mem _ hw), hU, hF⟩
        have hnm : meth.name = Y.1.name := (name_of_methodNamed B.named B.method).1
        have hlocks := B.notSynchronized
        have hret := B.returns
        have hlv := lv_entry (as.map (rx_d X)) (n := Y.2.2.1) (by rw [rx_sl_len, hmx]; exact hc1)
        rw [lg_entry_eq]
        rw [rx_args_lv, hmx] at hlv
        rw [hmx]
        generalize ((lg_sl (as.map (rx_d X)) ++ List.replicate (nL - (lg_sl (as.map (rx_d X))).length) Slot.unset).toArray) = ls at hlv ⊢
        have hI : rx_Iv X D G s w 0 s.heap [] := ⟨hP, fun q => by rw [Nat.add_zero]; exact hz q, va_S.rf⟩
        have hgo : rx_W p l e (headSpec (Cond.code Y.1 Y.2.1 Y.2.2.1 Y.2.2.2 :: rx_words) (rx_rm (d + 1) mc ms)).room s m (as.map (rx_d X)).toArray below meth c (MQ below (rx_Qc X D G mc r w') (as.map (rx_d X)).toArray s mc ms (rx_A X)) X D G nL en.1 (rx_args as 0) [] w 0 0 := by
          refine rx_loop_ok (mi := mi) (nm := Y.1.name) (cap := rx_cap tb) (ex := rx_ex G tb fuel d) (mc := mc) (ms := ms) (d := d) (cd := cd) (stop := 99999999) (r := (e1 :: rest1, L1, S1, w1, mc, s1)) C hG hnm (Nat.le_refl _) (Nat.le_refl _) (Nat.le_refl _) (by show 64 * d + 64 ≤ 64 * (d + 1); omega) (ih) hokA hsq ?_ fuel [] en rest (rx_args as 0) [] w 0 0 hcd (by rw [← hcd]; exact hr)
          intro e9 pre9 rest9 L9 S9 w9 c9 s9 hcd9 hr9
          cases hr9
          intro H locs ls hI hl
          have hd : rx_okb mi Y.1.cls Y.1.name Y.2.1 e1 = true := List.all_eq_true.mp hokA e1 (by rw [hcd9]; exact List.mem_append_right _ List.mem_cons_self)
          have hend : ∀ (r0 : Option rx_V), r0 = r → w1 = w' → ∀ t : State, t.heap = H → s.WarmedH t.vm → rx_Qc X D G mc r w' (as.map (rx_d X)).toArray s (.returned (r0.map (rx_d X))) t := by
            intro r0 e0 e2 t ht _
            subst e0
            subst e2
            refine ⟨rfl, by rw [ht]; exact hI.1, hI.2.1, by rw [ht]; exact hI.2.2.1, fun q h1 h2 => by rw [ht]; exact hI.2.2.2.1 q h1 h2⟩
          refine W.widen (k := mc) (n := ms) (Nat.le_refl _) hc3 ?_
          obtain ⟨pc1, i1, len1, a1, b1, k1, t1⟩ := e1
          cases i1 with
          | return_ =>
            obtain ⟨hd, -⟩ := rx_d1_ok hd
            obtain ⟨z1, h4⟩ := rx_c h3
            have z1 := rx_bq z1
            cases S1 with
            | nil =>
              cases h4
              have hn : Y.2.2.2 = none := by
                cases hy : Y.2.2.2 with
                | none => rfl
                | some ty => rw [hy, z1] at hrk; cases ty <;> cases hrk
              exact W.vret C.1 C.2.1 (by rw [hret]; exact hn) (hend none rfl rfl) hI.2.2.2.2 hd
            | cons v S2 => cases h4
          | ireturn =>
            obtain ⟨hd, -⟩ := rx_d1_ok hd
            have hty : ∀ ty : FieldType, (∀ t : Option FieldType, rx_rk q t = true → t = some ty) → meth.sig.returnType = some ty := fun ty hu => by rw [hret]; exact hu _ hrk
            rcases rx_end_i h3 with ⟨n, rfl, rfl, rfl, z | ⟨z, zn⟩ | ⟨z, zn⟩ | ⟨z, zn⟩⟩ | ⟨u, rfl, rfl, rfl, z⟩
            · subst z
              exact W.iret (v := nI n) C.1 C.2.1 (hty .int (fun t ht => by rcases t with _ | ty <;> first | (cases ht; done) | (cases ty <;> first | rfl | (cases ht; done)))) (hend (some (.inl (.inl n))) rfl rfl) hI.2.2.2.2 hd
            · subst z
              exact W.zret (v := nI n) (ty := .boolean) C.1 C.2.1 (hty .boolean (fun t ht => by rcases t with _ | ty <;> first | (cases ht; done) | (cases ty <;> first | rfl | (cases ht; done)))) (rx_nar_bool zn) (hend (some (.inl (.inl n))) rfl rfl) hI.2.2.2.2 hd
            · subst z
              exact W.zret (v := nI n) (ty := .byte) C.1 C.2.1 (hty .byte (fun t ht => by rcases t with _ | ty <;> first | (cases ht; done) | (cases ty <;> first | rfl | (cases ht; done)))) (rx_nar_byte n zn) (hend (some (.inl (.inl n))) rfl rfl) hI.2.2.2.2 hd
            · subst z
              exact W.zret (v := nI n) (ty := .char) C.1 C.2.1 (hty .char (fun t ht => by rcases t with _ | ty <;> first | (cases ht; done) | (cases ty <;> first | rfl | (cases ht; done)))) (pk_charN zn).1 (hend (some (.inl (.inl n))) rfl rfl) hI.2.2.2.2 hd
            · subst z
              exact W.iret (v := rx_N X (.inr u)) C.1 C.2.1 (hty .int (fun t ht => by rcases t with _ | ty <;> first | (cases ht; done) | (cases ty <;> first | rfl | (cases ht; done)))) (hend (some (.inl (.inr u))) rfl rfl) hI.2.2.2.2 hd
          | lreturn =>
            obtain ⟨hd, -⟩ := rx_d1_ok hd
            obtain ⟨x, rfl, rfl, rfl, z⟩ := rx_end_l h3
            subst z
            have hr5 : meth.sig.returnType = some .long := by
              have hu : ∀ t : Option FieldType, rx_rk 5 t = true → t = some .long := (fun t ht => by rcases t with _ | ty <;> first | (cases ht; done) | (cases ty <;> first | rfl | (cases ht; done)))
              rw [hret]; exact hu _ hrk
            rcases x with n | n
            · exact W.lret (v := lN n) C.1 C.2.1 hr5 (hend (some (.inr (.inl (.inl n)))) rfl rfl) hI.2.2.2.2 hd
            · exact W.lret (v := (X.1 n).toInt64) C.1 C.2.1 hr5 (hend (some (.inr (.inl (.inr n)))) rfl rfl) hI.2.2.2.2 hd
          | _ => exact absurd (show (none : Option (Option rx_V × List rx_C)) = some (r, w') from h3) (by simp)
        rw [hpc0] at hgo
        exact hgo s.heap [] ls hI hlv
end
section
/-! THE SECOND LAYER: an int is an Int within its bounds, the store a function. Numbers -/
abbrev zV : Type := Int ⊕ (Int ⊕ (Nat ⊕ Nat))
abbrev zS : Type := Nat → Nat → Int
abbrev zL : Type := List (Nat × zV)
def zw (z : Int) : Int := (z + 2147483648) % 4294967296 - 2147483648
def zx (z : Int) : Int := (z + 9223372036854775808) % 18446744073709551616 - 9223372036854775808
def zi (z : Int) : Nat := (z % 4294967296).toNat
def zl (z : Int) : Nat := (z % 18446744073709551616).toNat
def zd (n : Nat) : Int := cond (Nat.blt n 2147483648) (n : Int) ((n : Int) - 4294967296)
def ze (n : Nat) : Int := cond (Nat.blt n 9223372036854775808) (n : Int) ((n : Int) - 18446744073709551616)
def zb (z : Int) : Int := (z + 128) % 256 - 128
def zsI (z : Int) : Prop := -2147483648 ≤ z ∧ z ≤ 2147483647
def zsL (z : Int) : Prop := -9223372036854775808 ≤ z ∧ z ≤ 9223372036854775807
def zok (v : zV) : Prop := match v with
  | .inl z => zsI z
  | .inr (.inl z) => zsL z
  | .inr (.inr _) => True
def zv (v : zV) : rx_V := match v with
  | .inl z => .inl (.inl (zi z))
  | .inr (.inl z) => .inr (.inl (.inl (zl z)))
  | .inr (.inr (.inl c)) => .inr (.inr (.inl (some c)))
  | .inr (.inr (.inr j)) => .inr (.inr (.inr j))
theorem zblt (a b : Nat) : Nat.blt a b = decide (a < b) := by
  rcases Nat.lt_or_ge a b with h | h
  · rw [decide_eq_true h]; exact Nat.ble_eq_true_of_le h
  · rw [decide_eq_false (Nat.not_lt.mpr h)]
    cases c : Nat.blt a b with
    | true => have := Nat.le_of_ble_eq_true (show Nat.ble (a + 1) b = true from c); omega
    | false => rfl
theorem zble (a b : Nat) : Nat.ble a b = decide (a ≤ b) := by
  rcases Nat.lt_or_ge b a with h | h
  · rw [decide_eq_false (Nat.not_le.mpr h)]
    cases c : Nat.ble a b with
    | true => have := Nat.le_of_ble_eq_true c; omega
    | false => rfl
  · rw [decide_eq_true h]; exact Nat.ble_eq_true_of_le h
theorem zbeq (a b : Nat) : Nat.beq a b = decide (a = b) := by
  by_cases h : a = b
  · rw [decide_eq_true h, h]; exact Nat.beq_refl b
  · rw [decide_eq_false h]; exact (rx_bnf a b).mpr h
theorem zw_ok (z : Int) : zsI (zw z) := by unfold zsI zw; omega
theorem zx_ok (z : Int) : zsL (zx z) := by unfold zsL zx; omega
theorem zw_id {z : Int} (h : zsI z) : zw z = z := by unfold zsI at h; unfold zw; omega
theorem zx_id {z : Int} (h : zsL z) : zx z = z := by unfold zsL at h; unfold zx; omega
theorem zb_ok (z : Int) : -128 ≤ zb z ∧ zb z ≤ 127 := by unfold zb; omega
theorem zi_lt (z : Int) : zi z < 4294967296 := by unfold zi; omega
theorem zl_lt (z : Int) : zl z < 18446744073709551616 := by unfold zl; omega
theorem zi_zw (z : Int) : zi (zw z) = zi z := by unfold zi zw; omega
theorem zl_zx (z : Int) : zl (zx z) = zl z := by unfold zl zx; omega
theorem zi_add (x y : Int) : (zi x + zi y) % 4294967296 = zi (zw (x + y)) := by unfold zi zw; omega
theorem zi_sub (x y : Int) : (zi x + (4294967296 - zi y % 4294967296)) % 4294967296 = zi (zw (x - y)) := by unfold zi zw; omega
theorem zl_add (x y : Int) : (zl x + zl y) % 18446744073709551616 = zl (zx (x + y)) := by unfold zl zx; omega
theorem zl_sub (x y : Int) : (zl x + (18446744073709551616 - zl y % 18446744073709551616)) % 18446744073709551616 = zl (zx (x - y)) := by unfold zl zx; omega
theorem zi_mul (x y : Int) : (zi x * zi y) % 4294967296 = zi (zw (x * y)) := by
  rw [zi_zw]
  have hx : ((zi x : Nat) : Int) = x % 4294967296 := by unfold zi; omega
  have hy : ((zi y : Nat) : Int) = y % 4294967296 := by unfold zi; omega
  have hz : ((zi (x * y) : Nat) : Int) = (x * y) % 4294967296 := by unfold zi; omega
  refine Int.ofNat.inj ?_
  show (((zi x * zi y) % 4294967296 : Nat) : Int) = ((zi (x * y) : Nat) : Int)
  rw [Int.natCast_emod, Int.natCast_mul, hx, hy, hz]
  exact (Int.mul_emod x y 4294967296).symm
theorem zl_mul (x y : Int) : (zl x * zl y) % 18446744073709551616 = zl (zx (x * y)) := by
  rw [zl_zx]
  have hx : ((zl x : Nat) : Int) = x % 18446744073709551616 := by unfold zl; omega
  have hy : ((zl y : Nat) : Int) = y % 18446744073709551616 := by unfold zl; omega
  have hz : ((zl (x * y) : Nat) : Int) = (x * y) % 18446744073709551616 := by unfold zl; omega
  refine Int.ofNat.inj ?_
  show (((zl x * zl y) % 18446744073709551616 : Nat) : Int) = ((zl (x * y) : Nat) : Int)
  rw [Int.natCast_emod, Int.natCast_mul, hx, hy, hz]
  exact (Int.mul_emod x y 18446744073709551616).symm
theorem zi_zd {n : Nat} (h : n < 4294967296) : zi (zd n) = n := by
  unfold zi zd
  rw [zblt]
  by_cases c : n < 2147483648
  · rw [decide_eq_true c]; simp only [cond_true]; omega
  · rw [decide_eq_false c]; simp only [cond_false]; omega
theorem zl_ze {n : Nat} (h : n < 18446744073709551616) : zl (ze n) = n := by
  unfold zl ze
  rw [zblt]
  by_cases c : n < 9223372036854775808
  · rw [decide_eq_true c]; simp only [cond_true]; omega
  · rw [decide_eq_false c]; simp only [cond_false]; omega
theorem zd_ok {n : Nat} (h : n < 4294967296) : zsI (zd n) := by
  unfold zsI zd
  rw [zblt]
  by_cases c : n < 2147483648
  · rw [decide_eq_true c]; simp only [cond_true]; omega
  · rw [decide_eq_false c]; simp only [cond_false]; omega
theorem ze_ok {n : Nat} (h : n < 18446744073709551616) : zsL (ze n) := by
  unfold zsL ze
  rw [zblt]
  by_cases c : n < 9223372036854775808
  · rw [decide_eq_true c]; simp only [cond_true]; omega
  · rw [decide_eq_false c]; simp only [cond_false]; omega
theorem zi_nn {z : Int} (h0 : 0 ≤ z) (h1 : z ≤ 2147483647) : zi z = z.toNat := by unfold zi; omega
theorem zl_nn {z : Int} (h0 : 0 ≤ z) (h1 : z ≤ 9223372036854775807) : zl z = z.toNat := by unfold zl; omega
theorem zi_bias {z : Int} (h : zsI z) : (zi z + 2147483648) % 4294967296 = (z + 2147483648).toNat := by unfold zsI at h; unfold zi; omega
theorem zl_bias {z : Int} (h : zsL z) : (zl z + 9223372036854775808) % 18446744073709551616 = (z + 9223372036854775808).toNat := by unfold zsL at h; unfold zl; omega
theorem zi_inj {x y : Int} (hx : zsI x) (hy : zsI y) (h : zi x = zi y) : x = y := by unfold zsI at hx hy; unfold zi at h; omega
/-- the machine's int of a number, and back -/
theorem zI_toInt (z : Int) : (nI (zi z)).toInt = zw z := by
  have h1 := rx_b_int (nI (zi z))
  rw [rx_b_nI] at h1
  have h2 : (((zi z + 2147483648) % 4294967296 : Nat) : Int) = zw z + 2147483648 := by unfold zi zw; omega
  omega
theorem zL_toInt (z : Int) : (lN (zl z)).toInt = zx z := by
  have h1 := rl_b_int (lN (zl z))
  rw [rl_b_lN] at h1
  have h2 : (((zl z + 9223372036854775808) % 18446744073709551616 : Nat) : Int) = zx z + 9223372036854775808 := by unfold zl zx; omega
  omega
theorem zI_eq {x : Int32} {z : Int} (h : x.toInt = zw z) : x = nI (zi z) := Int32.toInt_inj.mp (by rw [zI_toInt]; exact h)
theorem zL_eq {x : Int64} {z : Int} (h : x.toInt = zx z) : x = lN (zl z) := Int64.toInt_inj.mp (by rw [zL_toInt]; exact h)
theorem zbm (z : Int) : z.bmod 4294967296 = zw z := by
  rw [Int.bmod_def]
  unfold zw
  split <;> omega
theorem zbx (z : Int) : z.bmod 18446744073709551616 = zx z := by
  rw [Int.bmod_def]
  unfold zx
  split <;> omega
theorem zw_sub (x y : Int) : zw (x - zw y) = zw (x - y) := by unfold zw; omega
theorem zx_sub (x y : Int) : zx (x - zx y) = zx (x - y) := by unfold zx; omega
theorem zw_mul (x y : Int) : zw (zw x * y) = zw (x * y) := by
  have h : (zw x * y) % 4294967296 = (x * y) % 4294967296 := by
    rw [Int.mul_emod, Int.mul_emod x y]
    have h1 : zw x % 4294967296 = x % 4294967296 := by unfold zw; omega
    rw [h1]
  unfold zw at h ⊢
  omega
theorem zx_mul (x y : Int) : zx (zx x * y) = zx (x * y) := by
  have h : (zx x * y) % 18446744073709551616 = (x * y) % 18446744073709551616 := by
    rw [Int.mul_emod, Int.mul_emod x y]
    have h1 : zx x % 18446744073709551616 = x % 18446744073709551616 := by unfold zx; omega
    rw [h1]
  unfold zx at h ⊢
  omega
theorem zI_div {x y : Int} (hx : zsI x) (hy : zsI y) : nI (zi x) / nI (zi y) = nI (zi (zw (Int.tdiv x y))) := by
  refine zI_eq ?_
  rw [Int32.toInt_div, zI_toInt, zI_toInt, zw_id hx, zw_id hy, zw_id (zw_ok _)]
  exact zbm _
theorem zL_div {x y : Int} (hx : zsL x) (hy : zsL y) : lN (zl x) / lN (zl y) = lN (zl (zx (Int.tdiv x y))) := by
  refine zL_eq ?_
  rw [Int64.toInt_div, zL_toInt, zL_toInt, zx_id hx, zx_id hy, zx_id (zx_ok _)]
  exact zbx _
theorem zI_rem {x y : Int} (hx : zsI x) (hy : zsI y) : nI (zi x) - nI (zi x) / nI (zi y) * nI (zi y) = nI (zi (zw (Int.tmod x y))) := by
  refine zI_eq ?_
  rw [zI_div hx hy, Int32.toInt_sub, Int32.toInt_mul, zI_toInt, zI_toInt, zI_toInt, zw_id hx, zw_id hy, zw_id (zw_ok _), zw_id (zw_ok _)]
  rw [show (2 : Nat) ^ 32 = 4294967296 from rfl, zbm, zbm, zw_sub, ← zw_sub, zw_mul, zw_sub]
  congr 1
  have := Int.tdiv_mul_add_tmod x y
  omega
theorem zL_rem {x y : Int} (hx : zsL x) (hy : zsL y) : lN (zl x) - lN (zl x) / lN (zl y) * lN (zl y) = lN (zl (zx (Int.tmod x y))) := by
  refine zL_eq ?_
  rw [zL_div hx hy, Int64.toInt_sub, Int64.toInt_mul, zL_toInt, zL_toInt, zL_toInt, zx_id hx, zx_id hy, zx_id (zx_ok _), zx_id (zx_ok _)]
  rw [show (2 : Nat) ^ 64 = 18446744073709551616 from rfl, zbx, zbx, zx_sub, ← zx_sub, zx_mul, zx_sub]
  congr 1
  have := Int.tdiv_mul_add_tmod x y
  omega
theorem zi_ne0 {y : Int} (hy : zsI y) (h : ¬ y = 0) : ¬ nI (zi y) = 0 := by
  intro q
  have h1 := zI_toInt y
  rw [q, zw_id hy] at h1
  exact h h1.symm
theorem zl_ne0 {y : Int} (hy : zsL y) (h : ¬ y = 0) : ¬ lN (zl y) = 0 := by
  intro q
  have h1 := zL_toInt y
  rw [q, zx_id hy] at h1
  exact h h1.symm
theorem zs31 (y : Int) : zi y % 32 = (y % 32).toNat := by unfold zi; omega
theorem zs63 (y : Int) : zi y % 64 = (y % 64).toNat := by unfold zi; omega
def zpw (k : Nat) : Int := ((2 ^ k : Nat) : Int)
theorem zpw_pos (k : Nat) : 0 < zpw k := by
  have : 0 < 2 ^ k := Nat.pow_pos (by decide)
  unfold zpw
  omega
theorem zdiv_rng {x d a b : Int} (hd : 0 < d) (ha : a ≤ 0) (hb : 0 ≤ b) (h1 : a ≤ x) (h2 : x ≤ b) : a ≤ x / d ∧ x / d ≤ b := by
  constructor
  · refine (Int.le_ediv_iff_mul_le hd).mpr ?_
    have h3 : a * d ≤ a * 1 := Int.mul_le_mul_of_nonpos_left ha (by omega)
    omega
  · refine Int.le_of_lt_add_one ((Int.ediv_lt_iff_lt_mul hd).mpr ?_)
    have h3 : (b + 1) * 1 ≤ (b + 1) * d := Int.mul_le_mul_of_nonneg_left (by omega) (by omega)
    omega
theorem zI_shr {x : Int} (hx : zsI x) (y : Int) : nI (zi x) >>> (nI (zi y) &&& 31) = nI (zi (x / zpw (y % 32).toNat)) := by
  rw [rx_a31]
  have hk : zi y % 32 < 32 := Nat.mod_lt _ (by decide)
  have h0 : zsI (x / zpw (y % 32).toNat) := zdiv_rng (zpw_pos _) (by decide) (by decide) hx.1 hx.2
  refine zI_eq ?_
  rw [zw_id h0]
  show (BitVec.sshiftRight' (nI (zi x)).toBitVec ((nI (zi y % 32)).toBitVec.smod 32)).toInt = _
  rw [BitVec.toInt_sshiftRight', rx_smod _ hk, Int.shiftRight_eq_div_pow, zs31]
  have h1 : (nI (zi x)).toBitVec.toInt = x := by
    have := zI_toInt x
    rw [zw_id hx] at this
    exact this
  rw [h1]
  rfl
theorem zl_smod : ∀ k, k < 64 → ((lN k).toBitVec.smod 64).toNat = k := by decide +kernel
theorem zl_a63 (y : Int) : (nI (zi y)).toInt64 &&& 63 = lN (zi y % 64) := by
  refine rl_inj ?_
  show ((nI (zi y)).toInt64.toBitVec &&& (63 : Int64).toBitVec).toNat = _
  rw [BitVec.toNat_and, rl_tn]
  have h1 : (63 : Int64).toBitVec.toNat = 2 ^ 6 - 1 := by decide
  rw [h1, Nat.and_two_pow_sub_one_eq_mod]
  have h2 : ((nI (zi y)).toInt64.toBitVec.toNat : Int) = (zw y) % 18446744073709551616 := by
    have h3 : (nI (zi y)).toInt64.toInt = zw y := by rw [Int32.toInt_toInt64]; exact zI_toInt y
    have h4 := rl_b_int ((nI (zi y)).toInt64)
    rw [h3] at h4
    unfold rl_b at h4
    have h5 := (nI (zi y)).toInt64.toBitVec.isLt
    have h6 := zw_ok y
    unfold zsI at h6
    omega
  have h7 : zi y % 64 < 64 := Nat.mod_lt _ (by decide)
  have h8 : ((nI (zi y)).toInt64.toBitVec.toNat) % 64 = zi y % 64 := by
    unfold zi zw at *
    omega
  show _ % 64 = _
  rw [h8]
  omega
theorem zL_shr {x : Int} (hx : zsL x) (y : Int) : lN (zl x) >>> ((nI (zi y)).toInt64 &&& 63) = lN (zl (x / zpw (y % 64).toNat)) := by
  rw [zl_a63]
  have hk : zi y % 64 < 64 := Nat.mod_lt _ (by decide)
  have h0 : zsL (x / zpw (y % 64).toNat) := zdiv_rng (zpw_pos _) (by decide) (by decide) hx.1 hx.2
  refine zL_eq ?_
  rw [zx_id h0]
  show (BitVec.sshiftRight' (lN (zl x)).toBitVec ((lN (zi y % 64)).toBitVec.smod 64)).toInt = _
  rw [BitVec.toInt_sshiftRight', zl_smod _ hk, Int.shiftRight_eq_div_pow, zs63]
  have h1 : (lN (zl x)).toBitVec.toInt = x := by
    have := zL_toInt x
    rw [zx_id hx] at this
    exact this
  rw [h1]
  rfl
theorem zL_shl (x y : Int) : lN (zl x) <<< ((nI (zi y)).toInt64 &&& 63) = lN (zl (ze ((zl x * 2 ^ (zi y % 64)) % 18446744073709551616))) := by
  rw [zl_a63, zl_ze (Nat.mod_lt _ (by decide)), rl_mod]
  have hk : zi y % 64 < 64 := Nat.mod_lt _ (by decide)
  refine rl_inj ?_
  show ((lN (zl x)).toBitVec <<< ((lN (zi y % 64)).toBitVec.smod 64)).toNat = _
  rw [BitVec.shiftLeft_eq', BitVec.toNat_shiftLeft, zl_smod _ hk, rl_tn, rl_tn, Nat.shiftLeft_eq, Nat.mod_mul_mod]
theorem zI_l {x : Int} (hx : zsI x) : (nI (zi x)).toInt64 = lN (zl x) := by
  refine zL_eq ?_
  rw [Int32.toInt_toInt64, zI_toInt, zw_id hx, zx_id]
  unfold zsI at hx
  unfold zsL
  omega
end
section
/-! the store as a function, and the world that it stands for. A cell's shape: an object (class, kinds of its fields: 0 int, 2 boolean, 3 long, 4 a reference, 10 + c the fixed reference c), or an array (0 int, 1 byte, 2 boolean, 3 long, 4 references; length) -/
abbrev zC : Type := (Nat × List Nat) ⊕ (Nat × Nat)
def zK (k : Nat) (z : Int) : zV := cond (Nat.ble 10 k) (.inr (.inr (.inl (k - 10)))) (cond (Nat.beq k 3) (.inr (.inl z)) (cond (Nat.beq k 4) (.inr (.inr (.inl z.toNat))) (.inl z)))
def zin (k : Nat) (z : Int) : Prop := cond (Nat.ble 10 k) True (cond (Nat.beq k 4) (0 ≤ z) (cond (Nat.beq k 3) (zsL z) (cond (Nat.beq k 2) (z = 0 ∨ z = 1) (cond (Nat.beq k 1) (-128 ≤ z ∧ z ≤ 127) (zsI z)))))
def zR (Sh : List zC) (st : zS) (w : List rx_C) : Prop := w.length = Sh.length ∧
  (∀ (c a : Nat) (ks : List Nat), Sh[c]? = some (.inl (a, ks)) → ∃ fs : List rx_V, w[c]? = some (.inl (a, fs)) ∧ fs.length = ks.length ∧ ∀ (f k : Nat), ks[f]? = some k → fs[f]? = some (zv (zK k (st c f)))) ∧
  (∀ (c t n : Nat), Sh[c]? = some (.inr (t, n)) → ∃ u : List (Nat × rx_V), w[c]? = some (.inr (t, n, u)) ∧ (n < 2147483648 ∧ t < 5) ∧ ∀ j, j < n → rx_lk u j (rx_df t) = zv (zK t (st c j)))
def zup (st : zS) (c i : Nat) (z : Int) : zS := fun c' i' => cond (Nat.beq c' c && Nat.beq i' i) z (st c' i')
def zcp (st : zS) (c0 s0 c1 d1 n : Nat) : zS := fun c i => cond (Nat.beq c c1 && (Nat.ble d1 i && Nat.blt i (d1 + n))) (st c0 (s0 + (i - d1))) (st c i)
theorem zup_eq (st : zS) (c i : Nat) (z : Int) : zup st c i z c i = z := by
  unfold zup
  rw [zbeq, zbeq]
  simp
theorem zup_ne (st : zS) {c i c' i' : Nat} (z : Int) (h : ¬ (c' = c ∧ i' = i)) : zup st c i z c' i' = st c' i' := by
  unfold zup
  rw [zbeq, zbeq]
  by_cases h1 : c' = c
  · have h2 : ¬ i' = i := fun q => h ⟨h1, q⟩
    simp [h1, h2]
  · simp [h1]
theorem zup_nc (st : zS) {c i c' i' : Nat} (z : Int) (h : ¬ c' = c) : zup st c i z c' i' = st c' i' := zup_ne st z (fun q => h q.1)
theorem zup_ni (st : zS) {c i i' : Nat} (z : Int) (h : ¬ i' = i) : zup st c i z c i' = st c i' := zup_ne st z (fun q => h q.2)
theorem zup_if (st : zS) (c i c' i' : Nat) (z : Int) : zup st c i z c' i' = if c' = c ∧ i' = i then z else st c' i' := by
  by_cases h : c' = c ∧ i' = i
  · rw [if_pos h, h.1, h.2, zup_eq]
  · rw [if_neg h, zup_ne st z h]
theorem zcp_if (st : zS) (c0 s0 c1 d1 n c i : Nat) : zcp st c0 s0 c1 d1 n c i = if c = c1 ∧ d1 ≤ i ∧ i < d1 + n then st c0 (s0 + (i - d1)) else st c i := by
  unfold zcp
  rw [zbeq, zble, zblt]
  by_cases h1 : c = c1
  · by_cases h2 : d1 ≤ i
    · by_cases h3 : i < d1 + n
      · simp [h1, h2, h3]
      · simp [h1, h2, h3]
    · simp [h1, h2]
  · simp [h1]
theorem zat_eq {α β : Type} {l : List α} : ∀ {n : Nat} {x : α} (k : α → Option β), l[n]? = some x → rx_at l n k = k x := by
  induction l with
  | nil => intro n x k h; simp at h
  | cons a t ih =>
    intro n x k h
    cases n with
    | zero => simp at h; rw [← h]; rfl
    | succ n => exact ih k (by simpa using h)
theorem zset_eq {α β : Type} {l : List α} : ∀ {n : Nat} (v : α) (k : List α → Option β), n < l.length → rx_set l n v k = k (l.set n v) := by
  induction l with
  | nil => intro n v k h; simp at h
  | cons a t ih =>
    intro n v k h
    cases n with
    | zero => rfl
    | succ n => exact ih v (fun t' => k (a :: t')) (by simpa using h)
theorem zlt_of {α : Type} {l : List α} {n : Nat} {x : α} (h : l[n]? = some x) : n < l.length := by
  rcases Nat.lt_or_ge n l.length with q | q
  · exact q
  · rw [List.getElem?_eq_none q] at h; cases h
theorem zlk_cons (j i : Nat) (v d : rx_V) (l : List (Nat × rx_V)) : rx_lk ((j, v) :: l) i d = if j = i then v else rx_lk l i d := by
  show cond (Nat.beq j i) v (rx_lk l i d) = _
  rw [zbeq]
  by_cases h : j = i <;> simp [h]
theorem zlk_filter (j i : Nat) (d : rx_V) (l : List (Nat × rx_V)) (h : ¬ j = i) : rx_lk (l.filter (fun q => !Nat.beq q.1 j)) i d = rx_lk l i d := by
  induction l with
  | nil => rfl
  | cons q t ih =>
    obtain ⟨a, v⟩ := q
    by_cases ha : a = j
    · have h1 : (!Nat.beq a j) = false := by rw [zbeq]; simp [ha]
      rw [List.filter_cons]
      simp only [h1]
      rw [zlk_cons]
      have h2 : ¬ a = i := fun q => h (by rw [← ha, q])
      rw [if_neg h2]
      exact ih
    · have h1 : (!Nat.beq a j) = true := by rw [zbeq]; simp [ha]
      rw [List.filter_cons]
      simp only [h1, if_true]
      rw [zlk_cons, zlk_cons, ih]
theorem zK_lt {k : Nat} (h : k < 10) : Nat.ble 10 k = false := by rw [zble]; simp; omega
theorem zR_putf {Sh : List zC} {st : zS} {w : List rx_C} {c a f k : Nat} {ks : List Nat} {fs : List rx_V} {z : Int} (h : zR Sh st w) (hc : Sh[c]? = some (.inl (a, ks))) (hf : ks[f]? = some k) (hw : w[c]? = some (.inl (a, fs))) : zR Sh (zup st c f z) (w.set c (.inl (a, fs.set f (zv (zK k z))))) := by
  obtain ⟨h1, h2, h3⟩ := h
  have hcw : c < w.length := zlt_of hw
  refine ⟨by rw [List.length_set]; exact h1, ?_, ?_⟩
  · intro c' a' ks' hc'
    by_cases e : c' = c
    · subst e
      rw [hc] at hc'
      cases hc'
      obtain ⟨fs', g1, g2, g3⟩ := h2 c' a ks hc
      rw [hw] at g1
      cases g1
      refine ⟨_, List.getElem?_set_self hcw, by rw [List.length_set]; exact g2, ?_⟩
      intro f' k' hk'
      by_cases e2 : f' = f
      · subst e2
        rw [hf] at hk'
        cases hk'
        rw [zup_eq]
        exact List.getElem?_set_self (by rw [g2]; exact zlt_of hf)
      · rw [zup_ni st z e2, List.getElem?_set_ne (fun q => e2 q.symm)]
        exact g3 f' k' hk'
    · obtain ⟨fs', g1, g2, g3⟩ := h2 c' a' ks' hc'
      refine ⟨fs', by rw [List.getElem?_set_ne (fun q => e q.symm)]; exact g1, g2, ?_⟩
      intro f' k' hk'
      rw [zup_nc st z e]
      exact g3 f' k' hk'
  · intro c' t' n' hc'
    by_cases e : c' = c
    · subst e
      rw [hc] at hc'
      cases hc'
    · obtain ⟨u, g1, g2, g3⟩ := h3 c' t' n' hc'
      refine ⟨u, by rw [List.getElem?_set_ne (fun q => e q.symm)]; exact g1, g2, ?_⟩
      intro j hj
      rw [zup_nc st z e]
      exact g3 j hj
theorem zR_puta {Sh : List zC} {st : zS} {w : List rx_C} {c t n j : Nat} {u : List (Nat × rx_V)} {z : Int} (h : zR Sh st w) (hc : Sh[c]? = some (.inr (t, n))) (hw : w[c]? = some (.inr (t, n, u))) : zR Sh (zup st c j z) (w.set c (.inr (t, n, (j, zv (zK t z)) :: u.filter (fun q => !Nat.beq q.1 j)))) := by
  obtain ⟨h1, h2, h3⟩ := h
  have hcw : c < w.length := zlt_of hw
  refine ⟨by rw [List.length_set]; exact h1, ?_, ?_⟩
  · intro c' a' ks' hc'
    by_cases e : c' = c
    · subst e
      rw [hc] at hc'
      cases hc'
    · obtain ⟨fs', g1, g2, g3⟩ := h2 c' a' ks' hc'
      refine ⟨fs', by rw [List.getElem?_set_ne (fun q => e q.symm)]; exact g1, g2, ?_⟩
      intro f' k' hk'
      rw [zup_nc st z e]
      exact g3 f' k' hk'
  · intro c' t' n' hc'
    by_cases e : c' = c
    · subst e
      rw [hc] at hc'
      cases hc'
      obtain ⟨u', g1, g2, g3⟩ := h3 c' t n hc
      rw [hw] at g1
      cases g1
      refine ⟨_, List.getElem?_set_self hcw, g2, ?_⟩
      intro i hi
      rw [zlk_cons]
      by_cases e2 : j = i
      · subst e2
        rw [if_pos rfl, zup_eq]
      · rw [if_neg e2, zlk_filter j i _ _ e2, zup_ni st z (fun q => e2 q.symm)]
        exact g3 i hi
    · obtain ⟨u', g1, g2, g3⟩ := h3 c' t' n' hc'
      refine ⟨u', by rw [List.getElem?_set_ne (fun q => e q.symm)]; exact g1, g2, ?_⟩
      intro i hi
      rw [zup_nc st z e]
      exact g3 i hi
theorem zlk_cpl (u0 : List (Nat × rx_V)) (sp dp : Nat) (tl : List (Nat × rx_V)) (i : Nat) (d : rx_V) : ∀ n, rx_lk (rx_cpl u0 sp dp tl n) i d = if dp ≤ i ∧ i < dp + n then rx_lk u0 (sp + (i - dp)) (.inl (.inl 0)) else rx_lk tl i d := by
  intro n
  induction n with
  | zero =>
    rw [if_neg (by omega)]
    rfl
  | succ n ih =>
    show rx_lk ((dp + n, rx_lk u0 (sp + n) (.inl (.inl 0))) :: rx_cpl u0 sp dp tl n) i d = _
    rw [zlk_cons, ih]
    by_cases e : dp + n = i
    · rw [if_pos e, if_pos (by omega), show sp + (i - dp) = sp + n by omega]
    · rw [if_neg e]
      by_cases e2 : dp ≤ i ∧ i < dp + n
      · rw [if_pos e2, if_pos (by omega)]
      · rw [if_neg e2, if_neg (by omega)]
theorem zR_copy {Sh : List zC} {st : zS} {w : List rx_C} {c0 c1 n0 n1 s0 d1 n : Nat} {u0 u1 : List (Nat × rx_V)} (h : zR Sh st w) (hc0 : Sh[c0]? = some (.inr (0, n0))) (hc1 : Sh[c1]? = some (.inr (0, n1))) (hs : s0 + n ≤ n0) (hd : d1 + n ≤ n1) (hw0 : w[c0]? = some (.inr (0, n0, u0))) (hw1 : w[c1]? = some (.inr (0, n1, u1))) : zR Sh (zcp st c0 s0 c1 d1 n) (w.set c1 (.inr (0, n1, rx_cpl u0 s0 d1 u1 n))) := by
  obtain ⟨h1, h2, h3⟩ := h
  have hcw : c1 < w.length := zlt_of hw1
  refine ⟨by rw [List.length_set]; exact h1, ?_, ?_⟩
  · intro c' a' ks' hc'
    by_cases e : c' = c1
    · subst e
      rw [hc1] at hc'
      cases hc'
    · obtain ⟨fs', g1, g2, g3⟩ := h2 c' a' ks' hc'
      refine ⟨fs', by rw [List.getElem?_set_ne (fun q => e q.symm)]; exact g1, g2, ?_⟩
      intro f' k' hk'
      rw [zcp_if, if_neg (fun q => e q.1)]
      exact g3 f' k' hk'
  · intro c' t' n' hc'
    by_cases e : c' = c1
    · subst e
      rw [hc1] at hc'
      cases hc'
      obtain ⟨u', g1, g2, g3⟩ := h3 c' 0 n1 hc1
      rw [hw1] at g1
      cases g1
      obtain ⟨u'', k1, k2, k3⟩ := h3 c0 0 n0 hc0
      rw [hw0] at k1
      cases k1
      refine ⟨_, List.getElem?_set_self hcw, g2, ?_⟩
      intro i hi
      rw [zlk_cpl, zcp_if]
      by_cases e2 : d1 ≤ i ∧ i < d1 + n
      · rw [if_pos e2, if_pos ⟨rfl, e2⟩]
        exact k3 _ (by omega)
      · rw [if_neg e2, if_neg (fun q => e2 q.2)]
        exact g3 i hi
    · obtain ⟨u', g1, g2, g3⟩ := h3 c' t' n' hc'
      refine ⟨u', by rw [List.getElem?_set_ne (fun q => e q.symm)]; exact g1, g2, ?_⟩
      intro i hi
      rw [zcp_if, if_neg (fun q => e q.1)]
      exact g3 i hi
/-- the store within its kinds -/
def zsk (Sh : List zC) (st : zS) : Prop := (∀ (c a : Nat) (ks : List Nat), Sh[c]? = some (.inl (a, ks)) → ∀ (f k : Nat), ks[f]? = some k → zin k (st c f)) ∧ (∀ (c t n : Nat), Sh[c]? = some (.inr (t, n)) → ∀ j, j < n → zin t (st c j))
theorem zsk_putf {Sh : List zC} {st : zS} {c a f k : Nat} {ks : List Nat} {z : Int} (h : zsk Sh st) (hc : Sh[c]? = some (.inl (a, ks))) (hf : ks[f]? = some k) (hz : zin k z) : zsk Sh (zup st c f z) := by
  refine ⟨fun c' a' ks' hc' f' k' hk' => ?_, fun c' t n hc' j hj => ?_⟩
  · rw [zup_if]
    split
    · rename_i e
      obtain ⟨rfl, rfl⟩ := e
      rw [hc] at hc'
      cases hc'
      rw [hf] at hk'
      cases hk'
      exact hz
    · exact h.1 c' a' ks' hc' f' k' hk'
  · rw [zup_if]
    split
    · rename_i e
      obtain ⟨rfl, rfl⟩ := e
      rw [hc] at hc'
      cases hc'
    · exact h.2 c' t n hc' j hj
theorem zsk_puta {Sh : List zC} {st : zS} {c t n i : Nat} {z : Int} (h : zsk Sh st) (hc : Sh[c]? = some (.inr (t, n))) (hz : zin t z) : zsk Sh (zup st c i z) := by
  refine ⟨fun c' a' ks' hc' f' k' hk' => ?_, fun c' t' n' hc' j hj => ?_⟩
  · rw [zup_if]
    split
    · rename_i e
      obtain ⟨rfl, rfl⟩ := e
      rw [hc] at hc'
      cases hc'
    · exact h.1 c' a' ks' hc' f' k' hk'
  · rw [zup_if]
    split
    · rename_i e
      obtain ⟨rfl, rfl⟩ := e
      rw [hc] at hc'
      cases hc'
      exact hz
    · exact h.2 c' t' n' hc' j hj
theorem zsk_copy {Sh : List zC} {st : zS} {c0 c1 n0 n1 s0 d1 n : Nat} (h : zsk Sh st) (hc0 : Sh[c0]? = some (.inr (0, n0))) (hc1 : Sh[c1]? = some (.inr (0, n1))) (hs : s0 + n ≤ n0) : zsk Sh (zcp st c0 s0 c1 d1 n) := by
  refine ⟨fun c' a' ks' hc' f' k' hk' => ?_, fun c' t' n' hc' j hj => ?_⟩
  · rw [zcp_if]
    split
    · rename_i e
      obtain ⟨rfl, -⟩ := e
      rw [hc1] at hc'
      cases hc'
    · exact h.1 c' a' ks' hc' f' k' hk'
  · rw [zcp_if]
    split
    · rename_i e
      obtain ⟨rfl, e1, e2⟩ := e
      rw [hc1] at hc'
      cases hc'
      exact h.2 c0 0 n0 hc0 _ (by omega)
    · exact h.2 c' t' n' hc' j hj
theorem zK_ok {k : Nat} {z : Int} (h : zin k z) : zok (zK k z) := by
  unfold zin at h
  unfold zK
  cases h1 : Nat.ble 10 k with
  | true => trivial
  | false =>
    rw [h1] at h
    cases h2 : Nat.beq k 4 with
    | true =>
      have h3 : Nat.beq k 3 = false := by rw [rx_bq h2]; rfl
      simp only [h3, cond_false, cond_true]
      trivial
    | false =>
      cases h3 : Nat.beq k 3 with
      | true =>
        rw [h2, h3] at h
        exact h
      | false =>
        rw [h2, h3] at h
        simp only [cond_false] at h ⊢
        show zsI z
        unfold zsI
        cases h4 : Nat.beq k 2 with
        | true => rw [h4] at h; simp only [cond_true] at h; omega
        | false =>
          rw [h4] at h
          simp only [cond_false] at h
          cases h5 : Nat.beq k 1 with
          | true => rw [h5] at h; simp only [cond_true] at h; omega
          | false => rw [h5] at h; exact h
end
section
/-! A STEP of the second layer: what must hold so that the machine goes on well -/
abbrev zQ : Type := Option zV → zS → Prop
abbrev zCall : Type := Nat → List zV → zS → zQ → Prop
abbrev zG : Type := List rx_E → zL → List zV → zS → Prop
def zcat (v : zV) : Nat := match v with
  | .inr (.inl _) => 2
  | _ => 1
noncomputable def zcats (S : List zV) : Nat := List.rec 0 (fun v _ ih => Nat.add (zcat v) ih) S
noncomputable def zget (L : zL) (i : Nat) (k : zV → Prop) : Prop := List.rec False (fun q _ ih => cond (Nat.beq q.1 i) (k q.2) ih) L
def zP1 (a : Nat) (q : Nat × zV) : Bool := !(Nat.beq q.1 a || (Nat.beq (Nat.succ q.1) a && Nat.beq (zcat q.2) 2))
def zP2 (a : Nat) (q : Nat × zV) : Bool := !(Nat.beq q.1 a || (Nat.beq q.1 (Nat.succ a) || (Nat.beq (Nat.succ q.1) a && Nat.beq (zcat q.2) 2)))
noncomputable def zfil (P : Nat × zV → Bool) (L : zL) : zL := List.rec [] (fun q _ ih => cond (P q) (q :: ih) ih) L
noncomputable def ztake : Nat → List zV → List zV → (List zV → List zV → Prop) → Prop := fun n => Nat.rec (fun S acc k => k acc S) (fun _ ih S acc k => List.rec False (fun v t _ => ih t (v :: acc) k) S) n
noncomputable def zat {α : Type} (l : List α) : Nat → (α → Prop) → Prop := List.rec (fun _ _ => False) (fun a _ ih n k => Nat.rec (k a) (fun m _ => ih m k) n) l
def zcmp (c : Jvm.ClassFile.Cond) (x y : Int) : Prop := match c with
  | .lt => x < y
  | .ge => y ≤ x
  | .gt => y < x
  | .le => x ≤ y
  | .eq => x = y
  | .ne => ¬ x = y
def zcst (K : zG) (rest : List rx_E) (a : Nat) (L : zL) (S : List zV) (st : zS) : Prop := cond (Nat.blt a 4294967296) (K rest L (.inl (zd a) :: S) st) False
def zlst (K : zG) (rest : List rx_E) (a : Nat) (L : zL) (S : List zV) (st : zS) : Prop := cond (Nat.blt a 18446744073709551616) (K rest L (.inr (.inl (ze a)) :: S) st) False
noncomputable def zldI (K : zG) (rest : List rx_E) (a : Nat) (L : zL) (S : List zV) (st : zS) : Prop := zget L a (fun v => match v with
  | .inl _ => K rest L (v :: S) st
  | _ => False)
noncomputable def zldL (K : zG) (rest : List rx_E) (a : Nat) (L : zL) (S : List zV) (st : zS) : Prop := zget L a (fun v => match v with
  | .inr (.inl _) => K rest L (v :: S) st
  | _ => False)
noncomputable def zldA (K : zG) (rest : List rx_E) (a : Nat) (L : zL) (S : List zV) (st : zS) : Prop := zget L a (fun v => match v with
  | .inr (.inr _) => K rest L (v :: S) st
  | _ => False)
noncomputable def zstI (nL : Nat) (K : zG) (rest : List rx_E) (a : Nat) (L : zL) (S : List zV) (st : zS) : Prop := match S with
  | .inl x :: S' => cond (Nat.blt a nL) (K rest ((a, .inl x) :: zfil (zP1 a) L) S' st) False
  | _ => False
noncomputable def zstL (nL : Nat) (K : zG) (rest : List rx_E) (a : Nat) (L : zL) (S : List zV) (st : zS) : Prop := match S with
  | .inr (.inl x) :: S' => cond (Nat.blt (Nat.succ a) nL) (K rest ((a, .inr (.inl x)) :: zfil (zP2 a) L) S' st) False
  | _ => False
noncomputable def zstA (nL : Nat) (K : zG) (rest : List rx_E) (a : Nat) (L : zL) (S : List zV) (st : zS) : Prop := match S with
  | .inr (.inr x) :: S' => cond (Nat.blt a nL) (K rest ((a, .inr (.inr x)) :: zfil (zP1 a) L) S' st) False
  | _ => False
noncomputable def zinc (nL : Nat) (K : zG) (rest : List rx_E) (a b : Nat) (L : zL) (S : List zV) (st : zS) : Prop := zget L a (fun v => match v with
  | .inl x => cond (Nat.blt a nL && Nat.blt b 4294967296) (K rest ((a, .inl (zw (x + zd b))) :: zfil (zP1 a) L) S st) False
  | _ => False)
def z2 (f : Int → Int → Int) (K : zG) (rest : List rx_E) (L : zL) (S : List zV) (st : zS) : Prop := match S with
  | .inl y :: .inl x :: S' => K rest L (.inl (f x y) :: S') st
  | _ => False
def z2n (f : Int → Int → Int) (K : zG) (rest : List rx_E) (L : zL) (S : List zV) (st : zS) : Prop := match S with
  | .inl y :: .inl x :: S' => ¬ y = 0 ∧ K rest L (.inl (f x y) :: S') st
  | _ => False
def z2l (f : Int → Int → Int) (K : zG) (rest : List rx_E) (L : zL) (S : List zV) (st : zS) : Prop := match S with
  | .inr (.inl y) :: .inr (.inl x) :: S' => K rest L (.inr (.inl (f x y)) :: S') st
  | _ => False
def z2m (f : Int → Int → Int) (K : zG) (rest : List rx_E) (L : zL) (S : List zV) (st : zS) : Prop := match S with
  | .inr (.inl y) :: .inr (.inl x) :: S' => ¬ y = 0 ∧ K rest L (.inr (.inl (f x y)) :: S') st
  | _ => False
def z2s (f : Int → Int → Int) (K : zG) (rest : List rx_E) (L : zL) (S : List zV) (st : zS) : Prop := match S with
  | .inl y :: .inr (.inl x) :: S' => K rest L (.inr (.inl (f x y)) :: S') st
  | _ => False
def zlcm (K : zG) (rest : List rx_E) (L : zL) (S : List zV) (st : zS) : Prop := match S with
  | .inr (.inl y) :: .inr (.inl x) :: S' => (x < y → K rest L (.inl (-1) :: S') st) ∧ (x = y → K rest L (.inl 0 :: S') st) ∧ (y < x → K rest L (.inl 1 :: S') st)
  | _ => False
def zi2l (K : zG) (rest : List rx_E) (L : zL) (S : List zV) (st : zS) : Prop := match S with
  | .inl x :: S' => K rest L (.inr (.inl x) :: S') st
  | _ => False
def zl2i (K : zG) (rest : List rx_E) (L : zL) (S : List zV) (st : zS) : Prop := match S with
  | .inr (.inl x) :: S' => K rest L (.inl (zw x) :: S') st
  | _ => False
def zi2b (K : zG) (rest : List rx_E) (L : zL) (S : List zV) (st : zS) : Prop := match S with
  | .inl x :: S' => K rest L (.inl (zb x) :: S') st
  | _ => False
def zdup (K : zG) (rest : List rx_E) (L : zL) (S : List zV) (st : zS) : Prop := match S with
  | v :: S' => cond (Nat.beq (zcat v) 1) (K rest L (v :: v :: S') st) False
  | _ => False
def zdup2 (K : zG) (rest : List rx_E) (L : zL) (S : List zV) (st : zS) : Prop := match S with
  | v :: u :: S' => cond (Nat.beq (zcat v) 1 && Nat.beq (zcat u) 1) (K rest L (v :: u :: v :: u :: S') st) False
  | _ => False
def zpop (K : zG) (rest : List rx_E) (L : zL) (S : List zV) (st : zS) : Prop := match S with
  | v :: S' => cond (Nat.beq (zcat v) 1) (K rest L S' st) False
  | _ => False
def zicm (c : Jvm.ClassFile.Cond) (K : zG) (tgt rest : List rx_E) (L : zL) (S : List zV) (st : zS) : Prop := match S with
  | .inl y :: .inl x :: S' => (zcmp c x y → K tgt L S' st) ∧ (¬ zcmp c x y → K rest L S' st)
  | _ => False
def zifc (c : Jvm.ClassFile.Cond) (K : zG) (tgt rest : List rx_E) (L : zL) (S : List zV) (st : zS) : Prop := match S with
  | .inl x :: S' => (zcmp c x 0 → K tgt L S' st) ∧ (¬ zcmp c x 0 → K rest L S' st)
  | _ => False
noncomputable def zsws (P : Nat → Prop) (x : Int) (t : List Nat) : Int → Prop := List.rec (fun _ => True) (fun g _ ih n => (x = n → P g) ∧ ih (n + 1)) t
noncomputable def zsw (cd : List rx_E) (K : zG) (a b c : Nat) (t : List Nat) (L : zL) (S : List zV) (st : zS) : Prop := match S with
  | .inl x :: S' => cond (Nat.beq (b + t.length) (c + 1)) ((x < (b : Int) - 2147483648 → K (rx_find cd a) L S' st) ∧ ((c : Int) - 2147483648 < x → K (rx_find cd a) L S' st) ∧ zsws (fun g => K (rx_find cd g) L S' st) x t ((b : Int) - 2147483648)) False
  | _ => False
noncomputable def zgf (Sh : List zC) (K : zG) (rest : List rx_E) (a b c : Nat) (L : zL) (S : List zV) (st : zS) : Prop := match S with
  | .inr (.inr (.inl o)) :: S' => cond (Nat.ble c 1) (zat Sh o (fun s => match s with
    | .inl q => cond (Nat.beq q.1 a) (zat q.2 b (fun k => K rest L (zK k (st o b) :: S') st)) False
    | .inr _ => False)) False
  | _ => False
noncomputable def zpf (Sh : List zC) (K : zG) (rest : List rx_E) (a b c : Nat) (L : zL) (S : List zV) (st : zS) : Prop := match S with
  | v :: .inr (.inr (.inl o)) :: S' => zat Sh o (fun s => match s with
    | .inl q => cond (Nat.beq q.1 a) (zat q.2 b (fun k => cond (Nat.beq k c) (match v with
      | .inl z => cond (Nat.beq k 0) (K rest L S' (zup st o b z)) (cond (Nat.beq k 2) ((z = 0 ∨ z = 1) ∧ K rest L S' (zup st o b z)) False)
      | .inr (.inl z) => cond (Nat.beq k 3) (K rest L S' (zup st o b z)) False
      | .inr (.inr (.inl r)) => cond (Nat.beq k 4) (K rest L S' (zup st o b (r : Int))) False
      | _ => False) False)) False
    | .inr _ => False)
  | _ => False
noncomputable def zal (Sh : List zC) (q : Nat) (K : zG) (rest : List rx_E) (L : zL) (S : List zV) (st : zS) : Prop := match S with
  | .inl j :: .inr (.inr (.inl o)) :: S' => zat Sh o (fun s => match s with
    | .inr p => cond (Nat.beq p.1 q || (Nat.beq q 1 && Nat.beq p.1 2)) ((0 ≤ j ∧ j < (p.2 : Int)) ∧ K rest L (zK p.1 (st o j.toNat) :: S') st) False
    | .inl _ => False)
  | _ => False
noncomputable def zas (Sh : List zC) (q : Nat) (K : zG) (rest : List rx_E) (L : zL) (S : List zV) (st : zS) : Prop := match S with
  | v :: .inl j :: .inr (.inr (.inl o)) :: S' => zat Sh o (fun s => match s with
    | .inr p => cond (Nat.beq p.1 q || (Nat.beq q 1 && Nat.beq p.1 2)) ((0 ≤ j ∧ j < (p.2 : Int)) ∧ (match v with
      | .inl z => cond (Nat.beq p.1 0) (K rest L S' (zup st o j.toNat z)) (cond (Nat.beq p.1 1) (K rest L S' (zup st o j.toNat (zb z))) (cond (Nat.beq p.1 2) ((z = 0 ∨ z = 1) ∧ K rest L S' (zup st o j.toNat z)) False))
      | .inr (.inl z) => cond (Nat.beq p.1 3) (K rest L S' (zup st o j.toNat z)) False
      | _ => False)) False
    | .inl _ => False)
  | _ => False
noncomputable def zlen (Sh : List zC) (K : zG) (rest : List rx_E) (L : zL) (S : List zV) (st : zS) : Prop := match S with
  | .inr (.inr (.inl o)) :: S' => zat Sh o (fun s => match s with
    | .inr p => K rest L (.inl (p.2 : Int) :: S') st
    | .inl _ => False)
  | _ => False
noncomputable def zcpy (Sh : List zC) (K : zG) (rest : List rx_E) (L : zL) (S : List zV) (st : zS) : Prop := match S with
  | .inl n :: .inl dp :: .inr (.inr (.inl c1)) :: .inl sp :: .inr (.inr (.inl c0)) :: S' => cond (Nat.ble (zcats S') 8) (zat Sh c0 (fun s => match s with
    | .inr p => zat Sh c1 (fun s' => match s' with
      | .inr p' => cond (Nat.beq p.1 0 && Nat.beq p'.1 0) ((0 ≤ n ∧ 0 ≤ dp ∧ 0 ≤ sp ∧ sp + n ≤ (p.2 : Int) ∧ dp + n ≤ (p'.2 : Int)) ∧ K rest L S' (zcp st c0 sp.toNat c1 dp.toNat n.toNat)) False
      | .inl _ => False)
    | .inl _ => False)) False
  | _ => False
def zpush (r : Option zV) (S : List zV) : List zV := match r with
  | some v => v :: S
  | none => S
noncomputable def zinv (Sh : List zC) (call : zCall) (K : zG) (rest : List rx_E) (nu n q a : Nat) (L : zL) (S : List zV) (st : zS) : Prop :=
  ztake n S [] (fun as S' => cond (Nat.ble (zcats S') 8) (cond (Nat.beq q 0) (call nu as st (fun r st' => K rest L (zpush r S') st')) (cond (Nat.beq q 1) (match as with
    | .inr (.inr (.inl o)) :: _ => zat Sh o (fun s => match s with
      | .inl p => cond (Nat.beq p.1 a) (call nu as st (fun r st' => K rest L (zpush r S') st')) False
      | .inr _ => False)
    | _ => False) False)) False)
def zret (q : Nat) (Rt : zQ) (S : List zV) (st : zS) : Prop := cond (Nat.beq q 0) (match S with
  | [] => Rt none st
  | _ => False) False
def zreti (q : Nat) (Rt : zQ) (S : List zV) (st : zS) : Prop := match S with
  | [.inl z] => cond (Nat.beq q 1) (Rt (some (.inl z)) st) (cond (Nat.beq q 2) ((z = 0 ∨ z = 1) ∧ Rt (some (.inl z)) st) False)
  | _ => False
def zretl (q : Nat) (Rt : zQ) (S : List zV) (st : zS) : Prop := match S with
  | [.inr (.inl z)] => cond (Nat.beq q 5) (Rt (some (.inr (.inl z))) st) False
  | _ => False
noncomputable def zstep (Sh : List zC) (cd : List rx_E) (nL q : Nat) (call : zCall) (Rt : zQ) (K : zG) (e : rx_E) (rest : List rx_E) (L : zL) (S : List zV) (st : zS) : Prop :=
  match e.2.1 with
  | .iconst _ => zcst K rest e.2.2.2.1 L S st
  | .bipush _ => zcst K rest e.2.2.2.1 L S st
  | .sipush _ => zcst K rest e.2.2.2.1 L S st
  | .ldc _ => cond (Nat.beq e.2.2.2.2.1 0) (zcst K rest e.2.2.2.1 L S st) False
  | .ldc_w _ => zcst K rest e.2.2.2.1 L S st
  | .lconst _ => zlst K rest e.2.2.2.1 L S st
  | .ldc2_w _ => zlst K rest e.2.2.2.1 L S st
  | .iload _ => zldI K rest e.2.2.2.1 L S st
  | .iload_n _ => zldI K rest e.2.2.2.1 L S st
  | .lload _ => zldL K rest e.2.2.2.1 L S st
  | .lload_n _ => zldL K rest e.2.2.2.1 L S st
  | .aload _ => zldA K rest e.2.2.2.1 L S st
  | .aload_n _ => zldA K rest e.2.2.2.1 L S st
  | .istore _ => zstI nL K rest e.2.2.2.1 L S st
  | .istore_n _ => zstI nL K rest e.2.2.2.1 L S st
  | .lstore _ => zstL nL K rest e.2.2.2.1 L S st
  | .lstore_n _ => zstL nL K rest e.2.2.2.1 L S st
  | .astore _ => zstA nL K rest e.2.2.2.1 L S st
  | .astore_n _ => zstA nL K rest e.2.2.2.1 L S st
  | .iinc _ _ => zinc nL K rest e.2.2.2.1 e.2.2.2.2.1 L S st
  | .iadd => z2 (fun x y => zw (x + y)) K rest L S st
  | .isub => z2 (fun x y => zw (x - y)) K rest L S st
  | .imul => z2 (fun x y => zw (x * y)) K rest L S st
  | .iand => z2 (fun x y => zd (Nat.land (zi x) (zi y))) K rest L S st
  | .ior => z2 (fun x y => zd (Nat.lor (zi x) (zi y))) K rest L S st
  | .ixor => z2 (fun x y => zd (Nat.xor (zi x) (zi y))) K rest L S st
  | .ishl => z2 (fun x y => zd ((zi x * 2 ^ (zi y % 32)) % 4294967296)) K rest L S st
  | .iushr => z2 (fun x y => zd (zi x % 4294967296 / 2 ^ (zi y % 32))) K rest L S st
  | .ishr => z2 (fun x y => x / zpw (y % 32).toNat) K rest L S st
  | .idiv => z2n (fun x y => zw (Int.tdiv x y)) K rest L S st
  | .irem => z2n (fun x y => zw (Int.tmod x y)) K rest L S st
  | .i2b => zi2b K rest L S st
  | .i2l => zi2l K rest L S st
  | .l2i => zl2i K rest L S st
  | .ladd => z2l (fun x y => zx (x + y)) K rest L S st
  | .lsub => z2l (fun x y => zx (x - y)) K rest L S st
  | .lmul => z2l (fun x y => zx (x * y)) K rest L S st
  | .land => z2l (fun x y => ze (Nat.land (zl x) (zl y))) K rest L S st
  | .lor => z2l (fun x y => ze (Nat.lor (zl x) (zl y))) K rest L S st
  | .ldiv => z2m (fun x y => zx (Int.tdiv x y)) K rest L S st
  | .lrem => z2m (fun x y => zx (Int.tmod x y)) K rest L S st
  | .lshl => z2s (fun x y => ze ((zl x * 2 ^ (zi y % 64)) % 18446744073709551616)) K rest L S st
  | .lshr => z2s (fun x y => x / zpw (y % 64).toNat) K rest L S st
  | .lcmp => zlcm K rest L S st
  | .dup => zdup K rest L S st
  | .dup2 => zdup2 K rest L S st
  | .pop => zpop K rest L S st
  | .if_icmp c _ => zicm c K (rx_find cd e.2.2.2.1) rest L S st
  | .ifCond c _ => zifc c K (rx_find cd e.2.2.2.1) rest L S st
  | .goto _ => K (rx_find cd e.2.2.2.1) L S st
  | .tableswitch _ _ _ _ => zsw cd K e.2.2.2.1 e.2.2.2.2.1 e.2.2.2.2.2.1 e.2.2.2.2.2.2 L S st
  | .getfield _ => zgf Sh K rest e.2.2.2.1 e.2.2.2.2.1 e.2.2.2.2.2.1 L S st
  | .putfield _ => zpf Sh K rest e.2.2.2.1 e.2.2.2.2.1 e.2.2.2.2.2.1 L S st
  | .iaload => zal Sh 0 K rest L S st
  | .baload => zal Sh 1 K rest L S st
  | .laload => zal Sh 3 K rest L S st
  | .aaload => zal Sh 4 K rest L S st
  | .iastore => zas Sh 0 K rest L S st
  | .bastore => zas Sh 1 K rest L S st
  | .lastore => zas Sh 3 K rest L S st
  | .arraylength => zlen Sh K rest L S st
  | .invokevirtual _ => zat e.2.2.2.2.2.2 0 (fun ci => zinv Sh call K rest e.2.2.2.1 e.2.2.2.2.1 e.2.2.2.2.2.1 ci L S st)
  | .invokestatic _ => cond (Nat.beq e.2.2.2.2.2.1 4) (zcpy Sh K rest L S st) (zinv Sh call K rest e.2.2.2.1 e.2.2.2.2.1 0 0 L S st)
  | .return_ => zret q Rt S st
  | .ireturn => zreti q Rt S st
  | .lreturn => zretl q Rt S st
  | _ => False
/-- closed under steps -/
def zcl (Sh : List zC) (cd : List rx_E) (nL q : Nat) (call : zCall) (Rt : zQ) (K : zG) : Prop := ∀ (e : rx_E) (rest : List rx_E) (L : zL) (S : List zV) (st : zS), zstep Sh cd nL q call Rt K e rest L S st → K (e :: rest) L S st
end
section
/-! what a run of the second layer is for the machine; one step -/
noncomputable def zLm (L : zL) : rx_L := L.map (fun q => (q.1, zv q.2))
def zSm (S : List zV) : List rx_V := S.map zv
theorem zcat_v (v : zV) : rx_cat (zv v) = zcat v := by rcases v with z | (z | (c | j)) <;> rfl
theorem zcats_v (S : List zV) : rx_cats (zSm S) = zcats S := by
  induction S with
  | nil => rfl
  | cons v t ih =>
    show Nat.add (rx_cat (zv v)) (rx_cats (zSm t)) = Nat.add (zcat v) (zcats t)
    rw [ih, zcat_v]
def zpc (cs : List rx_E) : Nat := match cs with
  | e :: _ => e.1
  | [] => 0
section ZRUN
variable {l : Launch} {d : Nat} {X : rx_X} {D : va_G} {G : rx_G} {Sh : List zC} {mi : List rx_Y} {Y : rx_Y} {cd rest T : List rx_E} {nL q : Nat} {L L1 : zL} {S S1 : List zV} {st st1 st' : zS} {r : Option zV} {en : rx_E} {Rt : zQ} {call : zCall}
def zRun (l : Launch) (d : Nat) (X : rx_X) (D : va_G) (G : rx_G) (Sh : List zC) (Y : rx_Y) (pc : Nat) (L : zL) (S : List zV) (st : zS) (r : Option zV) (st' : zS) : Prop :=
  ∀ w : List rx_C, zR Sh st w → ∃ w' : List rx_C, zR Sh st' w' ∧ ∀ (p : Program) (e : Env) (s : State) (m : MethodId) (args : Array Value) (below : List Frame) (meth : Method) (c : Code), rx_Cx p s m args c X D G Y.1.cls Y.2.1 Y.2.2.1 → meth.name = Y.1.name → meth.sig.returnType = Y.2.2.2 → meth.locks = false →
    rx_W p l e (headSpec (Cond.code Y.1 Y.2.1 Y.2.2.1 Y.2.2.2 :: rx_words) (rx_rm (d + 1) 0 0)).room s m args below meth c (MQ below (rx_Qc X D G 0 (r.map zv) w') args s 0 0 (rx_A X)) X D G Y.2.2.1 pc (zLm L) (zSm S) w 0 0
/-- from one state to the next -/
def zTr (l : Launch) (d : Nat) (X : rx_X) (D : va_G) (G : rx_G) (Sh : List zC) (Y : rx_Y) (pc : Nat) (L : zL) (S : List zV) (st : zS) (pc1 : Nat) (L1 : zL) (S1 : List zV) (st1 : zS) : Prop :=
  ∀ w : List rx_C, zR Sh st w → ∃ w1 : List rx_C, zR Sh st1 w1 ∧ ∀ (p : Program) (e : Env) (s : State) (m : MethodId) (args : Array Value) (below : List Frame) (meth : Method) (c : Code) (Q : State → Prop), rx_Cx p s m args c X D G Y.1.cls Y.2.1 Y.2.2.1 → meth.name = Y.1.name →
    rx_W p l e (headSpec (Cond.code Y.1 Y.2.1 Y.2.2.1 Y.2.2.2 :: rx_words) (rx_rm (d + 1) 0 0)).room s m args below meth c Q X D G Y.2.2.1 pc1 (zLm L1) (zSm S1) w1 0 0 →
    rx_W p l e (headSpec (Cond.code Y.1 Y.2.1 Y.2.2.1 Y.2.2.2 :: rx_words) (rx_rm (d + 1) 0 0)).room s m args below meth c Q X D G Y.2.2.1 pc (zLm L) (zSm S) w 0 0
theorem zRun_tr {pc pc1 : Nat} (h : zTr l d X D G Sh Y pc L S st pc1 L1 S1 st1) (k : zRun l d X D G Sh Y pc1 L1 S1 st1 r st') : zRun l d X D G Sh Y pc L S st r st' := by
  intro w hw
  obtain ⟨w1, h1, h2⟩ := h w hw
  obtain ⟨w', k1, k2⟩ := k w1 h1
  exact ⟨w', k1, fun p e s m args below meth c C hnm hret hlocks => h2 p e s m args below meth c _ C hnm (k2 p e s m args below meth c C hnm hret hlocks)⟩
def zex0 : Nat → List rx_V → List rx_C → Option (Option rx_V × List rx_C) := fun _ _ _ => none
noncomputable def zKz (T : List rx_E) (L : rx_L) (S : List rx_V) (w : List rx_C) : rx_K := fun cs L' S' w' cc ss => @ite _ (cs = T ∧ L' = L ∧ S' = S ∧ w' = w ∧ cc = 0 ∧ ss = 0) (Classical.propDecidable _) (some ([], [], [], [], 0, 0)) none
theorem zKz_ok {T cs : List rx_E} {L L' : rx_L} {S S' : List rx_V} {w w' : List rx_C} {cc ss : Nat} {r : rx_R} (h : zKz T L S w cs L' S' w' cc ss = some r) : cs = T ∧ L' = L ∧ S' = S ∧ w' = w ∧ cc = 0 ∧ ss = 0 := by
  unfold zKz at h
  split at h
  · rename_i q; exact q
  · cases h
theorem zKz_eq (T : List rx_E) (L : rx_L) (S : List rx_V) (w : List rx_C) : zKz T L S w T L S w 0 0 = some ([], [], [], [], 0, 0) := by
  unfold zKz
  rw [if_pos ⟨rfl, rfl, rfl, rfl, rfl, rfl⟩]
/-- a step of the executor, whatever comes behind it -/
def zEq (G : rx_G) (Sh : List zC) (cd : List rx_E) (nL : Nat) (en : rx_E) (rest : List rx_E) (L : zL) (S : List zV) (st : zS) (T : List rx_E) (L1 : zL) (S1 : List zV) (st1 : zS) : Prop :=
  ∀ w : List rx_C, zR Sh st w → ∃ w1 : List rx_C, zR Sh st1 w1 ∧ ∀ K : rx_K, rx_step G cd nL 0 0 (fun _ => (0, 0)) zex0 K en rest (zLm L) (zSm S) w 0 0 = K T (zLm L1) (zSm S1) w1 0 0
theorem zW_eq {cap : Nat → Nat × Nat} {ex : Nat → List rx_V → List rx_C → Option (Option rx_V × List rx_C)} {w w1 : List rx_C} (hG : rx_Gok G) (hok : rx_okb mi Y.1.cls Y.1.name Y.2.1 en = true) (hnL : Y.2.2.1 = nL) (h1 : rest = T → zpc T = en.1 + en.2.2.1) (h2 : ∀ t, rx_find cd t = T → zpc T = t)
    (hex : ∀ (nu : Nat) (as : List rx_V) (w : List rx_C) (r' : Option rx_V) (w' : List rx_C), ex nu as w = some (r', w') → ∃ Y, mi[nu]? = some Y ∧ Cond.code Y.1 Y.2.1 Y.2.2.1 Y.2.2.2 ∈ rx_words ∧ rx_Met l d (cap nu).1 (cap nu).2 Y X D G as w r' w')
    (h : ∀ K : rx_K, rx_step G cd nL 0 0 cap ex K en rest (zLm L) (zSm S) w 0 0 = K T (zLm L1) (zSm S1) w1 0 0) {p : Program} {e : Env} {s : State} {m : MethodId} {args : Array Value} {below : List Frame} {meth : Method} {c : Code} {Q : State → Prop} (C : rx_Cx p s m args c X D G Y.1.cls Y.2.1 Y.2.2.1) (hnm : meth.name = Y.1.name)
    (hW : rx_W p l e (headSpec (Cond.code Y.1 Y.2.1 Y.2.2.1 Y.2.2.2 :: rx_words) (rx_rm (d + 1) 0 0)).room s m args below meth c Q X D G Y.2.2.1 (zpc T) (zLm L1) (zSm S1) w1 0 0) :
    rx_W p l e (headSpec (Cond.code Y.1 Y.2.1 Y.2.2.1 Y.2.2.2 :: rx_words) (rx_rm (d + 1) 0 0)).room s m args below meth c Q X D G Y.2.2.1 en.1 (zLm L) (zSm S) w 0 0 := by
  subst hnL
  have h3 := h (zKz T (zLm L1) (zSm S1) w1)
  rw [zKz_eq] at h3
  refine rx_step_ok (mi := mi) (d := d) (mc := 0) (ms := 0) (cap := cap) (ex := ex) (K := zKz T (zLm L1) (zSm S1) w1) C hG hnm (Nat.zero_le _) (Nat.zero_le _) (Nat.le_refl _) (by show 64 * d + 64 ≤ 64 * (d + 1); omega) hex hok ?_ ?_ ?_ h3
  · intro L' S' w' cc ss hk
    obtain ⟨e1, rfl, rfl, rfl, rfl, rfl⟩ := zKz_ok hk
    rw [← h1 e1]
    exact hW
  · intro t L' S' w' cc ss hk
    obtain ⟨e1, rfl, rfl, rfl, rfl, rfl⟩ := zKz_ok hk
    rw [← h2 t e1]
    exact hW
  · intro hr
    cases hr
theorem zTr_eq (hG : rx_Gok G) (hok : rx_okb mi Y.1.cls Y.1.name Y.2.1 en = true) (hnL : Y.2.2.1 = nL) (h1 : rest = T → zpc T = en.1 + en.2.2.1) (h2 : ∀ t, rx_find cd t = T → zpc T = t) (h : zEq G Sh cd nL en rest L S st T L1 S1 st1) : zTr l d X D G Sh Y en.1 L S st (zpc T) L1 S1 st1 := by
  intro w hw
  obtain ⟨w1, k1, k2⟩ := h w hw
  exact ⟨w1, k1, fun p e s m args below meth c Q C hnm hW => zW_eq hG hok hnL h1 h2 (fun nu as w r' w' hq => by cases hq) k2 C hnm hW⟩
/-- the goal of a method's body -/
def zGd (l : Launch) (d : Nat) (X : rx_X) (D : va_G) (G : rx_G) (Sh : List zC) (Y : rx_Y) (cd : List rx_E) (Rt : zQ) : zG := fun cs L S st => cs ≠ [] ∧ ((∃ pre, cd = pre ++ cs) → zsk Sh st → (∀ q ∈ L, zok q.2) → (∀ v ∈ S, zok v) → ∃ r st', Rt r st' ∧ ((∀ v, r = some v → zok v) ∧ zsk Sh st') ∧ zRun l d X D G Sh Y (zpc cs) L S st r st')
def zgoal (l : Launch) (d : Nat) (X : rx_X) (D : va_G) (G : rx_G) (Sh : List zC) (Y : rx_Y) (Rt : zQ) (pc : Nat) (L : zL) (S : List zV) (st : zS) : Prop := ∃ r st', Rt r st' ∧ ((∀ v, r = some v → zok v) ∧ zsk Sh st') ∧ zRun l d X D G Sh Y pc L S st r st'
theorem zfind_pc {t : Nat} (h : T ≠ []) (e : rx_find cd t = T) : zpc T = t := by
  rcases rx_find_ok cd t with h3 | ⟨pre2, e2, rest2, h3, h4, h5⟩
  · exact absurd (e.symm.trans h3) h
  · rw [← e, h4]
    exact h5
theorem zgo_tr {pc1 : Nat} (hT : zTr l d X D G Sh Y en.1 L S st pc1 L1 S1 st1) (hk : zgoal l d X D G Sh Y Rt pc1 L1 S1 st1) : zgoal l d X D G Sh Y Rt en.1 L S st := by
  obtain ⟨r, st', k1, k2, k3⟩ := hk
  exact ⟨r, st', k1, k2, zRun_tr hT k3⟩
theorem zrest_pc {pre : List rx_E} (hsq : rx_seq cd = true) (hcd : cd = pre ++ en :: rest) (h : rest ≠ []) : zpc rest = en.1 + en.2.2.1 := by
  cases rest with
  | nil => exact absurd rfl h
  | cons e2 rest2 =>
    subst hcd
    exact rx_seq_ok hsq
theorem zgo (hG : rx_Gok G) (hok : rx_okb mi Y.1.cls Y.1.name Y.2.1 en = true) (hnL : Y.2.2.1 = nL) (hsq : rx_seq cd = true) {pre : List rx_E} (hcd : cd = pre ++ en :: rest) (hT : T = rest ∨ ∃ t, T = rx_find cd t) (hK : zGd l d X D G Sh Y cd Rt T L1 S1 st1) (hst : zsk Sh st1) (hL : ∀ q ∈ L1, zok q.2) (hS : ∀ v ∈ S1, zok v) (h : zEq G Sh cd nL en rest L S st T L1 S1 st1) : zgoal l d X D G Sh Y Rt en.1 L S st := by
  obtain ⟨hne, hK⟩ := hK
  have hpre : ∃ pre, cd = pre ++ T := by
    rcases hT with rfl | ⟨t, rfl⟩
    · exact ⟨pre ++ [en], by rw [hcd, List.append_assoc]; rfl⟩
    · rcases rx_find_ok cd t with h3 | ⟨pre2, e2, rest2, h3, h4, h5⟩
      · exact absurd h3 hne
      · exact ⟨pre2, by rw [h4]; exact h3⟩
  refine zgo_tr (zTr_eq hG hok hnL (fun e => ?_) (fun t e => zfind_pc hne e) h) (hK hpre hst hL hS)
  subst e
  exact zrest_pc hsq hcd hne
theorem zgoR (hsq : rx_seq cd = true) {pre : List rx_E} (hcd : cd = pre ++ en :: rest) (hK : zGd l d X D G Sh Y cd Rt rest L1 S1 st1) (hst : zsk Sh st1) (hL : ∀ q ∈ L1, zok q.2) (hS : ∀ v ∈ S1, zok v) (h : zTr l d X D G Sh Y en.1 L S st (en.1 + en.2.2.1) L1 S1 st1) : zgoal l d X D G Sh Y Rt en.1 L S st := by
  obtain ⟨hne, hK⟩ := hK
  have hk := hK ⟨pre ++ [en], by rw [hcd, List.append_assoc]; rfl⟩ hst hL hS
  rw [zrest_pc hsq hcd hne] at hk
  exact zgo_tr h hk
end ZRUN
end
section
/-! the instructions one by one -/
theorem zland (x y : Int) : Nat.land (zi x) (zi y) < 4294967296 := Nat.and_lt_two_pow (n := 32) _ (zi_lt y)
theorem zlor (x y : Int) : Nat.lor (zi x) (zi y) < 4294967296 := Nat.or_lt_two_pow (n := 32) (zi_lt x) (zi_lt y)
theorem zlxor (x y : Int) : Nat.xor (zi x) (zi y) < 4294967296 := Nat.xor_lt_two_pow (n := 32) (zi_lt x) (zi_lt y)
theorem zlandl (x y : Int) : Nat.land (zl x) (zl y) < 18446744073709551616 := Nat.and_lt_two_pow (n := 64) _ (zl_lt y)
theorem zlorl (x y : Int) : Nat.lor (zl x) (zl y) < 18446744073709551616 := Nat.or_lt_two_pow (n := 64) (zl_lt x) (zl_lt y)
theorem zush (x y : Int) : zi x % 4294967296 / 2 ^ (zi y % 32) < 4294967296 := Nat.lt_of_le_of_lt (Nat.div_le_self _ _) (Nat.mod_lt _ (by decide))
theorem zget_ok {L : zL} {i : Nat} {k : zV → Prop} (h : zget L i k) : ∃ v, (i, v) ∈ L ∧ k v ∧ ∀ (β : Type) (f : rx_V → Option β), rx_get (zLm L) i f = f (zv v) := by
  induction L with
  | nil => exact absurd h id
  | cons q t ih =>
    change cond (Nat.beq q.1 i) (k q.2) (zget t i k) at h
    cases hq : Nat.beq q.1 i with
    | true =>
      rw [hq] at h
      refine ⟨q.2, by rw [← rx_bq hq]; exact List.mem_cons_self, h, fun β f => ?_⟩
      show cond (Nat.beq q.1 i) (f (zv q.2)) (rx_get (zLm t) i f) = _
      rw [hq]
      rfl
    | false =>
      rw [hq] at h
      obtain ⟨v, h1, h2, h3⟩ := ih h
      refine ⟨v, List.mem_cons_of_mem _ h1, h2, fun β f => ?_⟩
      show cond (Nat.beq q.1 i) (f (zv q.2)) (rx_get (zLm t) i f) = _
      rw [hq]
      exact h3 β f
theorem zfil_mem {P : Nat × zV → Bool} {L : zL} {q : Nat × zV} (h : q ∈ zfil P L) : q ∈ L := by
  induction L with
  | nil => exact h
  | cons a t ih =>
    change q ∈ cond (P a) (a :: zfil P t) (zfil P t) at h
    cases hp : P a with
    | true =>
      rw [hp] at h
      rcases List.mem_cons.mp h with h | h
      · rw [h]; exact List.mem_cons_self
      · exact List.mem_cons_of_mem _ (ih h)
    | false =>
      rw [hp] at h
      exact List.mem_cons_of_mem _ (ih h)
theorem zfil_m {P : Nat × zV → Bool} {P' : Nat → rx_V → Bool} (h : ∀ i v, (!P' i (zv v)) = P (i, v)) (L : zL) : (zLm L).filter (fun q => !P' q.1 q.2) = zLm (zfil P L) := by
  induction L with
  | nil => rfl
  | cons a t ih =>
    show ((a.1, zv a.2) :: zLm t).filter (fun q => !P' q.1 q.2) = zLm (cond (P a) (a :: zfil P t) (zfil P t))
    rw [List.filter_cons]
    have h1 : (!P' a.1 (zv a.2)) = P a := h a.1 a.2
    simp only [h1]
    cases hp : P a with
    | true => simp only [if_true, cond_true]; rw [ih]; rfl
    | false => simp only [cond_false]; exact ih
theorem zfil1 (a : Nat) (L : zL) : (zLm L).filter (fun q => !rx_P1 a q.1 q.2) = zLm (zfil (zP1 a) L) := zfil_m (fun i v => by unfold rx_P1 zP1; rw [zcat_v]) L
theorem zfil2 (a : Nat) (L : zL) : (zLm L).filter (fun q => !rx_P2 a q.1 q.2) = zLm (zfil (zP2 a) L) := zfil_m (fun i v => by unfold rx_P2 zP2; rw [zcat_v]) L
section ZEQ
variable {l : Launch} {d : Nat} {X : rx_X} {D : va_G} {G : rx_G} {Sh : List zC} {mi : List rx_Y} {Y : rx_Y} {cd rest : List rx_E} {nL q : Nat} {L : zL} {S : List zV} {st : zS} {en : rx_E} {Rt : zQ} {call : zCall}
/-- what stands at a step -/
def zB (G : rx_G) (Sh : List zC) (mi : List rx_Y) (Y : rx_Y) (cd : List rx_E) (nL : Nat) (en : rx_E) (rest : List rx_E) (L : zL) (S : List zV) (st : zS) : Prop := rx_Gok G ∧ rx_okb mi Y.1.cls Y.1.name Y.2.1 en = true ∧ Y.2.2.1 = nL ∧ rx_seq cd = true ∧ (∃ pre, cd = pre ++ en :: rest) ∧ zsk Sh st ∧ (∀ q ∈ L, zok q.2) ∧ (∀ v ∈ S, zok v)
noncomputable abbrev zSt (G : rx_G) (cd : List rx_E) (nL : Nat) (K : rx_K) (en : rx_E) (rest : List rx_E) (L : zL) (S : List zV) (w : List rx_C) : Option rx_R := rx_step G cd nL 0 0 (fun _ => (0, 0)) zex0 K en rest (zLm L) (zSm S) w 0 0
theorem zgoB (B : zB G Sh mi Y cd nL en rest L S st) {T : List rx_E} {L1 : zL} {S1 : List zV} {st1 : zS} (hT : T = rest ∨ ∃ t, T = rx_find cd t) (hK : zGd l d X D G Sh Y cd Rt T L1 S1 st1) (hst : zsk Sh st1) (hL : ∀ q ∈ L1, zok q.2) (hS : ∀ v ∈ S1, zok v) (h : ∀ w : List rx_C, zR Sh st w → ∃ w1 : List rx_C, zR Sh st1 w1 ∧ ∀ K : rx_K, zSt G cd nL K en rest L S w = K T (zLm L1) (zSm S1) w1 0 0) : zgoal l d X D G Sh Y Rt en.1 L S st := by
  obtain ⟨b1, b2, b3, b4, ⟨pre, b5⟩, -, -, -⟩ := B
  exact zgo b1 b2 b3 b4 b5 hT hK hst hL hS h
theorem zcons {P : zV → Prop} {v : zV} {S : List zV} (h : P v) (hS : ∀ u ∈ S, P u) : ∀ u ∈ v :: S, P u := by
  intro u hu
  rcases List.mem_cons.mp hu with e | e
  · rw [e]; exact h
  · exact hS u e
theorem zc_cst (B : zB G Sh mi Y cd nL en rest L S st) {a : Nat} (h : zcst (zGd l d X D G Sh Y cd Rt) rest a L S st) (he : ∀ (K : rx_K) (w : List rx_C), zSt G cd nL K en rest L S w = K rest (zLm L) (.inl (.inl a) :: zSm S) w 0 0) : zgoal l d X D G Sh Y Rt en.1 L S st := by
  unfold zcst at h
  cases c : Nat.blt a 4294967296 with
  | false => rw [c] at h; exact absurd h id
  | true =>
    rw [c] at h
    have c := rx_bt c
    obtain ⟨-, -, -, -, -, hst, hL, hS⟩ := id B
    refine zgoB B (Or.inl rfl) h hst hL (zcons (P := zok) (zd_ok c) hS) (fun w hw => ⟨w, hw, fun K => ?_⟩)
    rw [he]
    show _ = K rest (zLm L) (.inl (.inl (zi (zd a))) :: zSm S) w 0 0
    rw [zi_zd c]
theorem zc_lst (B : zB G Sh mi Y cd nL en rest L S st) {a : Nat} (h : zlst (zGd l d X D G Sh Y cd Rt) rest a L S st) (he : ∀ (K : rx_K) (w : List rx_C), zSt G cd nL K en rest L S w = K rest (zLm L) (.inr (.inl (.inl a)) :: zSm S) w 0 0) : zgoal l d X D G Sh Y Rt en.1 L S st := by
  unfold zlst at h
  cases c : Nat.blt a 18446744073709551616 with
  | false => rw [c] at h; exact absurd h id
  | true =>
    rw [c] at h
    have c := rx_bt c
    obtain ⟨-, -, -, -, -, hst, hL, hS⟩ := id B
    refine zgoB B (Or.inl rfl) h hst hL (zcons (P := zok) (ze_ok c) hS) (fun w hw => ⟨w, hw, fun K => ?_⟩)
    rw [he]
    show _ = K rest (zLm L) (.inr (.inl (.inl (zl (ze a)))) :: zSm S) w 0 0
    rw [zl_ze c]
theorem zc_ldI (B : zB G Sh mi Y cd nL en rest L S st) {a : Nat} (h : zldI (zGd l d X D G Sh Y cd Rt) rest a L S st) (he : ∀ (K : rx_K) (w : List rx_C), zSt G cd nL K en rest L S w = rx_ld 0 K rest a (zLm L) (zSm S) w 0 0) : zgoal l d X D G Sh Y Rt en.1 L S st := by
  obtain ⟨v, h1, h2, h3⟩ := zget_ok h
  obtain ⟨-, -, -, -, -, hst, hL, hS⟩ := id B
  rcases v with x | (x | x)
  · refine zgoB B (Or.inl rfl) h2 hst hL (zcons (P := zok) (hL _ h1) hS) (fun w hw => ⟨w, hw, fun K => ?_⟩)
    rw [he]
    unfold rx_ld
    rw [h3]
    rfl
  · exact absurd h2 id
  · exact absurd h2 id
theorem zc_ldL (B : zB G Sh mi Y cd nL en rest L S st) {a : Nat} (h : zldL (zGd l d X D G Sh Y cd Rt) rest a L S st) (he : ∀ (K : rx_K) (w : List rx_C), zSt G cd nL K en rest L S w = rx_ld 1 K rest a (zLm L) (zSm S) w 0 0) : zgoal l d X D G Sh Y Rt en.1 L S st := by
  obtain ⟨v, h1, h2, h3⟩ := zget_ok h
  obtain ⟨-, -, -, -, -, hst, hL, hS⟩ := id B
  rcases v with x | (x | x)
  · exact absurd h2 id
  · refine zgoB B (Or.inl rfl) h2 hst hL (zcons (P := zok) (hL _ h1) hS) (fun w hw => ⟨w, hw, fun K => ?_⟩)
    rw [he]
    unfold rx_ld
    rw [h3]
    rfl
  · exact absurd h2 id
theorem zc_ldA (B : zB G Sh mi Y cd nL en rest L S st) {a : Nat} (h : zldA (zGd l d X D G Sh Y cd Rt) rest a L S st) (he : ∀ (K : rx_K) (w : List rx_C), zSt G cd nL K en rest L S w = rx_ld 2 K rest a (zLm L) (zSm S) w 0 0) : zgoal l d X D G Sh Y Rt en.1 L S st := by
  obtain ⟨v, h1, h2, h3⟩ := zget_ok h
  obtain ⟨-, -, -, -, -, hst, hL, hS⟩ := id B
  rcases v with x | (x | (x | x))
  · exact absurd h2 id
  · exact absurd h2 id
  · refine zgoB B (Or.inl rfl) h2 hst hL (zcons (P := zok) (hL _ h1) hS) (fun w hw => ⟨w, hw, fun K => ?_⟩)
    rw [he]
    unfold rx_ld
    rw [h3]
    rfl
  · refine zgoB B (Or.inl rfl) h2 hst hL (zcons (P := zok) (hL _ h1) hS) (fun w hw => ⟨w, hw, fun K => ?_⟩)
    rw [he]
    unfold rx_ld
    rw [h3]
    rfl
theorem zconsL {v : zV} {a : Nat} {P : Nat × zV → Bool} (h : zok v) (hL : ∀ q ∈ L, zok q.2) : ∀ q ∈ (a, v) :: zfil P L, zok q.2 := by
  intro q hq
  rcases List.mem_cons.mp hq with e | e
  · rw [e]; exact h
  · exact hL q (zfil_mem e)
theorem zc_stI (B : zB G Sh mi Y cd nL en rest L S st) {a : Nat} (h : zstI nL (zGd l d X D G Sh Y cd Rt) rest a L S st) (he : ∀ (K : rx_K) (w : List rx_C), zSt G cd nL K en rest L S w = rx_st 0 nL K rest a (zLm L) (zSm S) w 0 0) : zgoal l d X D G Sh Y Rt en.1 L S st := by
  unfold zstI at h
  split at h
  · rename_i x S'
    cases c : Nat.blt a nL with
    | false => rw [c] at h; exact absurd h id
    | true =>
      rw [c] at h
      obtain ⟨-, -, -, -, -, hst, hL, hS⟩ := id B
      refine zgoB B (Or.inl rfl) h hst (zconsL (hS _ List.mem_cons_self) hL) (fun v hv => hS v (List.mem_cons_of_mem _ hv)) (fun w hw => ⟨w, hw, fun K => ?_⟩)
      rw [he]
      show cond (Nat.beq 0 0 && Nat.blt a nL) (rx_rem (rx_P1 a) (zLm L) (fun L' => K rest ((a, .inl (.inl (zi x))) :: L') (zSm S') w 0 0)) none = _
      rw [c, rx_rem_eq, zfil1]
      rfl
  · exact absurd h id
theorem zc_stL (B : zB G Sh mi Y cd nL en rest L S st) {a : Nat} (h : zstL nL (zGd l d X D G Sh Y cd Rt) rest a L S st) (he : ∀ (K : rx_K) (w : List rx_C), zSt G cd nL K en rest L S w = rx_st 1 nL K rest a (zLm L) (zSm S) w 0 0) : zgoal l d X D G Sh Y Rt en.1 L S st := by
  unfold zstL at h
  split at h
  · rename_i x S'
    cases c : Nat.blt (Nat.succ a) nL with
    | false => rw [c] at h; exact absurd h id
    | true =>
      rw [c] at h
      obtain ⟨-, -, -, -, -, hst, hL, hS⟩ := id B
      refine zgoB B (Or.inl rfl) h hst (zconsL (hS _ List.mem_cons_self) hL) (fun v hv => hS v (List.mem_cons_of_mem _ hv)) (fun w hw => ⟨w, hw, fun K => ?_⟩)
      rw [he]
      show cond (Nat.beq 1 1 && Nat.blt (Nat.succ a) nL) (rx_rem (rx_P2 a) (zLm L) (fun L' => K rest ((a, .inr (.inl (.inl (zl x)))) :: L') (zSm S') w 0 0)) none = _
      rw [c, rx_rem_eq, zfil2]
      rfl
  · exact absurd h id
theorem zc_stA (B : zB G Sh mi Y cd nL en rest L S st) {a : Nat} (h : zstA nL (zGd l d X D G Sh Y cd Rt) rest a L S st) (he : ∀ (K : rx_K) (w : List rx_C), zSt G cd nL K en rest L S w = rx_st 2 nL K rest a (zLm L) (zSm S) w 0 0) : zgoal l d X D G Sh Y Rt en.1 L S st := by
  unfold zstA at h
  split at h
  · rename_i x S'
    cases c : Nat.blt a nL with
    | false => rw [c] at h; exact absurd h id
    | true =>
      rw [c] at h
      obtain ⟨-, -, -, -, -, hst, hL, hS⟩ := id B
      refine zgoB B (Or.inl rfl) h hst (zconsL (hS _ List.mem_cons_self) hL) (fun v hv => hS v (List.mem_cons_of_mem _ hv)) (fun w hw => ⟨w, hw, fun K => ?_⟩)
      rw [he]
      rcases x with x | x
      · show cond (Nat.beq 2 2 && Nat.blt a nL) (rx_rem (rx_P1 a) (zLm L) (fun L' => K rest ((a, .inr (.inr (.inl (some x)))) :: L') (zSm S') w 0 0)) none = _
        rw [c, rx_rem_eq, zfil1]
        rfl
      · show cond (Nat.beq 2 2 && Nat.blt a nL) (rx_rem (rx_P1 a) (zLm L) (fun L' => K rest ((a, .inr (.inr (.inr x))) :: L') (zSm S') w 0 0)) none = _
        rw [c, rx_rem_eq, zfil1]
        rfl
  · exact absurd h id
theorem zc_inc (B : zB G Sh mi Y cd nL en rest L S st) {a b : Nat} (h : zinc nL (zGd l d X D G Sh Y cd Rt) rest a b L S st) (he : ∀ (K : rx_K) (w : List rx_C), zSt G cd nL K en rest L S w = rx_ii nL K rest a b (zLm L) (zSm S) w 0 0) : zgoal l d X D G Sh Y Rt en.1 L S st := by
  obtain ⟨v, h1, h2, h3⟩ := zget_ok h
  obtain ⟨-, -, -, -, -, hst, hL, hS⟩ := id B
  rcases v with x | (x | x)
  · cases c : (Nat.blt a nL && Nat.blt b 4294967296) with
    | false => simp only [c] at h2; exact absurd h2 id
    | true =>
      simp only [c] at h2
      obtain ⟨c1, c2⟩ := rx_an c
      have c2 := rx_bt c2
      refine zgoB B (Or.inl rfl) h2 hst (zconsL (zw_ok _) hL) hS (fun w hw => ⟨w, hw, fun K => ?_⟩)
      rw [he]
      unfold rx_ii
      rw [h3]
      show cond (Nat.blt a nL) (rx_fN ((zi x + b) % 4294967296) (fun z => rx_rem (rx_P1 a) (zLm L) (fun L' => K rest ((a, .inl (.inl z)) :: L') (zSm S) w 0 0))) none = _
      rw [c1, rx_fN_eq]
      show rx_rem (rx_P1 a) (zLm L) _ = _
      rw [rx_rem_eq, zfil1]
      have e : (zi x + b) % 4294967296 = zi (zw (x + zd b)) := by
        rw [← zi_add, zi_zd c2]
      rw [e]
      rfl
  · exact absurd h2 id
  · exact absurd h2 id
theorem zc_2 (B : zB G Sh mi Y cd nL en rest L S st) {f : Int → Int → Int} {g : Nat → Nat → Bool} {fN : Nat → Nat → Nat} (h : z2 f (zGd l d X D G Sh Y cd Rt) rest L S st) (hf : ∀ x y : Int, zsI x → zsI y → g (zi x) (zi y) = true ∧ fN (zi x) (zi y) = zi (f x y) ∧ zsI (f x y)) (he : ∀ (K : rx_K) (w : List rx_C), zSt G cd nL K en rest L S w = rx_o2 g fN K rest (zLm L) (zSm S) w 0 0) : zgoal l d X D G Sh Y Rt en.1 L S st := by
  unfold z2 at h
  split at h
  · rename_i y x S'
    obtain ⟨-, -, -, -, -, hst, hL, hS⟩ := id B
    obtain ⟨f1, f2, f3⟩ := hf x y (hS (.inl x) (List.mem_cons_of_mem _ List.mem_cons_self)) (hS (.inl y) List.mem_cons_self)
    refine zgoB B (Or.inl rfl) h hst hL (zcons (P := zok) f3 (fun v hv => hS v (List.mem_cons_of_mem _ (List.mem_cons_of_mem _ hv)))) (fun w hw => ⟨w, hw, fun K => ?_⟩)
    rw [he]
    show cond (g (zi x) (zi y)) (rx_fN (fN (zi x) (zi y)) (fun z => K rest (zLm L) (.inl (.inl z) :: zSm S') w 0 0)) none = _
    rw [f1, rx_fN_eq, f2]
    rfl
  · exact absurd h id
theorem zc_2u (B : zB G Sh mi Y cd nL en rest L S st) {f : Int → Int → Int} {o : Nat} {g : Nat → Nat → Bool} {fN : Nat → Nat → Nat} (h : z2 f (zGd l d X D G Sh Y cd Rt) rest L S st) (hf : ∀ x y : Int, zsI x → zsI y → g (zi x) (zi y) = true ∧ fN (zi x) (zi y) = zi (f x y) ∧ zsI (f x y)) (he : ∀ (K : rx_K) (w : List rx_C), zSt G cd nL K en rest L S w = rx_o2u G.1 o g fN K rest (zLm L) (zSm S) w 0 0) : zgoal l d X D G Sh Y Rt en.1 L S st := by
  unfold z2 at h
  split at h
  · rename_i y x S'
    obtain ⟨-, -, -, -, -, hst, hL, hS⟩ := id B
    obtain ⟨f1, f2, f3⟩ := hf x y (hS (.inl x) (List.mem_cons_of_mem _ List.mem_cons_self)) (hS (.inl y) List.mem_cons_self)
    refine zgoB B (Or.inl rfl) h hst hL (zcons (P := zok) f3 (fun v hv => hS v (List.mem_cons_of_mem _ (List.mem_cons_of_mem _ hv)))) (fun w hw => ⟨w, hw, fun K => ?_⟩)
    rw [he]
    show cond (g (zi x) (zi y)) (rx_fN (fN (zi x) (zi y)) (fun z => K rest (zLm L) (.inl (.inl z) :: zSm S') w 0 0)) none = _
    rw [f1, rx_fN_eq, f2]
    rfl
  · exact absurd h id
theorem zc_2l (B : zB G Sh mi Y cd nL en rest L S st) {f : Int → Int → Int} {g : Nat → Nat → Bool} {fN : Nat → Nat → Nat} (h : z2l f (zGd l d X D G Sh Y cd Rt) rest L S st) (hf : ∀ x y : Int, zsL x → zsL y → g (zl x) (zl y) = true ∧ fN (zl x) (zl y) = zl (f x y) ∧ zsL (f x y)) (he : ∀ (K : rx_K) (w : List rx_C), zSt G cd nL K en rest L S w = rx_l2 g fN K rest (zLm L) (zSm S) w 0 0) : zgoal l d X D G Sh Y Rt en.1 L S st := by
  unfold z2l at h
  split at h
  · rename_i y x S'
    obtain ⟨-, -, -, -, -, hst, hL, hS⟩ := id B
    obtain ⟨f1, f2, f3⟩ := hf x y (hS (.inr (.inl x)) (List.mem_cons_of_mem _ List.mem_cons_self)) (hS (.inr (.inl y)) List.mem_cons_self)
    refine zgoB B (Or.inl rfl) h hst hL (zcons (P := zok) (v := .inr (.inl (f x y))) f3 (fun v hv => hS v (List.mem_cons_of_mem _ (List.mem_cons_of_mem _ hv)))) (fun w hw => ⟨w, hw, fun K => ?_⟩)
    rw [he]
    show cond (g (zl x) (zl y)) (rx_fN (fN (zl x) (zl y)) (fun z => K rest (zLm L) (.inr (.inl (.inl z)) :: zSm S') w 0 0)) none = _
    rw [f1, rx_fN_eq, f2]
    rfl
  · exact absurd h id
end ZEQ
end
section
/-! the instructions one by one: branches, fields, arrays -/
theorem zlt_rx (F : rx_F) {x y : Int} (hx : zsI x) (hy : zsI y) : rx_lt? F (.inl (zi x)) (.inl (zi y)) = some (decide (x < y)) := by
  have e : rx_lt? F (.inl (zi x)) (.inl (zi y)) = cond (Nat.blt ((zi x + 2147483648) % 4294967296) ((zi y + 2147483648) % 4294967296)) (some true) (cond (Nat.ble ((zi y + 2147483648) % 4294967296) ((zi x + 2147483648) % 4294967296)) (some false) none) := rfl
  rw [e, zi_bias hx, zi_bias hy, zblt, zble]
  unfold zsI at hx hy
  by_cases h : x < y
  · rw [decide_eq_true h, decide_eq_true (show (x + 2147483648).toNat < (y + 2147483648).toNat by omega)]
    rfl
  · rw [decide_eq_false h, decide_eq_false (show ¬ (x + 2147483648).toNat < (y + 2147483648).toNat by omega), decide_eq_true (show (y + 2147483648).toNat ≤ (x + 2147483648).toNat by omega)]
    rfl
theorem zeq_rx (F : rx_F) {x y : Int} (hx : zsI x) (hy : zsI y) : rx_eq? F (.inl (zi x)) (.inl (zi y)) = some (decide (x = y)) := by
  have e : rx_eq? F (.inl (zi x)) (.inl (zi y)) = cond (Nat.blt ((zi x + 2147483648) % 4294967296) ((zi y + 2147483648) % 4294967296)) (some false) (cond (Nat.blt ((zi y + 2147483648) % 4294967296) ((zi x + 2147483648) % 4294967296)) (some false) (cond (Nat.beq ((zi x + 2147483648) % 4294967296) ((zi x + 2147483648) % 4294967296) && (Nat.beq ((zi y + 2147483648) % 4294967296) ((zi y + 2147483648) % 4294967296) && Nat.beq ((zi x + 2147483648) % 4294967296) ((zi y + 2147483648) % 4294967296))) (some true) none)) := rfl
  rw [e, zi_bias hx, zi_bias hy, zblt, zblt, zbeq, zbeq, zbeq]
  unfold zsI at hx hy
  by_cases h : x = y
  · subst h
    simp
  · rw [decide_eq_false h]
    by_cases h2 : x < y
    · rw [decide_eq_true (show (x + 2147483648).toNat < (y + 2147483648).toNat by omega)]
      rfl
    · rw [decide_eq_false (show ¬ (x + 2147483648).toNat < (y + 2147483648).toNat by omega), decide_eq_true (show (y + 2147483648).toNat < (x + 2147483648).toNat by omega)]
      rfl
theorem zcmp_rx {β : Type} (F : rx_F) (c : Jvm.ClassFile.Cond) {x y : Int} (hx : zsI x) (hy : zsI y) (t f : Option β) : (zcmp c x y → rx_cmp F c (.inl (zi x)) (.inl (zi y)) t f = t) ∧ (¬ zcmp c x y → rx_cmp F c (.inl (zi x)) (.inl (zi y)) t f = f) := by
  cases c
  · show (x = y → rx_br (rx_eq? F (.inl (zi x)) (.inl (zi y))) t f = t) ∧ (¬ x = y → rx_br (rx_eq? F (.inl (zi x)) (.inl (zi y))) t f = f)
    rw [zeq_rx F hx hy]
    exact ⟨fun h => by rw [decide_eq_true h]; rfl, fun h => by rw [decide_eq_false h]; rfl⟩
  · show (¬ x = y → rx_br (rx_eq? F (.inl (zi x)) (.inl (zi y))) f t = t) ∧ (¬ ¬ x = y → rx_br (rx_eq? F (.inl (zi x)) (.inl (zi y))) f t = f)
    rw [zeq_rx F hx hy]
    exact ⟨fun h => by rw [decide_eq_false h]; rfl, fun h => by rw [decide_eq_true (Classical.not_not.mp h)]; rfl⟩
  · show (x < y → rx_br (rx_lt? F (.inl (zi x)) (.inl (zi y))) t f = t) ∧ (¬ x < y → rx_br (rx_lt? F (.inl (zi x)) (.inl (zi y))) t f = f)
    rw [zlt_rx F hx hy]
    exact ⟨fun h => by rw [decide_eq_true h]; rfl, fun h => by rw [decide_eq_false h]; rfl⟩
  · show (y ≤ x → rx_br (rx_lt? F (.inl (zi x)) (.inl (zi y))) f t = t) ∧ (¬ y ≤ x → rx_br (rx_lt? F (.inl (zi x)) (.inl (zi y))) f t = f)
    rw [zlt_rx F hx hy]
    exact ⟨fun h => by rw [decide_eq_false (by omega)]; rfl, fun h => by rw [decide_eq_true (by omega)]; rfl⟩
  · show (y < x → rx_br (rx_lt? F (.inl (zi y)) (.inl (zi x))) t f = t) ∧ (¬ y < x → rx_br (rx_lt? F (.inl (zi y)) (.inl (zi x))) t f = f)
    rw [zlt_rx F hy hx]
    exact ⟨fun h => by rw [decide_eq_true h]; rfl, fun h => by rw [decide_eq_false h]; rfl⟩
  · show (x ≤ y → rx_br (rx_lt? F (.inl (zi y)) (.inl (zi x))) f t = t) ∧ (¬ x ≤ y → rx_br (rx_lt? F (.inl (zi y)) (.inl (zi x))) f t = f)
    rw [zlt_rx F hy hx]
    exact ⟨fun h => by rw [decide_eq_false (by omega)]; rfl, fun h => by rw [decide_eq_true (by omega)]; rfl⟩
theorem zat_ok {α : Type} {l : List α} : ∀ {n : Nat} {k : α → Prop}, zat l n k → ∃ x, l[n]? = some x ∧ k x := by
  induction l with
  | nil => intro n k h; exact absurd h id
  | cons a t ih =>
    intro n k h
    cases n with
    | zero => exact ⟨a, rfl, h⟩
    | succ m =>
      obtain ⟨x, h1, h2⟩ := ih (n := m) h
      exact ⟨x, by simpa using h1, h2⟩
theorem zsws_at {P : Nat → Prop} {x : Int} : ∀ {t : List Nat} {n : Int} {j g : Nat}, zsws P x t n → t[j]? = some g → x = n + (j : Int) → P g := by
  intro t
  induction t with
  | nil => intro n j g _ h; simp at h
  | cons a t ih =>
    intro n j g h hj hx
    obtain ⟨h1, h2⟩ : (x = n → P a) ∧ zsws P x t (n + 1) := h
    cases j with
    | zero =>
      simp at hj
      subst hj
      exact h1 (by omega)
    | succ j => exact ih h2 (by simpa using hj) (by omega)
theorem zb_code (z : Int) : cond (Nat.blt (zi z % 256) 128) (zi z % 256) (zi z % 256 + 4294967040) = zi (zb z) := by
  rw [zblt]
  by_cases h : zi z % 256 < 128
  · rw [decide_eq_true h]; simp only [cond_true]; unfold zi zb at *; omega
  · rw [decide_eq_false h]; simp only [cond_false]; unfold zi zb at *; omega
section ZEQ
variable {l : Launch} {d : Nat} {X : rx_X} {D : va_G} {G : rx_G} {Sh : List zC} {mi : List rx_Y} {Y : rx_Y} {cd rest : List rx_E} {nL q : Nat} {L : zL} {S : List zV} {st : zS} {en : rx_E} {Rt : zQ} {call : zCall}
theorem zc_lcm (B : zB G Sh mi Y cd nL en rest L S st) (h : zlcm (zGd l d X D G Sh Y cd Rt) rest L S st) (he : ∀ (K : rx_K) (w : List rx_C), zSt G cd nL K en rest L S w = rx_lcmp K rest (zLm L) (zSm S) w 0 0) : zgoal l d X D G Sh Y Rt en.1 L S st := by
  unfold zlcm at h
  split at h
  · rename_i y x S'
    obtain ⟨-, -, -, -, -, hst, hL, hS⟩ := id B
    have hx : zsL x := hS (.inr (.inl x)) (List.mem_cons_of_mem _ List.mem_cons_self)
    have hy : zsL y := hS (.inr (.inl y)) List.mem_cons_self
    have hS' : ∀ v ∈ S', zok v := fun v hv => hS v (List.mem_cons_of_mem _ (List.mem_cons_of_mem _ hv))
    obtain ⟨h1, h2, h3⟩ := h
    have e : ∀ (K : rx_K) (w : List rx_C), zSt G cd nL K en rest L (.inr (.inl y) :: .inr (.inl x) :: S') w = K rest (zLm L) (.inl (.inl (cond (Nat.blt (x + 9223372036854775808).toNat (y + 9223372036854775808).toNat) 4294967295 (cond (Nat.blt (y + 9223372036854775808).toNat (x + 9223372036854775808).toNat) 1 0))) :: zSm S') w 0 0 := fun K w => by
      rw [he, ← zl_bias hx, ← zl_bias hy]
      rfl
    unfold zsL at hx hy
    rcases (Int.lt_or_le x y) with c | c
    · refine zgoB B (Or.inl rfl) (h1 c) hst hL (zcons (P := zok) (v := .inl (-1)) (by show zsI (-1); unfold zsI; omega) hS') (fun w hw => ⟨w, hw, fun K => ?_⟩)
      rw [e, zblt, decide_eq_true (show (x + 9223372036854775808).toNat < (y + 9223372036854775808).toNat by omega)]
      rfl
    · rcases (Int.lt_or_le y x) with c2 | c2
      · refine zgoB B (Or.inl rfl) (h3 c2) hst hL (zcons (P := zok) (v := .inl 1) (by show zsI 1; unfold zsI; omega) hS') (fun w hw => ⟨w, hw, fun K => ?_⟩)
        rw [e, zblt, zblt, decide_eq_false (show ¬ (x + 9223372036854775808).toNat < (y + 9223372036854775808).toNat by omega), decide_eq_true (show (y + 9223372036854775808).toNat < (x + 9223372036854775808).toNat by omega)]
        rfl
      · refine zgoB B (Or.inl rfl) (h2 (by omega)) hst hL (zcons (P := zok) (v := .inl 0) (by show zsI 0; unfold zsI; omega) hS') (fun w hw => ⟨w, hw, fun K => ?_⟩)
        rw [e, zblt, zblt, decide_eq_false (show ¬ (x + 9223372036854775808).toNat < (y + 9223372036854775808).toNat by omega), decide_eq_false (show ¬ (y + 9223372036854775808).toNat < (x + 9223372036854775808).toNat by omega)]
        rfl
  · exact absurd h id
theorem zc_l2i (B : zB G Sh mi Y cd nL en rest L S st) (h : zl2i (zGd l d X D G Sh Y cd Rt) rest L S st) (he : ∀ (K : rx_K) (w : List rx_C), zSt G cd nL K en rest L S w = rx_l2i K rest (zLm L) (zSm S) w 0 0) : zgoal l d X D G Sh Y Rt en.1 L S st := by
  unfold zl2i at h
  split at h
  · rename_i x S'
    obtain ⟨-, -, -, -, -, hst, hL, hS⟩ := id B
    refine zgoB B (Or.inl rfl) h hst hL (zcons (P := zok) (v := .inl (zw x)) (zw_ok x) (fun v hv => hS v (List.mem_cons_of_mem _ hv))) (fun w hw => ⟨w, hw, fun K => ?_⟩)
    rw [he]
    show rx_fN (zl x % 4294967296) (fun z => K rest (zLm L) (.inl (.inl z) :: zSm S') w 0 0) = _
    rw [rx_fN_eq, show zl x % 4294967296 = zi (zw x) by unfold zl zi zw; omega]
    rfl
  · exact absurd h id
theorem zc_i2b (B : zB G Sh mi Y cd nL en rest L S st) (h : zi2b (zGd l d X D G Sh Y cd Rt) rest L S st) (he : ∀ (K : rx_K) (w : List rx_C), zSt G cd nL K en rest L S w = rx_i2bS G.1 K rest (zLm L) (zSm S) w 0 0) : zgoal l d X D G Sh Y Rt en.1 L S st := by
  unfold zi2b at h
  split at h
  · rename_i x S'
    obtain ⟨-, -, -, -, -, hst, hL, hS⟩ := id B
    have hz := zb_ok x
    refine zgoB B (Or.inl rfl) h hst hL (zcons (P := zok) (v := .inl (zb x)) (by show zsI (zb x); unfold zsI; omega) (fun v hv => hS v (List.mem_cons_of_mem _ hv))) (fun w hw => ⟨w, hw, fun K => ?_⟩)
    rw [he]
    show rx_fN (cond (Nat.blt (zi x % 256) 128) (zi x % 256) (zi x % 256 + 4294967040)) (fun z => K rest (zLm L) (.inl (.inl z) :: zSm S') w 0 0) = _
    rw [rx_fN_eq, zb_code]
    rfl
  · exact absurd h id
theorem zc_dup (B : zB G Sh mi Y cd nL en rest L S st) (h : zdup (zGd l d X D G Sh Y cd Rt) rest L S st) (he : ∀ (K : rx_K) (w : List rx_C), zSt G cd nL K en rest L S w = rx_dup K rest (zLm L) (zSm S) w 0 0) : zgoal l d X D G Sh Y Rt en.1 L S st := by
  unfold zdup at h
  split at h
  · rename_i v S'
    obtain ⟨-, -, -, -, -, hst, hL, hS⟩ := id B
    cases c : Nat.beq (zcat v) 1 with
    | false => rw [c] at h; exact absurd h id
    | true =>
      rw [c] at h
      refine zgoB B (Or.inl rfl) h hst hL (zcons (P := zok) (hS _ List.mem_cons_self) hS) (fun w hw => ⟨w, hw, fun K => ?_⟩)
      rw [he]
      show cond (Nat.beq (rx_cat (zv v)) 1) (K rest (zLm L) (zv v :: zv v :: zSm S') w 0 0) none = _
      rw [zcat_v, c]
      rfl
  · exact absurd h id
theorem zc_dup2 (B : zB G Sh mi Y cd nL en rest L S st) (h : zdup2 (zGd l d X D G Sh Y cd Rt) rest L S st) (he : ∀ (K : rx_K) (w : List rx_C), zSt G cd nL K en rest L S w = rx_dup2 K rest (zLm L) (zSm S) w 0 0) : zgoal l d X D G Sh Y Rt en.1 L S st := by
  unfold zdup2 at h
  split at h
  · rename_i v u S'
    obtain ⟨-, -, -, -, -, hst, hL, hS⟩ := id B
    cases c : (Nat.beq (zcat v) 1 && Nat.beq (zcat u) 1) with
    | false => rw [c] at h; exact absurd h id
    | true =>
      rw [c] at h
      refine zgoB B (Or.inl rfl) h hst hL (zcons (P := zok) (hS _ List.mem_cons_self) (zcons (P := zok) (hS _ (List.mem_cons_of_mem _ List.mem_cons_self)) hS)) (fun w hw => ⟨w, hw, fun K => ?_⟩)
      rw [he]
      show cond (Nat.beq (rx_cat (zv v)) 1 && Nat.beq (rx_cat (zv u)) 1) (K rest (zLm L) (zv v :: zv u :: zv v :: zv u :: zSm S') w 0 0) none = _
      rw [zcat_v, zcat_v, c]
      rfl
  · exact absurd h id
theorem zc_pop (B : zB G Sh mi Y cd nL en rest L S st) (h : zpop (zGd l d X D G Sh Y cd Rt) rest L S st) (he : ∀ (K : rx_K) (w : List rx_C), zSt G cd nL K en rest L S w = rx_pop K rest (zLm L) (zSm S) w 0 0) : zgoal l d X D G Sh Y Rt en.1 L S st := by
  unfold zpop at h
  split at h
  · rename_i v S'
    obtain ⟨-, -, -, -, -, hst, hL, hS⟩ := id B
    cases c : Nat.beq (zcat v) 1 with
    | false => rw [c] at h; exact absurd h id
    | true =>
      rw [c] at h
      refine zgoB B (Or.inl rfl) h hst hL (fun u hu => hS u (List.mem_cons_of_mem _ hu)) (fun w hw => ⟨w, hw, fun K => ?_⟩)
      rw [he]
      show cond (Nat.beq (rx_cat (zv v)) 1) (K rest (zLm L) (zSm S') w 0 0) none = _
      rw [zcat_v, c]
      rfl
  · exact absurd h id
theorem zc_icm (B : zB G Sh mi Y cd nL en rest L S st) {c : Jvm.ClassFile.Cond} {a : Nat} (h : zicm c (zGd l d X D G Sh Y cd Rt) (rx_find cd a) rest L S st) (he : ∀ (K : rx_K) (w : List rx_C), zSt G cd nL K en rest L S w = rx_ic G.1 c cd K rest a (zLm L) (zSm S) w 0 0) : zgoal l d X D G Sh Y Rt en.1 L S st := by
  unfold zicm at h
  split at h
  · rename_i y x S'
    obtain ⟨-, -, -, -, -, hst, hL, hS⟩ := id B
    have hx : zsI x := hS (.inl x) (List.mem_cons_of_mem _ List.mem_cons_self)
    have hy : zsI y := hS (.inl y) List.mem_cons_self
    have hS' : ∀ v ∈ S', zok v := fun v hv => hS v (List.mem_cons_of_mem _ (List.mem_cons_of_mem _ hv))
    by_cases k : zcmp c x y
    · refine zgoB B (Or.inr ⟨a, rfl⟩) (h.1 k) hst hL hS' (fun w hw => ⟨w, hw, fun K => ?_⟩)
      rw [he]
      exact (zcmp_rx G.1 c hx hy (K (rx_find cd a) (zLm L) (zSm S') w 0 0) (K rest (zLm L) (zSm S') w 0 0)).1 k
    · refine zgoB B (Or.inl rfl) (h.2 k) hst hL hS' (fun w hw => ⟨w, hw, fun K => ?_⟩)
      rw [he]
      exact (zcmp_rx G.1 c hx hy (K (rx_find cd a) (zLm L) (zSm S') w 0 0) (K rest (zLm L) (zSm S') w 0 0)).2 k
  · exact absurd h id
theorem zc_ifc (B : zB G Sh mi Y cd nL en rest L S st) {c : Jvm.ClassFile.Cond} {a : Nat} (h : zifc c (zGd l d X D G Sh Y cd Rt) (rx_find cd a) rest L S st) (he : ∀ (K : rx_K) (w : List rx_C), zSt G cd nL K en rest L S w = rx_if G.1 c cd K rest a (zLm L) (zSm S) w 0 0) : zgoal l d X D G Sh Y Rt en.1 L S st := by
  unfold zifc at h
  split at h
  · rename_i x S'
    obtain ⟨-, -, -, -, -, hst, hL, hS⟩ := id B
    have hx : zsI x := hS (.inl x) List.mem_cons_self
    have hy : zsI 0 := by unfold zsI; omega
    have hS' : ∀ v ∈ S', zok v := fun v hv => hS v (List.mem_cons_of_mem _ hv)
    by_cases k : zcmp c x 0
    · refine zgoB B (Or.inr ⟨a, rfl⟩) (h.1 k) hst hL hS' (fun w hw => ⟨w, hw, fun K => ?_⟩)
      rw [he]
      exact (zcmp_rx G.1 c hx hy (K (rx_find cd a) (zLm L) (zSm S') w 0 0) (K rest (zLm L) (zSm S') w 0 0)).1 k
    · refine zgoB B (Or.inl rfl) (h.2 k) hst hL hS' (fun w hw => ⟨w, hw, fun K => ?_⟩)
      rw [he]
      exact (zcmp_rx G.1 c hx hy (K (rx_find cd a) (zLm L) (zSm S') w 0 0) (K rest (zLm L) (zSm S') w 0 0)).2 k
  · exact absurd h id
theorem zc_goto (B : zB G Sh mi Y cd nL en rest L S st) {a : Nat} (h : zGd l d X D G Sh Y cd Rt (rx_find cd a) L S st) (he : ∀ (K : rx_K) (w : List rx_C), zSt G cd nL K en rest L S w = K (rx_find cd a) (zLm L) (zSm S) w 0 0) : zgoal l d X D G Sh Y Rt en.1 L S st := by
  obtain ⟨-, -, -, -, -, hst, hL, hS⟩ := id B
  exact zgoB B (Or.inr ⟨a, rfl⟩) h hst hL hS (fun w hw => ⟨w, hw, fun K => he K w⟩)
theorem zc_sw (B : zB G Sh mi Y cd nL en rest L S st) {a b c : Nat} {t : List Nat} (h : zsw cd (zGd l d X D G Sh Y cd Rt) a b c t L S st) (he : ∀ (K : rx_K) (w : List rx_C), zSt G cd nL K en rest L S w = rx_sw G.1 cd K a b c t (zLm L) (zSm S) w 0 0) : zgoal l d X D G Sh Y Rt en.1 L S st := by
  unfold zsw at h
  split at h
  · rename_i x S'
    obtain ⟨-, -, -, -, -, hst, hL, hS⟩ := id B
    have hx : zsI x := hS (.inl x) List.mem_cons_self
    have hS' : ∀ v ∈ S', zok v := fun v hv => hS v (List.mem_cons_of_mem _ hv)
    cases k : Nat.beq (b + t.length) (c + 1) with
    | false => rw [k] at h; exact absurd h id
    | true =>
      rw [k] at h
      have k := rx_bq k
      obtain ⟨h1, h2, h3⟩ := h
      have e : ∀ (K : rx_K) (w : List rx_C), zSt G cd nL K en rest L (.inl x :: S') w = cond (Nat.blt (x + 2147483648).toNat b || Nat.blt c (x + 2147483648).toNat) (K (rx_find cd a) (zLm L) (zSm S') w 0 0) (cond (Nat.beq (x + 2147483648).toNat (x + 2147483648).toNat) (rx_at t ((x + 2147483648).toNat - b) (fun g => K (rx_find cd g) (zLm L) (zSm S') w 0 0)) none) := fun K w => by
        rw [he, ← zi_bias hx]
        rfl
      unfold zsI at hx
      by_cases c1 : x < (b : Int) - 2147483648
      · refine zgoB B (Or.inr ⟨a, rfl⟩) (h1 c1) hst hL hS' (fun w hw => ⟨w, hw, fun K => ?_⟩)
        rw [e, zblt, decide_eq_true (show (x + 2147483648).toNat < b by omega)]
        rfl
      · by_cases c2 : (c : Int) - 2147483648 < x
        · refine zgoB B (Or.inr ⟨a, rfl⟩) (h2 c2) hst hL hS' (fun w hw => ⟨w, hw, fun K => ?_⟩)
          rw [e, zblt, zblt, decide_eq_false (show ¬ (x + 2147483648).toNat < b by omega), decide_eq_true (show c < (x + 2147483648).toNat by omega)]
          rfl
        · have hj : (x + 2147483648).toNat - b < t.length := by omega
          have hg : t[(x + 2147483648).toNat - b]? = some (t[(x + 2147483648).toNat - b]'hj) := List.getElem?_eq_getElem hj
          refine zgoB B (Or.inr ⟨_, rfl⟩) (zsws_at h3 hg (by omega)) hst hL hS' (fun w hw => ⟨w, hw, fun K => ?_⟩)
          rw [e, zblt, zblt, decide_eq_false (show ¬ (x + 2147483648).toNat < b by omega), decide_eq_false (show ¬ c < (x + 2147483648).toNat by omega), zbeq, zat_eq _ hg]
          simp
  · exact absurd h id
theorem zc_gf (B : zB G Sh mi Y cd nL en rest L S st) {a b c : Nat} (h : zgf Sh (zGd l d X D G Sh Y cd Rt) rest a b c L S st) (he : ∀ (K : rx_K) (w : List rx_C), zSt G cd nL K en rest L S w = rx_gf K rest a b c (zLm L) (zSm S) w 0 0) : zgoal l d X D G Sh Y Rt en.1 L S st := by
  unfold zgf at h
  split at h
  · rename_i o S'
    obtain ⟨-, -, -, -, -, hst, hL, hS⟩ := id B
    have hS' : ∀ v ∈ S', zok v := fun v hv => hS v (List.mem_cons_of_mem _ hv)
    cases k : Nat.ble c 1 with
    | false => rw [k] at h; exact absurd h id
    | true =>
      rw [k] at h
      obtain ⟨s, h1, h2⟩ := zat_ok h
      rcases s with ⟨a', ks⟩ | p
      · cases k2 : Nat.beq a' a with
        | false => simp only [k2] at h2; exact absurd h2 id
        | true =>
          simp only [k2] at h2
          obtain ⟨kd, h3, h4⟩ := zat_ok h2
          refine zgoB B (Or.inl rfl) h4 hst hL (zcons (P := zok) (zK_ok (hst.1 o a' ks h1 b kd h3)) hS') (fun w hw => ⟨w, hw, fun K => ?_⟩)
          obtain ⟨fs, g1, g2, g3⟩ := hw.2.1 o a' ks h1
          rw [he]
          show cond (Nat.ble c 1) (rx_at w o _) none = _
          rw [k, zat_eq _ g1]
          show cond (Nat.beq a' a) (rx_at fs b _) none = _
          rw [k2, zat_eq _ (g3 b kd h3)]
          rfl
      · exact absurd h2 id
  · exact absurd h id
theorem zc_pf (B : zB G Sh mi Y cd nL en rest L S st) {a b c : Nat} (h : zpf Sh (zGd l d X D G Sh Y cd Rt) rest a b c L S st) (he : ∀ (K : rx_K) (w : List rx_C), zSt G cd nL K en rest L S w = rx_pf K rest a b c (zLm L) (zSm S) w 0 0) : zgoal l d X D G Sh Y Rt en.1 L S st := by
  unfold zpf at h
  split at h
  · rename_i v o S'
    obtain ⟨-, -, -, -, -, hst, hL, hS⟩ := id B
    have hS' : ∀ u ∈ S', zok u := fun u hu => hS u (List.mem_cons_of_mem _ (List.mem_cons_of_mem _ hu))
    have hv : zok v := hS v List.mem_cons_self
    obtain ⟨s, h1, h2⟩ := zat_ok h
    rcases s with ⟨a', ks⟩ | p
    · cases k2 : Nat.beq a' a with
      | false => simp only [k2] at h2; exact absurd h2 id
      | true =>
        simp only [k2] at h2
        obtain ⟨kd, h3, h4⟩ := zat_ok h2
        cases k3 : Nat.beq kd c with
        | false => simp only [k3] at h4; exact absurd h4 id
        | true =>
          simp only [k3] at h4
          have k3 := rx_bq k3
          subst k3
          have key : ∀ z : Int, zv v = zv (zK kd z) → rx_fit kd (zv v) = true → zin kd z → zGd l d X D G Sh Y cd Rt rest L S' (zup st o b z) → zgoal l d X D G Sh Y Rt en.1 L (v :: .inr (.inr (.inl o)) :: S') st := by
            intro z e1 e2 e3 e4
            refine zgoB B (Or.inl rfl) e4 (zsk_putf hst h1 h3 e3) hL hS' (fun w hw => ?_)
            obtain ⟨fs, g1, g2, g3⟩ := hw.2.1 o a' ks h1
            refine ⟨_, zR_putf hw h1 h3 g1, fun K => ?_⟩
            rw [he]
            show cond (rx_fit kd (zv v)) (rx_at w o _) none = _
            rw [e2, zat_eq _ g1]
            show cond (Nat.beq a' a) (rx_set fs b (zv v) _) none = _
            rw [k2, zset_eq _ _ (by rw [g2]; exact zlt_of h3)]
            show rx_set w o (.inl (a', fs.set b (zv v))) _ = _
            rw [zset_eq _ _ (zlt_of g1), e1]
            rfl
          rcases v with z | (z | (r | j))
          · cases c0 : Nat.beq kd 0 with
            | true =>
              simp only [c0] at h4
              have c0 := rx_bq c0
              subst c0
              exact key z rfl rfl hv h4
            | false =>
              simp only [c0] at h4
              cases c2 : Nat.beq kd 2 with
              | true =>
                simp only [c2] at h4
                have c2 := rx_bq c2
                subst c2
                obtain ⟨h5, h6⟩ := h4
                refine key z rfl ?_ h5 h6
                rcases h5 with rfl | rfl <;> rfl
              | false => simp only [c2] at h4; exact absurd h4 id
          · cases c0 : Nat.beq kd 3 with
            | true =>
              simp only [c0] at h4
              have c0 := rx_bq c0
              subst c0
              exact key z rfl rfl hv h4
            | false => simp only [c0] at h4; exact absurd h4 id
          · cases c0 : Nat.beq kd 4 with
            | true =>
              simp only [c0] at h4
              have c0 := rx_bq c0
              subst c0
              exact key (r : Int) rfl rfl (Int.natCast_nonneg r) h4
            | false => simp only [c0] at h4; exact absurd h4 id
          · exact absurd h4 id
    · exact absurd h2 id
  · exact absurd h id
theorem zc_al (B : zB G Sh mi Y cd nL en rest L S st) {q : Nat} (hq : q = 0 ∨ q = 1 ∨ q = 3 ∨ q = 4) (h : zal Sh q (zGd l d X D G Sh Y cd Rt) rest L S st) (he : ∀ (K : rx_K) (w : List rx_C), zSt G cd nL K en rest L S w = rx_al G.1 G.2.2.1 G.2.2.2.1 q K rest (zLm L) (zSm S) w 0 0) : zgoal l d X D G Sh Y Rt en.1 L S st := by
  unfold zal at h
  split at h
  · rename_i j o S'
    obtain ⟨-, -, -, -, -, hst, hL, hS⟩ := id B
    have hS' : ∀ u ∈ S', zok u := fun u hu => hS u (List.mem_cons_of_mem _ (List.mem_cons_of_mem _ hu))
    obtain ⟨s, h1, h2⟩ := zat_ok h
    rcases s with p | ⟨t, n⟩
    · exact absurd h2 id
    · cases k : (Nat.beq t q || (Nat.beq q 1 && Nat.beq t 2)) with
      | false => simp only [k] at h2; exact absurd h2 id
      | true =>
        simp only [k] at h2
        obtain ⟨⟨j0, j1⟩, h3⟩ := h2
        have jn : j.toNat < n := by omega
        refine zgoB B (Or.inl rfl) h3 hst hL (zcons (P := zok) (zK_ok (hst.2 o t n h1 j.toNat jn)) hS') (fun w hw => ⟨w, hw, fun K => ?_⟩)
        obtain ⟨u, g1, ⟨g2, g4⟩, g3⟩ := hw.2.2 o t n h1
        have ej : zi j = j.toNat := zi_nn j0 (by omega)
        rw [he]
        show rx_at w o _ = _
        rw [zat_eq _ g1]
        show cond (Nat.blt (zi j) n && (Nat.blt n 2147483648 && (Nat.beq t q || (Nat.beq q 1 && Nat.beq t 2)))) (cond (rx_isK q (rx_lk u (zi j) (rx_df t))) (K rest (zLm L) (rx_lk u (zi j) (rx_df t) :: zSm S') w 0 0) none) none = _
        rw [ej, g3 _ jn, k, zblt, zblt, decide_eq_true jn, decide_eq_true g2]
        have e9 : rx_isK q (zv (zK t (st o j.toNat))) = true := by
          rcases Bool.or_eq_true_iff.mp k with k | k
          · have k := rx_bq k
            subst k
            rcases hq with rfl | rfl | rfl | rfl <;> rfl
          · obtain ⟨k1, k2⟩ := rx_an k
            have k1 := rx_bq k1
            have k2 := rx_bq k2
            subst k1
            subst k2
            rfl
        rw [e9]
        rfl
  · exact absurd h id
theorem zc_as (B : zB G Sh mi Y cd nL en rest L S st) {q : Nat} (h : zas Sh q (zGd l d X D G Sh Y cd Rt) rest L S st) (he : ∀ (K : rx_K) (w : List rx_C), zSt G cd nL K en rest L S w = rx_as q K rest (zLm L) (zSm S) w 0 0) : zgoal l d X D G Sh Y Rt en.1 L S st := by
  unfold zas at h
  split at h
  · rename_i v j o S'
    obtain ⟨-, -, -, -, -, hst, hL, hS⟩ := id B
    have hS' : ∀ u ∈ S', zok u := fun u hu => hS u (List.mem_cons_of_mem _ (List.mem_cons_of_mem _ (List.mem_cons_of_mem _ hu)))
    have hv : zok v := hS v List.mem_cons_self
    obtain ⟨s, h1, h2⟩ := zat_ok h
    rcases s with p | ⟨t, n⟩
    · exact absurd h2 id
    · cases k : (Nat.beq t q || (Nat.beq q 1 && Nat.beq t 2)) with
      | false => simp only [k] at h2; exact absurd h2 id
      | true =>
        simp only [k] at h2
        obtain ⟨⟨j0, j1⟩, h3⟩ := h2
        have jn : j.toNat < n := by omega
        have key : ∀ z : Int, rx_nar t (zv v) = zv (zK t z) → rx_fit (cond (Nat.beq t 1) 0 t) (zv v) = true → zin t z → zGd l d X D G Sh Y cd Rt rest L S' (zup st o j.toNat z) → zgoal l d X D G Sh Y Rt en.1 L (v :: .inl j :: .inr (.inr (.inl o)) :: S') st := by
          intro z e1 e2 e3 e4
          refine zgoB B (Or.inl rfl) e4 (zsk_puta hst h1 e3) hL hS' (fun w hw => ?_)
          obtain ⟨u, g1, ⟨g2, g4⟩, g3⟩ := hw.2.2 o t n h1
          refine ⟨_, zR_puta (j := j.toNat) (z := z) hw h1 g1, fun K => ?_⟩
          have ej : zi j = j.toNat := zi_nn j0 (by omega)
          rw [he]
          show rx_at w o _ = _
          rw [zat_eq _ g1]
          show cond (Nat.blt (zi j) n && (Nat.blt n 2147483648 && ((Nat.beq t q || (Nat.beq q 1 && Nat.beq t 2)) && rx_fit (cond (Nat.beq t 1) 0 t) (zv v)))) (rx_rem (fun i _ => Nat.beq i (zi j)) u (fun u' => rx_set w o (.inr (t, n, (zi j, rx_nar t (zv v)) :: u')) (fun w' => K rest (zLm L) (zSm S') w' 0 0))) none = _
          rw [ej, k, e2, e1, zblt, zblt, decide_eq_true jn, decide_eq_true g2, rx_rem_eq]
          show rx_set w o _ _ = _
          rw [zset_eq _ _ (zlt_of g1)]
        rcases v with z | (z | (r | i))
        · cases c0 : Nat.beq t 0 with
          | true =>
            simp only [c0] at h3
            have c0 := rx_bq c0
            subst c0
            exact key z rfl rfl hv h3
          | false =>
            simp only [c0] at h3
            cases c1 : Nat.beq t 1 with
            | true =>
              simp only [c1] at h3
              have c1 := rx_bq c1
              subst c1
              refine key (zb z) ?_ rfl (zb_ok z) h3
              show (.inl (.inl (cond (Nat.blt (zi z % 256) 128) (zi z % 256) (zi z % 256 + 4294967040))) : rx_V) = .inl (.inl (zi (zb z)))
              rw [zb_code]
            | false =>
              simp only [c1] at h3
              cases c2 : Nat.beq t 2 with
              | true =>
                simp only [c2] at h3
                have c2 := rx_bq c2
                subst c2
                obtain ⟨h5, h6⟩ := h3
                refine key z rfl ?_ h5 h6
                rcases h5 with rfl | rfl <;> rfl
              | false => simp only [c2] at h3; exact absurd h3 id
        · cases c0 : Nat.beq t 3 with
          | true =>
            simp only [c0] at h3
            have c0 := rx_bq c0
            subst c0
            exact key z rfl rfl hv h3
          | false => simp only [c0] at h3; exact absurd h3 id
        · exact absurd h3 id
        · exact absurd h3 id
  · exact absurd h id
theorem zc_len (B : zB G Sh mi Y cd nL en rest L S st) (h : zlen Sh (zGd l d X D G Sh Y cd Rt) rest L S st) (hlen : ∀ (c t n : Nat), Sh[c]? = some (.inr (t, n)) → n < 2147483648) (he : ∀ (K : rx_K) (w : List rx_C), zSt G cd nL K en rest L S w = rx_len G.2.2.1 G.2.2.2.2.1 K rest (zLm L) (zSm S) w 0 0) : zgoal l d X D G Sh Y Rt en.1 L S st := by
  unfold zlen at h
  split at h
  · rename_i o S'
    obtain ⟨-, -, -, -, -, hst, hL, hS⟩ := id B
    have hS' : ∀ u ∈ S', zok u := fun u hu => hS u (List.mem_cons_of_mem _ hu)
    obtain ⟨s, h1, h2⟩ := zat_ok h
    rcases s with p | ⟨t, n⟩
    · exact absurd h2 id
    · have hn := hlen o t n h1
      refine zgoB B (Or.inl rfl) h2 hst hL (zcons (P := zok) (v := .inl (n : Int)) (by show zsI (n : Int); unfold zsI; omega) hS') (fun w hw => ⟨w, hw, fun K => ?_⟩)
      obtain ⟨u, g1, ⟨g2, g4⟩, g3⟩ := hw.2.2 o t n h1
      rw [he]
      show rx_at w o _ = _
      rw [zat_eq _ g1]
      show cond (Nat.blt t 5) (K rest (zLm L) (.inl (.inl n) :: zSm S') w 0 0) none = K rest (zLm L) (.inl (.inl (zi (n : Int))) :: zSm S') w 0 0
      rw [zblt, decide_eq_true g4, show zi (n : Int) = n by unfold zi; omega]
      rfl
  · exact absurd h id
theorem zc_cpy (B : zB G Sh mi Y cd nL en rest L S st) (h : zcpy Sh (zGd l d X D G Sh Y cd Rt) rest L S st) (he : ∀ (K : rx_K) (w : List rx_C), zSt G cd nL K en rest L S w = rx_cpy K rest (zLm L) (zSm S) w 0 0) : zgoal l d X D G Sh Y Rt en.1 L S st := by
  unfold zcpy at h
  split at h
  · rename_i n dp c1 sp c0 S'
    obtain ⟨-, -, -, -, -, hst, hL, hS⟩ := id B
    have hS' : ∀ u ∈ S', zok u := fun u hu => hS u (List.mem_cons_of_mem _ (List.mem_cons_of_mem _ (List.mem_cons_of_mem _ (List.mem_cons_of_mem _ (List.mem_cons_of_mem _ hu)))))
    cases k : Nat.ble (zcats S') 8 with
    | false => rw [k] at h; exact absurd h id
    | true =>
      rw [k] at h
      obtain ⟨s, h1, h2⟩ := zat_ok h
      rcases s with p | ⟨t0, n0⟩
      · exact absurd h2 id
      · obtain ⟨s, h3, h4⟩ := zat_ok h2
        rcases s with p | ⟨t1, n1⟩
        · exact absurd h4 id
        · cases k2 : (Nat.beq t0 0 && Nat.beq t1 0) with
          | false => simp only [k2] at h4; exact absurd h4 id
          | true =>
            simp only [k2] at h4
            obtain ⟨k3, k4⟩ := rx_an k2
            have k3 := rx_bq k3
            have k4 := rx_bq k4
            subst k3
            subst k4
            obtain ⟨⟨a1, a2, a3, a4, a5⟩, h5⟩ := h4
            refine zgoB B (Or.inl rfl) h5 (zsk_copy hst h1 h3 (by omega)) hL hS' (fun w hw => ?_)
            obtain ⟨u0, g1, ⟨g2, -⟩, g3⟩ := hw.2.2 c0 0 n0 h1
            obtain ⟨u1, m1, ⟨m2, -⟩, m3⟩ := hw.2.2 c1 0 n1 h3
            refine ⟨_, zR_copy (s0 := sp.toNat) (d1 := dp.toNat) (n := n.toNat) hw h1 h3 (by omega) (by omega) g1 m1, fun K => ?_⟩
            have e1 : zi n = n.toNat := zi_nn a1 (by omega)
            have e2 : zi dp = dp.toNat := zi_nn a2 (by omega)
            have e3 : zi sp = sp.toNat := zi_nn a3 (by omega)
            rw [he]
            show cond (Nat.ble (rx_cats (zSm S')) 8) (rx_at w c0 _) none = _
            rw [zcats_v, k, zat_eq _ g1]
            show rx_at w c1 _ = _
            rw [zat_eq _ m1]
            show cond (Nat.beq 0 0 && (Nat.beq 0 0 && (Nat.ble (zi sp + zi n) n0 && (Nat.ble (zi dp + zi n) n1 && (Nat.blt n0 2147483648 && Nat.blt n1 2147483648))))) (rx_set w c1 (.inr (0, n1, rx_cpl u0 (zi sp) (zi dp) u1 (zi n))) (fun w' => K rest (zLm L) (zSm S') w' 0 0)) none = _
            rw [e1, e2, e3, zble, zble, zblt, zblt, decide_eq_true (show sp.toNat + n.toNat ≤ n0 by omega), decide_eq_true (show dp.toNat + n.toNat ≤ n1 by omega), decide_eq_true g2, decide_eq_true m2]
            show rx_set w c1 _ _ = _
            rw [zset_eq _ _ (zlt_of m1)]
  · exact absurd h id
end ZEQ
end
section
/-! rows that the first layer has for small numbers alone; calls, ends; the closure -/
section ZDI
variable {l : Launch} {d : Nat} {X : rx_X} {D : va_G} {G : rx_G} {Sh : List zC} {mi : List rx_Y} {Y : rx_Y} {cd rest : List rx_E} {nL q : Nat} {L : zL} {S : List zV} {st : zS} {en : rx_E} {Rt : zQ} {call : zCall}
theorem zd_ishr (B : zB G Sh mi Y cd nL en rest L S st) (hd : decode Y.2.1 en.1 = .ok (.ishr, 1)) (hlen : en.2.2.1 = 1) (h : z2 (fun x y => x / zpw (y % 32).toNat) (zGd l d X D G Sh Y cd Rt) rest L S st) : zgoal l d X D G Sh Y Rt en.1 L S st := by
  unfold z2 at h
  split at h
  · rename_i y x S'
    obtain ⟨-, -, -, b4, ⟨pre, b5⟩, hst, hL, hS⟩ := id B
    have hx : zsI x := hS (.inl x) (List.mem_cons_of_mem _ List.mem_cons_self)
    have hy : zsI y := hS (.inl y) List.mem_cons_self
    refine zgoR b4 b5 h hst hL (zcons (P := zok) (v := .inl (x / zpw (y % 32).toNat)) (zdiv_rng (zpw_pos _) (by decide) (by decide) hx.1 hx.2) (fun v hv => hS v (List.mem_cons_of_mem _ (List.mem_cons_of_mem _ hv)))) ?_
    intro w hw
    refine ⟨w, hw, fun p e s m args below meth c Q C hnm hW => ?_⟩
    intro H locs ls hI hl
    have k := hW H locs ls hI hl
    rw [hlen] at k
    have k : W p l e _ s m args below meth c H locs 0 0 Q (F0 m (en.1 + 1) ls (.int (nI (zi (x / zpw (y % 32).toNat))) :: (zSm S').map (rx_d X))) := k
    rw [← zI_shr hx y] at k
    exact lv_ishr C.1 C.2.1 hd k
  · exact absurd h id
theorem zd_idiv (B : zB G Sh mi Y cd nL en rest L S st) (hd : decode Y.2.1 en.1 = .ok (.idiv, 1)) (hlen : en.2.2.1 = 1) (h : z2n (fun x y => zw (Int.tdiv x y)) (zGd l d X D G Sh Y cd Rt) rest L S st) : zgoal l d X D G Sh Y Rt en.1 L S st := by
  unfold z2n at h
  split at h
  · rename_i y x S'
    obtain ⟨-, -, -, b4, ⟨pre, b5⟩, hst, hL, hS⟩ := id B
    obtain ⟨h0, h⟩ := h
    have hx : zsI x := hS (.inl x) (List.mem_cons_of_mem _ List.mem_cons_self)
    have hy : zsI y := hS (.inl y) List.mem_cons_self
    refine zgoR b4 b5 h hst hL (zcons (P := zok) (v := .inl (zw (Int.tdiv x y))) (zw_ok _) (fun v hv => hS v (List.mem_cons_of_mem _ (List.mem_cons_of_mem _ hv)))) ?_
    intro w hw
    refine ⟨w, hw, fun p e s m args below meth c Q C hnm hW => ?_⟩
    intro H locs ls hI hl
    have k := hW H locs ls hI hl
    rw [hlen] at k
    have k : W p l e _ s m args below meth c H locs 0 0 Q (F0 m (en.1 + 1) ls (.int (nI (zi (zw (Int.tdiv x y)))) :: (zSm S').map (rx_d X))) := k
    rw [← zI_div hx hy] at k
    exact lv_idiv C.1 C.2.1 hd (zi_ne0 hy h0) k
  · exact absurd h id
theorem zd_irem (B : zB G Sh mi Y cd nL en rest L S st) (hd : decode Y.2.1 en.1 = .ok (.irem, 1)) (hlen : en.2.2.1 = 1) (h : z2n (fun x y => zw (Int.tmod x y)) (zGd l d X D G Sh Y cd Rt) rest L S st) : zgoal l d X D G Sh Y Rt en.1 L S st := by
  unfold z2n at h
  split at h
  · rename_i y x S'
    obtain ⟨-, -, -, b4, ⟨pre, b5⟩, hst, hL, hS⟩ := id B
    obtain ⟨h0, h⟩ := h
    have hx : zsI x := hS (.inl x) (List.mem_cons_of_mem _ List.mem_cons_self)
    have hy : zsI y := hS (.inl y) List.mem_cons_self
    refine zgoR b4 b5 h hst hL (zcons (P := zok) (v := .inl (zw (Int.tmod x y))) (zw_ok _) (fun v hv => hS v (List.mem_cons_of_mem _ (List.mem_cons_of_mem _ hv)))) ?_
    intro w hw
    refine ⟨w, hw, fun p e s m args below meth c Q C hnm hW => ?_⟩
    intro H locs ls hI hl
    have k := hW H locs ls hI hl
    rw [hlen] at k
    have k : W p l e _ s m args below meth c H locs 0 0 Q (F0 m (en.1 + 1) ls (.int (nI (zi (zw (Int.tmod x y)))) :: (zSm S').map (rx_d X))) := k
    rw [← zI_rem hx hy] at k
    exact lv_irem C.1 C.2.1 hd (zi_ne0 hy h0) k
  · exact absurd h id
theorem zd_ldiv (B : zB G Sh mi Y cd nL en rest L S st) (hd : decode Y.2.1 en.1 = .ok (.ldiv, 1)) (hlen : en.2.2.1 = 1) (h : z2m (fun x y => zx (Int.tdiv x y)) (zGd l d X D G Sh Y cd Rt) rest L S st) : zgoal l d X D G Sh Y Rt en.1 L S st := by
  unfold z2m at h
  split at h
  · rename_i y x S'
    obtain ⟨-, -, -, b4, ⟨pre, b5⟩, hst, hL, hS⟩ := id B
    obtain ⟨h0, h⟩ := h
    have hx : zsL x := hS (.inr (.inl x)) (List.mem_cons_of_mem _ List.mem_cons_self)
    have hy : zsL y := hS (.inr (.inl y)) List.mem_cons_self
    refine zgoR b4 b5 h hst hL (zcons (P := zok) (v := .inr (.inl (zx (Int.tdiv x y)))) (zx_ok _) (fun v hv => hS v (List.mem_cons_of_mem _ (List.mem_cons_of_mem _ hv)))) ?_
    intro w hw
    refine ⟨w, hw, fun p e s m args below meth c Q C hnm hW => ?_⟩
    intro H locs ls hI hl
    have k := hW H locs ls hI hl
    rw [hlen] at k
    have k : W p l e _ s m args below meth c H locs 0 0 Q (F0 m (en.1 + 1) ls (.long (lN (zl (zx (Int.tdiv x y)))) :: (zSm S').map (rx_d X))) := k
    rw [← zL_div hx hy] at k
    exact lv_ldiv C.1 C.2.1 hd (zl_ne0 hy h0) k
  · exact absurd h id
theorem zd_lrem (B : zB G Sh mi Y cd nL en rest L S st) (hd : decode Y.2.1 en.1 = .ok (.lrem, 1)) (hlen : en.2.2.1 = 1) (h : z2m (fun x y => zx (Int.tmod x y)) (zGd l d X D G Sh Y cd Rt) rest L S st) : zgoal l d X D G Sh Y Rt en.1 L S st := by
  unfold z2m at h
  split at h
  · rename_i y x S'
    obtain ⟨-, -, -, b4, ⟨pre, b5⟩, hst, hL, hS⟩ := id B
    obtain ⟨h0, h⟩ := h
    have hx : zsL x := hS (.inr (.inl x)) (List.mem_cons_of_mem _ List.mem_cons_self)
    have hy : zsL y := hS (.inr (.inl y)) List.mem_cons_self
    refine zgoR b4 b5 h hst hL (zcons (P := zok) (v := .inr (.inl (zx (Int.tmod x y)))) (zx_ok _) (fun v hv => hS v (List.mem_cons_of_mem _ (List.mem_cons_of_mem _ hv)))) ?_
    intro w hw
    refine ⟨w, hw, fun p e s m args below meth c Q C hnm hW => ?_⟩
    intro H locs ls hI hl
    have k := hW H locs ls hI hl
    rw [hlen] at k
    have k : W p l e _ s m args below meth c H locs 0 0 Q (F0 m (en.1 + 1) ls (.long (lN (zl (zx (Int.tmod x y)))) :: (zSm S').map (rx_d X))) := k
    rw [← zL_rem hx hy] at k
    exact lv_lrem C.1 C.2.1 hd (zl_ne0 hy h0) k
  · exact absurd h id
theorem zd_lshl (B : zB G Sh mi Y cd nL en rest L S st) (hd : decode Y.2.1 en.1 = .ok (.lshl, 1)) (hlen : en.2.2.1 = 1) (h : z2s (fun x y => ze ((zl x * 2 ^ (zi y % 64)) % 18446744073709551616)) (zGd l d X D G Sh Y cd Rt) rest L S st) : zgoal l d X D G Sh Y Rt en.1 L S st := by
  unfold z2s at h
  split at h
  · rename_i y x S'
    obtain ⟨-, -, -, b4, ⟨pre, b5⟩, hst, hL, hS⟩ := id B
    have hx : zsL x := hS (.inr (.inl x)) (List.mem_cons_of_mem _ List.mem_cons_self)
    have hy : zsI y := hS (.inl y) List.mem_cons_self
    refine zgoR b4 b5 h hst hL (zcons (P := zok) (v := .inr (.inl (ze ((zl x * 2 ^ (zi y % 64)) % 18446744073709551616)))) (ze_ok (Nat.mod_lt _ (by decide))) (fun v hv => hS v (List.mem_cons_of_mem _ (List.mem_cons_of_mem _ hv)))) ?_
    intro w hw
    refine ⟨w, hw, fun p e s m args below meth c Q C hnm hW => ?_⟩
    intro H locs ls hI hl
    have k := hW H locs ls hI hl
    rw [hlen] at k
    have k : W p l e _ s m args below meth c H locs 0 0 Q (F0 m (en.1 + 1) ls (.long (lN (zl (ze ((zl x * 2 ^ (zi y % 64)) % 18446744073709551616)))) :: (zSm S').map (rx_d X))) := k
    skip
    exact lv_lshl C.1 C.2.1 hd (zL_shl x y) k
  · exact absurd h id
theorem zd_lshr (B : zB G Sh mi Y cd nL en rest L S st) (hd : decode Y.2.1 en.1 = .ok (.lshr, 1)) (hlen : en.2.2.1 = 1) (h : z2s (fun x y => x / zpw (y % 64).toNat) (zGd l d X D G Sh Y cd Rt) rest L S st) : zgoal l d X D G Sh Y Rt en.1 L S st := by
  unfold z2s at h
  split at h
  · rename_i y x S'
    obtain ⟨-, -, -, b4, ⟨pre, b5⟩, hst, hL, hS⟩ := id B
    have hx : zsL x := hS (.inr (.inl x)) (List.mem_cons_of_mem _ List.mem_cons_self)
    have hy : zsI y := hS (.inl y) List.mem_cons_self
    refine zgoR b4 b5 h hst hL (zcons (P := zok) (v := .inr (.inl (x / zpw (y % 64).toNat))) (zdiv_rng (zpw_pos _) (by decide) (by decide) hx.1 hx.2) (fun v hv => hS v (List.mem_cons_of_mem _ (List.mem_cons_of_mem _ hv)))) ?_
    intro w hw
    refine ⟨w, hw, fun p e s m args below meth c Q C hnm hW => ?_⟩
    intro H locs ls hI hl
    have k := hW H locs ls hI hl
    rw [hlen] at k
    have k : W p l e _ s m args below meth c H locs 0 0 Q (F0 m (en.1 + 1) ls (.long (lN (zl (x / zpw (y % 64).toNat))) :: (zSm S').map (rx_d X))) := k
    skip
    exact lv_lshr C.1 C.2.1 hd (zL_shr hx y) k
  · exact absurd h id
theorem zd_i2l (B : zB G Sh mi Y cd nL en rest L S st) (hd : decode Y.2.1 en.1 = .ok (.i2l, 1)) (hlen : en.2.2.1 = 1) (h : zi2l (zGd l d X D G Sh Y cd Rt) rest L S st) : zgoal l d X D G Sh Y Rt en.1 L S st := by
  unfold zi2l at h
  split at h
  · rename_i x S'
    obtain ⟨-, -, -, b4, ⟨pre, b5⟩, hst, hL, hS⟩ := id B
    have hx : zsI x := hS (.inl x) List.mem_cons_self
    skip
    refine zgoR b4 b5 h hst hL (zcons (P := zok) (v := .inr (.inl x)) (by show zsL x; unfold zsI at hx; unfold zsL; omega) (fun v hv => hS v (List.mem_cons_of_mem _ hv))) ?_
    intro w hw
    refine ⟨w, hw, fun p e s m args below meth c Q C hnm hW => ?_⟩
    intro H locs ls hI hl
    have k := hW H locs ls hI hl
    rw [hlen] at k
    have k : W p l e _ s m args below meth c H locs 0 0 Q (F0 m (en.1 + 1) ls (.long (lN (zl x)) :: (zSm S').map (rx_d X))) := k
    skip
    exact lv_i2l C.1 C.2.1 hd (zI_l hx) k
  · exact absurd h id
theorem ztake_ok : ∀ {n : Nat} {S acc : List zV} {k : List zV → List zV → Prop}, ztake n S acc k → ∃ as S', k as S' ∧ (∀ (β : Type) (f : List rx_V → List rx_V → Option β), rx_take n (zSm S) (zSm acc) f = f (zSm as) (zSm S')) ∧ (∀ v ∈ as, v ∈ S ∨ v ∈ acc) ∧ (∀ v ∈ S', v ∈ S) := by
  intro n
  induction n with
  | zero => intro S acc k h; exact ⟨acc, S, h, fun β f => rfl, fun v hv => Or.inr hv, fun v hv => hv⟩
  | succ n ih =>
    intro S acc k h
    cases S with
    | nil => exact absurd h id
    | cons v t =>
      obtain ⟨as, S', h1, h2, h3, h4⟩ := ih (S := t) (acc := v :: acc) h
      refine ⟨as, S', h1, fun β f => h2 β f, fun u hu => ?_, fun u hu => List.mem_cons_of_mem _ (h4 u hu)⟩
      rcases h3 u hu with e | e
      · exact Or.inl (List.mem_cons_of_mem _ e)
      · rcases List.mem_cons.mp e with e | e
        · rw [e]; exact Or.inl List.mem_cons_self
        · exact Or.inr e
/-- a method's outcome -/
def zM (l : Launch) (d : Nat) (X : rx_X) (D : va_G) (G : rx_G) (Sh : List zC) (mi : List rx_Y) (nu : Nat) (as : List zV) (st : zS) (r : Option zV) (st' : zS) : Prop := ((∀ v, r = some v → zok v) ∧ zsk Sh st') ∧ ∃ Y, mi[nu]? = some Y ∧ Cond.code Y.1 Y.2.1 Y.2.2.1 Y.2.2.2 ∈ rx_words ∧ ∀ w, zR Sh st w → ∃ w', zR Sh st' w' ∧ rx_Met l d 0 0 Y X D G (zSm as) w (r.map zv) w'
def zOk (l : Launch) (d : Nat) (X : rx_X) (D : va_G) (G : rx_G) (Sh : List zC) (mi : List rx_Y) : zCall := fun nu as st Q => (∀ v ∈ as, zok v) → zsk Sh st → ∃ r st', Q r st' ∧ zM l d X D G Sh mi nu as st r st'
noncomputable def zexM (nu : Nat) (as : List rx_V) (w : List rx_C) (r : Option rx_V) (w1 : List rx_C) : Nat → List rx_V → List rx_C → Option (Option rx_V × List rx_C) := fun nu' as' w' => @ite _ (nu' = nu ∧ as' = as ∧ w' = w) (Classical.propDecidable _) (some (r, w1)) none
theorem zexM_eq (nu : Nat) (as : List rx_V) (w : List rx_C) (r : Option rx_V) (w1 : List rx_C) : zexM nu as w r w1 nu as w = some (r, w1) := by
  unfold zexM
  rw [if_pos ⟨rfl, rfl, rfl⟩]
theorem zc_call (B : zB G Sh mi Y cd nL en rest L S st) {nu : Nat} {as S' : List zV} (has : ∀ v ∈ as, zok v) (hS' : ∀ v ∈ S', zok v) (h : zOk l d X D G Sh mi nu as st (fun r st' => zGd l d X D G Sh Y cd Rt rest L (zpush r S') st'))
    (he : ∀ (K : rx_K) (w : List rx_C) (r : Option zV) (w1 : List rx_C) (ex : Nat → List rx_V → List rx_C → Option (Option rx_V × List rx_C)), zR Sh st w → ex nu (zSm as) w = some (r.map zv, w1) → rx_step G cd nL 0 0 (fun _ => (0, 0)) ex K en rest (zLm L) (zSm S) w 0 0 = K rest (zLm L) (zSm (zpush r S')) w1 0 0) : zgoal l d X D G Sh Y Rt en.1 L S st := by
  obtain ⟨b1, b2, b3, b4, ⟨pre, b5⟩, hst, hL, hS⟩ := id B
  obtain ⟨r, st', ⟨hne, hK⟩, ⟨hr, hst'⟩, Z, hZ, hcode, hM⟩ := h has hst
  have hk : zgoal l d X D G Sh Y Rt (zpc rest) L (zpush r S') st' := hK ⟨pre ++ [en], by rw [b5, List.append_assoc]; rfl⟩ hst' hL (by
    cases r with
    | none => exact hS'
    | some v => exact zcons (P := zok) (hr v rfl) hS')
  refine zgo_tr (pc1 := zpc rest) (fun w hw => ?_) hk
  obtain ⟨w', hw', hm⟩ := hM w hw
  refine ⟨w', hw', fun p e s m args below meth c Q C hnm hW => ?_⟩
  refine zW_eq (mi := mi) (cap := fun _ => (0, 0)) (ex := zexM nu (zSm as) w (r.map zv) w') (T := rest) (cd := cd) (rest := rest) b1 b2 b3 (fun _ => zrest_pc b4 b5 hne) (fun t e => zfind_pc hne e) ?_ (fun K => he K w r w' _ hw (zexM_eq _ _ _ _ _)) C hnm hW
  intro nu' as' w0 r0 w9 hq
  unfold zexM at hq
  split at hq
  · rename_i q
    obtain ⟨rfl, rfl, rfl⟩ := q
    cases hq
    exact ⟨Z, hZ, hcode, hm⟩
  · cases hq
end ZDI
end
section
/-! THE CLOSURE: a step of the second layer is a step of the machine; a method -/
section ZCL
variable {l : Launch} {d : Nat} {X : rx_X} {D : va_G} {G : rx_G} {Sh : List zC} {mi : List rx_Y} {Y : rx_Y} {cd rest : List rx_E} {nL q : Nat} {L : zL} {S : List zV} {st : zS} {en : rx_E} {Rt : zQ} {call : zCall}
theorem zc_inv0 (B : zB G Sh mi Y cd nL en rest L S st) {nu n : Nat} (h : zinv Sh (zOk l d X D G Sh mi) (zGd l d X D G Sh Y cd Rt) rest nu n 0 0 L S st)
    (he : ∀ (K : rx_K) (w : List rx_C) (ex : Nat → List rx_V → List rx_C → Option (Option rx_V × List rx_C)), rx_step G cd nL 0 0 (fun _ => (0, 0)) ex K en rest (zLm L) (zSm S) w 0 0 = rx_inv G.2.1 0 0 (fun _ => (0, 0)) ex K rest nu n 0 0 (zLm L) (zSm S) w 0 0) : zgoal l d X D G Sh Y Rt en.1 L S st := by
  obtain ⟨as, S', h1, h2, h3, h4⟩ := ztake_ok h
  obtain ⟨-, -, -, -, -, hst, hL, hS⟩ := id B
  cases k : Nat.ble (zcats S') 8 with
  | false => simp only [k] at h1; exact absurd h1 id
  | true =>
    simp only [k] at h1
    refine zc_call B (fun v hv => (h3 v hv).elim (fun e => hS v e) (fun e => by simp at e)) (fun v hv => hS v (h4 v hv)) h1 (fun K w r w1 ex hw hx => ?_)
    rw [he]
    unfold rx_inv
    have h5 := h2 rx_R (fun as S' => cond (Nat.ble (rx_cats S') 8 && (Nat.ble (0 + ((fun _ => (0, 0)) nu : Nat × Nat).1) 0 && Nat.ble (0 + ((fun _ => (0, 0)) nu : Nat × Nat).2) 0)) (match ex nu as w with
      | some (r, w') => K rest (zLm L) (match r with | some v => v :: S' | none => S') w' (0 + ((fun _ => (0, 0)) nu : Nat × Nat).1) (0 + ((fun _ => (0, 0)) nu : Nat × Nat).2)
      | none => none) none)
    refine Eq.trans h5 ?_
    rw [zcats_v, k, hx]
    cases r <;> rfl
theorem zc_inv1 (B : zB G Sh mi Y cd nL en rest L S st) {nu n q a : Nat} (h : zinv Sh (zOk l d X D G Sh mi) (zGd l d X D G Sh Y cd Rt) rest nu n q a L S st)
    (he : ∀ (K : rx_K) (w : List rx_C) (ex : Nat → List rx_V → List rx_C → Option (Option rx_V × List rx_C)), rx_step G cd nL 0 0 (fun _ => (0, 0)) ex K en rest (zLm L) (zSm S) w 0 0 = rx_inv G.2.1 0 0 (fun _ => (0, 0)) ex K rest nu n q a (zLm L) (zSm S) w 0 0) : zgoal l d X D G Sh Y Rt en.1 L S st := by
  cases q with
  | zero =>
    obtain ⟨as, S', h1, h2, h3, h4⟩ := ztake_ok h
    obtain ⟨-, -, -, -, -, hst, hL, hS⟩ := id B
    cases k : Nat.ble (zcats S') 8 with
    | false => simp only [k] at h1; exact absurd h1 id
    | true =>
      simp only [k] at h1
      refine zc_call B (fun v hv => (h3 v hv).elim (fun e => hS v e) (fun e => by simp at e)) (fun v hv => hS v (h4 v hv)) h1 (fun K w r w1 ex hw hx => ?_)
      rw [he]
      unfold rx_inv
      have h5 := h2 rx_R (fun as S' => cond (Nat.ble (rx_cats S') 8 && (Nat.ble (0 + ((fun _ => (0, 0)) nu : Nat × Nat).1) 0 && Nat.ble (0 + ((fun _ => (0, 0)) nu : Nat × Nat).2) 0)) (match ex nu as w with
        | some (r, w') => K rest (zLm L) (match r with | some v => v :: S' | none => S') w' (0 + ((fun _ => (0, 0)) nu : Nat × Nat).1) (0 + ((fun _ => (0, 0)) nu : Nat × Nat).2)
        | none => none) none)
      refine Eq.trans h5 ?_
      rw [zcats_v, k, hx]
      cases r <;> rfl
  | succ q1 =>
    cases q1 with
    | succ q2 =>
      obtain ⟨as, S', h1, h2, h3, h4⟩ := ztake_ok h
      cases k : Nat.ble (zcats S') 8 with
      | false => simp only [k] at h1; exact absurd h1 id
      | true =>
        simp only [k] at h1
        exact absurd h1 id
    | zero =>
      obtain ⟨as, S', h1, h2, h3, h4⟩ := ztake_ok h
      obtain ⟨-, -, -, -, -, hst, hL, hS⟩ := id B
      cases k : Nat.ble (zcats S') 8 with
      | false => simp only [k] at h1; exact absurd h1 id
      | true =>
        simp only [k] at h1
        rcases as with _ | ⟨v, as⟩
        · exact absurd h1 id
        · rcases v with z | (z | (o | j))
          · exact absurd h1 id
          · exact absurd h1 id
          · obtain ⟨s, g1, g2⟩ := zat_ok (show zat Sh o _ from h1)
            rcases s with ⟨a', ks⟩ | p
            · cases k2 : Nat.beq a' a with
              | false => simp only [k2] at g2; exact absurd g2 id
              | true =>
                simp only [k2] at g2
                refine zc_call B (fun v hv => (h3 v hv).elim (fun e => hS v e) (fun e => by simp at e)) (fun v hv => hS v (h4 v hv)) g2 (fun K w r w1 ex hw hx => ?_)
                rw [he]
                unfold rx_inv
                obtain ⟨fs, f1, -, -⟩ := hw.2.1 o a' ks g1
                have h5 := h2 rx_R (fun as S' => cond (Nat.ble (rx_cats S') 8 && (Nat.ble (0 + ((fun _ => (0, 0)) nu : Nat × Nat).1) 0 && Nat.ble (0 + ((fun _ => (0, 0)) nu : Nat × Nat).2) 0)) (match ex nu as w with
                  | some (r, w') => (match 1, as with
                    | 0, _ => K rest (zLm L) (match r with | some v => v :: S' | none => S') w' (0 + ((fun _ => (0, 0)) nu : Nat × Nat).1) (0 + ((fun _ => (0, 0)) nu : Nat × Nat).2)
                    | 1, .inr (.inr (.inl (some k))) :: _ => rx_at w k (fun x => match x with
                      | .inl o => cond (Nat.beq o.1 a) (K rest (zLm L) (match r with | some v => v :: S' | none => S') w' (0 + ((fun _ => (0, 0)) nu : Nat × Nat).1) (0 + ((fun _ => (0, 0)) nu : Nat × Nat).2)) none
                      | .inr _ => none)
                    | 2, .inr (.inr (.inr k)) :: _ => cond (Nat.beq k 1) (K rest (zLm L) (match r with | some v => v :: S' | none => S') w' (0 + ((fun _ => (0, 0)) nu : Nat × Nat).1) (0 + ((fun _ => (0, 0)) nu : Nat × Nat).2)) none
                    | _, _ => none)
                  | none => none) none)
                refine Eq.trans h5 ?_
                rw [zcats_v, k, hx]
                show rx_at w o _ = _
                rw [zat_eq _ f1]
                show cond (Nat.beq a' a) _ none = _
                rw [k2]
                cases r <;> rfl
            · exact absurd g2 id
          · exact absurd h1 id
theorem zend {r : Option zV} {w : List rx_C} {s : State} {args : Array Value} {H : Heap} {locs : List Loc} (hI : rx_Iv X D G s w 0 H locs) : ∀ t : State, t.heap = H → s.WarmedH t.vm → rx_Qc X D G 0 (r.map zv) w args s (.returned ((r.map zv).map (rx_d X))) t := by
  intro t ht _
  exact ⟨rfl, by rw [ht]; exact hI.1, hI.2.1, by rw [ht]; exact hI.2.2.1, fun q h1 h2 => by rw [ht]; exact hI.2.2.2.1 q h1 h2⟩
theorem zc_ret (B : zB G Sh mi Y cd nL en rest L S st) (hrk : rx_rk q Y.2.2.2 = true) (hd : decode Y.2.1 en.1 = .ok (.return_, 1)) (h : zret q Rt S st) : zgoal l d X D G Sh Y Rt en.1 L S st := by
  obtain ⟨-, -, -, -, -, hst, hL, hS⟩ := id B
  unfold zret at h
  cases k : Nat.beq q 0 with
  | false => rw [k] at h; exact absurd h id
  | true =>
    rw [k] at h
    have k := rx_bq k
    subst k
    cases S with
    | cons v S' => exact absurd h id
    | nil =>
      refine ⟨none, st, h, ⟨fun v e => (by cases e), hst⟩, fun w hw => ⟨w, hw, fun p e s m args below meth c C hnm hret hlocks => ?_⟩⟩
      intro H locs ls hI hl
      have hn : Y.2.2.2 = none := by
        cases hy : Y.2.2.2 with
        | none => rfl
        | some ty => rw [hy] at hrk; cases ty <;> cases hrk
      exact W.vret C.1 C.2.1 (by rw [hret]; exact hn) (zend (r := none) hI) hI.2.2.2.2 hd
theorem zc_reti (B : zB G Sh mi Y cd nL en rest L S st) (hrk : rx_rk q Y.2.2.2 = true) (hd : decode Y.2.1 en.1 = .ok (.ireturn, 1)) (h : zreti q Rt S st) : zgoal l d X D G Sh Y Rt en.1 L S st := by
  obtain ⟨-, -, -, -, -, hst, hL, hS⟩ := id B
  unfold zreti at h
  split at h
  · rename_i z
    have hz : zok (.inl z) := hS _ List.mem_cons_self
    cases k : Nat.beq q 1 with
    | true =>
      simp only [k] at h
      have k := rx_bq k
      subst k
      refine ⟨some (.inl z), st, h, ⟨fun v e => (by cases e; exact hz), hst⟩, fun w hw => ⟨w, hw, fun p e s m args below meth c C hnm hret hlocks => ?_⟩⟩
      intro H locs ls hI hl
      have hu : ∀ t : Option FieldType, rx_rk 1 t = true → t = some .int := (fun t ht => by rcases t with _ | ty <;> first | (cases ht; done) | (cases ty <;> first | rfl | (cases ht; done)))
      exact W.iret (v := nI (zi z)) C.1 C.2.1 (by rw [hret]; exact hu _ hrk) (zend (r := some (.inl z)) hI) hI.2.2.2.2 hd
    | false =>
      simp only [k] at h
      cases k2 : Nat.beq q 2 with
      | true =>
        simp only [k2] at h
        have k2 := rx_bq k2
        subst k2
        obtain ⟨h5, h6⟩ := h
        refine ⟨some (.inl z), st, h6, ⟨fun v e => (by cases e; exact hz), hst⟩, fun w hw => ⟨w, hw, fun p e s m args below meth c C hnm hret hlocks => ?_⟩⟩
        intro H locs ls hI hl
        have hu : ∀ t : Option FieldType, rx_rk 2 t = true → t = some .boolean := (fun t ht => by rcases t with _ | ty <;> first | (cases ht; done) | (cases ty <;> first | rfl | (cases ht; done)))
        have hn : zi z ≤ 1 := by rcases h5 with rfl | rfl <;> decide
        exact W.zret (v := nI (zi z)) (ty := .boolean) C.1 C.2.1 (by rw [hret]; exact hu _ hrk) (rx_nar_bool hn) (zend (r := some (.inl z)) hI) hI.2.2.2.2 hd
      | false => simp only [k2] at h; exact absurd h id
  · exact absurd h id
theorem zc_retl (B : zB G Sh mi Y cd nL en rest L S st) (hrk : rx_rk q Y.2.2.2 = true) (hd : decode Y.2.1 en.1 = .ok (.lreturn, 1)) (h : zretl q Rt S st) : zgoal l d X D G Sh Y Rt en.1 L S st := by
  obtain ⟨-, -, -, -, -, hst, hL, hS⟩ := id B
  unfold zretl at h
  split at h
  · rename_i z
    have hz : zok (.inr (.inl z)) := hS _ List.mem_cons_self
    cases k : Nat.beq q 5 with
    | true =>
      simp only [k] at h
      have k := rx_bq k
      subst k
      refine ⟨some (.inr (.inl z)), st, h, ⟨fun v e => (by cases e; exact hz), hst⟩, fun w hw => ⟨w, hw, fun p e s m args below meth c C hnm hret hlocks => ?_⟩⟩
      intro H locs ls hI hl
      have hu : ∀ t : Option FieldType, rx_rk 5 t = true → t = some .long := (fun t ht => by rcases t with _ | ty <;> first | (cases ht; done) | (cases ty <;> first | rfl | (cases ht; done)))
      exact W.lret (v := lN (zl z)) C.1 C.2.1 (by rw [hret]; exact hu _ hrk) (zend (r := some (.inr (.inl z))) hI) hI.2.2.2.2 hd
    | false => simp only [k] at h; exact absurd h id
  · exact absurd h id
set_option maxHeartbeats 2000000 in
theorem z_close (hG : rx_Gok G) (hokA : cd.all (rx_okb mi Y.1.cls Y.1.name Y.2.1) = true) (hnL : Y.2.2.1 = nL) (hsq : rx_seq cd = true) (hrk : rx_rk q Y.2.2.2 = true) (hlen : ∀ (c t n : Nat), Sh[c]? = some (.inr (t, n)) → n < 2147483648) : zcl Sh cd nL q (zOk l d X D G Sh mi) Rt (zGd l d X D G Sh Y cd Rt) := by
  intro en rest L S st h
  refine ⟨by simp, fun ⟨pre, hcd⟩ hst hL hS => ?_⟩
  have hok : rx_okb mi Y.1.cls Y.1.name Y.2.1 en = true := List.all_eq_true.mp hokA en (by rw [hcd]; exact List.mem_append_right _ List.mem_cons_self)
  have B : zB G Sh mi Y cd nL en rest L S st := ⟨hG, hok, hnL, hsq, ⟨pre, hcd⟩, hst, hL, hS⟩
  show zgoal l d X D G Sh Y Rt en.1 L S st
  obtain ⟨pc, i, len, a, b, k, t⟩ := en
  cases i with
  | iconst z => exact zc_cst B h (fun K w => rfl)
  | bipush z => exact zc_cst B h (fun K w => rfl)
  | sipush z => exact zc_cst B h (fun K w => rfl)
  | ldc_w z => exact zc_cst B h (fun K w => rfl)
  | ldc z =>
    cases k0 : Nat.beq b 0 with
    | false =>
      have h : cond (Nat.beq b 0) (zcst (zGd l d X D G Sh Y cd Rt) rest a L S st) False := h
      rw [k0] at h
      exact absurd h id
    | true =>
      have h : cond (Nat.beq b 0) (zcst (zGd l d X D G Sh Y cd Rt) rest a L S st) False := h
      rw [k0] at h
      refine zc_cst B h (fun K w => ?_)
      show cond (Nat.beq b 0) _ _ = _
      rw [k0]
      rfl
  | lconst z => exact zc_lst B h (fun K w => rfl)
  | ldc2_w z => exact zc_lst B h (fun K w => rfl)
  | iload z => exact zc_ldI B h (fun K w => rfl)
  | iload_n z => exact zc_ldI B h (fun K w => rfl)
  | lload z => exact zc_ldL B h (fun K w => rfl)
  | lload_n z => exact zc_ldL B h (fun K w => rfl)
  | aload z => exact zc_ldA B h (fun K w => rfl)
  | aload_n z => exact zc_ldA B h (fun K w => rfl)
  | istore z => exact zc_stI B h (fun K w => rfl)
  | istore_n z => exact zc_stI B h (fun K w => rfl)
  | lstore z => exact zc_stL B h (fun K w => rfl)
  | lstore_n z => exact zc_stL B h (fun K w => rfl)
  | astore z => exact zc_stA B h (fun K w => rfl)
  | astore_n z => exact zc_stA B h (fun K w => rfl)
  | iinc z z2 => exact zc_inc B h (fun K w => rfl)
  | iadd => exact zc_2 B h (fun x y _ _ => ⟨rfl, zi_add x y, zw_ok _⟩) (fun K w => rfl)
  | isub => exact zc_2 B h (fun x y _ _ => ⟨rfl, zi_sub x y, zw_ok _⟩) (fun K w => rfl)
  | imul => exact zc_2 B h (fun x y _ _ => ⟨rfl, zi_mul x y, zw_ok _⟩) (fun K w => rfl)
  | iand => exact zc_2u B h (fun x y _ _ => ⟨rfl, (zi_zd (zland x y)).symm, zd_ok (zland x y)⟩) (fun K w => rfl)
  | ior => exact zc_2 B h (fun x y _ _ => ⟨rfl, (zi_zd (zlor x y)).symm, zd_ok (zlor x y)⟩) (fun K w => rfl)
  | ixor => exact zc_2 B h (fun x y _ _ => ⟨rfl, (zi_zd (zlxor x y)).symm, zd_ok (zlxor x y)⟩) (fun K w => rfl)
  | ishl => exact zc_2 B h (fun x y _ _ => ⟨rfl, (zi_zd (Nat.mod_lt _ (by decide))).symm, zd_ok (Nat.mod_lt _ (by decide))⟩) (fun K w => rfl)
  | iushr => exact zc_2 B h (fun x y _ _ => ⟨rfl, (zi_zd (zush x y)).symm, zd_ok (zush x y)⟩) (fun K w => rfl)
  | ishr => exact zd_ishr B (rx_d1_ok hok).1 (rx_d1_ok hok).2 h
  | idiv => exact zd_idiv B (rx_d1_ok hok).1 (rx_d1_ok hok).2 h
  | irem => exact zd_irem B (rx_d1_ok hok).1 (rx_d1_ok hok).2 h
  | ldiv => exact zd_ldiv B (rx_d1_ok hok).1 (rx_d1_ok hok).2 h
  | lrem => exact zd_lrem B (rx_d1_ok hok).1 (rx_d1_ok hok).2 h
  | lshl => exact zd_lshl B (rx_d1_ok hok).1 (rx_d1_ok hok).2 h
  | lshr => exact zd_lshr B (rx_d1_ok hok).1 (rx_d1_ok hok).2 h
  | i2l => exact zd_i2l B (rx_d1_ok hok).1 (rx_d1_ok hok).2 h
  | i2b => exact zc_i2b B h (fun K w => rfl)
  | l2i => exact zc_l2i B h (fun K w => rfl)
  | ladd => exact zc_2l B h (fun x y _ _ => ⟨rfl, zl_add x y, zx_ok _⟩) (fun K w => rfl)
  | lsub => exact zc_2l B h (fun x y _ _ => ⟨rfl, zl_sub x y, zx_ok _⟩) (fun K w => rfl)
  | lmul => exact zc_2l B h (fun x y _ _ => ⟨rfl, zl_mul x y, zx_ok _⟩) (fun K w => rfl)
  | land => exact zc_2l B h (fun x y _ _ => ⟨rfl, (zl_ze (zlandl x y)).symm, ze_ok (zlandl x y)⟩) (fun K w => rfl)
  | lor => exact zc_2l B h (fun x y _ _ => ⟨rfl, (zl_ze (zlorl x y)).symm, ze_ok (zlorl x y)⟩) (fun K w => rfl)
  | lcmp => exact zc_lcm B h (fun K w => rfl)
  | dup => exact zc_dup B h (fun K w => rfl)
  | dup2 => exact zc_dup2 B h (fun K w => rfl)
  | pop => exact zc_pop B h (fun K w => rfl)
  | if_icmp z z2 => exact zc_icm B h (fun K w => rfl)
  | ifCond z z2 => exact zc_ifc B h (fun K w => rfl)
  | goto z => exact zc_goto B h (fun K w => rfl)
  | tableswitch z z2 z3 z4 => exact zc_sw B h (fun K w => rfl)
  | getfield z => exact zc_gf B h (fun K w => rfl)
  | putfield z => exact zc_pf B h (fun K w => rfl)
  | iaload => exact zc_al B (Or.inl rfl) h (fun K w => rfl)
  | baload => exact zc_al B (Or.inr (Or.inl rfl)) h (fun K w => rfl)
  | laload => exact zc_al B (Or.inr (Or.inr (Or.inl rfl))) h (fun K w => rfl)
  | aaload => exact zc_al B (Or.inr (Or.inr (Or.inr rfl))) h (fun K w => rfl)
  | iastore => exact zc_as B h (fun K w => rfl)
  | bastore => exact zc_as B h (fun K w => rfl)
  | lastore => exact zc_as B h (fun K w => rfl)
  | arraylength => exact zc_len B h hlen (fun K w => rfl)
  | invokevirtual z =>
    obtain ⟨ci, h1, h2⟩ := zat_ok (show zat t 0 _ from h)
    refine zc_inv1 B h2 (fun K w ex => ?_)
    show rx_at t 0 _ = _
    rw [zat_eq _ h1]
  | invokestatic z =>
    cases k0 : Nat.beq k 4 with
    | true =>
      have h : cond (Nat.beq k 4) (zcpy Sh (zGd l d X D G Sh Y cd Rt) rest L S st) (zinv Sh (zOk l d X D G Sh mi) (zGd l d X D G Sh Y cd Rt) rest a b 0 0 L S st) := h
      rw [k0] at h
      refine zc_cpy B h (fun K w => ?_)
      show cond (Nat.beq k 4) _ _ = _
      rw [k0]
      rfl
    | false =>
      have h : cond (Nat.beq k 4) (zcpy Sh (zGd l d X D G Sh Y cd Rt) rest L S st) (zinv Sh (zOk l d X D G Sh mi) (zGd l d X D G Sh Y cd Rt) rest a b 0 0 L S st) := h
      rw [k0] at h
      refine zc_inv0 B h (fun K w ex => ?_)
      show cond (Nat.beq k 4) _ _ = _
      rw [k0]
      rfl
  | return_ => exact zc_ret B hrk (rx_d1_ok hok).1 h
  | ireturn => exact zc_reti B hrk (rx_d1_ok hok).1 h
  | lreturn => exact zc_retl B hrk (rx_d1_ok hok).1 h
  | _ => exact absurd h id
end ZCL
/-- only what stands in the code is asked for -/
def zsf (cd : List rx_E) (K : zG) : Prop := ∀ (cs : List rx_E) (L : zL) (S : List zV) (st : zS), cs ≠ [] → ((∃ pre, cd = pre ++ cs) → K cs L S st) → K cs L S st
theorem zGd_sf (l : Launch) (d : Nat) (X : rx_X) (D : va_G) (G : rx_G) (Sh : List zC) (Y : rx_Y) (cd : List rx_E) (Rt : zQ) : zsf cd (zGd l d X D G Sh Y cd Rt) := fun _ _ _ _ hne h => ⟨hne, fun hp => (h hp).2 hp⟩
noncomputable def zargs (as : List zV) : Nat → zL := List.rec (fun _ => []) (fun v _ ih i => (i, v) :: ih (i + zcat v)) as
theorem zargs_m (as : List zV) : ∀ i, zLm (zargs as i) = rx_args (zSm as) i := by
  induction as with
  | nil => intro i; rfl
  | cons v t ih =>
    intro i
    show (i, zv v) :: zLm (zargs t (i + zcat v)) = (i, zv v) :: rx_args (zSm t) (i + rx_cat (zv v))
    rw [ih, zcat_v]
theorem zargs_mem (as : List zV) : ∀ i, ∀ q ∈ zargs as i, q.2 ∈ as := by
  induction as with
  | nil => intro i q hq; cases hq
  | cons v t ih =>
    intro i q hq
    rcases List.mem_cons.mp (show q ∈ (i, v) :: zargs t (i + zcat v) from hq) with e | e
    · rw [e]; exact List.mem_cons_self
    · exact List.mem_cons_of_mem _ (ih _ q e)
set_option maxHeartbeats 1000000 in
theorem z_enter {l : Launch} {d : Nat} {X : rx_X} {D : va_G} {G : rx_G} {Sh : List zC} {mi : List rx_Y} {nu : Nat} {as : List zV} {st : zS} {Q : zQ} {x : List rx_E × Nat × Nat × Nat × Nat} {Y : rx_Y} (hG : rx_Gok G) (hF : rx_fok X G.1) (hlen : ∀ (c t n : Nat), Sh[c]? = some (.inr (t, n)) → n < 2147483648) (hY : mi[nu]? = some Y) (hT : rx_tOk mi x Y) (hc : zcats as ≤ x.2.1)
    (h : (∀ v ∈ as, zok v) → zsk Sh st → ∀ K : zG, zcl Sh x.1 x.2.1 x.2.2.2.2 (zOk l d X D G Sh mi) Q K → zsf x.1 K → K x.1 (zargs as 0) [] st) : zOk l (d + 1) X D G Sh mi nu as st Q := by
  intro has hst
  obtain ⟨hmx, hrk, hcode, hpl, hokA, hsq, en, rest, hcd, hpc0⟩ := hT
  obtain ⟨hne, hk⟩ := h has hst (zGd l d X D G Sh Y x.1 Q) (z_close hG hokA hmx hsq hrk hlen) (zGd_sf l d X D G Sh Y x.1 Q)
  obtain ⟨r, st', hQ, ⟨hr, hst'⟩, hrun⟩ := hk ⟨[], rfl⟩ hst (fun q hq => has _ (zargs_mem as 0 q hq)) (fun v hv => by cases hv)
  refine ⟨r, st', hQ, ⟨hr, hst'⟩, Y, hY, hcode, fun w hw => ?_⟩
  obtain ⟨w', hw', hW⟩ := hrun w hw
  refine ⟨w', hw', ?_⟩
  unfold rx_Met
  refine rx_ofW (cc := Y.2.1) (maxL := Y.2.2.1) (ret := Y.2.2.2) hpl rfl ?_
  intro p e s m args below meth c s₁ B hml hv
  obtain ⟨rfl, hP, hz, hU⟩ := hv
  have hts0 := atoms_spec (ws := Cond.code Y.1 Y.2.1 Y.2.2.1 Y.2.2.2 :: rx_words) B.pre
  have C : rx_Cx p s m ((zSm as).map (rx_d X)).toArray c X D G Y.1.cls Y.2.1 Y.2.2.1 := ⟨B.exec, B.bytes, hml, findClass_of_methodNamed B.named, fun w hw => hts0 w (List.mem_cons_of_mem _ hw), hU, hF⟩
  have hnm : meth.name = Y.1.name := (name_of_methodNamed B.named B.method).1
  have hret := B.returns
  have hlocks := B.notSynchronized
  have hlv := lv_entry ((zSm as).map (rx_d X)) (n := Y.2.2.1) (by rw [rx_sl_len, hmx, zcats_v]; exact hc)
  rw [lg_entry_eq]
  rw [rx_args_lv] at hlv
  generalize ((lg_sl ((zSm as).map (rx_d X)) ++ List.replicate (Y.2.2.1 - (lg_sl ((zSm as).map (rx_d X))).length) Slot.unset).toArray) = ls at hlv ⊢
  have hI : rx_Iv X D G s w 0 s.heap [] := ⟨hP, fun q => by rw [Nat.add_zero]; exact hz q, va_S.rf⟩
  have hgo := hW p e s m ((zSm as).map (rx_d X)).toArray below meth c C hnm hret hlocks
  have hp0 : zpc x.1 = 0 := by rw [hcd]; exact hpc0
  rw [hp0, zargs_m] at hgo
  exact hgo s.heap [] ls hI hlv
end
section
/-! AN INTERVAL EXECUTOR over the second layer. A number: a constant, or a symbol plus a constant; each symbol has bounds. The store: what is known of single fields and of whole arrays, over an invariant of bounds -/
abbrev aI : Type := Option Nat × Int
abbrev aV : Type := aI ⊕ (aI ⊕ Nat)
abbrev aB : Type := Int × Int
abbrev aF : Type := List aB
abbrev aL : Type := List (Nat × aV)
abbrev aO : Type := List ((Nat × Nat) × aI)
abbrev aA : Type := List (Nat × aB)
/-- for each cell the bounds of each slot (one of some), or the bounds of all slots -/
abbrev aG : Type := List (List (List aB) ⊕ aB)
/-- what may be written: fields, arrays -/
abbrev aM : Type := List (Nat × Nat) × List Nat
abbrev aK : Type := List rx_E → aL → List aV → aF → aO → aA → Bool
abbrev aE : Type := Option aV → aF → aO → aA → Bool
def ile (a b : Int) : Bool := match b - a with
  | .ofNat _ => true
  | .negSucc _ => false
theorem ile_ok {a b : Int} (h : ile a b = true) : a ≤ b := by
  unfold ile at h
  split at h
  · rename_i n e
    have : (0 : Int) ≤ b - a := by rw [e]; exact Int.natCast_nonneg n
    omega
  · cases h
theorem ile_no {a b : Int} (h : ile a b = false) : b < a := by
  unfold ile at h
  split at h
  · cases h
  · rename_i n e
    have : b - a < 0 := by rw [e]; exact Int.negSucc_lt_zero n
    omega
def ieq (a b : Int) : Bool := ile a b && ile b a
theorem ieq_ok {a b : Int} (h : ieq a b = true) : a = b := by
  obtain ⟨h1, h2⟩ := rx_an h
  have := ile_ok h1
  have := ile_ok h2
  omega
def imin (a b : Int) : Int := cond (ile a b) a b
def imax (a b : Int) : Int := cond (ile a b) b a
theorem imin_le (a b : Int) : imin a b ≤ a ∧ imin a b ≤ b := by
  unfold imin
  cases h : ile a b with
  | true => have := ile_ok h; simp only [cond_true]; omega
  | false => have := ile_no h; simp only [cond_false]; omega
theorem le_imax (a b : Int) : a ≤ imax a b ∧ b ≤ imax a b := by
  unfold imax
  cases h : ile a b with
  | true => have := ile_ok h; simp only [cond_true]; omega
  | false => have := ile_no h; simp only [cond_false]; omega
theorem le_imin {a b c : Int} (h1 : c ≤ a) (h2 : c ≤ b) : c ≤ imin a b := by
  unfold imin
  cases ile a b
  · exact h2
  · exact h1
theorem imax_le {a b c : Int} (h1 : a ≤ c) (h2 : b ≤ c) : imax a b ≤ c := by
  unfold imax
  cases ile a b
  · exact h1
  · exact h2
noncomputable def afn (F : aF) : Nat → aB := List.rec (fun _ => (0, 0)) (fun q _ ih n => Nat.rec q (fun m _ => ih m) n) F
noncomputable def afs (F : aF) : Nat → aB → aF := List.rec (fun _ _ => []) (fun q t ih n v => Nat.rec (v :: t) (fun m _ => q :: ih m v) n) F
noncomputable def afe (F : aF) (v : aB) : aF := List.rec [v] (fun q _ ih => q :: ih) F
noncomputable def afl (F : aF) : Nat := List.rec 0 (fun _ _ ih => Nat.succ ih) F
noncomputable def arg (F : aF) (v : aI) : aB := match v.1 with
  | none => (v.2, v.2)
  | some k => ((afn F k).1 + v.2, (afn F k).2 + v.2)
/-- v lies in lo .. hi -/
noncomputable def aref (F : aF) (v : aI) (lo hi : Int) (k : aF → Bool) : Bool := match v.1 with
  | none => cond (ile lo v.2 && ile v.2 hi) (k F) true
  | some s => cond (ile (imax ((afn F s).1 + v.2) lo) (imin ((afn F s).2 + v.2) hi)) (k (afs F s (imax ((afn F s).1 + v.2) lo - v.2, imin ((afn F s).2 + v.2) hi - v.2))) true
noncomputable def afr (F : aF) (q : aB) (k : aF → aI → Bool) : Bool := cond (ieq q.1 q.2) (k F (none, q.1)) (k (afe F q) (some (afl F), 0))
noncomputable def alt (F : aF) (a b : aI) (k : aF → Bool) : Bool := aref F a (arg F a).1 ((arg F b).2 - 1) (fun F1 => aref F1 b ((arg F a).1 + 1) (arg F b).2 k)
noncomputable def ale (F : aF) (a b : aI) (k : aF → Bool) : Bool := aref F a (arg F a).1 (arg F b).2 (fun F1 => aref F1 b (arg F a).1 (arg F b).2 k)
noncomputable def aeq (F : aF) (a b : aI) (k : aF → Bool) : Bool := aref F a (arg F b).1 (arg F b).2 (fun F1 => aref F1 b (arg F a).1 (arg F a).2 k)
/-- a is not the number c -/
noncomputable def anc (F : aF) (a : aI) (c : Int) (k : aF → Bool) : Bool := aref F a (arg F a).1 (c - 1) k && aref F a (c + 1) (arg F a).2 k
noncomputable def ane (F : aF) (a b : aI) (k : aF → Bool) : Bool := cond (ieq (arg F b).1 (arg F b).2) (cond (ile (arg F a).1 (arg F b).1 && ile (arg F b).1 (arg F a).2) (anc F a (arg F b).1 k) (k F)) (cond (ieq (arg F a).1 (arg F a).2) (cond (ile (arg F b).1 (arg F a).1 && ile (arg F a).1 (arg F b).2) (anc F b (arg F a).1 k) (k F)) (k F))
noncomputable def acm (c : Jvm.ClassFile.Cond) (F : aF) (a b : aI) (k : aF → Bool) : Bool := match c with
  | .lt => alt F a b k
  | .ge => ale F b a k
  | .gt => alt F b a k
  | .le => ale F a b k
  | .eq => aeq F a b k
  | .ne => ane F a b k
def acn (c : Jvm.ClassFile.Cond) : Jvm.ClassFile.Cond := match c with
  | .lt => .ge
  | .ge => .lt
  | .gt => .le
  | .le => .gt
  | .eq => .ne
  | .ne => .eq
def afI : aB := (-2147483648, 2147483647)
def afJ : aB := (-9223372036854775808, 9223372036854775807)
def ain (f q : aB) : Bool := ile f.1 q.1 && ile q.2 f.2
def aon (a b : Option Nat) : Bool := match a, b with
  | none, none => true
  | some x, some y => Nat.beq x y
  | _, _ => false
noncomputable def aad (f : aB) (F : aF) (a b : aI) (k : aF → aI → Bool) : Bool := cond (ain f ((arg F a).1 + (arg F b).1, (arg F a).2 + (arg F b).2)) (match a.1, b.1 with
  | none, _ => k F (b.1, a.2 + b.2)
  | some _, none => k F (a.1, a.2 + b.2)
  | some _, some _ => afr F ((arg F a).1 + (arg F b).1, (arg F a).2 + (arg F b).2) k) (afr F f k)
noncomputable def asb (f : aB) (F : aF) (a b : aI) (k : aF → aI → Bool) : Bool := cond (aon a.1 b.1) (cond (ain f (a.2 - b.2, a.2 - b.2)) (k F (none, a.2 - b.2)) (afr F f k)) (cond (ain f ((arg F a).1 - (arg F b).2, (arg F a).2 - (arg F b).1)) (match b.1 with
  | none => k F (a.1, a.2 - b.2)
  | some _ => afr F ((arg F a).1 - (arg F b).2, (arg F a).2 - (arg F b).1) k) (afr F f k))
def amn (a b c d : Int) : Int := imin (imin a b) (imin c d)
def amx (a b c d : Int) : Int := imax (imax a b) (imax c d)
noncomputable def aml (f : aB) (F : aF) (a b : aI) (k : aF → aI → Bool) : Bool :=
  cond (ain f (amn ((arg F a).1 * (arg F b).1) ((arg F a).1 * (arg F b).2) ((arg F a).2 * (arg F b).1) ((arg F a).2 * (arg F b).2), amx ((arg F a).1 * (arg F b).1) ((arg F a).1 * (arg F b).2) ((arg F a).2 * (arg F b).1) ((arg F a).2 * (arg F b).2)))
    (afr F (amn ((arg F a).1 * (arg F b).1) ((arg F a).1 * (arg F b).2) ((arg F a).2 * (arg F b).1) ((arg F a).2 * (arg F b).2), amx ((arg F a).1 * (arg F b).1) ((arg F a).1 * (arg F b).2) ((arg F a).2 * (arg F b).1) ((arg F a).2 * (arg F b).2)) k) (afr F f k)
/-- a divisor is not 0 -/
noncomputable def anz (F : aF) (b : aI) : Bool := ile 1 (arg F b).1 || ile (arg F b).2 (-1)
noncomputable def arm (f : aB) (F : aF) (a b : aI) (k : aF → aI → Bool) : Bool := cond (ile 1 (arg F b).1) (cond (ile 0 (arg F a).1) (afr F (0, imin (arg F a).2 ((arg F b).2 - 1)) k) (afr F (- ((arg F b).2 - 1), (arg F b).2 - 1) k)) (afr F f k)
/-- both are not below 0: an and is at most each -/
noncomputable def aan (f : aB) (F : aF) (a b : aI) (k : aF → aI → Bool) : Bool := cond (ile 0 (arg F b).1 && ile (arg F b).2 2147483647) (afr F (0, (arg F b).2) k) (afr F f k)
noncomputable def aget (L : aL) (i : Nat) (k : aV → Bool) : Bool := List.rec false (fun q _ ih => cond (Nat.beq q.1 i) (k q.2) ih) L
def acat (v : aV) : Nat := match v with
  | .inr (.inl _) => 2
  | _ => 1
noncomputable def acats (S : List aV) : Nat := List.rec 0 (fun v _ ih => Nat.add (acat v) ih) S
def aP1 (a : Nat) (q : Nat × aV) : Bool := !Nat.beq q.1 a
def aP2 (a : Nat) (q : Nat × aV) : Bool := !(Nat.beq q.1 a || Nat.beq q.1 (Nat.succ a))
/-- no long begins one ahead of a -/
noncomputable def anl (L : aL) (a : Nat) : Bool := List.rec true (fun q _ ih => cond (Nat.beq (Nat.succ q.1) a) (Nat.beq (acat q.2) 1) ih) L
noncomputable def afil {α : Type} (P : α → Bool) (L : List α) : List α := List.rec [] (fun q _ ih => cond (P q) (q :: ih) ih) L
noncomputable def aall {α : Type} (P : α → Bool) (L : List α) : Bool := List.rec true (fun q _ ih => cond (P q) ih false) L
noncomputable def atake : Nat → List aV → List aV → (List aV → List aV → Bool) → Bool := fun n => Nat.rec (fun S acc k => k acc S) (fun _ ih S acc k => List.rec false (fun v t _ => ih t (v :: acc) k) S) n
noncomputable def aat {α : Type} (l : List α) : Nat → (α → Bool) → Bool := List.rec (fun _ _ => false) (fun a _ ih n k => Nat.rec (k a) (fun m _ => ih m k) n) l
noncomputable def aolk (O : aO) (c f : Nat) (k : aI → Bool) (d : Bool) : Bool := List.rec d (fun q _ ih => cond (Nat.beq q.1.1 c && Nat.beq q.1.2 f) (k q.2) ih) O
noncomputable def aalk (A : aA) (c : Nat) (k : aB → Bool) (d : Bool) : Bool := List.rec d (fun q _ ih => cond (Nat.beq q.1 c) (k q.2) ih) A
/-- the invariant's bounds of a slot -/
noncomputable def agb (gt : aG) (c i : Nat) (k : List aB → Bool) : Bool := aat gt c (fun x => match x with
  | .inl l => aat l i k
  | .inr _ => false)
noncomputable def aos (O : aO) (c f : Nat) (v : aI) : aO := ((c, f), v) :: afil (fun q => !(Nat.beq q.1.1 c && Nat.beq q.1.2 f)) O
noncomputable def aas0 (A : aA) (c : Nat) (b : aB) : aA := (c, b) :: afil (fun q => !Nat.beq q.1 c) A
/-- a slot of kind k, read as a value -/
def akd (k : Nat) (v : aI) (g : aV → Bool) : Bool := cond (Nat.beq k 3) (g (.inr (.inl v))) (cond (Nat.beq k 4) (match v.1 with
  | none => cond (ile 0 v.2) (g (.inr (.inr v.2.toNat))) false
  | some _ => false) (g (.inl v)))
/-- a field is read: known, or anything within the invariant -/
noncomputable def ard (gt : aG) (c f k : Nat) (F : aF) (O : aO) (g : aV → aF → aO → Bool) : Bool := aolk O c f (fun v => akd k v (fun u => g u F O)) (agb gt c f (fun bs => aall (fun q => afr F q (fun F1 v => akd k v (fun u => g u F1 (((c, f), v) :: O)))) bs))
noncomputable def amf (m : aM) (c f : Nat) : Bool := List.rec false (fun q _ ih => cond (Nat.beq q.1 c && Nat.beq q.2 f) true ih) m.1
noncomputable def ama (m : aM) (c : Nat) : Bool := List.rec false (fun q _ ih => cond (Nat.beq q c) true ih) m.2
/-- what is known lies in the invariant -/
noncomputable def aokO (gt : aG) (F : aF) (O : aO) : Bool := aall (fun q => agb gt q.1.1 q.1.2 (fun bs => List.rec false (fun b _ ih => cond (ain b (arg F q.2)) true ih) bs)) O
noncomputable def aokA (gt : aG) (A : aA) : Bool := aall (fun q => aat gt q.1 (fun x => match x with
  | .inl _ => false
  | .inr b => ain b q.2)) A
end
section
/-! a step of the interval executor; calls by summaries; segments -/
abbrev aC : Type := Nat → List aV → aF → aO → aA → aE → Bool
noncomputable def acst (K : aK) (rest : List rx_E) (a : Nat) (L : aL) (S : List aV) (F : aF) (O : aO) (A : aA) : Bool := cond (Nat.blt a 4294967296) (K rest L (.inl (none, zd a) :: S) F O A) false
noncomputable def alst (K : aK) (rest : List rx_E) (a : Nat) (L : aL) (S : List aV) (F : aF) (O : aO) (A : aA) : Bool := cond (Nat.blt a 18446744073709551616) (K rest L (.inr (.inl (none, ze a)) :: S) F O A) false
noncomputable def aldI (K : aK) (rest : List rx_E) (a : Nat) (L : aL) (S : List aV) (F : aF) (O : aO) (A : aA) : Bool := aget L a (fun v => match v with
  | .inl _ => K rest L (v :: S) F O A
  | _ => false)
noncomputable def aldL (K : aK) (rest : List rx_E) (a : Nat) (L : aL) (S : List aV) (F : aF) (O : aO) (A : aA) : Bool := aget L a (fun v => match v with
  | .inr (.inl _) => K rest L (v :: S) F O A
  | _ => false)
noncomputable def aldA (K : aK) (rest : List rx_E) (a : Nat) (L : aL) (S : List aV) (F : aF) (O : aO) (A : aA) : Bool := aget L a (fun v => match v with
  | .inr (.inr _) => K rest L (v :: S) F O A
  | _ => false)
noncomputable def astI (nL : Nat) (K : aK) (rest : List rx_E) (a : Nat) (L : aL) (S : List aV) (F : aF) (O : aO) (A : aA) : Bool := match S with
  | .inl x :: S' => cond (Nat.blt a nL && anl L a) (K rest ((a, .inl x) :: afil (aP1 a) L) S' F O A) false
  | _ => false
noncomputable def astL (nL : Nat) (K : aK) (rest : List rx_E) (a : Nat) (L : aL) (S : List aV) (F : aF) (O : aO) (A : aA) : Bool := match S with
  | .inr (.inl x) :: S' => cond (Nat.blt (Nat.succ a) nL && anl L a) (K rest ((a, .inr (.inl x)) :: afil (aP2 a) L) S' F O A) false
  | _ => false
noncomputable def astA (nL : Nat) (K : aK) (rest : List rx_E) (a : Nat) (L : aL) (S : List aV) (F : aF) (O : aO) (A : aA) : Bool := match S with
  | .inr (.inr x) :: S' => cond (Nat.blt a nL && anl L a) (K rest ((a, .inr (.inr x)) :: afil (aP1 a) L) S' F O A) false
  | _ => false
noncomputable def ainc (nL : Nat) (K : aK) (rest : List rx_E) (a b : Nat) (L : aL) (S : List aV) (F : aF) (O : aO) (A : aA) : Bool := aget L a (fun v => match v with
  | .inl x => cond (Nat.blt a nL && (Nat.blt b 4294967296 && anl L a)) (aad afI F x (none, zd b) (fun F1 y => K rest ((a, .inl y) :: afil (aP1 a) L) S F1 O A)) false
  | _ => false)
noncomputable def a2 (f : aF → aI → aI → (aF → aI → Bool) → Bool) (K : aK) (rest : List rx_E) (L : aL) (S : List aV) (F : aF) (O : aO) (A : aA) : Bool := match S with
  | .inl y :: .inl x :: S' => f F x y (fun F1 v => K rest L (.inl v :: S') F1 O A)
  | _ => false
noncomputable def a2l (f : aF → aI → aI → (aF → aI → Bool) → Bool) (K : aK) (rest : List rx_E) (L : aL) (S : List aV) (F : aF) (O : aO) (A : aA) : Bool := match S with
  | .inr (.inl y) :: .inr (.inl x) :: S' => f F x y (fun F1 v => K rest L (.inr (.inl v) :: S') F1 O A)
  | _ => false
noncomputable def aany (f : aB) (F : aF) (_ _ : aI) (k : aF → aI → Bool) : Bool := afr F f k
noncomputable def adiv (f : aB) (F : aF) (_ b : aI) (k : aF → aI → Bool) : Bool := cond (anz F b) (afr F f k) false
noncomputable def arem (f : aB) (F : aF) (a b : aI) (k : aF → aI → Bool) : Bool := cond (anz F b && ain f (arg F b)) (arm f F a b k) false
noncomputable def ashr (f : aB) (F : aF) (a _ : aI) (k : aF → aI → Bool) : Bool := cond (ain f (arg F a)) (afr F f k) false
noncomputable def alcm (K : aK) (rest : List rx_E) (L : aL) (S : List aV) (F : aF) (O : aO) (A : aA) : Bool := match S with
  | .inr (.inl y) :: .inr (.inl x) :: S' => cond (alt F x y (fun F1 => K rest L (.inl (none, -1) :: S') F1 O A)) (cond (aeq F x y (fun F1 => K rest L (.inl (none, 0) :: S') F1 O A)) (alt F y x (fun F1 => K rest L (.inl (none, 1) :: S') F1 O A)) false) false
  | _ => false
noncomputable def ai2l (K : aK) (rest : List rx_E) (L : aL) (S : List aV) (F : aF) (O : aO) (A : aA) : Bool := match S with
  | .inl x :: S' => K rest L (.inr (.inl x) :: S') F O A
  | _ => false
noncomputable def al2i (K : aK) (rest : List rx_E) (L : aL) (S : List aV) (F : aF) (O : aO) (A : aA) : Bool := match S with
  | .inr (.inl x) :: S' => cond (ain afI (arg F x)) (K rest L (.inl x :: S') F O A) (afr F afI (fun F1 v => K rest L (.inl v :: S') F1 O A))
  | _ => false
noncomputable def ai2b (K : aK) (rest : List rx_E) (L : aL) (S : List aV) (F : aF) (O : aO) (A : aA) : Bool := match S with
  | .inl _ :: S' => afr F (-128, 127) (fun F1 v => K rest L (.inl v :: S') F1 O A)
  | _ => false
noncomputable def adup (K : aK) (rest : List rx_E) (L : aL) (S : List aV) (F : aF) (O : aO) (A : aA) : Bool := match S with
  | v :: S' => cond (Nat.beq (acat v) 1) (K rest L (v :: v :: S') F O A) false
  | _ => false
noncomputable def adup2 (K : aK) (rest : List rx_E) (L : aL) (S : List aV) (F : aF) (O : aO) (A : aA) : Bool := match S with
  | v :: u :: S' => cond (Nat.beq (acat v) 1 && Nat.beq (acat u) 1) (K rest L (v :: u :: v :: u :: S') F O A) false
  | _ => false
noncomputable def apop (K : aK) (rest : List rx_E) (L : aL) (S : List aV) (F : aF) (O : aO) (A : aA) : Bool := match S with
  | v :: S' => cond (Nat.beq (acat v) 1) (K rest L S' F O A) false
  | _ => false
noncomputable def aicm (c : Jvm.ClassFile.Cond) (K : aK) (tgt rest : List rx_E) (L : aL) (S : List aV) (F : aF) (O : aO) (A : aA) : Bool := match S with
  | .inl y :: .inl x :: S' => cond (acm c F x y (fun F1 => K tgt L S' F1 O A)) (acm (acn c) F x y (fun F1 => K rest L S' F1 O A)) false
  | _ => false
noncomputable def aifc (c : Jvm.ClassFile.Cond) (K : aK) (tgt rest : List rx_E) (L : aL) (S : List aV) (F : aF) (O : aO) (A : aA) : Bool := match S with
  | .inl x :: S' => cond (acm c F x (none, 0) (fun F1 => K tgt L S' F1 O A)) (acm (acn c) F x (none, 0) (fun F1 => K rest L S' F1 O A)) false
  | _ => false
noncomputable def asws (P : Nat → aF → Bool) (F : aF) (x : aI) (t : List Nat) : Int → Bool := List.rec (fun _ => true) (fun g _ ih n => cond (aref F x n n (P g)) (ih (n + 1)) false) t
noncomputable def asw (cd : List rx_E) (K : aK) (a b c : Nat) (t : List Nat) (L : aL) (S : List aV) (F : aF) (O : aO) (A : aA) : Bool := match S with
  | .inl x :: S' => cond (Nat.beq (b + t.length) (c + 1)) (cond (aref F x (arg F x).1 ((b : Int) - 2147483648 - 1) (fun F1 => K (rx_find cd a) L S' F1 O A)) (cond (aref F x ((c : Int) - 2147483648 + 1) (arg F x).2 (fun F1 => K (rx_find cd a) L S' F1 O A)) (asws (fun g F1 => K (rx_find cd g) L S' F1 O A) F x t ((b : Int) - 2147483648)) false) false) false
  | _ => false
noncomputable def agf (Sh : List zC) (gt : aG) (K : aK) (rest : List rx_E) (a b c : Nat) (L : aL) (S : List aV) (F : aF) (O : aO) (A : aA) : Bool := match S with
  | .inr (.inr o) :: S' => cond (Nat.ble c 1) (aat Sh o (fun s => match s with
    | .inl q => cond (Nat.beq q.1 a) (aat q.2 b (fun k => cond (Nat.ble 10 k) (K rest L (.inr (.inr (k - 10)) :: S') F O A) (ard gt o b k F O (fun v F1 O1 => K rest L (v :: S') F1 O1 A)))) false
    | .inr _ => false)) false
  | _ => false
noncomputable def apf (Sh : List zC) (gt : aG) (m : aM) (K : aK) (rest : List rx_E) (a b c : Nat) (L : aL) (S : List aV) (F : aF) (O : aO) (A : aA) : Bool := match S with
  | v :: .inr (.inr o) :: S' => aat Sh o (fun s => match s with
    | .inl q => cond (Nat.beq q.1 a && amf m o b) (agb gt o b (fun _ => aat q.2 b (fun k => cond (Nat.beq k c) (match v with
      | .inl z => cond (Nat.beq k 0 || (Nat.beq k 2 && ain (0, 1) (arg F z))) (K rest L S' F (aos O o b z) A) false
      | .inr (.inl z) => cond (Nat.beq k 3) (K rest L S' F (aos O o b z) A) false
      | .inr (.inr r) => cond (Nat.beq k 4) (K rest L S' F (aos O o b (none, (r : Int))) A) false) false))) false
    | .inr _ => false)
  | _ => false
/-- an array's bounds now -/
noncomputable def aab (gt : aG) (A : aA) (o : Nat) (k : aB → Bool) : Bool := aalk A o k (aat gt o (fun x => match x with
  | .inl _ => false
  | .inr b => k b))
/-- each number that an index may be -/
noncomputable def aspl (F : aF) (v : aI) (lo : Int) (k : aF → Int → Bool) : Nat → Bool := fun n => Nat.rec true (fun i ih => cond (aref F v (lo + (i : Int)) (lo + (i : Int)) (fun F1 => k F1 (lo + (i : Int)))) ih false) n
noncomputable def aal (Sh : List zC) (gt : aG) (q : Nat) (K : aK) (rest : List rx_E) (L : aL) (S : List aV) (F : aF) (O : aO) (A : aA) : Bool := match S with
  | .inl j :: .inr (.inr o) :: S' => aat Sh o (fun s => match s with
    | .inr p => cond (Nat.beq p.1 q || (Nat.beq q 1 && Nat.beq p.1 2)) (cond (ain (0, (p.2 : Int) - 1) (arg F j)) (cond (Nat.beq q 4) (aspl F j (arg F j).1 (fun F1 i => aolk O o i.toNat (fun _ => false) (agb gt o i.toNat (fun bs => aall (fun b => cond (ieq b.1 b.2 && ile 0 b.1) (K rest L (.inr (.inr b.1.toNat) :: S') F1 O A) false) bs))) ((arg F j).2 - (arg F j).1 + 1).toNat)
      (aab gt A o (fun b => afr F b (fun F1 v => K rest L (cond (Nat.beq q 3) (.inr (.inl v)) (.inl v) :: S') F1 O A)))) false) false
    | .inl _ => false)
  | _ => false
noncomputable def aas (Sh : List zC) (gt : aG) (m : aM) (q : Nat) (K : aK) (rest : List rx_E) (L : aL) (S : List aV) (F : aF) (O : aO) (A : aA) : Bool := match S with
  | v :: .inl j :: .inr (.inr o) :: S' => aat Sh o (fun s => match s with
    | .inr p => cond ((Nat.beq p.1 q || (Nat.beq q 1 && Nat.beq p.1 2)) && (ain (0, (p.2 : Int) - 1) (arg F j) && ama m o)) (match v with
      | .inl z => aab gt A o (fun b => cond (Nat.beq p.1 0) (K rest L S' F O (aas0 A o (imin b.1 (arg F z).1, imax b.2 (arg F z).2))) (cond (Nat.beq p.1 1) (K rest L S' F O (aas0 A o (imin b.1 (-128), imax b.2 127))) (cond (Nat.beq p.1 2 && ain (0, 1) (arg F z)) (K rest L S' F O (aas0 A o (imin b.1 0, imax b.2 1))) false)))
      | .inr (.inl z) => cond (Nat.beq p.1 3) (aab gt A o (fun b => K rest L S' F O (aas0 A o (imin b.1 (arg F z).1, imax b.2 (arg F z).2)))) false
      | _ => false) false
    | .inl _ => false)
  | _ => false
noncomputable def alen (Sh : List zC) (K : aK) (rest : List rx_E) (L : aL) (S : List aV) (F : aF) (O : aO) (A : aA) : Bool := match S with
  | .inr (.inr o) :: S' => aat Sh o (fun s => match s with
    | .inr p => K rest L (.inl (none, (p.2 : Int)) :: S') F O A
    | .inl _ => false)
  | _ => false
noncomputable def acpy (Sh : List zC) (gt : aG) (m : aM) (K : aK) (rest : List rx_E) (L : aL) (S : List aV) (F : aF) (O : aO) (A : aA) : Bool := match S with
  | .inl n :: .inl dp :: .inr (.inr c1) :: .inl sp :: .inr (.inr c0) :: S' => cond (Nat.ble (acats S') 8 && ama m c1) (aat Sh c0 (fun s => match s with
    | .inr p => aat Sh c1 (fun s' => match s' with
      | .inr p' => cond ((Nat.beq p.1 0 && Nat.beq p'.1 0) && ((ile 0 (arg F n).1 && (ile 0 (arg F dp).1 && ile 0 (arg F sp).1)) && (ile ((arg F sp).2 + (arg F n).2) (p.2 : Int) && ile ((arg F dp).2 + (arg F n).2) (p'.2 : Int)))) (aab gt A c0 (fun b0 => aab gt A c1 (fun b1 => K rest L S' F O (aas0 A c1 (imin b0.1 b1.1, imax b0.2 b1.2))))) false
      | .inl _ => false)
    | .inl _ => false)) false
  | _ => false
def apush (r : Option aV) (S : List aV) : List aV := match r with
  | some v => v :: S
  | none => S
noncomputable def ainv (Sh : List zC) (ic : aC) (K : aK) (rest : List rx_E) (nu n q a : Nat) (L : aL) (S : List aV) (F : aF) (O : aO) (A : aA) : Bool :=
  atake n S [] (fun as S' => cond (Nat.ble (acats S') 8) (cond (Nat.beq q 0) (ic nu as F O A (fun r F1 O1 A1 => K rest L (apush r S') F1 O1 A1)) (cond (Nat.beq q 1) (match as with
    | .inr (.inr o) :: _ => aat Sh o (fun s => match s with
      | .inl p => cond (Nat.beq p.1 a) (ic nu as F O A (fun r F1 O1 A1 => K rest L (apush r S') F1 O1 A1)) false
      | .inr _ => false)
    | _ => false) false)) false)
noncomputable def aret (q : Nat) (kc : aE) (S : List aV) (F : aF) (O : aO) (A : aA) : Bool := cond (Nat.beq q 0) (match S with
  | [] => kc none F O A
  | _ => false) false
noncomputable def areti (q : Nat) (kc : aE) (S : List aV) (F : aF) (O : aO) (A : aA) : Bool := match S with
  | [.inl z] => cond (Nat.beq q 1 || (Nat.beq q 2 && ain (0, 1) (arg F z))) (kc (some (.inl z)) F O A) false
  | _ => false
noncomputable def aretl (q : Nat) (kc : aE) (S : List aV) (F : aF) (O : aO) (A : aA) : Bool := match S with
  | [.inr (.inl z)] => cond (Nat.beq q 5) (kc (some (.inr (.inl z))) F O A) false
  | _ => false
noncomputable def astep (Sh : List zC) (gt : aG) (m : aM) (cd : List rx_E) (nL q : Nat) (ic : aC) (kc : aE) (K : aK) (e : rx_E) (rest : List rx_E) (L : aL) (S : List aV) (F : aF) (O : aO) (A : aA) : Bool :=
  match e.2.1 with
  | .iconst _ => acst K rest e.2.2.2.1 L S F O A
  | .bipush _ => acst K rest e.2.2.2.1 L S F O A
  | .sipush _ => acst K rest e.2.2.2.1 L S F O A
  | .ldc _ => cond (Nat.beq e.2.2.2.2.1 0) (acst K rest e.2.2.2.1 L S F O A) false
  | .ldc_w _ => acst K rest e.2.2.2.1 L S F O A
  | .lconst _ => alst K rest e.2.2.2.1 L S F O A
  | .ldc2_w _ => alst K rest e.2.2.2.1 L S F O A
  | .iload _ => aldI K rest e.2.2.2.1 L S F O A
  | .iload_n _ => aldI K rest e.2.2.2.1 L S F O A
  | .lload _ => aldL K rest e.2.2.2.1 L S F O A
  | .lload_n _ => aldL K rest e.2.2.2.1 L S F O A
  | .aload _ => aldA K rest e.2.2.2.1 L S F O A
  | .aload_n _ => aldA K rest e.2.2.2.1 L S F O A
  | .istore _ => astI nL K rest e.2.2.2.1 L S F O A
  | .istore_n _ => astI nL K rest e.2.2.2.1 L S F O A
  | .lstore _ => astL nL K rest e.2.2.2.1 L S F O A
  | .lstore_n _ => astL nL K rest e.2.2.2.1 L S F O A
  | .astore _ => astA nL K rest e.2.2.2.1 L S F O A
  | .astore_n _ => astA nL K rest e.2.2.2.1 L S F O A
  | .iinc _ _ => ainc nL K rest e.2.2.2.1 e.2.2.2.2.1 L S F O A
  | .iadd => a2 (aad afI) K rest L S F O A
  | .isub => a2 (asb afI) K rest L S F O A
  | .imul => a2 (aml afI) K rest L S F O A
  | .iand => a2 (aan afI) K rest L S F O A
  | .ior => a2 (aany afI) K rest L S F O A
  | .ixor => a2 (aany afI) K rest L S F O A
  | .ishl => a2 (aany afI) K rest L S F O A
  | .iushr => a2 (aany afI) K rest L S F O A
  | .ishr => a2 (ashr afI) K rest L S F O A
  | .idiv => a2 (adiv afI) K rest L S F O A
  | .irem => a2 (arem afI) K rest L S F O A
  | .i2b => ai2b K rest L S F O A
  | .i2l => ai2l K rest L S F O A
  | .l2i => al2i K rest L S F O A
  | .ladd => a2l (aad afJ) K rest L S F O A
  | .lsub => a2l (asb afJ) K rest L S F O A
  | .lmul => a2l (aml afJ) K rest L S F O A
  | .land => a2l (aany afJ) K rest L S F O A
  | .lor => a2l (aany afJ) K rest L S F O A
  | .ldiv => a2l (adiv afJ) K rest L S F O A
  | .lrem => a2l (arem afJ) K rest L S F O A
  | .lcmp => alcm K rest L S F O A
  | .dup => adup K rest L S F O A
  | .dup2 => adup2 K rest L S F O A
  | .pop => apop K rest L S F O A
  | .if_icmp c _ => aicm c K (rx_find cd e.2.2.2.1) rest L S F O A
  | .ifCond c _ => aifc c K (rx_find cd e.2.2.2.1) rest L S F O A
  | .goto _ => K (rx_find cd e.2.2.2.1) L S F O A
  | .tableswitch _ _ _ _ => asw cd K e.2.2.2.1 e.2.2.2.2.1 e.2.2.2.2.2.1 e.2.2.2.2.2.2 L S F O A
  | .getfield _ => agf Sh gt K rest e.2.2.2.1 e.2.2.2.2.1 e.2.2.2.2.2.1 L S F O A
  | .putfield _ => apf Sh gt m K rest e.2.2.2.1 e.2.2.2.2.1 e.2.2.2.2.2.1 L S F O A
  | .iaload => aal Sh gt 0 K rest L S F O A
  | .baload => aal Sh gt 1 K rest L S F O A
  | .laload => aal Sh gt 3 K rest L S F O A
  | .aaload => aal Sh gt 4 K rest L S F O A
  | .iastore => aas Sh gt m 0 K rest L S F O A
  | .bastore => aas Sh gt m 1 K rest L S F O A
  | .lastore => aas Sh gt m 3 K rest L S F O A
  | .arraylength => alen Sh K rest L S F O A
  | .invokevirtual _ => aat e.2.2.2.2.2.2 0 (fun ci => ainv Sh ic K rest e.2.2.2.1 e.2.2.2.2.1 e.2.2.2.2.2.1 ci L S F O A)
  | .invokestatic _ => cond (Nat.beq e.2.2.2.2.2.1 4) (acpy Sh gt m K rest L S F O A) (ainv Sh ic K rest e.2.2.2.1 e.2.2.2.2.1 0 0 L S F O A)
  | .return_ => aret q kc S F O A
  | .ireturn => areti q kc S F O A
  | .lreturn => aretl q kc S F O A
  | _ => false
end
section
/-! runs of the interval executor: calls by summaries or in place, jumps to loop heads by segments -/
abbrev aT : Type := aB ⊕ (aB ⊕ Nat)
/-- a summary: bounds of the arguments; what may be written; bounds of the answer; frames: a number, less a weight times an argument (which) -/
abbrev aS : Type := List aT × aM × Option (aB ⊕ aB) × (Nat × Nat × Nat)
/-- a part of a measure: a fixed number, or a local's or a field's way to a bound (true: up) -/
abbrev aMs : Type := Nat ⊕ ((Nat ⊕ (Nat × Nat)) × Bool × Int)
/-- a segment: its head, bounds of the locals, fields that are read at once, its measure -/
abbrev aSg : Type := Nat × List (Nat × aT) × List (Nat × Nat) × List aMs
/-- by method: which argument is cut into its numbers, the summaries; none: in place -/
abbrev aIt : Type := List (Option Nat × List aS)
noncomputable def amt (F : aF) (t : aT) (v : aV) : Bool := match t, v with
  | .inl b, .inl x => ain b (arg F x)
  | .inr (.inl b), .inr (.inl x) => ain b (arg F x)
  | .inr (.inr c), .inr (.inr o) => Nat.beq c o
  | _, _ => false
noncomputable def ams (F : aF) (ts : List aT) : List aV → Bool := List.rec (fun vs => match vs with
  | [] => true
  | _ :: _ => false) (fun t _ ih vs => match vs with
  | [] => false
  | v :: vs' => cond (amt F t v) (ih vs') false) ts
noncomputable def asub (m' m : aM) : Bool := aall (fun q => amf m q.1 q.2) m'.1 && aall (fun c => ama m c) m'.2
/-- the frames that a summary needs are there -/
noncomputable def andc (rk wt : Int) (vo : aI) (j : Nat) (F : aF) (s : aS) (as : List aV) : Bool := cond (Nat.beq s.2.2.2.2.1 0) (ile ((s.2.2.2.1 : Int) + (j : Int) + 1) (rk - wt * (arg F vo).2)) (aat as s.2.2.2.2.2 (fun v => match v with
  | .inl a => cond (aon a.1 vo.1 && ieq (s.2.2.2.2.1 : Int) wt) (ile ((s.2.2.2.1 : Int) - wt * a.2 + (j : Int) + 1) (rk - wt * vo.2)) (ile ((s.2.2.2.1 : Int) - (s.2.2.2.2.1 : Int) * (arg F a).1 + (j : Int) + 1) (rk - wt * (arg F vo).2))
  | _ => false))
noncomputable def amc (m : aM) (c : Nat) : Bool := List.rec false (fun q _ ih => cond (Nat.beq q.1 c) true ih) m.1
noncomputable def aflO (m : aM) (O : aO) : aO := afil (fun q => !(amf m q.1.1 q.1.2 || ama m q.1.1)) O
noncomputable def aflA (m : aM) (A : aA) : aA := afil (fun q => !(ama m q.1 || amc m q.1)) A
noncomputable def ause (gt : aG) (m : aM) (rk wt : Int) (vo : aI) (j : Nat) (s : aS) (as : List aV) (F : aF) (O : aO) (A : aA) (kc : aE) : Bool := cond ((aokO gt F O && aokA gt A) && (asub s.2.1 m && andc rk wt vo j F s as)) (match s.2.2.1 with
  | none => kc none F (aflO s.2.1 O) (aflA s.2.1 A)
  | some (.inl b) => afr F b (fun F1 v => kc (some (.inl v)) F1 (aflO s.2.1 O) (aflA s.2.1 A))
  | some (.inr b) => afr F b (fun F1 v => kc (some (.inr (.inl v))) F1 (aflO s.2.1 O) (aflA s.2.1 A))) false
noncomputable def atry (gt : aG) (m : aM) (rk wt : Int) (vo : aI) (j : Nat) (ss : List aS) (as : List aV) (F : aF) (O : aO) (A : aA) (kc : aE) : Bool := List.rec false (fun s _ ih => cond (ams F s.1 as) (ause gt m rk wt vo j s as F O A kc) ih) ss
noncomputable def aset (as : List aV) : Nat → aV → List aV := List.rec (fun _ _ => []) (fun q t ih n v => Nat.rec (v :: t) (fun m _ => q :: ih m v) n) as
noncomputable def aic (gt : aG) (it : aIt) (m : aM) (rk wt : Int) (vo : aI) (j : Nat) (inl : aC) : aC := fun nu as F O A kc => aat it nu (fun x => match x.2 with
  | [] => inl nu as F O A kc
  | _ :: _ => (match x.1 with
    | none => atry gt m rk wt vo j x.2 as F O A kc
    | some i => aat as i (fun v => match v with
      | .inl a => aspl F a (arg F a).1 (fun F1 n => atry gt m rk wt vo j x.2 (aset as i (.inl (none, n))) F1 O A kc) ((arg F a).2 - (arg F a).1 + 1).toNat
      | _ => false)))
noncomputable def aargs (as : List aV) : Nat → aL := List.rec (fun _ => []) (fun v _ ih i => (i, v) :: ih (i + acat v)) as
noncomputable def amem (n : Nat) (l : List Nat) : Bool := List.rec false (fun q _ ih => cond (Nat.beq q n) true ih) l
abbrev aJ : Type := Nat → aL → aF → aO → aA → Bool
noncomputable def ar (Sh : List zC) (gt : aG) (it : aIt) (tb : rx_T) (m : aM) (rk wt : Int) (vo : aI) (n : Nat) : Nat → List rx_E → Nat → Nat → List Nat → aJ → aE → aK := Nat.rec (fun _ _ _ _ _ _ _ _ _ _ _ _ _ => false) (fun _ ih j cd nL q hd jc kc cs L S F O A => match cs with
  | [] => false
  | e :: rest => cond (amem e.1 hd) (match S with
    | [] => jc e.1 L F O A
    | _ :: _ => false) (astep Sh gt m cd nL q (aic gt it m rk wt vo j (fun nu as F O A kc' => aat tb nu (fun x => cond (Nat.ble (acats as) x.2.1 && ile ((j : Int) + 2) (rk - wt * (arg F vo).2)) (ih (j + 1) x.1 x.2.1 x.2.2.2.2 [] (fun _ _ _ _ _ => false) kc' x.1 (aargs as 0) [] F O A) false))) kc (ih j cd nL q hd jc kc) e rest L S F O A)) n
/-- from a head on: its own instruction first -/
noncomputable def ar1 (Sh : List zC) (gt : aG) (it : aIt) (tb : rx_T) (m : aM) (rk wt : Int) (vo : aI) (n : Nat) (cd : List rx_E) (nL q : Nat) (hd : List Nat) (jc : aJ) (kc : aE) (cs : List rx_E) (L : aL) (F : aF) (O : aO) (A : aA) : Bool := match cs with
  | [] => false
  | e :: rest => astep Sh gt m cd nL q (aic gt it m rk wt vo 0 (fun nu as F O A kc' => aat tb nu (fun x => cond (Nat.ble (acats as) x.2.1 && ile ((0 : Int) + 2) (rk - wt * (arg F vo).2)) (ar Sh gt it tb m rk wt vo n (0 + 1) x.1 x.2.1 x.2.2.2.2 [] (fun _ _ _ _ _ => false) kc' x.1 (aargs as 0) [] F O A) false))) kc (ar Sh gt it tb m rk wt vo n 0 cd nL q hd jc kc) e rest L [] F O A
/-- locals within bounds -/
noncomputable def asl (sp : List (Nat × aT)) : aF → (aL → aF → Bool) → Bool := List.rec (fun F k => k [] F) (fun q _ ih F k => match q.2 with
  | .inl b => afr F b (fun F1 v => ih F1 (fun L F2 => k ((q.1, .inl v) :: L) F2))
  | .inr (.inl b) => afr F b (fun F1 v => ih F1 (fun L F2 => k ((q.1, .inr (.inl v)) :: L) F2))
  | .inr (.inr c) => ih F (fun L F2 => k ((q.1, .inr (.inr c)) :: L) F2)) sp
noncomputable def aso (gt : aG) (sp : List (Nat × Nat)) : aF → aO → (aF → aO → Bool) → Bool := List.rec (fun F O k => k F O) (fun q _ ih F O k => agb gt q.1 q.2 (fun bs => aall (fun b => afr F b (fun F1 v => ih F1 (aos O q.1 q.2 v) k)) bs)) sp
/-- the numbers of a measure -/
noncomputable def amv (L : aL) (O : aO) (x : Nat ⊕ (Nat × Nat)) (k : aI → Bool) : Bool := match x with
  | .inl i => aget L i (fun v => match v with
    | .inl a => k a
    | .inr (.inl a) => k a
    | _ => false)
  | .inr q => aolk O q.1 q.2 k false
noncomputable def amvs (L : aL) (O : aO) (ms : List aMs) (k : List (Nat ⊕ (Bool × Int × aI)) → Bool) : Bool := List.rec (fun k => k []) (fun x _ ih k => match x with
  | .inl p => ih (fun r => k (.inl p :: r))
  | .inr y => amv L O y.1 (fun v => ih (fun r => k (.inr (y.2.1, y.2.2, v) :: r)))) ms k
abbrev aMv : Type := List (Nat ⊕ (Bool × Int × aI))
noncomputable def alx (va : aMv) : aMv → Bool := List.rec (fun vb => match vb with
  | [] => false
  | _ :: _ => true) (fun x _ ih vb => match vb with
  | [] => false
  | y :: tb => (match x, y with
    | .inl p, .inl p' => cond (Nat.blt p' p) true (cond (Nat.beq p p') (ih tb) false)
    | .inr a, .inr b => cond ((cond a.1 b.1 (!b.1)) && (ieq a.2.1 b.2.1 && aon a.2.2.1 b.2.2.1)) (cond (ieq a.2.2.2 b.2.2.2) (ih tb) (cond a.1 (ile a.2.2.2 b.2.2.2) (ile b.2.2.2 a.2.2.2))) false
    | _, _ => false)) va
/-- each number of a measure lies on its bound's side, not too far -/
noncomputable def amk (F : aF) (v : aMv) : Bool := aall (fun x => match x with
  | .inl p => Nat.blt p 1048576
  | .inr a => cond a.1 (ile (arg F a.2.2).2 a.2.1 && ile (a.2.1 - (arg F a.2.2).1) 1099511627000) (ile a.2.1 (arg F a.2.2).1 && ile ((arg F a.2.2).2 - a.2.1) 1099511627000)) v && Nat.ble v.length 6
noncomputable def alok (F : aF) (L : aL) (sp : List (Nat × aT)) : Bool := aall (fun q => aget L q.1 (fun v => amt F q.2 v)) sp
def aeqI (a b : aI) : Bool := aon a.1 b.1 && ieq a.2 b.2
/-- a jump to a head: prev: the measure of the segment that is left, if any; ol: the local that the frames hang on -/
noncomputable def ajc (gt : aG) (sgs : List aSg) (ol : Option Nat) (vo : aI) (prev : Option aMv) : aJ := fun pc L F O A => List.rec false (fun sg _ ih => cond (Nat.beq sg.1 pc) (cond ((aokO gt F O && aokA gt A) && (alok F L sg.2.1 && (match ol with
    | none => true
    | some i => aget L i (fun v => match v with
      | .inl a => aeqI a vo
      | _ => false)))) (amvs L O sg.2.2.2 (fun vb => cond (amk F vb) (match prev with
    | none => true
    | some va => alx va vb) false)) false) ih) sgs
noncomputable def akc (gt : aG) (r : Option (aB ⊕ aB)) : aE := fun v F O A => cond (aokO gt F O && aokA gt A) (match r, v with
  | none, none => true
  | some (.inl b), some (.inl x) => ain b (arg F x)
  | some (.inr b), some (.inr (.inl x)) => ain b (arg F x)
  | _, _ => false) false
/-- the value that the frames hang on -/
noncomputable def avo (L : aL) (ol : Option Nat) (k : aI → Bool) : Bool := match ol with
  | none => k (none, 0)
  | some i => aget L i (fun v => match v with
    | .inl a => k a
    | _ => false)
noncomputable def asg (Sh : List zC) (gt : aG) (it : aIt) (tb : rx_T) (n : Nat) (cd : List rx_E) (nL q : Nat) (s : aS) (ol : Option Nat) (sgs : List aSg) (sg : aSg) : Bool :=
  asl sg.2.1 [] (fun L F => aso gt sg.2.2.1 F [] (fun F1 O => avo L ol (fun vo => amvs L O sg.2.2.2 (fun va => ar1 Sh gt it tb s.2.1 (s.2.2.2.1 : Int) (s.2.2.2.2.1 : Int) vo n cd nL q (sgs.map (fun x => x.1)) (ajc gt sgs ol vo (some va)) (akc gt s.2.2.1) (rx_find cd sg.1) L F1 O []))))
noncomputable def aen (Sh : List zC) (gt : aG) (it : aIt) (tb : rx_T) (n : Nat) (cd : List rx_E) (nL q : Nat) (s : aS) (lsp : List (Nat × aT)) (ol : Option Nat) (sgs : List aSg) : Bool :=
  asl lsp [] (fun L F => avo L ol (fun vo => ar Sh gt it tb s.2.1 (s.2.2.2.1 : Int) (s.2.2.2.2.1 : Int) vo (n + 1) 0 cd nL q (sgs.map (fun x => x.1)) (ajc gt sgs ol vo none) (akc gt s.2.2.1) cd L [] F [] []))
end
section
/-! what the interval executor's state means -/
def arel (n : Nat) (rho : Nat → Int) (v : aI) (z : Int) : Prop := match v.1 with
  | none => z = v.2
  | some k => k < n ∧ z = rho k + v.2
def avr (n : Nat) (rho : Nat → Int) (v : aV) (u : zV) : Prop := match v, u with
  | .inl a, .inl z => arel n rho a z
  | .inr (.inl a), .inr (.inl z) => arel n rho a z
  | .inr (.inr c), .inr (.inr (.inl o)) => c = o
  | _, _ => False
def aokF (F : aF) (rho : Nat → Int) : Prop := ∀ k, k < afl F → (afn F k).1 ≤ rho k ∧ rho k ≤ (afn F k).2
def aext (n : Nat) (rho : Nat → Int) (n' : Nat) (rho' : Nat → Int) : Prop := n ≤ n' ∧ ∀ k, k < n → rho' k = rho k
theorem aext.rf (n : Nat) (rho : Nat → Int) : aext n rho n rho := ⟨Nat.le_refl _, fun _ _ => rfl⟩
theorem aext.tr {n n' n'' : Nat} {rho rho' rho'' : Nat → Int} (h : aext n rho n' rho') (k : aext n' rho' n'' rho'') : aext n rho n'' rho'' := ⟨Nat.le_trans h.1 k.1, fun i hi => by rw [k.2 i (Nat.lt_of_lt_of_le hi h.1), h.2 i hi]⟩
theorem arel.ext {n n' : Nat} {rho rho' : Nat → Int} {v : aI} {z : Int} (h : arel n rho v z) (e : aext n rho n' rho') : arel n' rho' v z := by
  obtain ⟨k, c⟩ := v
  cases k with
  | none => exact h
  | some k =>
    obtain ⟨h1, h2⟩ : k < n ∧ z = rho k + c := h
    show k < n' ∧ z = rho' k + c
    rw [e.2 k h1]
    exact ⟨Nat.lt_of_lt_of_le h1 e.1, h2⟩
theorem avr.ext {n n' : Nat} {rho rho' : Nat → Int} {v : aV} {u : zV} (h : avr n rho v u) (e : aext n rho n' rho') : avr n' rho' v u := by
  rcases v with a | (a | c) <;> rcases u with z | (z | (o | j)) <;> first | exact arel.ext h e | exact h
theorem afn_e (F : aF) (q : aB) : ∀ k, (k < afl F → afn (afe F q) k = afn F k) ∧ afn (afe F q) (afl F) = q := by
  induction F with
  | nil => intro k; exact ⟨fun h => absurd h (Nat.not_lt_zero k), rfl⟩
  | cons a t ih =>
    intro k
    refine ⟨fun h => ?_, (ih 0).2⟩
    cases k with
    | zero => rfl
    | succ k => exact (ih k).1 (Nat.lt_of_succ_lt_succ h)
theorem afl_e (F : aF) (q : aB) : afl (afe F q) = afl F + 1 := by
  induction F with
  | nil => rfl
  | cons a t ih =>
    show Nat.succ (afl (afe t q)) = Nat.succ (afl t) + 1
    rw [ih]
theorem afn_s (F : aF) (q : aB) (s : Nat) : ∀ k, afn (afs F s q) k = if k = s ∧ s < afl F then q else afn F k := by
  induction F generalizing s with
  | nil =>
    intro k
    rw [if_neg (fun h => Nat.not_lt_zero s h.2)]
    rfl
  | cons a t ih =>
    intro k
    cases s with
    | zero =>
      cases k with
      | zero => rw [if_pos ⟨rfl, Nat.zero_lt_succ _⟩]; rfl
      | succ k => rw [if_neg (fun h => by cases h.1)]; rfl
    | succ s =>
      cases k with
      | zero => rw [if_neg (fun h => by cases h.1)]; rfl
      | succ k =>
        show afn (afs t s q) k = _
        rw [ih s k]
        by_cases h : k = s ∧ s < afl t
        · rw [if_pos h, if_pos ⟨by rw [h.1], Nat.succ_lt_succ h.2⟩]
        · rw [if_neg h, if_neg (fun g => h ⟨Nat.succ.inj g.1, Nat.lt_of_succ_lt_succ g.2⟩)]
          rfl
theorem afl_s (F : aF) (q : aB) : ∀ s, afl (afs F s q) = afl F := by
  induction F with
  | nil => intro s; rfl
  | cons a t ih =>
    intro s
    cases s with
    | zero => rfl
    | succ s =>
      show Nat.succ (afl (afs t s q)) = Nat.succ (afl t)
      rw [ih]
theorem arg_ok {F : aF} {rho : Nat → Int} {v : aI} {z : Int} (hF : aokF F rho) (h : arel (afl F) rho v z) : (arg F v).1 ≤ z ∧ z ≤ (arg F v).2 := by
  obtain ⟨k, c⟩ := v
  cases k with
  | none =>
    have h : z = c := h
    show c ≤ z ∧ z ≤ c
    omega
  | some k =>
    obtain ⟨h1, h2⟩ : k < afl F ∧ z = rho k + c := h
    have := hF k h1
    show (afn F k).1 + c ≤ z ∧ z ≤ (afn F k).2 + c
    omega
theorem afr_ok {F : aF} {q : aB} {k : aF → aI → Bool} {rho : Nat → Int} {z : Int} (h : afr F q k = true) (hF : aokF F rho) (h1 : q.1 ≤ z) (h2 : z ≤ q.2) : ∃ F1 v rho1, k F1 v = true ∧ aokF F1 rho1 ∧ aext (afl F) rho (afl F1) rho1 ∧ arel (afl F1) rho1 v z := by
  unfold afr at h
  cases c : ieq q.1 q.2 with
  | true =>
    rw [c] at h
    have c := ieq_ok c
    exact ⟨F, (none, q.1), rho, h, hF, aext.rf _ _, by show z = q.1; omega⟩
  | false =>
    rw [c] at h
    refine ⟨afe F q, (some (afl F), 0), fun i => if i = afl F then z else rho i, h, ?_, ?_, ?_⟩
    · intro i hi
      rw [afl_e] at hi
      show (afn (afe F q) i).1 ≤ (if i = afl F then z else rho i) ∧ (if i = afl F then z else rho i) ≤ (afn (afe F q) i).2
      by_cases e : i = afl F
      · rw [if_pos e, e, (afn_e F q 0).2]
        exact ⟨h1, h2⟩
      · rw [if_neg e, (afn_e F q i).1 (by omega)]
        exact hF i (by omega)
    · rw [afl_e]
      exact ⟨by omega, fun i hi => if_neg (by omega)⟩
    · rw [afl_e]
      show afl F < afl F + 1 ∧ z = (if afl F = afl F then z else rho (afl F)) + 0
      rw [if_pos rfl]
      omega
theorem aref_ok {F : aF} {v : aI} {lo hi : Int} {k : aF → Bool} {rho : Nat → Int} {z : Int} (h : aref F v lo hi k = true) (hF : aokF F rho) (hv : arel (afl F) rho v z) (h1 : lo ≤ z) (h2 : z ≤ hi) : ∃ F1, k F1 = true ∧ aokF F1 rho ∧ afl F1 = afl F := by
  have hb := arg_ok hF hv
  obtain ⟨s, c⟩ := v
  cases s with
  | none =>
    have hz : z = c := hv
    have h : cond (ile lo c && ile c hi) (k F) true = true := h
    cases q : (ile lo c && ile c hi) with
    | true => rw [q] at h; exact ⟨F, h, hF, rfl⟩
    | false =>
      exfalso
      cases q1 : ile lo c with
      | false => have := ile_no q1; omega
      | true =>
        rw [q1, Bool.true_and] at q
        have := ile_no q
        omega
  | some s =>
    obtain ⟨hs, hz⟩ : s < afl F ∧ z = rho s + c := hv
    have hb : (afn F s).1 + c ≤ z ∧ z ≤ (afn F s).2 + c := hb
    have h : cond (ile (imax ((afn F s).1 + c) lo) (imin ((afn F s).2 + c) hi)) (k (afs F s (imax ((afn F s).1 + c) lo - c, imin ((afn F s).2 + c) hi - c))) true = true := h
    have g1 : imax ((afn F s).1 + c) lo ≤ z := imax_le hb.1 h1
    have g2 : z ≤ imin ((afn F s).2 + c) hi := le_imin hb.2 h2
    cases q : ile (imax ((afn F s).1 + c) lo) (imin ((afn F s).2 + c) hi) with
    | false => have := ile_no q; omega
    | true =>
      rw [q] at h
      refine ⟨_, h, ?_, afl_s _ _ _⟩
      intro i hi
      rw [afl_s] at hi
      rw [afn_s]
      by_cases e : i = s ∧ s < afl F
      · rw [if_pos e, e.1]
        show imax ((afn F s).1 + c) lo - c ≤ rho s ∧ rho s ≤ imin ((afn F s).2 + c) _ - c
        omega
      · rw [if_neg e]
        exact hF i hi
theorem aext.of_eq {n n' : Nat} (rho : Nat → Int) (h : n' = n) : aext n rho n' rho := by rw [h]; exact aext.rf _ _
section ACM
variable {F : aF} {k : aF → Bool} {rho : Nat → Int} {a b : aI} {x y : Int}
theorem alt_ok (h : alt F a b k = true) (hF : aokF F rho) (ha : arel (afl F) rho a x) (hb : arel (afl F) rho b y) (c : x < y) : ∃ F1, k F1 = true ∧ aokF F1 rho ∧ afl F1 = afl F := by
  have ra := arg_ok hF ha
  have rb := arg_ok hF hb
  obtain ⟨F1, h1, h2, h3⟩ := aref_ok h hF ha ra.1 (by omega)
  rw [← h3] at hb
  obtain ⟨F2, g1, g2, g3⟩ := aref_ok h1 h2 hb (by omega) rb.2
  exact ⟨F2, g1, g2, by rw [g3, h3]⟩
theorem ale_ok (h : ale F a b k = true) (hF : aokF F rho) (ha : arel (afl F) rho a x) (hb : arel (afl F) rho b y) (c : x ≤ y) : ∃ F1, k F1 = true ∧ aokF F1 rho ∧ afl F1 = afl F := by
  have ra := arg_ok hF ha
  have rb := arg_ok hF hb
  obtain ⟨F1, h1, h2, h3⟩ := aref_ok h hF ha ra.1 (by omega)
  rw [← h3] at hb
  obtain ⟨F2, g1, g2, g3⟩ := aref_ok h1 h2 hb (by omega) rb.2
  exact ⟨F2, g1, g2, by rw [g3, h3]⟩
theorem aeq_ok (h : aeq F a b k = true) (hF : aokF F rho) (ha : arel (afl F) rho a x) (hb : arel (afl F) rho b y) (c : x = y) : ∃ F1, k F1 = true ∧ aokF F1 rho ∧ afl F1 = afl F := by
  have ra := arg_ok hF ha
  have rb := arg_ok hF hb
  obtain ⟨F1, h1, h2, h3⟩ := aref_ok h hF ha (by omega) (by omega)
  rw [← h3] at hb
  obtain ⟨F2, g1, g2, g3⟩ := aref_ok h1 h2 hb (by omega) (by omega)
  exact ⟨F2, g1, g2, by rw [g3, h3]⟩
theorem anc_ok {c : Int} (h : anc F a c k = true) (hF : aokF F rho) (ha : arel (afl F) rho a x) (hc : ¬ x = c) : ∃ F1, k F1 = true ∧ aokF F1 rho ∧ afl F1 = afl F := by
  have ra := arg_ok hF ha
  obtain ⟨h1, h2⟩ := rx_an h
  rcases Int.lt_or_gt_of_ne hc with c1 | c1
  · exact aref_ok h1 hF ha ra.1 (by omega)
  · exact aref_ok h2 hF ha (by omega) ra.2
theorem ane_ok (h : ane F a b k = true) (hF : aokF F rho) (ha : arel (afl F) rho a x) (hb : arel (afl F) rho b y) (c : ¬ x = y) : ∃ F1, k F1 = true ∧ aokF F1 rho ∧ afl F1 = afl F := by
  have ra := arg_ok hF ha
  have rb := arg_ok hF hb
  unfold ane at h
  cases q : ieq (arg F b).1 (arg F b).2 with
  | true =>
    rw [q] at h
    have q := ieq_ok q
    cases q2 : (ile (arg F a).1 (arg F b).1 && ile (arg F b).1 (arg F a).2) with
    | true => rw [q2] at h; exact anc_ok h hF ha (by omega)
    | false => rw [q2] at h; exact ⟨F, h, hF, rfl⟩
  | false =>
    rw [q] at h
    cases q1 : ieq (arg F a).1 (arg F a).2 with
    | true =>
      rw [q1] at h
      have q1 := ieq_ok q1
      cases q2 : (ile (arg F b).1 (arg F a).1 && ile (arg F a).1 (arg F b).2) with
      | true => rw [q2] at h; exact anc_ok h hF hb (by omega)
      | false => rw [q2] at h; exact ⟨F, h, hF, rfl⟩
    | false => rw [q1] at h; exact ⟨F, h, hF, rfl⟩
theorem acm_ok {c : Jvm.ClassFile.Cond} (h : acm c F a b k = true) (hF : aokF F rho) (ha : arel (afl F) rho a x) (hb : arel (afl F) rho b y) (hc : zcmp c x y) : ∃ F1, k F1 = true ∧ aokF F1 rho ∧ afl F1 = afl F := by
  cases c
  · exact aeq_ok h hF ha hb hc
  · exact ane_ok h hF ha hb hc
  · exact alt_ok h hF ha hb hc
  · exact ale_ok h hF hb ha hc
  · exact alt_ok h hF hb ha hc
  · exact ale_ok h hF ha hb hc
theorem acn_ok {c : Jvm.ClassFile.Cond} (h : ¬ zcmp c x y) : zcmp (acn c) x y := by
  cases c
  · exact h
  · exact Classical.not_not.mp h
  · show y ≤ x; have h : ¬ x < y := h; omega
  · show x < y; have h : ¬ y ≤ x := h; omega
  · show x ≤ y; have h : ¬ y < x := h; omega
  · show y < x; have h : ¬ x ≤ y := h; omega
end ACM
/-- an operation's result -/
def aop (k : aF → aI → Bool) (F : aF) (rho : Nat → Int) (z : Int) : Prop := ∃ F1 v rho1, k F1 v = true ∧ aokF F1 rho1 ∧ aext (afl F) rho (afl F1) rho1 ∧ arel (afl F1) rho1 v z
theorem aop.of {k : aF → aI → Bool} {F : aF} {rho : Nat → Int} {v : aI} {z : Int} (h : k F v = true) (hF : aokF F rho) (hv : arel (afl F) rho v z) : aop k F rho z := ⟨F, v, rho, h, hF, aext.rf _ _, hv⟩
theorem ain_ok {f q : aB} (h : ain f q = true) : f.1 ≤ q.1 ∧ q.2 ≤ f.2 := by
  obtain ⟨h1, h2⟩ := rx_an h
  exact ⟨ile_ok h1, ile_ok h2⟩
theorem aon_ok {a b : Option Nat} (h : aon a b = true) : a = b := by
  cases a with
  | none => cases b with
    | none => rfl
    | some y => cases h
  | some x => cases b with
    | none => cases h
    | some y => rw [rx_bq (show Nat.beq x y = true from h)]
section AOP
variable {f : aB} {W : Int → Int} {F : aF} {k : aF → aI → Bool} {rho : Nat → Int} {a b : aI} {x y : Int}
theorem aad_ok (h : aad f F a b k = true) (hW : ∀ z, f.1 ≤ z → z ≤ f.2 → W z = z) (hW2 : ∀ z, f.1 ≤ W z ∧ W z ≤ f.2) (hF : aokF F rho) (ha : arel (afl F) rho a x) (hb : arel (afl F) rho b y) : aop k F rho (W (x + y)) := by
  have ra := arg_ok hF ha
  have rb := arg_ok hF hb
  unfold aad at h
  cases q : ain f ((arg F a).1 + (arg F b).1, (arg F a).2 + (arg F b).2) with
  | false =>
    rw [q] at h
    exact afr_ok h hF (hW2 _).1 (hW2 _).2
  | true =>
    rw [q] at h
    have q := ain_ok q
    dsimp only at q
    rw [hW _ (by omega) (by omega)]
    obtain ⟨ka, ca⟩ := a
    obtain ⟨kb, cb⟩ := b
    cases ka with
    | none =>
      have ha : x = ca := ha
      refine aop.of h hF ?_
      cases kb with
      | none => have hb : y = cb := hb; show x + y = ca + cb; omega
      | some kb => obtain ⟨hb1, hb2⟩ : kb < afl F ∧ y = rho kb + cb := hb; show kb < afl F ∧ x + y = rho kb + (ca + cb); exact ⟨hb1, by omega⟩
    | some ka =>
      cases kb with
      | none =>
        have hb : y = cb := hb
        obtain ⟨ha1, ha2⟩ : ka < afl F ∧ x = rho ka + ca := ha
        exact aop.of h hF ⟨ha1, by show x + y = rho ka + (ca + cb); omega⟩
      | some kb => exact afr_ok h hF (by show _ ≤ _; dsimp only; omega) (by show _ ≤ _; dsimp only; omega)
theorem asb_ok (h : asb f F a b k = true) (hW : ∀ z, f.1 ≤ z → z ≤ f.2 → W z = z) (hW2 : ∀ z, f.1 ≤ W z ∧ W z ≤ f.2) (hF : aokF F rho) (ha : arel (afl F) rho a x) (hb : arel (afl F) rho b y) : aop k F rho (W (x - y)) := by
  have ra := arg_ok hF ha
  have rb := arg_ok hF hb
  unfold asb at h
  cases q0 : aon a.1 b.1 with
  | true =>
    rw [q0] at h
    have q0 := aon_ok q0
    have e : x - y = a.2 - b.2 := by
      obtain ⟨ka, ca⟩ := a
      obtain ⟨kb, cb⟩ := b
      dsimp only at q0
      subst q0
      cases ka with
      | none => have ha : x = ca := ha; have hb : y = cb := hb; show x - y = ca - cb; omega
      | some ka =>
        obtain ⟨ha1, ha2⟩ : ka < afl F ∧ x = rho ka + ca := ha
        obtain ⟨hb1, hb2⟩ : ka < afl F ∧ y = rho ka + cb := hb
        show x - y = ca - cb
        omega
    cases q : ain f (a.2 - b.2, a.2 - b.2) with
    | false => rw [q] at h; exact afr_ok h hF (hW2 _).1 (hW2 _).2
    | true =>
      rw [q] at h
      have q := ain_ok q
      dsimp only at q
      rw [hW _ (by omega) (by omega)]
      exact aop.of h hF e
  | false =>
    rw [q0] at h
    cases q : ain f ((arg F a).1 - (arg F b).2, (arg F a).2 - (arg F b).1) with
    | false =>
      rw [q] at h
      exact afr_ok h hF (hW2 _).1 (hW2 _).2
    | true =>
      rw [q] at h
      have q := ain_ok q
      dsimp only at q
      rw [hW _ (by omega) (by omega)]
      obtain ⟨kb, cb⟩ := b
      cases kb with
      | none =>
        have hb : y = cb := hb
        refine aop.of h hF ?_
        obtain ⟨ka, ca⟩ := a
        cases ka with
        | none => have ha : x = ca := ha; show x - y = ca - cb; omega
        | some ka => obtain ⟨ha1, ha2⟩ : ka < afl F ∧ x = rho ka + ca := ha; exact ⟨ha1, by show x - y = rho ka + (ca - cb); omega⟩
      | some kb => exact afr_ok h hF (by show _ ≤ _; dsimp only; omega) (by show _ ≤ _; dsimp only; omega)
theorem mul_rng {x y a b c d : Int} (h1 : a ≤ x) (h2 : x ≤ b) (h3 : c ≤ y) (h4 : y ≤ d) : amn (a * c) (a * d) (b * c) (b * d) ≤ x * y ∧ x * y ≤ amx (a * c) (a * d) (b * c) (b * d) := by
  have m1 : amn (a * c) (a * d) (b * c) (b * d) ≤ a * c := Int.le_trans (imin_le _ _).1 (imin_le _ _).1
  have m2 : amn (a * c) (a * d) (b * c) (b * d) ≤ a * d := Int.le_trans (imin_le _ _).1 (imin_le _ _).2
  have m3 : amn (a * c) (a * d) (b * c) (b * d) ≤ b * c := Int.le_trans (imin_le _ _).2 (imin_le _ _).1
  have m4 : amn (a * c) (a * d) (b * c) (b * d) ≤ b * d := Int.le_trans (imin_le _ _).2 (imin_le _ _).2
  have n1 : a * c ≤ amx (a * c) (a * d) (b * c) (b * d) := Int.le_trans (le_imax _ _).1 (le_imax _ _).1
  have n2 : a * d ≤ amx (a * c) (a * d) (b * c) (b * d) := Int.le_trans (le_imax _ _).2 (le_imax _ _).1
  have n3 : b * c ≤ amx (a * c) (a * d) (b * c) (b * d) := Int.le_trans (le_imax _ _).1 (le_imax _ _).2
  have n4 : b * d ≤ amx (a * c) (a * d) (b * c) (b * d) := Int.le_trans (le_imax _ _).2 (le_imax _ _).2
  generalize amn (a * c) (a * d) (b * c) (b * d) = lo at *
  generalize amx (a * c) (a * d) (b * c) (b * d) = hi at *
  rcases Int.le_total 0 y with hy | hy
  · have p1 : a * y ≤ x * y := Int.mul_le_mul_of_nonneg_right h1 hy
    have p2 : x * y ≤ b * y := Int.mul_le_mul_of_nonneg_right h2 hy
    constructor
    · rcases Int.le_total 0 a with ha | ha
      · have := Int.mul_le_mul_of_nonneg_left h3 ha; omega
      · have := Int.mul_le_mul_of_nonpos_left ha h4; omega
    · rcases Int.le_total 0 b with hb | hb
      · have := Int.mul_le_mul_of_nonneg_left h4 hb; omega
      · have := Int.mul_le_mul_of_nonpos_left hb h3; omega
  · have p1 : b * y ≤ x * y := Int.mul_le_mul_of_nonpos_right h2 hy
    have p2 : x * y ≤ a * y := Int.mul_le_mul_of_nonpos_right h1 hy
    constructor
    · rcases Int.le_total 0 b with hb | hb
      · have := Int.mul_le_mul_of_nonneg_left h3 hb; omega
      · have := Int.mul_le_mul_of_nonpos_left hb h4; omega
    · rcases Int.le_total 0 a with ha | ha
      · have := Int.mul_le_mul_of_nonneg_left h4 ha; omega
      · have := Int.mul_le_mul_of_nonpos_left ha h3; omega
theorem aml_ok (h : aml f F a b k = true) (hW : ∀ z, f.1 ≤ z → z ≤ f.2 → W z = z) (hW2 : ∀ z, f.1 ≤ W z ∧ W z ≤ f.2) (hF : aokF F rho) (ha : arel (afl F) rho a x) (hb : arel (afl F) rho b y) : aop k F rho (W (x * y)) := by
  have ra := arg_ok hF ha
  have rb := arg_ok hF hb
  have hm := mul_rng ra.1 ra.2 rb.1 rb.2
  unfold aml at h
  generalize amn ((arg F a).1 * (arg F b).1) ((arg F a).1 * (arg F b).2) ((arg F a).2 * (arg F b).1) ((arg F a).2 * (arg F b).2) = lo at h hm
  generalize amx ((arg F a).1 * (arg F b).1) ((arg F a).1 * (arg F b).2) ((arg F a).2 * (arg F b).1) ((arg F a).2 * (arg F b).2) = hi at h hm
  cases q : ain f (lo, hi) with
  | false =>
    rw [q] at h
    exact afr_ok h hF (hW2 _).1 (hW2 _).2
  | true =>
    rw [q] at h
    have q := ain_ok q
    dsimp only at q
    rw [hW _ (by omega) (by omega)]
    exact afr_ok h hF hm.1 hm.2
theorem aany_ok {z : Int} (h : aany f F a b k = true) (hF : aokF F rho) (h1 : f.1 ≤ z) (h2 : z ≤ f.2) : aop k F rho z := afr_ok h hF h1 h2
theorem anz_ok (h : anz F b = true) (hF : aokF F rho) (hb : arel (afl F) rho b y) : ¬ y = 0 := by
  have rb := arg_ok hF hb
  rcases Bool.or_eq_true_iff.mp h with h | h
  · have := ile_ok h; omega
  · have := ile_ok h; omega
theorem adiv_ok {z : Int} (h : adiv f F a b k = true) (hF : aokF F rho) (hb : arel (afl F) rho b y) (h1 : f.1 ≤ z) (h2 : z ≤ f.2) : ¬ y = 0 ∧ aop k F rho z := by
  unfold adiv at h
  cases q : anz F b with
  | false => rw [q] at h; cases h
  | true => rw [q] at h; exact ⟨anz_ok q hF hb, afr_ok h hF h1 h2⟩
theorem arem_ok (h : arem f F a b k = true) (hW : ∀ z, f.1 ≤ z → z ≤ f.2 → W z = z) (hW2 : ∀ z, f.1 ≤ W z ∧ W z ≤ f.2) (hf : f.1 = - f.2 - 1) (hF : aokF F rho) (ha : arel (afl F) rho a x) (hb : arel (afl F) rho b y) : ¬ y = 0 ∧ aop k F rho (W (Int.tmod x y)) := by
  have ra := arg_ok hF ha
  have rb := arg_ok hF hb
  unfold arem at h
  cases q : (anz F b && ain f (arg F b)) with
  | false => rw [q] at h; cases h
  | true =>
    rw [q] at h
    obtain ⟨q, q9⟩ := rx_an q
    have q9 := ain_ok q9
    refine ⟨anz_ok q hF hb, ?_⟩
    have h : arm f F a b k = true := h
    unfold arm at h
    cases q1 : ile 1 (arg F b).1 with
    | false => rw [q1] at h; exact afr_ok h hF (hW2 _).1 (hW2 _).2
    | true =>
      rw [q1] at h
      have q1 := ile_ok q1
      have y1 : 1 ≤ y := by omega
      have hlt : Int.tmod x y < y := Int.tmod_lt_of_pos x (by omega)
      have hgt : - y < Int.tmod x y := by
        have h0 := Int.tmod_lt_of_pos (-x) (show 0 < y by omega)
        rw [Int.neg_tmod] at h0
        omega
      rw [hW _ (by omega) (by omega)]
      cases q2 : ile 0 (arg F a).1 with
      | false => rw [q2] at h; exact afr_ok h hF (by show - ((arg F b).2 - 1) ≤ _; omega) (by show _ ≤ (arg F b).2 - 1; omega)
      | true =>
        rw [q2] at h
        have q2 := ile_ok q2
        have x0 : 0 ≤ x := by omega
        have hn : 0 ≤ Int.tmod x y := Int.tmod_nonneg y x0
        have hle : Int.tmod x y ≤ x := by
          rw [Int.tmod_eq_emod_of_nonneg x0]
          have e1 := Int.emod_add_mul_ediv x y
          have e2 : 0 ≤ y * (x / y) := Int.mul_nonneg (by omega) (Int.ediv_nonneg x0 (by omega))
          omega
        exact afr_ok h hF hn (le_imin (by omega) (by omega))
end AOP
theorem ashr_ok {F : aF} {k : aF → aI → Bool} {rho : Nat → Int} {a b : aI} {x d : Int} (h : ashr afI F a b k = true) (hF : aokF F rho) (ha : arel (afl F) rho a x) (hd : 0 < d) : aop k F rho (x / d) := by
  have ra := arg_ok hF ha
  unfold ashr at h
  cases q : ain afI (arg F a) with
  | false => rw [q] at h; cases h
  | true =>
    rw [q] at h
    have q := ain_ok q
    have q1 : -2147483648 ≤ (arg F a).1 := q.1
    have q2 : (arg F a).2 ≤ 2147483647 := q.2
    have this := zdiv_rng (x := x) (d := d) (a := -2147483648) (b := 2147483647) hd (by omega) (by omega) (by omega) (by omega)
    have h : afr F afI k = true := h
    exact afr_ok h hF this.1 this.2
theorem aan_ok {F : aF} {k : aF → aI → Bool} {rho : Nat → Int} {a b : aI} {x y : Int} (h : aan afI F a b k = true) (hF : aokF F rho) (hb : arel (afl F) rho b y) : aop k F rho (zd (Nat.land (zi x) (zi y))) := by
  have rb := arg_ok hF hb
  unfold aan at h
  cases q : (ile 0 (arg F b).1 && ile (arg F b).2 2147483647) with
  | false =>
    rw [q] at h
    have this := zd_ok (zland x y)
    have h : afr F afI k = true := h
    exact afr_ok h hF this.1 this.2
  | true =>
    rw [q] at h
    obtain ⟨q, q2⟩ := rx_an q
    have q := ile_ok q
    have q2 := ile_ok q2
    have hle : Nat.land (zi x) (zi y) ≤ zi y := Nat.and_le_right
    have hz : zi y = y.toNat := zi_nn (by omega) (by omega)
    have e : zd (Nat.land (zi x) (zi y)) = ((Nat.land (zi x) (zi y) : Nat) : Int) := by
      unfold zd
      rw [zblt, decide_eq_true (show Nat.land (zi x) (zi y) < 2147483648 by omega)]
      rfl
    rw [e]
    exact afr_ok h hF (by show (0 : Int) ≤ _; omega) (by show _ ≤ (arg F b).2; omega)
end
section
/-! states of both executors beside each other -/
def zlk (L : zL) (i : Nat) : Option zV := match L with
  | [] => none
  | q :: t => if q.1 = i then some q.2 else zlk t i
def alk (L : aL) (i : Nat) : Option aV := match L with
  | [] => none
  | q :: t => if q.1 = i then some q.2 else alk t i
theorem zget_of {L : zL} {i : Nat} {u : zV} {k : zV → Prop} (h : zlk L i = some u) (hk : k u) : zget L i k := by
  induction L with
  | nil => cases h
  | cons q t ih =>
    show cond (Nat.beq q.1 i) (k q.2) (zget t i k)
    rw [zbeq]
    unfold zlk at h
    by_cases e : q.1 = i
    · rw [if_pos e] at h
      cases h
      rw [decide_eq_true e]
      exact hk
    · rw [if_neg e] at h
      rw [decide_eq_false e]
      exact ih h
theorem aget_ok {L : aL} {i : Nat} {k : aV → Bool} (h : aget L i k = true) : ∃ v, alk L i = some v ∧ k v = true := by
  induction L with
  | nil => cases h
  | cons q t ih =>
    change cond (Nat.beq q.1 i) (k q.2) (aget t i k) = true at h
    rw [zbeq] at h
    unfold alk
    by_cases e : q.1 = i
    · rw [decide_eq_true e] at h
      rw [if_pos e]
      exact ⟨q.2, rfl, h⟩
    · rw [decide_eq_false e] at h
      rw [if_neg e]
      exact ih h
def aRL (n : Nat) (rho : Nat → Int) (L : aL) (Lz : zL) : Prop := ∀ i v, alk L i = some v → ∃ u, zlk Lz i = some u ∧ avr n rho v u
def aRS (n : Nat) (rho : Nat → Int) : List aV → List zV → Prop
  | [], [] => True
  | v :: S, u :: Sz => avr n rho v u ∧ aRS n rho S Sz
  | _, _ => False
theorem aRL.ext {n n' : Nat} {rho rho' : Nat → Int} {L : aL} {Lz : zL} (h : aRL n rho L Lz) (e : aext n rho n' rho') : aRL n' rho' L Lz := fun i v hv => by
  obtain ⟨u, h1, h2⟩ := h i v hv
  exact ⟨u, h1, h2.ext e⟩
theorem aRS.ext {n n' : Nat} {rho rho' : Nat → Int} (e : aext n rho n' rho') : ∀ {S : List aV} {Sz : List zV}, aRS n rho S Sz → aRS n' rho' S Sz
  | [], [], _ => trivial
  | _ :: _, _ :: _, h => ⟨h.1.ext e, aRS.ext e h.2⟩
  | [], _ :: _, h => h
  | _ :: _, [], h => h
theorem avr_cat {n : Nat} {rho : Nat → Int} {v : aV} {u : zV} (h : avr n rho v u) : zcat u = acat v := by
  rcases v with a | (a | c) <;> rcases u with z | (z | (o | j)) <;> first | rfl | exact absurd h id
theorem alk_fil {P : Nat × aV → Bool} {L : aL} {i : Nat} {v : aV} (hP : ∀ u u', P (i, u) = P (i, u')) (h : alk (afil P L) i = some v) : alk L i = some v ∧ P (i, v) = true := by
  induction L with
  | nil => cases h
  | cons q t ih =>
    change alk (cond (P q) (q :: afil P t) (afil P t)) i = some v at h
    unfold alk
    cases c : P q with
    | true =>
      rw [c] at h
      change (if q.1 = i then some q.2 else alk (afil P t) i) = some v at h
      by_cases e : q.1 = i
      · rw [if_pos e] at h ⊢
        cases h
        refine ⟨rfl, ?_⟩
        rw [← e]
        exact c
      · rw [if_neg e] at h ⊢
        exact ih h
    | false =>
      rw [c] at h
      obtain ⟨h1, h2⟩ := ih h
      by_cases e : q.1 = i
      · exfalso
        have h3 : P (i, q.2) = false := by rw [← e]; exact c
        rw [hP v q.2, h3] at h2
        cases h2
      · rw [if_neg e]
        exact ⟨h1, h2⟩
theorem zlk_fil {P : Nat × zV → Bool} {L : zL} {i : Nat} {u : zV} (h : zlk L i = some u) (hP : P (i, u) = true) : zlk (zfil P L) i = some u := by
  induction L with
  | nil => cases h
  | cons q t ih =>
    unfold zlk at h
    show zlk (cond (P q) (q :: zfil P t) (zfil P t)) i = some u
    by_cases e : q.1 = i
    · rw [if_pos e] at h
      cases h
      have : P q = true := by rw [← e] at hP; exact hP
      rw [this]
      show (if q.1 = i then some q.2 else _) = _
      rw [if_pos e]
    · rw [if_neg e] at h
      cases c : P q with
      | true =>
        show (if q.1 = i then some q.2 else zlk (zfil P t) i) = _
        rw [if_neg e]
        exact ih h
      | false => exact ih h
theorem anl_ok {L : aL} {a i : Nat} {v : aV} (h : anl L a = true) (hi : Nat.succ i = a) (hv : alk L i = some v) : acat v = 1 := by
  induction L with
  | nil => cases hv
  | cons q t ih =>
    change cond (Nat.beq (Nat.succ q.1) a) (Nat.beq (acat q.2) 1) (anl t a) = true at h
    unfold alk at hv
    rw [zbeq] at h
    by_cases e : q.1 = i
    · rw [if_pos e] at hv
      cases hv
      rw [decide_eq_true (by omega)] at h
      exact rx_bq h
    · rw [if_neg e] at hv
      rw [decide_eq_false (by omega)] at h
      exact ih h hv
theorem aRL_put1 {n : Nat} {rho : Nat → Int} {L : aL} {Lz : zL} {a : Nat} {v : aV} {u : zV} (h : aRL n rho L Lz) (hl : anl L a = true) (hv : avr n rho v u) : aRL n rho ((a, v) :: afil (aP1 a) L) ((a, u) :: zfil (zP1 a) Lz) := by
  intro i w hw
  unfold alk at hw
  by_cases e : a = i
  · rw [if_pos e] at hw
    cases hw
    refine ⟨u, ?_, hv⟩
    show (if a = i then some u else _) = _
    rw [if_pos e]
  · rw [if_neg e] at hw
    obtain ⟨h1, -⟩ := alk_fil (fun _ _ => rfl) hw
    obtain ⟨x, h3, h4⟩ := h i w h1
    refine ⟨x, ?_, h4⟩
    show (if a = i then some u else zlk (zfil (zP1 a) Lz) i) = _
    rw [if_neg e]
    refine zlk_fil h3 ?_
    unfold zP1
    rw [zbeq, zbeq, zbeq]
    by_cases e2 : Nat.succ i = a
    · have := anl_ok hl e2 h1
      rw [avr_cat h4, this]
      simp
      omega
    · simp [e2]
      omega
theorem aRL_put2 {n : Nat} {rho : Nat → Int} {L : aL} {Lz : zL} {a : Nat} {v : aV} {u : zV} (h : aRL n rho L Lz) (hl : anl L a = true) (hv : avr n rho v u) : aRL n rho ((a, v) :: afil (aP2 a) L) ((a, u) :: zfil (zP2 a) Lz) := by
  intro i w hw
  unfold alk at hw
  by_cases e : a = i
  · rw [if_pos e] at hw
    cases hw
    refine ⟨u, ?_, hv⟩
    show (if a = i then some u else _) = _
    rw [if_pos e]
  · rw [if_neg e] at hw
    obtain ⟨h1, h2⟩ := alk_fil (fun _ _ => rfl) hw
    obtain ⟨x, h3, h4⟩ := h i w h1
    refine ⟨x, ?_, h4⟩
    show (if a = i then some u else zlk (zfil (zP2 a) Lz) i) = _
    rw [if_neg e]
    refine zlk_fil h3 ?_
    unfold aP2 at h2
    unfold zP2
    rw [zbeq, zbeq] at h2
    rw [zbeq, zbeq, zbeq, zbeq]
    have e3 : ¬ i = Nat.succ a := by
      intro q
      simp [q] at h2
    by_cases e2 : Nat.succ i = a
    · have := anl_ok hl e2 h1
      rw [avr_cat h4, this]
      simp [e3]
      omega
    · simp [e2, e3]
      omega
/-- the invariant at a slot -/
def gok (gt : aG) (c i : Nat) (z : Int) : Prop := match gt[c]? with
  | some (.inl l) => (match l[i]? with
    | some bs => ∃ b ∈ bs, b.1 ≤ z ∧ z ≤ b.2
    | none => True)
  | some (.inr b) => b.1 ≤ z ∧ z ≤ b.2
  | none => True
def gInv (gt : aG) (st : zS) : Prop := ∀ c i, gok gt c i (st c i)
def olk (O : aO) (c f : Nat) : Option aI := match O with
  | [] => none
  | q :: t => if q.1.1 = c ∧ q.1.2 = f then some q.2 else olk t c f
def ulk (A : aA) (c : Nat) : Option aB := match A with
  | [] => none
  | q :: t => if q.1 = c then some q.2 else ulk t c
def aRT (gt : aG) (n : Nat) (rho : Nat → Int) (O : aO) (A : aA) (st : zS) : Prop :=
  (∀ c i v, olk O c i = some v → (∃ l, gt[c]? = some (.inl l)) ∧ arel n rho v (st c i)) ∧
  (∀ c b, ulk A c = some b → (∃ b', gt[c]? = some (.inr b')) ∧ ∀ i, b.1 ≤ st c i ∧ st c i ≤ b.2) ∧
  (∀ c i, olk O c i = none → ulk A c = none → gok gt c i (st c i))
theorem aRT.ext {gt : aG} {n n' : Nat} {rho rho' : Nat → Int} {O : aO} {A : aA} {st : zS} (h : aRT gt n rho O A st) (e : aext n rho n' rho') : aRT gt n' rho' O A st := ⟨fun c i v hv => ⟨(h.1 c i v hv).1, (h.1 c i v hv).2.ext e⟩, h.2.1, h.2.2⟩
theorem aolk_ok {O : aO} {c f : Nat} {k : aI → Bool} {d : Bool} (h : aolk O c f k d = true) : (∃ v, olk O c f = some v ∧ k v = true) ∨ (olk O c f = none ∧ d = true) := by
  induction O with
  | nil => exact Or.inr ⟨rfl, h⟩
  | cons q t ih =>
    change cond (Nat.beq q.1.1 c && Nat.beq q.1.2 f) (k q.2) (aolk t c f k d) = true at h
    rw [zbeq, zbeq] at h
    unfold olk
    by_cases e : q.1.1 = c ∧ q.1.2 = f
    · rw [decide_eq_true e.1, decide_eq_true e.2] at h
      rw [if_pos e]
      exact Or.inl ⟨q.2, rfl, h⟩
    · rw [if_neg e]
      have : (decide (q.1.1 = c) && decide (q.1.2 = f)) = false := by
        cases c2 : (decide (q.1.1 = c) && decide (q.1.2 = f)) with
        | false => rfl
        | true =>
          obtain ⟨e1, e2⟩ := rx_an c2
          exact absurd ⟨of_decide_eq_true e1, of_decide_eq_true e2⟩ e
      rw [this] at h
      exact ih h
theorem aalk_ok {A : aA} {c : Nat} {k : aB → Bool} {d : Bool} (h : aalk A c k d = true) : (∃ b, ulk A c = some b ∧ k b = true) ∨ (ulk A c = none ∧ d = true) := by
  induction A with
  | nil => exact Or.inr ⟨rfl, h⟩
  | cons q t ih =>
    change cond (Nat.beq q.1 c) (k q.2) (aalk t c k d) = true at h
    rw [zbeq] at h
    unfold ulk
    by_cases e : q.1 = c
    · rw [decide_eq_true e] at h
      rw [if_pos e]
      exact Or.inl ⟨q.2, rfl, h⟩
    · rw [decide_eq_false e] at h
      rw [if_neg e]
      exact ih h
theorem aat_ok {α : Type} {l : List α} : ∀ {n : Nat} {k : α → Bool}, aat l n k = true → ∃ x, l[n]? = some x ∧ k x = true := by
  induction l with
  | nil => intro n k h; cases h
  | cons a t ih =>
    intro n k h
    cases n with
    | zero => exact ⟨a, rfl, h⟩
    | succ m =>
      obtain ⟨x, h1, h2⟩ := ih (n := m) h
      exact ⟨x, by simpa using h1, h2⟩
theorem zat_of {α : Type} {l : List α} : ∀ {n : Nat} {x : α} {k : α → Prop}, l[n]? = some x → k x → zat l n k := by
  induction l with
  | nil => intro n x k h; simp at h
  | cons a t ih =>
    intro n x k h hk
    cases n with
    | zero => simp at h; rw [← h] at hk; exact hk
    | succ m => exact ih (n := m) (by simpa using h) hk
theorem aall_ok {α : Type} {P : α → Bool} {l : List α} (h : aall P l = true) : ∀ x ∈ l, P x = true := by
  induction l with
  | nil => intro x hx; cases hx
  | cons a t ih =>
    change cond (P a) (aall P t) false = true at h
    intro x hx
    cases c : P a with
    | false => rw [c] at h; cases h
    | true =>
      rw [c] at h
      rcases List.mem_cons.mp hx with e | e
      · rw [e]; exact c
      · exact ih h x e
theorem agb_ok {gt : aG} {c i : Nat} {k : List aB → Bool} (h : agb gt c i k = true) : ∃ l bs, gt[c]? = some (.inl l) ∧ l[i]? = some bs ∧ k bs = true := by
  obtain ⟨x, h1, h2⟩ := aat_ok h
  rcases x with l | b
  · obtain ⟨bs, h3, h4⟩ := aat_ok (show aat l i k = true from h2)
    exact ⟨l, bs, h1, h3, h4⟩
  · cases h2
theorem olk_s (O : aO) (c f : Nat) (v : aI) (c' f' : Nat) : olk (aos O c f v) c' f' = if c = c' ∧ f = f' then some v else olk O c' f' := by
  unfold aos
  show (if c = c' ∧ f = f' then some v else olk (afil _ O) c' f') = _
  by_cases e : c = c' ∧ f = f'
  · rw [if_pos e, if_pos e]
  · rw [if_neg e, if_neg e]
    induction O with
    | nil => rfl
    | cons q t ih =>
      show olk (cond (!(Nat.beq q.1.1 c && Nat.beq q.1.2 f)) (q :: afil _ t) (afil _ t)) c' f' = if q.1.1 = c' ∧ q.1.2 = f' then some q.2 else olk t c' f'
      rw [zbeq, zbeq]
      by_cases e2 : q.1.1 = c ∧ q.1.2 = f
      · rw [decide_eq_true e2.1, decide_eq_true e2.2, if_neg (fun g => e ⟨by rw [← e2.1, g.1], by rw [← e2.2, g.2]⟩)]
        exact ih
      · have : (!(decide (q.1.1 = c) && decide (q.1.2 = f))) = true := by
          cases c2 : (decide (q.1.1 = c) && decide (q.1.2 = f)) with
          | false => rfl
          | true =>
            obtain ⟨e3, e4⟩ := rx_an c2
            exact absurd ⟨of_decide_eq_true e3, of_decide_eq_true e4⟩ e2
        rw [this]
        show (if q.1.1 = c' ∧ q.1.2 = f' then some q.2 else olk (afil _ t) c' f') = _
        rw [ih]
theorem ulk_s (A : aA) (c : Nat) (b : aB) (c' : Nat) : ulk (aas0 A c b) c' = if c = c' then some b else ulk A c' := by
  unfold aas0
  show (if c = c' then some b else ulk (afil _ A) c') = _
  by_cases e : c = c'
  · rw [if_pos e, if_pos e]
  · rw [if_neg e, if_neg e]
    induction A with
    | nil => rfl
    | cons q t ih =>
      show ulk (cond (!Nat.beq q.1 c) (q :: afil _ t) (afil _ t)) c' = if q.1 = c' then some q.2 else ulk t c'
      rw [zbeq]
      by_cases e2 : q.1 = c
      · rw [decide_eq_true e2, if_neg (fun g => e (by rw [← e2, g]))]
        exact ih
      · rw [decide_eq_false e2]
        show (if q.1 = c' then some q.2 else ulk (afil _ t) c') = _
        rw [ih]
theorem aRT_put {gt : aG} {n : Nat} {rho : Nat → Int} {O : aO} {A : aA} {st : zS} {c f : Nat} {v : aI} {z : Int} {l : List (List aB)} (h : aRT gt n rho O A st) (hg : gt[c]? = some (.inl l)) (hv : arel n rho v z) : aRT gt n rho (aos O c f v) A (zup st c f z) := by
  refine ⟨fun c' i v' hv' => ?_, fun c' b hb => ?_, fun c' i h1 h2 => ?_⟩
  · rw [olk_s] at hv'
    rw [zup_if]
    by_cases e : c = c' ∧ f = i
    · rw [if_pos e] at hv'
      cases hv'
      rw [if_pos ⟨e.1.symm, e.2.symm⟩, ← e.1]
      exact ⟨⟨l, hg⟩, hv⟩
    · rw [if_neg e] at hv'
      rw [if_neg (fun g => e ⟨g.1.symm, g.2.symm⟩)]
      exact h.1 c' i v' hv'
  · obtain ⟨⟨b', h1⟩, h2⟩ := h.2.1 c' b hb
    refine ⟨⟨b', h1⟩, fun i => ?_⟩
    have e : ¬ c' = c := by
      intro q
      rw [q, hg] at h1
      cases h1
    rw [zup_nc st z e]
    exact h2 i
  · rw [olk_s] at h1
    by_cases e : c = c' ∧ f = i
    · rw [if_pos e] at h1; cases h1
    · rw [if_neg e] at h1
      rw [zup_ne st z (fun g => e ⟨g.1.symm, g.2.symm⟩)]
      exact h.2.2 c' i h1 h2
theorem aRT_puta {gt : aG} {n : Nat} {rho : Nat → Int} {O : aO} {A : aA} {st st' : zS} {c : Nat} {b0 b : aB} (h : aRT gt n rho O A st) (hg : gt[c]? = some (.inr b0)) (hn : ∀ c' i, ¬ c' = c → st' c' i = st c' i) (hb : ∀ i, b.1 ≤ st' c i ∧ st' c i ≤ b.2) : aRT gt n rho O (aas0 A c b) st' := by
  refine ⟨fun c' i v' hv' => ?_, fun c' b' hb' => ?_, fun c' i h1 h2 => ?_⟩
  · obtain ⟨⟨l, h1⟩, h2⟩ := h.1 c' i v' hv'
    have e : ¬ c' = c := by
      intro q
      rw [q, hg] at h1
      cases h1
    rw [hn c' i e]
    exact ⟨⟨l, h1⟩, h2⟩
  · rw [ulk_s] at hb'
    by_cases e : c = c'
    · rw [if_pos e] at hb'
      cases hb'
      subst e
      exact ⟨⟨b0, hg⟩, hb⟩
    · rw [if_neg e] at hb'
      obtain ⟨h1, h2⟩ := h.2.1 c' b' hb'
      refine ⟨h1, fun i => ?_⟩
      rw [hn c' i (fun q => e q.symm)]
      exact h2 i
  · rw [ulk_s] at h2
    by_cases e : c = c'
    · rw [if_pos e] at h2; cases h2
    · rw [if_neg e] at h2
      rw [hn c' i (fun q => e q.symm)]
      exact h.2.2 c' i h1 h2
theorem aab_ok {gt : aG} {n : Nat} {rho : Nat → Int} {O : aO} {A : aA} {st : zS} {c : Nat} {k : aB → Bool} (h : aRT gt n rho O A st) (hk : aab gt A c k = true) : ∃ b b0, gt[c]? = some (.inr b0) ∧ k b = true ∧ ∀ i, b.1 ≤ st c i ∧ st c i ≤ b.2 := by
  rcases aalk_ok hk with ⟨b, h1, h2⟩ | ⟨h1, h2⟩
  · obtain ⟨⟨b0, h3⟩, h4⟩ := h.2.1 c b h1
    exact ⟨b, b0, h3, h2, h4⟩
  · obtain ⟨x, h3, h4⟩ := aat_ok h2
    rcases x with l | b
    · cases h4
    · refine ⟨b, b, h3, h4, fun i => ?_⟩
      have h5 : olk O c i = none := by
        cases q : olk O c i with
        | none => rfl
        | some v =>
          obtain ⟨⟨l, h6⟩, -⟩ := h.1 c i v q
          rw [h3] at h6
          cases h6
      have h7 := h.2.2 c i h5 h1
      unfold gok at h7
      rw [h3] at h7
      exact h7
/-- all in the invariant -/
theorem aRT_inv {gt : aG} {F : aF} {rho : Nat → Int} {O : aO} {A : aA} {st : zS} (hF : aokF F rho) (h : aRT gt (afl F) rho O A st) (hO : aokO gt F O = true) (hA : aokA gt A = true) : gInv gt st := by
  intro c i
  cases q : olk O c i with
  | some v =>
    have hr := (h.1 c i v q).2
    have hm : ((c, i), v) ∈ O := by
      clear hr h hO
      induction O with
      | nil => cases q
      | cons p t ih =>
        unfold olk at q
        by_cases e : p.1.1 = c ∧ p.1.2 = i
        · rw [if_pos e] at q
          cases q
          rw [← e.1, ← e.2]
          exact List.mem_cons_self
        · rw [if_neg e] at q
          exact List.mem_cons_of_mem _ (ih q)
    obtain ⟨l, bs, h1, h2, h3⟩ := agb_ok (aall_ok hO _ hm)
    have hb := arg_ok hF hr
    unfold gok
    rw [h1]
    dsimp only
    rw [h2]
    dsimp only
    clear h2
    induction bs with
    | nil => cases h3
    | cons b t ih =>
      change cond (ain b (arg F v)) true _ = true at h3
      cases c2 : ain b (arg F v) with
      | true =>
        have := ain_ok c2
        exact ⟨b, List.mem_cons_self, by omega, by omega⟩
      | false =>
        rw [c2] at h3
        obtain ⟨b', hb', hz⟩ := ih h3
        exact ⟨b', List.mem_cons_of_mem _ hb', hz⟩
  | none =>
    cases q2 : ulk A c with
    | none => exact h.2.2 c i q q2
    | some b =>
      have h4 := (h.2.1 c b q2).2 i
      have hm : (c, b) ∈ A := by
        clear h4 h hA
        induction A with
        | nil => cases q2
        | cons p t ih =>
          unfold ulk at q2
          by_cases e : p.1 = c
          · rw [if_pos e] at q2
            cases q2
            rw [← e]
            exact List.mem_cons_self
          · rw [if_neg e] at q2
            exact List.mem_cons_of_mem _ (ih q2)
      obtain ⟨x, h1, h2⟩ := aat_ok (aall_ok hA _ hm)
      rcases x with l | b'
      · cases h2
      · have h2 := ain_ok (show ain b' b = true from h2)
        unfold gok
        rw [h1]
        dsimp only
        omega
end
section
/-! a step of the interval executor is a step of the second layer -/
def aFr (m : aM) (st0 st : zS) : Prop := ∀ c i, amf m c i = false → ama m c = false → st c i = st0 c i
def aRo (n : Nat) (rho : Nat → Int) (r : Option aV) (u : Option zV) : Prop := match r, u with
  | none, none => True
  | some v, some x => avr n rho v x
  | _, _ => False
def aX (gt : aG) (m : aM) (st0 : zS) (n0 : Nat) (rho0 : Nat → Int) (F : aF) (rho : Nat → Int) (L : aL) (S : List aV) (O : aO) (A : aA) (Lz : zL) (Sz : List zV) (st : zS) : Prop := aokF F rho ∧ aext n0 rho0 (afl F) rho ∧ aRL (afl F) rho L Lz ∧ aRS (afl F) rho S Sz ∧ aRT gt (afl F) rho O A st ∧ aFr m st0 st
def aKs (gt : aG) (m : aM) (st0 : zS) (n0 : Nat) (rho0 : Nat → Int) (K : aK) (Kz : zG) : Prop := ∀ cs L S F O A, K cs L S F O A = true → ∀ rho Lz Sz st, aX gt m st0 n0 rho0 F rho L S O A Lz Sz st → Kz cs Lz Sz st
def aEs (gt : aG) (m : aM) (st0 : zS) (n0 : Nat) (rho0 : Nat → Int) (kc : aE) (Q : zQ) : Prop := ∀ r F O A, kc r F O A = true → ∀ rho rz st, aokF F rho → aext n0 rho0 (afl F) rho → aRo (afl F) rho r rz → aRT gt (afl F) rho O A st → aFr m st0 st → Q rz st
def aCs (gt : aG) (m : aM) (st0 : zS) (n0 : Nat) (rho0 : Nat → Int) (ic : aC) (call : zCall) : Prop := ∀ nu as F O A kc, ic nu as F O A kc = true → ∀ rho asz st, aokF F rho → aext n0 rho0 (afl F) rho → aRS (afl F) rho as asz → aRT gt (afl F) rho O A st → aFr m st0 st → ∀ Q : zQ, aEs gt m st0 (afl F) rho kc Q → call nu asz st Q
theorem acond {b : Bool} {x : Bool} (h : cond b x false = true) : b = true ∧ x = true := by
  cases b
  · cases h
  · exact ⟨rfl, h⟩
theorem zcond {b : Bool} {P : Prop} (h : b = true) (k : P) : cond b P False := by rw [h]; exact k
theorem amf_ok {m : aM} {c i : Nat} : amf m c i = true ↔ (c, i) ∈ m.1 := by
  obtain ⟨l, l2⟩ := m
  show (List.rec false (fun (q : Nat × Nat) _ ih => cond (Nat.beq q.1 c && Nat.beq q.2 i) true ih) l : Bool) = true ↔ (c, i) ∈ l
  induction l with
  | nil => simp
  | cons q t ih =>
    show cond (Nat.beq q.1 c && Nat.beq q.2 i) true _ = true ↔ _
    rw [zbeq, zbeq]
    by_cases e : q.1 = c ∧ q.2 = i
    · rw [decide_eq_true e.1, decide_eq_true e.2]
      obtain ⟨a, b⟩ := q
      obtain ⟨rfl, rfl⟩ := e
      simp
    · have e2 : (decide (q.1 = c) && decide (q.2 = i)) = false := by
        cases c2 : (decide (q.1 = c) && decide (q.2 = i)) with
        | false => rfl
        | true =>
          obtain ⟨e3, e4⟩ := rx_an c2
          exact absurd ⟨of_decide_eq_true e3, of_decide_eq_true e4⟩ e
      rw [e2]
      refine Iff.trans ih ⟨fun h => List.mem_cons_of_mem _ h, fun h => ?_⟩
      rcases List.mem_cons.mp h with h | h
      · exact absurd ⟨by rw [← h], by rw [← h]⟩ e
      · exact h
theorem ama_ok {m : aM} {c : Nat} : ama m c = true ↔ c ∈ m.2 := by
  obtain ⟨l2, l⟩ := m
  show (List.rec false (fun (q : Nat) _ ih => cond (Nat.beq q c) true ih) l : Bool) = true ↔ c ∈ l
  induction l with
  | nil => simp
  | cons q t ih =>
    show cond (Nat.beq q c) true _ = true ↔ _
    rw [zbeq]
    by_cases e : q = c
    · rw [decide_eq_true e]
      simp [e]
    · rw [decide_eq_false e]
      refine Iff.trans ih ⟨fun h => List.mem_cons_of_mem _ h, fun h => ?_⟩
      rcases List.mem_cons.mp h with h | h
      · exact absurd h.symm e
      · exact h
theorem aFr_put {m : aM} {st0 st : zS} {o b : Nat} (h : aFr m st0 st) (hm : amf m o b = true) (z : Int) : aFr m st0 (zup st o b z) := by
  intro c i h1 h2
  have e : ¬ (c = o ∧ i = b) := by
    intro q
    rw [q.1, q.2, hm] at h1
    cases h1
  rw [zup_ne st z e]
  exact h c i h1 h2
theorem aFr_arr {m : aM} {st0 st st' : zS} {o : Nat} (h : aFr m st0 st) (hm : ama m o = true) (hn : ∀ c i, ¬ c = o → st' c i = st c i) : aFr m st0 st' := by
  intro c i h1 h2
  have e : ¬ c = o := by
    intro q
    rw [q, hm] at h2
    cases h2
  rw [hn c i e]
  exact h c i h1 h2
section ASND
variable {gt : aG} {m : aM} {st0 : zS} {n0 : Nat} {rho0 : Nat → Int} {K : aK} {Kz : zG} {rest cd : List rx_E} {F : aF} {rho : Nat → Int} {L : aL} {S : List aV} {O : aO} {A : aA} {Lz : zL} {Sz : List zV} {st : zS} {Sh : List zC} {nL q : Nat}
theorem aX.ex {F1 : aF} {rho1 : Nat → Int} (X : aX gt m st0 n0 rho0 F rho L S O A Lz Sz st) (h : aokF F1 rho1) (e : aext (afl F) rho (afl F1) rho1) : aX gt m st0 n0 rho0 F1 rho1 L S O A Lz Sz st := ⟨h, X.2.1.tr e, X.2.2.1.ext e, aRS.ext e X.2.2.2.1, X.2.2.2.2.1.ext e, X.2.2.2.2.2⟩
theorem aX.rf {F1 : aF} (X : aX gt m st0 n0 rho0 F rho L S O A Lz Sz st) (h : aokF F1 rho) (e : afl F1 = afl F) : aX gt m st0 n0 rho0 F1 rho L S O A Lz Sz st := X.ex h (aext.of_eq rho e)
theorem aX.sk {S' : List aV} {Sz' : List zV} (X : aX gt m st0 n0 rho0 F rho L S O A Lz Sz st) (h : aRS (afl F) rho S' Sz') : aX gt m st0 n0 rho0 F rho L S' O A Lz Sz' st := ⟨X.1, X.2.1, X.2.2.1, h, X.2.2.2.2.1, X.2.2.2.2.2⟩
theorem aX.lo {L' : aL} {Lz' : zL} (X : aX gt m st0 n0 rho0 F rho L S O A Lz Sz st) (h : aRL (afl F) rho L' Lz') : aX gt m st0 n0 rho0 F rho L' S O A Lz' Sz st := ⟨X.1, X.2.1, h, X.2.2.2.1, X.2.2.2.2.1, X.2.2.2.2.2⟩
/-- the stack's top -/
theorem aRS_i {n : Nat} {a : aI} (h : aRS n rho (.inl a :: S) Sz) : ∃ z Sz', Sz = .inl z :: Sz' ∧ arel n rho a z ∧ aRS n rho S Sz' := by
  cases Sz with
  | nil => exact absurd h id
  | cons u t =>
    rcases u with z | (z | (o | j))
    · exact ⟨z, t, rfl, h.1, h.2⟩
    · exact absurd h.1 id
    · exact absurd h.1 id
    · exact absurd h.1 id
theorem aRS_l {n : Nat} {a : aI} (h : aRS n rho (.inr (.inl a) :: S) Sz) : ∃ z Sz', Sz = .inr (.inl z) :: Sz' ∧ arel n rho a z ∧ aRS n rho S Sz' := by
  cases Sz with
  | nil => exact absurd h id
  | cons u t =>
    rcases u with z | (z | (o | j))
    · exact absurd h.1 id
    · exact ⟨z, t, rfl, h.1, h.2⟩
    · exact absurd h.1 id
    · exact absurd h.1 id
theorem aRS_r {n c : Nat} (h : aRS n rho (.inr (.inr c) :: S) Sz) : ∃ Sz', Sz = .inr (.inr (.inl c)) :: Sz' ∧ aRS n rho S Sz' := by
  cases Sz with
  | nil => exact absurd h id
  | cons u t =>
    rcases u with z | (z | (o | j))
    · exact absurd h.1 id
    · exact absurd h.1 id
    · have e : c = o := h.1
      rw [e]
      exact ⟨t, rfl, h.2⟩
    · exact absurd h.1 id
theorem aRS_v {n : Nat} {v : aV} (h : aRS n rho (v :: S) Sz) : ∃ u Sz', Sz = u :: Sz' ∧ avr n rho v u ∧ aRS n rho S Sz' := by
  cases Sz with
  | nil => exact absurd h id
  | cons u t => exact ⟨u, t, rfl, h.1, h.2⟩
theorem acats_z {n : Nat} : ∀ {S : List aV} {Sz : List zV}, aRS n rho S Sz → zcats Sz = acats S
  | [], [], _ => rfl
  | v :: S, u :: Sz, h => by
    show Nat.add (zcat u) (zcats Sz) = Nat.add (acat v) (acats S)
    rw [avr_cat h.1, acats_z h.2]
  | [], _ :: _, h => absurd h id
  | _ :: _, [], h => absurd h id
theorem s_cst (hK : aKs gt m st0 n0 rho0 K Kz) (X : aX gt m st0 n0 rho0 F rho L S O A Lz Sz st) {a : Nat} (h : acst K rest a L S F O A = true) : zcst Kz rest a Lz Sz st := by
  obtain ⟨h1, h2⟩ := acond h
  exact zcond h1 (hK _ _ _ _ _ _ h2 _ _ _ _ (X.sk ⟨(show zd a = zd a from rfl), X.2.2.2.1⟩))
theorem s_lst (hK : aKs gt m st0 n0 rho0 K Kz) (X : aX gt m st0 n0 rho0 F rho L S O A Lz Sz st) {a : Nat} (h : alst K rest a L S F O A = true) : zlst Kz rest a Lz Sz st := by
  obtain ⟨h1, h2⟩ := acond h
  exact zcond h1 (hK _ _ _ _ _ _ h2 _ _ _ _ (X.sk ⟨(show ze a = ze a from rfl), X.2.2.2.1⟩))
theorem s_ldI (hK : aKs gt m st0 n0 rho0 K Kz) (X : aX gt m st0 n0 rho0 F rho L S O A Lz Sz st) {a : Nat} (h : aldI K rest a L S F O A = true) : zldI Kz rest a Lz Sz st := by
  obtain ⟨v, h1, h2⟩ := aget_ok h
  obtain ⟨u, h3, h4⟩ := X.2.2.1 a v h1
  refine zget_of h3 ?_
  rcases v with x | (x | c)
  · rcases u with z | (z | (o | j))
    · exact hK _ _ _ _ _ _ h2 _ _ _ _ (X.sk ⟨h4, X.2.2.2.1⟩)
    · exact absurd h4 id
    · exact absurd h4 id
    · exact absurd h4 id
  · cases h2
  · cases h2
theorem s_ldL (hK : aKs gt m st0 n0 rho0 K Kz) (X : aX gt m st0 n0 rho0 F rho L S O A Lz Sz st) {a : Nat} (h : aldL K rest a L S F O A = true) : zldL Kz rest a Lz Sz st := by
  obtain ⟨v, h1, h2⟩ := aget_ok h
  obtain ⟨u, h3, h4⟩ := X.2.2.1 a v h1
  refine zget_of h3 ?_
  rcases v with x | (x | c)
  · cases h2
  · rcases u with z | (z | (o | j))
    · exact absurd h4 id
    · exact hK _ _ _ _ _ _ h2 _ _ _ _ (X.sk ⟨h4, X.2.2.2.1⟩)
    · exact absurd h4 id
    · exact absurd h4 id
  · cases h2
theorem s_ldA (hK : aKs gt m st0 n0 rho0 K Kz) (X : aX gt m st0 n0 rho0 F rho L S O A Lz Sz st) {a : Nat} (h : aldA K rest a L S F O A = true) : zldA Kz rest a Lz Sz st := by
  obtain ⟨v, h1, h2⟩ := aget_ok h
  obtain ⟨u, h3, h4⟩ := X.2.2.1 a v h1
  refine zget_of h3 ?_
  rcases v with x | (x | c)
  · cases h2
  · cases h2
  · rcases u with z | (z | (o | j))
    · exact absurd h4 id
    · exact absurd h4 id
    · exact hK _ _ _ _ _ _ h2 _ _ _ _ (X.sk ⟨h4, X.2.2.2.1⟩)
    · exact absurd h4 id
theorem s_stI (hK : aKs gt m st0 n0 rho0 K Kz) (X : aX gt m st0 n0 rho0 F rho L S O A Lz Sz st) {a : Nat} (h : astI nL K rest a L S F O A = true) : zstI nL Kz rest a Lz Sz st := by
  unfold astI at h
  split at h
  · rename_i x S'
    obtain ⟨h1, h2⟩ := acond h
    obtain ⟨h1, h3⟩ := rx_an h1
    obtain ⟨z, Sz', rfl, h4, h5⟩ := aRS_i X.2.2.2.1
    exact zcond h1 (hK _ _ _ _ _ _ h2 _ _ _ _ ((X.sk h5).lo (aRL_put1 X.2.2.1 h3 (u := .inl z) h4)))
  · cases h
theorem s_stL (hK : aKs gt m st0 n0 rho0 K Kz) (X : aX gt m st0 n0 rho0 F rho L S O A Lz Sz st) {a : Nat} (h : astL nL K rest a L S F O A = true) : zstL nL Kz rest a Lz Sz st := by
  unfold astL at h
  split at h
  · rename_i x S'
    obtain ⟨h1, h2⟩ := acond h
    obtain ⟨h1, h3⟩ := rx_an h1
    obtain ⟨z, Sz', rfl, h4, h5⟩ := aRS_l X.2.2.2.1
    exact zcond h1 (hK _ _ _ _ _ _ h2 _ _ _ _ ((X.sk h5).lo (aRL_put2 X.2.2.1 h3 (u := .inr (.inl z)) h4)))
  · cases h
theorem s_stA (hK : aKs gt m st0 n0 rho0 K Kz) (X : aX gt m st0 n0 rho0 F rho L S O A Lz Sz st) {a : Nat} (h : astA nL K rest a L S F O A = true) : zstA nL Kz rest a Lz Sz st := by
  unfold astA at h
  split at h
  · rename_i x S'
    obtain ⟨h1, h2⟩ := acond h
    obtain ⟨h1, h3⟩ := rx_an h1
    obtain ⟨Sz', rfl, h5⟩ := aRS_r X.2.2.2.1
    exact zcond h1 (hK _ _ _ _ _ _ h2 _ _ _ _ ((X.sk h5).lo (aRL_put1 X.2.2.1 h3 (v := .inr (.inr x)) (u := .inr (.inr (.inl x))) rfl)))
  · cases h
theorem zwI (z : Int) (h1 : afI.1 ≤ z) (h2 : z ≤ afI.2) : zw z = z := zw_id ⟨h1, h2⟩
theorem zxJ (z : Int) (h1 : afJ.1 ≤ z) (h2 : z ≤ afJ.2) : zx z = z := zx_id ⟨h1, h2⟩
theorem s_inc (hK : aKs gt m st0 n0 rho0 K Kz) (X : aX gt m st0 n0 rho0 F rho L S O A Lz Sz st) {a b : Nat} (h : ainc nL K rest a b L S F O A = true) : zinc nL Kz rest a b Lz Sz st := by
  obtain ⟨v, h1, h2⟩ := aget_ok h
  obtain ⟨u, h3, h4⟩ := X.2.2.1 a v h1
  refine zget_of h3 ?_
  rcases v with x | (x | c)
  · rcases u with z | (z | (o | j))
    · obtain ⟨g1, g2⟩ := acond h2
      obtain ⟨g1, g3⟩ := rx_an g1
      obtain ⟨g3, g4⟩ := rx_an g3
      obtain ⟨F1, y, rho1, k1, k2, k3, k4⟩ := aad_ok (W := zw) (y := zd b) g2 zwI (fun z => zw_ok z) X.1 h4 (show zd b = zd b from rfl)
      have X1 := X.ex k2 k3
      show cond (Nat.blt a nL && Nat.blt b 4294967296) _ False
      rw [g1, g3]
      exact hK _ _ _ _ _ _ k1 _ _ _ _ (X1.lo (aRL_put1 X1.2.2.1 g4 (u := .inl (zw (z + zd b))) k4))
    · exact absurd h4 id
    · exact absurd h4 id
    · exact absurd h4 id
  · cases h2
  · cases h2
theorem s_2 {f : aF → aI → aI → (aF → aI → Bool) → Bool} {g : Int → Int → Int} (hf : ∀ {F : aF} {rho : Nat → Int} {a b : aI} {x y : Int} {k : aF → aI → Bool}, f F a b k = true → aokF F rho → arel (afl F) rho a x → arel (afl F) rho b y → aop k F rho (g x y)) (hK : aKs gt m st0 n0 rho0 K Kz) (X : aX gt m st0 n0 rho0 F rho L S O A Lz Sz st) (h : a2 f K rest L S F O A = true) : z2 g Kz rest Lz Sz st := by
  unfold a2 at h
  split at h
  · rename_i y x S'
    obtain ⟨zy, Sz', rfl, h1, h2⟩ := aRS_i X.2.2.2.1
    obtain ⟨zx, Sz'', rfl, h3, h4⟩ := aRS_i h2
    obtain ⟨F1, v, rho1, k1, k2, k3, k4⟩ := hf h X.1 h3 h1
    exact hK _ _ _ _ _ _ k1 _ _ _ _ (((X.sk h4).ex k2 k3).sk ⟨k4, aRS.ext k3 h4⟩)
  · cases h
theorem s_2n {f : aF → aI → aI → (aF → aI → Bool) → Bool} {g : Int → Int → Int} (hf : ∀ {F : aF} {rho : Nat → Int} {a b : aI} {x y : Int} {k : aF → aI → Bool}, f F a b k = true → aokF F rho → arel (afl F) rho a x → arel (afl F) rho b y → ¬ y = 0 ∧ aop k F rho (g x y)) (hK : aKs gt m st0 n0 rho0 K Kz) (X : aX gt m st0 n0 rho0 F rho L S O A Lz Sz st) (h : a2 f K rest L S F O A = true) : z2n g Kz rest Lz Sz st := by
  unfold a2 at h
  split at h
  · rename_i y x S'
    obtain ⟨zy, Sz', rfl, h1, h2⟩ := aRS_i X.2.2.2.1
    obtain ⟨zx, Sz'', rfl, h3, h4⟩ := aRS_i h2
    obtain ⟨h0, F1, v, rho1, k1, k2, k3, k4⟩ := hf h X.1 h3 h1
    exact ⟨h0, hK _ _ _ _ _ _ k1 _ _ _ _ (((X.sk h4).ex k2 k3).sk ⟨k4, aRS.ext k3 h4⟩)⟩
  · cases h
theorem s_2l {f : aF → aI → aI → (aF → aI → Bool) → Bool} {g : Int → Int → Int} (hf : ∀ {F : aF} {rho : Nat → Int} {a b : aI} {x y : Int} {k : aF → aI → Bool}, f F a b k = true → aokF F rho → arel (afl F) rho a x → arel (afl F) rho b y → aop k F rho (g x y)) (hK : aKs gt m st0 n0 rho0 K Kz) (X : aX gt m st0 n0 rho0 F rho L S O A Lz Sz st) (h : a2l f K rest L S F O A = true) : z2l g Kz rest Lz Sz st := by
  unfold a2l at h
  split at h
  · rename_i y x S'
    obtain ⟨zy, Sz', rfl, h1, h2⟩ := aRS_l X.2.2.2.1
    obtain ⟨zx, Sz'', rfl, h3, h4⟩ := aRS_l h2
    obtain ⟨F1, v, rho1, k1, k2, k3, k4⟩ := hf h X.1 h3 h1
    exact hK _ _ _ _ _ _ k1 _ _ _ _ (((X.sk h4).ex k2 k3).sk ⟨k4, aRS.ext k3 h4⟩)
  · cases h
theorem s_2m {f : aF → aI → aI → (aF → aI → Bool) → Bool} {g : Int → Int → Int} (hf : ∀ {F : aF} {rho : Nat → Int} {a b : aI} {x y : Int} {k : aF → aI → Bool}, f F a b k = true → aokF F rho → arel (afl F) rho a x → arel (afl F) rho b y → ¬ y = 0 ∧ aop k F rho (g x y)) (hK : aKs gt m st0 n0 rho0 K Kz) (X : aX gt m st0 n0 rho0 F rho L S O A Lz Sz st) (h : a2l f K rest L S F O A = true) : z2m g Kz rest Lz Sz st := by
  unfold a2l at h
  split at h
  · rename_i y x S'
    obtain ⟨zy, Sz', rfl, h1, h2⟩ := aRS_l X.2.2.2.1
    obtain ⟨zx, Sz'', rfl, h3, h4⟩ := aRS_l h2
    obtain ⟨h0, F1, v, rho1, k1, k2, k3, k4⟩ := hf h X.1 h3 h1
    exact ⟨h0, hK _ _ _ _ _ _ k1 _ _ _ _ (((X.sk h4).ex k2 k3).sk ⟨k4, aRS.ext k3 h4⟩)⟩
  · cases h
theorem s_lcm (hK : aKs gt m st0 n0 rho0 K Kz) (X : aX gt m st0 n0 rho0 F rho L S O A Lz Sz st) (h : alcm K rest L S F O A = true) : zlcm Kz rest Lz Sz st := by
  unfold alcm at h
  split at h
  · rename_i y x S'
    obtain ⟨zy, Sz', rfl, h1, h2⟩ := aRS_l X.2.2.2.1
    obtain ⟨zx, Sz'', rfl, h3, h4⟩ := aRS_l h2
    obtain ⟨g1, h⟩ := acond h
    obtain ⟨g2, g3⟩ := acond h
    refine ⟨fun c => ?_, fun c => ?_, fun c => ?_⟩
    · obtain ⟨F1, k1, k2, k3⟩ := alt_ok g1 X.1 h3 h1 c
      exact hK _ _ _ _ _ _ k1 _ _ _ _ (((X.sk h4).rf k2 k3).sk ⟨rfl, aRS.ext (aext.of_eq rho k3) h4⟩)
    · obtain ⟨F1, k1, k2, k3⟩ := aeq_ok g2 X.1 h3 h1 c
      exact hK _ _ _ _ _ _ k1 _ _ _ _ (((X.sk h4).rf k2 k3).sk ⟨rfl, aRS.ext (aext.of_eq rho k3) h4⟩)
    · obtain ⟨F1, k1, k2, k3⟩ := alt_ok g3 X.1 h1 h3 c
      exact hK _ _ _ _ _ _ k1 _ _ _ _ (((X.sk h4).rf k2 k3).sk ⟨rfl, aRS.ext (aext.of_eq rho k3) h4⟩)
  · cases h
theorem s_i2l (hK : aKs gt m st0 n0 rho0 K Kz) (X : aX gt m st0 n0 rho0 F rho L S O A Lz Sz st) (h : ai2l K rest L S F O A = true) : zi2l Kz rest Lz Sz st := by
  unfold ai2l at h
  split at h
  · rename_i x S'
    obtain ⟨z, Sz', rfl, h1, h2⟩ := aRS_i X.2.2.2.1
    exact hK _ _ _ _ _ _ h _ _ _ _ (X.sk (Sz' := .inr (.inl z) :: Sz') ⟨h1, h2⟩)
  · cases h
theorem s_l2i (hK : aKs gt m st0 n0 rho0 K Kz) (X : aX gt m st0 n0 rho0 F rho L S O A Lz Sz st) (h : al2i K rest L S F O A = true) : zl2i Kz rest Lz Sz st := by
  unfold al2i at h
  split at h
  · rename_i x S'
    obtain ⟨z, Sz', rfl, h1, h2⟩ := aRS_l X.2.2.2.1
    cases c : ain afI (arg F x) with
    | true =>
      rw [c] at h
      have c := ain_ok c
      have ra := arg_ok X.1 h1
      have e : zw z = z := zwI z (by omega) (by omega)
      show Kz rest Lz (.inl (zw z) :: Sz') st
      rw [e]
      exact hK _ _ _ _ _ _ h _ _ _ _ (X.sk (Sz' := .inl z :: Sz') ⟨h1, h2⟩)
    | false =>
      rw [c] at h
      have h : afr F afI (fun F1 v => K rest L (.inl v :: S') F1 O A) = true := h
      obtain ⟨F1, v, rho1, k1, k2, k3, k4⟩ := afr_ok h X.1 (zw_ok z).1 (zw_ok z).2
      exact hK _ _ _ _ _ _ k1 _ _ _ _ (((X.sk h2).ex k2 k3).sk (Sz' := .inl (zw z) :: Sz') ⟨k4, aRS.ext k3 h2⟩)
  · cases h
theorem s_i2b (hK : aKs gt m st0 n0 rho0 K Kz) (X : aX gt m st0 n0 rho0 F rho L S O A Lz Sz st) (h : ai2b K rest L S F O A = true) : zi2b Kz rest Lz Sz st := by
  unfold ai2b at h
  split at h
  · rename_i x S'
    obtain ⟨z, Sz', rfl, h1, h2⟩ := aRS_i X.2.2.2.1
    obtain ⟨F1, v, rho1, k1, k2, k3, k4⟩ := afr_ok h X.1 (zb_ok z).1 (zb_ok z).2
    exact hK _ _ _ _ _ _ k1 _ _ _ _ (((X.sk h2).ex k2 k3).sk (Sz' := .inl (zb z) :: Sz') ⟨k4, aRS.ext k3 h2⟩)
  · cases h
theorem s_dup (hK : aKs gt m st0 n0 rho0 K Kz) (X : aX gt m st0 n0 rho0 F rho L S O A Lz Sz st) (h : adup K rest L S F O A = true) : zdup Kz rest Lz Sz st := by
  unfold adup at h
  split at h
  · rename_i v S'
    obtain ⟨h1, h2⟩ := acond h
    obtain ⟨u, Sz', rfl, h3, h4⟩ := aRS_v X.2.2.2.1
    exact zcond (by rw [avr_cat h3]; exact h1) (hK _ _ _ _ _ _ h2 _ _ _ _ (X.sk ⟨h3, h3, h4⟩))
  · cases h
theorem s_dup2 (hK : aKs gt m st0 n0 rho0 K Kz) (X : aX gt m st0 n0 rho0 F rho L S O A Lz Sz st) (h : adup2 K rest L S F O A = true) : zdup2 Kz rest Lz Sz st := by
  unfold adup2 at h
  split at h
  · rename_i v u S'
    obtain ⟨h1, h2⟩ := acond h
    obtain ⟨v', Sz', rfl, h3, h4⟩ := aRS_v X.2.2.2.1
    obtain ⟨u', Sz'', rfl, h5, h6⟩ := aRS_v h4
    exact zcond (by rw [avr_cat h3, avr_cat h5]; exact h1) (hK _ _ _ _ _ _ h2 _ _ _ _ (X.sk ⟨h3, h5, h3, h5, h6⟩))
  · cases h
theorem s_pop (hK : aKs gt m st0 n0 rho0 K Kz) (X : aX gt m st0 n0 rho0 F rho L S O A Lz Sz st) (h : apop K rest L S F O A = true) : zpop Kz rest Lz Sz st := by
  unfold apop at h
  split at h
  · rename_i v S'
    obtain ⟨h1, h2⟩ := acond h
    obtain ⟨v', Sz', rfl, h3, h4⟩ := aRS_v X.2.2.2.1
    exact zcond (by rw [avr_cat h3]; exact h1) (hK _ _ _ _ _ _ h2 _ _ _ _ (X.sk h4))
  · cases h
theorem s_icm {c : Jvm.ClassFile.Cond} {tgt : List rx_E} (hK : aKs gt m st0 n0 rho0 K Kz) (X : aX gt m st0 n0 rho0 F rho L S O A Lz Sz st) (h : aicm c K tgt rest L S F O A = true) : zicm c Kz tgt rest Lz Sz st := by
  unfold aicm at h
  split at h
  · rename_i y x S'
    obtain ⟨zy, Sz', rfl, h1, h2⟩ := aRS_i X.2.2.2.1
    obtain ⟨zx, Sz'', rfl, h3, h4⟩ := aRS_i h2
    obtain ⟨g1, g2⟩ := acond h
    refine ⟨fun k => ?_, fun k => ?_⟩
    · obtain ⟨F1, k1, k2, k3⟩ := acm_ok g1 X.1 h3 h1 k
      exact hK _ _ _ _ _ _ k1 _ _ _ _ ((X.sk h4).rf k2 k3)
    · obtain ⟨F1, k1, k2, k3⟩ := acm_ok g2 X.1 h3 h1 (acn_ok k)
      exact hK _ _ _ _ _ _ k1 _ _ _ _ ((X.sk h4).rf k2 k3)
  · cases h
theorem s_ifc {c : Jvm.ClassFile.Cond} {tgt : List rx_E} (hK : aKs gt m st0 n0 rho0 K Kz) (X : aX gt m st0 n0 rho0 F rho L S O A Lz Sz st) (h : aifc c K tgt rest L S F O A = true) : zifc c Kz tgt rest Lz Sz st := by
  unfold aifc at h
  split at h
  · rename_i x S'
    obtain ⟨zx, Sz', rfl, h3, h4⟩ := aRS_i X.2.2.2.1
    have h0 : arel (afl F) rho (none, 0) 0 := rfl
    obtain ⟨g1, g2⟩ := acond h
    refine ⟨fun k => ?_, fun k => ?_⟩
    · obtain ⟨F1, k1, k2, k3⟩ := acm_ok g1 X.1 h3 h0 k
      exact hK _ _ _ _ _ _ k1 _ _ _ _ ((X.sk h4).rf k2 k3)
    · obtain ⟨F1, k1, k2, k3⟩ := acm_ok g2 X.1 h3 h0 (acn_ok k)
      exact hK _ _ _ _ _ _ k1 _ _ _ _ ((X.sk h4).rf k2 k3)
  · cases h
theorem s_sws {P : Nat → aF → Bool} {Pz : Nat → Prop} {x : aI} {z : Int} (hF : aokF F rho) (hx : arel (afl F) rho x z) (hP : ∀ g F1, P g F1 = true → aokF F1 rho → afl F1 = afl F → Pz g) : ∀ {t : List Nat} {n : Int}, asws P F x t n = true → zsws Pz z t n := by
  intro t
  induction t with
  | nil => intro n h; exact trivial
  | cons g t ih =>
    intro n h
    obtain ⟨h1, h2⟩ := acond (show cond (aref F x n n (P g)) (asws P F x t (n + 1)) false = true from h)
    refine ⟨fun e => ?_, ih h2⟩
    obtain ⟨F1, k1, k2, k3⟩ := aref_ok h1 hF hx (by omega) (by omega)
    exact hP g F1 k1 k2 k3
theorem s_sw {a b c : Nat} {t : List Nat} (hK : aKs gt m st0 n0 rho0 K Kz) (X : aX gt m st0 n0 rho0 F rho L S O A Lz Sz st) (h : asw cd K a b c t L S F O A = true) : zsw cd Kz a b c t Lz Sz st := by
  unfold asw at h
  split at h
  · rename_i x S'
    obtain ⟨z, Sz', rfl, h3, h4⟩ := aRS_i X.2.2.2.1
    obtain ⟨g1, h⟩ := acond h
    obtain ⟨g2, h⟩ := acond h
    obtain ⟨g3, g4⟩ := acond h
    have hz := arg_ok X.1 h3
    refine zcond g1 ⟨fun e => ?_, fun e => ?_, s_sws (P := fun g F1 => K (rx_find cd g) L S' F1 O A) (Pz := fun g => Kz (rx_find cd g) Lz Sz' st) X.1 h3 (fun g F1 k1 k2 k3 => hK _ _ _ _ _ _ k1 _ _ _ _ ((X.sk h4).rf k2 k3)) g4⟩
    · obtain ⟨F1, k1, k2, k3⟩ := aref_ok g2 X.1 h3 hz.1 (by omega)
      exact hK _ _ _ _ _ _ k1 _ _ _ _ ((X.sk h4).rf k2 k3)
    · obtain ⟨F1, k1, k2, k3⟩ := aref_ok g3 X.1 h3 (by omega) hz.2
      exact hK _ _ _ _ _ _ k1 _ _ _ _ ((X.sk h4).rf k2 k3)
  · cases h
end ASND
end
section
/-! a step of the interval executor is a step of the second layer: fields, arrays, calls, ends -/
section ASND2
variable {gt : aG} {m : aM} {st0 : zS} {n0 : Nat} {rho0 : Nat → Int} {K : aK} {Kz : zG} {rest cd : List rx_E} {F : aF} {rho : Nat → Int} {L : aL} {S : List aV} {O : aO} {A : aA} {Lz : zL} {Sz : List zV} {st : zS} {Sh : List zC} {nL q : Nat} {call : zCall} {ic : aC} {kc : aE} {Rt : zQ}
theorem aX.sto {O' : aO} {A' : aA} {st' : zS} (X : aX gt m st0 n0 rho0 F rho L S O A Lz Sz st) (h : aRT gt (afl F) rho O' A' st') (hf : aFr m st0 st') : aX gt m st0 n0 rho0 F rho L S O' A' Lz Sz st' := ⟨X.1, X.2.1, X.2.2.1, X.2.2.2.1, h, hf⟩
theorem zcondE {b : Bool} {P Q : Prop} (h : b = true) (k : P) : cond b P Q := by rw [h]; exact k
theorem akd_ok {k n : Nat} {v : aI} {z : Int} {g : aV → Bool} (hk : k < 10) (h : akd k v g = true) (hv : arel n rho v z) : ∃ u, g u = true ∧ avr n rho u (zK k z) := by
  unfold akd at h
  unfold zK
  rw [zK_lt hk]
  cases c3 : Nat.beq k 3 with
  | true =>
    rw [c3] at h
    exact ⟨_, h, hv⟩
  | false =>
    rw [c3] at h
    cases c4 : Nat.beq k 4 with
    | true =>
      rw [c4] at h
      obtain ⟨s, c⟩ := v
      cases s with
      | none =>
        obtain ⟨h1, h2⟩ := acond (show cond (ile 0 c) (g (.inr (.inr c.toNat))) false = true from h)
        have hv : z = c := hv
        refine ⟨_, h2, ?_⟩
        show c.toNat = z.toNat
        rw [hv]
      | some s => cases h
    | false =>
      rw [c4] at h
      exact ⟨_, h, hv⟩
theorem ard_ok {c f k : Nat} {g : aV → aF → aO → Bool} (hk : k < 10) (h : ard gt c f k F O g = true) (hF : aokF F rho) (hT : aRT gt (afl F) rho O A st) : ∃ u F1 O1 rho1, g u F1 O1 = true ∧ aokF F1 rho1 ∧ aext (afl F) rho (afl F1) rho1 ∧ avr (afl F1) rho1 u (zK k (st c f)) ∧ aRT gt (afl F1) rho1 O1 A st := by
  rcases aolk_ok h with ⟨v, h1, h2⟩ | ⟨h1, h2⟩
  · obtain ⟨u, h3, h4⟩ := akd_ok hk h2 (hT.1 c f v h1).2
    exact ⟨u, F, O, rho, h3, hF, aext.rf _ _, h4, hT⟩
  · obtain ⟨l, bs, h3, h4, h5⟩ := agb_ok h2
    have h6 : ulk A c = none := by
      cases q : ulk A c with
      | none => rfl
      | some b =>
        obtain ⟨⟨b', h7⟩, -⟩ := hT.2.1 c b q
        rw [h3] at h7
        cases h7
    have h7 := hT.2.2 c f h1 h6
    unfold gok at h7
    rw [h3] at h7
    dsimp only at h7
    rw [h4] at h7
    obtain ⟨b, hb, hz⟩ := h7
    obtain ⟨F1, v, rho1, k1, k2, k3, k4⟩ := afr_ok (aall_ok h5 b hb) hF hz.1 hz.2
    obtain ⟨u, k5, k6⟩ := akd_ok hk k1 k4
    refine ⟨u, F1, _, rho1, k5, k2, k3, k6, ?_⟩
    have hT1 := hT.ext k3
    refine ⟨fun c' i v' hv' => ?_, hT1.2.1, fun c' i hn hu => ?_⟩
    · unfold olk at hv'
      by_cases e : c = c' ∧ f = i
      · rw [if_pos e] at hv'
        cases hv'
        obtain ⟨rfl, rfl⟩ := e
        exact ⟨⟨l, h3⟩, k4⟩
      · rw [if_neg e] at hv'
        exact hT1.1 c' i v' hv'
    · unfold olk at hn
      by_cases e : c = c' ∧ f = i
      · rw [if_pos e] at hn
        cases hn
      · rw [if_neg e] at hn
        exact hT1.2.2 c' i hn hu
theorem s_gf {a b c : Nat} (hK : aKs gt m st0 n0 rho0 K Kz) (X : aX gt m st0 n0 rho0 F rho L S O A Lz Sz st) (h : agf Sh gt K rest a b c L S F O A = true) : zgf Sh Kz rest a b c Lz Sz st := by
  unfold agf at h
  split at h
  · rename_i o S'
    obtain ⟨Sz', rfl, h5⟩ := aRS_r X.2.2.2.1
    obtain ⟨h1, h⟩ := acond h
    obtain ⟨s, h2, h3⟩ := aat_ok h
    refine zcond h1 (zat_of h2 ?_)
    rcases s with ⟨a', ks⟩ | p
    · obtain ⟨h4, h6⟩ := acond h3
      obtain ⟨k, h7, h8⟩ := aat_ok h6
      refine zcond h4 (zat_of h7 ?_)
      cases ck : Nat.ble 10 k with
      | true =>
        rw [ck] at h8
        have e : zK k (st o b) = .inr (.inr (.inl (k - 10))) := by unfold zK; rw [ck]; rfl
        rw [e]
        exact hK _ _ _ _ _ _ h8 _ _ _ _ (X.sk ⟨rfl, h5⟩)
      | false =>
        rw [ck] at h8
        have hk : k < 10 := rx_bF ck
        have h8 : ard gt o b k F O (fun v F1 O1 => K rest L (v :: S') F1 O1 A) = true := h8
        obtain ⟨u, F1, O1, rho1, k1, k2, k3, k4, k5⟩ := ard_ok (A := A) (st := st) hk h8 X.1 X.2.2.2.2.1
        have X1 := (X.sk h5).ex k2 k3
        exact hK _ _ _ _ _ _ k1 _ _ _ _ ((X1.sk (S' := u :: S') (Sz' := zK k (st o b) :: Sz') ⟨k4, X1.2.2.2.1⟩).sto k5 X1.2.2.2.2.2)
    · cases h3
  · cases h
theorem s_pf {a b c : Nat} (hK : aKs gt m st0 n0 rho0 K Kz) (X : aX gt m st0 n0 rho0 F rho L S O A Lz Sz st) (h : apf Sh gt m K rest a b c L S F O A = true) : zpf Sh Kz rest a b c Lz Sz st := by
  unfold apf at h
  split at h
  · rename_i v o S'
    obtain ⟨u, Sz', rfl, h4, h5⟩ := aRS_v X.2.2.2.1
    obtain ⟨Sz'', rfl, h6⟩ := aRS_r h5
    obtain ⟨s, h2, h3⟩ := aat_ok h
    refine zat_of h2 ?_
    rcases s with ⟨a', ks⟩ | p
    · obtain ⟨h7, h8⟩ := acond h3
      obtain ⟨h7, h9⟩ := rx_an h7
      obtain ⟨l, bs, g1, g2, g3⟩ := agb_ok h8
      obtain ⟨k, g4, g5⟩ := aat_ok g3
      obtain ⟨g6, g7⟩ := acond g5
      refine zcond h7 (zat_of g4 (zcond g6 ?_))
      have key : ∀ (x : aI) (z : Int), arel (afl F) rho x z → K rest L S' F (aos O o b x) A = true → Kz rest Lz Sz'' (zup st o b z) := fun x z hx hk => hK _ _ _ _ _ _ hk _ _ _ _ ((X.sk h6).sto (aRT_put X.2.2.2.2.1 g1 hx) (aFr_put X.2.2.2.2.2 h9 z))
      rcases v with x | (x | r)
      · rcases u with z | (z | (o' | j))
        · obtain ⟨g8, g9⟩ := acond g7
          rcases Bool.or_eq_true_iff.mp g8 with g8 | g8
          · exact zcondE g8 (key x z h4 g9)
          · obtain ⟨g8, g10⟩ := rx_an g8
            have g8' := rx_bq g8
            subst g8'
            have g10 := ain_ok g10
            have g11 := arg_ok X.1 h4
            have g12 : (0 : Int) ≤ (arg F x).1 := g10.1
            have g13 : (arg F x).2 ≤ (1 : Int) := g10.2
            exact ⟨by omega, key x z h4 g9⟩
        · exact absurd h4 id
        · exact absurd h4 id
        · exact absurd h4 id
      · rcases u with z | (z | (o' | j))
        · exact absurd h4 id
        · obtain ⟨g8, g9⟩ := acond g7
          exact zcond g8 (key x z h4 g9)
        · exact absurd h4 id
        · exact absurd h4 id
      · rcases u with z | (z | (o' | j))
        · exact absurd h4 id
        · exact absurd h4 id
        · have e : r = o' := h4
          subst e
          obtain ⟨g8, g9⟩ := acond g7
          exact zcond g8 (key (none, (r : Int)) (r : Int) rfl g9)
        · exact absurd h4 id
    · cases h3
  · cases h
theorem aspl_ok {v : aI} {lo z : Int} {k : aF → Int → Bool} (hF : aokF F rho) (hv : arel (afl F) rho v z) : ∀ {n : Nat}, aspl F v lo k n = true → lo ≤ z → z < lo + (n : Int) → ∃ F1, k F1 z = true ∧ aokF F1 rho ∧ afl F1 = afl F := by
  intro n
  induction n with
  | zero => intro _ h1 h2; omega
  | succ n ih =>
    intro h h1 h2
    obtain ⟨g1, g2⟩ := acond (show cond (aref F v (lo + (n : Int)) (lo + (n : Int)) (fun F1 => k F1 (lo + (n : Int)))) (aspl F v lo k n) false = true from h)
    by_cases e : z = lo + (n : Int)
    · obtain ⟨F1, k1, k2, k3⟩ := aref_ok g1 hF hv (by omega) (by omega)
      rw [← e] at k1
      exact ⟨F1, k1, k2, k3⟩
    · exact ih g2 h1 (by omega)
theorem s_al {q : Nat} (hK : aKs gt m st0 n0 rho0 K Kz) (X : aX gt m st0 n0 rho0 F rho L S O A Lz Sz st) (h : aal Sh gt q K rest L S F O A = true) (hq : q = 0 ∨ q = 1 ∨ q = 3 ∨ q = 4) : zal Sh q Kz rest Lz Sz st := by
  unfold aal at h
  split at h
  · rename_i j o S'
    obtain ⟨zj, Sz', rfl, h4, h5⟩ := aRS_i X.2.2.2.1
    obtain ⟨Sz'', rfl, h6⟩ := aRS_r h5
    obtain ⟨s, h2, h3⟩ := aat_ok h
    refine zat_of h2 ?_
    rcases s with p | ⟨t, n⟩
    · cases h3
    · obtain ⟨h7, h8⟩ := acond h3
      obtain ⟨h9, h10⟩ := acond h8
      have h9 := ain_ok h9
      have hb := arg_ok X.1 h4
      have b1 : (0 : Int) ≤ (arg F j).1 := h9.1
      have b2 : (arg F j).2 ≤ (n : Int) - 1 := h9.2
      refine zcond h7 ⟨⟨by omega, by show zj < (n : Int); omega⟩, ?_⟩
      show Kz rest Lz (zK t (st o zj.toNat) :: Sz'') st
      cases c4 : Nat.beq q 4 with
      | true =>
        have e4 := rx_bq c4
        subst e4
        have et : t = 4 := by
          rcases Bool.or_eq_true_iff.mp h7 with k | k
          · exact rx_bq k
          · cases (rx_an k).1
        subst et
        have h10 : aspl F j (arg F j).1 (fun F1 i => aolk O o i.toNat (fun _ => false) (agb gt o i.toNat (fun bs => aall (fun b => cond (ieq b.1 b.2 && ile 0 b.1) (K rest L (.inr (.inr b.1.toNat) :: S') F1 O A) false) bs))) ((arg F j).2 - (arg F j).1 + 1).toNat = true := h10
        obtain ⟨F1, k1, k2, k3⟩ := aspl_ok X.1 h4 h10 hb.1 (by omega)
        rcases aolk_ok k1 with ⟨v, -, k4⟩ | ⟨k4, k5⟩
        · cases k4
        · obtain ⟨l, bs, g1, g2, g3⟩ := agb_ok k5
          have hT := X.2.2.2.2.1
          have g4 : ulk A o = none := by
            cases q9 : ulk A o with
            | none => rfl
            | some b =>
              obtain ⟨⟨b', h11⟩, -⟩ := hT.2.1 o b q9
              rw [g1] at h11
              cases h11
          have g5 := hT.2.2 o zj.toNat k4 g4
          unfold gok at g5
          rw [g1] at g5
          dsimp only at g5
          rw [g2] at g5
          obtain ⟨b, hb', hz⟩ := g5
          obtain ⟨g6, g7⟩ := acond (aall_ok g3 b hb')
          obtain ⟨g8, g9⟩ := rx_an g6
          have g8 := ieq_ok g8
          have e : zK 4 (st o zj.toNat) = .inr (.inr (.inl b.1.toNat)) := by
            show (.inr (.inr (.inl (st o zj.toNat).toNat)) : zV) = _
            rw [show st o zj.toNat = b.1 by omega]
          rw [e]
          exact hK _ _ _ _ _ _ g7 _ _ _ _ (((X.sk h6).rf k2 k3).sk ⟨rfl, aRS.ext (aext.of_eq rho k3) h6⟩)
      | false =>
        rw [c4] at h10
        have h10 : aab gt A o (fun b => afr F b (fun F1 v => K rest L (cond (Nat.beq q 3) (.inr (.inl v)) (.inl v) :: S') F1 O A)) = true := h10
        obtain ⟨b, b0, g1, g2, g3⟩ := aab_ok X.2.2.2.2.1 h10
        obtain ⟨F1, v, rho1, k1, k2, k3, k4⟩ := afr_ok g2 X.1 (g3 zj.toNat).1 (g3 zj.toNat).2
        refine hK _ _ _ _ _ _ k1 _ _ _ _ (((X.sk h6).ex k2 k3).sk ⟨?_, aRS.ext k3 h6⟩)
        rcases hq with rfl | rfl | rfl | rfl
        · have et : t = 0 := by
            rcases Bool.or_eq_true_iff.mp h7 with k | k
            · exact rx_bq k
            · cases (rx_an k).1
          subst et
          exact k4
        · have et : t = 1 ∨ t = 2 := by
            rcases Bool.or_eq_true_iff.mp h7 with k | k
            · exact Or.inl (rx_bq k)
            · exact Or.inr (rx_bq (rx_an k).2)
          rcases et with rfl | rfl
          · exact k4
          · exact k4
        · have et : t = 3 := by
            rcases Bool.or_eq_true_iff.mp h7 with k | k
            · exact rx_bq k
            · cases (rx_an k).1
          subst et
          exact k4
        · cases c4
  · cases h
theorem s_as {q : Nat} (hK : aKs gt m st0 n0 rho0 K Kz) (X : aX gt m st0 n0 rho0 F rho L S O A Lz Sz st) (h : aas Sh gt m q K rest L S F O A = true) : zas Sh q Kz rest Lz Sz st := by
  unfold aas at h
  split at h
  · rename_i v j o S'
    obtain ⟨u, Sz', rfl, h4, h5⟩ := aRS_v X.2.2.2.1
    obtain ⟨zj, Sz'', rfl, h6, h7⟩ := aRS_i h5
    obtain ⟨Sz3, rfl, h8⟩ := aRS_r h7
    obtain ⟨s, h2, h3⟩ := aat_ok h
    refine zat_of h2 ?_
    rcases s with p | ⟨t, n⟩
    · cases h3
    · obtain ⟨h9, h10⟩ := acond h3
      obtain ⟨h9, h11⟩ := rx_an h9
      obtain ⟨h11, h12⟩ := rx_an h11
      have h11 := ain_ok h11
      have hb := arg_ok X.1 h6
      have b1 : (0 : Int) ≤ (arg F j).1 := h11.1
      have b2 : (arg F j).2 ≤ (n : Int) - 1 := h11.2
      refine zcond h9 ⟨⟨by omega, by show zj < (n : Int); omega⟩, ?_⟩
      have key : ∀ (b b0 b' : aB) (z : Int), gt[o]? = some (.inr b0) → (∀ i, b.1 ≤ st o i ∧ st o i ≤ b.2) → b'.1 ≤ b.1 → b.2 ≤ b'.2 → b'.1 ≤ z → z ≤ b'.2 → K rest L S' F O (aas0 A o b') = true → Kz rest Lz Sz3 (zup st o zj.toNat z) := by
        intro b b0 b' z e1 e2 e3 e4 e5 e6 e7
        refine hK _ _ _ _ _ _ e7 _ _ _ _ ((X.sk h8).sto (aRT_puta X.2.2.2.2.1 e1 (fun c i hc => zup_nc st z hc) (fun i => ?_)) (aFr_arr X.2.2.2.2.2 h12 (fun c i hc => zup_nc st z hc)))
        rw [zup_if]
        have := e2 i
        split <;> omega
      rcases v with x | (x | r)
      · rcases u with z | (z | (o' | i))
        · have h10 : aab gt A o (fun b => cond (Nat.beq t 0) (K rest L S' F O (aas0 A o (imin b.1 (arg F x).1, imax b.2 (arg F x).2))) (cond (Nat.beq t 1) (K rest L S' F O (aas0 A o (imin b.1 (-128), imax b.2 127))) (cond (Nat.beq t 2 && ain (0, 1) (arg F x)) (K rest L S' F O (aas0 A o (imin b.1 0, imax b.2 1))) false))) = true := h10
          obtain ⟨b, b0, g1, g2, g3⟩ := aab_ok X.2.2.2.2.1 h10
          have hz := arg_ok X.1 h4
          show cond (Nat.beq t 0) (Kz rest Lz Sz3 (zup st o zj.toNat z)) (cond (Nat.beq t 1) (Kz rest Lz Sz3 (zup st o zj.toNat (zb z))) (cond (Nat.beq t 2) ((z = 0 ∨ z = 1) ∧ Kz rest Lz Sz3 (zup st o zj.toNat z)) False))
          cases c0 : Nat.beq t 0 with
          | true =>
            simp only [c0] at g2
            have i1 := imin_le b.1 (arg F x).1
            have i2 := le_imax b.2 (arg F x).2
            exact key b b0 _ z g1 g3 i1.1 i2.1 (by dsimp only; omega) (by dsimp only; omega) g2
          | false =>
            simp only [c0] at g2
            cases c1 : Nat.beq t 1 with
            | true =>
              simp only [c1] at g2
              have i1 := imin_le b.1 (-128)
              have i2 := le_imax b.2 127
              have i3 := zb_ok z
              exact key b b0 _ (zb z) g1 g3 i1.1 i2.1 (by dsimp only; omega) (by dsimp only; omega) g2
            | false =>
              simp only [c1] at g2
              obtain ⟨g4, g5⟩ := acond g2
              obtain ⟨g4, g6⟩ := rx_an g4
              have g6 := ain_ok g6
              have g7 : (0 : Int) ≤ (arg F x).1 := g6.1
              have g8 : (arg F x).2 ≤ (1 : Int) := g6.2
              have i1 := imin_le b.1 0
              have i2 := le_imax b.2 1
              exact zcond g4 ⟨by omega, key b b0 _ z g1 g3 i1.1 i2.1 (by dsimp only; omega) (by dsimp only; omega) g5⟩
        · exact absurd h4 id
        · exact absurd h4 id
        · exact absurd h4 id
      · rcases u with z | (z | (o' | i))
        · exact absurd h4 id
        · obtain ⟨c3, h13⟩ := acond h10
          obtain ⟨b, b0, g1, g2, g3⟩ := aab_ok X.2.2.2.2.1 h13
          have hz := arg_ok X.1 h4
          have i1 := imin_le b.1 (arg F x).1
          have i2 := le_imax b.2 (arg F x).2
          exact zcond c3 (key b b0 _ z g1 g3 i1.1 i2.1 (by dsimp only; omega) (by dsimp only; omega) g2)
        · exact absurd h4 id
        · exact absurd h4 id
      · cases h10
  · cases h
theorem s_len (hK : aKs gt m st0 n0 rho0 K Kz) (X : aX gt m st0 n0 rho0 F rho L S O A Lz Sz st) (h : alen Sh K rest L S F O A = true) : zlen Sh Kz rest Lz Sz st := by
  unfold alen at h
  split at h
  · rename_i o S'
    obtain ⟨Sz', rfl, h5⟩ := aRS_r X.2.2.2.1
    obtain ⟨s, h2, h3⟩ := aat_ok h
    refine zat_of h2 ?_
    rcases s with p | ⟨t, n⟩
    · cases h3
    · exact hK _ _ _ _ _ _ h3 _ _ _ _ (X.sk (Sz' := .inl (n : Int) :: Sz') ⟨rfl, h5⟩)
  · cases h
theorem s_cpy (hK : aKs gt m st0 n0 rho0 K Kz) (X : aX gt m st0 n0 rho0 F rho L S O A Lz Sz st) (h : acpy Sh gt m K rest L S F O A = true) : zcpy Sh Kz rest Lz Sz st := by
  unfold acpy at h
  split at h
  · rename_i n dp c1 sp c0 S'
    obtain ⟨zn, Sz1, rfl, h1, hS1⟩ := aRS_i X.2.2.2.1
    obtain ⟨zdp, Sz2, rfl, h2, hS2⟩ := aRS_i hS1
    obtain ⟨Sz3, rfl, hS3⟩ := aRS_r hS2
    obtain ⟨zsp, Sz4, rfl, h3, hS4⟩ := aRS_i hS3
    obtain ⟨Sz5, rfl, hS⟩ := aRS_r hS4
    obtain ⟨h4, h⟩ := acond h
    obtain ⟨h4, h5⟩ := rx_an h4
    obtain ⟨s, h6, h⟩ := aat_ok h
    refine zcond (by rw [acats_z hS]; exact h4) (zat_of h6 ?_)
    rcases s with p | ⟨t0, l0⟩
    · cases h
    · obtain ⟨s, h7, h⟩ := aat_ok (show aat Sh c1 _ = true from h)
      refine zat_of h7 ?_
      rcases s with p | ⟨t1, l1⟩
      · cases h
      · obtain ⟨h8, h⟩ := acond h
        obtain ⟨h8, h9⟩ := rx_an h8
        obtain ⟨h9, h10⟩ := rx_an h9
        obtain ⟨h9, h11⟩ := rx_an h9
        obtain ⟨h11, h12⟩ := rx_an h11
        obtain ⟨h10, h13⟩ := rx_an h10
        have h9 := ile_ok h9
        have h11 := ile_ok h11
        have h12 := ile_ok h12
        have h10 : (arg F sp).2 + (arg F n).2 ≤ (l0 : Int) := ile_ok h10
        have h13 : (arg F dp).2 + (arg F n).2 ≤ (l1 : Int) := ile_ok h13
        have r1 := arg_ok X.1 h1
        have r2 := arg_ok X.1 h2
        have r3 := arg_ok X.1 h3
        refine zcond h8 ⟨⟨by omega, by omega, by omega, by show zsp + zn ≤ (l0 : Int); omega, by show zdp + zn ≤ (l1 : Int); omega⟩, ?_⟩
        obtain ⟨b0, b0', g1, g2, g3⟩ := aab_ok X.2.2.2.2.1 h
        obtain ⟨b1, b1', g4, g5, g6⟩ := aab_ok X.2.2.2.2.1 g2
        have hn : ∀ c i, ¬ c = c1 → zcp st c0 zsp.toNat c1 zdp.toNat zn.toNat c i = st c i := fun c i hc => by rw [zcp_if, if_neg (fun q => hc q.1)]
        refine hK _ _ _ _ _ _ g5 _ _ _ _ ((X.sk hS).sto (aRT_puta X.2.2.2.2.1 g4 hn (fun i => ?_)) (aFr_arr X.2.2.2.2.2 h5 hn))
        have i1 := imin_le b0.1 b1.1
        have i2 := le_imax b0.2 b1.2
        have k1 := g3 (zsp.toNat + (i - zdp.toNat))
        have k2 := g6 i
        dsimp only
        rw [zcp_if]
        split <;> omega
  · cases h
theorem atake_ok {n' : Nat} : ∀ {n : Nat} {S acc : List aV} {Sz accz : List zV} {k : List aV → List aV → Bool}, atake n S acc k = true → aRS n' rho S Sz → aRS n' rho acc accz → ∃ as S' asz Sz', k as S' = true ∧ aRS n' rho as asz ∧ aRS n' rho S' Sz' ∧ ∀ P : List zV → List zV → Prop, P asz Sz' → ztake n Sz accz P := by
  intro n
  induction n with
  | zero => intro S acc Sz accz k h h1 h2; exact ⟨acc, S, accz, Sz, h, h2, h1, fun P hp => hp⟩
  | succ n ih =>
    intro S acc Sz accz k h h1 h2
    cases S with
    | nil => cases h
    | cons v t =>
      obtain ⟨u, Sz', rfl, h3, h4⟩ := aRS_v h1
      obtain ⟨as, S', asz, Sz'', k1, k2, k3, k4⟩ := ih (S := t) (acc := v :: acc) h h4 (accz := u :: accz) ⟨h3, h2⟩
      exact ⟨as, S', asz, Sz'', k1, k2, k3, k4⟩
theorem apush_ok {n : Nat} {r : Option aV} {rz : Option zV} (h : aRo n rho r rz) (hS : aRS n rho S Sz) : aRS n rho (apush r S) (zpush rz Sz) := by
  cases r with
  | none => cases rz with
    | none => exact hS
    | some u => exact absurd h id
  | some v => cases rz with
    | none => exact absurd h id
    | some u => exact ⟨h, hS⟩
theorem s_inv {nu n q a : Nat} (hK : aKs gt m st0 n0 rho0 K Kz) (hC : aCs gt m st0 n0 rho0 ic call) (X : aX gt m st0 n0 rho0 F rho L S O A Lz Sz st) (h : ainv Sh ic K rest nu n q a L S F O A = true) : zinv Sh call Kz rest nu n q a Lz Sz st := by
  obtain ⟨as, S', asz, Sz', h1, h2, h3, h4⟩ := atake_ok h X.2.2.2.1 (show aRS (afl F) rho [] [] from trivial)
  refine h4 _ ?_
  obtain ⟨h5, h6⟩ := acond h1
  refine zcond (by rw [acats_z h3]; exact h5) ?_
  have key : ic nu as F O A (fun r F1 O1 A1 => K rest L (apush r S') F1 O1 A1) = true → call nu asz st (fun r st' => Kz rest Lz (zpush r Sz') st') := by
    intro hi
    refine hC _ _ _ _ _ _ hi rho asz st X.1 X.2.1 h2 X.2.2.2.2.1 X.2.2.2.2.2 _ ?_
    intro r F1 O1 A1 hk rho1 rz st1 g1 g2 g3 g4 g5
    exact hK _ _ _ _ _ _ hk _ _ _ _ ⟨g1, X.2.1.tr g2, X.2.2.1.ext g2, apush_ok g3 (aRS.ext g2 h3), g4, g5⟩
  cases c0 : Nat.beq q 0 with
  | true =>
    rw [c0] at h6
    exact key h6
  | false =>
    rw [c0] at h6
    obtain ⟨h7, h8⟩ := acond (show cond (Nat.beq q 1) _ false = true from h6)
    show cond (Nat.beq q 1) _ False
    rw [h7]
    rcases as with _ | ⟨v, as⟩
    · cases h8
    · rcases v with x | (x | o)
      · cases h8
      · cases h8
      · obtain ⟨asz', rfl, h9⟩ := aRS_r h2
        obtain ⟨s, g1, g2⟩ := aat_ok (show aat Sh o _ = true from h8)
        refine zat_of g1 ?_
        rcases s with p | p
        · obtain ⟨g3, g4⟩ := acond g2
          exact zcond g3 (key g4)
        · cases g2
theorem s_ret (hE : aEs gt m st0 n0 rho0 kc Rt) (X : aX gt m st0 n0 rho0 F rho L S O A Lz Sz st) (h : aret q kc S F O A = true) : zret q Rt Sz st := by
  obtain ⟨h1, h2⟩ := acond h
  refine zcond h1 ?_
  have hS := X.2.2.2.1
  cases S with
  | cons v t => cases h2
  | nil =>
    cases Sz with
    | cons u t => exact absurd hS id
    | nil => exact hE _ _ _ _ h2 rho none st X.1 X.2.1 trivial X.2.2.2.2.1 X.2.2.2.2.2
theorem s_reti (hE : aEs gt m st0 n0 rho0 kc Rt) (X : aX gt m st0 n0 rho0 F rho L S O A Lz Sz st) (h : areti q kc S F O A = true) : zreti q Rt Sz st := by
  unfold areti at h
  split at h
  · rename_i x
    obtain ⟨z, Sz', rfl, h1, h2⟩ := aRS_i X.2.2.2.1
    cases Sz' with
    | cons u t => exact absurd h2 id
    | nil =>
      obtain ⟨h3, h4⟩ := acond h
      have hr : Rt (some (.inl z)) st := hE _ _ _ _ h4 rho (some (.inl z)) st X.1 X.2.1 h1 X.2.2.2.2.1 X.2.2.2.2.2
      show cond (Nat.beq q 1) (Rt (some (.inl z)) st) (cond (Nat.beq q 2) ((z = 0 ∨ z = 1) ∧ Rt (some (.inl z)) st) False)
      rcases Bool.or_eq_true_iff.mp h3 with h3 | h3
      · exact zcondE h3 hr
      · obtain ⟨h3, h5⟩ := rx_an h3
        have h6 := rx_bq h3
        subst h6
        have h5 := ain_ok h5
        have h7 := arg_ok X.1 h1
        have h8 : (0 : Int) ≤ (arg F x).1 := h5.1
        have h9 : (arg F x).2 ≤ (1 : Int) := h5.2
        exact ⟨by omega, hr⟩
  · cases h
theorem s_retl (hE : aEs gt m st0 n0 rho0 kc Rt) (X : aX gt m st0 n0 rho0 F rho L S O A Lz Sz st) (h : aretl q kc S F O A = true) : zretl q Rt Sz st := by
  unfold aretl at h
  split at h
  · rename_i x
    obtain ⟨z, Sz', rfl, h1, h2⟩ := aRS_l X.2.2.2.1
    cases Sz' with
    | cons u t => exact absurd h2 id
    | nil =>
      obtain ⟨h3, h4⟩ := acond h
      exact zcond h3 (hE _ _ _ _ h4 rho (some (.inr (.inl z))) st X.1 X.2.1 h1 X.2.2.2.2.1 X.2.2.2.2.2)
  · cases h
end ASND2
end
section
/-! a step of the interval executor is a step of the second layer: all of them -/
set_option maxHeartbeats 2000000 in
theorem astep_ok {gt : aG} {m : aM} {st0 : zS} {n0 : Nat} {rho0 : Nat → Int} {K : aK} {Kz : zG} {rest cd : List rx_E} {F : aF} {rho : Nat → Int} {L : aL} {S : List aV} {O : aO} {A : aA} {Lz : zL} {Sz : List zV} {st : zS} {Sh : List zC} {nL q : Nat} {call : zCall} {ic : aC} {kc : aE} {Rt : zQ} {e : rx_E} (hK : aKs gt m st0 n0 rho0 K Kz) (hE : aEs gt m st0 n0 rho0 kc Rt) (hC : aCs gt m st0 n0 rho0 ic call) (X : aX gt m st0 n0 rho0 F rho L S O A Lz Sz st) (h : astep Sh gt m cd nL q ic kc K e rest L S F O A = true) : zstep Sh cd nL q call Rt Kz e rest Lz Sz st := by
  obtain ⟨pc, i, len, a, b, k, t⟩ := e
  cases i with
  | iconst z => exact s_cst hK X h
  | bipush z => exact s_cst hK X h
  | sipush z => exact s_cst hK X h
  | ldc_w z => exact s_cst hK X h
  | ldc z =>
    obtain ⟨h1, h2⟩ := acond (show cond (Nat.beq b 0) _ false = true from h)
    exact zcond h1 (s_cst hK X h2)
  | lconst z => exact s_lst hK X h
  | ldc2_w z => exact s_lst hK X h
  | iload z => exact s_ldI hK X h
  | iload_n z => exact s_ldI hK X h
  | lload z => exact s_ldL hK X h
  | lload_n z => exact s_ldL hK X h
  | aload z => exact s_ldA hK X h
  | aload_n z => exact s_ldA hK X h
  | istore z => exact s_stI hK X h
  | istore_n z => exact s_stI hK X h
  | lstore z => exact s_stL hK X h
  | lstore_n z => exact s_stL hK X h
  | astore z => exact s_stA hK X h
  | astore_n z => exact s_stA hK X h
  | iinc z z2 => exact s_inc hK X h
  | iadd => exact s_2 (f := aad afI) (fun h hF ha hb => aad_ok (W := zw) h zwI (fun z => zw_ok z) hF ha hb) hK X h
  | isub => exact s_2 (f := asb afI) (fun h hF ha hb => asb_ok (W := zw) h zwI (fun z => zw_ok z) hF ha hb) hK X h
  | imul => exact s_2 (f := aml afI) (fun h hF ha hb => aml_ok (W := zw) h zwI (fun z => zw_ok z) hF ha hb) hK X h
  | iand => exact s_2 (f := aan afI) (fun h hF _ hb => aan_ok h hF hb) hK X h
  | ior => exact s_2 (f := aany afI) (fun h hF _ _ => aany_ok h hF (zd_ok (zlor _ _)).1 (zd_ok (zlor _ _)).2) hK X h
  | ixor => exact s_2 (f := aany afI) (fun h hF _ _ => aany_ok h hF (zd_ok (zlxor _ _)).1 (zd_ok (zlxor _ _)).2) hK X h
  | ishl => exact s_2 (f := aany afI) (fun h hF _ _ => aany_ok h hF (zd_ok (Nat.mod_lt _ (by decide))).1 (zd_ok (Nat.mod_lt _ (by decide))).2) hK X h
  | iushr => exact s_2 (f := aany afI) (fun h hF _ _ => aany_ok h hF (zd_ok (zush _ _)).1 (zd_ok (zush _ _)).2) hK X h
  | ishr => exact s_2 (f := ashr afI) (fun h hF ha _ => ashr_ok h hF ha (zpw_pos _)) hK X h
  | idiv => exact s_2n (f := adiv afI) (fun h hF _ hb => adiv_ok h hF hb (zw_ok _).1 (zw_ok _).2) hK X h
  | irem => exact s_2n (f := arem afI) (fun h hF ha hb => arem_ok (W := zw) h zwI (fun z => zw_ok z) rfl hF ha hb) hK X h
  | i2b => exact s_i2b hK X h
  | i2l => exact s_i2l hK X h
  | l2i => exact s_l2i hK X h
  | ladd => exact s_2l (f := aad afJ) (fun h hF ha hb => aad_ok (W := zx) h zxJ (fun z => zx_ok z) hF ha hb) hK X h
  | lsub => exact s_2l (f := asb afJ) (fun h hF ha hb => asb_ok (W := zx) h zxJ (fun z => zx_ok z) hF ha hb) hK X h
  | lmul => exact s_2l (f := aml afJ) (fun h hF ha hb => aml_ok (W := zx) h zxJ (fun z => zx_ok z) hF ha hb) hK X h
  | land => exact s_2l (f := aany afJ) (fun h hF _ _ => aany_ok h hF (ze_ok (zlandl _ _)).1 (ze_ok (zlandl _ _)).2) hK X h
  | lor => exact s_2l (f := aany afJ) (fun h hF _ _ => aany_ok h hF (ze_ok (zlorl _ _)).1 (ze_ok (zlorl _ _)).2) hK X h
  | ldiv => exact s_2m (f := adiv afJ) (fun h hF _ hb => adiv_ok h hF hb (zx_ok _).1 (zx_ok _).2) hK X h
  | lrem => exact s_2m (f := arem afJ) (fun h hF ha hb => arem_ok (W := zx) h zxJ (fun z => zx_ok z) rfl hF ha hb) hK X h
  | lcmp => exact s_lcm hK X h
  | dup => exact s_dup hK X h
  | dup2 => exact s_dup2 hK X h
  | pop => exact s_pop hK X h
  | if_icmp z z2 => exact s_icm hK X h
  | ifCond z z2 => exact s_ifc hK X h
  | goto z => exact hK _ _ _ _ _ _ h _ _ _ _ X
  | tableswitch z z2 z3 z4 => exact s_sw hK X h
  | getfield z => exact s_gf hK X h
  | putfield z => exact s_pf hK X h
  | iaload => exact s_al hK X h (Or.inl rfl)
  | baload => exact s_al hK X h (Or.inr (Or.inl rfl))
  | laload => exact s_al hK X h (Or.inr (Or.inr (Or.inl rfl)))
  | aaload => exact s_al hK X h (Or.inr (Or.inr (Or.inr rfl)))
  | iastore => exact s_as hK X h
  | bastore => exact s_as hK X h
  | lastore => exact s_as hK X h
  | arraylength => exact s_len hK X h
  | invokevirtual z =>
    obtain ⟨ci, h1, h2⟩ := aat_ok (show aat t 0 _ = true from h)
    exact zat_of h1 (s_inv hK hC X h2)
  | invokestatic z =>
    cases k0 : Nat.beq k 4 with
    | true =>
      have h : cond (Nat.beq k 4) (acpy Sh gt m K rest L S F O A) (ainv Sh ic K rest a b 0 0 L S F O A) = true := h
      rw [k0] at h
      exact zcondE k0 (s_cpy hK X h)
    | false =>
      have h : cond (Nat.beq k 4) (acpy Sh gt m K rest L S F O A) (ainv Sh ic K rest a b 0 0 L S F O A) = true := h
      rw [k0] at h
      show cond (Nat.beq k 4) _ _
      rw [k0]
      exact s_inv hK hC X h
  | return_ => exact s_ret hE X h
  | ireturn => exact s_reti hE X h
  | lreturn => exact s_retl hE X h
  | _ => exact absurd (show false = true from h) (by decide)
end
section
/-! calls of the interval executor; its runs -/
def aTz (t : aT) (u : zV) : Prop := match t, u with
  | .inl b, .inl z => b.1 ≤ z ∧ z ≤ b.2
  | .inr (.inl b), .inr (.inl z) => b.1 ≤ z ∧ z ≤ b.2
  | .inr (.inr c), .inr (.inr (.inl o)) => c = o
  | _, _ => False
def aTs : List aT → List zV → Prop
  | [], [] => True
  | t :: ts, u :: us => aTz t u ∧ aTs ts us
  | _, _ => False
def aRz (r : Option (aB ⊕ aB)) (u : Option zV) : Prop := match r, u with
  | none, none => True
  | some (.inl b), some (.inl z) => b.1 ≤ z ∧ z ≤ b.2
  | some (.inr b), some (.inr (.inl z)) => b.1 ≤ z ∧ z ≤ b.2
  | _, _ => False
/-- the frames that a summary asks for are at most d -/
def aNd (s : aS) (asz : List zV) (d : Int) : Prop := (s.2.2.2.2.1 = 0 → (s.2.2.2.1 : Int) ≤ d) ∧ (¬ s.2.2.2.2.1 = 0 → ∃ z, asz[s.2.2.2.2.2]? = some (.inl z) ∧ (s.2.2.2.1 : Int) - (s.2.2.2.2.1 : Int) * z ≤ d)
/-- a summary holds of the calls of depth d -/
def aSp (gt : aG) (cl : Nat → zCall) (d nu : Nat) (s : aS) : Prop := ∀ (asz : List zV) (st : zS), aTs s.1 asz → gInv gt st → aNd s asz (d : Int) → ∀ Q : zQ, (∀ rz st', gInv gt st' → aFr s.2.1 st st' → aRz s.2.2.1 rz → Q rz st') → cl d nu asz st Q
theorem amt_ok {F : aF} {rho : Nat → Int} {t : aT} {v : aV} {u : zV} (hF : aokF F rho) (h : amt F t v = true) (hv : avr (afl F) rho v u) : aTz t u := by
  rcases t with b | (b | c)
  · rcases v with x | (x | o)
    · rcases u with z | (z | (o' | j))
      · have h1 := ain_ok (show ain b (arg F x) = true from h)
        have h2 := arg_ok hF (show arel (afl F) rho x z from hv)
        exact ⟨by omega, by omega⟩
      · exact absurd hv id
      · exact absurd hv id
      · exact absurd hv id
    · cases h
    · cases h
  · rcases v with x | (x | o)
    · cases h
    · rcases u with z | (z | (o' | j))
      · exact absurd hv id
      · have h1 := ain_ok (show ain b (arg F x) = true from h)
        have h2 := arg_ok hF (show arel (afl F) rho x z from hv)
        exact ⟨by omega, by omega⟩
      · exact absurd hv id
      · exact absurd hv id
    · cases h
  · rcases v with x | (x | o)
    · cases h
    · cases h
    · rcases u with z | (z | (o' | j))
      · exact absurd hv id
      · exact absurd hv id
      · have h1 := rx_bq (show Nat.beq c o = true from h)
        show c = o'
        rw [h1]
        exact hv
      · exact absurd hv id
theorem ams_ok {F : aF} {rho : Nat → Int} (hF : aokF F rho) : ∀ {ts : List aT} {as : List aV} {asz : List zV}, ams F ts as = true → aRS (afl F) rho as asz → aTs ts asz := by
  intro ts
  induction ts with
  | nil =>
    intro as asz h hv
    cases as with
    | nil => cases asz with
      | nil => trivial
      | cons u t => exact absurd hv id
    | cons v t => cases h
  | cons t ts ih =>
    intro as asz h hv
    cases as with
    | nil => cases h
    | cons v vs =>
      obtain ⟨h1, h2⟩ := acond (show cond (amt F t v) (ams F ts vs) false = true from h)
      obtain ⟨u, us, rfl, h3, h4⟩ := aRS_v hv
      exact ⟨amt_ok hF h1 h3, ih h2 h4⟩
theorem aRS_at {n : Nat} {rho : Nat → Int} : ∀ {as : List aV} {asz : List zV} {i : Nat} {v : aV}, aRS n rho as asz → as[i]? = some v → ∃ u, asz[i]? = some u ∧ avr n rho v u := by
  intro as
  induction as with
  | nil => intro asz i v h hi; simp at hi
  | cons w t ih =>
    intro asz i v h hi
    obtain ⟨u, us, rfl, h1, h2⟩ := aRS_v h
    cases i with
    | zero =>
      simp at hi
      rw [← hi]
      exact ⟨u, rfl, h1⟩
    | succ i =>
      obtain ⟨x, h3, h4⟩ := ih h2 (by simpa using hi)
      exact ⟨x, by simpa using h3, h4⟩
theorem aset_ok {n : Nat} {rho : Nat → Int} {w : aV} : ∀ {as : List aV} {asz : List zV} {i : Nat} {u : zV}, aRS n rho as asz → asz[i]? = some u → avr n rho w u → aRS n rho (aset as i w) asz := by
  intro as
  induction as with
  | nil =>
    intro asz i u h hi hw
    cases asz with
    | nil => simp at hi
    | cons x t => exact absurd h id
  | cons v t ih =>
    intro asz i u h hi hw
    obtain ⟨x, us, rfl, h1, h2⟩ := aRS_v h
    cases i with
    | zero =>
      simp at hi
      rw [← hi] at hw
      exact ⟨hw, h2⟩
    | succ i => exact ⟨h1, ih h2 (by simpa using hi) hw⟩
section ACAL
variable {gt : aG} {m : aM} {st0 : zS} {n0 : Nat} {rho0 : Nat → Int} {F : aF} {rho : Nat → Int} {O : aO} {A : aA} {st : zS} {cl : Nat → zCall} {rk wt zo : Int} {vo : aI} {kc : aE}
theorem andc_ok {j dj d : Nat} {s : aS} {as : List aV} {asz : List zV} (hF : aokF F rho) (hv : aRS (afl F) rho as asz) (hvo : arel (afl F) rho vo zo) (hw : 0 ≤ wt) (hn : rk - wt * zo ≤ (d : Int) + 1) (hj : dj + j = d) (h : andc rk wt vo j F s as = true) : aNd s asz (dj : Int) := by
  have ro := arg_ok hF hvo
  have hm : wt * zo ≤ wt * (arg F vo).2 := Int.mul_le_mul_of_nonneg_left ro.2 hw
  unfold andc at h
  refine ⟨fun e => ?_, fun e => ?_⟩
  · have e1 : Nat.beq s.2.2.2.2.1 0 = true := by rw [zbeq, decide_eq_true e]
    rw [e1] at h
    have h1 := ile_ok (show ile ((s.2.2.2.1 : Int) + (j : Int) + 1) (rk - wt * (arg F vo).2) = true from h)
    omega
  · have e1 : Nat.beq s.2.2.2.2.1 0 = false := by rw [zbeq, decide_eq_false e]
    rw [e1] at h
    obtain ⟨v, h1, h2⟩ := aat_ok (show aat as s.2.2.2.2.2 _ = true from h)
    obtain ⟨u, h3, h4⟩ := aRS_at hv h1
    rcases v with a | (a | c)
    · rcases u with z | (z | (o | i))
      · refine ⟨z, h3, ?_⟩
        have h4 : arel (afl F) rho a z := h4
        have ra := arg_ok hF h4
        cases c1 : (aon a.1 vo.1 && ieq (s.2.2.2.2.1 : Int) wt) with
        | true =>
          simp only [c1] at h2
          obtain ⟨c1, c2⟩ := rx_an c1
          have c1 := aon_ok c1
          have c2 := ieq_ok c2
          have h5 := ile_ok (show ile ((s.2.2.2.1 : Int) - wt * a.2 + (j : Int) + 1) (rk - wt * vo.2) = true from h2)
          have e2 : z - a.2 = zo - vo.2 := by
            obtain ⟨ka, ca⟩ := a
            obtain ⟨kb, cb⟩ := vo
            dsimp only at c1
            subst c1
            cases ka with
            | none => have h4 : z = ca := h4; have hvo : zo = cb := hvo; show z - ca = zo - cb; omega
            | some ka =>
              obtain ⟨-, g1⟩ : ka < afl F ∧ z = rho ka + ca := h4
              obtain ⟨-, g2⟩ : ka < afl F ∧ zo = rho ka + cb := hvo
              show z - ca = zo - cb
              omega
          rw [c2]
          have e3 : wt * z = wt * a.2 + (wt * zo - wt * vo.2) := by
            have : z = a.2 + (zo - vo.2) := by omega
            rw [this, Int.mul_add, Int.mul_sub]
          omega
        | false =>
          simp only [c1] at h2
          have h5 := ile_ok (show ile ((s.2.2.2.1 : Int) - (s.2.2.2.2.1 : Int) * (arg F a).1 + (j : Int) + 1) (rk - wt * (arg F vo).2) = true from h2)
          have h6 : (s.2.2.2.2.1 : Int) * (arg F a).1 ≤ (s.2.2.2.2.1 : Int) * z := Int.mul_le_mul_of_nonneg_left ra.1 (Int.natCast_nonneg _)
          omega
      · exact absurd h4 id
      · exact absurd h4 id
      · exact absurd h4 id
    · cases h2
    · cases h2
theorem olk_fil {P : (Nat × Nat) × aI → Bool} {c i : Nat} {v : aI} (hP : ∀ u u', P ((c, i), u) = P ((c, i), u')) : ∀ {O : aO}, olk (afil P O) c i = some v → olk O c i = some v ∧ P ((c, i), v) = true := by
  intro O
  induction O with
  | nil => intro h; cases h
  | cons q t ih =>
    intro h
    obtain ⟨⟨c', i'⟩, w⟩ := q
    change olk (cond (P ((c', i'), w)) (((c', i'), w) :: afil P t) (afil P t)) c i = some v at h
    unfold olk
    by_cases e : c' = c ∧ i' = i
    · rw [if_pos e]
      obtain ⟨rfl, rfl⟩ := e
      cases c2 : P ((c', i'), w) with
      | true =>
        rw [c2] at h
        change (if c' = c' ∧ i' = i' then some w else _) = some v at h
        rw [if_pos ⟨rfl, rfl⟩] at h
        cases h
        exact ⟨rfl, c2⟩
      | false =>
        rw [c2] at h
        obtain ⟨-, h2⟩ := ih h
        rw [hP v w, c2] at h2
        cases h2
    · rw [if_neg e]
      cases c2 : P ((c', i'), w) with
      | true =>
        rw [c2] at h
        change (if c' = c ∧ i' = i then some w else olk (afil P t) c i) = some v at h
        rw [if_neg e] at h
        exact ih h
      | false => rw [c2] at h; exact ih h
theorem ulk_fil {P : Nat × aB → Bool} {c : Nat} {b : aB} (hP : ∀ u u', P (c, u) = P (c, u')) : ∀ {A : aA}, ulk (afil P A) c = some b → ulk A c = some b ∧ P (c, b) = true := by
  intro A
  induction A with
  | nil => intro h; cases h
  | cons q t ih =>
    intro h
    obtain ⟨c', w⟩ := q
    change ulk (cond (P (c', w)) ((c', w) :: afil P t) (afil P t)) c = some b at h
    unfold ulk
    by_cases e : c' = c
    · rw [if_pos e]
      subst e
      cases c2 : P (c', w) with
      | true =>
        rw [c2] at h
        change (if c' = c' then some w else _) = some b at h
        rw [if_pos rfl] at h
        cases h
        exact ⟨rfl, c2⟩
      | false =>
        rw [c2] at h
        obtain ⟨-, h2⟩ := ih h
        rw [hP b w, c2] at h2
        cases h2
    · rw [if_neg e]
      cases c2 : P (c', w) with
      | true =>
        rw [c2] at h
        change (if c' = c then some w else ulk (afil P t) c) = some b at h
        rw [if_neg e] at h
        exact ih h
      | false => rw [c2] at h; exact ih h
theorem amc_ok {m : aM} {c i : Nat} (h : amc m c = false) : amf m c i = false := by
  cases q : amf m c i with
  | false => rfl
  | true =>
    exfalso
    obtain ⟨l, l2⟩ := m
    have hm : (c, i) ∈ l := amf_ok.mp q
    change (List.rec false (fun (q : Nat × Nat) _ ih => cond (Nat.beq q.1 c) true ih) l : Bool) = false at h
    clear q
    induction l with
    | nil => cases hm
    | cons p t ih =>
      change cond (Nat.beq p.1 c) true _ = false at h
      rw [zbeq] at h
      by_cases e : p.1 = c
      · rw [decide_eq_true e] at h; cases h
      · rw [decide_eq_false e] at h
        rcases List.mem_cons.mp hm with hm | hm
        · exact e (by rw [← hm])
        · exact ih hm h
theorem aRT_call {m' : aM} {n : Nat} {st' : zS} (h : aRT gt n rho O A st) (hG : gInv gt st') (hf : aFr m' st st') : aRT gt n rho (aflO m' O) (aflA m' A) st' := by
  refine ⟨fun c i v hv => ?_, fun c b hb => ?_, fun c i _ _ => hG c i⟩
  · obtain ⟨h1, h2⟩ := olk_fil (fun _ _ => rfl) hv
    have h3 : (amf m' c i || ama m' c) = false := by
      cases q : (amf m' c i || ama m' c) with
      | false => rfl
      | true =>
        have h2 : (!(amf m' c i || ama m' c)) = true := h2
        rw [q] at h2
        cases h2
    obtain ⟨h4, h5⟩ := Bool.or_eq_false_iff.mp h3
    rw [hf c i h4 h5]
    exact h.1 c i v h1
  · obtain ⟨h1, h2⟩ := ulk_fil (fun _ _ => rfl) hb
    have h3 : (ama m' c || amc m' c) = false := by
      cases q : (ama m' c || amc m' c) with
      | false => rfl
      | true =>
        have h2 : (!(ama m' c || amc m' c)) = true := h2
        rw [q] at h2
        cases h2
    obtain ⟨h4, h5⟩ := Bool.or_eq_false_iff.mp h3
    obtain ⟨h6, h7⟩ := h.2.1 c b h1
    refine ⟨h6, fun i => ?_⟩
    rw [hf c i (amc_ok h5) h4]
    exact h7 i
theorem asub_ok {m' : aM} {st' : zS} (h : asub m' m = true) (hf : aFr m' st st') (h0 : aFr m st0 st) : aFr m st0 st' := by
  intro c i h1 h2
  obtain ⟨h3, h4⟩ := rx_an h
  have h5 : amf m' c i = false := by
    cases q : amf m' c i with
    | false => rfl
    | true =>
      have := aall_ok h3 _ (amf_ok.mp q)
      dsimp only at this
      rw [this] at h1
      cases h1
  have h6 : ama m' c = false := by
    cases q : ama m' c with
    | false => rfl
    | true =>
      have := aall_ok h4 _ (ama_ok.mp q)
      rw [this] at h2
      cases h2
  rw [hf c i h5 h6]
  exact h0 c i h1 h2
theorem ause_ok {j dj d nu : Nat} {s : aS} {as : List aV} {asz : List zV} (hF : aokF F rho) (hv : aRS (afl F) rho as asz) (hm : aTs s.1 asz) (hT : aRT gt (afl F) rho O A st) (hfr : aFr m st0 st) (hvo : arel (afl F) rho vo zo) (hw : 0 ≤ wt) (hn : rk - wt * zo ≤ (d : Int) + 1) (hj : dj + j = d) (hs : aSp gt cl dj nu s) (h : ause gt m rk wt vo j s as F O A kc = true) {Q : zQ} (hk : aEs gt m st0 (afl F) rho kc Q) : cl dj nu asz st Q := by
  obtain ⟨h1, h2⟩ := acond h
  obtain ⟨h1, h3⟩ := rx_an h1
  obtain ⟨h1, h4⟩ := rx_an h1
  obtain ⟨h3, h5⟩ := rx_an h3
  refine hs asz st hm (aRT_inv hF hT h1 h4) (andc_ok hF hv hvo hw hn hj h5) Q ?_
  intro rz st' g1 g2 g3
  have hT' : aRT gt (afl F) rho (aflO s.2.1 O) (aflA s.2.1 A) st' := aRT_call hT g1 g2
  have hfr' : aFr m st0 st' := asub_ok h3 g2 hfr
  cases hr : s.2.2.1 with
  | none =>
    rw [hr] at h2 g3
    cases rz with
    | some u => exact absurd g3 id
    | none => exact hk _ _ _ _ h2 rho none st' hF (aext.rf _ _) trivial hT' hfr'
  | some b =>
    rw [hr] at h2 g3
    rcases b with b | b
    · cases rz with
      | none => exact absurd g3 id
      | some u =>
        rcases u with z | (z | (o | i))
        · obtain ⟨F1, v, rho1, k1, k2, k3, k4⟩ := afr_ok (show afr F b _ = true from h2) hF g3.1 g3.2
          exact hk _ _ _ _ k1 rho1 (some (.inl z)) st' k2 k3 k4 (hT'.ext k3) hfr'
        · exact absurd g3 id
        · exact absurd g3 id
        · exact absurd g3 id
    · cases rz with
      | none => exact absurd g3 id
      | some u =>
        rcases u with z | (z | (o | i))
        · exact absurd g3 id
        · obtain ⟨F1, v, rho1, k1, k2, k3, k4⟩ := afr_ok (show afr F b _ = true from h2) hF g3.1 g3.2
          exact hk _ _ _ _ k1 rho1 (some (.inr (.inl z))) st' k2 k3 k4 (hT'.ext k3) hfr'
        · exact absurd g3 id
        · exact absurd g3 id
theorem atry_ok {j : Nat} {as : List aV} : ∀ {ss : List aS}, atry gt m rk wt vo j ss as F O A kc = true → ∃ s, s ∈ ss ∧ ams F s.1 as = true ∧ ause gt m rk wt vo j s as F O A kc = true := by
  intro ss
  induction ss with
  | nil => intro h; cases h
  | cons s t ih =>
    intro h
    change cond (ams F s.1 as) (ause gt m rk wt vo j s as F O A kc) (atry gt m rk wt vo j t as F O A kc) = true at h
    cases c : ams F s.1 as with
    | true => rw [c] at h; exact ⟨s, List.mem_cons_self, c, h⟩
    | false =>
      rw [c] at h
      obtain ⟨s', h1, h2⟩ := ih h
      exact ⟨s', List.mem_cons_of_mem _ h1, h2⟩
theorem aEs.rf {n n' : Nat} {Q : zQ} (h : aEs gt m st0 n rho kc Q) (e : n' = n) : aEs gt m st0 n' rho kc Q := by rw [e]; exact h
theorem aic_ok {it : aIt} {j dj d : Nat} {inl : aC} (hvo : arel n0 rho0 vo zo) (hw : 0 ≤ wt) (hn : rk - wt * zo ≤ (d : Int) + 1) (hj : dj + j = d) (hI : ∀ nu x s, it[nu]? = some x → s ∈ x.2 → aSp gt cl dj nu s) (hinl : aCs gt m st0 n0 rho0 inl (cl dj)) : aCs gt m st0 n0 rho0 (aic gt it m rk wt vo j inl) (cl dj) := by
  intro nu as F O A kc h rho asz st hF he hv hT hfr Q hk
  obtain ⟨x, h1, h2⟩ := aat_ok h
  obtain ⟨sp, ss⟩ := x
  have hvo1 := hvo.ext he
  cases ss with
  | nil => exact hinl _ _ _ _ _ _ h2 rho asz st hF he hv hT hfr Q hk
  | cons s0 st1 =>
    cases sp with
    | none =>
      obtain ⟨s, g1, g2, g3⟩ := atry_ok h2
      exact ause_ok hF hv (ams_ok hF g2 hv) hT hfr hvo1 hw hn hj (hI nu _ s h1 g1) g3 hk
    | some i =>
      obtain ⟨v, g1, g2⟩ := aat_ok (show aat as i _ = true from h2)
      obtain ⟨u, g3, g4⟩ := aRS_at hv g1
      rcases v with a | (a | c)
      · rcases u with z | (z | (o | i'))
        · have g4 : arel (afl F) rho a z := g4
          have ra := arg_ok hF g4
          obtain ⟨F1, k1, k2, k3⟩ := aspl_ok hF g4 g2 ra.1 (by omega)
          obtain ⟨s, e1, e2, e3⟩ := atry_ok k1
          have hv1 : aRS (afl F1) rho (aset as i (.inl (none, z))) asz := by
            rw [k3]
            exact aset_ok hv g3 rfl
          have hT1 : aRT gt (afl F1) rho O A st := by rw [k3]; exact hT
          have hvo2 : arel (afl F1) rho vo zo := by rw [k3]; exact hvo1
          exact ause_ok k2 hv1 (ams_ok k2 e2 hv1) hT1 hfr hvo2 hw hn hj (hI nu _ s h1 e1) e3 (hk.rf k3)
        · exact absurd g4 id
        · exact absurd g4 id
        · exact absurd g4 id
      · cases g2
      · cases g2
end ACAL
end
section
/-! runs of the interval executor -/
def apin : List rx_E → Bool
  | [] => true
  | e :: t => (match t with
    | [] => true
    | e2 :: _ => Nat.blt e.1 e2.1) && apin t
theorem apin_lt : ∀ {l : List rx_E} {a : rx_E}, apin (a :: l) = true → ∀ e ∈ l, a.1 < e.1 := by
  intro l
  induction l with
  | nil => intro a h e he; cases he
  | cons b t ih =>
    intro a h e he
    obtain ⟨h1, h2⟩ := rx_an (show (Nat.blt a.1 b.1 && apin (b :: t)) = true from h)
    have h1 := rx_bt h1
    rcases List.mem_cons.mp he with e1 | e1
    · rw [e1]; exact h1
    · exact Nat.lt_trans h1 (ih h2 e e1)
theorem apin_find {e : rx_E} {rest : List rx_E} : ∀ {pre cd : List rx_E}, apin cd = true → cd = pre ++ e :: rest → rx_find cd e.1 = e :: rest := by
  intro pre
  induction pre with
  | nil =>
    intro cd h hc
    subst hc
    show cond (Nat.beq e.1 e.1) (e :: rest) _ = _
    rw [zbeq, decide_eq_true rfl]
    rfl
  | cons a t ih =>
    intro cd h hc
    subst hc
    have h1 := apin_lt h e (List.mem_append_right _ List.mem_cons_self)
    show cond (Nat.beq a.1 e.1) _ (rx_find (t ++ e :: rest) e.1) = _
    rw [zbeq, decide_eq_false (by omega)]
    exact ih (rx_an (show (_ && apin (t ++ e :: rest)) = true from h)).2 rfl
theorem amem_ok {n : Nat} {l : List Nat} : amem n l = true ↔ n ∈ l := by
  induction l with
  | nil => exact ⟨fun h => (by cases h), fun h => (by cases h)⟩
  | cons q t ih =>
    show cond (Nat.beq q n) true (amem n t) = true ↔ _
    rw [zbeq]
    by_cases e : q = n
    · rw [decide_eq_true e]
      simp [e]
    · rw [decide_eq_false e]
      refine Iff.trans ih ⟨fun h => List.mem_cons_of_mem _ h, fun h => ?_⟩
      rcases List.mem_cons.mp h with h | h
      · exact absurd h.symm e
      · exact h
theorem aargs_ok {n : Nat} {rho : Nat → Int} : ∀ {as : List aV} {asz : List zV} (i : Nat), aRS n rho as asz → aRL n rho (aargs as i) (zargs asz i) := by
  intro as
  induction as with
  | nil => intro asz i h k v hv; cases hv
  | cons v t ih =>
    intro asz i h
    obtain ⟨u, us, rfl, h1, h2⟩ := aRS_v h
    intro k w hw
    change (if i = k then some v else alk (aargs t (i + acat v)) k) = some w at hw
    show ∃ x, (if i = k then some u else zlk (zargs us (i + zcat u)) k) = some x ∧ avr n rho w x
    by_cases e : i = k
    · rw [if_pos e] at hw
      cases hw
      rw [if_pos e]
      exact ⟨u, rfl, h1⟩
    · rw [if_neg e] at hw
      rw [if_neg e, avr_cat h1]
      exact ih (i + acat v) h2 k w hw
def aJs (gt : aG) (m : aM) (st0 : zS) (n0 : Nat) (rho0 : Nat → Int) (cd : List rx_E) (hd : List Nat) (jc : aJ) (Kz : zG) : Prop := ∀ pc L F O A, pc ∈ hd → jc pc L F O A = true → ∀ rho Lz st, aX gt m st0 n0 rho0 F rho L [] O A Lz [] st → Kz (rx_find cd pc) Lz [] st
/-- what stands for a method's table -/
def aTb (Sh : List zC) (tb : rx_T) (cl : Nat → zCall) : Prop := ∀ (d nu : Nat) (x : List rx_E × Nat × Nat × Nat × Nat), tb[nu]? = some x → ∀ (as : List zV) (st : zS) (Q : zQ), zcats as ≤ x.2.1 → (∀ Kz : zG, zcl Sh x.1 x.2.1 x.2.2.2.2 (cl d) Q Kz → zsf x.1 Kz → Kz x.1 (zargs as 0) [] st) → cl (d + 1) nu as st Q
section ARUN
variable {Sh : List zC} {gt : aG} {it : aIt} {tb : rx_T} {m : aM} {st0 : zS} {cl : Nat → zCall} {rk wt zo : Int} {vo : aI} {d : Nat}
theorem ar_ok (hTb : aTb Sh tb cl) (hw : 0 ≤ wt) (hn : rk - wt * zo ≤ (d : Int) + 1) (hI : ∀ d', d' ≤ d → ∀ nu x s, it[nu]? = some x → s ∈ x.2 → aSp gt cl d' nu s) : ∀ (n j dj : Nat) (cd : List rx_E) (nL q : Nat) (hd : List Nat) (jc : aJ) (kc : aE) (Kz : zG) (Rt : zQ) (n0 : Nat) (rho0 : Nat → Int), dj + j = d → arel n0 rho0 vo zo → zcl Sh cd nL q (cl dj) Rt Kz → zsf cd Kz → (hd = [] ∨ apin cd = true) → aEs gt m st0 n0 rho0 kc Rt → aJs gt m st0 n0 rho0 cd hd jc Kz → aKs gt m st0 n0 rho0 (ar Sh gt it tb m rk wt vo n j cd nL q hd jc kc) Kz := by
  intro n
  induction n with
  | zero => intro j dj cd nL q hd jc kc Kz Rt n0 rho0 _ _ _ _ _ _ _ cs L S F O A h; cases h
  | succ n ih =>
    intro j dj cd nL q hd jc kc Kz Rt n0 rho0 hj hvo hcl hsf hpi hE hJ cs L S F O A h rho Lz Sz st X
    cases cs with
    | nil => cases h
    | cons e rest =>
      have h : cond (amem e.1 hd) (match (generalizing := false) S with
        | [] => jc e.1 L F O A
        | _ :: _ => false) (astep Sh gt m cd nL q (aic gt it m rk wt vo j (fun nu as F O A kc' => aat tb nu (fun x => cond (Nat.ble (acats as) x.2.1 && ile ((j : Int) + 2) (rk - wt * (arg F vo).2)) (ar Sh gt it tb m rk wt vo n (j + 1) x.1 x.2.1 x.2.2.2.2 [] (fun _ _ _ _ _ => false) kc' x.1 (aargs as 0) [] F O A) false))) kc (ar Sh gt it tb m rk wt vo n j cd nL q hd jc kc) e rest L S F O A) = true := h
      cases c : amem e.1 hd with
      | true =>
        rw [c] at h
        cases S with
        | cons v t => cases h
        | nil =>
          have hS := X.2.2.2.1
          cases Sz with
          | cons u t => exact absurd hS id
          | nil =>
            refine hsf _ _ _ _ (by simp) (fun ⟨pre, hp⟩ => ?_)
            have hm := amem_ok.mp c
            rcases hpi with hz | hpi
            · rw [hz] at hm; cases hm
            · have hf := hJ e.1 L F O A hm h rho Lz st X
              rw [apin_find hpi hp] at hf
              exact hf
      | false =>
        rw [c] at h
        refine hcl e rest Lz Sz st (astep_ok (ih j dj cd nL q hd jc kc Kz Rt n0 rho0 hj hvo hcl hsf hpi hE hJ) hE ?_ X h)
        refine aic_ok hvo hw hn hj (hI dj (by omega)) ?_
        intro nu as F O A kc' h rho asz st hF he hv hT hfr Q hk
        obtain ⟨x, h1, h2⟩ := aat_ok h
        obtain ⟨h2, h3⟩ := acond h2
        obtain ⟨h2, h4⟩ := rx_an h2
        have h4 := ile_ok h4
        have ro := arg_ok hF (hvo.ext he)
        have hmm : wt * zo ≤ wt * (arg F vo).2 := Int.mul_le_mul_of_nonneg_left ro.2 hw
        obtain ⟨dk, rfl⟩ : ∃ dk, dj = dk + 1 := ⟨dj - 1, by omega⟩
        refine hTb dk nu x h1 asz st Q (by rw [acats_z hv]; exact rx_bl h2) (fun Kz' hcl' hsf' => ?_)
        exact ih (j + 1) dk x.1 x.2.1 x.2.2.2.2 [] (fun _ _ _ _ _ => false) kc' Kz' Q (afl F) rho (by omega) (hvo.ext he) hcl' hsf' (Or.inl rfl) hk (fun pc L F O A hpc => by cases hpc) x.1 (aargs as 0) [] F O A h3 rho (zargs asz 0) [] st ⟨hF, aext.rf _ _, aargs_ok 0 hv, trivial, hT, hfr⟩
theorem ar1_ok (hTb : aTb Sh tb cl) (hw : 0 ≤ wt) (hn : rk - wt * zo ≤ (d : Int) + 1) (hI : ∀ d', d' ≤ d → ∀ nu x s, it[nu]? = some x → s ∈ x.2 → aSp gt cl d' nu s) {n : Nat} {cd : List rx_E} {nL q : Nat} {hd : List Nat} {jc : aJ} {kc : aE} {Kz : zG} {Rt : zQ} {n0 : Nat} {rho0 : Nat → Int} (hvo : arel n0 rho0 vo zo) (hcl : zcl Sh cd nL q (cl d) Rt Kz) (hsf : zsf cd Kz) (hpi : apin cd = true) (hE : aEs gt m st0 n0 rho0 kc Rt) (hJ : aJs gt m st0 n0 rho0 cd hd jc Kz) {cs : List rx_E} {L : aL} {F : aF} {O : aO} {A : aA} (h : ar1 Sh gt it tb m rk wt vo n cd nL q hd jc kc cs L F O A = true) {rho : Nat → Int} {Lz : zL} {st : zS} (X : aX gt m st0 n0 rho0 F rho L [] O A Lz [] st) : Kz cs Lz [] st := by
  cases cs with
  | nil => cases h
  | cons e rest =>
    refine hcl e rest Lz [] st (astep_ok (ar_ok hTb hw hn hI n 0 d cd nL q hd jc kc Kz Rt n0 rho0 rfl hvo hcl hsf (Or.inr hpi) hE hJ) hE ?_ X h)
    refine aic_ok hvo hw hn (j := 0) (dj := d) rfl (hI d (Nat.le_refl _)) ?_
    intro nu as F O A kc' h rho asz st hF he hv hT hfr Q hk
    obtain ⟨x, h1, h2⟩ := aat_ok h
    obtain ⟨h2, h3⟩ := acond h2
    obtain ⟨h2, h4⟩ := rx_an h2
    have h4 := ile_ok h4
    have ro := arg_ok hF (hvo.ext he)
    have hmm : wt * zo ≤ wt * (arg F vo).2 := Int.mul_le_mul_of_nonneg_left ro.2 hw
    obtain ⟨dk, rfl⟩ : ∃ dk, d = dk + 1 := ⟨d - 1, by omega⟩
    refine hTb dk nu x h1 asz st Q (by rw [acats_z hv]; exact rx_bl h2) (fun Kz' hcl' hsf' => ?_)
    exact ar_ok hTb hw hn hI n (0 + 1) dk x.1 x.2.1 x.2.2.2.2 [] (fun _ _ _ _ _ => false) kc' Kz' Q (afl F) rho (by omega) (hvo.ext he) hcl' hsf' (Or.inl rfl) hk (fun pc L F O A hpc => by cases hpc) x.1 (aargs as 0) [] F O A h3 rho (zargs asz 0) [] st ⟨hF, aext.rf _ _, aargs_ok 0 hv, trivial, hT, hfr⟩
end ARUN
end
section
/-! segments: locals, fields, measures -/
abbrev mV : Type := List (Nat ⊕ (Bool × Int × Int))
def mz (Lz : zL) (st : zS) (x : Nat ⊕ (Nat × Nat)) (z : Int) : Prop := match x with
  | .inl i => zlk Lz i = some (.inl z) ∨ zlk Lz i = some (.inr (.inl z))
  | .inr q => st q.1 q.2 = z
def mvz (Lz : zL) (st : zS) : List aMs → mV → Prop
  | [], [] => True
  | .inl p :: ms, .inl p' :: vs => p' = p ∧ mvz Lz st ms vs
  | .inr y :: ms, .inr w :: vs => w.1 = y.2.1 ∧ w.2.1 = y.2.2 ∧ mz Lz st y.1 w.2.2 ∧ mvz Lz st ms vs
  | _, _ => False
def amr (n : Nat) (rho : Nat → Int) : aMv → mV → Prop
  | [], [] => True
  | .inl p :: va, .inl p' :: vs => p' = p ∧ amr n rho va vs
  | .inr a :: va, .inr w :: vs => w.1 = a.1 ∧ w.2.1 = a.2.1 ∧ arel n rho a.2.2 w.2.2 ∧ amr n rho va vs
  | _, _ => False
def mk1 (x : Nat ⊕ (Bool × Int × Int)) : Prop := match x with
  | .inl p => p < 1048576
  | .inr w => cond w.1 (w.2.2 ≤ w.2.1 ∧ w.2.1 - w.2.2 ≤ 1099511627000) (w.2.1 ≤ w.2.2 ∧ w.2.2 - w.2.1 ≤ 1099511627000)
def mok (vs : mV) : Prop := (∀ x ∈ vs, mk1 x) ∧ vs.length ≤ 6
def mn1 (x : Nat ⊕ (Bool × Int × Int)) : Nat := match x with
  | .inl p => p
  | .inr w => cond w.1 (w.2.1 - w.2.2).toNat (w.2.2 - w.2.1).toNat
def mco : Nat → List Nat → Nat
  | 0, _ => 0
  | D + 1, [] => 1099511627775 * 1099511627776 ^ D + mco D []
  | D + 1, x :: t => x * 1099511627776 ^ D + mco D t
theorem mn1_lt {x : Nat ⊕ (Bool × Int × Int)} (h : mk1 x) : mn1 x < 1099511627775 := by
  rcases x with p | ⟨up, bd, z⟩
  · have h : p < 1048576 := h
    show p < _
    omega
  · cases up with
    | true =>
      have h : z ≤ bd ∧ bd - z ≤ 1099511627000 := h
      show (bd - z).toNat < _
      omega
    | false =>
      have h : bd ≤ z ∧ z - bd ≤ 1099511627000 := h
      show (z - bd).toNat < _
      omega
theorem mco_lt : ∀ (D : Nat) (l : List Nat), (∀ x ∈ l, x < 1099511627776) → mco D l < 1099511627776 ^ D := by
  intro D
  induction D with
  | zero => intro l _; show 0 < 1; decide
  | succ D ih =>
    intro l hl
    rw [Nat.pow_succ]
    cases l with
    | nil =>
      have := ih [] (fun x hx => by cases hx)
      show 1099511627775 * 1099511627776 ^ D + mco D [] < _
      generalize 1099511627776 ^ D = P at *
      omega
    | cons x t =>
      have h1 := ih t (fun y hy => hl y (List.mem_cons_of_mem _ hy))
      have h2 := hl x List.mem_cons_self
      show x * 1099511627776 ^ D + mco D t < _
      generalize 1099511627776 ^ D = P at *
      have h3 : x * P ≤ 1099511627775 * P := Nat.mul_le_mul_right P (by omega)
      omega
theorem amr_len {n : Nat} {rho : Nat → Int} : ∀ {va : aMv} {vs : mV}, amr n rho va vs → vs.length = va.length
  | [], [], _ => rfl
  | .inl _ :: _, .inl _ :: _, h => by simp [amr_len h.2]
  | .inr _ :: _, .inr _ :: _, h => by simp [amr_len h.2.2.2]
  | [], _ :: _, h => absurd h id
  | .inl _ :: _, [], h => absurd h id
  | .inr _ :: _, [], h => absurd h id
  | .inl _ :: _, .inr _ :: _, h => absurd h id
  | .inr _ :: _, .inl _ :: _, h => absurd h id
theorem alx_ok {n n' : Nat} {rho : Nat → Int} (e : n ≤ n') : ∀ {va vb : aMv} {vs vs' : mV} {D : Nat}, alx va vb = true → amr n rho va vs → amr n' rho vb vs' → (∀ x ∈ vs, mk1 x) → (∀ x ∈ vs', mk1 x) → vs.length ≤ D → vs'.length ≤ D → mco D (vs'.map mn1) < mco D (vs.map mn1) := by
  have hB : ∀ (l : mV), (∀ x ∈ l, mk1 x) → ∀ y ∈ l.map mn1, y < 1099511627776 := by
    intro l hl y hy
    obtain ⟨x, h1, rfl⟩ := List.mem_map.mp hy
    have := mn1_lt (hl x h1)
    omega
  intro va
  induction va with
  | nil =>
    intro vb vs vs' D h h1 h2 k1 k2 l1 l2
    cases vs with
    | cons x t => exact absurd h1 (by cases x <;> exact id)
    | nil =>
      cases vs' with
      | nil =>
        cases vb with
        | nil => cases h
        | cons y t => exact absurd h2 (by cases y <;> exact id)
      | cons y' t' =>
        cases D with
        | zero => simp at l2
        | succ D =>
          have h3 := mn1_lt (k2 y' List.mem_cons_self)
          have h4 := mco_lt D (t'.map mn1) (hB t' (fun x hx => k2 x (List.mem_cons_of_mem _ hx)))
          show mn1 y' * 1099511627776 ^ D + mco D (t'.map mn1) < 1099511627775 * 1099511627776 ^ D + mco D []
          generalize 1099511627776 ^ D = P at *
          have h5 : (mn1 y' + 1) * P ≤ 1099511627775 * P := Nat.mul_le_mul_right P (by omega)
          rw [Nat.succ_mul] at h5
          omega
  | cons x ta ih =>
    intro vb vs vs' D h h1 h2 k1 k2 l1 l2
    cases vs with
    | nil => exact absurd h1 (by cases x <;> exact id)
    | cons x' t =>
      cases vb with
      | nil => cases h
      | cons y tb =>
        cases vs' with
        | nil => exact absurd h2 (by cases y <;> exact id)
        | cons y' t' =>
          cases D with
          | zero => simp at l1
          | succ D =>
            have kt : ∀ z ∈ t, mk1 z := fun z hz => k1 z (List.mem_cons_of_mem _ hz)
            have kt' : ∀ z ∈ t', mk1 z := fun z hz => k2 z (List.mem_cons_of_mem _ hz)
            have h4 := mco_lt D (t'.map mn1) (hB t' kt')
            have lt1 : t.length ≤ D := by simp at l1; exact l1
            have lt2 : t'.length ≤ D := by simp at l2; exact l2
            have big : mn1 y' < mn1 x' → mco (D + 1) ((y' :: t').map mn1) < mco (D + 1) ((x' :: t).map mn1) := by
              intro q
              show mn1 y' * 1099511627776 ^ D + mco D (t'.map mn1) < mn1 x' * 1099511627776 ^ D + mco D (t.map mn1)
              generalize 1099511627776 ^ D = P at *
              have h5 : (mn1 y' + 1) * P ≤ mn1 x' * P := Nat.mul_le_mul_right P (by omega)
              rw [Nat.succ_mul] at h5
              omega
            have same : mn1 y' = mn1 x' → mco D (t'.map mn1) < mco D (t.map mn1) → mco (D + 1) ((y' :: t').map mn1) < mco (D + 1) ((x' :: t).map mn1) := by
              intro q q2
              show mn1 y' * 1099511627776 ^ D + mco D (t'.map mn1) < mn1 x' * 1099511627776 ^ D + mco D (t.map mn1)
              rw [q]
              omega
            rcases x with p | a
            · rcases x' with p1 | w
              · rcases y with p' | b
                · rcases y' with p2 | w'
                  · obtain ⟨e1, r1⟩ : p1 = p ∧ amr n rho ta t := h1
                    obtain ⟨e2, r2⟩ : p2 = p' ∧ amr n' rho tb t' := h2
                    have h : cond (Nat.blt p' p) true (cond (Nat.beq p p') (alx ta tb) false) = true := h
                    cases c : Nat.blt p' p with
                    | true =>
                      have c := rx_bt c
                      exact big (by show p2 < p1; omega)
                    | false =>
                      rw [c] at h
                      obtain ⟨c2, h⟩ := acond h
                      have c2 := rx_bq c2
                      exact same (by show p2 = p1; omega) (ih h r1 r2 kt kt' lt1 lt2)
                  · exact absurd h2 id
                · exact absurd (show false = true from h) (by decide)
              · exact absurd h1 id
            · rcases x' with p1 | w
              · exact absurd h1 id
              · rcases y with p' | b
                · exact absurd (show false = true from h) (by decide)
                · rcases y' with p2 | w'
                  · exact absurd h2 id
                  · obtain ⟨a1, a2, a3⟩ := a
                    obtain ⟨b1, b2, b3⟩ := b
                    obtain ⟨w1, w2, w3⟩ := w
                    obtain ⟨u1, u2, u3⟩ := w'
                    obtain ⟨e1, e2, e3, r1⟩ : w1 = a1 ∧ w2 = a2 ∧ arel n rho a3 w3 ∧ amr n rho ta t := h1
                    obtain ⟨g1, g2, g3, r2⟩ : u1 = b1 ∧ u2 = b2 ∧ arel n' rho b3 u3 ∧ amr n' rho tb t' := h2
                    obtain ⟨c0, hh⟩ := acond (show cond ((cond a1 b1 (!b1)) && (ieq a2 b2 && aon a3.1 b3.1)) (cond (ieq a3.2 b3.2) (alx ta tb) (cond a1 (ile a3.2 b3.2) (ile b3.2 a3.2))) false = true from h)
                    obtain ⟨cb, c01⟩ := rx_an c0
                    obtain ⟨c02, c03⟩ := rx_an c01
                    have c2 := ieq_ok c02
                    have c3 := aon_ok c03
                    clear c0 c01 c02 c03 h l1 l2
                    have hd : u3 - w3 = b3.2 - a3.2 := by
                      obtain ⟨ka, ca⟩ := a3
                      obtain ⟨kb, cb⟩ := b3
                      dsimp only at c3
                      subst c3
                      cases ka with
                      | none => have e3 : w3 = ca := e3; have g3 : u3 = cb := g3; show u3 - w3 = cb - ca; omega
                      | some ka =>
                        obtain ⟨-, q1⟩ : ka < n ∧ w3 = rho ka + ca := e3
                        obtain ⟨-, q2⟩ : ka < n' ∧ u3 = rho ka + cb := g3
                        show u3 - w3 = cb - ca
                        omega
                    have m1 := k1 _ List.mem_cons_self
                    have m2 := k2 _ List.mem_cons_self
                    clear k1 k2
                    subst e1
                    subst e2
                    subst g1
                    subst g2
                    cases w1 with
                    | true =>
                      have eb : u1 = true := cb
                      subst eb
                      have m1 : w3 ≤ w2 ∧ w2 - w3 ≤ 1099511627000 := m1
                      have m2 : u3 ≤ u2 ∧ u2 - u3 ≤ 1099511627000 := m2
                      cases c4 : ieq a3.2 b3.2 with
                      | true =>
                        rw [c4] at hh
                        have c4 := ieq_ok c4
                        exact same (by show (u2 - u3).toNat = (w2 - w3).toNat; omega) (ih hh r1 r2 kt kt' lt1 lt2)
                      | false =>
                        rw [c4] at hh
                        have hg := ile_ok (show ile a3.2 b3.2 = true from hh)
                        have c5 : ¬ a3.2 = b3.2 := by
                          intro q
                          unfold ieq at c4
                          rw [q] at c4
                          cases c6 : ile b3.2 b3.2 with
                          | true => rw [c6] at c4; cases c4
                          | false => have := ile_no c6; omega
                        exact big (by show (u2 - u3).toNat < (w2 - w3).toNat; omega)
                    | false =>
                      have eb : u1 = false := by
                        cases u1 with
                        | false => rfl
                        | true => cases cb
                      subst eb
                      have m1 : w2 ≤ w3 ∧ w3 - w2 ≤ 1099511627000 := m1
                      have m2 : u2 ≤ u3 ∧ u3 - u2 ≤ 1099511627000 := m2
                      cases c4 : ieq a3.2 b3.2 with
                      | true =>
                        rw [c4] at hh
                        have c4 := ieq_ok c4
                        exact same (by show (u3 - u2).toNat = (w3 - w2).toNat; omega) (ih hh r1 r2 kt kt' lt1 lt2)
                      | false =>
                        rw [c4] at hh
                        have hg := ile_ok (show ile b3.2 a3.2 = true from hh)
                        have c5 : ¬ a3.2 = b3.2 := by
                          intro q
                          unfold ieq at c4
                          rw [q] at c4
                          cases c6 : ile b3.2 b3.2 with
                          | true => rw [c6] at c4; cases c4
                          | false => have := ile_no c6; omega
                        exact big (by show (u3 - u2).toNat < (w3 - w2).toNat; omega)
theorem amk_ok {F : aF} {rho : Nat → Int} (hF : aokF F rho) {va : aMv} {vs : mV} (h : amk F va = true) (hr : amr (afl F) rho va vs) : mok vs := by
  obtain ⟨h1, h2⟩ := rx_an h
  refine ⟨?_, by rw [amr_len hr]; exact rx_bl h2⟩
  have h3 := aall_ok h1
  clear h2 h h1
  revert vs
  induction va with
  | nil =>
    intro vs hr x hx
    cases vs with
    | nil => cases hx
    | cons y t => exact absurd hr (by cases y <;> exact id)
  | cons a t ih =>
    intro vs hr x hx
    cases vs with
    | nil => exact absurd hr (by cases a <;> exact id)
    | cons y s =>
      have ha := h3 a List.mem_cons_self
      rcases a with p | ⟨a1, a2, a3⟩
      · rcases y with p' | w
        · obtain ⟨e, r⟩ : p' = p ∧ amr (afl F) rho t s := hr
          rcases List.mem_cons.mp hx with q | q
          · rw [q, e]
            exact rx_bt ha
          · exact ih (fun z hz => h3 z (List.mem_cons_of_mem _ hz)) r x q
        · exact absurd hr id
      · rcases y with p' | ⟨w1, w2, w3⟩
        · exact absurd hr id
        · obtain ⟨e1, e2, e3, r⟩ : w1 = a1 ∧ w2 = a2 ∧ arel (afl F) rho a3 w3 ∧ amr (afl F) rho t s := hr
          rcases List.mem_cons.mp hx with q | q
          · rw [q]
            have hb := arg_ok hF e3
            subst e1
            subst e2
            cases w1 with
            | true =>
              obtain ⟨g1, g2⟩ := rx_an (show (ile (arg F a3).2 w2 && ile (w2 - (arg F a3).1) 1099511627000) = true from ha)
              have g1 := ile_ok g1
              have g2 := ile_ok g2
              show w3 ≤ w2 ∧ w2 - w3 ≤ 1099511627000
              omega
            | false =>
              obtain ⟨g1, g2⟩ := rx_an (show (ile w2 (arg F a3).1 && ile ((arg F a3).2 - w2) 1099511627000) = true from ha)
              have g1 := ile_ok g1
              have g2 := ile_ok g2
              show w2 ≤ w3 ∧ w3 - w2 ≤ 1099511627000
              omega
          · exact ih (fun z hz => h3 z (List.mem_cons_of_mem _ hz)) r x q
section AVS
variable {gt : aG} {n : Nat} {rho : Nat → Int} {L : aL} {Lz : zL} {O : aO} {A : aA} {st : zS}
theorem amv_ok {x : Nat ⊕ (Nat × Nat)} {k : aI → Bool} (hL : aRL n rho L Lz) (hT : aRT gt n rho O A st) (h : amv L O x k = true) : ∃ v z, k v = true ∧ arel n rho v z ∧ mz Lz st x z ∧ ∀ z', mz Lz st x z' → z' = z := by
  rcases x with i | ⟨c, f⟩
  · obtain ⟨v, h1, h2⟩ := aget_ok (show aget L i (fun v => match v with
      | .inl a => k a
      | .inr (.inl a) => k a
      | _ => false) = true from h)
    obtain ⟨u, h3, h4⟩ := hL i v h1
    rcases v with a | (a | c)
    · rcases u with z | (z | (o | j))
      · refine ⟨a, z, h2, h4, Or.inl h3, fun z' hz => ?_⟩
        rcases hz with hz | hz
        · rw [h3] at hz; cases hz; rfl
        · rw [h3] at hz; cases hz
      · exact absurd h4 id
      · exact absurd h4 id
      · exact absurd h4 id
    · rcases u with z | (z | (o | j))
      · exact absurd h4 id
      · refine ⟨a, z, h2, h4, Or.inr h3, fun z' hz => ?_⟩
        rcases hz with hz | hz
        · rw [h3] at hz; cases hz
        · rw [h3] at hz; cases hz; rfl
      · exact absurd h4 id
      · exact absurd h4 id
    · cases h2
  · rcases aolk_ok (show aolk O c f k false = true from h) with ⟨v, h1, h2⟩ | ⟨-, h2⟩
    · exact ⟨v, st c f, h2, (hT.1 c f v h1).2, rfl, fun z' hz => (show st c f = z' from hz).symm⟩
    · cases h2
theorem amvs_ok (hL : aRL n rho L Lz) (hT : aRT gt n rho O A st) : ∀ {ms : List aMs} {k : aMv → Bool}, amvs L O ms k = true → ∃ va vs, k va = true ∧ mvz Lz st ms vs ∧ amr n rho va vs ∧ ∀ vs', mvz Lz st ms vs' → vs' = vs := by
  intro ms
  induction ms with
  | nil =>
    intro k h
    refine ⟨[], [], h, trivial, trivial, fun vs' hv => ?_⟩
    cases vs' with
    | nil => rfl
    | cons y t => exact absurd hv (by cases y <;> exact id)
  | cons x t ih =>
    intro k h
    rcases x with p | ⟨y, up, bd⟩
    · obtain ⟨va, vs, h1, h2, h3, h4⟩ := ih (k := fun r => k (.inl p :: r)) h
      refine ⟨.inl p :: va, .inl p :: vs, h1, ⟨rfl, h2⟩, ⟨rfl, h3⟩, fun vs' hv => ?_⟩
      cases vs' with
      | nil => exact absurd hv id
      | cons w s =>
        rcases w with p' | w
        · obtain ⟨e, r⟩ : p' = p ∧ mvz Lz st t s := hv
          rw [e, h4 s r]
        · exact absurd hv id
    · obtain ⟨v, z, g1, g2, g3, g4⟩ := amv_ok hL hT (show amv L O y (fun v => amvs L O t (fun r => k (.inr (up, bd, v) :: r))) = true from h)
      obtain ⟨va, vs, h1, h2, h3, h4⟩ := ih (k := fun r => k (.inr (up, bd, v) :: r)) g1
      refine ⟨.inr (up, bd, v) :: va, .inr (up, bd, z) :: vs, h1, ⟨rfl, rfl, g3, h2⟩, ⟨rfl, rfl, g2, h3⟩, fun vs' hv => ?_⟩
      cases vs' with
      | nil => exact absurd hv id
      | cons w s =>
        rcases w with p' | ⟨w1, w2, w3⟩
        · exact absurd hv id
        · obtain ⟨e1, e2, e3, r⟩ : w1 = up ∧ w2 = bd ∧ mz Lz st y w3 ∧ mvz Lz st t s := hv
          rw [e1, e2, g4 w3 e3, h4 s r]
end AVS
end
section
/-! summaries by the interval executor -/
theorem amr_ext {n n' : Nat} {rho rho' : Nat → Int} (e : aext n rho n' rho') : ∀ {va : aMv} {vs : mV}, amr n rho va vs → amr n' rho' va vs
  | [], [], _ => trivial
  | .inl _ :: _, .inl _ :: _, h => ⟨h.1, amr_ext e h.2⟩
  | .inr _ :: _, .inr _ :: _, h => ⟨h.1, h.2.1, h.2.2.1.ext e, amr_ext e h.2.2.2⟩
  | [], _ :: _, h => absurd h id
  | .inl _ :: _, [], h => absurd h id
  | .inr _ :: _, [], h => absurd h id
  | .inl _ :: _, .inr _ :: _, h => absurd h id
  | .inr _ :: _, .inl _ :: _, h => absurd h id
section AINS
variable {Sh : List zC} {gt : aG} {it : aIt} {tb : rx_T} {m : aM} {st0 : zS} {cl : Nat → zCall} {d : Nat}
theorem asl_ok {Lz : zL} : ∀ {sp : List (Nat × aT)} {F : aF} {k : aL → aF → Bool} {rho : Nat → Int}, asl sp F k = true → aokF F rho → (∀ q ∈ sp, ∃ u, zlk Lz q.1 = some u ∧ aTz q.2 u) → ∃ L F1 rho1, k L F1 = true ∧ aokF F1 rho1 ∧ aext (afl F) rho (afl F1) rho1 ∧ aRL (afl F1) rho1 L Lz := by
  intro sp
  induction sp with
  | nil => intro F k rho h hF _; exact ⟨[], F, rho, h, hF, aext.rf _ _, fun i v hv => by cases hv⟩
  | cons q t ih =>
    intro F k rho h hF hq
    obtain ⟨u, h1, h2⟩ := hq q List.mem_cons_self
    have ht : ∀ p ∈ t, ∃ u, zlk Lz p.1 = some u ∧ aTz p.2 u := fun p hp => hq p (List.mem_cons_of_mem _ hp)
    have key : ∀ {L : aL} {v : aV} {n : Nat} {rho : Nat → Int}, aRL n rho L Lz → avr n rho v u → aRL n rho ((q.1, v) :: L) Lz := by
      intro L v n rho hL hv i w hw
      unfold alk at hw
      by_cases e : q.1 = i
      · rw [if_pos e] at hw
        cases hw
        rw [← e]
        exact ⟨u, h1, hv⟩
      · rw [if_neg e] at hw
        exact hL i w hw
    obtain ⟨i, ty⟩ := q
    rcases ty with b | (b | c)
    · rcases u with z | (z | (o | j))
      · obtain ⟨F1, v, rho1, k1, k2, k3, k4⟩ := afr_ok (show afr F b (fun F1 v => asl t F1 (fun L F2 => k ((i, .inl v) :: L) F2)) = true from h) hF h2.1 h2.2
        obtain ⟨L, F2, rho2, g1, g2, g3, g4⟩ := ih k1 k2 ht
        exact ⟨_, F2, rho2, g1, g2, k3.tr g3, key g4 (show arel _ _ _ _ from k4.ext g3)⟩
      · exact absurd h2 id
      · exact absurd h2 id
      · exact absurd h2 id
    · rcases u with z | (z | (o | j))
      · exact absurd h2 id
      · obtain ⟨F1, v, rho1, k1, k2, k3, k4⟩ := afr_ok (show afr F b (fun F1 v => asl t F1 (fun L F2 => k ((i, .inr (.inl v)) :: L) F2)) = true from h) hF h2.1 h2.2
        obtain ⟨L, F2, rho2, g1, g2, g3, g4⟩ := ih k1 k2 ht
        exact ⟨_, F2, rho2, g1, g2, k3.tr g3, key (v := .inr (.inl v)) g4 (show arel _ _ _ _ from k4.ext g3)⟩
      · exact absurd h2 id
      · exact absurd h2 id
    · rcases u with z | (z | (o | j))
      · exact absurd h2 id
      · exact absurd h2 id
      · obtain ⟨L, F2, rho2, g1, g2, g3, g4⟩ := ih (k := fun L F2 => k ((i, .inr (.inr c)) :: L) F2) h hF ht
        exact ⟨_, F2, rho2, g1, g2, g3, key (v := .inr (.inr c)) g4 h2⟩
      · exact absurd h2 id
theorem zup_self (st : zS) (c i : Nat) : zup st c i (st c i) = st := by
  funext c' i'
  rw [zup_if]
  split
  · rename_i e
    rw [e.1, e.2]
  · rfl
theorem aso_ok {st : zS} (hG : gInv gt st) : ∀ {sp : List (Nat × Nat)} {F : aF} {O : aO} {k : aF → aO → Bool} {rho : Nat → Int}, aso gt sp F O k = true → aokF F rho → aRT gt (afl F) rho O [] st → ∃ F1 O1 rho1, k F1 O1 = true ∧ aokF F1 rho1 ∧ aext (afl F) rho (afl F1) rho1 ∧ aRT gt (afl F1) rho1 O1 [] st := by
  intro sp
  induction sp with
  | nil => intro F O k rho h hF hT; exact ⟨F, O, rho, h, hF, aext.rf _ _, hT⟩
  | cons q t ih =>
    intro F O k rho h hF hT
    obtain ⟨l, bs, h1, h2, h3⟩ := agb_ok (show agb gt q.1 q.2 (fun bs => aall (fun b => afr F b (fun F1 v => aso gt t F1 (aos O q.1 q.2 v) k)) bs) = true from h)
    have h4 := hG q.1 q.2
    unfold gok at h4
    rw [h1] at h4
    dsimp only at h4
    rw [h2] at h4
    obtain ⟨b, hb, hz⟩ := h4
    obtain ⟨F1, v, rho1, k1, k2, k3, k4⟩ := afr_ok (aall_ok h3 b hb) hF hz.1 hz.2
    have hT1 := aRT_put (f := q.2) (hT.ext k3) h1 k4
    rw [zup_self] at hT1
    obtain ⟨F2, O2, rho2, g1, g2, g3, g4⟩ := ih k1 k2 hT1
    exact ⟨F2, O2, rho2, g1, g2, k3.tr g3, g4⟩
def volk (ol : Option Nat) (Lz : zL) (zo : Int) : Prop := match ol with
  | none => zo = 0
  | some i => zlk Lz i = some (.inl zo)
theorem avo_ok {L : aL} {Lz : zL} {ol : Option Nat} {k : aI → Bool} {n : Nat} {rho : Nat → Int} {zo : Int} (h : avo L ol k = true) (hL : aRL n rho L Lz) (ho : volk ol Lz zo) : ∃ vo, k vo = true ∧ arel n rho vo zo := by
  cases ol with
  | none => exact ⟨(none, 0), h, ho⟩
  | some i =>
    obtain ⟨v, h1, h2⟩ := aget_ok (show aget L i (fun v => match v with
      | .inl a => k a
      | _ => false) = true from h)
    obtain ⟨u, h3, h4⟩ := hL i v h1
    have ho : zlk Lz i = some (.inl zo) := ho
    rw [ho] at h3
    cases h3
    rcases v with a | (a | c)
    · exact ⟨a, h2, h4⟩
    · cases h2
    · cases h2
/-- a state at a segment's head -/
def aAt (gt : aG) (m : aM) (st0 : zS) (ol : Option Nat) (zo : Int) (sg : aSg) (Lz : zL) (st : zS) (vs : mV) : Prop := (∀ q ∈ sg.2.1, ∃ u, zlk Lz q.1 = some u ∧ aTz q.2 u) ∧ gInv gt st ∧ aFr m st0 st ∧ volk ol Lz zo ∧ mvz Lz st sg.2.2.2 vs ∧ mok vs
theorem ajc_ok {sgs : List aSg} {ol : Option Nat} {vo : aI} {prev : Option aMv} {zo : Int} {n0 : Nat} {rho0 : Nat → Int} {pc : Nat} {L : aL} {F : aF} {O : aO} {A : aA} {rho : Nat → Int} {Lz : zL} {st : zS} (h : ajc gt sgs ol vo prev pc L F O A = true) (hvo : arel n0 rho0 vo zo) (hz : ol = none → zo = 0) (X : aX gt m st0 n0 rho0 F rho L [] O A Lz [] st) : ∃ sg vs, sg ∈ sgs ∧ sg.1 = pc ∧ aAt gt m st0 ol zo sg Lz st vs ∧ ∀ va vs0, prev = some va → amr n0 rho0 va vs0 → mok vs0 → mco 6 (vs.map mn1) < mco 6 (vs0.map mn1) := by
  unfold ajc at h
  induction sgs with
  | nil => cases h
  | cons sg t ih =>
    change cond (Nat.beq sg.1 pc) _ _ = true at h
    cases c : Nat.beq sg.1 pc with
    | false =>
      rw [c] at h
      obtain ⟨sg', vs, h1, h2⟩ := ih h
      exact ⟨sg', vs, List.mem_cons_of_mem _ h1, h2⟩
    | true =>
      rw [c] at h
      obtain ⟨h1, h2⟩ := acond h
      obtain ⟨h1, h3⟩ := rx_an h1
      obtain ⟨h1, h4⟩ := rx_an h1
      obtain ⟨h3, h5⟩ := rx_an h3
      obtain ⟨va', vs, g1, g2, g3, -⟩ := amvs_ok X.2.2.1 X.2.2.2.2.1 h2
      obtain ⟨g4, g5⟩ := acond g1
      refine ⟨sg, vs, List.mem_cons_self, rx_bq c, ⟨fun q hq => ?_, aRT_inv X.1 X.2.2.2.2.1 h1 h4, X.2.2.2.2.2, ?_, g2, amk_ok X.1 g4 g3⟩, fun va vs0 e hr hm => ?_⟩
      · obtain ⟨v, k1, k2⟩ := aget_ok (aall_ok h3 q hq)
        obtain ⟨u, k3, k4⟩ := X.2.2.1 q.1 v k1
        exact ⟨u, k3, amt_ok X.1 k2 k4⟩
      · cases ol with
        | none => exact hz rfl
        | some i =>
          obtain ⟨v, k1, k2⟩ := aget_ok (show aget L i (fun v => match v with
            | .inl a => aeqI a vo
            | _ => false) = true from h5)
          obtain ⟨u, k3, k4⟩ := X.2.2.1 i v k1
          rcases v with a | (a | c)
          · rcases u with z | (z | (o | j))
            · obtain ⟨k5, k6⟩ := rx_an (show (aon a.1 vo.1 && ieq a.2 vo.2) = true from k2)
              have k5 := aon_ok k5
              have k6 := ieq_ok k6
              have e : a = vo := by
                obtain ⟨a1, a2⟩ := a
                obtain ⟨b1, b2⟩ := vo
                dsimp only at k5 k6
                rw [k5, k6]
              have k4 : arel (afl F) rho a z := k4
              have k7 := hvo.ext X.2.1
              rw [← e] at k7
              have : z = zo := by
                obtain ⟨a1, a2⟩ := a
                cases a1 with
                | none => exact (show z = a2 from k4).trans (show zo = a2 from k7).symm
                | some s => exact (show s < afl F ∧ z = rho s + a2 from k4).2.trans (show s < afl F ∧ zo = rho s + a2 from k7).2.symm
              rw [this] at k3
              exact k3
            · exact absurd k4 id
            · exact absurd k4 id
            · exact absurd k4 id
          · cases k2
          · cases k2
      · subst e
        have hr1 : amr (afl F) rho va vs0 := amr_ext X.2.1 hr
        exact alx_ok (Nat.le_refl _) g5 hr1 g3 hm.1 (amk_ok X.1 g4 g3).1 hm.2 (amk_ok X.1 g4 g3).2
theorem akc_ok {r : Option (aB ⊕ aB)} {Q : zQ} {n0 : Nat} {rho0 : Nat → Int} (hQ : ∀ rz st', gInv gt st' → aFr m st0 st' → aRz r rz → Q rz st') : aEs gt m st0 n0 rho0 (akc gt r) Q := by
  intro v F O A h rho rz st hF _ hv hT hfr
  obtain ⟨h1, h2⟩ := acond h
  obtain ⟨h1, h3⟩ := rx_an h1
  refine hQ rz st (aRT_inv hF hT h1 h3) hfr ?_
  cases r with
  | none =>
    cases v with
    | none => cases rz with
      | none => trivial
      | some u => exact absurd hv id
    | some x => cases h2
  | some b =>
    rcases b with b | b
    · cases v with
      | none => cases h2
      | some x =>
        cases rz with
        | none => exact absurd hv id
        | some u =>
          rcases x with x | (x | c)
          · exact amt_ok (t := .inl b) (v := .inl x) hF h2 hv |> (fun g => by
              rcases u with z | (z | (o | j))
              · exact g
              · exact absurd g id
              · exact absurd g id
              · exact absurd g id)
          · cases h2
          · cases h2
    · cases v with
      | none => cases h2
      | some x =>
        cases rz with
        | none => exact absurd hv id
        | some u =>
          rcases x with x | (x | c)
          · cases h2
          · exact amt_ok (t := .inr (.inl b)) (v := .inr (.inl x)) hF h2 hv |> (fun g => by
              rcases u with z | (z | (o | j))
              · exact absurd g id
              · exact g
              · exact absurd g id
              · exact absurd g id)
          · cases h2
theorem aseg_all (hTb : aTb Sh tb cl) {n : Nat} {cd : List rx_E} {nL q : Nat} {s : aS} {ol : Option Nat} {sgs : List aSg} {zo : Int} {Q : zQ} {Kz : zG} (hm : s.2.1 = m) (hz : ol = none → zo = 0) (hn : (s.2.2.2.1 : Int) - (s.2.2.2.2.1 : Int) * zo ≤ (d : Int) + 1) (hI : ∀ d', d' ≤ d → ∀ nu x s, it[nu]? = some x → s ∈ x.2 → aSp gt cl d' nu s) (hcl : zcl Sh cd nL q (cl d) Q Kz) (hsf : zsf cd Kz) (hpi : apin cd = true) (hQ : ∀ rz st', gInv gt st' → aFr m st0 st' → aRz s.2.2.1 rz → Q rz st') (hc : ∀ sg ∈ sgs, asg Sh gt it tb n cd nL q s ol sgs sg = true) :
    ∀ (mu : Nat) (sg : aSg) (Lz : zL) (st : zS) (vs : mV), sg ∈ sgs → aAt gt m st0 ol zo sg Lz st vs → mco 6 (vs.map mn1) = mu → Kz (rx_find cd sg.1) Lz [] st := by
  intro mu
  induction mu using Nat.strongRecOn with
  | _ mu ih =>
    intro sg Lz st vs hsg ⟨h1, h2, h3, h4, h5, h6⟩ hmu
    have h := hc sg hsg
    unfold asg at h
    obtain ⟨L, F, rho, k1, k2, k3, k4⟩ := asl_ok h (rho := fun _ => 0) (fun k hk => absurd hk (Nat.not_lt_zero k)) h1
    have hT0 : aRT gt (afl F) rho [] [] st := ⟨fun c i v hv => (by cases hv), fun c b hb => (by cases hb), fun c i _ _ => h2 c i⟩
    obtain ⟨F1, O, rho1, g1, g2, g3, g4⟩ := aso_ok h2 k1 k2 hT0
    have hL1 := k4.ext g3
    obtain ⟨vo, g5, g6⟩ := avo_ok g1 hL1 h4
    obtain ⟨va, vs', g7, g8, g9, g10⟩ := amvs_ok hL1 g4 g5
    have e := g10 vs h5
    subst e
    have hJ : aJs gt m st0 (afl F1) rho1 cd (sgs.map (fun x => x.1)) (ajc gt sgs ol vo (some va)) Kz := by
      intro pc L' F' O' A' hpc hj rho' Lz' st' X'
      obtain ⟨sg', vs', e1, e2, e3, e4⟩ := ajc_ok hj g6 hz X'
      rw [← e2]
      exact ih _ (by rw [← hmu]; exact e4 va vs rfl g9 h6) sg' Lz' st' vs' e1 e3 rfl
    rw [hm] at g7
    exact ar1_ok hTb (Int.natCast_nonneg _) hn hI g6 hcl hsf hpi (akc_ok hQ) hJ g7 ⟨g2, aext.rf _ _, hL1, trivial, g4, h3⟩
end AINS
end
section
/-! a summary holds when the interval executor has gone through its segments -/
def atc (t : aT) : Nat := match t with
  | .inr (.inl _) => 2
  | _ => 1
noncomputable def alsp (ts : List aT) : Nat → List (Nat × aT) := List.rec (fun _ => []) (fun t _ ih i => (i, t) :: ih (i + atc t)) ts
noncomputable def atcs (ts : List aT) : Nat := List.rec 0 (fun t _ ih => Nat.add (atc t) ih) ts
noncomputable def aix (ts : List aT) : Nat → Nat → Nat := List.rec (fun _ i => i) (fun t _ ih o i => Nat.rec i (fun o' _ => ih o' (i + atc t)) o) ts
noncomputable def aolx (s : aS) : Option Nat := cond (Nat.beq s.2.2.2.2.1 0) none (some (aix s.1 s.2.2.2.2.2 0))
noncomputable def anp (s : aS) : Bool := cond (Nat.beq s.2.2.2.2.1 0) (Nat.blt 0 s.2.2.2.1) (aat s.1 s.2.2.2.2.2 (fun t => match t with
  | .inl b => ile 1 ((s.2.2.2.1 : Int) - (s.2.2.2.2.1 : Int) * b.2)
  | _ => false))
noncomputable def ains (Sh : List zC) (gt : aG) (it : aIt) (tb : rx_T) (n nu : Nat) (s : aS) (sgs : List aSg) : Bool := aat tb nu (fun x => (apin x.1 && (Nat.ble (atcs s.1) x.2.1 && anp s)) && (aen Sh gt it tb n x.1 x.2.1 x.2.2.2.2 s (alsp s.1 0) (aolx s) sgs && aall (fun sg => asg Sh gt it tb n x.1 x.2.1 x.2.2.2.2 s (aolx s) sgs sg) sgs))
theorem aTz_cat {t : aT} {u : zV} (h : aTz t u) : zcat u = atc t := by
  rcases t with b | (b | c) <;> rcases u with z | (z | (o | j)) <;> first | rfl | exact absurd h id
theorem aTs_cats : ∀ {ts : List aT} {us : List zV}, aTs ts us → zcats us = atcs ts
  | [], [], _ => rfl
  | t :: ts, u :: us, h => by
    show Nat.add (zcat u) (zcats us) = Nat.add (atc t) (atcs ts)
    rw [aTz_cat h.1, aTs_cats h.2]
  | [], _ :: _, h => absurd h id
  | _ :: _, [], h => absurd h id
theorem atc_pos (t : aT) : 0 < atc t := by
  rcases t with b | (b | c)
  · show 0 < 1; decide
  · show 0 < 2; decide
  · show 0 < 1; decide
theorem alsp_ge : ∀ {ts : List aT} {i : Nat}, ∀ q ∈ alsp ts i, i ≤ q.1 := by
  intro ts
  induction ts with
  | nil => intro i q hq; cases hq
  | cons t ts ih =>
    intro i q hq
    rcases List.mem_cons.mp (show q ∈ (i, t) :: alsp ts (i + atc t) from hq) with e | e
    · rw [e]; exact Nat.le_refl _
    · exact Nat.le_trans (Nat.le_add_right _ _) (ih q e)
theorem zargs_lk : ∀ {ts : List aT} {us : List zV} {i : Nat}, aTs ts us → ∀ q ∈ alsp ts i, ∃ u, zlk (zargs us i) q.1 = some u ∧ aTz q.2 u := by
  intro ts
  induction ts with
  | nil => intro us i _ q hq; cases hq
  | cons t ts ih =>
    intro us i h q hq
    cases us with
    | nil => exact absurd h id
    | cons u us =>
      show ∃ x, (if i = q.1 then some u else zlk (zargs us (i + zcat u)) q.1) = some x ∧ aTz q.2 x
      rcases List.mem_cons.mp (show q ∈ (i, t) :: alsp ts (i + atc t) from hq) with e | e
      · rw [e, if_pos rfl]
        exact ⟨u, rfl, h.1⟩
      · have h1 := alsp_ge q e
        have h2 := atc_pos t
        rw [if_neg (by omega), aTz_cat h.1]
        exact ih h.2 q e
theorem aix_ge : ∀ {ts : List aT} {o i : Nat}, i ≤ aix ts o i := by
  intro ts
  induction ts with
  | nil => intro o i; exact Nat.le_refl _
  | cons t ts ih =>
    intro o i
    cases o with
    | zero => exact Nat.le_refl _
    | succ o => exact Nat.le_trans (Nat.le_add_right _ _) (ih (o := o) (i := i + atc t))
theorem aix_lk : ∀ {ts : List aT} {us : List zV} {o i : Nat} {u : zV}, aTs ts us → us[o]? = some u → zlk (zargs us i) (aix ts o i) = some u := by
  intro ts
  induction ts with
  | nil =>
    intro us o i u h hu
    cases us with
    | nil => simp at hu
    | cons x t => exact absurd h id
  | cons t ts ih =>
    intro us o i u h hu
    cases us with
    | nil => exact absurd h id
    | cons x us =>
      cases o with
      | zero =>
        simp at hu
        show (if i = i then some x else _) = some u
        rw [if_pos rfl, hu]
      | succ o =>
        have h1 := aix_ge (ts := ts) (o := o) (i := i + atc t)
        have h2 := atc_pos t
        show (if i = aix ts o (i + atc t) then some x else zlk (zargs us (i + zcat x)) (aix ts o (i + atc t))) = some u
        rw [if_neg (by omega), aTz_cat h.1]
        exact ih h.2 (by simpa using hu)
theorem aTs_at : ∀ {ts : List aT} {us : List zV} {o : Nat} {u : zV} {t : aT}, aTs ts us → us[o]? = some u → ts[o]? = some t → aTz t u := by
  intro ts
  induction ts with
  | nil => intro us o u t h hu ht; simp at ht
  | cons a ts ih =>
    intro us o u t h hu ht
    cases us with
    | nil => exact absurd h id
    | cons x us =>
      cases o with
      | zero =>
        simp at hu ht
        rw [← hu, ← ht]
        exact h.1
      | succ o => exact ih h.2 (by simpa using hu) (by simpa using ht)
section AALL
variable {Sh : List zC} {gt : aG} {it : aIt} {tb : rx_T} {cl : Nat → zCall}
theorem ains_ok (hTb : aTb Sh tb cl) {n nu : Nat} {s : aS} {sgs : List aSg} (h : ains Sh gt it tb n nu s sgs = true) : ∀ D : Nat, (∀ d', d' < D → ∀ nu x s, it[nu]? = some x → s ∈ x.2 → aSp gt cl d' nu s) → aSp gt cl D nu s := by
  intro D hI asz st0 hm hG hnd Q hQ
  obtain ⟨x, h1, h2⟩ := aat_ok h
  obtain ⟨h2, h3⟩ := rx_an h2
  obtain ⟨hpi, h2⟩ := rx_an h2
  obtain ⟨h4, h5⟩ := rx_an h2
  obtain ⟨h6, h7⟩ := rx_an h3
  have h7 := aall_ok h7
  -- the argument that the frames hang on
  have hzo : ∃ zo : Int, (aolx s = none → zo = 0) ∧ volk (aolx s) (zargs asz 0) zo ∧ (s.2.2.2.1 : Int) - (s.2.2.2.2.1 : Int) * zo ≤ (D : Int) ∧ 1 ≤ (s.2.2.2.1 : Int) - (s.2.2.2.2.1 : Int) * zo := by
    unfold aolx
    unfold anp at h5
    cases c : Nat.beq s.2.2.2.2.1 0 with
    | true =>
      rw [c] at h5
      have c := rx_bq c
      have h5 := rx_bt h5
      have h8 := hnd.1 c
      refine ⟨0, fun _ => rfl, rfl, ?_, ?_⟩
      · rw [Int.mul_zero]; omega
      · rw [Int.mul_zero]; omega
    | false =>
      rw [c] at h5
      have c2 : ¬ s.2.2.2.2.1 = 0 := by
        intro q
        rw [q] at c
        cases c
      obtain ⟨z, h8, h9⟩ := hnd.2 c2
      obtain ⟨t, g1, g2⟩ := aat_ok (show aat s.1 s.2.2.2.2.2 _ = true from h5)
      have g3 := aTs_at hm h8 g1
      rcases t with b | (b | k)
      · have g2 := ile_ok (show ile 1 ((s.2.2.2.1 : Int) - (s.2.2.2.2.1 : Int) * b.2) = true from g2)
        have g3 : b.1 ≤ z ∧ z ≤ b.2 := g3
        have g4 : (s.2.2.2.2.1 : Int) * z ≤ (s.2.2.2.2.1 : Int) * b.2 := Int.mul_le_mul_of_nonneg_left g3.2 (Int.natCast_nonneg _)
        exact ⟨z, fun q => (by cases q), aix_lk hm h8, h9, by omega⟩
      · cases g2
      · cases g2
  obtain ⟨zo, hz, hvk, hn, hp⟩ := hzo
  obtain ⟨d, rfl⟩ : ∃ d, D = d + 1 := ⟨D - 1, by omega⟩
  have hn : (s.2.2.2.1 : Int) - (s.2.2.2.2.1 : Int) * zo ≤ (d : Int) + 1 := by omega
  have hI' : ∀ d', d' ≤ d → ∀ nu x s, it[nu]? = some x → s ∈ x.2 → aSp gt cl d' nu s := fun d' hd => hI d' (by omega)
  refine hTb d nu x h1 asz st0 Q (by rw [aTs_cats hm]; exact rx_bl h4) (fun Kz hcl hsf => ?_)
  have hseg := aseg_all (st0 := st0) hTb (s := s) rfl hz hn hI' hcl hsf hpi hQ h7
  unfold aen at h6
  obtain ⟨L, F, rho, k1, k2, k3, k4⟩ := asl_ok (Lz := zargs asz 0) h6 (rho := fun _ => 0) (fun k hk => absurd hk (Nat.not_lt_zero k)) (zargs_lk hm)
  obtain ⟨vo, g5, g6⟩ := avo_ok k1 k4 hvk
  have hT0 : aRT gt (afl F) rho [] [] st0 := ⟨fun c i v hv => (by cases hv), fun c b hb => (by cases hb), fun c i _ _ => hG c i⟩
  have hJ : aJs gt s.2.1 st0 (afl F) rho x.1 (sgs.map (fun x => x.1)) (ajc gt sgs (aolx s) vo none) Kz := by
    intro pc L' F' O' A' hpc hj rho' Lz' st' X'
    obtain ⟨sg', vs', e1, e2, e3, -⟩ := ajc_ok hj g6 hz X'
    rw [← e2]
    exact hseg _ sg' Lz' st' vs' e1 e3 rfl
  exact ar_ok hTb (Int.natCast_nonneg _) hn hI' (n + 1) 0 d x.1 x.2.1 x.2.2.2.2 (sgs.map (fun x => x.1)) _ _ Kz Q (afl F) rho rfl g6 hcl hsf (Or.inr hpi) (akc_ok hQ) hJ x.1 L [] F [] [] g5 rho (zargs asz 0) [] st0 ⟨k2, aext.rf _ _, k4, trivial, hT0, fun c i _ _ => rfl⟩
/-- all summaries at once: by the executor, or by hand over those of smaller depth -/
theorem a_all (hall : ∀ nu x s, it[nu]? = some x → s ∈ x.2 → ∀ D : Nat, (∀ d', d' < D → ∀ nu x s, it[nu]? = some x → s ∈ x.2 → aSp gt cl d' nu s) → aSp gt cl D nu s) : ∀ D nu x s, it[nu]? = some x → s ∈ x.2 → aSp gt cl D nu s := by
  intro D
  induction D using Nat.strongRecOn with
  | _ D ih => exact fun nu x s h1 h2 => hall nu x s h1 h2 D ih
end AALL
end
