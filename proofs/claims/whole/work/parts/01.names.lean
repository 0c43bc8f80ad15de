-- ===== PART A: goes FIRST, ahead of the names: the tables' words, and 'selects' of the private methods out of them =====
/-- a private method of a class that the tables say can be made, by its rows of tables_1 -/
def lw_okq (q : MethodName × Nat) : Prop := (q.1.cls ≠ "java/lang/invoke/MethodHandle" ∧ q.1.cls ≠ "java/lang/invoke/VarHandle") ∧ Cond.instantiable q.1.cls q.2 ∈ tables_1 ∧ Cond.privateMethod q.1 ∈ tables_1 ∧ Cond.instanceMethod q.1 ∈ tables_1
theorem lw_p0 : lw_okq (⟨"KnotColours", "makeLinear", "(II)I"⟩, 7) := ⟨⟨by decide +kernel, by decide +kernel⟩, List.mem_of_getElem? (i := 13) (by decide +kernel), List.mem_of_getElem? (i := 173) (by decide +kernel), List.mem_of_getElem? (i := 174) (by decide +kernel)⟩
theorem lw_p1 : lw_okq (⟨"KnotColours", "saveState", "()V"⟩, 7) := ⟨⟨by decide +kernel, by decide +kernel⟩, List.mem_of_getElem? (i := 13) (by decide +kernel), List.mem_of_getElem? (i := 177) (by decide +kernel), List.mem_of_getElem? (i := 178) (by decide +kernel)⟩
theorem lw_p2 : lw_okq (⟨"KnotColours$Table", "fillTranslation", "(III)V"⟩, 2) := ⟨⟨by decide +kernel, by decide +kernel⟩, List.mem_of_getElem? (i := 21) (by decide +kernel), List.mem_of_getElem? (i := 227) (by decide +kernel), List.mem_of_getElem? (i := 228) (by decide +kernel)⟩
theorem lw_p3 : lw_okq (⟨"KnotColours$Table", "isPermutation", "(I)Z"⟩, 2) := ⟨⟨by decide +kernel, by decide +kernel⟩, List.mem_of_getElem? (i := 21) (by decide +kernel), List.mem_of_getElem? (i := 262) (by decide +kernel), List.mem_of_getElem? (i := 263) (by decide +kernel)⟩
theorem lw_p4 : lw_okq (⟨"KnotColours$Table", "componentOf", "(I)I"⟩, 2) := ⟨⟨by decide +kernel, by decide +kernel⟩, List.mem_of_getElem? (i := 21) (by decide +kernel), List.mem_of_getElem? (i := 321) (by decide +kernel), List.mem_of_getElem? (i := 322) (by decide +kernel)⟩
theorem lw_p5 : lw_okq (⟨"KnotColours$Table", "isIdentityAfter", "(II)Z"⟩, 2) := ⟨⟨by decide +kernel, by decide +kernel⟩, List.mem_of_getElem? (i := 21) (by decide +kernel), List.mem_of_getElem? (i := 357) (by decide +kernel), List.mem_of_getElem? (i := 358) (by decide +kernel)⟩
theorem lw_p6 : lw_okq (⟨"KnotColours$Table", "isNewTranslation", "(I)Z"⟩, 2) := ⟨⟨by decide +kernel, by decide +kernel⟩, List.mem_of_getElem? (i := 21) (by decide +kernel), List.mem_of_getElem? (i := 369) (by decide +kernel), List.mem_of_getElem? (i := 370) (by decide +kernel)⟩
theorem lw_p7 : lw_okq (⟨"KnotColours$Table", "sameTranslation", "(II)Z"⟩, 2) := ⟨⟨by decide +kernel, by decide +kernel⟩, List.mem_of_getElem? (i := 21) (by decide +kernel), List.mem_of_getElem? (i := 373) (by decide +kernel), List.mem_of_getElem? (i := 374) (by decide +kernel)⟩
theorem lw_p8 : lw_okq (⟨"KnotColours$Permutations", "startAtIdentity", "()V"⟩, 4) := ⟨⟨by decide +kernel, by decide +kernel⟩, List.mem_of_getElem? (i := 38) (by decide +kernel), List.mem_of_getElem? (i := 385) (by decide +kernel), List.mem_of_getElem? (i := 386) (by decide +kernel)⟩
theorem lw_p9 : lw_okq (⟨"KnotColours$Permutations", "unrank", "(II)V"⟩, 4) := ⟨⟨by decide +kernel, by decide +kernel⟩, List.mem_of_getElem? (i := 38) (by decide +kernel), List.mem_of_getElem? (i := 389) (by decide +kernel), List.mem_of_getElem? (i := 390) (by decide +kernel)⟩
theorem lw_p10 : lw_okq (⟨"KnotColours$Permutations", "rankBehind", "(LKnotColours$Table;I)I"⟩, 4) := ⟨⟨by decide +kernel, by decide +kernel⟩, List.mem_of_getElem? (i := 38) (by decide +kernel), List.mem_of_getElem? (i := 393) (by decide +kernel), List.mem_of_getElem? (i := 394) (by decide +kernel)⟩
theorem lw_p11 : lw_okq (⟨"KnotColours$Permutations", "keepsProducts", "(LKnotColours$Table;)Z"⟩, 4) := ⟨⟨by decide +kernel, by decide +kernel⟩, List.mem_of_getElem? (i := 38) (by decide +kernel), List.mem_of_getElem? (i := 406) (by decide +kernel), List.mem_of_getElem? (i := 407) (by decide +kernel)⟩
theorem lw_p12 : lw_okq (⟨"KnotColours$Diagram", "countAs", "(II)I"⟩, 3) := ⟨⟨by decide +kernel, by decide +kernel⟩, List.mem_of_getElem? (i := 58) (by decide +kernel), List.mem_of_getElem? (i := 497) (by decide +kernel), List.mem_of_getElem? (i := 498) (by decide +kernel)⟩
theorem lw_p13 : lw_okq (⟨"KnotColours$Diagram", "componentOf", "(I)I"⟩, 3) := ⟨⟨by decide +kernel, by decide +kernel⟩, List.mem_of_getElem? (i := 58) (by decide +kernel), List.mem_of_getElem? (i := 505) (by decide +kernel), List.mem_of_getElem? (i := 506) (by decide +kernel)⟩
theorem lw_p14 : lw_okq (⟨"KnotColours$ColouringWalk", "start", "()V"⟩, 6) := ⟨⟨by decide +kernel, by decide +kernel⟩, List.mem_of_getElem? (i := 78) (by decide +kernel), List.mem_of_getElem? (i := 533) (by decide +kernel), List.mem_of_getElem? (i := 534) (by decide +kernel)⟩
theorem lw_p15 : lw_okq (⟨"KnotColours$ColouringWalk", "advance", "()Z"⟩, 6) := ⟨⟨by decide +kernel, by decide +kernel⟩, List.mem_of_getElem? (i := 78) (by decide +kernel), List.mem_of_getElem? (i := 540) (by decide +kernel), List.mem_of_getElem? (i := 541) (by decide +kernel)⟩
def lw_privs_1 : List (MethodName × Nat) := [(⟨"KnotColours", "makeLinear", "(II)I"⟩, 7), (⟨"KnotColours", "saveState", "()V"⟩, 7), (⟨"KnotColours$Table", "fillTranslation", "(III)V"⟩, 2), (⟨"KnotColours$Table", "isPermutation", "(I)Z"⟩, 2), (⟨"KnotColours$Table", "componentOf", "(I)I"⟩, 2), (⟨"KnotColours$Table", "isIdentityAfter", "(II)Z"⟩, 2), (⟨"KnotColours$Table", "isNewTranslation", "(I)Z"⟩, 2), (⟨"KnotColours$Table", "sameTranslation", "(II)Z"⟩, 2), (⟨"KnotColours$Permutations", "startAtIdentity", "()V"⟩, 4), (⟨"KnotColours$Permutations", "unrank", "(II)V"⟩, 4), (⟨"KnotColours$Permutations", "rankBehind", "(LKnotColours$Table;I)I"⟩, 4), (⟨"KnotColours$Permutations", "keepsProducts", "(LKnotColours$Table;)Z"⟩, 4), (⟨"KnotColours$Diagram", "countAs", "(II)I"⟩, 3), (⟨"KnotColours$Diagram", "componentOf", "(I)I"⟩, 3), (⟨"KnotColours$ColouringWalk", "start", "()V"⟩, 6), (⟨"KnotColours$ColouringWalk", "advance", "()Z"⟩, 6)]
theorem lw_r1 : ∀ q ∈ lw_privs_1, lw_okq q := List.forall_mem_cons.mpr ⟨lw_p0, List.forall_mem_cons.mpr ⟨lw_p1, List.forall_mem_cons.mpr ⟨lw_p2, List.forall_mem_cons.mpr ⟨lw_p3, List.forall_mem_cons.mpr ⟨lw_p4, List.forall_mem_cons.mpr ⟨lw_p5, List.forall_mem_cons.mpr ⟨lw_p6, List.forall_mem_cons.mpr ⟨lw_p7, List.forall_mem_cons.mpr ⟨lw_p8, List.forall_mem_cons.mpr ⟨lw_p9, List.forall_mem_cons.mpr ⟨lw_p10, List.forall_mem_cons.mpr ⟨lw_p11, List.forall_mem_cons.mpr ⟨lw_p12, List.forall_mem_cons.mpr ⟨lw_p13, List.forall_mem_cons.mpr ⟨lw_p14, List.forall_mem_cons.mpr ⟨lw_p15, fun _ h => absurd h List.not_mem_nil⟩⟩⟩⟩⟩⟩⟩⟩⟩⟩⟩⟩⟩⟩⟩⟩
theorem lw_p16 : lw_okq (⟨"KnotColours$ColouringWalk", "fits", "()Z"⟩, 6) := ⟨⟨by decide +kernel, by decide +kernel⟩, List.mem_of_getElem? (i := 78) (by decide +kernel), List.mem_of_getElem? (i := 545) (by decide +kernel), List.mem_of_getElem? (i := 546) (by decide +kernel)⟩
theorem lw_p17 : lw_okq (⟨"KnotColours$ColouringWalk", "isMet", "(I)Z"⟩, 6) := ⟨⟨by decide +kernel, by decide +kernel⟩, List.mem_of_getElem? (i := 78) (by decide +kernel), List.mem_of_getElem? (i := 549) (by decide +kernel), List.mem_of_getElem? (i := 550) (by decide +kernel)⟩
theorem lw_p18 : lw_okq (⟨"KnotColours$ColouringWalk", "coloursUsed", "()I"⟩, 6) := ⟨⟨by decide +kernel, by decide +kernel⟩, List.mem_of_getElem? (i := 78) (by decide +kernel), List.mem_of_getElem? (i := 554) (by decide +kernel), List.mem_of_getElem? (i := 555) (by decide +kernel)⟩
theorem lw_p19 : lw_okq (⟨"KnotColours$DiagramText", "mayStandAt", "(I)Z"⟩, 2) := ⟨⟨by decide +kernel, by decide +kernel⟩, List.mem_of_getElem? (i := 103) (by decide +kernel), List.mem_of_getElem? (i := 616) (by decide +kernel), List.mem_of_getElem? (i := 617) (by decide +kernel)⟩
theorem lw_p20 : lw_okq (⟨"KnotColours$DiagramText", "arcAt", "(I)I"⟩, 2) := ⟨⟨by decide +kernel, by decide +kernel⟩, List.mem_of_getElem? (i := 103) (by decide +kernel), List.mem_of_getElem? (i := 628) (by decide +kernel), List.mem_of_getElem? (i := 629) (by decide +kernel)⟩
theorem lw_p21 : lw_okq (⟨"KnotColours", "hashTable", "(J)J"⟩, 7) := ⟨⟨by decide +kernel, by decide +kernel⟩, List.mem_of_getElem? (i := 13) (by decide +kernel), List.mem_of_getElem? (i := 648) (by decide +kernel), List.mem_of_getElem? (i := 649) (by decide +kernel)⟩
theorem lw_p22 : lw_okq (⟨"KnotColours", "hashDiagram", "(J)J"⟩, 7) := ⟨⟨by decide +kernel, by decide +kernel⟩, List.mem_of_getElem? (i := 13) (by decide +kernel), List.mem_of_getElem? (i := 663) (by decide +kernel), List.mem_of_getElem? (i := 664) (by decide +kernel)⟩
theorem lw_p23 : lw_okq (⟨"KnotColours", "hashColourings", "(J)J"⟩, 7) := ⟨⟨by decide +kernel, by decide +kernel⟩, List.mem_of_getElem? (i := 13) (by decide +kernel), List.mem_of_getElem? (i := 671) (by decide +kernel), List.mem_of_getElem? (i := 672) (by decide +kernel)⟩
theorem lw_p24 : lw_okq (⟨"KnotColoursModel", "makesTrivial", "(I)I"⟩, 16) := ⟨⟨by decide +kernel, by decide +kernel⟩, List.mem_of_getElem? (i := 675) (by decide +kernel), List.mem_of_getElem? (i := 737) (by decide +kernel), List.mem_of_getElem? (i := 738) (by decide +kernel)⟩
theorem lw_p25 : lw_okq (⟨"KnotColoursModel", "makes", "(III)I"⟩, 16) := ⟨⟨by decide +kernel, by decide +kernel⟩, List.mem_of_getElem? (i := 675) (by decide +kernel), List.mem_of_getElem? (i := 741) (by decide +kernel), List.mem_of_getElem? (i := 742) (by decide +kernel)⟩
theorem lw_p26 : lw_okq (⟨"KnotColoursModel", "record", "()V"⟩, 16) := ⟨⟨by decide +kernel, by decide +kernel⟩, List.mem_of_getElem? (i := 675) (by decide +kernel), List.mem_of_getElem? (i := 745) (by decide +kernel), List.mem_of_getElem? (i := 746) (by decide +kernel)⟩
theorem lw_p27 : lw_okq (⟨"KnotColoursModel", "setTimes", "(III)V"⟩, 16) := ⟨⟨by decide +kernel, by decide +kernel⟩, List.mem_of_getElem? (i := 675) (by decide +kernel), List.mem_of_getElem? (i := 749) (by decide +kernel), List.mem_of_getElem? (i := 750) (by decide +kernel)⟩
theorem lw_p28 : lw_okq (⟨"KnotColoursModel", "laysPair", "(III)V"⟩, 16) := ⟨⟨by decide +kernel, by decide +kernel⟩, List.mem_of_getElem? (i := 675) (by decide +kernel), List.mem_of_getElem? (i := 765) (by decide +kernel), List.mem_of_getElem? (i := 766) (by decide +kernel)⟩
theorem lw_p29 : lw_okq (⟨"KnotColoursModel", "isElement", "(I)Z"⟩, 16) := ⟨⟨by decide +kernel, by decide +kernel⟩, List.mem_of_getElem? (i := 675) (by decide +kernel), List.mem_of_getElem? (i := 779) (by decide +kernel), List.mem_of_getElem? (i := 780) (by decide +kernel)⟩
theorem lw_p30 : lw_okq (⟨"KnotColoursModel", "times", "(II)I"⟩, 16) := ⟨⟨by decide +kernel, by decide +kernel⟩, List.mem_of_getElem? (i := 675) (by decide +kernel), List.mem_of_getElem? (i := 783) (by decide +kernel), List.mem_of_getElem? (i := 784) (by decide +kernel)⟩
theorem lw_p31 : lw_okq (⟨"KnotColoursModel", "violatesSecond", "()I"⟩, 16) := ⟨⟨by decide +kernel, by decide +kernel⟩, List.mem_of_getElem? (i := 675) (by decide +kernel), List.mem_of_getElem? (i := 791) (by decide +kernel), List.mem_of_getElem? (i := 792) (by decide +kernel)⟩
def lw_privs_2 : List (MethodName × Nat) := [(⟨"KnotColours$ColouringWalk", "fits", "()Z"⟩, 6), (⟨"KnotColours$ColouringWalk", "isMet", "(I)Z"⟩, 6), (⟨"KnotColours$ColouringWalk", "coloursUsed", "()I"⟩, 6), (⟨"KnotColours$DiagramText", "mayStandAt", "(I)Z"⟩, 2), (⟨"KnotColours$DiagramText", "arcAt", "(I)I"⟩, 2), (⟨"KnotColours", "hashTable", "(J)J"⟩, 7), (⟨"KnotColours", "hashDiagram", "(J)J"⟩, 7), (⟨"KnotColours", "hashColourings", "(J)J"⟩, 7), (⟨"KnotColoursModel", "makesTrivial", "(I)I"⟩, 16), (⟨"KnotColoursModel", "makes", "(III)I"⟩, 16), (⟨"KnotColoursModel", "record", "()V"⟩, 16), (⟨"KnotColoursModel", "setTimes", "(III)V"⟩, 16), (⟨"KnotColoursModel", "laysPair", "(III)V"⟩, 16), (⟨"KnotColoursModel", "isElement", "(I)Z"⟩, 16), (⟨"KnotColoursModel", "times", "(II)I"⟩, 16), (⟨"KnotColoursModel", "violatesSecond", "()I"⟩, 16)]
theorem lw_r2 : ∀ q ∈ lw_privs_2, lw_okq q := List.forall_mem_cons.mpr ⟨lw_p16, List.forall_mem_cons.mpr ⟨lw_p17, List.forall_mem_cons.mpr ⟨lw_p18, List.forall_mem_cons.mpr ⟨lw_p19, List.forall_mem_cons.mpr ⟨lw_p20, List.forall_mem_cons.mpr ⟨lw_p21, List.forall_mem_cons.mpr ⟨lw_p22, List.forall_mem_cons.mpr ⟨lw_p23, List.forall_mem_cons.mpr ⟨lw_p24, List.forall_mem_cons.mpr ⟨lw_p25, List.forall_mem_cons.mpr ⟨lw_p26, List.forall_mem_cons.mpr ⟨lw_p27, List.forall_mem_cons.mpr ⟨lw_p28, List.forall_mem_cons.mpr ⟨lw_p29, List.forall_mem_cons.mpr ⟨lw_p30, List.forall_mem_cons.mpr ⟨lw_p31, fun _ h => absurd h List.not_mem_nil⟩⟩⟩⟩⟩⟩⟩⟩⟩⟩⟩⟩⟩⟩⟩⟩
theorem lw_p32 : lw_okq (⟨"KnotColoursModel", "isPermutation", "(I)Z"⟩, 16) := ⟨⟨by decide +kernel, by decide +kernel⟩, List.mem_of_getElem? (i := 675) (by decide +kernel), List.mem_of_getElem? (i := 795) (by decide +kernel), List.mem_of_getElem? (i := 796) (by decide +kernel)⟩
theorem lw_p33 : lw_okq (⟨"KnotColoursModel", "dividedBy", "(II)I"⟩, 16) := ⟨⟨by decide +kernel, by decide +kernel⟩, List.mem_of_getElem? (i := 675) (by decide +kernel), List.mem_of_getElem? (i := 802) (by decide +kernel), List.mem_of_getElem? (i := 803) (by decide +kernel)⟩
theorem lw_p34 : lw_okq (⟨"KnotColoursModel", "violates", "(I)I"⟩, 16) := ⟨⟨by decide +kernel, by decide +kernel⟩, List.mem_of_getElem? (i := 675) (by decide +kernel), List.mem_of_getElem? (i := 822) (by decide +kernel), List.mem_of_getElem? (i := 823) (by decide +kernel)⟩
theorem lw_p35 : lw_okq (⟨"KnotColoursModel", "violatesFirst", "()I"⟩, 16) := ⟨⟨by decide +kernel, by decide +kernel⟩, List.mem_of_getElem? (i := 675) (by decide +kernel), List.mem_of_getElem? (i := 826) (by decide +kernel), List.mem_of_getElem? (i := 827) (by decide +kernel)⟩
theorem lw_p36 : lw_okq (⟨"KnotColoursModel", "violatesThird", "()I"⟩, 16) := ⟨⟨by decide +kernel, by decide +kernel⟩, List.mem_of_getElem? (i := 675) (by decide +kernel), List.mem_of_getElem? (i := 830) (by decide +kernel), List.mem_of_getElem? (i := 831) (by decide +kernel)⟩
theorem lw_p37 : lw_okq (⟨"KnotColoursModel", "componentsOfTable", "()I"⟩, 16) := ⟨⟨by decide +kernel, by decide +kernel⟩, List.mem_of_getElem? (i := 675) (by decide +kernel), List.mem_of_getElem? (i := 842) (by decide +kernel), List.mem_of_getElem? (i := 843) (by decide +kernel)⟩
theorem lw_p38 : lw_okq (⟨"KnotColoursModel", "aloneAll", "(I)V"⟩, 16) := ⟨⟨by decide +kernel, by decide +kernel⟩, List.mem_of_getElem? (i := 675) (by decide +kernel), List.mem_of_getElem? (i := 846) (by decide +kernel), List.mem_of_getElem? (i := 847) (by decide +kernel)⟩
theorem lw_p39 : lw_okq (⟨"KnotColoursModel", "joins", "(III)V"⟩, 16) := ⟨⟨by decide +kernel, by decide +kernel⟩, List.mem_of_getElem? (i := 675) (by decide +kernel), List.mem_of_getElem? (i := 850) (by decide +kernel), List.mem_of_getElem? (i := 851) (by decide +kernel)⟩
theorem lw_p40 : lw_okq (⟨"KnotColoursModel", "partsMany", "(I)I"⟩, 16) := ⟨⟨by decide +kernel, by decide +kernel⟩, List.mem_of_getElem? (i := 675) (by decide +kernel), List.mem_of_getElem? (i := 854) (by decide +kernel), List.mem_of_getElem? (i := 855) (by decide +kernel)⟩
theorem lw_p41 : lw_okq (⟨"KnotColoursModel", "closureOf", "(I)I"⟩, 16) := ⟨⟨by decide +kernel, by decide +kernel⟩, List.mem_of_getElem? (i := 675) (by decide +kernel), List.mem_of_getElem? (i := 862) (by decide +kernel), List.mem_of_getElem? (i := 863) (by decide +kernel)⟩
theorem lw_p42 : lw_okq (⟨"KnotColoursModel", "fewestGenerators", "()I"⟩, 16) := ⟨⟨by decide +kernel, by decide +kernel⟩, List.mem_of_getElem? (i := 675) (by decide +kernel), List.mem_of_getElem? (i := 870) (by decide +kernel), List.mem_of_getElem? (i := 871) (by decide +kernel)⟩
theorem lw_p43 : lw_okq (⟨"KnotColoursModel", "differentTranslations", "()I"⟩, 16) := ⟨⟨by decide +kernel, by decide +kernel⟩, List.mem_of_getElem? (i := 675) (by decide +kernel), List.mem_of_getElem? (i := 882) (by decide +kernel), List.mem_of_getElem? (i := 883) (by decide +kernel)⟩
theorem lw_p44 : lw_okq (⟨"KnotColoursModel", "groupSize", "()I"⟩, 16) := ⟨⟨by decide +kernel, by decide +kernel⟩, List.mem_of_getElem? (i := 675) (by decide +kernel), List.mem_of_getElem? (i := 890) (by decide +kernel), List.mem_of_getElem? (i := 891) (by decide +kernel)⟩
theorem lw_p45 : lw_okq (⟨"KnotColoursModel", "keepsFound", "(I)V"⟩, 16) := ⟨⟨by decide +kernel, by decide +kernel⟩, List.mem_of_getElem? (i := 675) (by decide +kernel), List.mem_of_getElem? (i := 894) (by decide +kernel), List.mem_of_getElem? (i := 895) (by decide +kernel)⟩
theorem lw_p46 : lw_okq (⟨"KnotColoursModel", "unpacks", "(I)V"⟩, 16) := ⟨⟨by decide +kernel, by decide +kernel⟩, List.mem_of_getElem? (i := 675) (by decide +kernel), List.mem_of_getElem? (i := 898) (by decide +kernel), List.mem_of_getElem? (i := 899) (by decide +kernel)⟩
theorem lw_p47 : lw_okq (⟨"KnotColoursModel", "packed", "(I)I"⟩, 16) := ⟨⟨by decide +kernel, by decide +kernel⟩, List.mem_of_getElem? (i := 675) (by decide +kernel), List.mem_of_getElem? (i := 902) (by decide +kernel), List.mem_of_getElem? (i := 903) (by decide +kernel)⟩
def lw_privs_3 : List (MethodName × Nat) := [(⟨"KnotColoursModel", "isPermutation", "(I)Z"⟩, 16), (⟨"KnotColoursModel", "dividedBy", "(II)I"⟩, 16), (⟨"KnotColoursModel", "violates", "(I)I"⟩, 16), (⟨"KnotColoursModel", "violatesFirst", "()I"⟩, 16), (⟨"KnotColoursModel", "violatesThird", "()I"⟩, 16), (⟨"KnotColoursModel", "componentsOfTable", "()I"⟩, 16), (⟨"KnotColoursModel", "aloneAll", "(I)V"⟩, 16), (⟨"KnotColoursModel", "joins", "(III)V"⟩, 16), (⟨"KnotColoursModel", "partsMany", "(I)I"⟩, 16), (⟨"KnotColoursModel", "closureOf", "(I)I"⟩, 16), (⟨"KnotColoursModel", "fewestGenerators", "()I"⟩, 16), (⟨"KnotColoursModel", "differentTranslations", "()I"⟩, 16), (⟨"KnotColoursModel", "groupSize", "()I"⟩, 16), (⟨"KnotColoursModel", "keepsFound", "(I)V"⟩, 16), (⟨"KnotColoursModel", "unpacks", "(I)V"⟩, 16), (⟨"KnotColoursModel", "packed", "(I)I"⟩, 16)]
theorem lw_r3 : ∀ q ∈ lw_privs_3, lw_okq q := List.forall_mem_cons.mpr ⟨lw_p32, List.forall_mem_cons.mpr ⟨lw_p33, List.forall_mem_cons.mpr ⟨lw_p34, List.forall_mem_cons.mpr ⟨lw_p35, List.forall_mem_cons.mpr ⟨lw_p36, List.forall_mem_cons.mpr ⟨lw_p37, List.forall_mem_cons.mpr ⟨lw_p38, List.forall_mem_cons.mpr ⟨lw_p39, List.forall_mem_cons.mpr ⟨lw_p40, List.forall_mem_cons.mpr ⟨lw_p41, List.forall_mem_cons.mpr ⟨lw_p42, List.forall_mem_cons.mpr ⟨lw_p43, List.forall_mem_cons.mpr ⟨lw_p44, List.forall_mem_cons.mpr ⟨lw_p45, List.forall_mem_cons.mpr ⟨lw_p46, List.forall_mem_cons.mpr ⟨lw_p47, fun _ h => absurd h List.not_mem_nil⟩⟩⟩⟩⟩⟩⟩⟩⟩⟩⟩⟩⟩⟩⟩⟩
theorem lw_p48 : lw_okq (⟨"KnotColoursModel", "automorphismsMany", "()I"⟩, 16) := ⟨⟨by decide +kernel, by decide +kernel⟩, List.mem_of_getElem? (i := 675) (by decide +kernel), List.mem_of_getElem? (i := 910) (by decide +kernel), List.mem_of_getElem? (i := 911) (by decide +kernel)⟩
theorem lw_p49 : lw_okq (⟨"KnotColoursModel", "isAutomorphism", "()Z"⟩, 16) := ⟨⟨by decide +kernel, by decide +kernel⟩, List.mem_of_getElem? (i := 675) (by decide +kernel), List.mem_of_getElem? (i := 914) (by decide +kernel), List.mem_of_getElem? (i := 915) (by decide +kernel)⟩
theorem lw_p50 : lw_okq (⟨"KnotColoursModel", "clears", "(I)V"⟩, 16) := ⟨⟨by decide +kernel, by decide +kernel⟩, List.mem_of_getElem? (i := 675) (by decide +kernel), List.mem_of_getElem? (i := 922) (by decide +kernel), List.mem_of_getElem? (i := 923) (by decide +kernel)⟩
theorem lw_p51 : lw_okq (⟨"KnotColoursModel", "adds", "(IIII)V"⟩, 16) := ⟨⟨by decide +kernel, by decide +kernel⟩, List.mem_of_getElem? (i := 675) (by decide +kernel), List.mem_of_getElem? (i := 930) (by decide +kernel), List.mem_of_getElem? (i := 931) (by decide +kernel)⟩
theorem lw_p52 : lw_okq (⟨"KnotColoursModel", "isArc", "(I)Z"⟩, 16) := ⟨⟨by decide +kernel, by decide +kernel⟩, List.mem_of_getElem? (i := 675) (by decide +kernel), List.mem_of_getElem? (i := 938) (by decide +kernel), List.mem_of_getElem? (i := 939) (by decide +kernel)⟩
theorem lw_p53 : lw_okq (⟨"KnotColoursModel", "isCrossing", "(I)Z"⟩, 16) := ⟨⟨by decide +kernel, by decide +kernel⟩, List.mem_of_getElem? (i := 675) (by decide +kernel), List.mem_of_getElem? (i := 949) (by decide +kernel), List.mem_of_getElem? (i := 950) (by decide +kernel)⟩
theorem lw_p54 : lw_okq (⟨"KnotColoursModel", "moves", "(II)V"⟩, 16) := ⟨⟨by decide +kernel, by decide +kernel⟩, List.mem_of_getElem? (i := 675) (by decide +kernel), List.mem_of_getElem? (i := 957) (by decide +kernel), List.mem_of_getElem? (i := 958) (by decide +kernel)⟩
theorem lw_p55 : lw_okq (⟨"KnotColoursModel", "crossingPart", "(II)I"⟩, 16) := ⟨⟨by decide +kernel, by decide +kernel⟩, List.mem_of_getElem? (i := 675) (by decide +kernel), List.mem_of_getElem? (i := 961) (by decide +kernel), List.mem_of_getElem? (i := 962) (by decide +kernel)⟩
theorem lw_p56 : lw_okq (⟨"KnotColoursModel", "componentsNow", "()I"⟩, 16) := ⟨⟨by decide +kernel, by decide +kernel⟩, List.mem_of_getElem? (i := 675) (by decide +kernel), List.mem_of_getElem? (i := 985) (by decide +kernel), List.mem_of_getElem? (i := 986) (by decide +kernel)⟩
theorem lw_p57 : lw_okq (⟨"KnotColoursModel", "isClosed", "()Z"⟩, 16) := ⟨⟨by decide +kernel, by decide +kernel⟩, List.mem_of_getElem? (i := 675) (by decide +kernel), List.mem_of_getElem? (i := 989) (by decide +kernel), List.mem_of_getElem? (i := 990) (by decide +kernel)⟩
theorem lw_p58 : lw_okq (⟨"KnotColoursModel", "findParts", "()V"⟩, 16) := ⟨⟨by decide +kernel, by decide +kernel⟩, List.mem_of_getElem? (i := 675) (by decide +kernel), List.mem_of_getElem? (i := 993) (by decide +kernel), List.mem_of_getElem? (i := 994) (by decide +kernel)⟩
theorem lw_p59 : lw_okq (⟨"KnotColoursModel", "writheNow", "()I"⟩, 16) := ⟨⟨by decide +kernel, by decide +kernel⟩, List.mem_of_getElem? (i := 675) (by decide +kernel), List.mem_of_getElem? (i := 1001) (by decide +kernel), List.mem_of_getElem? (i := 1002) (by decide +kernel)⟩
theorem lw_p60 : lw_okq (⟨"KnotColoursModel", "counts", "(III)I"⟩, 16) := ⟨⟨by decide +kernel, by decide +kernel⟩, List.mem_of_getElem? (i := 675) (by decide +kernel), List.mem_of_getElem? (i := 1013) (by decide +kernel), List.mem_of_getElem? (i := 1014) (by decide +kernel)⟩
theorem lw_p61 : lw_okq (⟨"KnotColoursModel", "beginsColours", "()V"⟩, 16) := ⟨⟨by decide +kernel, by decide +kernel⟩, List.mem_of_getElem? (i := 675) (by decide +kernel), List.mem_of_getElem? (i := 1017) (by decide +kernel), List.mem_of_getElem? (i := 1018) (by decide +kernel)⟩
theorem lw_p62 : lw_okq (⟨"KnotColoursModel", "usedColours", "()I"⟩, 16) := ⟨⟨by decide +kernel, by decide +kernel⟩, List.mem_of_getElem? (i := 675) (by decide +kernel), List.mem_of_getElem? (i := 1021) (by decide +kernel), List.mem_of_getElem? (i := 1022) (by decide +kernel)⟩
theorem lw_p63 : lw_okq (⟨"KnotColoursModel", "isColouring", "()Z"⟩, 16) := ⟨⟨by decide +kernel, by decide +kernel⟩, List.mem_of_getElem? (i := 675) (by decide +kernel), List.mem_of_getElem? (i := 1025) (by decide +kernel), List.mem_of_getElem? (i := 1026) (by decide +kernel)⟩
def lw_privs_4 : List (MethodName × Nat) := [(⟨"KnotColoursModel", "automorphismsMany", "()I"⟩, 16), (⟨"KnotColoursModel", "isAutomorphism", "()Z"⟩, 16), (⟨"KnotColoursModel", "clears", "(I)V"⟩, 16), (⟨"KnotColoursModel", "adds", "(IIII)V"⟩, 16), (⟨"KnotColoursModel", "isArc", "(I)Z"⟩, 16), (⟨"KnotColoursModel", "isCrossing", "(I)Z"⟩, 16), (⟨"KnotColoursModel", "moves", "(II)V"⟩, 16), (⟨"KnotColoursModel", "crossingPart", "(II)I"⟩, 16), (⟨"KnotColoursModel", "componentsNow", "()I"⟩, 16), (⟨"KnotColoursModel", "isClosed", "()Z"⟩, 16), (⟨"KnotColoursModel", "findParts", "()V"⟩, 16), (⟨"KnotColoursModel", "writheNow", "()I"⟩, 16), (⟨"KnotColoursModel", "counts", "(III)I"⟩, 16), (⟨"KnotColoursModel", "beginsColours", "()V"⟩, 16), (⟨"KnotColoursModel", "usedColours", "()I"⟩, 16), (⟨"KnotColoursModel", "isColouring", "()Z"⟩, 16)]
theorem lw_r4 : ∀ q ∈ lw_privs_4, lw_okq q := List.forall_mem_cons.mpr ⟨lw_p48, List.forall_mem_cons.mpr ⟨lw_p49, List.forall_mem_cons.mpr ⟨lw_p50, List.forall_mem_cons.mpr ⟨lw_p51, List.forall_mem_cons.mpr ⟨lw_p52, List.forall_mem_cons.mpr ⟨lw_p53, List.forall_mem_cons.mpr ⟨lw_p54, List.forall_mem_cons.mpr ⟨lw_p55, List.forall_mem_cons.mpr ⟨lw_p56, List.forall_mem_cons.mpr ⟨lw_p57, List.forall_mem_cons.mpr ⟨lw_p58, List.forall_mem_cons.mpr ⟨lw_p59, List.forall_mem_cons.mpr ⟨lw_p60, List.forall_mem_cons.mpr ⟨lw_p61, List.forall_mem_cons.mpr ⟨lw_p62, List.forall_mem_cons.mpr ⟨lw_p63, fun _ h => absurd h List.not_mem_nil⟩⟩⟩⟩⟩⟩⟩⟩⟩⟩⟩⟩⟩⟩⟩⟩
theorem lw_p64 : lw_okq (⟨"KnotColoursModel", "goesOnColours", "()Z"⟩, 16) := ⟨⟨by decide +kernel, by decide +kernel⟩, List.mem_of_getElem? (i := 675) (by decide +kernel), List.mem_of_getElem? (i := 1029) (by decide +kernel), List.mem_of_getElem? (i := 1030) (by decide +kernel)⟩
theorem lw_p65 : lw_okq (⟨"KnotColoursModel", "findError", "()I"⟩, 16) := ⟨⟨by decide +kernel, by decide +kernel⟩, List.mem_of_getElem? (i := 675) (by decide +kernel), List.mem_of_getElem? (i := 1061) (by decide +kernel), List.mem_of_getElem? (i := 1062) (by decide +kernel)⟩
theorem lw_p66 : lw_okq (⟨"KnotColoursModel", "readsCrossing", "()Z"⟩, 16) := ⟨⟨by decide +kernel, by decide +kernel⟩, List.mem_of_getElem? (i := 675) (by decide +kernel), List.mem_of_getElem? (i := 1065) (by decide +kernel), List.mem_of_getElem? (i := 1066) (by decide +kernel)⟩
theorem lw_p67 : lw_okq (⟨"KnotColoursModel", "arcRead", "()I"⟩, 16) := ⟨⟨by decide +kernel, by decide +kernel⟩, List.mem_of_getElem? (i := 675) (by decide +kernel), List.mem_of_getElem? (i := 1069) (by decide +kernel), List.mem_of_getElem? (i := 1070) (by decide +kernel)⟩
theorem lw_p68 : lw_okq (⟨"KnotColoursModel", "character", "(I)I"⟩, 16) := ⟨⟨by decide +kernel, by decide +kernel⟩, List.mem_of_getElem? (i := 675) (by decide +kernel), List.mem_of_getElem? (i := 1073) (by decide +kernel), List.mem_of_getElem? (i := 1074) (by decide +kernel)⟩
theorem lw_p69 : lw_okq (⟨"KnotColoursModel", "isNext", "(I)Z"⟩, 16) := ⟨⟨by decide +kernel, by decide +kernel⟩, List.mem_of_getElem? (i := 675) (by decide +kernel), List.mem_of_getElem? (i := 1077) (by decide +kernel), List.mem_of_getElem? (i := 1078) (by decide +kernel)⟩
def lw_privs_5 : List (MethodName × Nat) := [(⟨"KnotColoursModel", "goesOnColours", "()Z"⟩, 16), (⟨"KnotColoursModel", "findError", "()I"⟩, 16), (⟨"KnotColoursModel", "readsCrossing", "()Z"⟩, 16), (⟨"KnotColoursModel", "arcRead", "()I"⟩, 16), (⟨"KnotColoursModel", "character", "(I)I"⟩, 16), (⟨"KnotColoursModel", "isNext", "(I)Z"⟩, 16)]
theorem lw_r5 : ∀ q ∈ lw_privs_5, lw_okq q := List.forall_mem_cons.mpr ⟨lw_p64, List.forall_mem_cons.mpr ⟨lw_p65, List.forall_mem_cons.mpr ⟨lw_p66, List.forall_mem_cons.mpr ⟨lw_p67, List.forall_mem_cons.mpr ⟨lw_p68, List.forall_mem_cons.mpr ⟨lw_p69, fun _ h => absurd h List.not_mem_nil⟩⟩⟩⟩⟩⟩
def lw_privs : List (MethodName × Nat) := lw_privs_1 ++ (lw_privs_2 ++ (lw_privs_3 ++ (lw_privs_4 ++ (lw_privs_5))))
def lw_tbl : List Cond := k2_sels lw_privs ++ tables_1
theorem lw_privs_ok : ∀ q ∈ lw_privs, lw_okq q := by
  show ∀ q ∈ lw_privs_1 ++ (lw_privs_2 ++ (lw_privs_3 ++ (lw_privs_4 ++ (lw_privs_5)))), lw_okq q
  exact List.forall_mem_append.mpr ⟨lw_r1, List.forall_mem_append.mpr ⟨lw_r2, List.forall_mem_append.mpr ⟨lw_r3, List.forall_mem_append.mpr ⟨lw_r4, lw_r5⟩⟩⟩⟩
theorem goodIn_r {big : List Cond} (ws : List Cond) (ps : List Nat) (hp : ws = ps.filterMap (fun i => big[i]?)) (h : ws.all goodWord = true) : GoodIn big ws := by
  intro w hw
  have h1 := List.all_eq_true.mp h w hw
  rw [hp] at hw
  obtain ⟨i, -, hi⟩ := List.mem_filterMap.mp hw
  have hm : w ∈ big := by first | exact List.mem_of_getElem? hi | exact List.getElem?_mem hi
  exact ⟨hm, good_of_word h1⟩
theorem goodIn_app {big a b : List Cond} (ha : GoodIn big a) (hb : GoodIn big b) : GoodIn big (a ++ b) := fun w h => (List.mem_append.mp h).elim (ha w) (hb w)
theorem goodIn_ca {big a b : List Cond} {c : Cond} (ha : GoodIn big (c :: a)) (hb : GoodIn big b) : GoodIn big (c :: (a ++ b)) := fun w h => (List.mem_cons.mp h).elim (fun e => ha w (List.mem_cons.mpr (Or.inl e))) (fun h => (List.mem_append.mp h).elim (fun h => ha w (List.mem_cons.mpr (Or.inr h))) (hb w))
theorem goodIn_sub {big ws : List Cond} (hm : ∀ w ∈ ws, w ∈ big) (h : ws.all goodWord = true) : GoodIn big ws := fun w hw => ⟨hm w hw, good_of_word (List.all_eq_true.mp h w hw)⟩
def RX0 : String := "KnotColours$ColouringWalk"
def TX0 : u_T := fun k => match k with
  | 0 => ("KnotColours$ColouringWalk", "table", "LKnotColours$Table;", true)
  | 1 => ("KnotColours$ColouringWalk", "diagram", "LKnotColours$Diagram;", true)
  | 2 => ("KnotColours$ColouringWalk", "colours", "[I", true)
  | 3 => ("KnotColours$ColouringWalk", "lastArcs", "[I", true)
  | 4 => ("KnotColours$ColouringWalk", "tallies", "[I", true)
  | _ => ("KnotColours$ColouringWalk", "arc", "I", false)
def tyX0 : Nat → FieldType := fun k => match k with
  | 0 => .object "KnotColours$Table"
  | 1 => .object "KnotColours$Diagram"
  | 2 => .array .int
  | 3 => .array .int
  | 4 => .array .int
  | _ => .int
abbrev wsX00 : List Cond := u_ws RX0 TX0 6
theorem nmX0 : ∀ a, a < 6 → ∀ b, b < 6 → a ≠ b → (TX0 a).2.1 ≠ (TX0 b).2.1 := by decide +kernel
theorem tyX0_ok : ∀ k, k < 6 → parseFieldDescriptor (TX0 k).2.2.1 = some (tyX0 k) := by decide +kernel
abbrev cX0_init : ByteArray := prog_2_method_1_code
def yX0_init : MethodName := ⟨RX0, "<init>", "(LKnotColours$Table;LKnotColours$Diagram;)V"⟩
abbrev cX0_tally : ByteArray := prog_2_method_2_code
def yX0_tally : MethodName := ⟨RX0, "tally", "()I"⟩
abbrev cX0_talliedUsing : ByteArray := prog_2_method_3_code
def yX0_talliedUsing : MethodName := ⟨RX0, "talliedUsing", "(I)I"⟩
abbrev cX0_coloursUsed : ByteArray := prog_2_method_4_code
def yX0_coloursUsed : MethodName := ⟨RX0, "coloursUsed", "()I"⟩
abbrev cX0_countWith : ByteArray := prog_2_method_5_code
def yX0_countWith : MethodName := ⟨RX0, "countWith", "(II)I"⟩
abbrev cX0_countAlike : ByteArray := prog_2_method_6_code
def yX0_countAlike : MethodName := ⟨RX0, "countAlike", "(II)I"⟩
abbrev cX0_colourAt : ByteArray := prog_2_method_7_code
def yX0_colourAt : MethodName := ⟨RX0, "colourAt", "(II)I"⟩
abbrev cX0_start : ByteArray := prog_2_method_8_code
def yX0_start : MethodName := ⟨RX0, "start", "()V"⟩
abbrev cX0_advance : ByteArray := prog_2_method_9_code
def yX0_advance : MethodName := ⟨RX0, "advance", "()Z"⟩
abbrev cX0_fits : ByteArray := prog_2_method_10_code
def yX0_fits : MethodName := ⟨RX0, "fits", "()Z"⟩
abbrev cX0_isMet : ByteArray := prog_2_method_11_code
def yX0_isMet : MethodName := ⟨RX0, "isMet", "(I)Z"⟩
def RX1 : String := "KnotColours$Diagram"
def TX1 : u_T := fun k => match k with
  | 0 => ("KnotColours$Diagram", "arcCount", "I", false)
  | 1 => ("KnotColours$Diagram", "crossingCount", "I", false)
  | _ => ("KnotColours$Diagram", "parts", "[I", true)
def tyX1 : Nat → FieldType := fun k => match k with
  | 0 => .int
  | 1 => .int
  | _ => .array .int
abbrev wsX10 : List Cond := u_ws RX1 TX1 3
theorem nmX1 : ∀ a, a < 3 → ∀ b, b < 3 → a ≠ b → (TX1 a).2.1 ≠ (TX1 b).2.1 := by decide +kernel
theorem tyX1_ok : ∀ k, k < 3 → parseFieldDescriptor (TX1 k).2.2.1 = some (tyX1 k) := by decide +kernel
abbrev cX1_init : ByteArray := prog_3_method_1_code
def yX1_init : MethodName := ⟨RX1, "<init>", "()V"⟩
abbrev cX1_hasArc : ByteArray := prog_3_method_2_code
def yX1_hasArc : MethodName := ⟨RX1, "hasArc", "(I)Z"⟩
abbrev cX1_hasCrossing : ByteArray := prog_3_method_3_code
def yX1_hasCrossing : MethodName := ⟨RX1, "hasCrossing", "(I)Z"⟩
abbrev cX1_hasRoom : ByteArray := prog_3_method_4_code
def yX1_hasRoom : MethodName := ⟨RX1, "hasRoom", "(II)Z"⟩
abbrev cX1_part : ByteArray := prog_3_method_5_code
def yX1_part : MethodName := ⟨RX1, "part", "(II)I"⟩
abbrev cX1_copyFrom : ByteArray := prog_3_method_6_code
def yX1_copyFrom : MethodName := ⟨RX1, "copyFrom", "(LKnotColours$Diagram;)V"⟩
abbrev cX1_clear : ByteArray := prog_3_method_7_code
def yX1_clear : MethodName := ⟨RX1, "clear", "(I)V"⟩
abbrev cX1_addArc : ByteArray := prog_3_method_8_code
def yX1_addArc : MethodName := ⟨RX1, "addArc", "()I"⟩
abbrev cX1_append : ByteArray := prog_3_method_9_code
def yX1_append : MethodName := ⟨RX1, "append", "(IIII)V"⟩
abbrev cX1_remove : ByteArray := prog_3_method_10_code
def yX1_remove : MethodName := ⟨RX1, "remove", "(I)V"⟩
abbrev cX1_moveIn : ByteArray := prog_3_method_11_code
def yX1_moveIn : MethodName := ⟨RX1, "moveIn", "(II)V"⟩
abbrev cX1_isClosed : ByteArray := prog_3_method_12_code
def yX1_isClosed : MethodName := ⟨RX1, "isClosed", "()Z"⟩
abbrev cX1_countAs : ByteArray := prog_3_method_13_code
def yX1_countAs : MethodName := ⟨RX1, "countAs", "(II)I"⟩
abbrev cX1_countComponents : ByteArray := prog_3_method_14_code
def yX1_countComponents : MethodName := ⟨RX1, "countComponents", "()I"⟩
abbrev cX1_componentOf : ByteArray := prog_3_method_15_code
def yX1_componentOf : MethodName := ⟨RX1, "componentOf", "(I)I"⟩
abbrev cX1_signSum : ByteArray := prog_3_method_16_code
def yX1_signSum : MethodName := ⟨RX1, "signSum", "()I"⟩
abbrev cX1_linkingSum : ByteArray := prog_3_method_17_code
def yX1_linkingSum : MethodName := ⟨RX1, "linkingSum", "(II)I"⟩
def RX2 : String := "KnotColours$DiagramText"
def TX2 : u_T := fun k => match k with
  | 0 => ("KnotColours$DiagramText", "length", "I", false)
  | _ => ("KnotColours$DiagramText", "characters", "[C", true)
def tyX2 : Nat → FieldType := fun k => match k with
  | 0 => .int
  | _ => .array .char
abbrev wsX20 : List Cond := u_ws RX2 TX2 2
theorem nmX2 : ∀ a, a < 2 → ∀ b, b < 2 → a ≠ b → (TX2 a).2.1 ≠ (TX2 b).2.1 := by decide +kernel
theorem tyX2_ok : ∀ k, k < 2 → parseFieldDescriptor (TX2 k).2.2.1 = some (tyX2 k) := by decide +kernel
abbrev cX2_init : ByteArray := prog_4_method_1_code
def yX2_init : MethodName := ⟨RX2, "<init>", "()V"⟩
abbrev cX2_append : ByteArray := prog_4_method_2_code
def yX2_append : MethodName := ⟨RX2, "append", "(C)V"⟩
abbrev cX2_clear : ByteArray := prog_4_method_3_code
def yX2_clear : MethodName := ⟨RX2, "clear", "()V"⟩
abbrev cX2_firstError : ByteArray := prog_4_method_4_code
def yX2_firstError : MethodName := ⟨RX2, "firstError", "()I"⟩
abbrev cX2_mayStandAt : ByteArray := prog_4_method_5_code
def yX2_mayStandAt : MethodName := ⟨RX2, "mayStandAt", "(I)Z"⟩
abbrev cX2_drawInto : ByteArray := prog_4_method_6_code
def yX2_drawInto : MethodName := ⟨RX2, "drawInto", "(LKnotColours$Diagram;)V"⟩
abbrev cX2_arcAt : ByteArray := prog_4_method_7_code
def yX2_arcAt : MethodName := ⟨RX2, "arcAt", "(I)I"⟩
def RX3 : String := "KnotColours$History"
def TX3 : u_T := fun k => match k with
  | 0 => ("KnotColours$History", "saved", "I", false)
  | 1 => ("KnotColours$History", "next", "I", false)
  | 2 => ("KnotColours$History", "tables", "[LKnotColours$Table;", true)
  | _ => ("KnotColours$History", "diagrams", "[LKnotColours$Diagram;", true)
def tyX3 : Nat → FieldType := fun k => match k with
  | 0 => .int
  | 1 => .int
  | 2 => .array (.object "KnotColours$Table")
  | _ => .array (.object "KnotColours$Diagram")
abbrev wsX30 : List Cond := u_ws RX3 TX3 4
theorem nmX3 : ∀ a, a < 4 → ∀ b, b < 4 → a ≠ b → (TX3 a).2.1 ≠ (TX3 b).2.1 := by decide +kernel
theorem tyX3_ok : ∀ k, k < 4 → parseFieldDescriptor (TX3 k).2.2.1 = some (tyX3 k) := by decide +kernel
abbrev cX3_init : ByteArray := prog_5_method_1_code
def yX3_init : MethodName := ⟨RX3, "<init>", "()V"⟩
abbrev cX3_save : ByteArray := prog_5_method_2_code
def yX3_save : MethodName := ⟨RX3, "save", "(LKnotColours$Table;LKnotColours$Diagram;)V"⟩
abbrev cX3_restore : ByteArray := prog_5_method_3_code
def yX3_restore : MethodName := ⟨RX3, "restore", "(LKnotColours$Table;LKnotColours$Diagram;)V"⟩
def RX4 : String := "KnotColours$Permutations"
def TX4 : u_T := fun k => match k with
  | 0 => ("KnotColours$Permutations", "image", "[I", true)
  | 1 => ("KnotColours$Permutations", "composed", "[I", true)
  | 2 => ("KnotColours$Permutations", "queue", "[I", true)
  | _ => ("KnotColours$Permutations", "seen", "[Z", true)
def tyX4 : Nat → FieldType := fun k => match k with
  | 0 => .array .int
  | 1 => .array .int
  | 2 => .array .int
  | _ => .array .boolean
abbrev wsX40 : List Cond := u_ws RX4 TX4 4
theorem nmX4 : ∀ a, a < 4 → ∀ b, b < 4 → a ≠ b → (TX4 a).2.1 ≠ (TX4 b).2.1 := by decide +kernel
theorem tyX4_ok : ∀ k, k < 4 → parseFieldDescriptor (TX4 k).2.2.1 = some (tyX4 k) := by decide +kernel
abbrev cX4_init : ByteArray := prog_6_method_1_code
def yX4_init : MethodName := ⟨RX4, "<init>", "()V"⟩
abbrev cX4_countCompositions : ByteArray := prog_6_method_2_code
def yX4_countCompositions : MethodName := ⟨RX4, "countCompositions", "(LKnotColours$Table;)I"⟩
abbrev cX4_startAtIdentity : ByteArray := prog_6_method_3_code
def yX4_startAtIdentity : MethodName := ⟨RX4, "startAtIdentity", "()V"⟩
abbrev cX4_rankBehind : ByteArray := prog_6_method_4_code
def yX4_rankBehind : MethodName := ⟨RX4, "rankBehind", "(LKnotColours$Table;I)I"⟩
abbrev cX4_unrank : ByteArray := prog_6_method_5_code
def yX4_unrank : MethodName := ⟨RX4, "unrank", "(II)V"⟩
abbrev cX4_countAutomorphisms : ByteArray := prog_6_method_6_code
def yX4_countAutomorphisms : MethodName := ⟨RX4, "countAutomorphisms", "(LKnotColours$Table;)I"⟩
abbrev cX4_keepsProducts : ByteArray := prog_6_method_7_code
def yX4_keepsProducts : MethodName := ⟨RX4, "keepsProducts", "(LKnotColours$Table;)Z"⟩
def RX5 : String := "KnotColours$Table"
def TX5 : u_T := fun k => match k with
  | 0 => ("KnotColours$Table", "count", "I", false)
  | _ => ("KnotColours$Table", "products", "[I", true)
def tyX5 : Nat → FieldType := fun k => match k with
  | 0 => .int
  | _ => .array .int
abbrev wsX50 : List Cond := u_ws RX5 TX5 2
theorem nmX5 : ∀ a, a < 2 → ∀ b, b < 2 → a ≠ b → (TX5 a).2.1 ≠ (TX5 b).2.1 := by decide +kernel
theorem tyX5_ok : ∀ k, k < 2 → parseFieldDescriptor (TX5 k).2.2.1 = some (tyX5 k) := by decide +kernel
abbrev cX5_init : ByteArray := prog_7_method_1_code
def yX5_init : MethodName := ⟨RX5, "<init>", "()V"⟩
abbrev cX5_has : ByteArray := prog_7_method_2_code
def yX5_has : MethodName := ⟨RX5, "has", "(I)Z"⟩
abbrev cX5_times : ByteArray := prog_7_method_3_code
def yX5_times : MethodName := ⟨RX5, "times", "(II)I"⟩
abbrev cX5_put : ByteArray := prog_7_method_4_code
def yX5_put : MethodName := ⟨RX5, "put", "(III)V"⟩
abbrev cX5_copyFrom : ByteArray := prog_7_method_5_code
def yX5_copyFrom : MethodName := ⟨RX5, "copyFrom", "(LKnotColours$Table;)V"⟩
abbrev cX5_fillLinear : ByteArray := prog_7_method_6_code
def yX5_fillLinear : MethodName := ⟨RX5, "fillLinear", "(II)V"⟩
abbrev cX5_fillTranspositions : ByteArray := prog_7_method_7_code
def yX5_fillTranspositions : MethodName := ⟨RX5, "fillTranspositions", "(I)V"⟩
abbrev cX5_fillTranslation : ByteArray := prog_7_method_8_code
def yX5_fillTranslation : MethodName := ⟨RX5, "fillTranslation", "(III)V"⟩
abbrev cX5_pairNumber : ByteArray := prog_7_method_9_code
def yX5_pairNumber : MethodName := ⟨RX5, "pairNumber", "(III)I"⟩
abbrev cX5_swapped : ByteArray := prog_7_method_10_code
def yX5_swapped : MethodName := ⟨RX5, "swapped", "(III)I"⟩
abbrev cX5_fillInverse : ByteArray := prog_7_method_11_code
def yX5_fillInverse : MethodName := ⟨RX5, "fillInverse", "(LKnotColours$Table;)I"⟩
abbrev cX5_lowestFactor : ByteArray := prog_7_method_12_code
def yX5_lowestFactor : MethodName := ⟨RX5, "lowestFactor", "(II)I"⟩
abbrev cX5_firstNotIdempotent : ByteArray := prog_7_method_13_code
def yX5_firstNotIdempotent : MethodName := ⟨RX5, "firstNotIdempotent", "()I"⟩
abbrev cX5_firstNoPermutation : ByteArray := prog_7_method_14_code
def yX5_firstNoPermutation : MethodName := ⟨RX5, "firstNoPermutation", "()I"⟩
abbrev cX5_isPermutation : ByteArray := prog_7_method_15_code
def yX5_isPermutation : MethodName := ⟨RX5, "isPermutation", "(I)Z"⟩
abbrev cX5_firstNotDistributive : ByteArray := prog_7_method_16_code
def yX5_firstNotDistributive : MethodName := ⟨RX5, "firstNotDistributive", "()I"⟩
abbrev cX5_allElements : ByteArray := prog_7_method_17_code
def yX5_allElements : MethodName := ⟨RX5, "allElements", "()I"⟩
abbrev cX5_reachedFrom : ByteArray := prog_7_method_18_code
def yX5_reachedFrom : MethodName := ⟨RX5, "reachedFrom", "(I)I"⟩
abbrev cX5_countComponents : ByteArray := prog_7_method_19_code
def yX5_countComponents : MethodName := ⟨RX5, "countComponents", "()I"⟩
abbrev cX5_componentOf : ByteArray := prog_7_method_20_code
def yX5_componentOf : MethodName := ⟨RX5, "componentOf", "(I)I"⟩
abbrev cX5_closureOf : ByteArray := prog_7_method_21_code
def yX5_closureOf : MethodName := ⟨RX5, "closureOf", "(I)I"⟩
abbrev cX5_leastGenerators : ByteArray := prog_7_method_22_code
def yX5_leastGenerators : MethodName := ⟨RX5, "leastGenerators", "()I"⟩
abbrev cX5_orderOfTranslation : ByteArray := prog_7_method_23_code
def yX5_orderOfTranslation : MethodName := ⟨RX5, "orderOfTranslation", "(I)I"⟩
abbrev cX5_isIdentityAfter : ByteArray := prog_7_method_24_code
def yX5_isIdentityAfter : MethodName := ⟨RX5, "isIdentityAfter", "(II)Z"⟩
abbrev cX5_countTranslations : ByteArray := prog_7_method_25_code
def yX5_countTranslations : MethodName := ⟨RX5, "countTranslations", "()I"⟩
abbrev cX5_isNewTranslation : ByteArray := prog_7_method_26_code
def yX5_isNewTranslation : MethodName := ⟨RX5, "isNewTranslation", "(I)Z"⟩
abbrev cX5_sameTranslation : ByteArray := prog_7_method_27_code
def yX5_sameTranslation : MethodName := ⟨RX5, "sameTranslation", "(II)Z"⟩
def RX6 : String := "KnotColours"
def TX6 : u_T := fun k => match k with
  | 0 => ("KnotColours", "table", "LKnotColours$Table;", true)
  | 1 => ("KnotColours", "spare", "LKnotColours$Table;", true)
  | 2 => ("KnotColours", "permutations", "LKnotColours$Permutations;", true)
  | 3 => ("KnotColours", "diagram", "LKnotColours$Diagram;", true)
  | 4 => ("KnotColours", "walk", "LKnotColours$ColouringWalk;", true)
  | 5 => ("KnotColours", "text", "LKnotColours$DiagramText;", true)
  | _ => ("KnotColours", "history", "LKnotColours$History;", true)
def tyX6 : Nat → FieldType := fun k => match k with
  | 0 => .object "KnotColours$Table"
  | 1 => .object "KnotColours$Table"
  | 2 => .object "KnotColours$Permutations"
  | 3 => .object "KnotColours$Diagram"
  | 4 => .object "KnotColours$ColouringWalk"
  | 5 => .object "KnotColours$DiagramText"
  | _ => .object "KnotColours$History"
abbrev wsX60 : List Cond := u_ws RX6 TX6 7
theorem nmX6 : ∀ a, a < 7 → ∀ b, b < 7 → a ≠ b → (TX6 a).2.1 ≠ (TX6 b).2.1 := by decide +kernel
theorem tyX6_ok : ∀ k, k < 7 → parseFieldDescriptor (TX6 k).2.2.1 = some (tyX6 k) := by decide +kernel
abbrev cX6_init : ByteArray := prog_1_method_1_code
def yX6_init : MethodName := ⟨RX6, "<init>", "()V"⟩
abbrev cX6_trivial : ByteArray := prog_1_method_2_code
def yX6_trivial : MethodName := ⟨RX6, "trivial", "(I)I"⟩
abbrev cX6_dihedral : ByteArray := prog_1_method_3_code
def yX6_dihedral : MethodName := ⟨RX6, "dihedral", "(I)I"⟩
abbrev cX6_linear : ByteArray := prog_1_method_4_code
def yX6_linear : MethodName := ⟨RX6, "linear", "(II)I"⟩
abbrev cX6_transpositions : ByteArray := prog_1_method_5_code
def yX6_transpositions : MethodName := ⟨RX6, "transpositions", "(I)I"⟩
abbrev cX6_setProduct : ByteArray := prog_1_method_6_code
def yX6_setProduct : MethodName := ⟨RX6, "setProduct", "(III)I"⟩
abbrev cX6_invert : ByteArray := prog_1_method_7_code
def yX6_invert : MethodName := ⟨RX6, "invert", "()I"⟩
abbrev cX6_size : ByteArray := prog_1_method_8_code
def yX6_size : MethodName := ⟨RX6, "size", "()I"⟩
abbrev cX6_product : ByteArray := prog_1_method_9_code
def yX6_product : MethodName := ⟨RX6, "product", "(II)I"⟩
abbrev cX6_quotient : ByteArray := prog_1_method_10_code
def yX6_quotient : MethodName := ⟨RX6, "quotient", "(II)I"⟩
abbrev cX6_violation : ByteArray := prog_1_method_11_code
def yX6_violation : MethodName := ⟨RX6, "violation", "(I)I"⟩
abbrev cX6_reach : ByteArray := prog_1_method_12_code
def yX6_reach : MethodName := ⟨RX6, "reach", "(I)I"⟩
abbrev cX6_tableComponents : ByteArray := prog_1_method_13_code
def yX6_tableComponents : MethodName := ⟨RX6, "tableComponents", "()I"⟩
abbrev cX6_closure : ByteArray := prog_1_method_14_code
def yX6_closure : MethodName := ⟨RX6, "closure", "(I)I"⟩
abbrev cX6_generators : ByteArray := prog_1_method_15_code
def yX6_generators : MethodName := ⟨RX6, "generators", "()I"⟩
abbrev cX6_translationOrder : ByteArray := prog_1_method_16_code
def yX6_translationOrder : MethodName := ⟨RX6, "translationOrder", "(I)I"⟩
abbrev cX6_translations : ByteArray := prog_1_method_17_code
def yX6_translations : MethodName := ⟨RX6, "translations", "()I"⟩
abbrev cX6_innerGroup : ByteArray := prog_1_method_18_code
def yX6_innerGroup : MethodName := ⟨RX6, "innerGroup", "()I"⟩
abbrev cX6_automorphisms : ByteArray := prog_1_method_19_code
def yX6_automorphisms : MethodName := ⟨RX6, "automorphisms", "()I"⟩
abbrev cX6_newDiagram : ByteArray := prog_1_method_20_code
def yX6_newDiagram : MethodName := ⟨RX6, "newDiagram", "(I)I"⟩
abbrev cX6_standard : ByteArray := prog_1_method_21_code
def yX6_standard : MethodName := ⟨RX6, "standard", "(I)I"⟩
abbrev cX6_addCrossing : ByteArray := prog_1_method_22_code
def yX6_addCrossing : MethodName := ⟨RX6, "addCrossing", "(IIII)I"⟩
abbrev cX6_removeCrossing : ByteArray := prog_1_method_23_code
def yX6_removeCrossing : MethodName := ⟨RX6, "removeCrossing", "(I)I"⟩
abbrev cX6_kink : ByteArray := prog_1_method_24_code
def yX6_kink : MethodName := ⟨RX6, "kink", "(II)I"⟩
abbrev cX6_poke : ByteArray := prog_1_method_25_code
def yX6_poke : MethodName := ⟨RX6, "poke", "(II)I"⟩
abbrev cX6_arcs : ByteArray := prog_1_method_26_code
def yX6_arcs : MethodName := ⟨RX6, "arcs", "()I"⟩
abbrev cX6_crossings : ByteArray := prog_1_method_27_code
def yX6_crossings : MethodName := ⟨RX6, "crossings", "()I"⟩
abbrev cX6_crossing : ByteArray := prog_1_method_28_code
def yX6_crossing : MethodName := ⟨RX6, "crossing", "(II)I"⟩
abbrev cX6_components : ByteArray := prog_1_method_29_code
def yX6_components : MethodName := ⟨RX6, "components", "()I"⟩
abbrev cX6_writhe : ByteArray := prog_1_method_30_code
def yX6_writhe : MethodName := ⟨RX6, "writhe", "()I"⟩
abbrev cX6_linking : ByteArray := prog_1_method_31_code
def yX6_linking : MethodName := ⟨RX6, "linking", "(II)I"⟩
abbrev cX6_colourings : ByteArray := prog_1_method_32_code
def yX6_colourings : MethodName := ⟨RX6, "colourings", "()I"⟩
abbrev cX6_colouringsWith : ByteArray := prog_1_method_33_code
def yX6_colouringsWith : MethodName := ⟨RX6, "colouringsWith", "(II)I"⟩
abbrev cX6_colouringsAlike : ByteArray := prog_1_method_34_code
def yX6_colouringsAlike : MethodName := ⟨RX6, "colouringsAlike", "(II)I"⟩
abbrev cX6_colouringsUsing : ByteArray := prog_1_method_35_code
def yX6_colouringsUsing : MethodName := ⟨RX6, "colouringsUsing", "(I)I"⟩
abbrev cX6_colour : ByteArray := prog_1_method_36_code
def yX6_colour : MethodName := ⟨RX6, "colour", "(II)I"⟩
abbrev cX6_type : ByteArray := prog_1_method_37_code
def yX6_type : MethodName := ⟨RX6, "type", "(I)I"⟩
abbrev cX6_clearText : ByteArray := prog_1_method_38_code
def yX6_clearText : MethodName := ⟨RX6, "clearText", "()I"⟩
abbrev cX6_syntaxError : ByteArray := prog_1_method_39_code
def yX6_syntaxError : MethodName := ⟨RX6, "syntaxError", "()I"⟩
abbrev cX6_read : ByteArray := prog_1_method_40_code
def yX6_read : MethodName := ⟨RX6, "read", "()I"⟩
abbrev cX6_undo : ByteArray := prog_1_method_41_code
def yX6_undo : MethodName := ⟨RX6, "undo", "()I"⟩
abbrev cX6_digest : ByteArray := prog_1_method_42_code
def yX6_digest : MethodName := ⟨RX6, "digest", "()J"⟩
abbrev cX6_isSize : ByteArray := prog_1_method_43_code
def yX6_isSize : MethodName := ⟨RX6, "isSize", "(I)Z"⟩
abbrev cX6_makeLinear : ByteArray := prog_1_method_44_code
def yX6_makeLinear : MethodName := ⟨RX6, "makeLinear", "(II)I"⟩
abbrev cX6_saveState : ByteArray := prog_1_method_45_code
def yX6_saveState : MethodName := ⟨RX6, "saveState", "()V"⟩
abbrev cX6_hashTable : ByteArray := prog_1_method_46_code
def yX6_hashTable : MethodName := ⟨RX6, "hashTable", "(J)J"⟩
abbrev cX6_hashDiagram : ByteArray := prog_1_method_47_code
def yX6_hashDiagram : MethodName := ⟨RX6, "hashDiagram", "(J)J"⟩
abbrev cX6_hashColourings : ByteArray := prog_1_method_48_code
def yX6_hashColourings : MethodName := ⟨RX6, "hashColourings", "(J)J"⟩
abbrev cX6_mix : ByteArray := prog_1_method_49_code
def yX6_mix : MethodName := ⟨RX6, "mix", "(JI)J"⟩
def RX7 : String := "KnotColoursModel"
def TX7 : u_T := fun k => match k with
  | 0 => ("KnotColoursModel", "state", "[I", true)
  | 1 => ("KnotColoursModel", "history", "[I", true)
  | 2 => ("KnotColoursModel", "recorded", "I", false)
  | 3 => ("KnotColoursModel", "text", "[I", true)
  | 4 => ("KnotColoursModel", "textLength", "I", false)
  | 5 => ("KnotColoursModel", "found", "[I", true)
  | 6 => ("KnotColoursModel", "foundMany", "I", false)
  | 7 => ("KnotColoursModel", "image", "[I", true)
  | 8 => ("KnotColoursModel", "part", "[I", true)
  | 9 => ("KnotColoursModel", "colours", "[I", true)
  | 10 => ("KnotColoursModel", "at", "I", false)
  | 11 => ("KnotColoursModel", "crossingsRead", "I", false)
  | 12 => ("KnotColoursModel", "overRead", "I", false)
  | 13 => ("KnotColoursModel", "inRead", "I", false)
  | 14 => ("KnotColoursModel", "outRead", "I", false)
  | _ => ("KnotColoursModel", "signRead", "I", false)
def tyX7 : Nat → FieldType := fun k => match k with
  | 0 => .array .int
  | 1 => .array .int
  | 2 => .int
  | 3 => .array .int
  | 4 => .int
  | 5 => .array .int
  | 6 => .int
  | 7 => .array .int
  | 8 => .array .int
  | 9 => .array .int
  | 10 => .int
  | 11 => .int
  | 12 => .int
  | 13 => .int
  | 14 => .int
  | _ => .int
abbrev wsX70 : List Cond := u_ws RX7 TX7 16
theorem nmX7 : ∀ a, a < 16 → ∀ b, b < 16 → a ≠ b → (TX7 a).2.1 ≠ (TX7 b).2.1 := by decide +kernel
theorem tyX7_ok : ∀ k, k < 16 → parseFieldDescriptor (TX7 k).2.2.1 = some (tyX7 k) := by decide +kernel
abbrev cX7_init : ByteArray := prog_9_method_1_code
def yX7_init : MethodName := ⟨RX7, "<init>", "()V"⟩
abbrev cX7_within : ByteArray := prog_9_method_3_code
def yX7_within : MethodName := ⟨RX7, "within", "(III)Z"⟩
abbrev cX7_bits : ByteArray := prog_9_method_4_code
def yX7_bits : MethodName := ⟨RX7, "bits", "(I)I"⟩
abbrev cX7_record : ByteArray := prog_9_method_5_code
def yX7_record : MethodName := ⟨RX7, "record", "()V"⟩
abbrev cX7_isElement : ByteArray := prog_9_method_6_code
def yX7_isElement : MethodName := ⟨RX7, "isElement", "(I)Z"⟩
abbrev cX7_times : ByteArray := prog_9_method_7_code
def yX7_times : MethodName := ⟨RX7, "times", "(II)I"⟩
abbrev cX7_setTimes : ByteArray := prog_9_method_8_code
def yX7_setTimes : MethodName := ⟨RX7, "setTimes", "(III)V"⟩
abbrev cX7_makes : ByteArray := prog_9_method_9_code
def yX7_makes : MethodName := ⟨RX7, "makes", "(III)I"⟩
abbrev cX7_makesTrivial : ByteArray := prog_9_method_10_code
def yX7_makesTrivial : MethodName := ⟨RX7, "makesTrivial", "(I)I"⟩
abbrev cX7_trivial : ByteArray := prog_9_method_11_code
def yX7_trivial : MethodName := ⟨RX7, "trivial", "(I)I"⟩
abbrev cX7_dihedral : ByteArray := prog_9_method_12_code
def yX7_dihedral : MethodName := ⟨RX7, "dihedral", "(I)I"⟩
abbrev cX7_linear : ByteArray := prog_9_method_13_code
def yX7_linear : MethodName := ⟨RX7, "linear", "(II)I"⟩
abbrev cX7_pairOf : ByteArray := prog_9_method_14_code
def yX7_pairOf : MethodName := ⟨RX7, "pairOf", "(III)I"⟩
abbrev cX7_replaced : ByteArray := prog_9_method_15_code
def yX7_replaced : MethodName := ⟨RX7, "replaced", "(III)I"⟩
abbrev cX7_laysPair : ByteArray := prog_9_method_16_code
def yX7_laysPair : MethodName := ⟨RX7, "laysPair", "(III)V"⟩
abbrev cX7_transpositions : ByteArray := prog_9_method_17_code
def yX7_transpositions : MethodName := ⟨RX7, "transpositions", "(I)I"⟩
abbrev cX7_setProduct : ByteArray := prog_9_method_18_code
def yX7_setProduct : MethodName := ⟨RX7, "setProduct", "(III)I"⟩
abbrev cX7_dividedBy : ByteArray := prog_9_method_19_code
def yX7_dividedBy : MethodName := ⟨RX7, "dividedBy", "(II)I"⟩
abbrev cX7_isPermutation : ByteArray := prog_9_method_20_code
def yX7_isPermutation : MethodName := ⟨RX7, "isPermutation", "(I)Z"⟩
abbrev cX7_violatesFirst : ByteArray := prog_9_method_21_code
def yX7_violatesFirst : MethodName := ⟨RX7, "violatesFirst", "()I"⟩
abbrev cX7_violatesSecond : ByteArray := prog_9_method_22_code
def yX7_violatesSecond : MethodName := ⟨RX7, "violatesSecond", "()I"⟩
abbrev cX7_violatesThird : ByteArray := prog_9_method_23_code
def yX7_violatesThird : MethodName := ⟨RX7, "violatesThird", "()I"⟩
abbrev cX7_violates : ByteArray := prog_9_method_24_code
def yX7_violates : MethodName := ⟨RX7, "violates", "(I)I"⟩
abbrev cX7_invert : ByteArray := prog_9_method_25_code
def yX7_invert : MethodName := ⟨RX7, "invert", "()I"⟩
abbrev cX7_size : ByteArray := prog_9_method_26_code
def yX7_size : MethodName := ⟨RX7, "size", "()I"⟩
abbrev cX7_product : ByteArray := prog_9_method_27_code
def yX7_product : MethodName := ⟨RX7, "product", "(II)I"⟩
abbrev cX7_quotient : ByteArray := prog_9_method_28_code
def yX7_quotient : MethodName := ⟨RX7, "quotient", "(II)I"⟩
abbrev cX7_violation : ByteArray := prog_9_method_29_code
def yX7_violation : MethodName := ⟨RX7, "violation", "(I)I"⟩
abbrev cX7_reach : ByteArray := prog_9_method_30_code
def yX7_reach : MethodName := ⟨RX7, "reach", "(I)I"⟩
abbrev cX7_joins : ByteArray := prog_9_method_31_code
def yX7_joins : MethodName := ⟨RX7, "joins", "(III)V"⟩
abbrev cX7_aloneAll : ByteArray := prog_9_method_32_code
def yX7_aloneAll : MethodName := ⟨RX7, "aloneAll", "(I)V"⟩
abbrev cX7_partsMany : ByteArray := prog_9_method_33_code
def yX7_partsMany : MethodName := ⟨RX7, "partsMany", "(I)I"⟩
abbrev cX7_componentsOfTable : ByteArray := prog_9_method_34_code
def yX7_componentsOfTable : MethodName := ⟨RX7, "componentsOfTable", "()I"⟩
abbrev cX7_tableComponents : ByteArray := prog_9_method_35_code
def yX7_tableComponents : MethodName := ⟨RX7, "tableComponents", "()I"⟩
abbrev cX7_closureOf : ByteArray := prog_9_method_36_code
def yX7_closureOf : MethodName := ⟨RX7, "closureOf", "(I)I"⟩
abbrev cX7_closure : ByteArray := prog_9_method_37_code
def yX7_closure : MethodName := ⟨RX7, "closure", "(I)I"⟩
abbrev cX7_fewestGenerators : ByteArray := prog_9_method_38_code
def yX7_fewestGenerators : MethodName := ⟨RX7, "fewestGenerators", "()I"⟩
abbrev cX7_generators : ByteArray := prog_9_method_39_code
def yX7_generators : MethodName := ⟨RX7, "generators", "()I"⟩
abbrev cX7_translationOrder : ByteArray := prog_9_method_40_code
def yX7_translationOrder : MethodName := ⟨RX7, "translationOrder", "(I)I"⟩
abbrev cX7_differentTranslations : ByteArray := prog_9_method_41_code
def yX7_differentTranslations : MethodName := ⟨RX7, "differentTranslations", "()I"⟩
abbrev cX7_translations : ByteArray := prog_9_method_42_code
def yX7_translations : MethodName := ⟨RX7, "translations", "()I"⟩
abbrev cX7_unpacks : ByteArray := prog_9_method_43_code
def yX7_unpacks : MethodName := ⟨RX7, "unpacks", "(I)V"⟩
abbrev cX7_packed : ByteArray := prog_9_method_44_code
def yX7_packed : MethodName := ⟨RX7, "packed", "(I)I"⟩
abbrev cX7_keepsFound : ByteArray := prog_9_method_45_code
def yX7_keepsFound : MethodName := ⟨RX7, "keepsFound", "(I)V"⟩
abbrev cX7_groupSize : ByteArray := prog_9_method_46_code
def yX7_groupSize : MethodName := ⟨RX7, "groupSize", "()I"⟩
abbrev cX7_innerGroup : ByteArray := prog_9_method_47_code
def yX7_innerGroup : MethodName := ⟨RX7, "innerGroup", "()I"⟩
abbrev cX7_isAutomorphism : ByteArray := prog_9_method_48_code
def yX7_isAutomorphism : MethodName := ⟨RX7, "isAutomorphism", "()Z"⟩
abbrev cX7_automorphismsMany : ByteArray := prog_9_method_49_code
def yX7_automorphismsMany : MethodName := ⟨RX7, "automorphismsMany", "()I"⟩
abbrev cX7_automorphisms : ByteArray := prog_9_method_50_code
def yX7_automorphisms : MethodName := ⟨RX7, "automorphisms", "()I"⟩
abbrev cX7_isArc : ByteArray := prog_9_method_51_code
def yX7_isArc : MethodName := ⟨RX7, "isArc", "(I)Z"⟩
abbrev cX7_isCrossing : ByteArray := prog_9_method_52_code
def yX7_isCrossing : MethodName := ⟨RX7, "isCrossing", "(I)Z"⟩
abbrev cX7_crossingPart : ByteArray := prog_9_method_53_code
def yX7_crossingPart : MethodName := ⟨RX7, "crossingPart", "(II)I"⟩
abbrev cX7_adds : ByteArray := prog_9_method_54_code
def yX7_adds : MethodName := ⟨RX7, "adds", "(IIII)V"⟩
abbrev cX7_clears : ByteArray := prog_9_method_55_code
def yX7_clears : MethodName := ⟨RX7, "clears", "(I)V"⟩
abbrev cX7_newDiagram : ByteArray := prog_9_method_56_code
def yX7_newDiagram : MethodName := ⟨RX7, "newDiagram", "(I)I"⟩
abbrev cX7_standard : ByteArray := prog_9_method_57_code
def yX7_standard : MethodName := ⟨RX7, "standard", "(I)I"⟩
abbrev cX7_isSign : ByteArray := prog_9_method_58_code
def yX7_isSign : MethodName := ⟨RX7, "isSign", "(I)Z"⟩
abbrev cX7_addCrossing : ByteArray := prog_9_method_59_code
def yX7_addCrossing : MethodName := ⟨RX7, "addCrossing", "(IIII)I"⟩
abbrev cX7_removeCrossing : ByteArray := prog_9_method_60_code
def yX7_removeCrossing : MethodName := ⟨RX7, "removeCrossing", "(I)I"⟩
abbrev cX7_moves : ByteArray := prog_9_method_61_code
def yX7_moves : MethodName := ⟨RX7, "moves", "(II)V"⟩
abbrev cX7_kink : ByteArray := prog_9_method_62_code
def yX7_kink : MethodName := ⟨RX7, "kink", "(II)I"⟩
abbrev cX7_poke : ByteArray := prog_9_method_63_code
def yX7_poke : MethodName := ⟨RX7, "poke", "(II)I"⟩
abbrev cX7_arcs : ByteArray := prog_9_method_64_code
def yX7_arcs : MethodName := ⟨RX7, "arcs", "()I"⟩
abbrev cX7_crossings : ByteArray := prog_9_method_65_code
def yX7_crossings : MethodName := ⟨RX7, "crossings", "()I"⟩
abbrev cX7_crossing : ByteArray := prog_9_method_66_code
def yX7_crossing : MethodName := ⟨RX7, "crossing", "(II)I"⟩
abbrev cX7_isClosed : ByteArray := prog_9_method_67_code
def yX7_isClosed : MethodName := ⟨RX7, "isClosed", "()Z"⟩
abbrev cX7_findParts : ByteArray := prog_9_method_68_code
def yX7_findParts : MethodName := ⟨RX7, "findParts", "()V"⟩
abbrev cX7_componentsNow : ByteArray := prog_9_method_69_code
def yX7_componentsNow : MethodName := ⟨RX7, "componentsNow", "()I"⟩
abbrev cX7_components : ByteArray := prog_9_method_70_code
def yX7_components : MethodName := ⟨RX7, "components", "()I"⟩
abbrev cX7_writheNow : ByteArray := prog_9_method_71_code
def yX7_writheNow : MethodName := ⟨RX7, "writheNow", "()I"⟩
abbrev cX7_writhe : ByteArray := prog_9_method_72_code
def yX7_writhe : MethodName := ⟨RX7, "writhe", "()I"⟩
abbrev cX7_linking : ByteArray := prog_9_method_73_code
def yX7_linking : MethodName := ⟨RX7, "linking", "(II)I"⟩
abbrev cX7_isColouring : ByteArray := prog_9_method_74_code
def yX7_isColouring : MethodName := ⟨RX7, "isColouring", "()Z"⟩
abbrev cX7_usedColours : ByteArray := prog_9_method_75_code
def yX7_usedColours : MethodName := ⟨RX7, "usedColours", "()I"⟩
abbrev cX7_beginsColours : ByteArray := prog_9_method_76_code
def yX7_beginsColours : MethodName := ⟨RX7, "beginsColours", "()V"⟩
abbrev cX7_goesOnColours : ByteArray := prog_9_method_77_code
def yX7_goesOnColours : MethodName := ⟨RX7, "goesOnColours", "()Z"⟩
abbrev cX7_counts : ByteArray := prog_9_method_78_code
def yX7_counts : MethodName := ⟨RX7, "counts", "(III)I"⟩
abbrev cX7_colourings : ByteArray := prog_9_method_79_code
def yX7_colourings : MethodName := ⟨RX7, "colourings", "()I"⟩
abbrev cX7_colouringsWith : ByteArray := prog_9_method_80_code
def yX7_colouringsWith : MethodName := ⟨RX7, "colouringsWith", "(II)I"⟩
abbrev cX7_colouringsAlike : ByteArray := prog_9_method_81_code
def yX7_colouringsAlike : MethodName := ⟨RX7, "colouringsAlike", "(II)I"⟩
abbrev cX7_colouringsUsing : ByteArray := prog_9_method_82_code
def yX7_colouringsUsing : MethodName := ⟨RX7, "colouringsUsing", "(I)I"⟩
abbrev cX7_colour : ByteArray := prog_9_method_83_code
def yX7_colour : MethodName := ⟨RX7, "colour", "(II)I"⟩
abbrev cX7_type : ByteArray := prog_9_method_84_code
def yX7_type : MethodName := ⟨RX7, "type", "(I)I"⟩
abbrev cX7_clearText : ByteArray := prog_9_method_85_code
def yX7_clearText : MethodName := ⟨RX7, "clearText", "()I"⟩
abbrev cX7_character : ByteArray := prog_9_method_86_code
def yX7_character : MethodName := ⟨RX7, "character", "(I)I"⟩
abbrev cX7_isNext : ByteArray := prog_9_method_87_code
def yX7_isNext : MethodName := ⟨RX7, "isNext", "(I)Z"⟩
abbrev cX7_arcRead : ByteArray := prog_9_method_88_code
def yX7_arcRead : MethodName := ⟨RX7, "arcRead", "()I"⟩
abbrev cX7_readsCrossing : ByteArray := prog_9_method_89_code
def yX7_readsCrossing : MethodName := ⟨RX7, "readsCrossing", "()Z"⟩
abbrev cX7_findError : ByteArray := prog_9_method_90_code
def yX7_findError : MethodName := ⟨RX7, "findError", "()I"⟩
abbrev cX7_syntaxError : ByteArray := prog_9_method_91_code
def yX7_syntaxError : MethodName := ⟨RX7, "syntaxError", "()I"⟩
abbrev cX7_read : ByteArray := prog_9_method_92_code
def yX7_read : MethodName := ⟨RX7, "read", "()I"⟩
abbrev cX7_undo : ByteArray := prog_9_method_93_code
def yX7_undo : MethodName := ⟨RX7, "undo", "()I"⟩
abbrev cX7_digest : ByteArray := prog_9_method_94_code
def yX7_digest : MethodName := ⟨RX7, "digest", "()J"⟩
def RJ6 : String := "java/lang/Integer"
def TJ6 : u_T := fun k => match k with
  | _ => ("", "", "", false)
def tyJ6 : Nat → FieldType := fun k => match k with
  | _ => .int
abbrev wsJ60 : List Cond := u_ws RJ6 TJ6 0
theorem nmJ6 : ∀ a, a < 0 → ∀ b, b < 0 → a ≠ b → (TJ6 a).2.1 ≠ (TJ6 b).2.1 := by decide +kernel
theorem tyJ6_ok : ∀ k, k < 0 → parseFieldDescriptor (TJ6 k).2.2.1 = some (tyJ6 k) := by decide +kernel
abbrev cJ6_bitCount_0f7a4 : ByteArray := prog_10_method_49_code
def yJ6_bitCount_0f7a4 : MethodName := ⟨RJ6, "bitCount", "(I)I"⟩
def RJ9 : String := "java/lang/Math"
def TJ9 : u_T := fun k => match k with
  | _ => ("", "", "", false)
def tyJ9 : Nat → FieldType := fun k => match k with
  | _ => .int
abbrev wsJ90 : List Cond := u_ws RJ9 TJ9 0
theorem nmJ9 : ∀ a, a < 0 → ∀ b, b < 0 → a ≠ b → (TJ9 a).2.1 ≠ (TJ9 b).2.1 := by decide +kernel
theorem tyJ9_ok : ∀ k, k < 0 → parseFieldDescriptor (TJ9 k).2.2.1 = some (tyJ9 k) := by decide +kernel
abbrev cJ9_floorMod_7cf53 : ByteArray := prog_11_method_50_code
def yJ9_floorMod_7cf53 : MethodName := ⟨RJ9, "floorMod", "(II)I"⟩
abbrev cJ9_max_7cf53 : ByteArray := prog_11_method_65_code
def yJ9_max_7cf53 : MethodName := ⟨RJ9, "max", "(II)I"⟩
abbrev cJ9_min_7cf53 : ByteArray := prog_11_method_69_code
def yJ9_min_7cf53 : MethodName := ⟨RJ9, "min", "(II)I"⟩
def RJ10 : String := "java/lang/System"
def TJ10 : u_T := fun k => match k with
  | _ => ("", "", "", false)
def tyJ10 : Nat → FieldType := fun k => match k with
  | _ => .int
abbrev wsJ100 : List Cond := u_ws RJ10 TJ10 0
theorem nmJ10 : ∀ a, a < 0 → ∀ b, b < 0 → a ≠ b → (TJ10 a).2.1 ≠ (TJ10 b).2.1 := by decide +kernel
theorem tyJ10_ok : ∀ k, k < 0 → parseFieldDescriptor (TJ10 k).2.2.1 = some (tyJ10 k) := by decide +kernel
def RL : String := "KnotColoursLaw"
abbrev cL_law : ByteArray := code
def yL_law : MethodName := ⟨RL, "law", "([I)Z"⟩
abbrev vwCl : List vw_C := [(RX0, TX0, 6), (RX1, TX1, 3), (RX2, TX2, 2), (RX3, TX3, 4), (RX4, TX4, 4), (RX5, TX5, 2), (RX6, TX6, 7), (RX7, TX7, 16)]
theorem inX0 : ∀ w ∈ wsX00, w ∈ lw_tbl := by decide +kernel
theorem inX1 : ∀ w ∈ wsX10, w ∈ lw_tbl := by decide +kernel
theorem inX2 : ∀ w ∈ wsX20, w ∈ lw_tbl := by decide +kernel
theorem inX3 : ∀ w ∈ wsX30, w ∈ lw_tbl := by decide +kernel
theorem inX4 : ∀ w ∈ wsX40, w ∈ lw_tbl := by decide +kernel
theorem inX5 : ∀ w ∈ wsX50, w ∈ lw_tbl := by decide +kernel
theorem inX6 : ∀ w ∈ wsX60, w ∈ lw_tbl := by decide +kernel
theorem inX7 : ∀ w ∈ wsX70, w ∈ lw_tbl := by decide +kernel
def lw_gw : List Cond := lw_tbl.filter goodWord
theorem gw {w : Cond} (h : w ∈ lw_tbl) (g : goodWord w = true) : w ∈ lw_gw := List.mem_filter.mpr ⟨h, g⟩
theorem gwt {w : Cond} (h : w ∈ lw_gw) : w ∈ lw_tbl := (List.mem_filter.mp h).1
theorem gwg {w : Cond} (h : w ∈ lw_gw) : goodWord w = true := (List.mem_filter.mp h).2
theorem igX0 : ∀ w ∈ wsX00, w ∈ lw_gw := fun w h => gw (inX0 w h) (List.all_eq_true.mp (by decide +kernel : wsX00.all goodWord = true) w h)
theorem igX1 : ∀ w ∈ wsX10, w ∈ lw_gw := fun w h => gw (inX1 w h) (List.all_eq_true.mp (by decide +kernel : wsX10.all goodWord = true) w h)
theorem igX2 : ∀ w ∈ wsX20, w ∈ lw_gw := fun w h => gw (inX2 w h) (List.all_eq_true.mp (by decide +kernel : wsX20.all goodWord = true) w h)
theorem igX3 : ∀ w ∈ wsX30, w ∈ lw_gw := fun w h => gw (inX3 w h) (List.all_eq_true.mp (by decide +kernel : wsX30.all goodWord = true) w h)
theorem igX4 : ∀ w ∈ wsX40, w ∈ lw_gw := fun w h => gw (inX4 w h) (List.all_eq_true.mp (by decide +kernel : wsX40.all goodWord = true) w h)
theorem igX5 : ∀ w ∈ wsX50, w ∈ lw_gw := fun w h => gw (inX5 w h) (List.all_eq_true.mp (by decide +kernel : wsX50.all goodWord = true) w h)
theorem igX6 : ∀ w ∈ wsX60, w ∈ lw_gw := fun w h => gw (inX6 w h) (List.all_eq_true.mp (by decide +kernel : wsX60.all goodWord = true) w h)
theorem igX7 : ∀ w ∈ wsX70, w ∈ lw_gw := fun w h => gw (inX7 w h) (List.all_eq_true.mp (by decide +kernel : wsX70.all goodWord = true) w h)
