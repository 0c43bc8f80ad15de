section
-- ===== PART A: goes FIRST, ahead of the names: the tables' words, and 'selects' of the private methods out of them =====
/-- a private method of a class that the tables say can be made, by its rows of tables_1 -/
def lw_okq (q : MethodName × Nat) : Prop := (q.1.cls ≠ "java/lang/invoke/MethodHandle" ∧ q.1.cls ≠ "java/lang/invoke/VarHandle") ∧ Cond.instantiable q.1.cls q.2 ∈ tables_1 ∧ Cond.privateMethod q.1 ∈ tables_1 ∧ Cond.instanceMethod q.1 ∈ tables_1
theorem lw_p0 : lw_okq (⟨"KnotColours", "makeLinear", "(II)I"⟩, 7) := ⟨⟨by decide +kernel, by decide +kernel⟩, List.mem_of_getElem? (i := 13) (by decide +kernel), List.mem_of_getElem? (i := 173) (by decide +kernel), List.mem_of_getElem? (i := 174) (by decide +kernel)⟩
theorem lw_p1 : lw_okq (⟨"KnotColours", "saveState", "()V"⟩, 7) := ⟨⟨by decide +kernel, by decide +kernel⟩, List.mem_of_getElem? (i := 13) (by decide +kernel), List.mem_of_getElem? (i := 177) (by decide +kernel), List.mem_of_getElem? (i := 178) (by decide +kernel)⟩
theorem lw_p2 : lw_okq (⟨"KnotColours$Table", "fillTranslation", "(III)V"⟩, 2) := ⟨⟨by decide +kernel, by decide +kernel⟩, List.mem_of_getElem? (i := 21) (by decide +kernel), List.mem_of_getElem? (i := 227) (by decide +kernel), List.mem_of_getElem? (i := 228) (by decide +kernel)⟩
theorem lw_p3 : lw_okq (⟨"KnotColours$Table", "isPermutation", "(I)Z"⟩, 2) := ⟨⟨by decide +kernel, by decide +kernel⟩, List.mem_of_getElem? (i := 21) (by decide +kernel), List.mem_of_getElem? (i := 262) (by decide +kernel), List.mem_of_getElem? (i := 263) (by decide +kernel)⟩
theorem lw_p4 : lw_okq (⟨"KnotColours$Table", "componentOf", "(I)I"⟩, 2) := ⟨⟨by decide +kernel, by decide +kernel⟩, List.mem_of_getElem? (i := 21) (by decide +kernel), List.mem_of_getElem? (i := 321) (by decide +kernel), List.mem_of_getElem? (i := 322) (by decide +kernel)⟩
theorem lw_p5 : lw_okq (⟨"KnotColours$Table", "isIdentityAfter", "(II)Z"⟩, 2) := ⟨⟨by decide +kernel, by decide +kernel⟩, List.mem_of_getElem? (i := 21) (by decide +kernel), List.mem_of_getElem? (i := 357) (by decide +kernel), List.mem_of_getElem? (i := 358) (by decide +kernel)⟩
theorem lw_p6 : lw_okq (⟨"KnotColours$Table", "isNewTranslation", "(I)Z"⟩, 2) := ⟨⟨by decide +kernel, by decide +kernel⟩, List.mem_of_getElem? (i := 21) (by decide +kernel), List.mem_of_getElem? (i := 369) (by decide +kernel), List.mem_of_getElem? (i := 370) (by decide +kernel)⟩
theorem lw_p7 : lw_okq (⟨"KnotColours$Table", "sameTranslation", "(II)Z"⟩, 2) := ⟨⟨by decide +kernel, by decide +kernel⟩, List.mem_of_getElem? (i := 21) (by decide +kernel), List.mem_of_getElem? (i := 373) (by decide +kernel), List.mem_of_getElem? (i := 374) (by decide +kernel)⟩
theorem lw_p8 : lw_okq (⟨"KnotColours$Permutations", "startAtIdentity", "()V"⟩, 4) := ⟨⟨by decide +kernel, by decide +kernel⟩, List.mem_of_getElem? (i := 38) (by decide +kernel), List.mem_of_getElem? (i := 385) (by decide +kernel), List.mem_of_getElem? (i := 386) (by decide +kernel)⟩
theorem lw_p9 : lw_okq (⟨"KnotColours$Permutations", "unrank", "(II)V"⟩, 4) := ⟨⟨by decide +kernel, by decide +kernel⟩, List.mem_of_getElem? (i := 38) (by decide +kernel), List.mem_of_getElem? (i := 389) (by decide +kernel), List.mem_of_getElem? (i := 390) (by decide +kernel)⟩
theorem lw_p10 : lw_okq (⟨"KnotColours$Permutations", "rankBehind", "(LKnotColours$Table;I)I"⟩, 4) := ⟨⟨by decide +kernel, by decide +kernel⟩, List.mem_of_getElem? (i := 38) (by decide +kernel), List.mem_of_getElem? (i := 393) (by decide +kernel), List.mem_of_getElem? (i := 394) (by decide +kernel)⟩
theorem lw_p11 : lw_okq (⟨"KnotColours$Permutations", "keepsProducts", "(LKnotColours$Table;)Z"⟩, 4) := ⟨⟨by decide +kernel, by decide +kernel⟩, List.mem_of_getElem? (i := 38) (by decide +kernel), List.mem_of_getElem? (i := 406) (by decide +kernel), List.mem_of_getElem? (i := 407) (by decide +kernel)⟩
theorem lw_p12 : lw_okq (⟨"KnotColours$Diagram", "countAs", "(II)I"⟩, 3) := ⟨⟨by decide +kernel, by decide +kernel⟩, List.mem_of_getElem? (i := 58) (by decide +kernel), List.mem_of_getElem? (i := 497) (by decide +kernel), List.mem_of_getElem? (i := 498) (by decide +kernel)⟩
theorem lw_p13 : lw_okq (⟨"KnotColours$Diagram", "componentOf", "(I)I"⟩, 3) := ⟨⟨by decide +kernel, by decide +kernel⟩, List.mem_of_getElem? (i := 58) (by decide +kernel), List.mem_of_getElem? (i := 505) (by decide +kernel), List.mem_of_getElem? (i := 506) (by decide +kernel)⟩
theorem lw_p14 : lw_okq (⟨"KnotColours$ColouringWalk", "start", "()V"⟩, 6) := ⟨⟨by decide +kernel, by decide +kernel⟩, List.mem_of_getElem? (i := 78) (by decide +kernel), List.mem_of_getElem? (i := 533) (by decide +kernel), List.mem_of_getElem? (i := 534) (by decide +kernel)⟩
theorem lw_p15 : lw_okq (⟨"KnotColours$ColouringWalk", "advance", "()Z"⟩, 6) := ⟨⟨by decide +kernel, by decide +kernel⟩, List.mem_of_getElem? (i := 78) (by decide +kernel), List.mem_of_getElem? (i := 540) (by decide +kernel), List.mem_of_getElem? (i := 541) (by decide +kernel)⟩
def lw_privs_1 : List (MethodName × Nat) := [(⟨"KnotColours", "makeLinear", "(II)I"⟩, 7), (⟨"KnotColours", "saveState", "()V"⟩, 7), (⟨"KnotColours$Table", "fillTranslation", "(III)V"⟩, 2), (⟨"KnotColours$Table", "isPermutation", "(I)Z"⟩, 2), (⟨"KnotColours$Table", "componentOf", "(I)I"⟩, 2), (⟨"KnotColours$Table", "isIdentityAfter", "(II)Z"⟩, 2), (⟨"KnotColours$Table", "isNewTranslation", "(I)Z"⟩, 2), (⟨"KnotColours$Table", "sameTranslation", "(II)Z"⟩, 2), (⟨"KnotColours$Permutations", "startAtIdentity", "()V"⟩, 4), (⟨"KnotColours$Permutations", "unrank", "(II)V"⟩, 4), (⟨"KnotColours$Permutations", "rankBehind", "(LKnotColours$Table;I)I"⟩, 4), (⟨"KnotColours$Permutations", "keepsProducts", "(LKnotColours$Table;)Z"⟩, 4), (⟨"KnotColours$Diagram", "countAs", "(II)I"⟩, 3), (⟨"KnotColours$Diagram", "componentOf", "(I)I"⟩, 3), (⟨"KnotColours$ColouringWalk", "start", "()V"⟩, 6), (⟨"KnotColours$ColouringWalk", "advance", "()Z"⟩, 6)]
theorem lw_r1 : ∀ q ∈ lw_privs_1, lw_okq q := List.forall_mem_cons.mpr ⟨lw_p0, List.forall_mem_cons.mpr ⟨lw_p1, List.forall_mem_cons.mpr ⟨lw_p2, List.forall_mem_cons.mpr ⟨lw_p3, List.forall_mem_cons.mpr ⟨lw_p4, List.forall_mem_cons.mpr ⟨lw_p5, List.forall_mem_cons.mpr ⟨lw_p6, List.forall_mem_cons.mpr ⟨lw_p7, List.forall_mem_cons.mpr ⟨lw_p8, List.forall_mem_cons.mpr ⟨lw_p9, List.forall_mem_cons.mpr ⟨lw_p10, List.forall_mem_cons.mpr ⟨lw_p11, List.forall_mem_cons.mpr ⟨lw_p12, List.forall_mem_cons.mpr ⟨lw_p13, List.forall_mem_cons.mpr ⟨lw_p14, List.forall_mem_cons.mpr ⟨lw_p15, fun _ h => absurd h List.not_mem_nil⟩⟩⟩⟩⟩⟩⟩⟩⟩⟩⟩⟩⟩⟩⟩⟩
theorem lw_p16 : lw_okq (⟨"KnotColours$ColouringWalk", "fits", "()Z"⟩, 6) := ⟨⟨by decide +kernel, by decide +kernel⟩, List.mem_of_getElem? (i := 78) (by decide +kernel), List.mem_of_getElem? (i := 545) (by decide +kernel), List.mem_of_getElem? (i := 546) (by decide +kernel)⟩
theorem lw_p17 : lw_okq (⟨"KnotColours$ColouringWalk", "isMet", "(I)Z"⟩, 6) := ⟨⟨by decide +kernel, by decide +kernel⟩, List.mem_of_getElem? (i := 78) (by decide +kernel), List.mem_of_getElem? (i := 549) (by decide +kernel), List.mem_of_getElem? (i := 550) (by decide +kernel)⟩
theorem lw_p18 : lw_okq (⟨"KnotColours$ColouringWalk", "coloursUsed", "()I"⟩, 6) := ⟨⟨by decide +kernel, by decide +kernel⟩, List.mem_of_getElem? (i := 78) (by decide +kernel), List.mem_of_getElem? (i := 554) (by decide +kernel), List.mem_of_getElem? (i := 555) (by decide +kernel)⟩
theorem lw_p19 : lw_okq (⟨"KnotColours$DiagramText", "mayStandAt", "(I)Z"⟩, 2) := ⟨⟨by decide +kernel, by decide +kernel⟩, List.mem_of_getElem? (i := 103) (by decide +kernel), List.mem_of_getElem? (i := 616) (by decide +kernel), List.mem_of_getElem? (i := 617) (by decide +kernel)⟩
theorem lw_p20 : lw_okq (⟨"KnotColours$DiagramText", "arcAt", "(I)I"⟩, 2) := ⟨⟨by decide +kernel, by decide +kernel⟩, List.mem_of_getElem? (i := 103) (by decide +kernel), List.mem_of_getElem? (i := 628) (by decide +kernel), List.mem_of_getElem? (i := 629) (by decide +kernel)⟩
theorem lw_p21 : lw_okq (⟨"KnotColours", "hashTable", "(J)J"⟩, 7) := ⟨⟨by decide +kernel, by decide +kernel⟩, List.mem_of_getElem? (i := 13) (by decide +kernel), List.mem_of_getElem? (i := 648) (by decide +kernel), List.mem_of_getElem? (i := 649) (by decide +kernel)⟩
theorem lw_p22 : lw_okq (⟨"KnotColours", "hashDiagram", "(J)J"⟩, 7) := ⟨⟨by decide +kernel, by decide +kernel⟩, List.mem_of_getElem? (i := 13) (by decide +kernel), List.mem_of_getElem? (i := 663) (by decide +kernel), List.mem_of_getElem? (i := 664) (by decide +kernel)⟩
theorem lw_p23 : lw_okq (⟨"KnotColours", "hashColourings", "(J)J"⟩, 7) := ⟨⟨by decide +kernel, by decide +kernel⟩, List.mem_of_getElem? (i := 13) (by decide +kernel), List.mem_of_getElem? (i := 671) (by decide +kernel), List.mem_of_getElem? (i := 672) (by decide +kernel)⟩
theorem lw_p24 : lw_okq (⟨"KnotColoursModel", "makesTrivial", "(I)I"⟩, 16) := ⟨⟨by decide +kernel, by decide +kernel⟩, List.mem_of_getElem? (i := 675) (by decide +kernel), List.mem_of_getElem? (i := 737) (by decide +kernel), List.mem_of_getElem? (i := 738) (by decide +kernel)⟩
theorem lw_p25 : lw_okq (⟨"KnotColoursModel", "makes", "(III)I"⟩, 16) := ⟨⟨by decide +kernel, by decide +kernel⟩, List.mem_of_getElem? (i := 675) (by decide +kernel), List.mem_of_getElem? (i := 741) (by decide +kernel), List.mem_of_getElem? (i := 742) (by decide +kernel)⟩
theorem lw_p26 : lw_okq (⟨"KnotColoursModel", "record", "()V"⟩, 16) := ⟨⟨by decide +kernel, by decide +kernel⟩, List.mem_of_getElem? (i := 675) (by decide +kernel), List.mem_of_getElem? (i := 745) (by decide +kernel), List.mem_of_getElem? (i := 746) (by decide +kernel)⟩
theorem lw_p27 : lw_okq (⟨"KnotColoursModel", "setTimes", "(III)V"⟩, 16) := ⟨⟨by decide +kernel, by decide +kernel⟩, List.mem_of_getElem? (i := 675) (by decide +kernel), List.mem_of_getElem? (i := 749) (by decide +kernel), List.mem_of_getElem? (i := 750) (by decide +kernel)⟩
theorem lw_p28 : lw_okq (⟨"KnotColoursModel", "laysPair", "(III)V"⟩, 16) := ⟨⟨by decide +kernel, by decide +kernel⟩, List.mem_of_getElem? (i := 675) (by decide +kernel), List.mem_of_getElem? (i := 765) (by decide +kernel), List.mem_of_getElem? (i := 766) (by decide +kernel)⟩
theorem lw_p29 : lw_okq (⟨"KnotColoursModel", "isElement", "(I)Z"⟩, 16) := ⟨⟨by decide +kernel, by decide +kernel⟩, List.mem_of_getElem? (i := 675) (by decide +kernel), List.mem_of_getElem? (i := 779) (by decide +kernel), List.mem_of_getElem? (i := 780) (by decide +kernel)⟩
theorem lw_p30 : lw_okq (⟨"KnotColoursModel", "times", "(II)I"⟩, 16) := ⟨⟨by decide +kernel, by decide +kernel⟩, List.mem_of_getElem? (i := 675) (by decide +kernel), List.mem_of_getElem? (i := 783) (by decide +kernel), List.mem_of_getElem? (i := 784) (by decide +kernel)⟩
theorem lw_p31 : lw_okq (⟨"KnotColoursModel", "violatesSecond", "()I"⟩, 16) := ⟨⟨by decide +kernel, by decide +kernel⟩, List.mem_of_getElem? (i := 675) (by decide +kernel), List.mem_of_getElem? (i := 791) (by decide +kernel), List.mem_of_getElem? (i := 792) (by decide +kernel)⟩
def lw_privs_2 : List (MethodName × Nat) := [(⟨"KnotColours$ColouringWalk", "fits", "()Z"⟩, 6), (⟨"KnotColours$ColouringWalk", "isMet", "(I)Z"⟩, 6), (⟨"KnotColours$ColouringWalk", "coloursUsed", "()I"⟩, 6), (⟨"KnotColours$DiagramText", "mayStandAt", "(I)Z"⟩, 2), (⟨"KnotColours$DiagramText", "arcAt", "(I)I"⟩, 2), (⟨"KnotColours", "hashTable", "(J)J"⟩, 7), (⟨"KnotColours", "hashDiagram", "(J)J"⟩, 7), (⟨"KnotColours", "hashColourings", "(J)J"⟩, 7), (⟨"KnotColoursModel", "makesTrivial", "(I)I"⟩, 16), (⟨"KnotColoursModel", "makes", "(III)I"⟩, 16), (⟨"KnotColoursModel", "record", "()V"⟩, 16), (⟨"KnotColoursModel", "setTimes", "(III)V"⟩, 16), (⟨"KnotColoursModel", "laysPair", "(III)V"⟩, 16), (⟨"KnotColoursModel", "isElement", "(I)Z"⟩, 16), (⟨"KnotColoursModel", "times", "(II)I"⟩, 16), (⟨"KnotColoursModel", "violatesSecond", "()I"⟩, 16)]
theorem lw_r2 : ∀ q ∈ lw_privs_2, lw_okq q := List.forall_mem_cons.mpr ⟨lw_p16, List.forall_mem_cons.mpr ⟨lw_p17, List.forall_mem_cons.mpr ⟨lw_p18, List.forall_mem_cons.mpr ⟨lw_p19, List.forall_mem_cons.mpr ⟨lw_p20, List.forall_mem_cons.mpr ⟨lw_p21, List.forall_mem_cons.mpr ⟨lw_p22, List.forall_mem_cons.mpr ⟨lw_p23, List.forall_mem_cons.mpr ⟨lw_p24, List.forall_mem_cons.mpr ⟨lw_p25, List.forall_mem_cons.mpr ⟨lw_p26, List.forall_mem_cons.mpr ⟨lw_p27, List.forall_mem_cons.mpr ⟨lw_p28, List.forall_mem_cons.mpr ⟨lw_p29, List.forall_mem_cons.mpr ⟨lw_p30, List.forall_mem_cons.mpr ⟨lw_p31, fun _ h => absurd h List.not_mem_nil⟩⟩⟩⟩⟩⟩⟩⟩⟩⟩⟩⟩⟩⟩⟩⟩
theorem lw_p32 : lw_okq (⟨"KnotColoursModel", "isPermutation", "(I)Z"⟩, 16) := ⟨⟨by decide +kernel, by decide +kernel⟩, List.mem_of_getElem? (i := 675) (by decide +kernel), List.mem_of_getElem? (i := 795) (by decide +kernel), List.mem_of_getElem? (i := 796) (by decide +kernel)⟩
theorem lw_p33 : lw_okq (⟨"KnotColoursModel", "dividedBy", "(II)I"⟩, 16) := ⟨⟨by decide +kernel, by decide +kernel⟩, List.mem_of_getElem? (i := 675) (by decide +kernel), List.mem_of_getElem? (i := 802) (by decide +kernel), List.mem_of_getElem? (i := 803) (by decide +kernel)⟩
theorem lw_p34 : lw_okq (⟨"KnotColoursModel", "violates", "(I)I"⟩, 16) := ⟨⟨by decide +kernel, by decide +kernel⟩, List.mem_of_getElem? (i := 675) (by decide +kernel), List.mem_of_getElem? (i := 822) (by decide +kernel), List.mem_of_getElem? (i := 823) (by decide +kernel)⟩
theorem lw_p35 : lw_okq (⟨"KnotColoursModel", "violatesFirst", "()I"⟩, 16) := ⟨⟨by decide +kernel, by decide +kernel⟩, List.mem_of_getElem? (i := 675) (by decide +kernel), List.mem_of_getElem? (i := 826) (by decide +kernel), List.mem_of_getElem? (i := 827) (by decide +kernel)⟩
theorem lw_p36 : lw_okq (⟨"KnotColoursModel", "violatesThird", "()I"⟩, 16) := ⟨⟨by decide +kernel, by decide +kernel⟩, List.mem_of_getElem? (i := 675) (by decide +kernel), List.mem_of_getElem? (i := 830) (by decide +kernel), List.mem_of_getElem? (i := 831) (by decide +kernel)⟩
theorem lw_p37 : lw_okq (⟨"KnotColoursModel", "componentsOfTable", "()I"⟩, 16) := ⟨⟨by decide +kernel, by decide +kernel⟩, List.mem_of_getElem? (i := 675) (by decide +kernel), List.mem_of_getElem? (i := 842) (by decide +kernel), List.mem_of_getElem? (i := 843) (by decide +kernel)⟩
theorem lw_p38 : lw_okq (⟨"KnotColoursModel", "aloneAll", "(I)V"⟩, 16) := ⟨⟨by decide +kernel, by decide +kernel⟩, List.mem_of_getElem? (i := 675) (by decide +kernel), List.mem_of_getElem? (i := 846) (by decide +kernel), List.mem_of_getElem? (i := 847) (by decide +kernel)⟩
theorem lw_p39 : lw_okq (⟨"KnotColoursModel", "joins", "(III)V"⟩, 16) := ⟨⟨by decide +kernel, by decide +kernel⟩, List.mem_of_getElem? (i := 675) (by decide +kernel), List.mem_of_getElem? (i := 850) (by decide +kernel), List.mem_of_getElem? (i := 851) (by decide +kernel)⟩
theorem lw_p40 : lw_okq (⟨"KnotColoursModel", "partsMany", "(I)I"⟩, 16) := ⟨⟨by decide +kernel, by decide +kernel⟩, List.mem_of_getElem? (i := 675) (by decide +kernel), List.mem_of_getElem? (i := 854) (by decide +kernel), List.mem_of_getElem? (i := 855) (by decide +kernel)⟩
theorem lw_p41 : lw_okq (⟨"KnotColoursModel", "closureOf", "(I)I"⟩, 16) := ⟨⟨by decide +kernel, by decide +kernel⟩, List.mem_of_getElem? (i := 675) (by decide +kernel), List.mem_of_getElem? (i := 862) (by decide +kernel), List.mem_of_getElem? (i := 863) (by decide +kernel)⟩
theorem lw_p42 : lw_okq (⟨"KnotColoursModel", "fewestGenerators", "()I"⟩, 16) := ⟨⟨by decide +kernel, by decide +kernel⟩, List.mem_of_getElem? (i := 675) (by decide +kernel), List.mem_of_getElem? (i := 870) (by decide +kernel), List.mem_of_getElem? (i := 871) (by decide +kernel)⟩
theorem lw_p43 : lw_okq (⟨"KnotColoursModel", "differentTranslations", "()I"⟩, 16) := ⟨⟨by decide +kernel, by decide +kernel⟩, List.mem_of_getElem? (i := 675) (by decide +kernel), List.mem_of_getElem? (i := 882) (by decide +kernel), List.mem_of_getElem? (i := 883) (by decide +kernel)⟩
theorem lw_p44 : lw_okq (⟨"KnotColoursModel", "groupSize", "()I"⟩, 16) := ⟨⟨by decide +kernel, by decide +kernel⟩, List.mem_of_getElem? (i := 675) (by decide +kernel), List.mem_of_getElem? (i := 890) (by decide +kernel), List.mem_of_getElem? (i := 891) (by decide +kernel)⟩
theorem lw_p45 : lw_okq (⟨"KnotColoursModel", "keepsFound", "(I)V"⟩, 16) := ⟨⟨by decide +kernel, by decide +kernel⟩, List.mem_of_getElem? (i := 675) (by decide +kernel), List.mem_of_getElem? (i := 894) (by decide +kernel), List.mem_of_getElem? (i := 895) (by decide +kernel)⟩
theorem lw_p46 : lw_okq (⟨"KnotColoursModel", "unpacks", "(I)V"⟩, 16) := ⟨⟨by decide +kernel, by decide +kernel⟩, List.mem_of_getElem? (i := 675) (by decide +kernel), List.mem_of_getElem? (i := 898) (by decide +kernel), List.mem_of_getElem? (i := 899) (by decide +kernel)⟩
theorem lw_p47 : lw_okq (⟨"KnotColoursModel", "packed", "(I)I"⟩, 16) := ⟨⟨by decide +kernel, by decide +kernel⟩, List.mem_of_getElem? (i := 675) (by decide +kernel), List.mem_of_getElem? (i := 902) (by decide +kernel), List.mem_of_getElem? (i := 903) (by decide +kernel)⟩
def lw_privs_3 : List (MethodName × Nat) := [(⟨"KnotColoursModel", "isPermutation", "(I)Z"⟩, 16), (⟨"KnotColoursModel", "dividedBy", "(II)I"⟩, 16), (⟨"KnotColoursModel", "violates", "(I)I"⟩, 16), (⟨"KnotColoursModel", "violatesFirst", "()I"⟩, 16), (⟨"KnotColoursModel", "violatesThird", "()I"⟩, 16), (⟨"KnotColoursModel", "componentsOfTable", "()I"⟩, 16), (⟨"KnotColoursModel", "aloneAll", "(I)V"⟩, 16), (⟨"KnotColoursModel", "joins", "(III)V"⟩, 16), (⟨"KnotColoursModel", "partsMany", "(I)I"⟩, 16), (⟨"KnotColoursModel", "closureOf", "(I)I"⟩, 16), (⟨"KnotColoursModel", "fewestGenerators", "()I"⟩, 16), (⟨"KnotColoursModel", "differentTranslations", "()I"⟩, 16), (⟨"KnotColoursModel", "groupSize", "()I"⟩, 16), (⟨"KnotColoursModel", "keepsFound", "(I)V"⟩, 16), (⟨"KnotColoursModel", "unpacks", "(I)V"⟩, 16), (⟨"KnotColoursModel", "packed", "(I)I"⟩, 16)]
theorem lw_r3 : ∀ q ∈ lw_privs_3, lw_okq q := List.forall_mem_cons.mpr ⟨lw_p32, List.forall_mem_cons.mpr ⟨lw_p33, List.forall_mem_cons.mpr ⟨lw_p34, List.forall_mem_cons.mpr ⟨lw_p35, List.forall_mem_cons.mpr ⟨lw_p36, List.forall_mem_cons.mpr ⟨lw_p37, List.forall_mem_cons.mpr ⟨lw_p38, List.forall_mem_cons.mpr ⟨lw_p39, List.forall_mem_cons.mpr ⟨lw_p40, List.forall_mem_cons.mpr ⟨lw_p41, List.forall_mem_cons.mpr ⟨lw_p42, List.forall_mem_cons.mpr ⟨lw_p43, List.forall_mem_cons.mpr ⟨lw_p44, List.forall_mem_cons.mpr ⟨lw_p45, List.forall_mem_cons.mpr ⟨lw_p46, List.forall_mem_cons.mpr ⟨lw_p47, fun _ h => absurd h List.not_mem_nil⟩⟩⟩⟩⟩⟩⟩⟩⟩⟩⟩⟩⟩⟩⟩⟩
theorem lw_p48 : lw_okq (⟨"KnotColoursModel", "automorphismsMany", "()I"⟩, 16) := ⟨⟨by decide +kernel, by decide +kernel⟩, List.mem_of_getElem? (i := 675) (by decide +kernel), List.mem_of_getElem? (i := 910) (by decide +kernel), List.mem_of_getElem? (i := 911) (by decide +kernel)⟩
theorem lw_p49 : lw_okq (⟨"KnotColoursModel", "isAutomorphism", "()Z"⟩, 16) := ⟨⟨by decide +kernel, by decide +kernel⟩, List.mem_of_getElem? (i := 675) (by decide +kernel), List.mem_of_getElem? (i := 914) (by decide +kernel), List.mem_of_getElem? (i := 915) (by decide +kernel)⟩
theorem lw_p50 : lw_okq (⟨"KnotColoursModel", "clears", "(I)V"⟩, 16) := ⟨⟨by decide +kernel, by decide +kernel⟩, List.mem_of_getElem? (i := 675) (by decide +kernel), List.mem_of_getElem? (i := 922) (by decide +kernel), List.mem_of_getElem? (i := 923) (by decide +kernel)⟩
theorem lw_p51 : lw_okq (⟨"KnotColoursModel", "adds", "(IIII)V"⟩, 16) := ⟨⟨by decide +kernel, by decide +kernel⟩, List.mem_of_getElem? (i := 675) (by decide +kernel), List.mem_of_getElem? (i := 930) (by decide +kernel), List.mem_of_getElem? (i := 931) (by decide +kernel)⟩
theorem lw_p52 : lw_okq (⟨"KnotColoursModel", "isArc", "(I)Z"⟩, 16) := ⟨⟨by decide +kernel, by decide +kernel⟩, List.mem_of_getElem? (i := 675) (by decide +kernel), List.mem_of_getElem? (i := 938) (by decide +kernel), List.mem_of_getElem? (i := 939) (by decide +kernel)⟩
theorem lw_p53 : lw_okq (⟨"KnotColoursModel", "isCrossing", "(I)Z"⟩, 16) := ⟨⟨by decide +kernel, by decide +kernel⟩, List.mem_of_getElem? (i := 675) (by decide +kernel), List.mem_of_getElem? (i := 949) (by decide +kernel), List.mem_of_getElem? (i := 950) (by decide +kernel)⟩
theorem lw_p54 : lw_okq (⟨"KnotColoursModel", "moves", "(II)V"⟩, 16) := ⟨⟨by decide +kernel, by decide +kernel⟩, List.mem_of_getElem? (i := 675) (by decide +kernel), List.mem_of_getElem? (i := 957) (by decide +kernel), List.mem_of_getElem? (i := 958) (by decide +kernel)⟩
theorem lw_p55 : lw_okq (⟨"KnotColoursModel", "crossingPart", "(II)I"⟩, 16) := ⟨⟨by decide +kernel, by decide +kernel⟩, List.mem_of_getElem? (i := 675) (by decide +kernel), List.mem_of_getElem? (i := 961) (by decide +kernel), List.mem_of_getElem? (i := 962) (by decide +kernel)⟩
theorem lw_p56 : lw_okq (⟨"KnotColoursModel", "componentsNow", "()I"⟩, 16) := ⟨⟨by decide +kernel, by decide +kernel⟩, List.mem_of_getElem? (i := 675) (by decide +kernel), List.mem_of_getElem? (i := 985) (by decide +kernel), List.mem_of_getElem? (i := 986) (by decide +kernel)⟩
theorem lw_p57 : lw_okq (⟨"KnotColoursModel", "isClosed", "()Z"⟩, 16) := ⟨⟨by decide +kernel, by decide +kernel⟩, List.mem_of_getElem? (i := 675) (by decide +kernel), List.mem_of_getElem? (i := 989) (by decide +kernel), List.mem_of_getElem? (i := 990) (by decide +kernel)⟩
theorem lw_p58 : lw_okq (⟨"KnotColoursModel", "findParts", "()V"⟩, 16) := ⟨⟨by decide +kernel, by decide +kernel⟩, List.mem_of_getElem? (i := 675) (by decide +kernel), List.mem_of_getElem? (i := 993) (by decide +kernel), List.mem_of_getElem? (i := 994) (by decide +kernel)⟩
theorem lw_p59 : lw_okq (⟨"KnotColoursModel", "writheNow", "()I"⟩, 16) := ⟨⟨by decide +kernel, by decide +kernel⟩, List.mem_of_getElem? (i := 675) (by decide +kernel), List.mem_of_getElem? (i := 1001) (by decide +kernel), List.mem_of_getElem? (i := 1002) (by decide +kernel)⟩
theorem lw_p60 : lw_okq (⟨"KnotColoursModel", "counts", "(III)I"⟩, 16) := ⟨⟨by decide +kernel, by decide +kernel⟩, List.mem_of_getElem? (i := 675) (by decide +kernel), List.mem_of_getElem? (i := 1013) (by decide +kernel), List.mem_of_getElem? (i := 1014) (by decide +kernel)⟩
theorem lw_p61 : lw_okq (⟨"KnotColoursModel", "beginsColours", "()V"⟩, 16) := ⟨⟨by decide +kernel, by decide +kernel⟩, List.mem_of_getElem? (i := 675) (by decide +kernel), List.mem_of_getElem? (i := 1017) (by decide +kernel), List.mem_of_getElem? (i := 1018) (by decide +kernel)⟩
theorem lw_p62 : lw_okq (⟨"KnotColoursModel", "usedColours", "()I"⟩, 16) := ⟨⟨by decide +kernel, by decide +kernel⟩, List.mem_of_getElem? (i := 675) (by decide +kernel), List.mem_of_getElem? (i := 1021) (by decide +kernel), List.mem_of_getElem? (i := 1022) (by decide +kernel)⟩
theorem lw_p63 : lw_okq (⟨"KnotColoursModel", "isColouring", "()Z"⟩, 16) := ⟨⟨by decide +kernel, by decide +kernel⟩, List.mem_of_getElem? (i := 675) (by decide +kernel), List.mem_of_getElem? (i := 1025) (by decide +kernel), List.mem_of_getElem? (i := 1026) (by decide +kernel)⟩
def lw_privs_4 : List (MethodName × Nat) := [(⟨"KnotColoursModel", "automorphismsMany", "()I"⟩, 16), (⟨"KnotColoursModel", "isAutomorphism", "()Z"⟩, 16), (⟨"KnotColoursModel", "clears", "(I)V"⟩, 16), (⟨"KnotColoursModel", "adds", "(IIII)V"⟩, 16), (⟨"KnotColoursModel", "isArc", "(I)Z"⟩, 16), (⟨"KnotColoursModel", "isCrossing", "(I)Z"⟩, 16), (⟨"KnotColoursModel", "moves", "(II)V"⟩, 16), (⟨"KnotColoursModel", "crossingPart", "(II)I"⟩, 16), (⟨"KnotColoursModel", "componentsNow", "()I"⟩, 16), (⟨"KnotColoursModel", "isClosed", "()Z"⟩, 16), (⟨"KnotColoursModel", "findParts", "()V"⟩, 16), (⟨"KnotColoursModel", "writheNow", "()I"⟩, 16), (⟨"KnotColoursModel", "counts", "(III)I"⟩, 16), (⟨"KnotColoursModel", "beginsColours", "()V"⟩, 16), (⟨"KnotColoursModel", "usedColours", "()I"⟩, 16), (⟨"KnotColoursModel", "isColouring", "()Z"⟩, 16)]
theorem lw_r4 : ∀ q ∈ lw_privs_4, lw_okq q := List.forall_mem_cons.mpr ⟨lw_p48, List.forall_mem_cons.mpr ⟨lw_p49, List.forall_mem_cons.mpr ⟨lw_p50, List.forall_mem_cons.mpr ⟨lw_p51, List.forall_mem_cons.mpr ⟨lw_p52, List.forall_mem_cons.mpr ⟨lw_p53, List.forall_mem_cons.mpr ⟨lw_p54, List.forall_mem_cons.mpr ⟨lw_p55, List.forall_mem_cons.mpr ⟨lw_p56, List.forall_mem_cons.mpr ⟨lw_p57, List.forall_mem_cons.mpr ⟨lw_p58, List.forall_mem_cons.mpr ⟨lw_p59, List.forall_mem_cons.mpr ⟨lw_p60, List.forall_mem_cons.mpr ⟨lw_p61, List.forall_mem_cons.mpr ⟨lw_p62, List.forall_mem_cons.mpr ⟨lw_p63, fun _ h => absurd h List.not_mem_nil⟩⟩⟩⟩⟩⟩⟩⟩⟩⟩⟩⟩⟩⟩⟩⟩
theorem lw_p64 : lw_okq (⟨"KnotColoursModel", "goesOnColours", "()Z"⟩, 16) := ⟨⟨by decide +kernel, by decide +kernel⟩, List.mem_of_getElem? (i := 675) (by decide +kernel), List.mem_of_getElem? (i := 1029) (by decide +kernel), List.mem_of_getElem? (i := 1030) (by decide +kernel)⟩
theorem lw_p65 : lw_okq (⟨"KnotColoursModel", "findError", "()I"⟩, 16) := ⟨⟨by decide +kernel, by decide +kernel⟩, List.mem_of_getElem? (i := 675) (by decide +kernel), List.mem_of_getElem? (i := 1061) (by decide +kernel), List.mem_of_getElem? (i := 1062) (by decide +kernel)⟩
theorem lw_p66 : lw_okq (⟨"KnotColoursModel", "readsCrossing", "()Z"⟩, 16) := ⟨⟨by decide +kernel, by decide +kernel⟩, List.mem_of_getElem? (i := 675) (by decide +kernel), List.mem_of_getElem? (i := 1065) (by decide +kernel), List.mem_of_getElem? (i := 1066) (by decide +kernel)⟩
theorem lw_p67 : lw_okq (⟨"KnotColoursModel", "arcRead", "()I"⟩, 16) := ⟨⟨by decide +kernel, by decide +kernel⟩, List.mem_of_getElem? (i := 675) (by decide +kernel), List.mem_of_getElem? (i := 1069) (by decide +kernel), List.mem_of_getElem? (i := 1070) (by decide +kernel)⟩
theorem lw_p68 : lw_okq (⟨"KnotColoursModel", "character", "(I)I"⟩, 16) := ⟨⟨by decide +kernel, by decide +kernel⟩, List.mem_of_getElem? (i := 675) (by decide +kernel), List.mem_of_getElem? (i := 1073) (by decide +kernel), List.mem_of_getElem? (i := 1074) (by decide +kernel)⟩
theorem lw_p69 : lw_okq (⟨"KnotColoursModel", "isNext", "(I)Z"⟩, 16) := ⟨⟨by decide +kernel, by decide +kernel⟩, List.mem_of_getElem? (i := 675) (by decide +kernel), List.mem_of_getElem? (i := 1077) (by decide +kernel), List.mem_of_getElem? (i := 1078) (by decide +kernel)⟩
def lw_privs_5 : List (MethodName × Nat) := [(⟨"KnotColoursModel", "goesOnColours", "()Z"⟩, 16), (⟨"KnotColoursModel", "findError", "()I"⟩, 16), (⟨"KnotColoursModel", "readsCrossing", "()Z"⟩, 16), (⟨"KnotColoursModel", "arcRead", "()I"⟩, 16), (⟨"KnotColoursModel", "character", "(I)I"⟩, 16), (⟨"KnotColoursModel", "isNext", "(I)Z"⟩, 16)]
theorem lw_r5 : ∀ q ∈ lw_privs_5, lw_okq q := List.forall_mem_cons.mpr ⟨lw_p64, List.forall_mem_cons.mpr ⟨lw_p65, List.forall_mem_cons.mpr ⟨lw_p66, List.forall_mem_cons.mpr ⟨lw_p67, List.forall_mem_cons.mpr ⟨lw_p68, List.forall_mem_cons.mpr ⟨lw_p69, fun _ h => absurd h List.not_mem_nil⟩⟩⟩⟩⟩⟩
def lw_privs : List (MethodName × Nat) := lw_privs_1 ++ (lw_privs_2 ++ (lw_privs_3 ++ (lw_privs_4 ++ (lw_privs_5))))
def lw_tbl : List Cond := k2_sels lw_privs ++ tables_1
theorem lw_privs_ok : ∀ q ∈ lw_privs, lw_okq q := by
  show ∀ q ∈ lw_privs_1 ++ (lw_privs_2 ++ (lw_privs_3 ++ (lw_privs_4 ++ (lw_privs_5)))), lw_okq q
  exact List.forall_mem_append.mpr ⟨lw_r1, List.forall_mem_append.mpr ⟨lw_r2, List.forall_mem_append.mpr ⟨lw_r3, List.forall_mem_append.mpr ⟨lw_r4, lw_r5⟩⟩⟩⟩
theorem goodIn_r {big : List Cond} (ws : List Cond) (ps : List Nat) (hp : ws = ps.filterMap (fun i => big[i]?)) (h : ws.all goodWord = true) : GoodIn big ws := by
  intro w hw
  have h1 := List.all_eq_true.mp h w hw
  rw [hp] at hw
  obtain ⟨i, -, hi⟩ := List.mem_filterMap.mp hw
  have hm : w ∈ big := by first | exact List.mem_of_getElem? hi | exact List.getElem?_mem hi
  exact ⟨hm, good_of_word h1⟩
theorem goodIn_app {big a b : List Cond} (ha : GoodIn big a) (hb : GoodIn big b) : GoodIn big (a ++ b) := fun w h => (List.mem_append.mp h).elim (ha w) (hb w)
theorem goodIn_ca {big a b : List Cond} {c : Cond} (ha : GoodIn big (c :: a)) (hb : GoodIn big b) : GoodIn big (c :: (a ++ b)) := fun w h => (List.mem_cons.mp h).elim (fun e => ha w (List.mem_cons.mpr (Or.inl e))) (fun h => (List.mem_append.mp h).elim (fun h => ha w (List.mem_cons.mpr (Or.inr h))) (hb w))
theorem goodIn_sub {big ws : List Cond} (hm : ∀ w ∈ ws, w ∈ big) (h : ws.all goodWord = true) : GoodIn big ws := fun w hw => ⟨hm w hw, good_of_word (List.all_eq_true.mp h w hw)⟩
def RX0 : String := "KnotColours$ColouringWalk"
def TX0 : u_T := fun k => match k with
  | 0 => ("KnotColours$ColouringWalk", "table", "LKnotColours$Table;", true)
  | 1 => ("KnotColours$ColouringWalk", "diagram", "LKnotColours$Diagram;", true)
  | 2 => ("KnotColours$ColouringWalk", "colours", "[I", true)
  | 3 => ("KnotColours$ColouringWalk", "lastArcs", "[I", true)
  | 4 => ("KnotColours$ColouringWalk", "tallies", "[I", true)
  | _ => ("KnotColours$ColouringWalk", "arc", "I", false)
def tyX0 : Nat → FieldType := fun k => match k with
  | 0 => .object "KnotColours$Table"
  | 1 => .object "KnotColours$Diagram"
  | 2 => .array .int
  | 3 => .array .int
  | 4 => .array .int
  | _ => .int
abbrev wsX00 : List Cond := u_ws RX0 TX0 6
theorem nmX0 : ∀ a, a < 6 → ∀ b, b < 6 → a ≠ b → (TX0 a).2.1 ≠ (TX0 b).2.1 := by decide +kernel
theorem tyX0_ok : ∀ k, k < 6 → parseFieldDescriptor (TX0 k).2.2.1 = some (tyX0 k) := by decide +kernel
abbrev cX0_init : ByteArray := prog_2_method_1_code
def yX0_init : MethodName := ⟨RX0, "<init>", "(LKnotColours$Table;LKnotColours$Diagram;)V"⟩
abbrev cX0_tally : ByteArray := prog_2_method_2_code
def yX0_tally : MethodName := ⟨RX0, "tally", "()I"⟩
abbrev cX0_talliedUsing : ByteArray := prog_2_method_3_code
def yX0_talliedUsing : MethodName := ⟨RX0, "talliedUsing", "(I)I"⟩
abbrev cX0_coloursUsed : ByteArray := prog_2_method_4_code
def yX0_coloursUsed : MethodName := ⟨RX0, "coloursUsed", "()I"⟩
abbrev cX0_countWith : ByteArray := prog_2_method_5_code
def yX0_countWith : MethodName := ⟨RX0, "countWith", "(II)I"⟩
abbrev cX0_countAlike : ByteArray := prog_2_method_6_code
def yX0_countAlike : MethodName := ⟨RX0, "countAlike", "(II)I"⟩
abbrev cX0_colourAt : ByteArray := prog_2_method_7_code
def yX0_colourAt : MethodName := ⟨RX0, "colourAt", "(II)I"⟩
abbrev cX0_start : ByteArray := prog_2_method_8_code
def yX0_start : MethodName := ⟨RX0, "start", "()V"⟩
abbrev cX0_advance : ByteArray := prog_2_method_9_code
def yX0_advance : MethodName := ⟨RX0, "advance", "()Z"⟩
abbrev cX0_fits : ByteArray := prog_2_method_10_code
def yX0_fits : MethodName := ⟨RX0, "fits", "()Z"⟩
abbrev cX0_isMet : ByteArray := prog_2_method_11_code
def yX0_isMet : MethodName := ⟨RX0, "isMet", "(I)Z"⟩
def RX1 : String := "KnotColours$Diagram"
def TX1 : u_T := fun k => match k with
  | 0 => ("KnotColours$Diagram", "arcCount", "I", false)
  | 1 => ("KnotColours$Diagram", "crossingCount", "I", false)
  | _ => ("KnotColours$Diagram", "parts", "[I", true)
def tyX1 : Nat → FieldType := fun k => match k with
  | 0 => .int
  | 1 => .int
  | _ => .array .int
abbrev wsX10 : List Cond := u_ws RX1 TX1 3
theorem nmX1 : ∀ a, a < 3 → ∀ b, b < 3 → a ≠ b → (TX1 a).2.1 ≠ (TX1 b).2.1 := by decide +kernel
theorem tyX1_ok : ∀ k, k < 3 → parseFieldDescriptor (TX1 k).2.2.1 = some (tyX1 k) := by decide +kernel
abbrev cX1_init : ByteArray := prog_3_method_1_code
def yX1_init : MethodName := ⟨RX1, "<init>", "()V"⟩
abbrev cX1_hasArc : ByteArray := prog_3_method_2_code
def yX1_hasArc : MethodName := ⟨RX1, "hasArc", "(I)Z"⟩
abbrev cX1_hasCrossing : ByteArray := prog_3_method_3_code
def yX1_hasCrossing : MethodName := ⟨RX1, "hasCrossing", "(I)Z"⟩
abbrev cX1_hasRoom : ByteArray := prog_3_method_4_code
def yX1_hasRoom : MethodName := ⟨RX1, "hasRoom", "(II)Z"⟩
abbrev cX1_part : ByteArray := prog_3_method_5_code
def yX1_part : MethodName := ⟨RX1, "part", "(II)I"⟩
abbrev cX1_copyFrom : ByteArray := prog_3_method_6_code
def yX1_copyFrom : MethodName := ⟨RX1, "copyFrom", "(LKnotColours$Diagram;)V"⟩
abbrev cX1_clear : ByteArray := prog_3_method_7_code
def yX1_clear : MethodName := ⟨RX1, "clear", "(I)V"⟩
abbrev cX1_addArc : ByteArray := prog_3_method_8_code
def yX1_addArc : MethodName := ⟨RX1, "addArc", "()I"⟩
abbrev cX1_append : ByteArray := prog_3_method_9_code
def yX1_append : MethodName := ⟨RX1, "append", "(IIII)V"⟩
abbrev cX1_remove : ByteArray := prog_3_method_10_code
def yX1_remove : MethodName := ⟨RX1, "remove", "(I)V"⟩
abbrev cX1_moveIn : ByteArray := prog_3_method_11_code
def yX1_moveIn : MethodName := ⟨RX1, "moveIn", "(II)V"⟩
abbrev cX1_isClosed : ByteArray := prog_3_method_12_code
def yX1_isClosed : MethodName := ⟨RX1, "isClosed", "()Z"⟩
abbrev cX1_countAs : ByteArray := prog_3_method_13_code
def yX1_countAs : MethodName := ⟨RX1, "countAs", "(II)I"⟩
abbrev cX1_countComponents : ByteArray := prog_3_method_14_code
def yX1_countComponents : MethodName := ⟨RX1, "countComponents", "()I"⟩
abbrev cX1_componentOf : ByteArray := prog_3_method_15_code
def yX1_componentOf : MethodName := ⟨RX1, "componentOf", "(I)I"⟩
abbrev cX1_signSum : ByteArray := prog_3_method_16_code
def yX1_signSum : MethodName := ⟨RX1, "signSum", "()I"⟩
abbrev cX1_linkingSum : ByteArray := prog_3_method_17_code
def yX1_linkingSum : MethodName := ⟨RX1, "linkingSum", "(II)I"⟩
def RX2 : String := "KnotColours$DiagramText"
def TX2 : u_T := fun k => match k with
  | 0 => ("KnotColours$DiagramText", "length", "I", false)
  | _ => ("KnotColours$DiagramText", "characters", "[C", true)
def tyX2 : Nat → FieldType := fun k => match k with
  | 0 => .int
  | _ => .array .char
abbrev wsX20 : List Cond := u_ws RX2 TX2 2
theorem nmX2 : ∀ a, a < 2 → ∀ b, b < 2 → a ≠ b → (TX2 a).2.1 ≠ (TX2 b).2.1 := by decide +kernel
theorem tyX2_ok : ∀ k, k < 2 → parseFieldDescriptor (TX2 k).2.2.1 = some (tyX2 k) := by decide +kernel
abbrev cX2_init : ByteArray := prog_4_method_1_code
def yX2_init : MethodName := ⟨RX2, "<init>", "()V"⟩
abbrev cX2_append : ByteArray := prog_4_method_2_code
def yX2_append : MethodName := ⟨RX2, "append", "(C)V"⟩
abbrev cX2_clear : ByteArray := prog_4_method_3_code
def yX2_clear : MethodName := ⟨RX2, "clear", "()V"⟩
abbrev cX2_firstError : ByteArray := prog_4_method_4_code
def yX2_firstError : MethodName := ⟨RX2, "firstError", "()I"⟩
abbrev cX2_mayStandAt : ByteArray := prog_4_method_5_code
def yX2_mayStandAt : MethodName := ⟨RX2, "mayStandAt", "(I)Z"⟩
abbrev cX2_drawInto : ByteArray := prog_4_method_6_code
def yX2_drawInto : MethodName := ⟨RX2, "drawInto", "(LKnotColours$Diagram;)V"⟩
abbrev cX2_arcAt : ByteArray := prog_4_method_7_code
def yX2_arcAt : MethodName := ⟨RX2, "arcAt", "(I)I"⟩
def RX3 : String := "KnotColours$History"
def TX3 : u_T := fun k => match k with
  | 0 => ("KnotColours$History", "saved", "I", false)
  | 1 => ("KnotColours$History", "next", "I", false)
  | 2 => ("KnotColours$History", "tables", "[LKnotColours$Table;", true)
  | _ => ("KnotColours$History", "diagrams", "[LKnotColours$Diagram;", true)
def tyX3 : Nat → FieldType := fun k => match k with
  | 0 => .int
  | 1 => .int
  | 2 => .array (.object "KnotColours$Table")
  | _ => .array (.object "KnotColours$Diagram")
abbrev wsX30 : List Cond := u_ws RX3 TX3 4
theorem nmX3 : ∀ a, a < 4 → ∀ b, b < 4 → a ≠ b → (TX3 a).2.1 ≠ (TX3 b).2.1 := by decide +kernel
theorem tyX3_ok : ∀ k, k < 4 → parseFieldDescriptor (TX3 k).2.2.1 = some (tyX3 k) := by decide +kernel
abbrev cX3_init : ByteArray := prog_5_method_1_code
def yX3_init : MethodName := ⟨RX3, "<init>", "()V"⟩
abbrev cX3_save : ByteArray := prog_5_method_2_code
def yX3_save : MethodName := ⟨RX3, "save", "(LKnotColours$Table;LKnotColours$Diagram;)V"⟩
abbrev cX3_restore : ByteArray := prog_5_method_3_code
def yX3_restore : MethodName := ⟨RX3, "restore", "(LKnotColours$Table;LKnotColours$Diagram;)V"⟩
def RX4 : String := "KnotColours$Permutations"
def TX4 : u_T := fun k => match k with
  | 0 => ("KnotColours$Permutations", "image", "[I", true)
  | 1 => ("KnotColours$Permutations", "composed", "[I", true)
  | 2 => ("KnotColours$Permutations", "queue", "[I", true)
  | _ => ("KnotColours$Permutations", "seen", "[Z", true)
def tyX4 : Nat → FieldType := fun k => match k with
  | 0 => .array .int
  | 1 => .array .int
  | 2 => .array .int
  | _ => .array .boolean
abbrev wsX40 : List Cond := u_ws RX4 TX4 4
theorem nmX4 : ∀ a, a < 4 → ∀ b, b < 4 → a ≠ b → (TX4 a).2.1 ≠ (TX4 b).2.1 := by decide +kernel
theorem tyX4_ok : ∀ k, k < 4 → parseFieldDescriptor (TX4 k).2.2.1 = some (tyX4 k) := by decide +kernel
abbrev cX4_init : ByteArray := prog_6_method_1_code
def yX4_init : MethodName := ⟨RX4, "<init>", "()V"⟩
abbrev cX4_countCompositions : ByteArray := prog_6_method_2_code
def yX4_countCompositions : MethodName := ⟨RX4, "countCompositions", "(LKnotColours$Table;)I"⟩
abbrev cX4_startAtIdentity : ByteArray := prog_6_method_3_code
def yX4_startAtIdentity : MethodName := ⟨RX4, "startAtIdentity", "()V"⟩
abbrev cX4_rankBehind : ByteArray := prog_6_method_4_code
def yX4_rankBehind : MethodName := ⟨RX4, "rankBehind", "(LKnotColours$Table;I)I"⟩
abbrev cX4_unrank : ByteArray := prog_6_method_5_code
def yX4_unrank : MethodName := ⟨RX4, "unrank", "(II)V"⟩
abbrev cX4_countAutomorphisms : ByteArray := prog_6_method_6_code
def yX4_countAutomorphisms : MethodName := ⟨RX4, "countAutomorphisms", "(LKnotColours$Table;)I"⟩
abbrev cX4_keepsProducts : ByteArray := prog_6_method_7_code
def yX4_keepsProducts : MethodName := ⟨RX4, "keepsProducts", "(LKnotColours$Table;)Z"⟩
def RX5 : String := "KnotColours$Table"
def TX5 : u_T := fun k => match k with
  | 0 => ("KnotColours$Table", "count", "I", false)
  | _ => ("KnotColours$Table", "products", "[I", true)
def tyX5 : Nat → FieldType := fun k => match k with
  | 0 => .int
  | _ => .array .int
abbrev wsX50 : List Cond := u_ws RX5 TX5 2
theorem nmX5 : ∀ a, a < 2 → ∀ b, b < 2 → a ≠ b → (TX5 a).2.1 ≠ (TX5 b).2.1 := by decide +kernel
theorem tyX5_ok : ∀ k, k < 2 → parseFieldDescriptor (TX5 k).2.2.1 = some (tyX5 k) := by decide +kernel
abbrev cX5_init : ByteArray := prog_7_method_1_code
def yX5_init : MethodName := ⟨RX5, "<init>", "()V"⟩
abbrev cX5_has : ByteArray := prog_7_method_2_code
def yX5_has : MethodName := ⟨RX5, "has", "(I)Z"⟩
abbrev cX5_times : ByteArray := prog_7_method_3_code
def yX5_times : MethodName := ⟨RX5, "times", "(II)I"⟩
abbrev cX5_put : ByteArray := prog_7_method_4_code
def yX5_put : MethodName := ⟨RX5, "put", "(III)V"⟩
abbrev cX5_copyFrom : ByteArray := prog_7_method_5_code
def yX5_copyFrom : MethodName := ⟨RX5, "copyFrom", "(LKnotColours$Table;)V"⟩
abbrev cX5_fillLinear : ByteArray := prog_7_method_6_code
def yX5_fillLinear : MethodName := ⟨RX5, "fillLinear", "(II)V"⟩
abbrev cX5_fillTranspositions : ByteArray := prog_7_method_7_code
def yX5_fillTranspositions : MethodName := ⟨RX5, "fillTranspositions", "(I)V"⟩
abbrev cX5_fillTranslation : ByteArray := prog_7_method_8_code
def yX5_fillTranslation : MethodName := ⟨RX5, "fillTranslation", "(III)V"⟩
abbrev cX5_pairNumber : ByteArray := prog_7_method_9_code
def yX5_pairNumber : MethodName := ⟨RX5, "pairNumber", "(III)I"⟩
abbrev cX5_swapped : ByteArray := prog_7_method_10_code
def yX5_swapped : MethodName := ⟨RX5, "swapped", "(III)I"⟩
abbrev cX5_fillInverse : ByteArray := prog_7_method_11_code
def yX5_fillInverse : MethodName := ⟨RX5, "fillInverse", "(LKnotColours$Table;)I"⟩
abbrev cX5_lowestFactor : ByteArray := prog_7_method_12_code
def yX5_lowestFactor : MethodName := ⟨RX5, "lowestFactor", "(II)I"⟩
abbrev cX5_firstNotIdempotent : ByteArray := prog_7_method_13_code
def yX5_firstNotIdempotent : MethodName := ⟨RX5, "firstNotIdempotent", "()I"⟩
abbrev cX5_firstNoPermutation : ByteArray := prog_7_method_14_code
def yX5_firstNoPermutation : MethodName := ⟨RX5, "firstNoPermutation", "()I"⟩
abbrev cX5_isPermutation : ByteArray := prog_7_method_15_code
def yX5_isPermutation : MethodName := ⟨RX5, "isPermutation", "(I)Z"⟩
abbrev cX5_firstNotDistributive : ByteArray := prog_7_method_16_code
def yX5_firstNotDistributive : MethodName := ⟨RX5, "firstNotDistributive", "()I"⟩
abbrev cX5_allElements : ByteArray := prog_7_method_17_code
def yX5_allElements : MethodName := ⟨RX5, "allElements", "()I"⟩
abbrev cX5_reachedFrom : ByteArray := prog_7_method_18_code
def yX5_reachedFrom : MethodName := ⟨RX5, "reachedFrom", "(I)I"⟩
abbrev cX5_countComponents : ByteArray := prog_7_method_19_code
def yX5_countComponents : MethodName := ⟨RX5, "countComponents", "()I"⟩
abbrev cX5_componentOf : ByteArray := prog_7_method_20_code
def yX5_componentOf : MethodName := ⟨RX5, "componentOf", "(I)I"⟩
abbrev cX5_closureOf : ByteArray := prog_7_method_21_code
def yX5_closureOf : MethodName := ⟨RX5, "closureOf", "(I)I"⟩
abbrev cX5_leastGenerators : ByteArray := prog_7_method_22_code
def yX5_leastGenerators : MethodName := ⟨RX5, "leastGenerators", "()I"⟩
abbrev cX5_orderOfTranslation : ByteArray := prog_7_method_23_code
def yX5_orderOfTranslation : MethodName := ⟨RX5, "orderOfTranslation", "(I)I"⟩
abbrev cX5_isIdentityAfter : ByteArray := prog_7_method_24_code
def yX5_isIdentityAfter : MethodName := ⟨RX5, "isIdentityAfter", "(II)Z"⟩
abbrev cX5_countTranslations : ByteArray := prog_7_method_25_code
def yX5_countTranslations : MethodName := ⟨RX5, "countTranslations", "()I"⟩
abbrev cX5_isNewTranslation : ByteArray := prog_7_method_26_code
def yX5_isNewTranslation : MethodName := ⟨RX5, "isNewTranslation", "(I)Z"⟩
abbrev cX5_sameTranslation : ByteArray := prog_7_method_27_code
def yX5_sameTranslation : MethodName := ⟨RX5, "sameTranslation", "(II)Z"⟩
def RX6 : String := "KnotColours"
def TX6 : u_T := fun k => match k with
  | 0 => ("KnotColours", "table", "LKnotColours$Table;", true)
  | 1 => ("KnotColours", "spare", "LKnotColours$Table;", true)
  | 2 => ("KnotColours", "permutations", "LKnotColours$Permutations;", true)
  | 3 => ("KnotColours", "diagram", "LKnotColours$Diagram;", true)
  | 4 => ("KnotColours", "walk", "LKnotColours$ColouringWalk;", true)
  | 5 => ("KnotColours", "text", "LKnotColours$DiagramText;", true)
  | _ => ("KnotColours", "history", "LKnotColours$History;", true)
def tyX6 : Nat → FieldType := fun k => match k with
  | 0 => .object "KnotColours$Table"
  | 1 => .object "KnotColours$Table"
  | 2 => .object "KnotColours$Permutations"
  | 3 => .object "KnotColours$Diagram"
  | 4 => .object "KnotColours$ColouringWalk"
  | 5 => .object "KnotColours$DiagramText"
  | _ => .object "KnotColours$History"
abbrev wsX60 : List Cond := u_ws RX6 TX6 7
theorem nmX6 : ∀ a, a < 7 → ∀ b, b < 7 → a ≠ b → (TX6 a).2.1 ≠ (TX6 b).2.1 := by decide +kernel
theorem tyX6_ok : ∀ k, k < 7 → parseFieldDescriptor (TX6 k).2.2.1 = some (tyX6 k) := by decide +kernel
abbrev cX6_init : ByteArray := prog_1_method_1_code
def yX6_init : MethodName := ⟨RX6, "<init>", "()V"⟩
abbrev cX6_trivial : ByteArray := prog_1_method_2_code
def yX6_trivial : MethodName := ⟨RX6, "trivial", "(I)I"⟩
abbrev cX6_dihedral : ByteArray := prog_1_method_3_code
def yX6_dihedral : MethodName := ⟨RX6, "dihedral", "(I)I"⟩
abbrev cX6_linear : ByteArray := prog_1_method_4_code
def yX6_linear : MethodName := ⟨RX6, "linear", "(II)I"⟩
abbrev cX6_transpositions : ByteArray := prog_1_method_5_code
def yX6_transpositions : MethodName := ⟨RX6, "transpositions", "(I)I"⟩
abbrev cX6_setProduct : ByteArray := prog_1_method_6_code
def yX6_setProduct : MethodName := ⟨RX6, "setProduct", "(III)I"⟩
abbrev cX6_invert : ByteArray := prog_1_method_7_code
def yX6_invert : MethodName := ⟨RX6, "invert", "()I"⟩
abbrev cX6_size : ByteArray := prog_1_method_8_code
def yX6_size : MethodName := ⟨RX6, "size", "()I"⟩
abbrev cX6_product : ByteArray := prog_1_method_9_code
def yX6_product : MethodName := ⟨RX6, "product", "(II)I"⟩
abbrev cX6_quotient : ByteArray := prog_1_method_10_code
def yX6_quotient : MethodName := ⟨RX6, "quotient", "(II)I"⟩
abbrev cX6_violation : ByteArray := prog_1_method_11_code
def yX6_violation : MethodName := ⟨RX6, "violation", "(I)I"⟩
abbrev cX6_reach : ByteArray := prog_1_method_12_code
def yX6_reach : MethodName := ⟨RX6, "reach", "(I)I"⟩
abbrev cX6_tableComponents : ByteArray := prog_1_method_13_code
def yX6_tableComponents : MethodName := ⟨RX6, "tableComponents", "()I"⟩
abbrev cX6_closure : ByteArray := prog_1_method_14_code
def yX6_closure : MethodName := ⟨RX6, "closure", "(I)I"⟩
abbrev cX6_generators : ByteArray := prog_1_method_15_code
def yX6_generators : MethodName := ⟨RX6, "generators", "()I"⟩
abbrev cX6_translationOrder : ByteArray := prog_1_method_16_code
def yX6_translationOrder : MethodName := ⟨RX6, "translationOrder", "(I)I"⟩
abbrev cX6_translations : ByteArray := prog_1_method_17_code
def yX6_translations : MethodName := ⟨RX6, "translations", "()I"⟩
abbrev cX6_innerGroup : ByteArray := prog_1_method_18_code
def yX6_innerGroup : MethodName := ⟨RX6, "innerGroup", "()I"⟩
abbrev cX6_automorphisms : ByteArray := prog_1_method_19_code
def yX6_automorphisms : MethodName := ⟨RX6, "automorphisms", "()I"⟩
abbrev cX6_newDiagram : ByteArray := prog_1_method_20_code
def yX6_newDiagram : MethodName := ⟨RX6, "newDiagram", "(I)I"⟩
abbrev cX6_standard : ByteArray := prog_1_method_21_code
def yX6_standard : MethodName := ⟨RX6, "standard", "(I)I"⟩
abbrev cX6_addCrossing : ByteArray := prog_1_method_22_code
def yX6_addCrossing : MethodName := ⟨RX6, "addCrossing", "(IIII)I"⟩
abbrev cX6_removeCrossing : ByteArray := prog_1_method_23_code
def yX6_removeCrossing : MethodName := ⟨RX6, "removeCrossing", "(I)I"⟩
abbrev cX6_kink : ByteArray := prog_1_method_24_code
def yX6_kink : MethodName := ⟨RX6, "kink", "(II)I"⟩
abbrev cX6_poke : ByteArray := prog_1_method_25_code
def yX6_poke : MethodName := ⟨RX6, "poke", "(II)I"⟩
abbrev cX6_arcs : ByteArray := prog_1_method_26_code
def yX6_arcs : MethodName := ⟨RX6, "arcs", "()I"⟩
abbrev cX6_crossings : ByteArray := prog_1_method_27_code
def yX6_crossings : MethodName := ⟨RX6, "crossings", "()I"⟩
abbrev cX6_crossing : ByteArray := prog_1_method_28_code
def yX6_crossing : MethodName := ⟨RX6, "crossing", "(II)I"⟩
abbrev cX6_components : ByteArray := prog_1_method_29_code
def yX6_components : MethodName := ⟨RX6, "components", "()I"⟩
abbrev cX6_writhe : ByteArray := prog_1_method_30_code
def yX6_writhe : MethodName := ⟨RX6, "writhe", "()I"⟩
abbrev cX6_linking : ByteArray := prog_1_method_31_code
def yX6_linking : MethodName := ⟨RX6, "linking", "(II)I"⟩
abbrev cX6_colourings : ByteArray := prog_1_method_32_code
def yX6_colourings : MethodName := ⟨RX6, "colourings", "()I"⟩
abbrev cX6_colouringsWith : ByteArray := prog_1_method_33_code
def yX6_colouringsWith : MethodName := ⟨RX6, "colouringsWith", "(II)I"⟩
abbrev cX6_colouringsAlike : ByteArray := prog_1_method_34_code
def yX6_colouringsAlike : MethodName := ⟨RX6, "colouringsAlike", "(II)I"⟩
abbrev cX6_colouringsUsing : ByteArray := prog_1_method_35_code
def yX6_colouringsUsing : MethodName := ⟨RX6, "colouringsUsing", "(I)I"⟩
abbrev cX6_colour : ByteArray := prog_1_method_36_code
def yX6_colour : MethodName := ⟨RX6, "colour", "(II)I"⟩
abbrev cX6_type : ByteArray := prog_1_method_37_code
def yX6_type : MethodName := ⟨RX6, "type", "(I)I"⟩
abbrev cX6_clearText : ByteArray := prog_1_method_38_code
def yX6_clearText : MethodName := ⟨RX6, "clearText", "()I"⟩
abbrev cX6_syntaxError : ByteArray := prog_1_method_39_code
def yX6_syntaxError : MethodName := ⟨RX6, "syntaxError", "()I"⟩
abbrev cX6_read : ByteArray := prog_1_method_40_code
def yX6_read : MethodName := ⟨RX6, "read", "()I"⟩
abbrev cX6_undo : ByteArray := prog_1_method_41_code
def yX6_undo : MethodName := ⟨RX6, "undo", "()I"⟩
abbrev cX6_digest : ByteArray := prog_1_method_42_code
def yX6_digest : MethodName := ⟨RX6, "digest", "()J"⟩
abbrev cX6_isSize : ByteArray := prog_1_method_43_code
def yX6_isSize : MethodName := ⟨RX6, "isSize", "(I)Z"⟩
abbrev cX6_makeLinear : ByteArray := prog_1_method_44_code
def yX6_makeLinear : MethodName := ⟨RX6, "makeLinear", "(II)I"⟩
abbrev cX6_saveState : ByteArray := prog_1_method_45_code
def yX6_saveState : MethodName := ⟨RX6, "saveState", "()V"⟩
abbrev cX6_hashTable : ByteArray := prog_1_method_46_code
def yX6_hashTable : MethodName := ⟨RX6, "hashTable", "(J)J"⟩
abbrev cX6_hashDiagram : ByteArray := prog_1_method_47_code
def yX6_hashDiagram : MethodName := ⟨RX6, "hashDiagram", "(J)J"⟩
abbrev cX6_hashColourings : ByteArray := prog_1_method_48_code
def yX6_hashColourings : MethodName := ⟨RX6, "hashColourings", "(J)J"⟩
abbrev cX6_mix : ByteArray := prog_1_method_49_code
def yX6_mix : MethodName := ⟨RX6, "mix", "(JI)J"⟩
def RX7 : String := "KnotColoursModel"
def TX7 : u_T := fun k => match k with
  | 0 => ("KnotColoursModel", "state", "[I", true)
  | 1 => ("KnotColoursModel", "history", "[I", true)
  | 2 => ("KnotColoursModel", "recorded", "I", false)
  | 3 => ("KnotColoursModel", "text", "[I", true)
  | 4 => ("KnotColoursModel", "textLength", "I", false)
  | 5 => ("KnotColoursModel", "found", "[I", true)
  | 6 => ("KnotColoursModel", "foundMany", "I", false)
  | 7 => ("KnotColoursModel", "image", "[I", true)
  | 8 => ("KnotColoursModel", "part", "[I", true)
  | 9 => ("KnotColoursModel", "colours", "[I", true)
  | 10 => ("KnotColoursModel", "at", "I", false)
  | 11 => ("KnotColoursModel", "crossingsRead", "I", false)
  | 12 => ("KnotColoursModel", "overRead", "I", false)
  | 13 => ("KnotColoursModel", "inRead", "I", false)
  | 14 => ("KnotColoursModel", "outRead", "I", false)
  | _ => ("KnotColoursModel", "signRead", "I", false)
def tyX7 : Nat → FieldType := fun k => match k with
  | 0 => .array .int
  | 1 => .array .int
  | 2 => .int
  | 3 => .array .int
  | 4 => .int
  | 5 => .array .int
  | 6 => .int
  | 7 => .array .int
  | 8 => .array .int
  | 9 => .array .int
  | 10 => .int
  | 11 => .int
  | 12 => .int
  | 13 => .int
  | 14 => .int
  | _ => .int
abbrev wsX70 : List Cond := u_ws RX7 TX7 16
theorem nmX7 : ∀ a, a < 16 → ∀ b, b < 16 → a ≠ b → (TX7 a).2.1 ≠ (TX7 b).2.1 := by decide +kernel
theorem tyX7_ok : ∀ k, k < 16 → parseFieldDescriptor (TX7 k).2.2.1 = some (tyX7 k) := by decide +kernel
abbrev cX7_init : ByteArray := prog_9_method_1_code
def yX7_init : MethodName := ⟨RX7, "<init>", "()V"⟩
abbrev cX7_within : ByteArray := prog_9_method_3_code
def yX7_within : MethodName := ⟨RX7, "within", "(III)Z"⟩
abbrev cX7_bits : ByteArray := prog_9_method_4_code
def yX7_bits : MethodName := ⟨RX7, "bits", "(I)I"⟩
abbrev cX7_record : ByteArray := prog_9_method_5_code
def yX7_record : MethodName := ⟨RX7, "record", "()V"⟩
abbrev cX7_isElement : ByteArray := prog_9_method_6_code
def yX7_isElement : MethodName := ⟨RX7, "isElement", "(I)Z"⟩
abbrev cX7_times : ByteArray := prog_9_method_7_code
def yX7_times : MethodName := ⟨RX7, "times", "(II)I"⟩
abbrev cX7_setTimes : ByteArray := prog_9_method_8_code
def yX7_setTimes : MethodName := ⟨RX7, "setTimes", "(III)V"⟩
abbrev cX7_makes : ByteArray := prog_9_method_9_code
def yX7_makes : MethodName := ⟨RX7, "makes", "(III)I"⟩
abbrev cX7_makesTrivial : ByteArray := prog_9_method_10_code
def yX7_makesTrivial : MethodName := ⟨RX7, "makesTrivial", "(I)I"⟩
abbrev cX7_trivial : ByteArray := prog_9_method_11_code
def yX7_trivial : MethodName := ⟨RX7, "trivial", "(I)I"⟩
abbrev cX7_dihedral : ByteArray := prog_9_method_12_code
def yX7_dihedral : MethodName := ⟨RX7, "dihedral", "(I)I"⟩
abbrev cX7_linear : ByteArray := prog_9_method_13_code
def yX7_linear : MethodName := ⟨RX7, "linear", "(II)I"⟩
abbrev cX7_pairOf : ByteArray := prog_9_method_14_code
def yX7_pairOf : MethodName := ⟨RX7, "pairOf", "(III)I"⟩
abbrev cX7_replaced : ByteArray := prog_9_method_15_code
def yX7_replaced : MethodName := ⟨RX7, "replaced", "(III)I"⟩
abbrev cX7_laysPair : ByteArray := prog_9_method_16_code
def yX7_laysPair : MethodName := ⟨RX7, "laysPair", "(III)V"⟩
abbrev cX7_transpositions : ByteArray := prog_9_method_17_code
def yX7_transpositions : MethodName := ⟨RX7, "transpositions", "(I)I"⟩
abbrev cX7_setProduct : ByteArray := prog_9_method_18_code
def yX7_setProduct : MethodName := ⟨RX7, "setProduct", "(III)I"⟩
abbrev cX7_dividedBy : ByteArray := prog_9_method_19_code
def yX7_dividedBy : MethodName := ⟨RX7, "dividedBy", "(II)I"⟩
abbrev cX7_isPermutation : ByteArray := prog_9_method_20_code
def yX7_isPermutation : MethodName := ⟨RX7, "isPermutation", "(I)Z"⟩
abbrev cX7_violatesFirst : ByteArray := prog_9_method_21_code
def yX7_violatesFirst : MethodName := ⟨RX7, "violatesFirst", "()I"⟩
abbrev cX7_violatesSecond : ByteArray := prog_9_method_22_code
def yX7_violatesSecond : MethodName := ⟨RX7, "violatesSecond", "()I"⟩
abbrev cX7_violatesThird : ByteArray := prog_9_method_23_code
def yX7_violatesThird : MethodName := ⟨RX7, "violatesThird", "()I"⟩
abbrev cX7_violates : ByteArray := prog_9_method_24_code
def yX7_violates : MethodName := ⟨RX7, "violates", "(I)I"⟩
abbrev cX7_invert : ByteArray := prog_9_method_25_code
def yX7_invert : MethodName := ⟨RX7, "invert", "()I"⟩
abbrev cX7_size : ByteArray := prog_9_method_26_code
def yX7_size : MethodName := ⟨RX7, "size", "()I"⟩
abbrev cX7_product : ByteArray := prog_9_method_27_code
def yX7_product : MethodName := ⟨RX7, "product", "(II)I"⟩
abbrev cX7_quotient : ByteArray := prog_9_method_28_code
def yX7_quotient : MethodName := ⟨RX7, "quotient", "(II)I"⟩
abbrev cX7_violation : ByteArray := prog_9_method_29_code
def yX7_violation : MethodName := ⟨RX7, "violation", "(I)I"⟩
abbrev cX7_reach : ByteArray := prog_9_method_30_code
def yX7_reach : MethodName := ⟨RX7, "reach", "(I)I"⟩
abbrev cX7_joins : ByteArray := prog_9_method_31_code
def yX7_joins : MethodName := ⟨RX7, "joins", "(III)V"⟩
abbrev cX7_aloneAll : ByteArray := prog_9_method_32_code
def yX7_aloneAll : MethodName := ⟨RX7, "aloneAll", "(I)V"⟩
abbrev cX7_partsMany : ByteArray := prog_9_method_33_code
def yX7_partsMany : MethodName := ⟨RX7, "partsMany", "(I)I"⟩
abbrev cX7_componentsOfTable : ByteArray := prog_9_method_34_code
def yX7_componentsOfTable : MethodName := ⟨RX7, "componentsOfTable", "()I"⟩
abbrev cX7_tableComponents : ByteArray := prog_9_method_35_code
def yX7_tableComponents : MethodName := ⟨RX7, "tableComponents", "()I"⟩
abbrev cX7_closureOf : ByteArray := prog_9_method_36_code
def yX7_closureOf : MethodName := ⟨RX7, "closureOf", "(I)I"⟩
abbrev cX7_closure : ByteArray := prog_9_method_37_code
def yX7_closure : MethodName := ⟨RX7, "closure", "(I)I"⟩
abbrev cX7_fewestGenerators : ByteArray := prog_9_method_38_code
def yX7_fewestGenerators : MethodName := ⟨RX7, "fewestGenerators", "()I"⟩
abbrev cX7_generators : ByteArray := prog_9_method_39_code
def yX7_generators : MethodName := ⟨RX7, "generators", "()I"⟩
abbrev cX7_translationOrder : ByteArray := prog_9_method_40_code
def yX7_translationOrder : MethodName := ⟨RX7, "translationOrder", "(I)I"⟩
abbrev cX7_differentTranslations : ByteArray := prog_9_method_41_code
def yX7_differentTranslations : MethodName := ⟨RX7, "differentTranslations", "()I"⟩
abbrev cX7_translations : ByteArray := prog_9_method_42_code
def yX7_translations : MethodName := ⟨RX7, "translations", "()I"⟩
abbrev cX7_unpacks : ByteArray := prog_9_method_43_code
def yX7_unpacks : MethodName := ⟨RX7, "unpacks", "(I)V"⟩
abbrev cX7_packed : ByteArray := prog_9_method_44_code
def yX7_packed : MethodName := ⟨RX7, "packed", "(I)I"⟩
abbrev cX7_keepsFound : ByteArray := prog_9_method_45_code
def yX7_keepsFound : MethodName := ⟨RX7, "keepsFound", "(I)V"⟩
abbrev cX7_groupSize : ByteArray := prog_9_method_46_code
def yX7_groupSize : MethodName := ⟨RX7, "groupSize", "()I"⟩
abbrev cX7_innerGroup : ByteArray := prog_9_method_47_code
def yX7_innerGroup : MethodName := ⟨RX7, "innerGroup", "()I"⟩
abbrev cX7_isAutomorphism : ByteArray := prog_9_method_48_code
def yX7_isAutomorphism : MethodName := ⟨RX7, "isAutomorphism", "()Z"⟩
abbrev cX7_automorphismsMany : ByteArray := prog_9_method_49_code
def yX7_automorphismsMany : MethodName := ⟨RX7, "automorphismsMany", "()I"⟩
abbrev cX7_automorphisms : ByteArray := prog_9_method_50_code
def yX7_automorphisms : MethodName := ⟨RX7, "automorphisms", "()I"⟩
abbrev cX7_isArc : ByteArray := prog_9_method_51_code
def yX7_isArc : MethodName := ⟨RX7, "isArc", "(I)Z"⟩
abbrev cX7_isCrossing : ByteArray := prog_9_method_52_code
def yX7_isCrossing : MethodName := ⟨RX7, "isCrossing", "(I)Z"⟩
abbrev cX7_crossingPart : ByteArray := prog_9_method_53_code
def yX7_crossingPart : MethodName := ⟨RX7, "crossingPart", "(II)I"⟩
abbrev cX7_adds : ByteArray := prog_9_method_54_code
def yX7_adds : MethodName := ⟨RX7, "adds", "(IIII)V"⟩
abbrev cX7_clears : ByteArray := prog_9_method_55_code
def yX7_clears : MethodName := ⟨RX7, "clears", "(I)V"⟩
abbrev cX7_newDiagram : ByteArray := prog_9_method_56_code
def yX7_newDiagram : MethodName := ⟨RX7, "newDiagram", "(I)I"⟩
abbrev cX7_standard : ByteArray := prog_9_method_57_code
def yX7_standard : MethodName := ⟨RX7, "standard", "(I)I"⟩
abbrev cX7_isSign : ByteArray := prog_9_method_58_code
def yX7_isSign : MethodName := ⟨RX7, "isSign", "(I)Z"⟩
abbrev cX7_addCrossing : ByteArray := prog_9_method_59_code
def yX7_addCrossing : MethodName := ⟨RX7, "addCrossing", "(IIII)I"⟩
abbrev cX7_removeCrossing : ByteArray := prog_9_method_60_code
def yX7_removeCrossing : MethodName := ⟨RX7, "removeCrossing", "(I)I"⟩
abbrev cX7_moves : ByteArray := prog_9_method_61_code
def yX7_moves : MethodName := ⟨RX7, "moves", "(II)V"⟩
abbrev cX7_kink : ByteArray := prog_9_method_62_code
def yX7_kink : MethodName := ⟨RX7, "kink", "(II)I"⟩
abbrev cX7_poke : ByteArray := prog_9_method_63_code
def yX7_poke : MethodName := ⟨RX7, "poke", "(II)I"⟩
abbrev cX7_arcs : ByteArray := prog_9_method_64_code
def yX7_arcs : MethodName := ⟨RX7, "arcs", "()I"⟩
abbrev cX7_crossings : ByteArray := prog_9_method_65_code
def yX7_crossings : MethodName := ⟨RX7, "crossings", "()I"⟩
abbrev cX7_crossing : ByteArray := prog_9_method_66_code
def yX7_crossing : MethodName := ⟨RX7, "crossing", "(II)I"⟩
abbrev cX7_isClosed : ByteArray := prog_9_method_67_code
def yX7_isClosed : MethodName := ⟨RX7, "isClosed", "()Z"⟩
abbrev cX7_findParts : ByteArray := prog_9_method_68_code
def yX7_findParts : MethodName := ⟨RX7, "findParts", "()V"⟩
abbrev cX7_componentsNow : ByteArray := prog_9_method_69_code
def yX7_componentsNow : MethodName := ⟨RX7, "componentsNow", "()I"⟩
abbrev cX7_components : ByteArray := prog_9_method_70_code
def yX7_components : MethodName := ⟨RX7, "components", "()I"⟩
abbrev cX7_writheNow : ByteArray := prog_9_method_71_code
def yX7_writheNow : MethodName := ⟨RX7, "writheNow", "()I"⟩
abbrev cX7_writhe : ByteArray := prog_9_method_72_code
def yX7_writhe : MethodName := ⟨RX7, "writhe", "()I"⟩
abbrev cX7_linking : ByteArray := prog_9_method_73_code
def yX7_linking : MethodName := ⟨RX7, "linking", "(II)I"⟩
abbrev cX7_isColouring : ByteArray := prog_9_method_74_code
def yX7_isColouring : MethodName := ⟨RX7, "isColouring", "()Z"⟩
abbrev cX7_usedColours : ByteArray := prog_9_method_75_code
def yX7_usedColours : MethodName := ⟨RX7, "usedColours", "()I"⟩
abbrev cX7_beginsColours : ByteArray := prog_9_method_76_code
def yX7_beginsColours : MethodName := ⟨RX7, "beginsColours", "()V"⟩
abbrev cX7_goesOnColours : ByteArray := prog_9_method_77_code
def yX7_goesOnColours : MethodName := ⟨RX7, "goesOnColours", "()Z"⟩
abbrev cX7_counts : ByteArray := prog_9_method_78_code
def yX7_counts : MethodName := ⟨RX7, "counts", "(III)I"⟩
abbrev cX7_colourings : ByteArray := prog_9_method_79_code
def yX7_colourings : MethodName := ⟨RX7, "colourings", "()I"⟩
abbrev cX7_colouringsWith : ByteArray := prog_9_method_80_code
def yX7_colouringsWith : MethodName := ⟨RX7, "colouringsWith", "(II)I"⟩
abbrev cX7_colouringsAlike : ByteArray := prog_9_method_81_code
def yX7_colouringsAlike : MethodName := ⟨RX7, "colouringsAlike", "(II)I"⟩
abbrev cX7_colouringsUsing : ByteArray := prog_9_method_82_code
def yX7_colouringsUsing : MethodName := ⟨RX7, "colouringsUsing", "(I)I"⟩
abbrev cX7_colour : ByteArray := prog_9_method_83_code
def yX7_colour : MethodName := ⟨RX7, "colour", "(II)I"⟩
abbrev cX7_type : ByteArray := prog_9_method_84_code
def yX7_type : MethodName := ⟨RX7, "type", "(I)I"⟩
abbrev cX7_clearText : ByteArray := prog_9_method_85_code
def yX7_clearText : MethodName := ⟨RX7, "clearText", "()I"⟩
abbrev cX7_character : ByteArray := prog_9_method_86_code
def yX7_character : MethodName := ⟨RX7, "character", "(I)I"⟩
abbrev cX7_isNext : ByteArray := prog_9_method_87_code
def yX7_isNext : MethodName := ⟨RX7, "isNext", "(I)Z"⟩
abbrev cX7_arcRead : ByteArray := prog_9_method_88_code
def yX7_arcRead : MethodName := ⟨RX7, "arcRead", "()I"⟩
abbrev cX7_readsCrossing : ByteArray := prog_9_method_89_code
def yX7_readsCrossing : MethodName := ⟨RX7, "readsCrossing", "()Z"⟩
abbrev cX7_findError : ByteArray := prog_9_method_90_code
def yX7_findError : MethodName := ⟨RX7, "findError", "()I"⟩
abbrev cX7_syntaxError : ByteArray := prog_9_method_91_code
def yX7_syntaxError : MethodName := ⟨RX7, "syntaxError", "()I"⟩
abbrev cX7_read : ByteArray := prog_9_method_92_code
def yX7_read : MethodName := ⟨RX7, "read", "()I"⟩
abbrev cX7_undo : ByteArray := prog_9_method_93_code
def yX7_undo : MethodName := ⟨RX7, "undo", "()I"⟩
abbrev cX7_digest : ByteArray := prog_9_method_94_code
def yX7_digest : MethodName := ⟨RX7, "digest", "()J"⟩
def RJ6 : String := "java/lang/Integer"
def TJ6 : u_T := fun k => match k with
  | _ => ("", "", "", false)
def tyJ6 : Nat → FieldType := fun k => match k with
  | _ => .int
abbrev wsJ60 : List Cond := u_ws RJ6 TJ6 0
theorem nmJ6 : ∀ a, a < 0 → ∀ b, b < 0 → a ≠ b → (TJ6 a).2.1 ≠ (TJ6 b).2.1 := by decide +kernel
theorem tyJ6_ok : ∀ k, k < 0 → parseFieldDescriptor (TJ6 k).2.2.1 = some (tyJ6 k) := by decide +kernel
abbrev cJ6_bitCount_0f7a4 : ByteArray := prog_10_method_49_code
def yJ6_bitCount_0f7a4 : MethodName := ⟨RJ6, "bitCount", "(I)I"⟩
def RJ9 : String := "java/lang/Math"
def TJ9 : u_T := fun k => match k with
  | _ => ("", "", "", false)
def tyJ9 : Nat → FieldType := fun k => match k with
  | _ => .int
abbrev wsJ90 : List Cond := u_ws RJ9 TJ9 0
theorem nmJ9 : ∀ a, a < 0 → ∀ b, b < 0 → a ≠ b → (TJ9 a).2.1 ≠ (TJ9 b).2.1 := by decide +kernel
theorem tyJ9_ok : ∀ k, k < 0 → parseFieldDescriptor (TJ9 k).2.2.1 = some (tyJ9 k) := by decide +kernel
abbrev cJ9_floorMod_7cf53 : ByteArray := prog_11_method_50_code
def yJ9_floorMod_7cf53 : MethodName := ⟨RJ9, "floorMod", "(II)I"⟩
abbrev cJ9_max_7cf53 : ByteArray := prog_11_method_65_code
def yJ9_max_7cf53 : MethodName := ⟨RJ9, "max", "(II)I"⟩
abbrev cJ9_min_7cf53 : ByteArray := prog_11_method_69_code
def yJ9_min_7cf53 : MethodName := ⟨RJ9, "min", "(II)I"⟩
def RJ10 : String := "java/lang/System"
def TJ10 : u_T := fun k => match k with
  | _ => ("", "", "", false)
def tyJ10 : Nat → FieldType := fun k => match k with
  | _ => .int
abbrev wsJ100 : List Cond := u_ws RJ10 TJ10 0
theorem nmJ10 : ∀ a, a < 0 → ∀ b, b < 0 → a ≠ b → (TJ10 a).2.1 ≠ (TJ10 b).2.1 := by decide +kernel
theorem tyJ10_ok : ∀ k, k < 0 → parseFieldDescriptor (TJ10 k).2.2.1 = some (tyJ10 k) := by decide +kernel
def RL : String := "KnotColoursLaw"
abbrev cL_law : ByteArray := code
def yL_law : MethodName := ⟨RL, "law", "([I)Z"⟩
abbrev vwCl : List vw_C := [(RX0, TX0, 6), (RX1, TX1, 3), (RX2, TX2, 2), (RX3, TX3, 4), (RX4, TX4, 4), (RX5, TX5, 2), (RX6, TX6, 7), (RX7, TX7, 16)]
theorem inX0 : ∀ w ∈ wsX00, w ∈ lw_tbl := by decide +kernel
theorem inX1 : ∀ w ∈ wsX10, w ∈ lw_tbl := by decide +kernel
theorem inX2 : ∀ w ∈ wsX20, w ∈ lw_tbl := by decide +kernel
theorem inX3 : ∀ w ∈ wsX30, w ∈ lw_tbl := by decide +kernel
theorem inX4 : ∀ w ∈ wsX40, w ∈ lw_tbl := by decide +kernel
theorem inX5 : ∀ w ∈ wsX50, w ∈ lw_tbl := by decide +kernel
theorem inX6 : ∀ w ∈ wsX60, w ∈ lw_tbl := by decide +kernel
theorem inX7 : ∀ w ∈ wsX70, w ∈ lw_tbl := by decide +kernel
def lw_gw : List Cond := lw_tbl.filter goodWord
theorem gw {w : Cond} (h : w ∈ lw_tbl) (g : goodWord w = true) : w ∈ lw_gw := List.mem_filter.mpr ⟨h, g⟩
theorem gwt {w : Cond} (h : w ∈ lw_gw) : w ∈ lw_tbl := (List.mem_filter.mp h).1
theorem gwg {w : Cond} (h : w ∈ lw_gw) : goodWord w = true := (List.mem_filter.mp h).2
theorem igX0 : ∀ w ∈ wsX00, w ∈ lw_gw := fun w h => gw (inX0 w h) (List.all_eq_true.mp (by decide +kernel : wsX00.all goodWord = true) w h)
theorem igX1 : ∀ w ∈ wsX10, w ∈ lw_gw := fun w h => gw (inX1 w h) (List.all_eq_true.mp (by decide +kernel : wsX10.all goodWord = true) w h)
theorem igX2 : ∀ w ∈ wsX20, w ∈ lw_gw := fun w h => gw (inX2 w h) (List.all_eq_true.mp (by decide +kernel : wsX20.all goodWord = true) w h)
theorem igX3 : ∀ w ∈ wsX30, w ∈ lw_gw := fun w h => gw (inX3 w h) (List.all_eq_true.mp (by decide +kernel : wsX30.all goodWord = true) w h)
theorem igX4 : ∀ w ∈ wsX40, w ∈ lw_gw := fun w h => gw (inX4 w h) (List.all_eq_true.mp (by decide +kernel : wsX40.all goodWord = true) w h)
theorem igX5 : ∀ w ∈ wsX50, w ∈ lw_gw := fun w h => gw (inX5 w h) (List.all_eq_true.mp (by decide +kernel : wsX50.all goodWord = true) w h)
theorem igX6 : ∀ w ∈ wsX60, w ∈ lw_gw := fun w h => gw (inX6 w h) (List.all_eq_true.mp (by decide +kernel : wsX60.all goodWord = true) w h)
theorem igX7 : ∀ w ∈ wsX70, w ∈ lw_gw := fun w h => gw (inX7 w h) (List.all_eq_true.mp (by decide +kernel : wsX70.all goodWord = true) w h)
end
section
/-! values, memory, shapes -/
abbrev MV : Type := Int ⊕ (Int ⊕ Nat)
abbrev vI (x : Int) : MV := .inl x
abbrev vL (x : Int) : MV := .inr (.inl x)
abbrev vR (k : Nat) : MV := .inr (.inr k)
def mval (ad : Nat → Nat) : MV → Value
  | .inl x => .int (Int32.ofInt x)
  | .inr (.inl x) => .long (Int64.ofInt x)
  | .inr (.inr k) => .ref (ad k)
abbrev Mem : Type := Nat → Nat → Int
def mup (w : Mem) (c k : Nat) (v : Int) : Mem := fun c' k' => if c' = c ∧ k' = k then v else w c' k'
abbrev Shp : Type := (Nat × List (Option Nat)) ⊕ ((Nat × Nat) ⊕ (Nat × List Nat))
def fldv (ad : Nat → Nat) (r : Option Nat) (x : Int) : Value := match r with
  | none => .int (Int32.ofInt x)
  | some q => .ref (ad q)
def celE (ck : Nat → ClassId) (ad : Nat → Nat) (w : Nat → Int) : Shp → va_E
  | .inl (ci, rs) => .inr (ci, rs.mapIdx (fun k r => fldv ad r (w k)))
  | .inr (.inl (tc, n)) => .inl (ck tc, n, .inl (fun k => Int32.ofInt (w k)))
  | .inr (.inr (tc, rs)) => .inl (ck tc, rs.length, .inr (.inr (.inr (.inr (fun k => (rs[k]?).map ad)))))
def wld (ck : Nat → ClassId) (ad : Nat → Nat) (sh : List Shp) (w : Mem) : va_W := sh.mapIdx (fun c s => (ad c, celE ck ad (w c) s))
abbrev tysOf (ck : Nat → ClassId) : List (ClassId × FieldType) := [(ck 0, .int), (ck 1, .boolean), (ck 2, .char), (ck 3, .object RX5), (ck 4, .object RX1)]
def ainj (ad : Nat → Nat) (n : Nat) : Prop := ∀ i j, i < n → j < n → ad i = ad j → i = j
theorem wld_at {ck : Nat → ClassId} {ad : Nat → Nat} {sh : List Shp} {w : Mem} {q : Nat} {x : Shp} (h : sh[q]? = some x) : (wld ck ad sh w)[q]? = some (ad q, celE ck ad (w q) x) := by
  simp [wld, h]
theorem wld_D {ck : Nat → ClassId} {ad : Nat → Nat} {sh : List Shp} {w : Mem} {A : Nat → Prop} (hi : ainj ad sh.length) (hA : ∀ k, k < sh.length → A (ad k)) : va_D A (wld ck ad sh w) := by
  have key : ∀ (k : Nat) (q : Nat × va_E), (wld ck ad sh w)[k]? = some q → k < sh.length ∧ q.1 = ad k := by
    intro k q hq
    simp only [wld, List.getElem?_mapIdx, Option.map_eq_some_iff] at hq
    obtain ⟨a, h1, rfl⟩ := hq
    exact ⟨(List.getElem?_eq_some_iff.mp h1).1, rfl⟩
  refine ⟨fun i j p q hp hq he => ?_, fun k q hq => ?_⟩
  · obtain ⟨h1, h2⟩ := key i p hp
    obtain ⟨h3, h4⟩ := key j q hq
    exact hi i j h1 h3 (by rw [← h2, ← h4]; exact he)
  · obtain ⟨h1, h2⟩ := key k q hq
    rw [h2]; exact hA k h1
theorem wld_set {ck : Nat → ClassId} {ad : Nat → Nat} {sh : List Shp} {w : Mem} {q k : Nat} {v : Int} {x : Shp} {E : va_E} (h : sh[q]? = some x) (hE : E = celE ck ad (mup w q k v q) x) : (wld ck ad sh w).set q (ad q, E) = wld ck ad sh (mup w q k v) := by
  subst hE
  apply List.ext_getElem?
  intro i
  have hl := (List.getElem?_eq_some_iff.mp h).1
  by_cases hi : q = i
  · subst hi
    rw [wld_at h, List.getElem?_set_self (by simpa [wld] using hl)]
  · rw [List.getElem?_set_ne hi]
    simp only [wld, List.getElem?_mapIdx]
    have e : mup w q k v i = w i := by
      funext k'
      have : ¬ i = q := fun e => hi e.symm
      simp [mup, this]
    rw [e]
theorem mup_fn (w : Mem) (q k : Nat) (v : Int) (g : Int → Int32) : (fun j => g (mup w q k v q j)) = upd (fun j => g (w q j)) k (g v) := by
  funext j
  by_cases hj : j = k <;> simp [mup, upd, hj]
/-! numbers -/
def wr (x : Int) : Int := x.bmod 4294967296
theorem wr_of {x : Int} (h1 : -2147483648 ≤ x) (h2 : x < 2147483648) : wr x = x := by
  unfold wr; rw [Int.bmod_def]; split <;> omega
theorem wr_lo (x : Int) : -2147483648 ≤ wr x := by unfold wr; have := Int.le_bmod (x := x) (m := 4294967296) (by decide); omega
theorem wr_hi (x : Int) : wr x < 2147483648 := by unfold wr; have := Int.bmod_lt (x := x) (m := 4294967296) (by decide); omega
theorem wr_wr (x : Int) : wr (wr x) = wr x := wr_of (wr_lo x) (wr_hi x)
theorem toInt_oi (x : Int) : (Int32.ofInt x).toInt = wr x := by
  rw [Int32.toInt_ofInt]; rfl
theorem oi_wr (x : Int) : Int32.ofInt (wr x) = Int32.ofInt x := by
  rw [← Int32.toInt_inj, toInt_oi, toInt_oi, wr_wr]
theorem oi_inj {x y : Int} : Int32.ofInt x = Int32.ofInt y ↔ wr x = wr y := by
  rw [← Int32.toInt_inj, toInt_oi, toInt_oi]
theorem oi_lt {x y : Int} : Int32.ofInt x < Int32.ofInt y ↔ wr x < wr y := by
  rw [Int32.lt_iff_toInt_lt, toInt_oi, toInt_oi]
theorem oi_le {x y : Int} : Int32.ofInt x ≤ Int32.ofInt y ↔ wr x ≤ wr y := by
  rw [Int32.le_iff_toInt_le, toInt_oi, toInt_oi]
theorem oi_0 : (0 : Int32) = Int32.ofInt 0 := rfl
theorem wr_0 : wr 0 = 0 := by decide
theorem oi_nat {x : Int} {k : Nat} (h : wr x = k) : (Int32.ofInt x).toNatClampNeg = k := by
  rw [Int32.toNatClampNeg, toInt_oi, h]; simp
theorem vp_in_oi {x : Int} {k n : Nat} (h : wr x = k) (hk : k < n) : vp_in (Int32.ofInt x) n := by
  unfold vp_in
  rw [oi_nat h, oi_0, oi_lt, h, wr_0]
  omega
def shlZ (x y : Int) : Int := (Int32.ofInt x <<< (Int32.ofInt y &&& 31)).toInt
def shrZ (x y : Int) : Int := (Int32.ofInt x >>> (Int32.ofInt y &&& 31)).toInt
def ushrZ (x y : Int) : Int := ((Int32.ofInt x).toUInt32 >>> ((Int32.ofInt y).toUInt32 &&& Int32.toUInt32 31)).toInt32.toInt
def andZ (x y : Int) : Int := (Int32.ofInt x &&& Int32.ofInt y).toInt
def orZ (x y : Int) : Int := (Int32.ofInt x ||| Int32.ofInt y).toInt
def xorZ (x y : Int) : Int := (Int32.ofInt x ^^^ Int32.ofInt y).toInt
def i2cZ (x : Int) : Int := (((Int32.ofInt x).toUInt32 % 65536).toInt32).toInt
def narZ (ty : FieldType) (x : Int) : Int := (vp_nar ty (Int32.ofInt x)).toInt
theorem oi_ti (a : Int32) : Int32.ofInt a.toInt = a := Int32.ofInt_toInt a
theorem oi_div {x y : Int} : Int32.ofInt x / Int32.ofInt y = Int32.ofInt ((wr x).tdiv (wr y)) := by
  rw [← Int32.toInt_inj, Int32.toInt_div, toInt_oi, toInt_oi, toInt_oi]; rfl
theorem oi_rem {x y : Int} : Int32.ofInt x - Int32.ofInt x / Int32.ofInt y * Int32.ofInt y = Int32.ofInt ((wr x).tmod (wr y)) := by
  rw [oi_div, ← oi_wr x, ← oi_wr y, ← Int32.ofInt_mul, ← Int32.ofInt_sub]
  congr 1
  have := Int.tmod_add_mul_tdiv (wr x) (wr y)
  rw [Int.mul_comm] at this
  omega
/-! locals -/
def LR (ad : Nat → Nat) (nL : Nat) (lsR : Array Slot) (ls : List (Option MV)) : Prop := lsR.size = nL ∧ lv_wf lsR ∧ ∀ (i : Nat) (v : MV), ls[i]? = some (some v) → lsR[i]? = some (.val (mval ad v))
def encl (ad : Nat → Nat) (ls : List (Option MV)) : List (Nat × Value) := (List.range ls.length).filterMap (fun j => (ls[j]?.join).map (fun v => (j, mval ad v)))
theorem encl_mem {ad : Nat → Nat} {ls : List (Option MV)} {i : Nat} {v : MV} (h : ls[i]? = some (some v)) : (i, mval ad v) ∈ encl ad ls := by
  refine List.mem_filterMap.mpr ⟨i, List.mem_range.mpr (List.getElem?_eq_some_iff.mp h).1, ?_⟩
  rw [h]; rfl
theorem encl_of {ad : Nat → Nat} {ls : List (Option MV)} {q : Nat × Value} (h : q ∈ encl ad ls) : ∃ v, ls[q.1]? = some (some v) ∧ q.2 = mval ad v := by
  obtain ⟨j, -, hj⟩ := List.mem_filterMap.mp h
  cases hx : ls[j]? with
  | none => rw [hx] at hj; cases hj
  | some o =>
    cases o with
    | none => rw [hx] at hj; cases hj
    | some v => rw [hx] at hj; cases hj; exact ⟨v, hx, rfl⟩
theorem LR.has {ad : Nat → Nat} {nL : Nat} {lsR : Array Slot} {ls : List (Option MV)} (h : LR ad nL lsR ls) : lv_has lsR nL (encl ad ls) := ⟨h.1, h.2.1, fun q hq => by
  obtain ⟨v, h1, h2⟩ := encl_of hq
  rw [h2]; exact h.2.2 _ _ h1⟩
def okst (ls : List (Option MV)) (i : Nat) : Bool := match i with
  | 0 => true
  | j + 1 => match ls[j]? with
    | some (some (.inr (.inl _))) => false
    | _ => true
theorem mval_cat {ad : Nat → Nat} {v : MV} (h : (mval ad v).category = 2) : ∃ x, v = vL x := by
  rcases v with x | x | x
  · simp [mval, Value.category] at h
  · exact ⟨x, rfl⟩
  · simp [mval, Value.category] at h
theorem LR.st1 {ad : Nat → Nat} {nL i : Nat} {lsR' : Array Slot} {ls : List (Option MV)} {v : MV} (ho : okst ls i = true)
    (h : lv_has lsR' nL ((i, mval ad v) :: (encl ad ls).filter (fun q => !(q.1 == i) && !(q.1 + 1 == i && q.2.category == 2)))) : LR ad nL lsR' (ls.set i (some v)) := by
  refine ⟨h.1, h.2.1, fun j u hj => ?_⟩
  by_cases e : i = j
  · subst e
    rw [List.getElem?_set] at hj
    split at hj
    · split at hj
      · cases hj; exact h.2.2 _ List.mem_cons_self
      · cases hj
    · contradiction
  · rw [List.getElem?_set_ne e] at hj
    refine h.2.2 (j, mval ad u) (List.mem_cons_of_mem _ (List.mem_filter.mpr ⟨encl_mem hj, ?_⟩))
    have n1 : ¬ j = i := fun z => e z.symm
    simp only [Bool.and_eq_true, Bool.not_eq_true', beq_eq_false_iff_ne, ne_eq, n1, not_false_eq_true, true_and, Bool.and_eq_false_iff]
    by_cases n2 : j + 1 = i
    · right
      intro hc
      obtain ⟨x, rfl⟩ := mval_cat hc
      subst n2
      simp [okst, hj] at ho
    · left; exact n2
theorem LR.st2 {ad : Nat → Nat} {nL i : Nat} {lsR' : Array Slot} {ls : List (Option MV)} {x : Int} (ho : okst ls i = true)
    (h : lv_has lsR' nL ((i, .long (Int64.ofInt x)) :: (encl ad ls).filter (fun q => !(q.1 == i) && (!(q.1 == i + 1) && !(q.1 + 1 == i && q.2.category == 2))))) : LR ad nL lsR' ((ls.set i (some (vL x))).set (i + 1) none) := by
  refine ⟨h.1, h.2.1, fun j u hj => ?_⟩
  have e2 : ¬ i + 1 = j := by
    intro e
    subst e
    rw [List.getElem?_set] at hj
    split at hj
    · split at hj <;> cases hj
    · contradiction
  rw [List.getElem?_set_ne e2] at hj
  by_cases e : i = j
  · subst e
    rw [List.getElem?_set] at hj
    split at hj
    · split at hj
      · cases hj; exact h.2.2 _ List.mem_cons_self
      · cases hj
    · contradiction
  · rw [List.getElem?_set_ne e] at hj
    refine h.2.2 (j, mval ad u) (List.mem_cons_of_mem _ (List.mem_filter.mpr ⟨encl_mem hj, ?_⟩))
    have n1 : ¬ j = i := fun z => e z.symm
    have n3 : ¬ j = i + 1 := fun z => e2 z.symm
    simp only [Bool.and_eq_true, Bool.not_eq_true', beq_eq_false_iff_ne, ne_eq, n1, n3, not_false_eq_true, true_and, Bool.and_eq_false_iff]
    by_cases n2 : j + 1 = i
    · right
      intro hc
      obtain ⟨x, rfl⟩ := mval_cat hc
      subst n2
      simp [okst, hj] at ho
    · left; exact n2
/-! the static rows of numbers -/
def srow (L : List Int) : Nat → Value := fun j => .int (Int32.ofInt (L.getD j 0))
def L_arcs : List Int := [1, 3, 4, 5, 2, 2]
def L_starts : List Int := [0, 0, 3, 7, 12, 14, 14]
def L_cross : List Int := [0, 1, 2, 1, 1, 2, 0, 1, 2, 0, 1, 1, 0, 2, 3, 1, 1, 3, 0, -1, 2, 0, 1, 1, 3, 1, 2, -1, 0, 2, 3, 1, 3, 0, 1, 1, 1, 3, 4, 1, 4, 1, 2, 1, 2, 4, 0, 1, 0, 1, 1, 1, 1, 0, 0, 1]
def Stt (ad : Nat → Nat) (A : Nat → Prop) (U : State) (H : Heap) : Prop :=
  (va_Z RX6 "STANDARD_ARCS" "[I" (.ref (ad 1000)) A U H ∧ va_T .int (ad 1000) 6 (srow L_arcs) A U H) ∧
  (va_Z RX6 "STANDARD_STARTS" "[I" (.ref (ad 1001)) A U H ∧ va_T .int (ad 1001) 7 (srow L_starts) A U H) ∧
  (va_Z RX6 "STANDARD_CROSSINGS" "[I" (.ref (ad 1002)) A U H ∧ va_T .int (ad 1002) 56 (srow L_cross) A U H)
theorem Stt.moved {ad : Nat → Nat} {A : Nat → Prop} {u U : State} {H : Heap} (hvm : u.vm.Alike U.vm) (h : Stt ad A u H) : Stt ad A U H :=
  ⟨⟨h.1.1.moved hvm, h.1.2.moved hvm⟩, ⟨h.2.1.1.moved hvm, h.2.1.2.moved hvm⟩, ⟨h.2.2.1.moved hvm, h.2.2.2.moved hvm⟩⟩
theorem Stt.kept {ad : Nat → Nat} {A : Nat → Prop} {U : State} {H H1 : Heap} (h : Stt ad A U H) (hq : ∀ a : Nat, a < H.size → ¬ A a → H1[a]? = H[a]?) : Stt ad A U H1 :=
  ⟨⟨h.1.1.kept hq, h.1.2.kept hq⟩, ⟨h.2.1.1.kept hq, h.2.1.2.kept hq⟩, ⟨h.2.2.1.kept hq, h.2.2.2.kept hq⟩⟩
theorem Stt.narrow {ad : Nat → Nat} {A B : Nat → Prop} {U : State} {H : Heap} (h : Stt ad A U H) (hAB : ∀ q, B q → A q) : Stt ad B U H :=
  ⟨⟨h.1.1.narrow hAB, h.1.2.narrow hAB⟩, ⟨h.2.1.1.narrow hAB, h.2.1.2.narrow hAB⟩, ⟨h.2.2.1.narrow hAB, h.2.2.2.narrow hAB⟩⟩
/-! the judgement -/
def AW (ad : Nat → Nat) (n : Nat) : Nat → Prop := fun q => ∃ k, k < n ∧ q = ad k
def RetAt (cc : ByteArray) (pc : Nat) : Option MV → Prop
  | none => decode cc pc = .ok (.return_, 1)
  | some (.inl _) => decode cc pc = .ok (.ireturn, 1)
  | some (.inr (.inl _)) => decode cc pc = .ok (.lreturn, 1)
  | some (.inr (.inr _)) => False
def Cx (D : va_G) (ck : Nat → ClassId) (ad : Nat → Nat) (sh : List Shp) (own : String) (cc : ByteArray) (nL : Nat) (R : Room) (p : Program) (s : State) (m : MethodId) (args : Array Value) (c : Code) (A : Nat → Prop) (cells slots : Nat) : Prop :=
  p.tables.exec = Jvm.exec ∧ c.code = cc ∧ c.maxLocals = nL ∧ s.vm.findClass own = some m.cls ∧ (∀ w ∈ lw_gw, w.before args s = true) ∧ va_K D vwCl (tysOf ck) s ∧ (∀ k, k < sh.length → A (ad k)) ∧ (cells ≤ R.cells ∧ slots ≤ R.slots) ∧ Stt ad A s s.heap ∧ ainj ad sh.length
abbrev Post : Type := Option MV → Mem → Prop
def Exi (l : Launch) (D : va_G) (ck : Nat → ClassId) (ad : Nat → Nat) (sh : List Shp) (cc : ByteArray) (R : Room) (K : Post) (p : Program) (e : Env) (s : State) (m : MethodId) (args : Array Value) (below : List Frame) (meth : Method) (c : Code) (A : Nat → Prop) (cells slots : Nat) (Q : State → Prop) : Prop :=
  ∀ (r : Option MV) (w : Mem) (pc : Nat) (lsR : Array Slot) (H : Heap) (locs : List Loc), K r w → RetAt cc pc r → va_P D vwCl (wld ck ad sh w) H → va_S A s.heap H locs → W p l e R s m args below meth c H locs cells slots Q (F0 m pc lsR (r.toList.map (mval ad)))
def Go (l : Launch) (D : va_G) (ck : Nat → ClassId) (ad : Nat → Nat) (sh : List Shp) (own : String) (cc : ByteArray) (nL : Nat) (R : Room) (pc : Nat) (ls : List (Option MV)) (st : List MV) (w : Mem) (K : Post) : Prop :=
  ∀ (p : Program) (e : Env) (s : State) (m : MethodId) (args : Array Value) (below : List Frame) (meth : Method) (c : Code) (A : Nat → Prop) (cells slots : Nat) (Q : State → Prop) (H : Heap) (locs : List Loc) (lsR : Array Slot),
    Cx D ck ad sh own cc nL R p s m args c A cells slots → va_P D vwCl (wld ck ad sh w) H → va_S A s.heap H locs → LR ad nL lsR ls → Exi l D ck ad sh cc R K p e s m args below meth c A cells slots Q →
    W p l e R s m args below meth c H locs cells slots Q (F0 m pc lsR (st.map (mval ad)))
def evP (D : va_G) (ck : Nat → ClassId) (ad : Nat → Nat) (sh : List Shp) (w : Mem) (U : State) : Prop := va_P D vwCl (wld ck ad sh w) U.heap ∧ va_K D vwCl (tysOf ck) U ∧ Stt ad (AW ad sh.length) U U.heap ∧ ainj ad sh.length
def evQ (D : va_G) (ck : Nat → ClassId) (ad : Nat → Nat) (sh : List Shp) (K : Post) : Array Value → State → Outcome → State → Prop := fun _ st o t =>
  (∃ (r : Option MV) (w : Mem), o = .returned (r.map (mval ad)) ∧ K r w ∧ va_P D vwCl (wld ck ad sh w) t.heap) ∧ va_F (AW ad sh.length) st t
def Ev (l : Launch) (D : va_G) (ck : Nat → ClassId) (ad : Nat → Nat) (sh : List Shp) (y : MethodName) (cc : ByteArray) (nL : Nat) (ret : Option FieldType) (R : Room) (as : List MV) (w : Mem) (K : Post) : Prop :=
  Met l y (.code y cc nL ret :: lw_gw) R (va_Pc (as.map (mval ad)) (evP D ck ad sh w)) (evQ D ck ad sh K) 0 0 (AW ad sh.length)
theorem cat1 {ad : Nat → Nat} {v : MV} (h : ∀ x, v ≠ vL x) : (mval ad v).category = 1 := by
  rcases v with x | x | x
  · rfl
  · exact absurd rfl (h x)
  · rfl
theorem oi_eq0 {x : Int} : Int32.ofInt x = 0 ↔ wr x = 0 := by rw [oi_0, oi_inj, wr_0]
theorem oi_lt0 {x : Int} : Int32.ofInt x < 0 ↔ wr x < 0 := by rw [oi_0, oi_lt, wr_0]
theorem oi_ge0 {x : Int} : 0 ≤ Int32.ofInt x ↔ 0 ≤ wr x := by rw [oi_0, oi_le, wr_0]
theorem oi_gt0 {x : Int} : 0 < Int32.ofInt x ↔ 0 < wr x := by rw [oi_0, oi_lt, wr_0]
theorem oi_le0 {x : Int} : Int32.ofInt x ≤ 0 ↔ wr x ≤ 0 := by rw [oi_0, oi_le, wr_0]
theorem celE_st {ck : Nat → ClassId} {ad : Nat → Nat} {w : Mem} {b j tc n : Nat} {v : Int} {z : Int32} (hz : Int32.ofInt v = z) : (.inl (ck tc, n, .inl (upd (fun k => Int32.ofInt (w b k)) j z)) : va_E) = celE ck ad (mup w b j v b) (.inr (.inl (tc, n))) := by
  subst hz
  simp only [celE]
  rw [mup_fn w b j v Int32.ofInt]
theorem celE_put {ck : Nat → ClassId} {ad : Nat → Nat} {w : Mem} {b i ci : Nat} {rs : List (Option Nat)} {v : Int} (hr : rs[i]? = some none) : (.inr (ci, (rs.mapIdx (fun k r => fldv ad r (w b k))).set i (mval ad (vI v))) : va_E) = celE ck ad (mup w b i v b) (.inl (ci, rs)) := by
  simp only [celE]
  congr 2
  apply List.ext_getElem?
  intro j
  have hil : i < rs.length := (List.getElem?_eq_some_iff.mp hr).1
  by_cases hj : i = j
  · subst hj
    rw [List.getElem?_set_self (by simpa using hil)]
    simp [hr, fldv, mup, mval]
  · have hj2 : ¬ j = i := fun e => hj e.symm
    rw [List.getElem?_set_ne hj]
    simp [mup, hj2]
theorem oi_ofNat (n : Nat) : Int32.ofNat n = Int32.ofInt (n : Int) := by
  first | exact Int32.ofInt_eq_ofNat.symm | rfl | (rw [← Int32.toInt_inj]; simp)
section GO
variable {l : Launch} {D : va_G} {ck : Nat → ClassId} {ad : Nat → Nat} {sh : List Shp} {own : String} {cc : ByteArray} {nL : Nat} {R : Room} {pc q : Nat} {ls : List (Option MV)} {st : List MV} {w : Mem} {K : Post}

theorem go_iconst {n : Int} (hd : decode cc pc = .ok (.iconst n, 1)) (hq : pc + 1 = q) (k : Go l D ck ad sh own cc nL R q ls (vI n :: st) w K) : Go l D ck ad sh own cc nL R pc ls st w K := by
  subst hq
  intro p e s m args below meth c A cells slots Q H locs lsR C hP hS hl hex
  exact lv_iconst C.1 C.2.1 hd rfl (k p e s m args below meth c A cells slots Q H locs _ C hP hS hl hex)
theorem go_bipush {n : Int} (hn : (Int8.ofInt n).toInt32 = Int32.ofInt n) (hd : decode cc pc = .ok (.bipush n, 2)) (hq : pc + 2 = q) (k : Go l D ck ad sh own cc nL R q ls (vI n :: st) w K) : Go l D ck ad sh own cc nL R pc ls st w K := by
  subst hq
  intro p e s m args below meth c A cells slots Q H locs lsR C hP hS hl hex
  exact lv_bipush C.1 C.2.1 hd hn (k p e s m args below meth c A cells slots Q H locs _ C hP hS hl hex)
theorem go_sipush {n : Int} (hn : (Int16.ofInt n).toInt32 = Int32.ofInt n) (hd : decode cc pc = .ok (.sipush n, 3)) (hq : pc + 3 = q) (k : Go l D ck ad sh own cc nL R q ls (vI n :: st) w K) : Go l D ck ad sh own cc nL R pc ls st w K := by
  subst hq
  intro p e s m args below meth c A cells slots Q H locs lsR C hP hS hl hex
  exact lv_sipush C.1 C.2.1 hd hn (k p e s m args below meth c A cells slots Q H locs _ C hP hS hl hex)
theorem go_ldc {n : Int} {idx : Nat} {v : Int32} (hc : Cond.constant own idx v ∈ lw_gw) (hv : v = Int32.ofInt n) (hd : decode cc pc = .ok (.ldc idx, 2)) (hq : pc + 2 = q) (k : Go l D ck ad sh own cc nL R q ls (vI n :: st) w K) : Go l D ck ad sh own cc nL R pc ls st w K := by
  subst hq
  intro p e s m args below meth c A cells slots Q H locs lsR C hP hS hl hex
  subst hv; exact lv_ldc C.1 C.2.1 C.2.2.2.1 (C.2.2.2.2.1 _ hc) hd (k p e s m args below meth c A cells slots Q H locs _ C hP hS hl hex)
theorem go_ldcw {n : Int} {idx : Nat} {v : Int32} (hc : Cond.constant own idx v ∈ lw_gw) (hv : v = Int32.ofInt n) (hd : decode cc pc = .ok (.ldc_w idx, 3)) (hq : pc + 3 = q) (k : Go l D ck ad sh own cc nL R q ls (vI n :: st) w K) : Go l D ck ad sh own cc nL R pc ls st w K := by
  subst hq
  intro p e s m args below meth c A cells slots Q H locs lsR C hP hS hl hex
  subst hv; exact lv_ldcw C.1 C.2.1 C.2.2.2.1 (C.2.2.2.2.1 _ hc) hd (k p e s m args below meth c A cells slots Q H locs _ C hP hS hl hex)
theorem go_ldc2 {n : Int} {idx : Nat} {v : Int64} (hc : Cond.constantLong own idx v ∈ lw_gw) (hv : v = Int64.ofInt n) (hd : decode cc pc = .ok (.ldc2_w idx, 3)) (hq : pc + 3 = q) (k : Go l D ck ad sh own cc nL R q ls (vL n :: st) w K) : Go l D ck ad sh own cc nL R pc ls st w K := by
  subst hq
  intro p e s m args below meth c A cells slots Q H locs lsR C hP hS hl hex
  subst hv; exact lv_ldc2 C.1 C.2.1 C.2.2.2.1 (C.2.2.2.2.1 _ hc) hd (k p e s m args below meth c A cells slots Q H locs _ C hP hS hl hex)
theorem go_iload_n {i : Fin 4} {j : Nat} {x : Int} (hj : (i : Nat) = j) (h : ls[j]? = some (some (vI x))) (hd : decode cc pc = .ok (.iload_n i, 1)) (hq : pc + 1 = q) (k : Go l D ck ad sh own cc nL R q ls (vI x :: st) w K) : Go l D ck ad sh own cc nL R pc ls st w K := by
  subst hq
  intro p e s m args below meth c A cells slots Q H locs lsR C hP hS hl hex
  exact lv_iload_n C.1 C.2.1 hd hj (hl.2.2 _ _ h) (k p e s m args below meth c A cells slots Q H locs _ C hP hS hl hex)
theorem go_iload {j : Nat} {x : Int} (h : ls[j]? = some (some (vI x))) (hd : decode cc pc = .ok (.iload j, 2)) (hq : pc + 2 = q) (k : Go l D ck ad sh own cc nL R q ls (vI x :: st) w K) : Go l D ck ad sh own cc nL R pc ls st w K := by
  subst hq
  intro p e s m args below meth c A cells slots Q H locs lsR C hP hS hl hex
  exact lv_iload C.1 C.2.1 hd (hl.2.2 _ _ h) (k p e s m args below meth c A cells slots Q H locs _ C hP hS hl hex)
theorem go_lload_n {i : Fin 4} {j : Nat} {x : Int} (hj : (i : Nat) = j) (h : ls[j]? = some (some (vL x))) (hd : decode cc pc = .ok (.lload_n i, 1)) (hq : pc + 1 = q) (k : Go l D ck ad sh own cc nL R q ls (vL x :: st) w K) : Go l D ck ad sh own cc nL R pc ls st w K := by
  subst hq
  intro p e s m args below meth c A cells slots Q H locs lsR C hP hS hl hex
  exact lv_lload_n C.1 C.2.1 hd hj (hl.2.2 _ _ h) (k p e s m args below meth c A cells slots Q H locs _ C hP hS hl hex)
theorem go_lload {j : Nat} {x : Int} (h : ls[j]? = some (some (vL x))) (hd : decode cc pc = .ok (.lload j, 2)) (hq : pc + 2 = q) (k : Go l D ck ad sh own cc nL R q ls (vL x :: st) w K) : Go l D ck ad sh own cc nL R pc ls st w K := by
  subst hq
  intro p e s m args below meth c A cells slots Q H locs lsR C hP hS hl hex
  exact lv_lload C.1 C.2.1 hd (hl.2.2 _ _ h) (k p e s m args below meth c A cells slots Q H locs _ C hP hS hl hex)
theorem go_aload_n {i : Fin 4} {j : Nat} {x : Nat} (hj : (i : Nat) = j) (h : ls[j]? = some (some (vR x))) (hd : decode cc pc = .ok (.aload_n i, 1)) (hq : pc + 1 = q) (k : Go l D ck ad sh own cc nL R q ls (vR x :: st) w K) : Go l D ck ad sh own cc nL R pc ls st w K := by
  subst hq
  intro p e s m args below meth c A cells slots Q H locs lsR C hP hS hl hex
  exact lv_aload_n C.1 C.2.1 hd hj (hl.2.2 _ _ h) (k p e s m args below meth c A cells slots Q H locs _ C hP hS hl hex)
theorem go_aload {j : Nat} {x : Nat} (h : ls[j]? = some (some (vR x))) (hd : decode cc pc = .ok (.aload j, 2)) (hq : pc + 2 = q) (k : Go l D ck ad sh own cc nL R q ls (vR x :: st) w K) : Go l D ck ad sh own cc nL R pc ls st w K := by
  subst hq
  intro p e s m args below meth c A cells slots Q H locs lsR C hP hS hl hex
  exact lv_aload C.1 C.2.1 hd (hl.2.2 _ _ h) (k p e s m args below meth c A cells slots Q H locs _ C hP hS hl hex)
theorem go_istore_n {i : Fin 4} {j : Nat} {x : Int} (hj : (i : Nat) = j) (hn : j < nL) (ho : okst ls j = true) {ls2 : List (Option MV)} (hls : ls.set j (some (vI x)) = ls2) (hd : decode cc pc = .ok (.istore_n i, 1)) (hq : pc + 1 = q) (k : Go l D ck ad sh own cc nL R q ls2 st w K) : Go l D ck ad sh own cc nL R pc ls (vI x :: st) w K := by
  subst hq
  intro p e s m args below meth c A cells slots Q H locs lsR C hP hS hl hex
  subst hls; exact lv_istore_n C.1 C.2.1 hd hj hl.has hn rfl (fun ls9 hl2 => k p e s m args below meth c A cells slots Q H locs _ C hP hS (LR.st1 ho hl2) hex)
theorem go_istore {j : Nat} {x : Int} (hn : j < nL) (ho : okst ls j = true) {ls2 : List (Option MV)} (hls : ls.set j (some (vI x)) = ls2) (hd : decode cc pc = .ok (.istore j, 2)) (hq : pc + 2 = q) (k : Go l D ck ad sh own cc nL R q ls2 st w K) : Go l D ck ad sh own cc nL R pc ls (vI x :: st) w K := by
  subst hq
  intro p e s m args below meth c A cells slots Q H locs lsR C hP hS hl hex
  subst hls; exact lv_istore C.1 C.2.1 hd hl.has hn rfl (fun ls9 hl2 => k p e s m args below meth c A cells slots Q H locs _ C hP hS (LR.st1 ho hl2) hex)
theorem go_astore_n {i : Fin 4} {j : Nat} {x : Nat} (hj : (i : Nat) = j) (hn : j < nL) (ho : okst ls j = true) {ls2 : List (Option MV)} (hls : ls.set j (some (vR x)) = ls2) (hd : decode cc pc = .ok (.astore_n i, 1)) (hq : pc + 1 = q) (k : Go l D ck ad sh own cc nL R q ls2 st w K) : Go l D ck ad sh own cc nL R pc ls (vR x :: st) w K := by
  subst hq
  intro p e s m args below meth c A cells slots Q H locs lsR C hP hS hl hex
  subst hls; exact lv_astore_n C.1 C.2.1 hd hj hl.has hn rfl (fun ls9 hl2 => k p e s m args below meth c A cells slots Q H locs _ C hP hS (LR.st1 ho hl2) hex)
theorem go_lstore_n {i : Fin 4} {j : Nat} {x : Int} (hj : (i : Nat) = j) (hn : j + 1 < nL) (ho : okst ls j = true) {ls2 : List (Option MV)} (hls : (ls.set j (some (vL x))).set (j + 1) none = ls2) (hd : decode cc pc = .ok (.lstore_n i, 1)) (hq : pc + 1 = q) (k : Go l D ck ad sh own cc nL R q ls2 st w K) : Go l D ck ad sh own cc nL R pc ls (vL x :: st) w K := by
  subst hq
  intro p e s m args below meth c A cells slots Q H locs lsR C hP hS hl hex
  subst hls; exact lv_lstore_n C.1 C.2.1 hd hj hl.has hn rfl (fun ls9 hl2 => k p e s m args below meth c A cells slots Q H locs _ C hP hS (LR.st2 ho hl2) hex)
theorem go_lstore {j : Nat} {x : Int} (hn : j + 1 < nL) (ho : okst ls j = true) {ls2 : List (Option MV)} (hls : (ls.set j (some (vL x))).set (j + 1) none = ls2) (hd : decode cc pc = .ok (.lstore j, 2)) (hq : pc + 2 = q) (k : Go l D ck ad sh own cc nL R q ls2 st w K) : Go l D ck ad sh own cc nL R pc ls (vL x :: st) w K := by
  subst hq
  intro p e s m args below meth c A cells slots Q H locs lsR C hP hS hl hex
  subst hls; exact lv_lstore C.1 C.2.1 hd hl.has hn rfl (fun ls9 hl2 => k p e s m args below meth c A cells slots Q H locs _ C hP hS (LR.st2 ho hl2) hex)
theorem go_iinc {j : Nat} {n x : Int} (h : ls[j]? = some (some (vI x))) (hn : j < nL) (ho : okst ls j = true) {ls2 : List (Option MV)} (hls : ls.set j (some (vI (x + n))) = ls2) (hd : decode cc pc = .ok (.iinc j n, 3)) (hq : pc + 3 = q) (k : Go l D ck ad sh own cc nL R q ls2 st w K) : Go l D ck ad sh own cc nL R pc ls st w K := by
  subst hq
  intro p e s m args below meth c A cells slots Q H locs lsR C hP hS hl hex
  subst hls
  obtain ⟨kk, hkk⟩ := List.mem_iff_getElem?.mp (encl_mem (ad := ad) h)
  exact lv_iinc (v := Int32.ofInt (x + n)) C.1 C.2.1 hd hl.has hkk (by rw [Int32.ofInt_add]) hn rfl (fun ls9 hl2 => k p e s m args below meth c A cells slots Q H locs _ C hP hS (LR.st1 ho hl2) hex)
theorem go_iadd {x y : Int} (hd : decode cc pc = .ok (.iadd, 1)) (hq : pc + 1 = q) (k : Go l D ck ad sh own cc nL R q ls (vI (x + y) :: st) w K) : Go l D ck ad sh own cc nL R pc ls (vI y :: vI x :: st) w K := by
  subst hq
  intro p e s m args below meth c A cells slots Q H locs lsR C hP hS hl hex
  have z := (k p e s m args below meth c A cells slots Q H locs _ C hP hS hl hex)
  have ez : Int32.ofInt (x + y) = Int32.ofInt x + Int32.ofInt y := Int32.ofInt_add ..
  simp only [List.map_cons, mval, ez] at z
  exact lv_iadd C.1 C.2.1 hd z
theorem go_isub {x y : Int} (hd : decode cc pc = .ok (.isub, 1)) (hq : pc + 1 = q) (k : Go l D ck ad sh own cc nL R q ls (vI (x - y) :: st) w K) : Go l D ck ad sh own cc nL R pc ls (vI y :: vI x :: st) w K := by
  subst hq
  intro p e s m args below meth c A cells slots Q H locs lsR C hP hS hl hex
  have z := (k p e s m args below meth c A cells slots Q H locs _ C hP hS hl hex)
  have ez : Int32.ofInt (x - y) = Int32.ofInt x - Int32.ofInt y := Int32.ofInt_sub ..
  simp only [List.map_cons, mval, ez] at z
  exact lv_isub C.1 C.2.1 hd z
theorem go_imul {x y : Int} (hd : decode cc pc = .ok (.imul, 1)) (hq : pc + 1 = q) (k : Go l D ck ad sh own cc nL R q ls (vI (x * y) :: st) w K) : Go l D ck ad sh own cc nL R pc ls (vI y :: vI x :: st) w K := by
  subst hq
  intro p e s m args below meth c A cells slots Q H locs lsR C hP hS hl hex
  have z := (k p e s m args below meth c A cells slots Q H locs _ C hP hS hl hex)
  have ez : Int32.ofInt (x * y) = Int32.ofInt x * Int32.ofInt y := Int32.ofInt_mul ..
  simp only [List.map_cons, mval, ez] at z
  exact lv_imul C.1 C.2.1 hd z
theorem go_ishl {x y : Int} (hd : decode cc pc = .ok (.ishl, 1)) (hq : pc + 1 = q) (k : Go l D ck ad sh own cc nL R q ls (vI (shlZ x y) :: st) w K) : Go l D ck ad sh own cc nL R pc ls (vI y :: vI x :: st) w K := by
  subst hq
  intro p e s m args below meth c A cells slots Q H locs lsR C hP hS hl hex
  have z := (k p e s m args below meth c A cells slots Q H locs _ C hP hS hl hex)
  have ez : Int32.ofInt (shlZ x y) = Int32.ofInt x <<< (Int32.ofInt y &&& 31) := oi_ti _
  simp only [List.map_cons, mval, ez] at z
  exact lv_ishl C.1 C.2.1 hd z
theorem go_ishr {x y : Int} (hd : decode cc pc = .ok (.ishr, 1)) (hq : pc + 1 = q) (k : Go l D ck ad sh own cc nL R q ls (vI (shrZ x y) :: st) w K) : Go l D ck ad sh own cc nL R pc ls (vI y :: vI x :: st) w K := by
  subst hq
  intro p e s m args below meth c A cells slots Q H locs lsR C hP hS hl hex
  have z := (k p e s m args below meth c A cells slots Q H locs _ C hP hS hl hex)
  have ez : Int32.ofInt (shrZ x y) = Int32.ofInt x >>> (Int32.ofInt y &&& 31) := oi_ti _
  simp only [List.map_cons, mval, ez] at z
  exact lv_ishr C.1 C.2.1 hd z
theorem go_iand {x y : Int} (hd : decode cc pc = .ok (.iand, 1)) (hq : pc + 1 = q) (k : Go l D ck ad sh own cc nL R q ls (vI (andZ x y) :: st) w K) : Go l D ck ad sh own cc nL R pc ls (vI y :: vI x :: st) w K := by
  subst hq
  intro p e s m args below meth c A cells slots Q H locs lsR C hP hS hl hex
  have z := (k p e s m args below meth c A cells slots Q H locs _ C hP hS hl hex)
  have ez : Int32.ofInt (andZ x y) = Int32.ofInt x &&& Int32.ofInt y := oi_ti _
  simp only [List.map_cons, mval, ez] at z
  exact lv_iand C.1 C.2.1 hd z
theorem go_ior {x y : Int} (hd : decode cc pc = .ok (.ior, 1)) (hq : pc + 1 = q) (k : Go l D ck ad sh own cc nL R q ls (vI (orZ x y) :: st) w K) : Go l D ck ad sh own cc nL R pc ls (vI y :: vI x :: st) w K := by
  subst hq
  intro p e s m args below meth c A cells slots Q H locs lsR C hP hS hl hex
  have z := (k p e s m args below meth c A cells slots Q H locs _ C hP hS hl hex)
  have ez : Int32.ofInt (orZ x y) = Int32.ofInt x ||| Int32.ofInt y := oi_ti _
  simp only [List.map_cons, mval, ez] at z
  exact lv_ior C.1 C.2.1 hd z
theorem go_ixor {x y : Int} (hd : decode cc pc = .ok (.ixor, 1)) (hq : pc + 1 = q) (k : Go l D ck ad sh own cc nL R q ls (vI (xorZ x y) :: st) w K) : Go l D ck ad sh own cc nL R pc ls (vI y :: vI x :: st) w K := by
  subst hq
  intro p e s m args below meth c A cells slots Q H locs lsR C hP hS hl hex
  have z := (k p e s m args below meth c A cells slots Q H locs _ C hP hS hl hex)
  have ez : Int32.ofInt (xorZ x y) = Int32.ofInt x ^^^ Int32.ofInt y := oi_ti _
  simp only [List.map_cons, mval, ez] at z
  exact lv_ixor C.1 C.2.1 hd z
theorem go_iushr {x y : Int} (hd : decode cc pc = .ok (.iushr, 1)) (hq : pc + 1 = q) (k : Go l D ck ad sh own cc nL R q ls (vI (ushrZ x y) :: st) w K) : Go l D ck ad sh own cc nL R pc ls (vI y :: vI x :: st) w K := by
  subst hq
  intro p e s m args below meth c A cells slots Q H locs lsR C hP hS hl hex
  exact lv_iushr (v := Int32.ofInt (ushrZ x y)) C.1 C.2.1 hd (oi_ti _).symm (k p e s m args below meth c A cells slots Q H locs _ C hP hS hl hex)
theorem go_ineg {x : Int} (hd : decode cc pc = .ok (.ineg, 1)) (hq : pc + 1 = q) (k : Go l D ck ad sh own cc nL R q ls (vI (-x) :: st) w K) : Go l D ck ad sh own cc nL R pc ls (vI x :: st) w K := by
  subst hq
  intro p e s m args below meth c A cells slots Q H locs lsR C hP hS hl hex
  have z := (k p e s m args below meth c A cells slots Q H locs _ C hP hS hl hex)
  simp only [List.map_cons, mval, Int32.ofInt_neg] at z
  exact lv_ineg C.1 C.2.1 hd z
theorem go_idiv {x y : Int} (hne : ¬ wr y = 0) (hd : decode cc pc = .ok (.idiv, 1)) (hq : pc + 1 = q) (k : Go l D ck ad sh own cc nL R q ls (vI ((wr x).tdiv (wr y)) :: st) w K) : Go l D ck ad sh own cc nL R pc ls (vI y :: vI x :: st) w K := by
  subst hq
  intro p e s m args below meth c A cells slots Q H locs lsR C hP hS hl hex
  have z := (k p e s m args below meth c A cells slots Q H locs _ C hP hS hl hex)
  simp only [List.map_cons, mval, ← oi_div] at z
  exact lv_idiv C.1 C.2.1 hd (fun z0 => hne (by have := oi_inj.mp (z0.trans oi_0); rwa [wr_0] at this)) z
theorem go_irem {x y : Int} (hne : ¬ wr y = 0) (hd : decode cc pc = .ok (.irem, 1)) (hq : pc + 1 = q) (k : Go l D ck ad sh own cc nL R q ls (vI ((wr x).tmod (wr y)) :: st) w K) : Go l D ck ad sh own cc nL R pc ls (vI y :: vI x :: st) w K := by
  subst hq
  intro p e s m args below meth c A cells slots Q H locs lsR C hP hS hl hex
  have z := (k p e s m args below meth c A cells slots Q H locs _ C hP hS hl hex)
  simp only [List.map_cons, mval, ← oi_rem] at z
  exact lv_irem C.1 C.2.1 hd (fun z0 => hne (by have := oi_inj.mp (z0.trans oi_0); rwa [wr_0] at this)) z
theorem go_ladd {x y : Int} (hd : decode cc pc = .ok (.ladd, 1)) (hq : pc + 1 = q) (k : Go l D ck ad sh own cc nL R q ls (vL (x + y) :: st) w K) : Go l D ck ad sh own cc nL R pc ls (vL y :: vL x :: st) w K := by
  subst hq
  intro p e s m args below meth c A cells slots Q H locs lsR C hP hS hl hex
  have z := (k p e s m args below meth c A cells slots Q H locs _ C hP hS hl hex)
  simp only [List.map_cons, mval, Int64.ofInt_add] at z
  exact lv_ladd C.1 C.2.1 hd z
theorem go_lmul {x y : Int} (hd : decode cc pc = .ok (.lmul, 1)) (hq : pc + 1 = q) (k : Go l D ck ad sh own cc nL R q ls (vL (x * y) :: st) w K) : Go l D ck ad sh own cc nL R pc ls (vL y :: vL x :: st) w K := by
  subst hq
  intro p e s m args below meth c A cells slots Q H locs lsR C hP hS hl hex
  have z := (k p e s m args below meth c A cells slots Q H locs _ C hP hS hl hex)
  simp only [List.map_cons, mval, Int64.ofInt_mul] at z
  exact lv_lmul C.1 C.2.1 hd z
theorem go_i2l {x : Int} (hd : decode cc pc = .ok (.i2l, 1)) (hq : pc + 1 = q) (k : Go l D ck ad sh own cc nL R q ls (vL (wr x) :: st) w K) : Go l D ck ad sh own cc nL R pc ls (vI x :: st) w K := by
  subst hq
  intro p e s m args below meth c A cells slots Q H locs lsR C hP hS hl hex
  exact lv_i2l (v := Int64.ofInt (wr x)) C.1 C.2.1 hd (by rw [← toInt_oi]; rfl) (k p e s m args below meth c A cells slots Q H locs _ C hP hS hl hex)
theorem go_i2c {x : Int} (hd : decode cc pc = .ok (.i2c, 1)) (hq : pc + 1 = q) (k : Go l D ck ad sh own cc nL R q ls (vI (i2cZ x) :: st) w K) : Go l D ck ad sh own cc nL R pc ls (vI x :: st) w K := by
  subst hq
  intro p e s m args below meth c A cells slots Q H locs lsR C hP hS hl hex
  exact lv_i2c (v := Int32.ofInt (i2cZ x)) C.1 C.2.1 hd (oi_ti _).symm (k p e s m args below meth c A cells slots Q H locs _ C hP hS hl hex)
theorem go_dup {v : MV} (hv : ∀ x, v ≠ vL x) (hd : decode cc pc = .ok (.dup, 1)) (hq : pc + 1 = q) (k : Go l D ck ad sh own cc nL R q ls (v :: v :: st) w K) : Go l D ck ad sh own cc nL R pc ls (v :: st) w K := by
  subst hq
  intro p e s m args below meth c A cells slots Q H locs lsR C hP hS hl hex
  exact lv_dup C.1 C.2.1 hd (cat1 hv) (k p e s m args below meth c A cells slots Q H locs _ C hP hS hl hex)
theorem go_pop {v : MV} (hv : ∀ x, v ≠ vL x) (hd : decode cc pc = .ok (.pop, 1)) (hq : pc + 1 = q) (k : Go l D ck ad sh own cc nL R q ls st w K) : Go l D ck ad sh own cc nL R pc ls (v :: st) w K := by
  subst hq
  intro p e s m args below meth c A cells slots Q H locs lsR C hP hS hl hex
  exact lv_pop C.1 C.2.1 hd (cat1 hv) (k p e s m args below meth c A cells slots Q H locs _ C hP hS hl hex)
theorem go_dup_x1 {v u : MV} (hv : ∀ x, v ≠ vL x) (hu : ∀ x, u ≠ vL x) (hd : decode cc pc = .ok (.dup_x1, 1)) (hq : pc + 1 = q) (k : Go l D ck ad sh own cc nL R q ls (v :: u :: v :: st) w K) : Go l D ck ad sh own cc nL R pc ls (v :: u :: st) w K := by
  subst hq
  intro p e s m args below meth c A cells slots Q H locs lsR C hP hS hl hex
  exact lv_dup_x1 C.1 C.2.1 hd (cat1 hv) (cat1 hu) (k p e s m args below meth c A cells slots Q H locs _ C hP hS hl hex)
theorem go_dup2 {v u : MV} (hv : ∀ x, v ≠ vL x) (hu : ∀ x, u ≠ vL x) (hd : decode cc pc = .ok (.dup2, 1)) (hq : pc + 1 = q) (k : Go l D ck ad sh own cc nL R q ls (v :: u :: v :: u :: st) w K) : Go l D ck ad sh own cc nL R pc ls (v :: u :: st) w K := by
  subst hq
  intro p e s m args below meth c A cells slots Q H locs lsR C hP hS hl hex
  exact lv_dup2_11 C.1 C.2.1 hd (cat1 hv) (cat1 hu) (k p e s m args below meth c A cells slots Q H locs _ C hP hS hl hex)
theorem go_goto {off : Int} (hd : decode cc pc = .ok (.goto off, 3)) (hq : (pc : Int) + off = (q : Int)) (k : Go l D ck ad sh own cc nL R q ls st w K) : Go l D ck ad sh own cc nL R pc ls st w K := by
  intro p e s m args below meth c A cells slots Q H locs lsR C hP hS hl hex
  exact lv_goto C.1 C.2.1 hd hq (k p e s m args below meth c A cells slots Q H locs _ C hP hS hl hex)
theorem go_icmp_eq {x y off : Int} {t : Nat} (hd : decode cc pc = .ok (.if_icmp .eq off, 3)) (ht : (pc : Int) + off = (t : Int)) (hq : pc + 3 = q) (kt : wr x = wr y → Go l D ck ad sh own cc nL R t ls st w K) (kf : ¬ (wr x = wr y) → Go l D ck ad sh own cc nL R q ls st w K) : Go l D ck ad sh own cc nL R pc ls (vI y :: vI x :: st) w K := by
  subst hq
  intro p e s m args below meth c A cells slots Q H locs lsR C hP hS hl hex
  exact lv_icmp_eq C.1 C.2.1 hd ht (fun z => kt (oi_inj.mp z) p e s m args below meth c A cells slots Q H locs _ C hP hS hl hex) (fun z => kf (fun e2 => z (oi_inj.mpr e2)) p e s m args below meth c A cells slots Q H locs _ C hP hS hl hex)
theorem go_if_eq {x off : Int} {t : Nat} (hd : decode cc pc = .ok (.ifCond .eq off, 3)) (ht : (pc : Int) + off = (t : Int)) (hq : pc + 3 = q) (kt : wr x = 0 → Go l D ck ad sh own cc nL R t ls st w K) (kf : ¬ (wr x = 0) → Go l D ck ad sh own cc nL R q ls st w K) : Go l D ck ad sh own cc nL R pc ls (vI x :: st) w K := by
  subst hq
  intro p e s m args below meth c A cells slots Q H locs lsR C hP hS hl hex
  exact lv_if_eq C.1 C.2.1 hd ht (fun z => kt (oi_eq0.mp z) p e s m args below meth c A cells slots Q H locs _ C hP hS hl hex) (fun z => kf (fun e2 => z (oi_eq0.mpr e2)) p e s m args below meth c A cells slots Q H locs _ C hP hS hl hex)
theorem go_icmp_ne {x y off : Int} {t : Nat} (hd : decode cc pc = .ok (.if_icmp .ne off, 3)) (ht : (pc : Int) + off = (t : Int)) (hq : pc + 3 = q) (kt : ¬ wr x = wr y → Go l D ck ad sh own cc nL R t ls st w K) (kf : ¬ (¬ wr x = wr y) → Go l D ck ad sh own cc nL R q ls st w K) : Go l D ck ad sh own cc nL R pc ls (vI y :: vI x :: st) w K := by
  subst hq
  intro p e s m args below meth c A cells slots Q H locs lsR C hP hS hl hex
  exact lv_icmp_ne C.1 C.2.1 hd ht (fun z => kt (fun e2 => z (oi_inj.mpr e2)) p e s m args below meth c A cells slots Q H locs _ C hP hS hl hex) (fun z => kf (fun e2 => e2 (oi_inj.mp z)) p e s m args below meth c A cells slots Q H locs _ C hP hS hl hex)
theorem go_if_ne {x off : Int} {t : Nat} (hd : decode cc pc = .ok (.ifCond .ne off, 3)) (ht : (pc : Int) + off = (t : Int)) (hq : pc + 3 = q) (kt : ¬ wr x = 0 → Go l D ck ad sh own cc nL R t ls st w K) (kf : ¬ (¬ wr x = 0) → Go l D ck ad sh own cc nL R q ls st w K) : Go l D ck ad sh own cc nL R pc ls (vI x :: st) w K := by
  subst hq
  intro p e s m args below meth c A cells slots Q H locs lsR C hP hS hl hex
  exact lv_if_ne C.1 C.2.1 hd ht (fun z => kt (fun e2 => z (oi_eq0.mpr e2)) p e s m args below meth c A cells slots Q H locs _ C hP hS hl hex) (fun z => kf (fun e2 => e2 (oi_eq0.mp z)) p e s m args below meth c A cells slots Q H locs _ C hP hS hl hex)
theorem go_icmp_lt {x y off : Int} {t : Nat} (hd : decode cc pc = .ok (.if_icmp .lt off, 3)) (ht : (pc : Int) + off = (t : Int)) (hq : pc + 3 = q) (kt : wr x < wr y → Go l D ck ad sh own cc nL R t ls st w K) (kf : ¬ (wr x < wr y) → Go l D ck ad sh own cc nL R q ls st w K) : Go l D ck ad sh own cc nL R pc ls (vI y :: vI x :: st) w K := by
  subst hq
  intro p e s m args below meth c A cells slots Q H locs lsR C hP hS hl hex
  exact lv_icmp_lt C.1 C.2.1 hd ht (fun z => kt (oi_lt.mp z) p e s m args below meth c A cells slots Q H locs _ C hP hS hl hex) (fun z => kf (fun e2 => z (oi_lt.mpr e2)) p e s m args below meth c A cells slots Q H locs _ C hP hS hl hex)
theorem go_if_lt {x off : Int} {t : Nat} (hd : decode cc pc = .ok (.ifCond .lt off, 3)) (ht : (pc : Int) + off = (t : Int)) (hq : pc + 3 = q) (kt : wr x < 0 → Go l D ck ad sh own cc nL R t ls st w K) (kf : ¬ (wr x < 0) → Go l D ck ad sh own cc nL R q ls st w K) : Go l D ck ad sh own cc nL R pc ls (vI x :: st) w K := by
  subst hq
  intro p e s m args below meth c A cells slots Q H locs lsR C hP hS hl hex
  exact lv_if_lt C.1 C.2.1 hd ht (fun z => kt (oi_lt0.mp z) p e s m args below meth c A cells slots Q H locs _ C hP hS hl hex) (fun z => kf (fun e2 => z (oi_lt0.mpr e2)) p e s m args below meth c A cells slots Q H locs _ C hP hS hl hex)
theorem go_icmp_ge {x y off : Int} {t : Nat} (hd : decode cc pc = .ok (.if_icmp .ge off, 3)) (ht : (pc : Int) + off = (t : Int)) (hq : pc + 3 = q) (kt : wr y ≤ wr x → Go l D ck ad sh own cc nL R t ls st w K) (kf : ¬ (wr y ≤ wr x) → Go l D ck ad sh own cc nL R q ls st w K) : Go l D ck ad sh own cc nL R pc ls (vI y :: vI x :: st) w K := by
  subst hq
  intro p e s m args below meth c A cells slots Q H locs lsR C hP hS hl hex
  exact lv_icmp_ge C.1 C.2.1 hd ht (fun z => kt (oi_le.mp z) p e s m args below meth c A cells slots Q H locs _ C hP hS hl hex) (fun z => kf (fun e2 => z (oi_le.mpr e2)) p e s m args below meth c A cells slots Q H locs _ C hP hS hl hex)
theorem go_if_ge {x off : Int} {t : Nat} (hd : decode cc pc = .ok (.ifCond .ge off, 3)) (ht : (pc : Int) + off = (t : Int)) (hq : pc + 3 = q) (kt : 0 ≤ wr x → Go l D ck ad sh own cc nL R t ls st w K) (kf : ¬ (0 ≤ wr x) → Go l D ck ad sh own cc nL R q ls st w K) : Go l D ck ad sh own cc nL R pc ls (vI x :: st) w K := by
  subst hq
  intro p e s m args below meth c A cells slots Q H locs lsR C hP hS hl hex
  exact lv_if_ge C.1 C.2.1 hd ht (fun z => kt (oi_ge0.mp z) p e s m args below meth c A cells slots Q H locs _ C hP hS hl hex) (fun z => kf (fun e2 => z (oi_ge0.mpr e2)) p e s m args below meth c A cells slots Q H locs _ C hP hS hl hex)
theorem go_icmp_gt {x y off : Int} {t : Nat} (hd : decode cc pc = .ok (.if_icmp .gt off, 3)) (ht : (pc : Int) + off = (t : Int)) (hq : pc + 3 = q) (kt : wr y < wr x → Go l D ck ad sh own cc nL R t ls st w K) (kf : ¬ (wr y < wr x) → Go l D ck ad sh own cc nL R q ls st w K) : Go l D ck ad sh own cc nL R pc ls (vI y :: vI x :: st) w K := by
  subst hq
  intro p e s m args below meth c A cells slots Q H locs lsR C hP hS hl hex
  exact lv_icmp_gt C.1 C.2.1 hd ht (fun z => kt (oi_lt.mp z) p e s m args below meth c A cells slots Q H locs _ C hP hS hl hex) (fun z => kf (fun e2 => z (oi_lt.mpr e2)) p e s m args below meth c A cells slots Q H locs _ C hP hS hl hex)
theorem go_if_gt {x off : Int} {t : Nat} (hd : decode cc pc = .ok (.ifCond .gt off, 3)) (ht : (pc : Int) + off = (t : Int)) (hq : pc + 3 = q) (kt : 0 < wr x → Go l D ck ad sh own cc nL R t ls st w K) (kf : ¬ (0 < wr x) → Go l D ck ad sh own cc nL R q ls st w K) : Go l D ck ad sh own cc nL R pc ls (vI x :: st) w K := by
  subst hq
  intro p e s m args below meth c A cells slots Q H locs lsR C hP hS hl hex
  exact lv_if_gt C.1 C.2.1 hd ht (fun z => kt (oi_gt0.mp z) p e s m args below meth c A cells slots Q H locs _ C hP hS hl hex) (fun z => kf (fun e2 => z (oi_gt0.mpr e2)) p e s m args below meth c A cells slots Q H locs _ C hP hS hl hex)
theorem go_icmp_le {x y off : Int} {t : Nat} (hd : decode cc pc = .ok (.if_icmp .le off, 3)) (ht : (pc : Int) + off = (t : Int)) (hq : pc + 3 = q) (kt : wr x ≤ wr y → Go l D ck ad sh own cc nL R t ls st w K) (kf : ¬ (wr x ≤ wr y) → Go l D ck ad sh own cc nL R q ls st w K) : Go l D ck ad sh own cc nL R pc ls (vI y :: vI x :: st) w K := by
  subst hq
  intro p e s m args below meth c A cells slots Q H locs lsR C hP hS hl hex
  exact lv_icmp_le C.1 C.2.1 hd ht (fun z => kt (oi_le.mp z) p e s m args below meth c A cells slots Q H locs _ C hP hS hl hex) (fun z => kf (fun e2 => z (oi_le.mpr e2)) p e s m args below meth c A cells slots Q H locs _ C hP hS hl hex)
theorem go_if_le {x off : Int} {t : Nat} (hd : decode cc pc = .ok (.ifCond .le off, 3)) (ht : (pc : Int) + off = (t : Int)) (hq : pc + 3 = q) (kt : wr x ≤ 0 → Go l D ck ad sh own cc nL R t ls st w K) (kf : ¬ (wr x ≤ 0) → Go l D ck ad sh own cc nL R q ls st w K) : Go l D ck ad sh own cc nL R pc ls (vI x :: st) w K := by
  subst hq
  intro p e s m args below meth c A cells slots Q H locs lsR C hP hS hl hex
  exact lv_if_le C.1 C.2.1 hd ht (fun z => kt (oi_le0.mp z) p e s m args below meth c A cells slots Q H locs _ C hP hS hl hex) (fun z => kf (fun e2 => z (oi_le0.mpr e2)) p e s m args below meth c A cells slots Q H locs _ C hP hS hl hex)
theorem go_tsIn {x dflt lo hi off : Int} {offs : Array Int} {len t : Nat} (hd : decode cc pc = .ok (.tableswitch dflt lo hi offs, len)) (h1 : ¬ wr x < lo) (h2 : ¬ hi < wr x) (ho : offs[(wr x - lo).toNat]? = some off) (ht : (pc : Int) + off = (t : Int)) (k : Go l D ck ad sh own cc nL R t ls st w K) : Go l D ck ad sh own cc nL R pc ls (vI x :: st) w K := by
  intro p e s m args below meth c A cells slots Q H locs lsR C hP hS hl hex
  exact lv_tableIn C.1 C.2.1 hd (by rw [toInt_oi]; exact h1) (by rw [toInt_oi]; exact h2) (by rw [toInt_oi]; exact ho) ht (k p e s m args below meth c A cells slots Q H locs _ C hP hS hl hex)
theorem go_tsOut {x dflt lo hi : Int} {offs : Array Int} {len t : Nat} (hd : decode cc pc = .ok (.tableswitch dflt lo hi offs, len)) (h : wr x < lo ∨ hi < wr x) (ht : (pc : Int) + dflt = (t : Int)) (k : Go l D ck ad sh own cc nL R t ls st w K) : Go l D ck ad sh own cc nL R pc ls (vI x :: st) w K := by
  intro p e s m args below meth c A cells slots Q H locs lsR C hP hS hl hex
  exact lv_tableOut C.1 C.2.1 hd (by rw [toInt_oi]; exact h) ht (k p e s m args below meth c A cells slots Q H locs _ C hP hS hl hex)
theorem go_getI {C0 : String} {T : u_T} {N ci : Nat} {rs : List (Option Nat)} {b i idx : Nat} (hcl : vwCl[ci]? = some (C0, T, N)) (hin : ∀ w ∈ u_ws C0 T N, w ∈ lw_gw) (hs : sh[b]? = some (.inl (ci, rs))) (hiN : i < N) (hlk : Cond.fieldLink own idx (T i).1 (T i).2.1 (T i).2.2.1 ∈ lw_gw) (hr : rs[i]? = some none) (hd : decode cc pc = .ok (.getfield idx, 3)) (hq : pc + 3 = q) (k : Go l D ck ad sh own cc nL R q ls (vI (w b i) :: st) w K) : Go l D ck ad sh own cc nL R pc ls (vR b :: st) w K := by
  subst hq
  intro p e s m args below meth c A cells slots Q H locs lsR C hP hS hl hex
  exact va_get C.1 C.2.1 C.2.2.2.2.1 hin C.2.2.2.1 C.2.2.2.2.2.1 hP b (wld_at hs) hcl i hiN (C.2.2.2.2.1 _ hlk) (fun _ h9 => h9) (by simp [hr, fldv, mval]) hd (k p e s m args below meth c A cells slots Q H locs _ C hP hS hl hex)
theorem go_getR {C0 : String} {T : u_T} {N ci : Nat} {rs : List (Option Nat)} {b i idx : Nat} {r : Nat} (hcl : vwCl[ci]? = some (C0, T, N)) (hin : ∀ w ∈ u_ws C0 T N, w ∈ lw_gw) (hs : sh[b]? = some (.inl (ci, rs))) (hiN : i < N) (hlk : Cond.fieldLink own idx (T i).1 (T i).2.1 (T i).2.2.1 ∈ lw_gw) (hr : rs[i]? = some (some r)) (hd : decode cc pc = .ok (.getfield idx, 3)) (hq : pc + 3 = q) (k : Go l D ck ad sh own cc nL R q ls (vR r :: st) w K) : Go l D ck ad sh own cc nL R pc ls (vR b :: st) w K := by
  subst hq
  intro p e s m args below meth c A cells slots Q H locs lsR C hP hS hl hex
  exact va_get C.1 C.2.1 C.2.2.2.2.1 hin C.2.2.2.1 C.2.2.2.2.2.1 hP b (wld_at hs) hcl i hiN (C.2.2.2.2.1 _ hlk) (fun _ h9 => h9) (by simp [hr, fldv, mval]) hd (k p e s m args below meth c A cells slots Q H locs _ C hP hS hl hex)
theorem go_putI {C0 : String} {T : u_T} {N ci : Nat} {rs : List (Option Nat)} {b i idx : Nat} {x : Int} (hcl : vwCl[ci]? = some (C0, T, N)) (hin : ∀ w ∈ u_ws C0 T N, w ∈ lw_gw) (hs : sh[b]? = some (.inl (ci, rs))) (hiN : i < N) (hlk : Cond.fieldLink own idx (T i).1 (T i).2.1 (T i).2.2.1 ∈ lw_gw) (hr : rs[i]? = some none) (ty0 : Nat → FieldType) (hty : ∀ k, k < N → parseFieldDescriptor (T k).2.2.1 = some (ty0 k)) (hnm : ∀ a, a < N → ∀ b, b < N → a ≠ b → (T a).2.1 ≠ (T b).2.1) (hfin : (T i).2.2.2 = false) (hdt : parseFieldDescriptor (T i).2.2.1 = some .int) (hd : decode cc pc = .ok (.putfield idx, 3)) (hq : pc + 3 = q) (k : Go l D ck ad sh own cc nL R q ls st (mup w b i x) K) : Go l D ck ad sh own cc nL R pc ls (vI x :: vR b :: st) w K := by
  subst hq
  intro p e s m args below meth c A cells slots Q H locs lsR C hP hS hl hex
  have hil : i < rs.length := (List.getElem?_eq_some_iff.mp hr).1
  refine va_put (ty := .int) C.1 C.2.1 C.2.2.2.2.1 hin ty0 hty hnm C.2.2.2.1 C.2.2.2.2.2.1 hP (wld_D C.2.2.2.2.2.2.2.2.2 C.2.2.2.2.2.2.1) hS b (wld_at hs) hcl i hiN (C.2.2.2.2.1 _ hlk) (fun _ h9 => h9) hfin hdt rfl rfl (by simpa using hil) hd (fun H1 locs1 hP1 hD1 hS1 => ?_)
  rw [wld_set (k := i) (v := x) hs (celE_put hr)] at hP1
  exact k p e s m args below meth c A cells slots Q H1 locs1 _ C hP1 hS1 hl hex
theorem go_iald {b n j : Nat} {x : Int} (hs : sh[b]? = some (.inr (.inl (0, n)))) (hx : wr x = (j : Int)) (hj : j < n) (hd : decode cc pc = .ok (.iaload, 1)) (hq : pc + 1 = q) (k : Go l D ck ad sh own cc nL R q ls (vI (w b j) :: st) w K) : Go l D ck ad sh own cc nL R pc ls (vI x :: vR b :: st) w K := by
  subst hq
  intro p e s m args below meth c A cells slots Q H locs lsR C hP hS hl hex
  have z := (k p e s m args below meth c A cells slots Q H locs _ C hP hS hl hex)
  rw [← oi_nat hx] at z
  exact va_iald C.1 C.2.1 C.2.2.2.2.2.1 hP b 0 (wld_at hs) rfl (vp_in_oi hx hj) hd z
theorem go_zald {b n j : Nat} {x : Int} (hs : sh[b]? = some (.inr (.inl (1, n)))) (hx : wr x = (j : Int)) (hj : j < n) (hd : decode cc pc = .ok (.baload, 1)) (hq : pc + 1 = q) (k : Go l D ck ad sh own cc nL R q ls (vI (w b j) :: st) w K) : Go l D ck ad sh own cc nL R pc ls (vI x :: vR b :: st) w K := by
  subst hq
  intro p e s m args below meth c A cells slots Q H locs lsR C hP hS hl hex
  have z := (k p e s m args below meth c A cells slots Q H locs _ C hP hS hl hex)
  rw [← oi_nat hx] at z
  exact va_zald C.1 C.2.1 C.2.2.2.2.2.1 hP b 1 (wld_at hs) rfl (vp_in_oi hx hj) hd z
theorem go_cald {b n j : Nat} {x : Int} (hs : sh[b]? = some (.inr (.inl (2, n)))) (hx : wr x = (j : Int)) (hj : j < n) (hd : decode cc pc = .ok (.caload, 1)) (hq : pc + 1 = q) (k : Go l D ck ad sh own cc nL R q ls (vI (w b j) :: st) w K) : Go l D ck ad sh own cc nL R pc ls (vI x :: vR b :: st) w K := by
  subst hq
  intro p e s m args below meth c A cells slots Q H locs lsR C hP hS hl hex
  have z := (k p e s m args below meth c A cells slots Q H locs _ C hP hS hl hex)
  rw [← oi_nat hx] at z
  exact va_cald C.1 C.2.1 C.2.2.2.2.2.1 hP b 2 (wld_at hs) rfl (vp_in_oi hx hj) hd z
theorem go_iast {b n j : Nat} {x v : Int} (hs : sh[b]? = some (.inr (.inl (0, n)))) (hx : wr x = (j : Int)) (hj : j < n) (hd : decode cc pc = .ok (.iastore, 1)) (hq : pc + 1 = q) (k : Go l D ck ad sh own cc nL R q ls st (mup w b j v) K) : Go l D ck ad sh own cc nL R pc ls (vI v :: vI x :: vR b :: st) w K := by
  subst hq
  intro p e s m args below meth c A cells slots Q H locs lsR C hP hS hl hex
  refine va_iast C.1 C.2.1 C.2.2.2.2.2.1 hP (wld_D C.2.2.2.2.2.2.2.2.2 C.2.2.2.2.2.2.1) hS b 0 (wld_at hs) rfl (vp_in_oi hx hj) hd (fun H1 locs1 hP1 hD1 hS1 => ?_)
  rw [oi_nat hx, wld_set (k := j) (v := v) hs (celE_st rfl)] at hP1
  exact k p e s m args below meth c A cells slots Q H1 locs1 _ C hP1 hS1 hl hex
theorem go_zast {b n j : Nat} {x v : Int} (hs : sh[b]? = some (.inr (.inl (1, n)))) (hx : wr x = (j : Int)) (hj : j < n) (hd : decode cc pc = .ok (.bastore, 1)) (hq : pc + 1 = q) (k : Go l D ck ad sh own cc nL R q ls st (mup w b j (narZ .boolean v)) K) : Go l D ck ad sh own cc nL R pc ls (vI v :: vI x :: vR b :: st) w K := by
  subst hq
  intro p e s m args below meth c A cells slots Q H locs lsR C hP hS hl hex
  refine va_zast C.1 C.2.1 C.2.2.2.2.2.1 hP (wld_D C.2.2.2.2.2.2.2.2.2 C.2.2.2.2.2.2.1) hS b 1 (wld_at hs) rfl (vp_in_oi hx hj) hd (fun H1 locs1 hP1 hD1 hS1 => ?_)
  rw [oi_nat hx, wld_set (k := j) (v := (narZ .boolean v)) hs (celE_st (oi_ti _))] at hP1
  exact k p e s m args below meth c A cells slots Q H1 locs1 _ C hP1 hS1 hl hex
theorem go_cast {b n j : Nat} {x v : Int} (hs : sh[b]? = some (.inr (.inl (2, n)))) (hx : wr x = (j : Int)) (hj : j < n) (hd : decode cc pc = .ok (.castore, 1)) (hq : pc + 1 = q) (k : Go l D ck ad sh own cc nL R q ls st (mup w b j (narZ .char v)) K) : Go l D ck ad sh own cc nL R pc ls (vI v :: vI x :: vR b :: st) w K := by
  subst hq
  intro p e s m args below meth c A cells slots Q H locs lsR C hP hS hl hex
  refine va_cast C.1 C.2.1 C.2.2.2.2.2.1 hP (wld_D C.2.2.2.2.2.2.2.2.2 C.2.2.2.2.2.2.1) hS b 2 (wld_at hs) rfl (vp_in_oi hx hj) hd (fun H1 locs1 hP1 hD1 hS1 => ?_)
  rw [oi_nat hx, wld_set (k := j) (v := (narZ .char v)) hs (celE_st (oi_ti _))] at hP1
  exact k p e s m args below meth c A cells slots Q H1 locs1 _ C hP1 hS1 hl hex
theorem go_alen {b n tc : Nat} (hs : sh[b]? = some (.inr (.inl (tc, n)))) (ht : tc = 0) (hd : decode cc pc = .ok (.arraylength, 1)) (hq : pc + 1 = q) (k : Go l D ck ad sh own cc nL R q ls (vI (n : Int) :: st) w K) : Go l D ck ad sh own cc nL R pc ls (vR b :: st) w K := by
  subst hq
  intro p e s m args below meth c A cells slots Q H locs lsR C hP hS hl hex
  subst ht
  exact va_alen (x := (n, .inl _)) (v := Int32.ofInt (n : Int)) C.1 C.2.1 C.2.2.2.2.2.1 hP b 0 (wld_at hs) (ty := .int) rfl (oi_ofNat n) hd (k p e s m args below meth c A cells slots Q H locs _ C hP hS hl hex)
theorem go_aald3 {b j r : Nat} {rs : List Nat} {x : Int} (hs : sh[b]? = some (.inr (.inr (3, rs)))) (hx : wr x = (j : Int)) (hr : rs[j]? = some r) (hd : decode cc pc = .ok (.aaload, 1)) (hq : pc + 1 = q) (k : Go l D ck ad sh own cc nL R q ls (vR r :: st) w K) : Go l D ck ad sh own cc nL R pc ls (vI x :: vR b :: st) w K := by
  subst hq
  intro p e s m args below meth c A cells slots Q H locs lsR C hP hS hl hex
  have z := (k p e s m args below meth c A cells slots Q H locs _ C hP hS hl hex)
  have hj := (List.getElem?_eq_some_iff.mp hr).1
  refine va_aldq (C := RX5) C.1 C.2.1 C.2.2.2.2.2.1 hP b 3 (wld_at hs) rfl (vp_in_oi hx hj) hd ?_
  rw [oi_nat hx]
  simp only [hr, Option.map_some]
  exact z
theorem go_aald4 {b j r : Nat} {rs : List Nat} {x : Int} (hs : sh[b]? = some (.inr (.inr (4, rs)))) (hx : wr x = (j : Int)) (hr : rs[j]? = some r) (hd : decode cc pc = .ok (.aaload, 1)) (hq : pc + 1 = q) (k : Go l D ck ad sh own cc nL R q ls (vR r :: st) w K) : Go l D ck ad sh own cc nL R pc ls (vI x :: vR b :: st) w K := by
  subst hq
  intro p e s m args below meth c A cells slots Q H locs lsR C hP hS hl hex
  have z := (k p e s m args below meth c A cells slots Q H locs _ C hP hS hl hex)
  have hj := (List.getElem?_eq_some_iff.mp hr).1
  refine va_aldq (C := RX1) C.1 C.2.1 C.2.2.2.2.2.1 hP b 4 (wld_at hs) rfl (vp_in_oi hx hj) hd ?_
  rw [oi_nat hx]
  simp only [hr, Option.map_some]
  exact z
theorem go_gets0 {idx : Nat} (hlk : Cond.fieldLink own idx RX6 "STANDARD_ARCS" "[I" ∈ lw_gw) (hd : decode cc pc = .ok (.getstatic idx, 3)) (hq : pc + 3 = q) (k : Go l D ck ad sh own cc nL R q ls (vR 1000 :: st) w K) : Go l D ck ad sh own cc nL R pc ls st w K := by
  subst hq
  intro p e s m args below meth c A cells slots Q H locs lsR C hP hS hl hex
  exact va_gets C.1 C.2.1 C.2.2.2.2.2.2.2.2.1.1.1 hS C.2.2.2.1 (C.2.2.2.2.1 _ hlk) (fun _ h9 => h9) hd (k p e s m args below meth c A cells slots Q H locs _ C hP hS hl hex)
theorem go_tald0 {j : Nat} {x : Int} (hx : wr x = (j : Int)) (hj : j < 6) (hd : decode cc pc = .ok (.iaload, 1)) (hq : pc + 1 = q) (k : Go l D ck ad sh own cc nL R q ls (vI (L_arcs.getD j 0) :: st) w K) : Go l D ck ad sh own cc nL R pc ls (vI x :: vR 1000 :: st) w K := by
  subst hq
  intro p e s m args below meth c A cells slots Q H locs lsR C hP hS hl hex
  have z := (k p e s m args below meth c A cells slots Q H locs _ C hP hS hl hex)
  exact va_ti C.1 C.2.1 C.2.2.2.2.2.2.2.2.1.1.2 hS (vp_in_oi hx hj) (by rw [oi_nat hx]; rfl) hd z
theorem go_gets1 {idx : Nat} (hlk : Cond.fieldLink own idx RX6 "STANDARD_STARTS" "[I" ∈ lw_gw) (hd : decode cc pc = .ok (.getstatic idx, 3)) (hq : pc + 3 = q) (k : Go l D ck ad sh own cc nL R q ls (vR 1001 :: st) w K) : Go l D ck ad sh own cc nL R pc ls st w K := by
  subst hq
  intro p e s m args below meth c A cells slots Q H locs lsR C hP hS hl hex
  exact va_gets C.1 C.2.1 C.2.2.2.2.2.2.2.2.1.2.1.1 hS C.2.2.2.1 (C.2.2.2.2.1 _ hlk) (fun _ h9 => h9) hd (k p e s m args below meth c A cells slots Q H locs _ C hP hS hl hex)
theorem go_tald1 {j : Nat} {x : Int} (hx : wr x = (j : Int)) (hj : j < 7) (hd : decode cc pc = .ok (.iaload, 1)) (hq : pc + 1 = q) (k : Go l D ck ad sh own cc nL R q ls (vI (L_starts.getD j 0) :: st) w K) : Go l D ck ad sh own cc nL R pc ls (vI x :: vR 1001 :: st) w K := by
  subst hq
  intro p e s m args below meth c A cells slots Q H locs lsR C hP hS hl hex
  have z := (k p e s m args below meth c A cells slots Q H locs _ C hP hS hl hex)
  exact va_ti C.1 C.2.1 C.2.2.2.2.2.2.2.2.1.2.1.2 hS (vp_in_oi hx hj) (by rw [oi_nat hx]; rfl) hd z
theorem go_gets2 {idx : Nat} (hlk : Cond.fieldLink own idx RX6 "STANDARD_CROSSINGS" "[I" ∈ lw_gw) (hd : decode cc pc = .ok (.getstatic idx, 3)) (hq : pc + 3 = q) (k : Go l D ck ad sh own cc nL R q ls (vR 1002 :: st) w K) : Go l D ck ad sh own cc nL R pc ls st w K := by
  subst hq
  intro p e s m args below meth c A cells slots Q H locs lsR C hP hS hl hex
  exact va_gets C.1 C.2.1 C.2.2.2.2.2.2.2.2.1.2.2.1 hS C.2.2.2.1 (C.2.2.2.2.1 _ hlk) (fun _ h9 => h9) hd (k p e s m args below meth c A cells slots Q H locs _ C hP hS hl hex)
theorem go_tald2 {j : Nat} {x : Int} (hx : wr x = (j : Int)) (hj : j < 56) (hd : decode cc pc = .ok (.iaload, 1)) (hq : pc + 1 = q) (k : Go l D ck ad sh own cc nL R q ls (vI (L_cross.getD j 0) :: st) w K) : Go l D ck ad sh own cc nL R pc ls (vI x :: vR 1002 :: st) w K := by
  subst hq
  intro p e s m args below meth c A cells slots Q H locs lsR C hP hS hl hex
  have z := (k p e s m args below meth c A cells slots Q H locs _ C hP hS hl hex)
  exact va_ti C.1 C.2.1 C.2.2.2.2.2.2.2.2.1.2.2.2 hS (vp_in_oi hx hj) (by rw [oi_nat hx]; rfl) hd z
theorem go_iret {x : Int} (hd : decode cc pc = .ok (.ireturn, 1)) (hk : K (some (vI x)) w) : Go l D ck ad sh own cc nL R pc ls [vI x] w K := by
  intro p e s m args below meth c A cells slots Q H locs lsR C hP hS hl hex
  exact hex (some (vI x)) w pc lsR H locs hk hd hP hS
theorem go_lret {x : Int} (hd : decode cc pc = .ok (.lreturn, 1)) (hk : K (some (vL x)) w) : Go l D ck ad sh own cc nL R pc ls [vL x] w K := by
  intro p e s m args below meth c A cells slots Q H locs lsR C hP hS hl hex
  exact hex (some (vL x)) w pc lsR H locs hk hd hP hS
theorem go_vret (hd : decode cc pc = .ok (.return_, 1)) (hk : K none w) : Go l D ck ad sh own cc nL R pc ls [] w K := by
  intro p e s m args below meth c A cells slots Q H locs lsR C hP hS hl hex
  exact hex none w pc lsR H locs hk hd hP hS
theorem Go.mono {K2 : Post} (h : ∀ r w, K r w → K2 r w) (k : Go l D ck ad sh own cc nL R pc ls st w K) : Go l D ck ad sh own cc nL R pc ls st w K2 := by
  intro p e s m args below meth c A cells slots Q H locs lsR C hP hS hl hex
  exact k p e s m args below meth c A cells slots Q H locs lsR C hP hS hl (fun r w2 pc2 ls2 H2 locs2 hk => hex r w2 pc2 ls2 H2 locs2 (h r w2 hk))
theorem go_icmp_eq2 {x y off : Int} {t : Nat} (hd : decode cc pc = .ok (.if_icmp .eq off, 3)) (ht : (pc : Int) + off = (t : Int)) (hq : pc + 3 = q) (hr : (-2147483648 ≤ x ∧ x < 2147483648) ∧ (-2147483648 ≤ y ∧ y < 2147483648)) (kt : x = y → Go l D ck ad sh own cc nL R t ls st w K) (kf : ¬ x = y → Go l D ck ad sh own cc nL R q ls st w K) : Go l D ck ad sh own cc nL R pc ls (vI y :: vI x :: st) w K := by
  have ex := wr_of hr.1.1 hr.1.2
  have ey := wr_of hr.2.1 hr.2.2
  refine go_icmp_eq hd ht hq (fun z => kt ?_) (fun z => kf ?_) <;> (rw [ex, ey] at z; omega)
theorem go_if_eq2 {x off : Int} {t : Nat} (hd : decode cc pc = .ok (.ifCond .eq off, 3)) (ht : (pc : Int) + off = (t : Int)) (hq : pc + 3 = q) (hr : (-2147483648 ≤ x ∧ x < 2147483648)) (kt : x = 0 → Go l D ck ad sh own cc nL R t ls st w K) (kf : ¬ x = 0 → Go l D ck ad sh own cc nL R q ls st w K) : Go l D ck ad sh own cc nL R pc ls (vI x :: st) w K := by
  have ex := wr_of hr.1 hr.2
  refine go_if_eq hd ht hq (fun z => kt ?_) (fun z => kf ?_) <;> (rw [ex] at z; omega)
theorem go_if_eqT {x off : Int} {t : Nat} (hd : decode cc pc = .ok (.ifCond .eq off, 3)) (ht : (pc : Int) + off = (t : Int)) (h : wr x = 0) (kt : Go l D ck ad sh own cc nL R t ls st w K) : Go l D ck ad sh own cc nL R pc ls (vI x :: st) w K := go_if_eq hd ht rfl (fun _ => kt) (fun z => absurd (by omega) z)
theorem go_if_eqF {x off : Int} {t : Nat} (hd : decode cc pc = .ok (.ifCond .eq off, 3)) (hq : pc + 3 = q) (ht : (pc : Int) + off = (t : Int)) (h : ¬ (wr x = 0)) (kf : Go l D ck ad sh own cc nL R q ls st w K) : Go l D ck ad sh own cc nL R pc ls (vI x :: st) w K := go_if_eq hd ht hq (fun z => absurd (by omega) h) (fun _ => kf)
theorem go_icmp_ne2 {x y off : Int} {t : Nat} (hd : decode cc pc = .ok (.if_icmp .ne off, 3)) (ht : (pc : Int) + off = (t : Int)) (hq : pc + 3 = q) (hr : (-2147483648 ≤ x ∧ x < 2147483648) ∧ (-2147483648 ≤ y ∧ y < 2147483648)) (kt : ¬ x = y → Go l D ck ad sh own cc nL R t ls st w K) (kf : x = y → Go l D ck ad sh own cc nL R q ls st w K) : Go l D ck ad sh own cc nL R pc ls (vI y :: vI x :: st) w K := by
  have ex := wr_of hr.1.1 hr.1.2
  have ey := wr_of hr.2.1 hr.2.2
  refine go_icmp_ne hd ht hq (fun z => kt ?_) (fun z => kf ?_) <;> (rw [ex, ey] at z; omega)
theorem go_if_ne2 {x off : Int} {t : Nat} (hd : decode cc pc = .ok (.ifCond .ne off, 3)) (ht : (pc : Int) + off = (t : Int)) (hq : pc + 3 = q) (hr : (-2147483648 ≤ x ∧ x < 2147483648)) (kt : ¬ x = 0 → Go l D ck ad sh own cc nL R t ls st w K) (kf : x = 0 → Go l D ck ad sh own cc nL R q ls st w K) : Go l D ck ad sh own cc nL R pc ls (vI x :: st) w K := by
  have ex := wr_of hr.1 hr.2
  refine go_if_ne hd ht hq (fun z => kt ?_) (fun z => kf ?_) <;> (rw [ex] at z; omega)
theorem go_if_neT {x off : Int} {t : Nat} (hd : decode cc pc = .ok (.ifCond .ne off, 3)) (ht : (pc : Int) + off = (t : Int)) (h : ¬ wr x = 0) (kt : Go l D ck ad sh own cc nL R t ls st w K) : Go l D ck ad sh own cc nL R pc ls (vI x :: st) w K := go_if_ne hd ht rfl (fun _ => kt) (fun z => absurd (by omega) z)
theorem go_if_neF {x off : Int} {t : Nat} (hd : decode cc pc = .ok (.ifCond .ne off, 3)) (hq : pc + 3 = q) (ht : (pc : Int) + off = (t : Int)) (h : ¬ (¬ wr x = 0)) (kf : Go l D ck ad sh own cc nL R q ls st w K) : Go l D ck ad sh own cc nL R pc ls (vI x :: st) w K := go_if_ne hd ht hq (fun z => absurd (by omega) h) (fun _ => kf)
theorem go_icmp_lt2 {x y off : Int} {t : Nat} (hd : decode cc pc = .ok (.if_icmp .lt off, 3)) (ht : (pc : Int) + off = (t : Int)) (hq : pc + 3 = q) (hr : (-2147483648 ≤ x ∧ x < 2147483648) ∧ (-2147483648 ≤ y ∧ y < 2147483648)) (kt : x < y → Go l D ck ad sh own cc nL R t ls st w K) (kf : y ≤ x → Go l D ck ad sh own cc nL R q ls st w K) : Go l D ck ad sh own cc nL R pc ls (vI y :: vI x :: st) w K := by
  have ex := wr_of hr.1.1 hr.1.2
  have ey := wr_of hr.2.1 hr.2.2
  refine go_icmp_lt hd ht hq (fun z => kt ?_) (fun z => kf ?_) <;> (rw [ex, ey] at z; omega)
theorem go_if_lt2 {x off : Int} {t : Nat} (hd : decode cc pc = .ok (.ifCond .lt off, 3)) (ht : (pc : Int) + off = (t : Int)) (hq : pc + 3 = q) (hr : (-2147483648 ≤ x ∧ x < 2147483648)) (kt : x < 0 → Go l D ck ad sh own cc nL R t ls st w K) (kf : 0 ≤ x → Go l D ck ad sh own cc nL R q ls st w K) : Go l D ck ad sh own cc nL R pc ls (vI x :: st) w K := by
  have ex := wr_of hr.1 hr.2
  refine go_if_lt hd ht hq (fun z => kt ?_) (fun z => kf ?_) <;> (rw [ex] at z; omega)
theorem go_if_ltT {x off : Int} {t : Nat} (hd : decode cc pc = .ok (.ifCond .lt off, 3)) (ht : (pc : Int) + off = (t : Int)) (h : wr x < 0) (kt : Go l D ck ad sh own cc nL R t ls st w K) : Go l D ck ad sh own cc nL R pc ls (vI x :: st) w K := go_if_lt hd ht rfl (fun _ => kt) (fun z => absurd (by omega) z)
theorem go_if_ltF {x off : Int} {t : Nat} (hd : decode cc pc = .ok (.ifCond .lt off, 3)) (hq : pc + 3 = q) (ht : (pc : Int) + off = (t : Int)) (h : ¬ (wr x < 0)) (kf : Go l D ck ad sh own cc nL R q ls st w K) : Go l D ck ad sh own cc nL R pc ls (vI x :: st) w K := go_if_lt hd ht hq (fun z => absurd (by omega) h) (fun _ => kf)
theorem go_icmp_ge2 {x y off : Int} {t : Nat} (hd : decode cc pc = .ok (.if_icmp .ge off, 3)) (ht : (pc : Int) + off = (t : Int)) (hq : pc + 3 = q) (hr : (-2147483648 ≤ x ∧ x < 2147483648) ∧ (-2147483648 ≤ y ∧ y < 2147483648)) (kt : y ≤ x → Go l D ck ad sh own cc nL R t ls st w K) (kf : x < y → Go l D ck ad sh own cc nL R q ls st w K) : Go l D ck ad sh own cc nL R pc ls (vI y :: vI x :: st) w K := by
  have ex := wr_of hr.1.1 hr.1.2
  have ey := wr_of hr.2.1 hr.2.2
  refine go_icmp_ge hd ht hq (fun z => kt ?_) (fun z => kf ?_) <;> (rw [ex, ey] at z; omega)
theorem go_if_ge2 {x off : Int} {t : Nat} (hd : decode cc pc = .ok (.ifCond .ge off, 3)) (ht : (pc : Int) + off = (t : Int)) (hq : pc + 3 = q) (hr : (-2147483648 ≤ x ∧ x < 2147483648)) (kt : 0 ≤ x → Go l D ck ad sh own cc nL R t ls st w K) (kf : x < 0 → Go l D ck ad sh own cc nL R q ls st w K) : Go l D ck ad sh own cc nL R pc ls (vI x :: st) w K := by
  have ex := wr_of hr.1 hr.2
  refine go_if_ge hd ht hq (fun z => kt ?_) (fun z => kf ?_) <;> (rw [ex] at z; omega)
theorem go_if_geT {x off : Int} {t : Nat} (hd : decode cc pc = .ok (.ifCond .ge off, 3)) (ht : (pc : Int) + off = (t : Int)) (h : 0 ≤ wr x) (kt : Go l D ck ad sh own cc nL R t ls st w K) : Go l D ck ad sh own cc nL R pc ls (vI x :: st) w K := go_if_ge hd ht rfl (fun _ => kt) (fun z => absurd (by omega) z)
theorem go_if_geF {x off : Int} {t : Nat} (hd : decode cc pc = .ok (.ifCond .ge off, 3)) (hq : pc + 3 = q) (ht : (pc : Int) + off = (t : Int)) (h : ¬ (0 ≤ wr x)) (kf : Go l D ck ad sh own cc nL R q ls st w K) : Go l D ck ad sh own cc nL R pc ls (vI x :: st) w K := go_if_ge hd ht hq (fun z => absurd (by omega) h) (fun _ => kf)
theorem go_icmp_gt2 {x y off : Int} {t : Nat} (hd : decode cc pc = .ok (.if_icmp .gt off, 3)) (ht : (pc : Int) + off = (t : Int)) (hq : pc + 3 = q) (hr : (-2147483648 ≤ x ∧ x < 2147483648) ∧ (-2147483648 ≤ y ∧ y < 2147483648)) (kt : y < x → Go l D ck ad sh own cc nL R t ls st w K) (kf : x ≤ y → Go l D ck ad sh own cc nL R q ls st w K) : Go l D ck ad sh own cc nL R pc ls (vI y :: vI x :: st) w K := by
  have ex := wr_of hr.1.1 hr.1.2
  have ey := wr_of hr.2.1 hr.2.2
  refine go_icmp_gt hd ht hq (fun z => kt ?_) (fun z => kf ?_) <;> (rw [ex, ey] at z; omega)
theorem go_if_gt2 {x off : Int} {t : Nat} (hd : decode cc pc = .ok (.ifCond .gt off, 3)) (ht : (pc : Int) + off = (t : Int)) (hq : pc + 3 = q) (hr : (-2147483648 ≤ x ∧ x < 2147483648)) (kt : 0 < x → Go l D ck ad sh own cc nL R t ls st w K) (kf : x ≤ 0 → Go l D ck ad sh own cc nL R q ls st w K) : Go l D ck ad sh own cc nL R pc ls (vI x :: st) w K := by
  have ex := wr_of hr.1 hr.2
  refine go_if_gt hd ht hq (fun z => kt ?_) (fun z => kf ?_) <;> (rw [ex] at z; omega)
theorem go_if_gtT {x off : Int} {t : Nat} (hd : decode cc pc = .ok (.ifCond .gt off, 3)) (ht : (pc : Int) + off = (t : Int)) (h : 0 < wr x) (kt : Go l D ck ad sh own cc nL R t ls st w K) : Go l D ck ad sh own cc nL R pc ls (vI x :: st) w K := go_if_gt hd ht rfl (fun _ => kt) (fun z => absurd (by omega) z)
theorem go_if_gtF {x off : Int} {t : Nat} (hd : decode cc pc = .ok (.ifCond .gt off, 3)) (hq : pc + 3 = q) (ht : (pc : Int) + off = (t : Int)) (h : ¬ (0 < wr x)) (kf : Go l D ck ad sh own cc nL R q ls st w K) : Go l D ck ad sh own cc nL R pc ls (vI x :: st) w K := go_if_gt hd ht hq (fun z => absurd (by omega) h) (fun _ => kf)
theorem go_icmp_le2 {x y off : Int} {t : Nat} (hd : decode cc pc = .ok (.if_icmp .le off, 3)) (ht : (pc : Int) + off = (t : Int)) (hq : pc + 3 = q) (hr : (-2147483648 ≤ x ∧ x < 2147483648) ∧ (-2147483648 ≤ y ∧ y < 2147483648)) (kt : x ≤ y → Go l D ck ad sh own cc nL R t ls st w K) (kf : y < x → Go l D ck ad sh own cc nL R q ls st w K) : Go l D ck ad sh own cc nL R pc ls (vI y :: vI x :: st) w K := by
  have ex := wr_of hr.1.1 hr.1.2
  have ey := wr_of hr.2.1 hr.2.2
  refine go_icmp_le hd ht hq (fun z => kt ?_) (fun z => kf ?_) <;> (rw [ex, ey] at z; omega)
theorem go_if_le2 {x off : Int} {t : Nat} (hd : decode cc pc = .ok (.ifCond .le off, 3)) (ht : (pc : Int) + off = (t : Int)) (hq : pc + 3 = q) (hr : (-2147483648 ≤ x ∧ x < 2147483648)) (kt : x ≤ 0 → Go l D ck ad sh own cc nL R t ls st w K) (kf : 0 < x → Go l D ck ad sh own cc nL R q ls st w K) : Go l D ck ad sh own cc nL R pc ls (vI x :: st) w K := by
  have ex := wr_of hr.1 hr.2
  refine go_if_le hd ht hq (fun z => kt ?_) (fun z => kf ?_) <;> (rw [ex] at z; omega)
theorem go_if_leT {x off : Int} {t : Nat} (hd : decode cc pc = .ok (.ifCond .le off, 3)) (ht : (pc : Int) + off = (t : Int)) (h : wr x ≤ 0) (kt : Go l D ck ad sh own cc nL R t ls st w K) : Go l D ck ad sh own cc nL R pc ls (vI x :: st) w K := go_if_le hd ht rfl (fun _ => kt) (fun z => absurd (by omega) z)
theorem go_if_leF {x off : Int} {t : Nat} (hd : decode cc pc = .ok (.ifCond .le off, 3)) (hq : pc + 3 = q) (ht : (pc : Int) + off = (t : Int)) (h : ¬ (wr x ≤ 0)) (kf : Go l D ck ad sh own cc nL R q ls st w K) : Go l D ck ad sh own cc nL R pc ls (vI x :: st) w K := go_if_le hd ht hq (fun z => absurd (by omega) h) (fun _ => kf)
theorem go_irem2 {x y : Int} (hr : (-2147483648 ≤ x ∧ x < 2147483648) ∧ (-2147483648 ≤ y ∧ y < 2147483648)) (hne : ¬ y = 0) (hd : decode cc pc = .ok (.irem, 1)) (hq : pc + 1 = q) (k : Go l D ck ad sh own cc nL R q ls (vI (x.tmod y) :: st) w K) : Go l D ck ad sh own cc nL R pc ls (vI y :: vI x :: st) w K := by
  have ex := wr_of hr.1.1 hr.1.2
  have ey := wr_of hr.2.1 hr.2.2
  refine go_irem (by rw [ey]; exact hne) hd hq ?_
  rw [ex, ey]; exact k
theorem go_idiv2 {x y : Int} (hr : (-2147483648 ≤ x ∧ x < 2147483648) ∧ (-2147483648 ≤ y ∧ y < 2147483648)) (hne : ¬ y = 0) (hd : decode cc pc = .ok (.idiv, 1)) (hq : pc + 1 = q) (k : Go l D ck ad sh own cc nL R q ls (vI (x.tdiv y) :: st) w K) : Go l D ck ad sh own cc nL R pc ls (vI y :: vI x :: st) w K := by
  have ex := wr_of hr.1.1 hr.1.2
  have ey := wr_of hr.2.1 hr.2.2
  refine go_idiv (by rw [ey]; exact hne) hd hq ?_
  rw [ex, ey]; exact k
theorem go_i2l2 {x : Int} (hr : (-2147483648 ≤ x ∧ x < 2147483648)) (hd : decode cc pc = .ok (.i2l, 1)) (hq : pc + 1 = q) (k : Go l D ck ad sh own cc nL R q ls (vL x :: st) w K) : Go l D ck ad sh own cc nL R pc ls (vI x :: st) w K := by
  refine go_i2l hd hq ?_
  rw [wr_of hr.1 hr.2]; exact k
end GO
/-! a method's contract out of the walk of its body -/
def ils : List MV → List (Option MV)
  | [] => []
  | .inr (.inl x) :: r => some (vL x) :: none :: ils r
  | .inl x :: r => some (vI x) :: ils r
  | .inr (.inr k) :: r => some (vR k) :: ils r
theorem ils_at {ad : Nat → Nat} : ∀ (as : List MV) (b i : Nat) (v : MV), (ils as)[i]? = some (some v) → (b + i, mval ad v) ∈ lv_args b (as.map (mval ad))
  | [], _, _, _, h => by simp [ils] at h
  | .inl x :: r, b, i, v, h => by
    cases i with
    | zero => simp only [ils, List.getElem?_cons_zero, Option.some.injEq] at h; subst h; exact List.mem_cons_self
    | succ i =>
      simp only [ils, List.getElem?_cons_succ] at h
      have := ils_at (ad := ad) r (b + 1) i v h
      rw [show b + (i + 1) = b + 1 + i by omega]
      exact List.mem_cons_of_mem _ this
  | .inr (.inr x) :: r, b, i, v, h => by
    cases i with
    | zero => simp only [ils, List.getElem?_cons_zero, Option.some.injEq] at h; subst h; exact List.mem_cons_self
    | succ i =>
      simp only [ils, List.getElem?_cons_succ] at h
      have := ils_at (ad := ad) r (b + 1) i v h
      rw [show b + (i + 1) = b + 1 + i by omega]
      exact List.mem_cons_of_mem _ this
  | .inr (.inl x) :: r, b, i, v, h => by
    cases i with
    | zero => simp only [ils, List.getElem?_cons_zero, Option.some.injEq] at h; subst h; exact List.mem_cons_self
    | succ i =>
      cases i with
      | zero => simp [ils] at h
      | succ i =>
        simp only [ils, List.getElem?_cons_succ] at h
        have := ils_at (ad := ad) r (b + 2) i v h
        rw [show b + (i + 1 + 1) = b + 2 + i by omega]
        exact List.mem_cons_of_mem _ this
def retOk : Option FieldType → Option MV → Prop
  | none, r => r = none
  | some .int, r => ∃ x, r = some (vI x)
  | some .long, r => ∃ x, r = some (vL x)
  | some .boolean, r => r = some (vI 0) ∨ r = some (vI 1)
  | _, _ => False
theorem narB0 : narrow .boolean (.int (Int32.ofInt 0)) = .int (Int32.ofInt 0) := by decide +kernel
theorem narB1 : narrow .boolean (.int (Int32.ofInt 1)) = .int (Int32.ofInt 1) := by decide +kernel
theorem lg_len {ad : Nat → Nat} : ∀ (as : List MV), (lg_sl (as.map (mval ad))).length = (ils as).length
  | [] => rfl
  | .inl x :: r => by
    have h := lg_len (ad := ad) r
    have e : lg_sl (mval ad (.inl x) :: r.map (mval ad)) = Slot.val (mval ad (.inl x)) :: lg_sl (r.map (mval ad)) := by simp [lg_sl, mval, Value.category]
    rw [List.map_cons, e, List.length_cons, h]; rfl
  | .inr (.inr x) :: r => by
    have h := lg_len (ad := ad) r
    have e : lg_sl (mval ad (.inr (.inr x)) :: r.map (mval ad)) = Slot.val (mval ad (.inr (.inr x))) :: lg_sl (r.map (mval ad)) := by simp [lg_sl, mval, Value.category]
    rw [List.map_cons, e, List.length_cons, h]; rfl
  | .inr (.inl x) :: r => by
    have h := lg_len (ad := ad) r
    have e : lg_sl (mval ad (.inr (.inl x)) :: r.map (mval ad)) = Slot.val (mval ad (.inr (.inl x))) :: Slot.second :: lg_sl (r.map (mval ad)) := by simp [lg_sl, mval, Value.category]
    rw [List.map_cons, e, List.length_cons, List.length_cons, h]; rfl
theorem wr_eq {x : Int} {j : Nat} (h : x = (j : Int) ∧ j < 2147483648) : wr x = (j : Int) := by rw [wr_of (by omega) (by omega)]; exact h.1
def Pi (P : Int → Mem → Prop) : Post := fun r w => ∃ x, r = some (vI x) ∧ P x w
def Pl (P : Int → Mem → Prop) : Post := fun r w => ∃ x, r = some (vL x) ∧ P x w
def Pv (P : Mem → Prop) : Post := fun r w => r = none ∧ P w
def Pz (P1 P0 : Mem → Prop) : Post := fun r w => (r = some (vI 1) ∧ P1 w) ∨ (r = some (vI 0) ∧ P0 w)
section CALLS
variable {l : Launch} {D : va_G} {ck : Nat → ClassId} {ad : Nat → Nat} {sh : List Shp}
theorem ev_of_go {y : MethodName} {own : String} {cc : ByteArray} {nL : Nat} {ret : Option FieldType} {R : Room} {as : List MV} {ls : List (Option MV)} {w : Mem} {K : Post} (hy : plainName y.cls = true) (ho : y.cls = own)
    (hls : ls = ils as ++ List.replicate (nL - (ils as).length) none) (hn : (ils as).length ≤ nL) (hret : ∀ r w2, K r w2 → retOk ret r) (h : Go l D ck ad sh own cc nL R 0 ls [] w K) : Ev l D ck ad sh y cc nL ret R as w K := by
  subst ho
  refine Met.ofW (cc := cc) (maxL := nL) (ret := ret) hy rfl ?_
  intro p e s m args below meth c s₁ B hml hv
  obtain ⟨rfl, hP, hK, hSt, hi⟩ := hv
  have hx := B.exec
  have hb := B.bytes
  have hr := B.returns
  have hts := atoms_spec (ws := .code y cc nL ret :: lw_gw) B.pre
  have hown : s.vm.findClass y.cls = some m.cls := findClass_of_methodNamed B.named
  have hlocks := B.notSynchronized
  have hl := lv_entry (as.map (mval ad)) (n := nL) (by rw [lg_len]; exact hn)
  rw [lg_entry_eq]
  refine h p e s m _ below meth c (AW ad sh.length) 0 0 _ s.heap [] _ ⟨hx, hb, hml, hown, fun w hw => hts w (List.mem_cons_of_mem _ hw), hK, fun k hk => ⟨k, hk, rfl⟩, ⟨Nat.zero_le _, Nat.zero_le _⟩, hSt, hi⟩ hP va_S.rf ⟨hl.1, hl.2.1, fun i v hv => ?_⟩ ?_
  · subst hls
    rw [List.getElem?_append] at hv
    split at hv
    · have := ils_at (ad := ad) as 0 i v hv
      rw [Nat.zero_add] at this
      exact hl.2.2 _ this
    · rw [List.getElem?_replicate] at hv
      split at hv <;> cases hv
  · intro r w2 pc2 ls2 H2 locs2 hk hd hP2 hS2
    have ho := hret r w2 hk
    cases ret with
    | none =>
      subst ho
      exact W.vret hx hb hr (fun t ht hW => ⟨⟨none, w2, rfl, hk, by rw [ht]; exact hP2⟩, hS2.F ht⟩) hS2.2.2 hd
    | some ty =>
      cases ty <;> first
        | exact absurd ho (fun z => z)
        | (obtain ⟨x, rfl⟩ := ho
           first
            | exact W.iret hx hb hr (fun t ht hW => ⟨⟨some (vI x), w2, rfl, hk, by rw [ht]; exact hP2⟩, hS2.F ht⟩) hS2.2.2 hd
            | exact W.lret hx hb hr (fun t ht hW => ⟨⟨some (vL x), w2, rfl, hk, by rw [ht]; exact hP2⟩, hS2.F ht⟩) hS2.2.2 hd)
        | (rcases ho with rfl | rfl
           · exact W.zret hx hb hr narB0 (fun t ht hW => ⟨⟨some (vI 0), w2, rfl, hk, by rw [ht]; exact hP2⟩, hS2.F ht⟩) hS2.2.2 hd
           · exact W.zret hx hb hr narB1 (fun t ht hW => ⟨⟨some (vI 1), w2, rfl, hk, by rw [ht]; exact hP2⟩, hS2.F ht⟩) hS2.2.2 hd)
theorem evP_blind {w : Mem} {as : List MV} : FrameBlind (va_Pc (as.map (mval ad)) (evP D ck ad sh w)) := by
  intro a U g mk h
  obtain ⟨ha, hP, hK, hSt, hi⟩ := h
  exact ⟨ha, hP, va_K.moved (u := U) (U := U.calling g mk a) (Vm.Alike.refl U.vm) hK, Stt.moved (u := U) (U := U.calling g mk a) (Vm.Alike.refl U.vm) hSt, hi⟩
/-- the words of a call -/
def LkV (own : String) (idx : Nat) (y : MethodName) (bytes : ByteArray) (maxL : Nat) (ret : Option FieldType) (C0 : String) : Prop :=
  (Cond.methodLink own idx y ∈ lw_gw ∧ Cond.instanceMethod y ∈ lw_gw ∧ Cond.selects C0 y y ∈ lw_gw ∧ Cond.initialized C0 ∈ lw_gw ∧ Cond.code y bytes maxL ret ∈ lw_gw) ∧ y.cls = C0 ∧ y.cls ≠ "java/lang/invoke/MethodHandle" ∧ y.cls ≠ "java/lang/invoke/VarHandle"
def LkS (own : String) (idx : Nat) (y : MethodName) (bytes : ByteArray) (maxL : Nat) (ret : Option FieldType) : Prop :=
  (Cond.methodLink own idx y ∈ lw_gw ∧ Cond.static y ∈ lw_gw ∧ Cond.initialized y.cls ∈ lw_gw ∧ Cond.code y bytes maxL ret ∈ lw_gw) ∧ y.cls ≠ "java/lang/invoke/MethodHandle" ∧ y.cls ≠ "java/lang/invoke/VarHandle"
theorem good_gw {ws : List Cond} (h : ∀ w ∈ ws, w ∈ lw_gw) : GoodIn lw_gw ws := fun w hw => ⟨h w hw, good_of_word (gwg (h w hw))⟩
theorem LkV.good {own C0 : String} {idx maxL : Nat} {y : MethodName} {bytes : ByteArray} {ret : Option FieldType} (k : LkV own idx y bytes maxL ret C0) : GoodIn lw_gw (wsV own idx C0 y (.code y bytes maxL ret :: lw_gw)) := by
  obtain ⟨⟨h1, h2, h3, h4, h5⟩, -⟩ := k
  refine good_gw fun w hw => ?_
  rcases List.mem_append.mp hw with hw | hw
  · simp only [List.mem_cons, List.not_mem_nil, or_false] at hw
    rcases hw with rfl | rfl | rfl | rfl <;> assumption
  · rcases List.mem_cons.mp hw with rfl | hw
    · exact h5
    · exact hw
theorem LkS.good {own : String} {idx maxL : Nat} {y : MethodName} {bytes : ByteArray} {ret : Option FieldType} (k : LkS own idx y bytes maxL ret) : GoodIn lw_gw (va_wsS own idx y (.code y bytes maxL ret :: lw_gw)) := by
  obtain ⟨⟨h1, h2, h3, h4⟩, -⟩ := k
  refine good_gw fun w hw => ?_
  rcases List.mem_append.mp hw with hw | hw
  · simp only [List.mem_cons, List.not_mem_nil, or_false] at hw
    rcases hw with rfl | rfl | rfl <;> assumption
  · rcases List.mem_cons.mp hw with rfl | hw
    · exact h4
    · exact hw
variable {own : String} {cc : ByteArray} {nL : Nat} {R : Room} {pc q : Nat} {ls : List (Option MV)} {st : List MV} {w : Mem} {K : Post}
theorem go_run {p : Program} {e : Env} {s : State} {m : MethodId} {args : Array Value} {below : List Frame} {meth : Method} {c : Code} {A : Nat → Prop} {cells slots : Nat} {Q : State → Prop} {H : Heap} {locs : List Loc} {lsR : Array Slot} {a : Array Value} {st0 : List Value} {rest : List MV} {K1 : Post}
    (hr : va_Run p l e R s m args below meth c H locs cells slots 0 0 (F0 m pc lsR st0) (rest.map (mval ad)) (evQ D ck ad sh K1 a) (AW ad sh.length)) (C : Cx D ck ad sh own cc nL R p s m args c A cells slots) (hS : va_S A s.heap H locs) (hl : LR ad nL lsR ls) (hex : Exi l D ck ad sh cc R K p e s m args below meth c A cells slots Q)
    (k : ∀ r w1, K1 r w1 → Go l D ck ad sh own cc nL R (pc + 3) ls (r.toList ++ rest) w1 K) : W p l e R s m args below meth c H locs cells slots Q (F0 m pc lsR st0) := by
  have hA : ∀ z, AW ad sh.length z → A z := fun z ⟨i, h1, h2⟩ => by rw [h2]; exact C.2.2.2.2.2.2.1 i h1
  intro T hT X
  obtain ⟨v, st₀, t, T', L, h0, X', hL, e1, e2, ⟨⟨r, w1, hv, hk, hP1⟩, hz, hk2⟩, sx⟩ := hr T hT X
  cases hv
  rw [h0] at hz hk2
  have hS1 : va_S A s.heap T'.heap (locs ++ L) := ⟨Nat.le_trans hS.1 (by rw [e1]; exact hz), fun q h1 h2 => by rw [e1, hk2 q (Nat.lt_of_lt_of_le h1 hS.1) (fun z => h2 (hA q z))]; exact hS.2.1 q h1 h2, fun q hq => by
    rcases List.mem_append.mp hq with h | h
    · exact hS.2.2 q h
    · exact hA _ (hL q h)⟩
  obtain ⟨t2, a1, b1⟩ := k r w1 hk p e s m args below meth c A cells slots Q T'.heap (locs ++ L) lsR C (by rw [e1]; exact hP1) hS1 hl hex T' rfl X'
  refine ⟨t2, sx t2 ?_, b1⟩
  have : (r.map (mval ad)).toList ++ rest.map (mval ad) = (r.toList ++ rest).map (mval ad) := by
    cases r <;> simp
  rw [this]
  exact a1
theorem ev_pre {p : Program} {s : State} {m : MethodId} {args : Array Value} {c : Code} {A : Nat → Prop} {cells slots : Nat} {H : Heap} {locs : List Loc} (C : Cx D ck ad sh own cc nL R p s m args c A cells slots) (hP : va_P D vwCl (wld ck ad sh w) H) (hS : va_S A s.heap H locs) (as : List MV) :
    ∀ U : State, U.heap = H → s.WarmedH U.vm → va_Pc (as.map (mval ad)) (evP D ck ad sh w) (as.map (mval ad)).toArray U := fun U hU hW =>
  ⟨rfl, by rw [hU]; exact hP, va_K.moved hW.alike C.2.2.2.2.2.1, by
    rw [hU]
    exact ((C.2.2.2.2.2.2.2.2.1.kept hS.2.1).moved hW.alike).narrow (fun z ⟨i, h1, h2⟩ => by rw [h2]; exact C.2.2.2.2.2.2.1 i h1), C.2.2.2.2.2.2.2.2.2⟩
theorem go_callV {y : MethodName} {bytes : ByteArray} {maxL idx b ci N n : Nat} {C0 : String} {T : u_T} {ret : Option FieldType} {Ry : Room} {rs : List (Option Nat)} {as As rest : List MV} {K1 : Post}
    (hd : decode cc pc = .ok (.invokevirtual idx, 3)) (lk : LkV own idx y bytes maxL ret C0) (hcl : vwCl[ci]? = some (C0, T, N)) (hs : sh[b]? = some (.inl (ci, rs))) (has : as = vR b :: As) (hst : st = as.reverse ++ rest)
    (hn : (parseMethodDescriptor y.desc).map (fun d => d.parameters.length) = some n) (hAs : As.length = n) (hR : Ry.frames + 1 ≤ R.frames ∧ 8 + (maxL + 11) + Ry.locals ≤ R.locals) (hR0 : Ry.cells = 0 ∧ Ry.slots = 0) (hcat : ((rest.map (mval ad)).map fun v => v.category).sum ≤ 8)
    (hev : Ev l D ck ad sh y bytes maxL ret Ry as w K1) (hq : pc + 3 = q) (k : ∀ r w1, K1 r w1 → Go l D ck ad sh own cc nL R q ls (r.toList ++ rest) w1 K) : Go l D ck ad sh own cc nL R pc ls st w K := by
  subst hq has hst
  intro p e s m args below meth c A cells slots Q H locs lsR C hP hS hl hex
  refine go_run (a := (Value.ref (ad b) :: As.map (mval ad)).toArray) (rest := rest) (K1 := K1) ?_ C hS hl hex k
  refine va_runV (As := As.map (mval ad)) (b := ad b) (C := C0) ⟨C.1, C.2.1, C.2.2.1, C.2.2.2.1, C.2.2.2.2.1⟩ hev (cwV n C.2.2.2.2.1 lk.good rfl hR0.1 hR0.2 ⟨lk.2.1, lk.2.2.1, lk.2.2.2, hn⟩ hR) ⟨evP_blind, va_recv C.2.2.2.2.2.1 hP hcl (wld_at hs), ev_pre C hP hS (vR b :: As)⟩ rfl (by simpa using hAs) hl.1 ?_ (lv_room hcat) hd C.2.2.2.2.2.2.2.1
  simp [mval]
theorem go_callS {y : MethodName} {bytes : ByteArray} {maxL idx n : Nat} {ret : Option FieldType} {Ry : Room} {as rest : List MV} {K1 : Post}
    (hd : decode cc pc = .ok (.invokestatic idx, 3)) (lk : LkS own idx y bytes maxL ret) (hst : st = as.reverse ++ rest)
    (hn : (parseMethodDescriptor y.desc).map (fun d => d.parameters.length) = some n) (hAs : as.length = n) (hR : Ry.frames + 1 ≤ R.frames ∧ 8 + (maxL + 11) + Ry.locals ≤ R.locals) (hR0 : Ry.cells = 0 ∧ Ry.slots = 0) (hcat : ((rest.map (mval ad)).map fun v => v.category).sum ≤ 8)
    (hev : Ev l D ck ad sh y bytes maxL ret Ry as w K1) (hq : pc + 3 = q) (k : ∀ r w1, K1 r w1 → Go l D ck ad sh own cc nL R q ls (r.toList ++ rest) w1 K) : Go l D ck ad sh own cc nL R pc ls st w K := by
  subst hq hst
  intro p e s m args below meth c A cells slots Q H locs lsR C hP hS hl hex
  refine go_run (a := (as.map (mval ad)).toArray) (rest := rest) (K1 := K1) ?_ C hS hl hex k
  refine va_runS (As := as.map (mval ad)) ⟨C.1, C.2.1, C.2.2.1, C.2.2.2.1, C.2.2.2.2.1⟩ hev (va_cwS n C.2.2.2.2.1 lk.good rfl hR0.1 hR0.2 ⟨lk.2.1, lk.2.2, hn⟩ hR) ⟨evP_blind, ev_pre C hP hS as⟩ rfl (by simpa using hAs) hl.1 ?_ (lv_room hcat) hd C.2.2.2.2.2.2.2.1
  simp [mval]
theorem go_callVi {y : MethodName} {bytes : ByteArray} {maxL idx b ci N n : Nat} {C0 : String} {T : u_T} {ret : Option FieldType} {Ry : Room} {rs : List (Option Nat)} {as As rest : List MV} {P : Int → Mem → Prop}
    (hd : decode cc pc = .ok (.invokevirtual idx, 3)) (lk : LkV own idx y bytes maxL ret C0) (hcl : vwCl[ci]? = some (C0, T, N)) (hs : sh[b]? = some (.inl (ci, rs))) (has : as = vR b :: As) (hst : st = as.reverse ++ rest)
    (hn : (parseMethodDescriptor y.desc).map (fun d => d.parameters.length) = some n) (hAs : As.length = n) (hR : Ry.frames + 1 ≤ R.frames ∧ 8 + (maxL + 11) + Ry.locals ≤ R.locals) (hR0 : Ry.cells = 0 ∧ Ry.slots = 0) (hcat : ((rest.map (mval ad)).map fun v => v.category).sum ≤ 8)
    (hev : Ev l D ck ad sh y bytes maxL ret Ry as w (Pi P)) (hq : pc + 3 = q) (k : ∀ x w1, P x w1 → Go l D ck ad sh own cc nL R q ls (vI x :: rest) w1 K) : Go l D ck ad sh own cc nL R pc ls st w K := by
  refine go_callV hd lk hcl hs has hst hn hAs hR hR0 hcat hev hq ?_
  intro r w1 ⟨x, e, h⟩; subst e; exact k x w1 h
theorem go_callSi {y : MethodName} {bytes : ByteArray} {maxL idx n : Nat} {ret : Option FieldType} {Ry : Room} {as rest : List MV} {P : Int → Mem → Prop}
    (hd : decode cc pc = .ok (.invokestatic idx, 3)) (lk : LkS own idx y bytes maxL ret) (hst : st = as.reverse ++ rest)
    (hn : (parseMethodDescriptor y.desc).map (fun d => d.parameters.length) = some n) (hAs : as.length = n) (hR : Ry.frames + 1 ≤ R.frames ∧ 8 + (maxL + 11) + Ry.locals ≤ R.locals) (hR0 : Ry.cells = 0 ∧ Ry.slots = 0) (hcat : ((rest.map (mval ad)).map fun v => v.category).sum ≤ 8)
    (hev : Ev l D ck ad sh y bytes maxL ret Ry as w (Pi P)) (hq : pc + 3 = q) (k : ∀ x w1, P x w1 → Go l D ck ad sh own cc nL R q ls (vI x :: rest) w1 K) : Go l D ck ad sh own cc nL R pc ls st w K := by
  refine go_callS hd lk hst hn hAs hR hR0 hcat hev hq ?_
  intro r w1 ⟨x, e, h⟩; subst e; exact k x w1 h
theorem go_callVl {y : MethodName} {bytes : ByteArray} {maxL idx b ci N n : Nat} {C0 : String} {T : u_T} {ret : Option FieldType} {Ry : Room} {rs : List (Option Nat)} {as As rest : List MV} {P : Int → Mem → Prop}
    (hd : decode cc pc = .ok (.invokevirtual idx, 3)) (lk : LkV own idx y bytes maxL ret C0) (hcl : vwCl[ci]? = some (C0, T, N)) (hs : sh[b]? = some (.inl (ci, rs))) (has : as = vR b :: As) (hst : st = as.reverse ++ rest)
    (hn : (parseMethodDescriptor y.desc).map (fun d => d.parameters.length) = some n) (hAs : As.length = n) (hR : Ry.frames + 1 ≤ R.frames ∧ 8 + (maxL + 11) + Ry.locals ≤ R.locals) (hR0 : Ry.cells = 0 ∧ Ry.slots = 0) (hcat : ((rest.map (mval ad)).map fun v => v.category).sum ≤ 8)
    (hev : Ev l D ck ad sh y bytes maxL ret Ry as w (Pl P)) (hq : pc + 3 = q) (k : ∀ x w1, P x w1 → Go l D ck ad sh own cc nL R q ls (vL x :: rest) w1 K) : Go l D ck ad sh own cc nL R pc ls st w K := by
  refine go_callV hd lk hcl hs has hst hn hAs hR hR0 hcat hev hq ?_
  intro r w1 ⟨x, e, h⟩; subst e; exact k x w1 h
theorem go_callSl {y : MethodName} {bytes : ByteArray} {maxL idx n : Nat} {ret : Option FieldType} {Ry : Room} {as rest : List MV} {P : Int → Mem → Prop}
    (hd : decode cc pc = .ok (.invokestatic idx, 3)) (lk : LkS own idx y bytes maxL ret) (hst : st = as.reverse ++ rest)
    (hn : (parseMethodDescriptor y.desc).map (fun d => d.parameters.length) = some n) (hAs : as.length = n) (hR : Ry.frames + 1 ≤ R.frames ∧ 8 + (maxL + 11) + Ry.locals ≤ R.locals) (hR0 : Ry.cells = 0 ∧ Ry.slots = 0) (hcat : ((rest.map (mval ad)).map fun v => v.category).sum ≤ 8)
    (hev : Ev l D ck ad sh y bytes maxL ret Ry as w (Pl P)) (hq : pc + 3 = q) (k : ∀ x w1, P x w1 → Go l D ck ad sh own cc nL R q ls (vL x :: rest) w1 K) : Go l D ck ad sh own cc nL R pc ls st w K := by
  refine go_callS hd lk hst hn hAs hR hR0 hcat hev hq ?_
  intro r w1 ⟨x, e, h⟩; subst e; exact k x w1 h
theorem go_callVv {y : MethodName} {bytes : ByteArray} {maxL idx b ci N n : Nat} {C0 : String} {T : u_T} {ret : Option FieldType} {Ry : Room} {rs : List (Option Nat)} {as As rest : List MV} {P : Mem → Prop}
    (hd : decode cc pc = .ok (.invokevirtual idx, 3)) (lk : LkV own idx y bytes maxL ret C0) (hcl : vwCl[ci]? = some (C0, T, N)) (hs : sh[b]? = some (.inl (ci, rs))) (has : as = vR b :: As) (hst : st = as.reverse ++ rest)
    (hn : (parseMethodDescriptor y.desc).map (fun d => d.parameters.length) = some n) (hAs : As.length = n) (hR : Ry.frames + 1 ≤ R.frames ∧ 8 + (maxL + 11) + Ry.locals ≤ R.locals) (hR0 : Ry.cells = 0 ∧ Ry.slots = 0) (hcat : ((rest.map (mval ad)).map fun v => v.category).sum ≤ 8)
    (hev : Ev l D ck ad sh y bytes maxL ret Ry as w (Pv P)) (hq : pc + 3 = q) (k : ∀ w1, P w1 → Go l D ck ad sh own cc nL R q ls (rest) w1 K) : Go l D ck ad sh own cc nL R pc ls st w K := by
  refine go_callV hd lk hcl hs has hst hn hAs hR hR0 hcat hev hq ?_
  intro r w1 ⟨e, h⟩; subst e; exact k w1 h
theorem go_callSv {y : MethodName} {bytes : ByteArray} {maxL idx n : Nat} {ret : Option FieldType} {Ry : Room} {as rest : List MV} {P : Mem → Prop}
    (hd : decode cc pc = .ok (.invokestatic idx, 3)) (lk : LkS own idx y bytes maxL ret) (hst : st = as.reverse ++ rest)
    (hn : (parseMethodDescriptor y.desc).map (fun d => d.parameters.length) = some n) (hAs : as.length = n) (hR : Ry.frames + 1 ≤ R.frames ∧ 8 + (maxL + 11) + Ry.locals ≤ R.locals) (hR0 : Ry.cells = 0 ∧ Ry.slots = 0) (hcat : ((rest.map (mval ad)).map fun v => v.category).sum ≤ 8)
    (hev : Ev l D ck ad sh y bytes maxL ret Ry as w (Pv P)) (hq : pc + 3 = q) (k : ∀ w1, P w1 → Go l D ck ad sh own cc nL R q ls (rest) w1 K) : Go l D ck ad sh own cc nL R pc ls st w K := by
  refine go_callS hd lk hst hn hAs hR hR0 hcat hev hq ?_
  intro r w1 ⟨e, h⟩; subst e; exact k w1 h
theorem go_callVz {y : MethodName} {bytes : ByteArray} {maxL idx b ci N n : Nat} {C0 : String} {T : u_T} {ret : Option FieldType} {Ry : Room} {rs : List (Option Nat)} {as As rest : List MV} {P1 P0 : Mem → Prop}
    (hd : decode cc pc = .ok (.invokevirtual idx, 3)) (lk : LkV own idx y bytes maxL ret C0) (hcl : vwCl[ci]? = some (C0, T, N)) (hs : sh[b]? = some (.inl (ci, rs))) (has : as = vR b :: As) (hst : st = as.reverse ++ rest)
    (hn : (parseMethodDescriptor y.desc).map (fun d => d.parameters.length) = some n) (hAs : As.length = n) (hR : Ry.frames + 1 ≤ R.frames ∧ 8 + (maxL + 11) + Ry.locals ≤ R.locals) (hR0 : Ry.cells = 0 ∧ Ry.slots = 0) (hcat : ((rest.map (mval ad)).map fun v => v.category).sum ≤ 8)
    (hev : Ev l D ck ad sh y bytes maxL ret Ry as w (Pz P1 P0)) (hq : pc + 3 = q) (k1 : ∀ w1, P1 w1 → Go l D ck ad sh own cc nL R q ls (vI 1 :: rest) w1 K) (k0 : ∀ w1, P0 w1 → Go l D ck ad sh own cc nL R q ls (vI 0 :: rest) w1 K) : Go l D ck ad sh own cc nL R pc ls st w K := by
  refine go_callV hd lk hcl hs has hst hn hAs hR hR0 hcat hev hq ?_
  intro r w1 h; rcases h with ⟨e, h⟩ | ⟨e, h⟩ <;> subst e
  · exact k1 w1 h
  · exact k0 w1 h
theorem go_callSz {y : MethodName} {bytes : ByteArray} {maxL idx n : Nat} {ret : Option FieldType} {Ry : Room} {as rest : List MV} {P1 P0 : Mem → Prop}
    (hd : decode cc pc = .ok (.invokestatic idx, 3)) (lk : LkS own idx y bytes maxL ret) (hst : st = as.reverse ++ rest)
    (hn : (parseMethodDescriptor y.desc).map (fun d => d.parameters.length) = some n) (hAs : as.length = n) (hR : Ry.frames + 1 ≤ R.frames ∧ 8 + (maxL + 11) + Ry.locals ≤ R.locals) (hR0 : Ry.cells = 0 ∧ Ry.slots = 0) (hcat : ((rest.map (mval ad)).map fun v => v.category).sum ≤ 8)
    (hev : Ev l D ck ad sh y bytes maxL ret Ry as w (Pz P1 P0)) (hq : pc + 3 = q) (k1 : ∀ w1, P1 w1 → Go l D ck ad sh own cc nL R q ls (vI 1 :: rest) w1 K) (k0 : ∀ w1, P0 w1 → Go l D ck ad sh own cc nL R q ls (vI 0 :: rest) w1 K) : Go l D ck ad sh own cc nL R pc ls st w K := by
  refine go_callS hd lk hst hn hAs hR hR0 hcat hev hq ?_
  intro r w1 h; rcases h with ⟨e, h⟩ | ⟨e, h⟩ <;> subst e
  · exact k1 w1 h
  · exact k0 w1 h
end CALLS
section COPY
variable {l : Launch} {D : va_G} {ck : Nat → ClassId} {ad : Nat → Nat} {sh : List Shp} {own : String} {cc : ByteArray} {nL : Nat} {R : Room} {pc q : Nat} {ls : List (Option MV)} {st : List MV} {w : Mem} {K : Post}
def mcpy (w : Mem) (b0 sp b1 dp n : Nat) : Mem := fun c k => if c = b1 ∧ dp ≤ k ∧ k < dp + n then w b0 (sp + (k - dp)) else w c k
theorem wld_cpy {b0 b1 sp dp n tc n1 : Nat} (h : sh[b1]? = some (.inr (.inl (tc, n1)))) : (wld ck ad sh w).set b1 (ad b1, .inl (ck tc, n1, .inl (va_cpy (fun k => Int32.ofInt (w b0 k)) (fun k => Int32.ofInt (w b1 k)) sp dp n))) = wld ck ad sh (mcpy w b0 sp b1 dp n) := by
  apply List.ext_getElem?
  intro i
  have hl := (List.getElem?_eq_some_iff.mp h).1
  by_cases hi : b1 = i
  · subst hi
    rw [wld_at h, List.getElem?_set_self (by simpa [wld] using hl)]
    have e : (va_cpy (fun k => Int32.ofInt (w b0 k)) (fun k => Int32.ofInt (w b1 k)) sp dp n) = fun k => Int32.ofInt (mcpy w b0 sp b1 dp n b1 k) := by
      funext k
      unfold va_cpy mcpy
      by_cases hk : dp ≤ k ∧ k < dp + n <;> simp [hk]
    rw [e]; rfl
  · rw [List.getElem?_set_ne hi]
    simp only [wld, List.getElem?_mapIdx]
    have e : mcpy w b0 sp b1 dp n i = w i := by
      funext k'
      have : ¬ i = b1 := fun e => hi e.symm
      simp [mcpy, this]
    rw [e]
theorem go_acopy {idx b0 b1 n0 n1 sp dp n : Nat} {xs xd xn : Int} {rest : List MV} (hlk : (Cond.methodLink own idx arraycopyName ∈ lw_gw ∧ Cond.native arraycopyName ∈ lw_gw) ∧ Cond.static arraycopyName ∈ lw_gw ∧ Cond.initialized "java/lang/System" ∈ lw_gw)
    (h0 : sh[b0]? = some (.inr (.inl (0, n0)))) (h1 : sh[b1]? = some (.inr (.inl (0, n1)))) (hxs : wr xs = (sp : Int)) (hxd : wr xd = (dp : Int)) (hxn : wr xn = (n : Int)) (hs : sp + n ≤ n0) (hdn : dp + n ≤ n1) (hfr : 1 ≤ R.frames) (hlo : ((rest.map (mval ad)).map fun v => v.category).sum + (nativeFrameWords "java/lang/System" "arraycopy" 5 + 11) ≤ R.locals)
    (hd : decode cc pc = .ok (.invokestatic idx, 3)) (hq : pc + 3 = q) (k : Go l D ck ad sh own cc nL R q ls rest (mcpy w b0 sp b1 dp n) K) : Go l D ck ad sh own cc nL R pc ls (vI xn :: vI xd :: vR b1 :: vI xs :: vR b0 :: rest) w K := by
  subst hq
  intro p e s m args below meth c A cells slots Q H locs lsR C hP hS hl hex
  have nn : ∀ {x : Int} {j : Nat}, wr x = (j : Int) → ¬ Int32.ofInt x < 0 := fun {x j} h => by rw [oi_lt0, h]; omega
  refine va_copyi (ty := .int) C.1 C.2.1 (C.2.2.1.trans hl.1.symm) C.2.2.2.1 (C.2.2.2.2.1 _ hlk.1.1) (C.2.2.2.2.1 _ hlk.1.2) (C.2.2.2.2.1 _ hlk.2.1) (C.2.2.2.2.1 _ hlk.2.2) C.2.2.2.2.2.1 hP (wld_D C.2.2.2.2.2.2.2.2.2 C.2.2.2.2.2.2.1) hS b0 b1 0 0 (wld_at h0) (wld_at h1) rfl rfl rfl (nn hxs) (nn hxd) (nn hxn) (by rw [oi_nat hxs, oi_nat hxn]; exact hs) (by rw [oi_nat hxd, oi_nat hxn]; exact hdn) (fun _ _ => rfl) hfr hlo hd (fun H1 locs1 hP1 hD1 hS1 => ?_)
  rw [oi_nat hxs, oi_nat hxd, oi_nat hxn, wld_cpy h1] at hP1
  exact k p e s m args below meth c A cells slots Q H1 locs1 _ C hP1 hS1 hl hex
end COPY
end
