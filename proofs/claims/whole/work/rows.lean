section
-- ===== PART A: goes FIRST, ahead of the names: the tables' words, and 'selects' of the private methods out of them =====
/-- a private method of a class that the tables say can be made, by its rows of tables_1 -/
def lw_okq (q : MethodName × Nat) : Prop := (q.1.cls ≠ "java/lang/invoke/MethodHandle" ∧ q.1.cls ≠ "java/lang/invoke/VarHandle") ∧ Cond.instantiable q.1.cls q.2 ∈ tables_1 ∧ Cond.privateMethod q.1 ∈ tables_1 ∧ Cond.instanceMethod q.1 ∈ tables_1
theorem lw_p0 : lw_okq (⟨"KnotColours", "makeLinear", "(II)I"⟩, 7) := ⟨⟨by decide +kernel, by decide +kernel⟩, List.mem_of_getElem? (i := 13) (by decide +kernel), List.mem_of_getElem? (i := 173) (by decide +kernel), List.mem_of_getElem? (i := 174) (by decide +kernel)⟩
theorem lw_p1 : lw_okq (⟨"KnotColours", "saveState", "()V"⟩, 7) := ⟨⟨by decide +kernel, by decide +kernel⟩, List.mem_of_getElem? (i := 13) (by decide +kernel), List.mem_of_getElem? (i := 177) (by decide +kernel), List.mem_of_getElem? (i := 178) (by decide +kernel)⟩
theorem lw_p2 : lw_okq (⟨"KnotColours$Table", "fillTranslation", "(III)V"⟩, 2) := ⟨⟨by decide +kernel, by decide +kernel⟩, List.mem_of_getElem? (i := 21) (by decide +kernel), List.mem_of_getElem? (i := 227) (by decide +kernel), List.mem_of_getElem? (i := 228) (by decide +kernel)⟩
theorem lw_p3 : lw_okq (⟨"KnotColours$Table", "isPermutation", "(I)Z"⟩, 2) := ⟨⟨by decide +kernel, by decide +kernel⟩, List.mem_of_getElem? (i := 21) (by decide +kernel), List.mem_of_getElem? (i := 262) (by decide +kernel), List.mem_of_getElem? (i := 263) (by decide +kernel)⟩
theorem lw_p4 : lw_okq (⟨"KnotColours$Table", "componentOf", "(I)I"⟩, 2) := ⟨⟨by decide +kernel, by decide +kernel⟩, List.mem_of_getElem? (i := 21) (by decide +kernel), List.mem_of_getElem? (i := 321) (by decide +kernel), List.mem_of_getElem? (i := 322) (by decide +kernel)⟩
theorem lw_p5 : lw_okq (⟨"KnotColours$Table", "isIdentityAfter", "(II)Z"⟩, 2) := ⟨⟨by decide +kernel, by decide +kernel⟩, List.mem_of_getElem? (i := 21) (by decide +kernel), List.mem_of_getElem? (i := 357) (by decide +kernel), List.mem_of_getElem? (i := 358) (by decide +kernel)⟩
theorem lw_p6 : lw_okq (⟨"KnotColours$Table", "isNewTranslation", "(I)Z"⟩, 2) := ⟨⟨by decide +kernel, by decide +kernel⟩, List.mem_of_getElem? (i := 21) (by decide +kernel), List.mem_of_getElem? (i := 369) (by decide +kernel), List.mem_of_getElem? (i := 370) (by decide +kernel)⟩
theorem lw_p7 : lw_okq (⟨"KnotColours$Table", "sameTranslation", "(II)Z"⟩, 2) := ⟨⟨by decide +kernel, by decide +kernel⟩, List.mem_of_getElem? (i := 21) (by decide +kernel), List.mem_of_getElem? (i := 373) (by decide +kernel), List.mem_of_getElem? (i := 374) (by decide +kernel)⟩
theorem lw_p8 : lw_okq (⟨"KnotColours$Permutations", "startAtIdentity", "()V"⟩, 4) := ⟨⟨by decide +kernel, by decide +kernel⟩, List.mem_of_getElem? (i := 38) (by decide +kernel), List.mem_of_getElem? (i := 385) (by decide +kernel), List.mem_of_getElem? (i := 386) (by decide +kernel)⟩
theorem lw_p9 : lw_okq (⟨"KnotColours$Permutations", "unrank", "(II)V"⟩, 4) := ⟨⟨by decide +kernel, by decide +kernel⟩, List.mem_of_getElem? (i := 38) (by decide +kernel), List.mem_of_getElem? (i := 389) (by decide +kernel), List.mem_of_getElem? (i := 390) (by decide +kernel)⟩
theorem lw_p10 : lw_okq (⟨"KnotColours$Permutations", "rankBehind", "(LKnotColours$Table;I)I"⟩, 4) := ⟨⟨by decide +kernel, by decide +kernel⟩, List.mem_of_getElem? (i := 38) (by decide +kernel), List.mem_of_getElem? (i := 393) (by decide +kernel), List.mem_of_getElem? (i := 394) (by decide +kernel)⟩
theorem lw_p11 : lw_okq (⟨"KnotColours$Permutations", "keepsProducts", "(LKnotColours$Table;)Z"⟩, 4) := ⟨⟨by decide +kernel, by decide +kernel⟩, List.mem_of_getElem? (i := 38) (by decide +kernel), List.mem_of_getElem? (i := 406) (by decide +kernel), List.mem_of_getElem? (i := 407) (by decide +kernel)⟩
theorem lw_p12 : lw_okq (⟨"KnotColours$Diagram", "countAs", "(II)I"⟩, 3) := ⟨⟨by decide +kernel, by decide +kernel⟩, List.mem_of_getElem? (i := 58) (by decide +kernel), List.mem_of_getElem? (i := 497) (by decide +kernel), List.mem_of_getElem? (i := 498) (by decide +kernel)⟩
theorem lw_p13 : lw_okq (⟨"KnotColours$Diagram", "componentOf", "(I)I"⟩, 3) := ⟨⟨by decide +kernel, by decide +kernel⟩, List.mem_of_getElem? (i := 58) (by decide +kernel), List.mem_of_getElem? (i := 505) (by decide +kernel), List.mem_of_getElem? (i := 506) (by decide +kernel)⟩
theorem lw_p14 : lw_okq (⟨"KnotColours$ColouringWalk", "start", "()V"⟩, 6) := ⟨⟨by decide +kernel, by decide +kernel⟩, List.mem_of_getElem? (i := 78) (by decide +kernel), List.mem_of_getElem? (i := 533) (by decide +kernel), List.mem_of_getElem? (i := 534) (by decide +kernel)⟩
theorem lw_p15 : lw_okq (⟨"KnotColours$ColouringWalk", "advance", "()Z"⟩, 6) := ⟨⟨by decide +kernel, by decide +kernel⟩, List.mem_of_getElem? (i := 78) (by decide +kernel), List.mem_of_getElem? (i := 540) (by decide +kernel), List.mem_of_getElem? (i := 541) (by decide +kernel)⟩
def lw_privs_1 : List (MethodName × Nat) := [(⟨"KnotColours", "makeLinear", "(II)I"⟩, 7), (⟨"KnotColours", "saveState", "()V"⟩, 7), (⟨"KnotColours$Table", "fillTranslation", "(III)V"⟩, 2), (⟨"KnotColours$Table", "isPermutation", "(I)Z"⟩, 2), (⟨"KnotColours$Table", "componentOf", "(I)I"⟩, 2), (⟨"KnotColours$Table", "isIdentityAfter", "(II)Z"⟩, 2), (⟨"KnotColours$Table", "isNewTranslation", "(I)Z"⟩, 2), (⟨"KnotColours$Table", "sameTranslation", "(II)Z"⟩, 2), (⟨"KnotColours$Permutations", "startAtIdentity", "()V"⟩, 4), (⟨"KnotColours$Permutations", "unrank", "(II)V"⟩, 4), (⟨"KnotColours$Permutations", "rankBehind", "(LKnotColours$Table;I)I"⟩, 4), (⟨"KnotColours$Permutations", "keepsProducts", "(LKnotColours$Table;)Z"⟩, 4), (⟨"KnotColours$Diagram", "countAs", "(II)I"⟩, 3), (⟨"KnotColours$Diagram", "componentOf", "(I)I"⟩, 3), (⟨"KnotColours$ColouringWalk", "start", "()V"⟩, 6), (⟨"KnotColours$ColouringWalk", "advance", "()Z"⟩, 6)]
theorem lw_r1 : ∀ q ∈ lw_privs_1, lw_okq q := List.forall_mem_cons.mpr ⟨lw_p0, List.forall_mem_cons.mpr ⟨lw_p1, List.forall_mem_cons.mpr ⟨lw_p2, List.forall_mem_cons.mpr ⟨lw_p3, List.forall_mem_cons.mpr ⟨lw_p4, List.forall_mem_cons.mpr ⟨lw_p5, List.forall_mem_cons.mpr ⟨lw_p6, List.forall_mem_cons.mpr ⟨lw_p7, List.forall_mem_cons.mpr ⟨lw_p8, List.forall_mem_cons.mpr ⟨lw_p9, List.forall_mem_cons.mpr ⟨lw_p10, List.forall_mem_cons.mpr ⟨lw_p11, List.forall_mem_cons.mpr ⟨lw_p12, List.forall_mem_cons.mpr ⟨lw_p13, List.forall_mem_cons.mpr ⟨lw_p14, List.forall_mem_cons.mpr ⟨lw_p15, fun _ h => absurd h List.not_mem_nil⟩⟩⟩⟩⟩⟩⟩⟩⟩⟩⟩⟩⟩⟩⟩⟩
theorem lw_p16 : lw_okq (⟨"KnotColours$ColouringWalk", "fits", "()Z"⟩, 6) := ⟨⟨by decide +kernel, by decide +kernel⟩, List.mem_of_getElem? (i := 78) (by decide +kernel), List.mem_of_getElem? (i := 545) (by decide +kernel), List.mem_of_getElem? (i := 546) (by decide +kernel)⟩
theorem lw_p17 : lw_okq (⟨"KnotColours$ColouringWalk", "isMet", "(I)Z"⟩, 6) := ⟨⟨by decide +kernel, by decide +kernel⟩, List.mem_of_getElem? (i := 78) (by decide +kernel), List.mem_of_getElem? (i := 549) (by decide +kernel), List.mem_of_getElem? (i := 550) (by decide +kernel)⟩
theorem lw_p18 : lw_okq (⟨"KnotColours$ColouringWalk", "coloursUsed", "()I"⟩, 6) := ⟨⟨by decide +kernel, by decide +kernel⟩, List.mem_of_getElem? (i := 78) (by decide +kernel), List.mem_of_getElem? (i := 554) (by decide +kernel), List.mem_of_getElem? (i := 555) (by decide +kernel)⟩
theorem lw_p19 : lw_okq (⟨"KnotColours$DiagramText", "mayStandAt", "(I)Z"⟩, 2) := ⟨⟨by decide +kernel, by decide +kernel⟩, List.mem_of_getElem? (i := 103) (by decide +kernel), List.mem_of_getElem? (i := 616) (by decide +kernel), List.mem_of_getElem? (i := 617) (by decide +kernel)⟩
theorem lw_p20 : lw_okq (⟨"KnotColours$DiagramText", "arcAt", "(I)I"⟩, 2) := ⟨⟨by decide +kernel, by decide +kernel⟩, List.mem_of_getElem? (i := 103) (by decide +kernel), List.mem_of_getElem? (i := 628) (by decide +kernel), List.mem_of_getElem? (i := 629) (by decide +kernel)⟩
theorem lw_p21 : lw_okq (⟨"KnotColours", "hashTable", "(J)J"⟩, 7) := ⟨⟨by decide +kernel, by decide +kernel⟩, List.mem_of_getElem? (i := 13) (by decide +kernel), List.mem_of_getElem? (i := 648) (by decide +kernel), List.mem_of_getElem? (i := 649) (by decide +kernel)⟩
theorem lw_p22 : lw_okq (⟨"KnotColours", "hashDiagram", "(J)J"⟩, 7) := ⟨⟨by decide +kernel, by decide +kernel⟩, List.mem_of_getElem? (i := 13) (by decide +kernel), List.mem_of_getElem? (i := 663) (by decide +kernel), List.mem_of_getElem? (i := 664) (by decide +kernel)⟩
theorem lw_p23 : lw_okq (⟨"KnotColours", "hashColourings", "(J)J"⟩, 7) := ⟨⟨by decide +kernel, by decide +kernel⟩, List.mem_of_getElem? (i := 13) (by decide +kernel), List.mem_of_getElem? (i := 671) (by decide +kernel), List.mem_of_getElem? (i := 672) (by decide +kernel)⟩
theorem lw_p24 : lw_okq (⟨"KnotColoursModel", "makesTrivial", "(I)I"⟩, 16) := ⟨⟨by decide +kernel, by decide +kernel⟩, List.mem_of_getElem? (i := 675) (by decide +kernel), List.mem_of_getElem? (i := 737) (by decide +kernel), List.mem_of_getElem? (i := 738) (by decide +kernel)⟩
theorem lw_p25 : lw_okq (⟨"KnotColoursModel", "makes", "(III)I"⟩, 16) := ⟨⟨by decide +kernel, by decide +kernel⟩, List.mem_of_getElem? (i := 675) (by decide +kernel), List.mem_of_getElem? (i := 741) (by decide +kernel), List.mem_of_getElem? (i := 742) (by decide +kernel)⟩
theorem lw_p26 : lw_okq (⟨"KnotColoursModel", "record", "()V"⟩, 16) := ⟨⟨by decide +kernel, by decide +kernel⟩, List.mem_of_getElem? (i := 675) (by decide +kernel), List.mem_of_getElem? (i := 745) (by decide +kernel), List.mem_of_getElem? (i := 746) (by decide +kernel)⟩
theorem lw_p27 : lw_okq (⟨"KnotColoursModel", "setTimes", "(III)V"⟩, 16) := ⟨⟨by decide +kernel, by decide +kernel⟩, List.mem_of_getElem? (i := 675) (by decide +kernel), List.mem_of_getElem? (i := 749) (by decide +kernel), List.mem_of_getElem? (i := 750) (by decide +kernel)⟩
theorem lw_p28 : lw_okq (⟨"KnotColoursModel", "laysPair", "(III)V"⟩, 16) := ⟨⟨by decide +kernel, by decide +kernel⟩, List.mem_of_getElem? (i := 675) (by decide +kernel), List.mem_of_getElem? (i := 765) (by decide +kernel), List.mem_of_getElem? (i := 766) (by decide +kernel)⟩
theorem lw_p29 : lw_okq (⟨"KnotColoursModel", "isElement", "(I)Z"⟩, 16) := ⟨⟨by decide +kernel, by decide +kernel⟩, List.mem_of_getElem? (i := 675) (by decide +kernel), List.mem_of_getElem? (i := 779) (by decide +kernel), List.mem_of_getElem? (i := 780) (by decide +kernel)⟩
theorem lw_p30 : lw_okq (⟨"KnotColoursModel", "times", "(II)I"⟩, 16) := ⟨⟨by decide +kernel, by decide +kernel⟩, List.mem_of_getElem? (i := 675) (by decide +kernel), List.mem_of_getElem? (i := 783) (by decide +kernel), List.mem_of_getElem? (i := 784) (by decide +kernel)⟩
theorem lw_p31 : lw_okq (⟨"KnotColoursModel", "violatesSecond", "()I"⟩, 16) := ⟨⟨by decide +kernel, by decide +kernel⟩, List.mem_of_getElem? (i := 675) (by decide +kernel), List.mem_of_getElem? (i := 791) (by decide +kernel), List.mem_of_getElem? (i := 792) (by decide +kernel)⟩
def lw_privs_2 : List (MethodName × Nat) := [(⟨"KnotColours$ColouringWalk", "fits", "()Z"⟩, 6), (⟨"KnotColours$ColouringWalk", "isMet", "(I)Z"⟩, 6), (⟨"KnotColours$ColouringWalk", "coloursUsed", "()I"⟩, 6), (⟨"KnotColours$DiagramText", "mayStandAt", "(I)Z"⟩, 2), (⟨"KnotColours$DiagramText", "arcAt", "(I)I"⟩, 2), (⟨"KnotColours", "hashTable", "(J)J"⟩, 7), (⟨"KnotColours", "hashDiagram", "(J)J"⟩, 7), (⟨"KnotColours", "hashColourings", "(J)J"⟩, 7), (⟨"KnotColoursModel", "makesTrivial", "(I)I"⟩, 16), (⟨"KnotColoursModel", "makes", "(III)I"⟩, 16), (⟨"KnotColoursModel", "record", "()V"⟩, 16), (⟨"KnotColoursModel", "setTimes", "(III)V"⟩, 16), (⟨"KnotColoursModel", "laysPair", "(III)V"⟩, 16), (⟨"KnotColoursModel", "isElement", "(I)Z"⟩, 16), (⟨"KnotColoursModel", "times", "(II)I"⟩, 16), (⟨"KnotColoursModel", "violatesSecond", "()I"⟩, 16)]
theorem lw_r2 : ∀ q ∈ lw_privs_2, lw_okq q := List.forall_mem_cons.mpr ⟨lw_p16, List.forall_mem_cons.mpr ⟨lw_p17, List.forall_mem_cons.mpr ⟨lw_p18, List.forall_mem_cons.mpr ⟨lw_p19, List.forall_mem_cons.mpr ⟨lw_p20, List.forall_mem_cons.mpr ⟨lw_p21, List.forall_mem_cons.mpr ⟨lw_p22, List.forall_mem_cons.mpr ⟨lw_p23, List.forall_mem_cons.mpr ⟨lw_p24, List.forall_mem_cons.mpr ⟨lw_p25, List.forall_mem_cons.mpr ⟨lw_p26, List.forall_mem_cons.mpr ⟨lw_p27, List.forall_mem_cons.mpr ⟨lw_p28, List.forall_mem_cons.mpr ⟨lw_p29, List.forall_mem_cons.mpr ⟨lw_p30, List.forall_mem_cons.mpr ⟨lw_p31, fun _ h => absurd h List.not_mem_nil⟩⟩⟩⟩⟩⟩⟩⟩⟩⟩⟩⟩⟩⟩⟩⟩
theorem lw_p32 : lw_okq (⟨"KnotColoursModel", "isPermutation", "(I)Z"⟩, 16) := ⟨⟨by decide +kernel, by decide +kernel⟩, List.mem_of_getElem? (i := 675) (by decide +kernel), List.mem_of_getElem? (i := 795) (by decide +kernel), List.mem_of_getElem? (i := 796) (by decide +kernel)⟩
theorem lw_p33 : lw_okq (⟨"KnotColoursModel", "dividedBy", "(II)I"⟩, 16) := ⟨⟨by decide +kernel, by decide +kernel⟩, List.mem_of_getElem? (i := 675) (by decide +kernel), List.mem_of_getElem? (i := 802) (by decide +kernel), List.mem_of_getElem? (i := 803) (by decide +kernel)⟩
theorem lw_p34 : lw_okq (⟨"KnotColoursModel", "violates", "(I)I"⟩, 16) := ⟨⟨by decide +kernel, by decide +kernel⟩, List.mem_of_getElem? (i := 675) (by decide +kernel), List.mem_of_getElem? (i := 822) (by decide +kernel), List.mem_of_getElem? (i := 823) (by decide +kernel)⟩
theorem lw_p35 : lw_okq (⟨"KnotColoursModel", "violatesFirst", "()I"⟩, 16) := ⟨⟨by decide +kernel, by decide +kernel⟩, List.mem_of_getElem? (i := 675) (by decide +kernel), List.mem_of_getElem? (i := 826) (by decide +kernel), List.mem_of_getElem? (i := 827) (by decide +kernel)⟩
theorem lw_p36 : lw_okq (⟨"KnotColoursModel", "violatesThird", "()I"⟩, 16) := ⟨⟨by decide +kernel, by decide +kernel⟩, List.mem_of_getElem? (i := 675) (by decide +kernel), List.mem_of_getElem? (i := 830) (by decide +kernel), List.mem_of_getElem? (i := 831) (by decide +kernel)⟩
theorem lw_p37 : lw_okq (⟨"KnotColoursModel", "componentsOfTable", "()I"⟩, 16) := ⟨⟨by decide +kernel, by decide +kernel⟩, List.mem_of_getElem? (i := 675) (by decide +kernel), List.mem_of_getElem? (i := 842) (by decide +kernel), List.mem_of_getElem? (i := 843) (by decide +kernel)⟩
theorem lw_p38 : lw_okq (⟨"KnotColoursModel", "aloneAll", "(I)V"⟩, 16) := ⟨⟨by decide +kernel, by decide +kernel⟩, List.mem_of_getElem? (i := 675) (by decide +kernel), List.mem_of_getElem? (i := 846) (by decide +kernel), List.mem_of_getElem? (i := 847) (by decide +kernel)⟩
theorem lw_p39 : lw_okq (⟨"KnotColoursModel", "joins", "(III)V"⟩, 16) := ⟨⟨by decide +kernel, by decide +kernel⟩, List.mem_of_getElem? (i := 675) (by decide +kernel), List.mem_of_getElem? (i := 850) (by decide +kernel), List.mem_of_getElem? (i := 851) (by decide +kernel)⟩
theorem lw_p40 : lw_okq (⟨"KnotColoursModel", "partsMany", "(I)I"⟩, 16) := ⟨⟨by decide +kernel, by decide +kernel⟩, List.mem_of_getElem? (i := 675) (by decide +kernel), List.mem_of_getElem? (i := 854) (by decide +kernel), List.mem_of_getElem? (i := 855) (by decide +kernel)⟩
theorem lw_p41 : lw_okq (⟨"KnotColoursModel", "closureOf", "(I)I"⟩, 16) := ⟨⟨by decide +kernel, by decide +kernel⟩, List.mem_of_getElem? (i := 675) (by decide +kernel), List.mem_of_getElem? (i := 862) (by decide +kernel), List.mem_of_getElem? (i := 863) (by decide +kernel)⟩
theorem lw_p42 : lw_okq (⟨"KnotColoursModel", "fewestGenerators", "()I"⟩, 16) := ⟨⟨by decide +kernel, by decide +kernel⟩, List.mem_of_getElem? (i := 675) (by decide +kernel), List.mem_of_getElem? (i := 870) (by decide +kernel), List.mem_of_getElem? (i := 871) (by decide +kernel)⟩
theorem lw_p43 : lw_okq (⟨"KnotColoursModel", "differentTranslations", "()I"⟩, 16) := ⟨⟨by decide +kernel, by decide +kernel⟩, List.mem_of_getElem? (i := 675) (by decide +kernel), List.mem_of_getElem? (i := 882) (by decide +kernel), List.mem_of_getElem? (i := 883) (by decide +kernel)⟩
theorem lw_p44 : lw_okq (⟨"KnotColoursModel", "groupSize", "()I"⟩, 16) := ⟨⟨by decide +kernel, by decide +kernel⟩, List.mem_of_getElem? (i := 675) (by decide +kernel), List.mem_of_getElem? (i := 890) (by decide +kernel), List.mem_of_getElem? (i := 891) (by decide +kernel)⟩
theorem lw_p45 : lw_okq (⟨"KnotColoursModel", "keepsFound", "(I)V"⟩, 16) := ⟨⟨by decide +kernel, by decide +kernel⟩, List.mem_of_getElem? (i := 675) (by decide +kernel), List.mem_of_getElem? (i := 894) (by decide +kernel), List.mem_of_getElem? (i := 895) (by decide +kernel)⟩
theorem lw_p46 : lw_okq (⟨"KnotColoursModel", "unpacks", "(I)V"⟩, 16) := ⟨⟨by decide +kernel, by decide +kernel⟩, List.mem_of_getElem? (i := 675) (by decide +kernel), List.mem_of_getElem? (i := 898) (by decide +kernel), List.mem_of_getElem? (i := 899) (by decide +kernel)⟩
theorem lw_p47 : lw_okq (⟨"KnotColoursModel", "packed", "(I)I"⟩, 16) := ⟨⟨by decide +kernel, by decide +kernel⟩, List.mem_of_getElem? (i := 675) (by decide +kernel), List.mem_of_getElem? (i := 902) (by decide +kernel), List.mem_of_getElem? (i := 903) (by decide +kernel)⟩
def lw_privs_3 : List (MethodName × Nat) := [(⟨"KnotColoursModel", "isPermutation", "(I)Z"⟩, 16), (⟨"KnotColoursModel", "dividedBy", "(II)I"⟩, 16), (⟨"KnotColoursModel", "violates", "(I)I"⟩, 16), (⟨"KnotColoursModel", "violatesFirst", "()I"⟩, 16), (⟨"KnotColoursModel", "violatesThird", "()I"⟩, 16), (⟨"KnotColoursModel", "componentsOfTable", "()I"⟩, 16), (⟨"KnotColoursModel", "aloneAll", "(I)V"⟩, 16), (⟨"KnotColoursModel", "joins", "(III)V"⟩, 16), (⟨"KnotColoursModel", "partsMany", "(I)I"⟩, 16), (⟨"KnotColoursModel", "closureOf", "(I)I"⟩, 16), (⟨"KnotColoursModel", "fewestGenerators", "()I"⟩, 16), (⟨"KnotColoursModel", "differentTranslations", "()I"⟩, 16), (⟨"KnotColoursModel", "groupSize", "()I"⟩, 16), (⟨"KnotColoursModel", "keepsFound", "(I)V"⟩, 16), (⟨"KnotColoursModel", "unpacks", "(I)V"⟩, 16), (⟨"KnotColoursModel", "packed", "(I)I"⟩, 16)]
theorem lw_r3 : ∀ q ∈ lw_privs_3, lw_okq q := List.forall_mem_cons.mpr ⟨lw_p32, List.forall_mem_cons.mpr ⟨lw_p33, List.forall_mem_cons.mpr ⟨lw_p34, List.forall_mem_cons.mpr ⟨lw_p35, List.forall_mem_cons.mpr ⟨lw_p36, List.forall_mem_cons.mpr ⟨lw_p37, List.forall_mem_cons.mpr ⟨lw_p38, List.forall_mem_cons.mpr ⟨lw_p39, List.forall_mem_cons.mpr ⟨lw_p40, List.forall_mem_cons.mpr ⟨lw_p41, List.forall_mem_cons.mpr ⟨lw_p42, List.forall_mem_cons.mpr ⟨lw_p43, List.forall_mem_cons.mpr ⟨lw_p44, List.forall_mem_cons.mpr ⟨lw_p45, List.forall_mem_cons.mpr ⟨lw_p46, List.forall_mem_cons.mpr ⟨lw_p47, fun _ h => absurd h List.not_mem_nil⟩⟩⟩⟩⟩⟩⟩⟩⟩⟩⟩⟩⟩⟩⟩⟩
theorem lw_p48 : lw_okq (⟨"KnotColoursModel", "automorphismsMany", "()I"⟩, 16) := ⟨⟨by decide +kernel, by decide +kernel⟩, List.mem_of_getElem? (i := 675) (by decide +kernel), List.mem_of_getElem? (i := 910) (by decide +kernel), List.mem_of_getElem? (i := 911) (by decide +kernel)⟩
theorem lw_p49 : lw_okq (⟨"KnotColoursModel", "isAutomorphism", "()Z"⟩, 16) := ⟨⟨by decide +kernel, by decide +kernel⟩, List.mem_of_getElem? (i := 675) (by decide +kernel), List.mem_of_getElem? (i := 914) (by decide +kernel), List.mem_of_getElem? (i := 915) (by decide +kernel)⟩
theorem lw_p50 : lw_okq (⟨"KnotColoursModel", "clears", "(I)V"⟩, 16) := ⟨⟨by decide +kernel, by decide +kernel⟩, List.mem_of_getElem? (i := 675) (by decide +kernel), List.mem_of_getElem? (i := 922) (by decide +kernel), List.mem_of_getElem? (i := 923) (by decide +kernel)⟩
theorem lw_p51 : lw_okq (⟨"KnotColoursModel", "adds", "(IIII)V"⟩, 16) := ⟨⟨by decide +kernel, by decide +kernel⟩, List.mem_of_getElem? (i := 675) (by decide +kernel), List.mem_of_getElem? (i := 930) (by decide +kernel), List.mem_of_getElem? (i := 931) (by decide +kernel)⟩
theorem lw_p52 : lw_okq (⟨"KnotColoursModel", "isArc", "(I)Z"⟩, 16) := ⟨⟨by decide +kernel, by decide +kernel⟩, List.mem_of_getElem? (i := 675) (by decide +kernel), List.mem_of_getElem? (i := 938) (by decide +kernel), List.mem_of_getElem? (i := 939) (by decide +kernel)⟩
theorem lw_p53 : lw_okq (⟨"KnotColoursModel", "isCrossing", "(I)Z"⟩, 16) := ⟨⟨by decide +kernel, by decide +kernel⟩, List.mem_of_getElem? (i := 675) (by decide +kernel), List.mem_of_getElem? (i := 949) (by decide +kernel), List.mem_of_getElem? (i := 950) (by decide +kernel)⟩
theorem lw_p54 : lw_okq (⟨"KnotColoursModel", "moves", "(II)V"⟩, 16) := ⟨⟨by decide +kernel, by decide +kernel⟩, List.mem_of_getElem? (i := 675) (by decide +kernel), List.mem_of_getElem? (i := 957) (by decide +kernel), List.mem_of_getElem? (i := 958) (by decide +kernel)⟩
theorem lw_p55 : lw_okq (⟨"KnotColoursModel", "crossingPart", "(II)I"⟩, 16) := ⟨⟨by decide +kernel, by decide +kernel⟩, List.mem_of_getElem? (i := 675) (by decide +kernel), List.mem_of_getElem? (i := 961) (by decide +kernel), List.mem_of_getElem? (i := 962) (by decide +kernel)⟩
theorem lw_p56 : lw_okq (⟨"KnotColoursModel", "componentsNow", "()I"⟩, 16) := ⟨⟨by decide +kernel, by decide +kernel⟩, List.mem_of_getElem? (i := 675) (by decide +kernel), List.mem_of_getElem? (i := 985) (by decide +kernel), List.mem_of_getElem? (i := 986) (by decide +kernel)⟩
theorem lw_p57 : lw_okq (⟨"KnotColoursModel", "isClosed", "()Z"⟩, 16) := ⟨⟨by decide +kernel, by decide +kernel⟩, List.mem_of_getElem? (i := 675) (by decide +kernel), List.mem_of_getElem? (i := 989) (by decide +kernel), List.mem_of_getElem? (i := 990) (by decide +kernel)⟩
theorem lw_p58 : lw_okq (⟨"KnotColoursModel", "findParts", "()V"⟩, 16) := ⟨⟨by decide +kernel, by decide +kernel⟩, List.mem_of_getElem? (i := 675) (by decide +kernel), List.mem_of_getElem? (i := 993) (by decide +kernel), List.mem_of_getElem? (i := 994) (by decide +kernel)⟩
theorem lw_p59 : lw_okq (⟨"KnotColoursModel", "writheNow", "()I"⟩, 16) := ⟨⟨by decide +kernel, by decide +kernel⟩, List.mem_of_getElem? (i := 675) (by decide +kernel), List.mem_of_getElem? (i := 1001) (by decide +kernel), List.mem_of_getElem? (i := 1002) (by decide +kernel)⟩
theorem lw_p60 : lw_okq (⟨"KnotColoursModel", "counts", "(III)I"⟩, 16) := ⟨⟨by decide +kernel, by decide +kernel⟩, List.mem_of_getElem? (i := 675) (by decide +kernel), List.mem_of_getElem? (i := 1013) (by decide +kernel), List.mem_of_getElem? (i := 1014) (by decide +kernel)⟩
theorem lw_p61 : lw_okq (⟨"KnotColoursModel", "beginsColours", "()V"⟩, 16) := ⟨⟨by decide +kernel, by decide +kernel⟩, List.mem_of_getElem? (i := 675) (by decide +kernel), List.mem_of_getElem? (i := 1017) (by decide +kernel), List.mem_of_getElem? (i := 1018) (by decide +kernel)⟩
theorem lw_p62 : lw_okq (⟨"KnotColoursModel", "usedColours", "()I"⟩, 16) := ⟨⟨by decide +kernel, by decide +kernel⟩, List.mem_of_getElem? (i := 675) (by decide +kernel), List.mem_of_getElem? (i := 1021) (by decide +kernel), List.mem_of_getElem? (i := 1022) (by decide +kernel)⟩
theorem lw_p63 : lw_okq (⟨"KnotColoursModel", "isColouring", "()Z"⟩, 16) := ⟨⟨by decide +kernel, by decide +kernel⟩, List.mem_of_getElem? (i := 675) (by decide +kernel), List.mem_of_getElem? (i := 1025) (by decide +kernel), List.mem_of_getElem? (i := 1026) (by decide +kernel)⟩
def lw_privs_4 : List (MethodName × Nat) := [(⟨"KnotColoursModel", "automorphismsMany", "()I"⟩, 16), (⟨"KnotColoursModel", "isAutomorphism", "()Z"⟩, 16), (⟨"KnotColoursModel", "clears", "(I)V"⟩, 16), (⟨"KnotColoursModel", "adds", "(IIII)V"⟩, 16), (⟨"KnotColoursModel", "isArc", "(I)Z"⟩, 16), (⟨"KnotColoursModel", "isCrossing", "(I)Z"⟩, 16), (⟨"KnotColoursModel", "moves", "(II)V"⟩, 16), (⟨"KnotColoursModel", "crossingPart", "(II)I"⟩, 16), (⟨"KnotColoursModel", "componentsNow", "()I"⟩, 16), (⟨"KnotColoursModel", "isClosed", "()Z"⟩, 16), (⟨"KnotColoursModel", "findParts", "()V"⟩, 16), (⟨"KnotColoursModel", "writheNow", "()I"⟩, 16), (⟨"KnotColoursModel", "counts", "(III)I"⟩, 16), (⟨"KnotColoursModel", "beginsColours", "()V"⟩, 16), (⟨"KnotColoursModel", "usedColours", "()I"⟩, 16), (⟨"KnotColoursModel", "isColouring", "()Z"⟩, 16)]
theorem lw_r4 : ∀ q ∈ lw_privs_4, lw_okq q := List.forall_mem_cons.mpr ⟨lw_p48, List.forall_mem_cons.mpr ⟨lw_p49, List.forall_mem_cons.mpr ⟨lw_p50, List.forall_mem_cons.mpr ⟨lw_p51, List.forall_mem_cons.mpr ⟨lw_p52, List.forall_mem_cons.mpr ⟨lw_p53, List.forall_mem_cons.mpr ⟨lw_p54, List.forall_mem_cons.mpr ⟨lw_p55, List.forall_mem_cons.mpr ⟨lw_p56, List.forall_mem_cons.mpr ⟨lw_p57, List.forall_mem_cons.mpr ⟨lw_p58, List.forall_mem_cons.mpr ⟨lw_p59, List.forall_mem_cons.mpr ⟨lw_p60, List.forall_mem_cons.mpr ⟨lw_p61, List.forall_mem_cons.mpr ⟨lw_p62, List.forall_mem_cons.mpr ⟨lw_p63, fun _ h => absurd h List.not_mem_nil⟩⟩⟩⟩⟩⟩⟩⟩⟩⟩⟩⟩⟩⟩⟩⟩
theorem lw_p64 : lw_okq (⟨"KnotColoursModel", "goesOnColours", "()Z"⟩, 16) := ⟨⟨by decide +kernel, by decide +kernel⟩, List.mem_of_getElem? (i := 675) (by decide +kernel), List.mem_of_getElem? (i := 1029) (by decide +kernel), List.mem_of_getElem? (i := 1030) (by decide +kernel)⟩
theorem lw_p65 : lw_okq (⟨"KnotColoursModel", "findError", "()I"⟩, 16) := ⟨⟨by decide +kernel, by decide +kernel⟩, List.mem_of_getElem? (i := 675) (by decide +kernel), List.mem_of_getElem? (i := 1061) (by decide +kernel), List.mem_of_getElem? (i := 1062) (by decide +kernel)⟩
theorem lw_p66 : lw_okq (⟨"KnotColoursModel", "readsCrossing", "()Z"⟩, 16) := ⟨⟨by decide +kernel, by decide +kernel⟩, List.mem_of_getElem? (i := 675) (by decide +kernel), List.mem_of_getElem? (i := 1065) (by decide +kernel), List.mem_of_getElem? (i := 1066) (by decide +kernel)⟩
theorem lw_p67 : lw_okq (⟨"KnotColoursModel", "arcRead", "()I"⟩, 16) := ⟨⟨by decide +kernel, by decide +kernel⟩, List.mem_of_getElem? (i := 675) (by decide +kernel), List.mem_of_getElem? (i := 1069) (by decide +kernel), List.mem_of_getElem? (i := 1070) (by decide +kernel)⟩
theorem lw_p68 : lw_okq (⟨"KnotColoursModel", "character", "(I)I"⟩, 16) := ⟨⟨by decide +kernel, by decide +kernel⟩, List.mem_of_getElem? (i := 675) (by decide +kernel), List.mem_of_getElem? (i := 1073) (by decide +kernel), List.mem_of_getElem? (i := 1074) (by decide +kernel)⟩
theorem lw_p69 : lw_okq (⟨"KnotColoursModel", "isNext", "(I)Z"⟩, 16) := ⟨⟨by decide +kernel, by decide +kernel⟩, List.mem_of_getElem? (i := 675) (by decide +kernel), List.mem_of_getElem? (i := 1077) (by decide +kernel), List.mem_of_getElem? (i := 1078) (by decide +kernel)⟩
def lw_privs_5 : List (MethodName × Nat) := [(⟨"KnotColoursModel", "goesOnColours", "()Z"⟩, 16), (⟨"KnotColoursModel", "findError", "()I"⟩, 16), (⟨"KnotColoursModel", "readsCrossing", "()Z"⟩, 16), (⟨"KnotColoursModel", "arcRead", "()I"⟩, 16), (⟨"KnotColoursModel", "character", "(I)I"⟩, 16), (⟨"KnotColoursModel", "isNext", "(I)Z"⟩, 16)]
theorem lw_r5 : ∀ q ∈ lw_privs_5, lw_okq q := List.forall_mem_cons.mpr ⟨lw_p64, List.forall_mem_cons.mpr ⟨lw_p65, List.forall_mem_cons.mpr ⟨lw_p66, List.forall_mem_cons.mpr ⟨lw_p67, List.forall_mem_cons.mpr ⟨lw_p68, List.forall_mem_cons.mpr ⟨lw_p69, fun _ h => absurd h List.not_mem_nil⟩⟩⟩⟩⟩⟩
def lw_privs : List (MethodName × Nat) := lw_privs_1 ++ (lw_privs_2 ++ (lw_privs_3 ++ (lw_privs_4 ++ (lw_privs_5))))
def lw_tbl : List Cond := k2_sels lw_privs ++ tables_1
theorem lw_privs_ok : ∀ q ∈ lw_privs, lw_okq q := by
  show ∀ q ∈ lw_privs_1 ++ (lw_privs_2 ++ (lw_privs_3 ++ (lw_privs_4 ++ (lw_privs_5)))), lw_okq q
  exact List.forall_mem_append.mpr ⟨lw_r1, List.forall_mem_append.mpr ⟨lw_r2, List.forall_mem_append.mpr ⟨lw_r3, List.forall_mem_append.mpr ⟨lw_r4, lw_r5⟩⟩⟩⟩
theorem goodIn_r {big : List Cond} (ws : List Cond) (ps : List Nat) (hp : ws = ps.filterMap (fun i => big[i]?)) (h : ws.all goodWord = true) : GoodIn big ws := by
  intro w hw
  have h1 := List.all_eq_true.mp h w hw
  rw [hp] at hw
  obtain ⟨i, -, hi⟩ := List.mem_filterMap.mp hw
  have hm : w ∈ big := by first | exact List.mem_of_getElem? hi | exact List.getElem?_mem hi
  exact ⟨hm, good_of_word h1⟩
theorem goodIn_app {big a b : List Cond} (ha : GoodIn big a) (hb : GoodIn big b) : GoodIn big (a ++ b) := fun w h => (List.mem_append.mp h).elim (ha w) (hb w)
theorem goodIn_ca {big a b : List Cond} {c : Cond} (ha : GoodIn big (c :: a)) (hb : GoodIn big b) : GoodIn big (c :: (a ++ b)) := fun w h => (List.mem_cons.mp h).elim (fun e => ha w (List.mem_cons.mpr (Or.inl e))) (fun h => (List.mem_append.mp h).elim (fun h => ha w (List.mem_cons.mpr (Or.inr h))) (hb w))
theorem goodIn_sub {big ws : List Cond} (hm : ∀ w ∈ ws, w ∈ big) (h : ws.all goodWord = true) : GoodIn big ws := fun w hw => ⟨hm w hw, good_of_word (List.all_eq_true.mp h w hw)⟩
def RX0 : String := "KnotColours$ColouringWalk"
def TX0 : u_T := fun k => match k with
  | 0 => ("KnotColours$ColouringWalk", "table", "LKnotColours$Table;", true)
  | 1 => ("KnotColours$ColouringWalk", "diagram", "LKnotColours$Diagram;", true)
  | 2 => ("KnotColours$ColouringWalk", "colours", "[I", true)
  | 3 => ("KnotColours$ColouringWalk", "lastArcs", "[I", true)
  | 4 => ("KnotColours$ColouringWalk", "tallies", "[I", true)
  | _ => ("KnotColours$ColouringWalk", "arc", "I", false)
def tyX0 : Nat → FieldType := fun k => match k with
  | 0 => .object "KnotColours$Table"
  | 1 => .object "KnotColours$Diagram"
  | 2 => .array .int
  | 3 => .array .int
  | 4 => .array .int
  | _ => .int
abbrev wsX00 : List Cond := u_ws RX0 TX0 6
theorem nmX0 : ∀ a, a < 6 → ∀ b, b < 6 → a ≠ b → (TX0 a).2.1 ≠ (TX0 b).2.1 := by decide +kernel
theorem tyX0_ok : ∀ k, k < 6 → parseFieldDescriptor (TX0 k).2.2.1 = some (tyX0 k) := by decide +kernel
abbrev cX0_init : ByteArray := prog_2_method_1_code
def yX0_init : MethodName := ⟨RX0, "<init>", "(LKnotColours$Table;LKnotColours$Diagram;)V"⟩
abbrev cX0_tally : ByteArray := prog_2_method_2_code
def yX0_tally : MethodName := ⟨RX0, "tally", "()I"⟩
abbrev cX0_talliedUsing : ByteArray := prog_2_method_3_code
def yX0_talliedUsing : MethodName := ⟨RX0, "talliedUsing", "(I)I"⟩
abbrev cX0_coloursUsed : ByteArray := prog_2_method_4_code
def yX0_coloursUsed : MethodName := ⟨RX0, "coloursUsed", "()I"⟩
abbrev cX0_countWith : ByteArray := prog_2_method_5_code
def yX0_countWith : MethodName := ⟨RX0, "countWith", "(II)I"⟩
abbrev cX0_countAlike : ByteArray := prog_2_method_6_code
def yX0_countAlike : MethodName := ⟨RX0, "countAlike", "(II)I"⟩
abbrev cX0_colourAt : ByteArray := prog_2_method_7_code
def yX0_colourAt : MethodName := ⟨RX0, "colourAt", "(II)I"⟩
abbrev cX0_start : ByteArray := prog_2_method_8_code
def yX0_start : MethodName := ⟨RX0, "start", "()V"⟩
abbrev cX0_advance : ByteArray := prog_2_method_9_code
def yX0_advance : MethodName := ⟨RX0, "advance", "()Z"⟩
abbrev cX0_fits : ByteArray := prog_2_method_10_code
def yX0_fits : MethodName := ⟨RX0, "fits", "()Z"⟩
abbrev cX0_isMet : ByteArray := prog_2_method_11_code
def yX0_isMet : MethodName := ⟨RX0, "isMet", "(I)Z"⟩
def RX1 : String := "KnotColours$Diagram"
def TX1 : u_T := fun k => match k with
  | 0 => ("KnotColours$Diagram", "arcCount", "I", false)
  | 1 => ("KnotColours$Diagram", "crossingCount", "I", false)
  | _ => ("KnotColours$Diagram", "parts", "[I", true)
def tyX1 : Nat → FieldType := fun k => match k with
  | 0 => .int
  | 1 => .int
  | _ => .array .int
abbrev wsX10 : List Cond := u_ws RX1 TX1 3
theorem nmX1 : ∀ a, a < 3 → ∀ b, b < 3 → a ≠ b → (TX1 a).2.1 ≠ (TX1 b).2.1 := by decide +kernel
theorem tyX1_ok : ∀ k, k < 3 → parseFieldDescriptor (TX1 k).2.2.1 = some (tyX1 k) := by decide +kernel
abbrev cX1_init : ByteArray := prog_3_method_1_code
def yX1_init : MethodName := ⟨RX1, "<init>", "()V"⟩
abbrev cX1_hasArc : ByteArray := prog_3_method_2_code
def yX1_hasArc : MethodName := ⟨RX1, "hasArc", "(I)Z"⟩
abbrev cX1_hasCrossing : ByteArray := prog_3_method_3_code
def yX1_hasCrossing : MethodName := ⟨RX1, "hasCrossing", "(I)Z"⟩
abbrev cX1_hasRoom : ByteArray := prog_3_method_4_code
def yX1_hasRoom : MethodName := ⟨RX1, "hasRoom", "(II)Z"⟩
abbrev cX1_part : ByteArray := prog_3_method_5_code
def yX1_part : MethodName := ⟨RX1, "part", "(II)I"⟩
abbrev cX1_copyFrom : ByteArray := prog_3_method_6_code
def yX1_copyFrom : MethodName := ⟨RX1, "copyFrom", "(LKnotColours$Diagram;)V"⟩
abbrev cX1_clear : ByteArray := prog_3_method_7_code
def yX1_clear : MethodName := ⟨RX1, "clear", "(I)V"⟩
abbrev cX1_addArc : ByteArray := prog_3_method_8_code
def yX1_addArc : MethodName := ⟨RX1, "addArc", "()I"⟩
abbrev cX1_append : ByteArray := prog_3_method_9_code
def yX1_append : MethodName := ⟨RX1, "append", "(IIII)V"⟩
abbrev cX1_remove : ByteArray := prog_3_method_10_code
def yX1_remove : MethodName := ⟨RX1, "remove", "(I)V"⟩
abbrev cX1_moveIn : ByteArray := prog_3_method_11_code
def yX1_moveIn : MethodName := ⟨RX1, "moveIn", "(II)V"⟩
abbrev cX1_isClosed : ByteArray := prog_3_method_12_code
def yX1_isClosed : MethodName := ⟨RX1, "isClosed", "()Z"⟩
abbrev cX1_countAs : ByteArray := prog_3_method_13_code
def yX1_countAs : MethodName := ⟨RX1, "countAs", "(II)I"⟩
abbrev cX1_countComponents : ByteArray := prog_3_method_14_code
def yX1_countComponents : MethodName := ⟨RX1, "countComponents", "()I"⟩
abbrev cX1_componentOf : ByteArray := prog_3_method_15_code
def yX1_componentOf : MethodName := ⟨RX1, "componentOf", "(I)I"⟩
abbrev cX1_signSum : ByteArray := prog_3_method_16_code
def yX1_signSum : MethodName := ⟨RX1, "signSum", "()I"⟩
abbrev cX1_linkingSum : ByteArray := prog_3_method_17_code
def yX1_linkingSum : MethodName := ⟨RX1, "linkingSum", "(II)I"⟩
def RX2 : String := "KnotColours$DiagramText"
def TX2 : u_T := fun k => match k with
  | 0 => ("KnotColours$DiagramText", "length", "I", false)
  | _ => ("KnotColours$DiagramText", "characters", "[C", true)
def tyX2 : Nat → FieldType := fun k => match k with
  | 0 => .int
  | _ => .array .char
abbrev wsX20 : List Cond := u_ws RX2 TX2 2
theorem nmX2 : ∀ a, a < 2 → ∀ b, b < 2 → a ≠ b → (TX2 a).2.1 ≠ (TX2 b).2.1 := by decide +kernel
theorem tyX2_ok : ∀ k, k < 2 → parseFieldDescriptor (TX2 k).2.2.1 = some (tyX2 k) := by decide +kernel
abbrev cX2_init : ByteArray := prog_4_method_1_code
def yX2_init : MethodName := ⟨RX2, "<init>", "()V"⟩
abbrev cX2_append : ByteArray := prog_4_method_2_code
def yX2_append : MethodName := ⟨RX2, "append", "(C)V"⟩
abbrev cX2_clear : ByteArray := prog_4_method_3_code
def yX2_clear : MethodName := ⟨RX2, "clear", "()V"⟩
abbrev cX2_firstError : ByteArray := prog_4_method_4_code
def yX2_firstError : MethodName := ⟨RX2, "firstError", "()I"⟩
abbrev cX2_mayStandAt : ByteArray := prog_4_method_5_code
def yX2_mayStandAt : MethodName := ⟨RX2, "mayStandAt", "(I)Z"⟩
abbrev cX2_drawInto : ByteArray := prog_4_method_6_code
def yX2_drawInto : MethodName := ⟨RX2, "drawInto", "(LKnotColours$Diagram;)V"⟩
abbrev cX2_arcAt : ByteArray := prog_4_method_7_code
def yX2_arcAt : MethodName := ⟨RX2, "arcAt", "(I)I"⟩
def RX3 : String := "KnotColours$History"
def TX3 : u_T := fun k => match k with
  | 0 => ("KnotColours$History", "saved", "I", false)
  | 1 => ("KnotColours$History", "next", "I", false)
  | 2 => ("KnotColours$History", "tables", "[LKnotColours$Table;", true)
  | _ => ("KnotColours$History", "diagrams", "[LKnotColours$Diagram;", true)
def tyX3 : Nat → FieldType := fun k => match k with
  | 0 => .int
  | 1 => .int
  | 2 => .array (.object "KnotColours$Table")
  | _ => .array (.object "KnotColours$Diagram")
abbrev wsX30 : List Cond := u_ws RX3 TX3 4
theorem nmX3 : ∀ a, a < 4 → ∀ b, b < 4 → a ≠ b → (TX3 a).2.1 ≠ (TX3 b).2.1 := by decide +kernel
theorem tyX3_ok : ∀ k, k < 4 → parseFieldDescriptor (TX3 k).2.2.1 = some (tyX3 k) := by decide +kernel
abbrev cX3_init : ByteArray := prog_5_method_1_code
def yX3_init : MethodName := ⟨RX3, "<init>", "()V"⟩
abbrev cX3_save : ByteArray := prog_5_method_2_code
def yX3_save : MethodName := ⟨RX3, "save", "(LKnotColours$Table;LKnotColours$Diagram;)V"⟩
abbrev cX3_restore : ByteArray := prog_5_method_3_code
def yX3_restore : MethodName := ⟨RX3, "restore", "(LKnotColours$Table;LKnotColours$Diagram;)V"⟩
def RX4 : String := "KnotColours$Permutations"
def TX4 : u_T := fun k => match k with
  | 0 => ("KnotColours$Permutations", "image", "[I", true)
  | 1 => ("KnotColours$Permutations", "composed", "[I", true)
  | 2 => ("KnotColours$Permutations", "queue", "[I", true)
  | _ => ("KnotColours$Permutations", "seen", "[Z", true)
def tyX4 : Nat → FieldType := fun k => match k with
  | 0 => .array .int
  | 1 => .array .int
  | 2 => .array .int
  | _ => .array .boolean
abbrev wsX40 : List Cond := u_ws RX4 TX4 4
theorem nmX4 : ∀ a, a < 4 → ∀ b, b < 4 → a ≠ b → (TX4 a).2.1 ≠ (TX4 b).2.1 := by decide +kernel
theorem tyX4_ok : ∀ k, k < 4 → parseFieldDescriptor (TX4 k).2.2.1 = some (tyX4 k) := by decide +kernel
abbrev cX4_init : ByteArray := prog_6_method_1_code
def yX4_init : MethodName := ⟨RX4, "<init>", "()V"⟩
abbrev cX4_countCompositions : ByteArray := prog_6_method_2_code
def yX4_countCompositions : MethodName := ⟨RX4, "countCompositions", "(LKnotColours$Table;)I"⟩
abbrev cX4_startAtIdentity : ByteArray := prog_6_method_3_code
def yX4_startAtIdentity : MethodName := ⟨RX4, "startAtIdentity", "()V"⟩
abbrev cX4_rankBehind : ByteArray := prog_6_method_4_code
def yX4_rankBehind : MethodName := ⟨RX4, "rankBehind", "(LKnotColours$Table;I)I"⟩
abbrev cX4_unrank : ByteArray := prog_6_method_5_code
def yX4_unrank : MethodName := ⟨RX4, "unrank", "(II)V"⟩
abbrev cX4_countAutomorphisms : ByteArray := prog_6_method_6_code
def yX4_countAutomorphisms : MethodName := ⟨RX4, "countAutomorphisms", "(LKnotColours$Table;)I"⟩
abbrev cX4_keepsProducts : ByteArray := prog_6_method_7_code
def yX4_keepsProducts : MethodName := ⟨RX4, "keepsProducts", "(LKnotColours$Table;)Z"⟩
def RX5 : String := "KnotColours$Table"
def TX5 : u_T := fun k => match k with
  | 0 => ("KnotColours$Table", "count", "I", false)
  | _ => ("KnotColours$Table", "products", "[I", true)
def tyX5 : Nat → FieldType := fun k => match k with
  | 0 => .int
  | _ => .array .int
abbrev wsX50 : List Cond := u_ws RX5 TX5 2
theorem nmX5 : ∀ a, a < 2 → ∀ b, b < 2 → a ≠ b → (TX5 a).2.1 ≠ (TX5 b).2.1 := by decide +kernel
theorem tyX5_ok : ∀ k, k < 2 → parseFieldDescriptor (TX5 k).2.2.1 = some (tyX5 k) := by decide +kernel
abbrev cX5_init : ByteArray := prog_7_method_1_code
def yX5_init : MethodName := ⟨RX5, "<init>", "()V"⟩
abbrev cX5_has : ByteArray := prog_7_method_2_code
def yX5_has : MethodName := ⟨RX5, "has", "(I)Z"⟩
abbrev cX5_times : ByteArray := prog_7_method_3_code
def yX5_times : MethodName := ⟨RX5, "times", "(II)I"⟩
abbrev cX5_put : ByteArray := prog_7_method_4_code
def yX5_put : MethodName := ⟨RX5, "put", "(III)V"⟩
abbrev cX5_copyFrom : ByteArray := prog_7_method_5_code
def yX5_copyFrom : MethodName := ⟨RX5, "copyFrom", "(LKnotColours$Table;)V"⟩
abbrev cX5_fillLinear : ByteArray := prog_7_method_6_code
def yX5_fillLinear : MethodName := ⟨RX5, "fillLinear", "(II)V"⟩
abbrev cX5_fillTranspositions : ByteArray := prog_7_method_7_code
def yX5_fillTranspositions : MethodName := ⟨RX5, "fillTranspositions", "(I)V"⟩
abbrev cX5_fillTranslation : ByteArray := prog_7_method_8_code
def yX5_fillTranslation : MethodName := ⟨RX5, "fillTranslation", "(III)V"⟩
abbrev cX5_pairNumber : ByteArray := prog_7_method_9_code
def yX5_pairNumber : MethodName := ⟨RX5, "pairNumber", "(III)I"⟩
abbrev cX5_swapped : ByteArray := prog_7_method_10_code
def yX5_swapped : MethodName := ⟨RX5, "swapped", "(III)I"⟩
abbrev cX5_fillInverse : ByteArray := prog_7_method_11_code
def yX5_fillInverse : MethodName := ⟨RX5, "fillInverse", "(LKnotColours$Table;)I"⟩
abbrev cX5_lowestFactor : ByteArray := prog_7_method_12_code
def yX5_lowestFactor : MethodName := ⟨RX5, "lowestFactor", "(II)I"⟩
abbrev cX5_firstNotIdempotent : ByteArray := prog_7_method_13_code
def yX5_firstNotIdempotent : MethodName := ⟨RX5, "firstNotIdempotent", "()I"⟩
abbrev cX5_firstNoPermutation : ByteArray := prog_7_method_14_code
def yX5_firstNoPermutation : MethodName := ⟨RX5, "firstNoPermutation", "()I"⟩
abbrev cX5_isPermutation : ByteArray := prog_7_method_15_code
def yX5_isPermutation : MethodName := ⟨RX5, "isPermutation", "(I)Z"⟩
abbrev cX5_firstNotDistributive : ByteArray := prog_7_method_16_code
def yX5_firstNotDistributive : MethodName := ⟨RX5, "firstNotDistributive", "()I"⟩
abbrev cX5_allElements : ByteArray := prog_7_method_17_code
def yX5_allElements : MethodName := ⟨RX5, "allElements", "()I"⟩
abbrev cX5_reachedFrom : ByteArray := prog_7_method_18_code
def yX5_reachedFrom : MethodName := ⟨RX5, "reachedFrom", "(I)I"⟩
abbrev cX5_countComponents : ByteArray := prog_7_method_19_code
def yX5_countComponents : MethodName := ⟨RX5, "countComponents", "()I"⟩
abbrev cX5_componentOf : ByteArray := prog_7_method_20_code
def yX5_componentOf : MethodName := ⟨RX5, "componentOf", "(I)I"⟩
abbrev cX5_closureOf : ByteArray := prog_7_method_21_code
def yX5_closureOf : MethodName := ⟨RX5, "closureOf", "(I)I"⟩
abbrev cX5_leastGenerators : ByteArray := prog_7_method_22_code
def yX5_leastGenerators : MethodName := ⟨RX5, "leastGenerators", "()I"⟩
abbrev cX5_orderOfTranslation : ByteArray := prog_7_method_23_code
def yX5_orderOfTranslation : MethodName := ⟨RX5, "orderOfTranslation", "(I)I"⟩
abbrev cX5_isIdentityAfter : ByteArray := prog_7_method_24_code
def yX5_isIdentityAfter : MethodName := ⟨RX5, "isIdentityAfter", "(II)Z"⟩
abbrev cX5_countTranslations : ByteArray := prog_7_method_25_code
def yX5_countTranslations : MethodName := ⟨RX5, "countTranslations", "()I"⟩
abbrev cX5_isNewTranslation : ByteArray := prog_7_method_26_code
def yX5_isNewTranslation : MethodName := ⟨RX5, "isNewTranslation", "(I)Z"⟩
abbrev cX5_sameTranslation : ByteArray := prog_7_method_27_code
def yX5_sameTranslation : MethodName := ⟨RX5, "sameTranslation", "(II)Z"⟩
def RX6 : String := "KnotColours"
def TX6 : u_T := fun k => match k with
  | 0 => ("KnotColours", "table", "LKnotColours$Table;", true)
  | 1 => ("KnotColours", "spare", "LKnotColours$Table;", true)
  | 2 => ("KnotColours", "permutations", "LKnotColours$Permutations;", true)
  | 3 => ("KnotColours", "diagram", "LKnotColours$Diagram;", true)
  | 4 => ("KnotColours", "walk", "LKnotColours$ColouringWalk;", true)
  | 5 => ("KnotColours", "text", "LKnotColours$DiagramText;", true)
  | _ => ("KnotColours", "history", "LKnotColours$History;", true)
def tyX6 : Nat → FieldType := fun k => match k with
  | 0 => .object "KnotColours$Table"
  | 1 => .object "KnotColours$Table"
  | 2 => .object "KnotColours$Permutations"
  | 3 => .object "KnotColours$Diagram"
  | 4 => .object "KnotColours$ColouringWalk"
  | 5 => .object "KnotColours$DiagramText"
  | _ => .object "KnotColours$History"
abbrev wsX60 : List Cond := u_ws RX6 TX6 7
theorem nmX6 : ∀ a, a < 7 → ∀ b, b < 7 → a ≠ b → (TX6 a).2.1 ≠ (TX6 b).2.1 := by decide +kernel
theorem tyX6_ok : ∀ k, k < 7 → parseFieldDescriptor (TX6 k).2.2.1 = some (tyX6 k) := by decide +kernel
abbrev cX6_init : ByteArray := prog_1_method_1_code
def yX6_init : MethodName := ⟨RX6, "<init>", "()V"⟩
abbrev cX6_trivial : ByteArray := prog_1_method_2_code
def yX6_trivial : MethodName := ⟨RX6, "trivial", "(I)I"⟩
abbrev cX6_dihedral : ByteArray := prog_1_method_3_code
def yX6_dihedral : MethodName := ⟨RX6, "dihedral", "(I)I"⟩
abbrev cX6_linear : ByteArray := prog_1_method_4_code
def yX6_linear : MethodName := ⟨RX6, "linear", "(II)I"⟩
abbrev cX6_transpositions : ByteArray := prog_1_method_5_code
def yX6_transpositions : MethodName := ⟨RX6, "transpositions", "(I)I"⟩
abbrev cX6_setProduct : ByteArray := prog_1_method_6_code
def yX6_setProduct : MethodName := ⟨RX6, "setProduct", "(III)I"⟩
abbrev cX6_invert : ByteArray := prog_1_method_7_code
def yX6_invert : MethodName := ⟨RX6, "invert", "()I"⟩
abbrev cX6_size : ByteArray := prog_1_method_8_code
def yX6_size : MethodName := ⟨RX6, "size", "()I"⟩
abbrev cX6_product : ByteArray := prog_1_method_9_code
def yX6_product : MethodName := ⟨RX6, "product", "(II)I"⟩
abbrev cX6_quotient : ByteArray := prog_1_method_10_code
def yX6_quotient : MethodName := ⟨RX6, "quotient", "(II)I"⟩
abbrev cX6_violation : ByteArray := prog_1_method_11_code
def yX6_violation : MethodName := ⟨RX6, "violation", "(I)I"⟩
abbrev cX6_reach : ByteArray := prog_1_method_12_code
def yX6_reach : MethodName := ⟨RX6, "reach", "(I)I"⟩
abbrev cX6_tableComponents : ByteArray := prog_1_method_13_code
def yX6_tableComponents : MethodName := ⟨RX6, "tableComponents", "()I"⟩
abbrev cX6_closure : ByteArray := prog_1_method_14_code
def yX6_closure : MethodName := ⟨RX6, "closure", "(I)I"⟩
abbrev cX6_generators : ByteArray := prog_1_method_15_code
def yX6_generators : MethodName := ⟨RX6, "generators", "()I"⟩
abbrev cX6_translationOrder : ByteArray := prog_1_method_16_code
def yX6_translationOrder : MethodName := ⟨RX6, "translationOrder", "(I)I"⟩
abbrev cX6_translations : ByteArray := prog_1_method_17_code
def yX6_translations : MethodName := ⟨RX6, "translations", "()I"⟩
abbrev cX6_innerGroup : ByteArray := prog_1_method_18_code
def yX6_innerGroup : MethodName := ⟨RX6, "innerGroup", "()I"⟩
abbrev cX6_automorphisms : ByteArray := prog_1_method_19_code
def yX6_automorphisms : MethodName := ⟨RX6, "automorphisms", "()I"⟩
abbrev cX6_newDiagram : ByteArray := prog_1_method_20_code
def yX6_newDiagram : MethodName := ⟨RX6, "newDiagram", "(I)I"⟩
abbrev cX6_standard : ByteArray := prog_1_method_21_code
def yX6_standard : MethodName := ⟨RX6, "standard", "(I)I"⟩
abbrev cX6_addCrossing : ByteArray := prog_1_method_22_code
def yX6_addCrossing : MethodName := ⟨RX6, "addCrossing", "(IIII)I"⟩
abbrev cX6_removeCrossing : ByteArray := prog_1_method_23_code
def yX6_removeCrossing : MethodName := ⟨RX6, "removeCrossing", "(I)I"⟩
abbrev cX6_kink : ByteArray := prog_1_method_24_code
def yX6_kink : MethodName := ⟨RX6, "kink", "(II)I"⟩
abbrev cX6_poke : ByteArray := prog_1_method_25_code
def yX6_poke : MethodName := ⟨RX6, "poke", "(II)I"⟩
abbrev cX6_arcs : ByteArray := prog_1_method_26_code
def yX6_arcs : MethodName := ⟨RX6, "arcs", "()I"⟩
abbrev cX6_crossings : ByteArray := prog_1_method_27_code
def yX6_crossings : MethodName := ⟨RX6, "crossings", "()I"⟩
abbrev cX6_crossing : ByteArray := prog_1_method_28_code
def yX6_crossing : MethodName := ⟨RX6, "crossing", "(II)I"⟩
abbrev cX6_components : ByteArray := prog_1_method_29_code
def yX6_components : MethodName := ⟨RX6, "components", "()I"⟩
abbrev cX6_writhe : ByteArray := prog_1_method_30_code
def yX6_writhe : MethodName := ⟨RX6, "writhe", "()I"⟩
abbrev cX6_linking : ByteArray := prog_1_method_31_code
def yX6_linking : MethodName := ⟨RX6, "linking", "(II)I"⟩
abbrev cX6_colourings : ByteArray := prog_1_method_32_code
def yX6_colourings : MethodName := ⟨RX6, "colourings", "()I"⟩
abbrev cX6_colouringsWith : ByteArray := prog_1_method_33_code
def yX6_colouringsWith : MethodName := ⟨RX6, "colouringsWith", "(II)I"⟩
abbrev cX6_colouringsAlike : ByteArray := prog_1_method_34_code
def yX6_colouringsAlike : MethodName := ⟨RX6, "colouringsAlike", "(II)I"⟩
abbrev cX6_colouringsUsing : ByteArray := prog_1_method_35_code
def yX6_colouringsUsing : MethodName := ⟨RX6, "colouringsUsing", "(I)I"⟩
abbrev cX6_colour : ByteArray := prog_1_method_36_code
def yX6_colour : MethodName := ⟨RX6, "colour", "(II)I"⟩
abbrev cX6_type : ByteArray := prog_1_method_37_code
def yX6_type : MethodName := ⟨RX6, "type", "(I)I"⟩
abbrev cX6_clearText : ByteArray := prog_1_method_38_code
def yX6_clearText : MethodName := ⟨RX6, "clearText", "()I"⟩
abbrev cX6_syntaxError : ByteArray := prog_1_method_39_code
def yX6_syntaxError : MethodName := ⟨RX6, "syntaxError", "()I"⟩
abbrev cX6_read : ByteArray := prog_1_method_40_code
def yX6_read : MethodName := ⟨RX6, "read", "()I"⟩
abbrev cX6_undo : ByteArray := prog_1_method_41_code
def yX6_undo : MethodName := ⟨RX6, "undo", "()I"⟩
abbrev cX6_digest : ByteArray := prog_1_method_42_code
def yX6_digest : MethodName := ⟨RX6, "digest", "()J"⟩
abbrev cX6_isSize : ByteArray := prog_1_method_43_code
def yX6_isSize : MethodName := ⟨RX6, "isSize", "(I)Z"⟩
abbrev cX6_makeLinear : ByteArray := prog_1_method_44_code
def yX6_makeLinear : MethodName := ⟨RX6, "makeLinear", "(II)I"⟩
abbrev cX6_saveState : ByteArray := prog_1_method_45_code
def yX6_saveState : MethodName := ⟨RX6, "saveState", "()V"⟩
abbrev cX6_hashTable : ByteArray := prog_1_method_46_code
def yX6_hashTable : MethodName := ⟨RX6, "hashTable", "(J)J"⟩
abbrev cX6_hashDiagram : ByteArray := prog_1_method_47_code
def yX6_hashDiagram : MethodName := ⟨RX6, "hashDiagram", "(J)J"⟩
abbrev cX6_hashColourings : ByteArray := prog_1_method_48_code
def yX6_hashColourings : MethodName := ⟨RX6, "hashColourings", "(J)J"⟩
abbrev cX6_mix : ByteArray := prog_1_method_49_code
def yX6_mix : MethodName := ⟨RX6, "mix", "(JI)J"⟩
def RX7 : String := "KnotColoursModel"
def TX7 : u_T := fun k => match k with
  | 0 => ("KnotColoursModel", "state", "[I", true)
  | 1 => ("KnotColoursModel", "history", "[I", true)
  | 2 => ("KnotColoursModel", "recorded", "I", false)
  | 3 => ("KnotColoursModel", "text", "[I", true)
  | 4 => ("KnotColoursModel", "textLength", "I", false)
  | 5 => ("KnotColoursModel", "found", "[I", true)
  | 6 => ("KnotColoursModel", "foundMany", "I", false)
  | 7 => ("KnotColoursModel", "image", "[I", true)
  | 8 => ("KnotColoursModel", "part", "[I", true)
  | 9 => ("KnotColoursModel", "colours", "[I", true)
  | 10 => ("KnotColoursModel", "at", "I", false)
  | 11 => ("KnotColoursModel", "crossingsRead", "I", false)
  | 12 => ("KnotColoursModel", "overRead", "I", false)
  | 13 => ("KnotColoursModel", "inRead", "I", false)
  | 14 => ("KnotColoursModel", "outRead", "I", false)
  | _ => ("KnotColoursModel", "signRead", "I", false)
def tyX7 : Nat → FieldType := fun k => match k with
  | 0 => .array .int
  | 1 => .array .int
  | 2 => .int
  | 3 => .array .int
  | 4 => .int
  | 5 => .array .int
  | 6 => .int
  | 7 => .array .int
  | 8 => .array .int
  | 9 => .array .int
  | 10 => .int
  | 11 => .int
  | 12 => .int
  | 13 => .int
  | 14 => .int
  | _ => .int
abbrev wsX70 : List Cond := u_ws RX7 TX7 16
theorem nmX7 : ∀ a, a < 16 → ∀ b, b < 16 → a ≠ b → (TX7 a).2.1 ≠ (TX7 b).2.1 := by decide +kernel
theorem tyX7_ok : ∀ k, k < 16 → parseFieldDescriptor (TX7 k).2.2.1 = some (tyX7 k) := by decide +kernel
abbrev cX7_init : ByteArray := prog_9_method_1_code
def yX7_init : MethodName := ⟨RX7, "<init>", "()V"⟩
abbrev cX7_within : ByteArray := prog_9_method_3_code
def yX7_within : MethodName := ⟨RX7, "within", "(III)Z"⟩
abbrev cX7_bits : ByteArray := prog_9_method_4_code
def yX7_bits : MethodName := ⟨RX7, "bits", "(I)I"⟩
abbrev cX7_record : ByteArray := prog_9_method_5_code
def yX7_record : MethodName := ⟨RX7, "record", "()V"⟩
abbrev cX7_isElement : ByteArray := prog_9_method_6_code
def yX7_isElement : MethodName := ⟨RX7, "isElement", "(I)Z"⟩
abbrev cX7_times : ByteArray := prog_9_method_7_code
def yX7_times : MethodName := ⟨RX7, "times", "(II)I"⟩
abbrev cX7_setTimes : ByteArray := prog_9_method_8_code
def yX7_setTimes : MethodName := ⟨RX7, "setTimes", "(III)V"⟩
abbrev cX7_makes : ByteArray := prog_9_method_9_code
def yX7_makes : MethodName := ⟨RX7, "makes", "(III)I"⟩
abbrev cX7_makesTrivial : ByteArray := prog_9_method_10_code
def yX7_makesTrivial : MethodName := ⟨RX7, "makesTrivial", "(I)I"⟩
abbrev cX7_trivial : ByteArray := prog_9_method_11_code
def yX7_trivial : MethodName := ⟨RX7, "trivial", "(I)I"⟩
abbrev cX7_dihedral : ByteArray := prog_9_method_12_code
def yX7_dihedral : MethodName := ⟨RX7, "dihedral", "(I)I"⟩
abbrev cX7_linear : ByteArray := prog_9_method_13_code
def yX7_linear : MethodName := ⟨RX7, "linear", "(II)I"⟩
abbrev cX7_pairOf : ByteArray := prog_9_method_14_code
def yX7_pairOf : MethodName := ⟨RX7, "pairOf", "(III)I"⟩
abbrev cX7_replaced : ByteArray := prog_9_method_15_code
def yX7_replaced : MethodName := ⟨RX7, "replaced", "(III)I"⟩
abbrev cX7_laysPair : ByteArray := prog_9_method_16_code
def yX7_laysPair : MethodName := ⟨RX7, "laysPair", "(III)V"⟩
abbrev cX7_transpositions : ByteArray := prog_9_method_17_code
def yX7_transpositions : MethodName := ⟨RX7, "transpositions", "(I)I"⟩
abbrev cX7_setProduct : ByteArray := prog_9_method_18_code
def yX7_setProduct : MethodName := ⟨RX7, "setProduct", "(III)I"⟩
abbrev cX7_dividedBy : ByteArray := prog_9_method_19_code
def yX7_dividedBy : MethodName := ⟨RX7, "dividedBy", "(II)I"⟩
abbrev cX7_isPermutation : ByteArray := prog_9_method_20_code
def yX7_isPermutation : MethodName := ⟨RX7, "isPermutation", "(I)Z"⟩
abbrev cX7_violatesFirst : ByteArray := prog_9_method_21_code
def yX7_violatesFirst : MethodName := ⟨RX7, "violatesFirst", "()I"⟩
abbrev cX7_violatesSecond : ByteArray := prog_9_method_22_code
def yX7_violatesSecond : MethodName := ⟨RX7, "violatesSecond", "()I"⟩
abbrev cX7_violatesThird : ByteArray := prog_9_method_23_code
def yX7_violatesThird : MethodName := ⟨RX7, "violatesThird", "()I"⟩
abbrev cX7_violates : ByteArray := prog_9_method_24_code
def yX7_violates : MethodName := ⟨RX7, "violates", "(I)I"⟩
abbrev cX7_invert : ByteArray := prog_9_method_25_code
def yX7_invert : MethodName := ⟨RX7, "invert", "()I"⟩
abbrev cX7_size : ByteArray := prog_9_method_26_code
def yX7_size : MethodName := ⟨RX7, "size", "()I"⟩
abbrev cX7_product : ByteArray := prog_9_method_27_code
def yX7_product : MethodName := ⟨RX7, "product", "(II)I"⟩
abbrev cX7_quotient : ByteArray := prog_9_method_28_code
def yX7_quotient : MethodName := ⟨RX7, "quotient", "(II)I"⟩
abbrev cX7_violation : ByteArray := prog_9_method_29_code
def yX7_violation : MethodName := ⟨RX7, "violation", "(I)I"⟩
abbrev cX7_reach : ByteArray := prog_9_method_30_code
def yX7_reach : MethodName := ⟨RX7, "reach", "(I)I"⟩
abbrev cX7_joins : ByteArray := prog_9_method_31_code
def yX7_joins : MethodName := ⟨RX7, "joins", "(III)V"⟩
abbrev cX7_aloneAll : ByteArray := prog_9_method_32_code
def yX7_aloneAll : MethodName := ⟨RX7, "aloneAll", "(I)V"⟩
abbrev cX7_partsMany : ByteArray := prog_9_method_33_code
def yX7_partsMany : MethodName := ⟨RX7, "partsMany", "(I)I"⟩
abbrev cX7_componentsOfTable : ByteArray := prog_9_method_34_code
def yX7_componentsOfTable : MethodName := ⟨RX7, "componentsOfTable", "()I"⟩
abbrev cX7_tableComponents : ByteArray := prog_9_method_35_code
def yX7_tableComponents : MethodName := ⟨RX7, "tableComponents", "()I"⟩
abbrev cX7_closureOf : ByteArray := prog_9_method_36_code
def yX7_closureOf : MethodName := ⟨RX7, "closureOf", "(I)I"⟩
abbrev cX7_closure : ByteArray := prog_9_method_37_code
def yX7_closure : MethodName := ⟨RX7, "closure", "(I)I"⟩
abbrev cX7_fewestGenerators : ByteArray := prog_9_method_38_code
def yX7_fewestGenerators : MethodName := ⟨RX7, "fewestGenerators", "()I"⟩
abbrev cX7_generators : ByteArray := prog_9_method_39_code
def yX7_generators : MethodName := ⟨RX7, "generators", "()I"⟩
abbrev cX7_translationOrder : ByteArray := prog_9_method_40_code
def yX7_translationOrder : MethodName := ⟨RX7, "translationOrder", "(I)I"⟩
abbrev cX7_differentTranslations : ByteArray := prog_9_method_41_code
def yX7_differentTranslations : MethodName := ⟨RX7, "differentTranslations", "()I"⟩
abbrev cX7_translations : ByteArray := prog_9_method_42_code
def yX7_translations : MethodName := ⟨RX7, "translations", "()I"⟩
abbrev cX7_unpacks : ByteArray := prog_9_method_43_code
def yX7_unpacks : MethodName := ⟨RX7, "unpacks", "(I)V"⟩
abbrev cX7_packed : ByteArray := prog_9_method_44_code
def yX7_packed : MethodName := ⟨RX7, "packed", "(I)I"⟩
abbrev cX7_keepsFound : ByteArray := prog_9_method_45_code
def yX7_keepsFound : MethodName := ⟨RX7, "keepsFound", "(I)V"⟩
abbrev cX7_groupSize : ByteArray := prog_9_method_46_code
def yX7_groupSize : MethodName := ⟨RX7, "groupSize", "()I"⟩
abbrev cX7_innerGroup : ByteArray := prog_9_method_47_code
def yX7_innerGroup : MethodName := ⟨RX7, "innerGroup", "()I"⟩
abbrev cX7_isAutomorphism : ByteArray := prog_9_method_48_code
def yX7_isAutomorphism : MethodName := ⟨RX7, "isAutomorphism", "()Z"⟩
abbrev cX7_automorphismsMany : ByteArray := prog_9_method_49_code
def yX7_automorphismsMany : MethodName := ⟨RX7, "automorphismsMany", "()I"⟩
abbrev cX7_automorphisms : ByteArray := prog_9_method_50_code
def yX7_automorphisms : MethodName := ⟨RX7, "automorphisms", "()I"⟩
abbrev cX7_isArc : ByteArray := prog_9_method_51_code
def yX7_isArc : MethodName := ⟨RX7, "isArc", "(I)Z"⟩
abbrev cX7_isCrossing : ByteArray := prog_9_method_52_code
def yX7_isCrossing : MethodName := ⟨RX7, "isCrossing", "(I)Z"⟩
abbrev cX7_crossingPart : ByteArray := prog_9_method_53_code
def yX7_crossingPart : MethodName := ⟨RX7, "crossingPart", "(II)I"⟩
abbrev cX7_adds : ByteArray := prog_9_method_54_code
def yX7_adds : MethodName := ⟨RX7, "adds", "(IIII)V"⟩
abbrev cX7_clears : ByteArray := prog_9_method_55_code
def yX7_clears : MethodName := ⟨RX7, "clears", "(I)V"⟩
abbrev cX7_newDiagram : ByteArray := prog_9_method_56_code
def yX7_newDiagram : MethodName := ⟨RX7, "newDiagram", "(I)I"⟩
abbrev cX7_standard : ByteArray := prog_9_method_57_code
def yX7_standard : MethodName := ⟨RX7, "standard", "(I)I"⟩
abbrev cX7_isSign : ByteArray := prog_9_method_58_code
def yX7_isSign : MethodName := ⟨RX7, "isSign", "(I)Z"⟩
abbrev cX7_addCrossing : ByteArray := prog_9_method_59_code
def yX7_addCrossing : MethodName := ⟨RX7, "addCrossing", "(IIII)I"⟩
abbrev cX7_removeCrossing : ByteArray := prog_9_method_60_code
def yX7_removeCrossing : MethodName := ⟨RX7, "removeCrossing", "(I)I"⟩
abbrev cX7_moves : ByteArray := prog_9_method_61_code
def yX7_moves : MethodName := ⟨RX7, "moves", "(II)V"⟩
abbrev cX7_kink : ByteArray := prog_9_method_62_code
def yX7_kink : MethodName := ⟨RX7, "kink", "(II)I"⟩
abbrev cX7_poke : ByteArray := prog_9_method_63_code
def yX7_poke : MethodName := ⟨RX7, "poke", "(II)I"⟩
abbrev cX7_arcs : ByteArray := prog_9_method_64_code
def yX7_arcs : MethodName := ⟨RX7, "arcs", "()I"⟩
abbrev cX7_crossings : ByteArray := prog_9_method_65_code
def yX7_crossings : MethodName := ⟨RX7, "crossings", "()I"⟩
abbrev cX7_crossing : ByteArray := prog_9_method_66_code
def yX7_crossing : MethodName := ⟨RX7, "crossing", "(II)I"⟩
abbrev cX7_isClosed : ByteArray := prog_9_method_67_code
def yX7_isClosed : MethodName := ⟨RX7, "isClosed", "()Z"⟩
abbrev cX7_findParts : ByteArray := prog_9_method_68_code
def yX7_findParts : MethodName := ⟨RX7, "findParts", "()V"⟩
abbrev cX7_componentsNow : ByteArray := prog_9_method_69_code
def yX7_componentsNow : MethodName := ⟨RX7, "componentsNow", "()I"⟩
abbrev cX7_components : ByteArray := prog_9_method_70_code
def yX7_components : MethodName := ⟨RX7, "components", "()I"⟩
abbrev cX7_writheNow : ByteArray := prog_9_method_71_code
def yX7_writheNow : MethodName := ⟨RX7, "writheNow", "()I"⟩
abbrev cX7_writhe : ByteArray := prog_9_method_72_code
def yX7_writhe : MethodName := ⟨RX7, "writhe", "()I"⟩
abbrev cX7_linking : ByteArray := prog_9_method_73_code
def yX7_linking : MethodName := ⟨RX7, "linking", "(II)I"⟩
abbrev cX7_isColouring : ByteArray := prog_9_method_74_code
def yX7_isColouring : MethodName := ⟨RX7, "isColouring", "()Z"⟩
abbrev cX7_usedColours : ByteArray := prog_9_method_75_code
def yX7_usedColours : MethodName := ⟨RX7, "usedColours", "()I"⟩
abbrev cX7_beginsColours : ByteArray := prog_9_method_76_code
def yX7_beginsColours : MethodName := ⟨RX7, "beginsColours", "()V"⟩
abbrev cX7_goesOnColours : ByteArray := prog_9_method_77_code
def yX7_goesOnColours : MethodName := ⟨RX7, "goesOnColours", "()Z"⟩
abbrev cX7_counts : ByteArray := prog_9_method_78_code
def yX7_counts : MethodName := ⟨RX7, "counts", "(III)I"⟩
abbrev cX7_colourings : ByteArray := prog_9_method_79_code
def yX7_colourings : MethodName := ⟨RX7, "colourings", "()I"⟩
abbrev cX7_colouringsWith : ByteArray := prog_9_method_80_code
def yX7_colouringsWith : MethodName := ⟨RX7, "colouringsWith", "(II)I"⟩
abbrev cX7_colouringsAlike : ByteArray := prog_9_method_81_code
def yX7_colouringsAlike : MethodName := ⟨RX7, "colouringsAlike", "(II)I"⟩
abbrev cX7_colouringsUsing : ByteArray := prog_9_method_82_code
def yX7_colouringsUsing : MethodName := ⟨RX7, "colouringsUsing", "(I)I"⟩
abbrev cX7_colour : ByteArray := prog_9_method_83_code
def yX7_colour : MethodName := ⟨RX7, "colour", "(II)I"⟩
abbrev cX7_type : ByteArray := prog_9_method_84_code
def yX7_type : MethodName := ⟨RX7, "type", "(I)I"⟩
abbrev cX7_clearText : ByteArray := prog_9_method_85_code
def yX7_clearText : MethodName := ⟨RX7, "clearText", "()I"⟩
abbrev cX7_character : ByteArray := prog_9_method_86_code
def yX7_character : MethodName := ⟨RX7, "character", "(I)I"⟩
abbrev cX7_isNext : ByteArray := prog_9_method_87_code
def yX7_isNext : MethodName := ⟨RX7, "isNext", "(I)Z"⟩
abbrev cX7_arcRead : ByteArray := prog_9_method_88_code
def yX7_arcRead : MethodName := ⟨RX7, "arcRead", "()I"⟩
abbrev cX7_readsCrossing : ByteArray := prog_9_method_89_code
def yX7_readsCrossing : MethodName := ⟨RX7, "readsCrossing", "()Z"⟩
abbrev cX7_findError : ByteArray := prog_9_method_90_code
def yX7_findError : MethodName := ⟨RX7, "findError", "()I"⟩
abbrev cX7_syntaxError : ByteArray := prog_9_method_91_code
def yX7_syntaxError : MethodName := ⟨RX7, "syntaxError", "()I"⟩
abbrev cX7_read : ByteArray := prog_9_method_92_code
def yX7_read : MethodName := ⟨RX7, "read", "()I"⟩
abbrev cX7_undo : ByteArray := prog_9_method_93_code
def yX7_undo : MethodName := ⟨RX7, "undo", "()I"⟩
abbrev cX7_digest : ByteArray := prog_9_method_94_code
def yX7_digest : MethodName := ⟨RX7, "digest", "()J"⟩
def RJ6 : String := "java/lang/Integer"
def TJ6 : u_T := fun k => match k with
  | _ => ("", "", "", false)
def tyJ6 : Nat → FieldType := fun k => match k with
  | _ => .int
abbrev wsJ60 : List Cond := u_ws RJ6 TJ6 0
theorem nmJ6 : ∀ a, a < 0 → ∀ b, b < 0 → a ≠ b → (TJ6 a).2.1 ≠ (TJ6 b).2.1 := by decide +kernel
theorem tyJ6_ok : ∀ k, k < 0 → parseFieldDescriptor (TJ6 k).2.2.1 = some (tyJ6 k) := by decide +kernel
abbrev cJ6_bitCount_0f7a4 : ByteArray := prog_10_method_49_code
def yJ6_bitCount_0f7a4 : MethodName := ⟨RJ6, "bitCount", "(I)I"⟩
def RJ9 : String := "java/lang/Math"
def TJ9 : u_T := fun k => match k with
  | _ => ("", "", "", false)
def tyJ9 : Nat → FieldType := fun k => match k with
  | _ => .int
abbrev wsJ90 : List Cond := u_ws RJ9 TJ9 0
theorem nmJ9 : ∀ a, a < 0 → ∀ b, b < 0 → a ≠ b → (TJ9 a).2.1 ≠ (TJ9 b).2.1 := by decide +kernel
theorem tyJ9_ok : ∀ k, k < 0 → parseFieldDescriptor (TJ9 k).2.2.1 = some (tyJ9 k) := by decide +kernel
abbrev cJ9_floorMod_7cf53 : ByteArray := prog_11_method_50_code
def yJ9_floorMod_7cf53 : MethodName := ⟨RJ9, "floorMod", "(II)I"⟩
abbrev cJ9_max_7cf53 : ByteArray := prog_11_method_65_code
def yJ9_max_7cf53 : MethodName := ⟨RJ9, "max", "(II)I"⟩
abbrev cJ9_min_7cf53 : ByteArray := prog_11_method_69_code
def yJ9_min_7cf53 : MethodName := ⟨RJ9, "min", "(II)I"⟩
def RJ10 : String := "java/lang/System"
def TJ10 : u_T := fun k => match k with
  | _ => ("", "", "", false)
def tyJ10 : Nat → FieldType := fun k => match k with
  | _ => .int
abbrev wsJ100 : List Cond := u_ws RJ10 TJ10 0
theorem nmJ10 : ∀ a, a < 0 → ∀ b, b < 0 → a ≠ b → (TJ10 a).2.1 ≠ (TJ10 b).2.1 := by decide +kernel
theorem tyJ10_ok : ∀ k, k < 0 → parseFieldDescriptor (TJ10 k).2.2.1 = some (tyJ10 k) := by decide +kernel
def RL : String := "KnotColoursLaw"
abbrev cL_law : ByteArray := code
def yL_law : MethodName := ⟨RL, "law", "([I)Z"⟩
abbrev vwCl : List vw_C := [(RX0, TX0, 6), (RX1, TX1, 3), (RX2, TX2, 2), (RX3, TX3, 4), (RX4, TX4, 4), (RX5, TX5, 2), (RX6, TX6, 7), (RX7, TX7, 16)]
theorem inX0 : ∀ w ∈ wsX00, w ∈ lw_tbl := by decide +kernel
theorem inX1 : ∀ w ∈ wsX10, w ∈ lw_tbl := by decide +kernel
theorem inX2 : ∀ w ∈ wsX20, w ∈ lw_tbl := by decide +kernel
theorem inX3 : ∀ w ∈ wsX30, w ∈ lw_tbl := by decide +kernel
theorem inX4 : ∀ w ∈ wsX40, w ∈ lw_tbl := by decide +kernel
theorem inX5 : ∀ w ∈ wsX50, w ∈ lw_tbl := by decide +kernel
theorem inX6 : ∀ w ∈ wsX60, w ∈ lw_tbl := by decide +kernel
theorem inX7 : ∀ w ∈ wsX70, w ∈ lw_tbl := by decide +kernel
def lw_gw : List Cond := lw_tbl.filter goodWord
theorem gw {w : Cond} (h : w ∈ lw_tbl) (g : goodWord w = true) : w ∈ lw_gw := List.mem_filter.mpr ⟨h, g⟩
theorem gwt {w : Cond} (h : w ∈ lw_gw) : w ∈ lw_tbl := (List.mem_filter.mp h).1
theorem gwg {w : Cond} (h : w ∈ lw_gw) : goodWord w = true := (List.mem_filter.mp h).2
theorem igX0 : ∀ w ∈ wsX00, w ∈ lw_gw := fun w h => gw (inX0 w h) (List.all_eq_true.mp (by decide +kernel : wsX00.all goodWord = true) w h)
theorem igX1 : ∀ w ∈ wsX10, w ∈ lw_gw := fun w h => gw (inX1 w h) (List.all_eq_true.mp (by decide +kernel : wsX10.all goodWord = true) w h)
theorem igX2 : ∀ w ∈ wsX20, w ∈ lw_gw := fun w h => gw (inX2 w h) (List.all_eq_true.mp (by decide +kernel : wsX20.all goodWord = true) w h)
theorem igX3 : ∀ w ∈ wsX30, w ∈ lw_gw := fun w h => gw (inX3 w h) (List.all_eq_true.mp (by decide +kernel : wsX30.all goodWord = true) w h)
theorem igX4 : ∀ w ∈ wsX40, w ∈ lw_gw := fun w h => gw (inX4 w h) (List.all_eq_true.mp (by decide +kernel : wsX40.all goodWord = true) w h)
theorem igX5 : ∀ w ∈ wsX50, w ∈ lw_gw := fun w h => gw (inX5 w h) (List.all_eq_true.mp (by decide +kernel : wsX50.all goodWord = true) w h)
theorem igX6 : ∀ w ∈ wsX60, w ∈ lw_gw := fun w h => gw (inX6 w h) (List.all_eq_true.mp (by decide +kernel : wsX60.all goodWord = true) w h)
theorem igX7 : ∀ w ∈ wsX70, w ∈ lw_gw := fun w h => gw (inX7 w h) (List.all_eq_true.mp (by decide +kernel : wsX70.all goodWord = true) w h)
end
section
theorem dX0_init_0 : decode cX0_init 0 = .ok (.aload_n 0, 1) := by decide +kernel
theorem dX0_init_1 : decode cX0_init 1 = .ok (.invokespecial 3, 3) := by decide +kernel
theorem dX0_init_4 : decode cX0_init 4 = .ok (.aload_n 0, 1) := by decide +kernel
theorem dX0_init_5 : decode cX0_init 5 = .ok (.bipush 7, 2) := by decide +kernel
theorem dX0_init_7 : decode cX0_init 7 = .ok (.newarray .int, 2) := by decide +kernel
theorem dX0_init_9 : decode cX0_init 9 = .ok (.putfield 9, 3) := by decide +kernel
theorem dX0_init_12 : decode cX0_init 12 = .ok (.aload_n 0, 1) := by decide +kernel
theorem dX0_init_13 : decode cX0_init 13 = .ok (.bipush 10, 2) := by decide +kernel
theorem dX0_init_15 : decode cX0_init 15 = .ok (.newarray .int, 2) := by decide +kernel
theorem dX0_init_17 : decode cX0_init 17 = .ok (.putfield 15, 3) := by decide +kernel
theorem dX0_init_20 : decode cX0_init 20 = .ok (.aload_n 0, 1) := by decide +kernel
theorem dX0_init_21 : decode cX0_init 21 = .ok (.bipush 7, 2) := by decide +kernel
theorem dX0_init_23 : decode cX0_init 23 = .ok (.newarray .int, 2) := by decide +kernel
theorem dX0_init_25 : decode cX0_init 25 = .ok (.putfield 18, 3) := by decide +kernel
theorem dX0_init_28 : decode cX0_init 28 = .ok (.aload_n 0, 1) := by decide +kernel
theorem dX0_init_29 : decode cX0_init 29 = .ok (.aload_n 1, 1) := by decide +kernel
theorem dX0_init_30 : decode cX0_init 30 = .ok (.putfield 21, 3) := by decide +kernel
theorem dX0_init_33 : decode cX0_init 33 = .ok (.aload_n 0, 1) := by decide +kernel
theorem dX0_init_34 : decode cX0_init 34 = .ok (.aload_n 2, 1) := by decide +kernel
theorem dX0_init_35 : decode cX0_init 35 = .ok (.putfield 25, 3) := by decide +kernel
theorem dX0_init_38 : decode cX0_init 38 = .ok (.return_, 1) := by decide +kernel
theorem dX0_tally_0 : decode cX0_tally 0 = .ok (.iconst 0, 1) := by decide +kernel
theorem dX0_tally_1 : decode cX0_tally 1 = .ok (.istore_n 1, 1) := by decide +kernel
theorem dX0_tally_2 : decode cX0_tally 2 = .ok (.iload_n 1, 1) := by decide +kernel
theorem dX0_tally_3 : decode cX0_tally 3 = .ok (.bipush 6, 2) := by decide +kernel
theorem dX0_tally_5 : decode cX0_tally 5 = .ok (.if_icmp .gt 16, 3) := by decide +kernel
theorem dX0_tally_8 : decode cX0_tally 8 = .ok (.aload_n 0, 1) := by decide +kernel
theorem dX0_tally_9 : decode cX0_tally 9 = .ok (.getfield 18, 3) := by decide +kernel
theorem dX0_tally_12 : decode cX0_tally 12 = .ok (.iload_n 1, 1) := by decide +kernel
theorem dX0_tally_13 : decode cX0_tally 13 = .ok (.iconst 0, 1) := by decide +kernel
theorem dX0_tally_14 : decode cX0_tally 14 = .ok (.iastore, 1) := by decide +kernel
theorem dX0_tally_15 : decode cX0_tally 15 = .ok (.iinc 1 1, 3) := by decide +kernel
theorem dX0_tally_18 : decode cX0_tally 18 = .ok (.goto (-16), 3) := by decide +kernel
theorem dX0_tally_21 : decode cX0_tally 21 = .ok (.aload_n 0, 1) := by decide +kernel
theorem dX0_tally_22 : decode cX0_tally 22 = .ok (.invokevirtual 29, 3) := by decide +kernel
theorem dX0_tally_25 : decode cX0_tally 25 = .ok (.iconst 0, 1) := by decide +kernel
theorem dX0_tally_26 : decode cX0_tally 26 = .ok (.istore_n 1, 1) := by decide +kernel
theorem dX0_tally_27 : decode cX0_tally 27 = .ok (.iload_n 1, 1) := by decide +kernel
theorem dX0_tally_28 : decode cX0_tally 28 = .ok (.ldc 32, 2) := by decide +kernel
theorem dX0_tally_30 : decode cX0_tally 30 = .ok (.if_icmp .ge 29, 3) := by decide +kernel
theorem dX0_tally_33 : decode cX0_tally 33 = .ok (.aload_n 0, 1) := by decide +kernel
theorem dX0_tally_34 : decode cX0_tally 34 = .ok (.invokevirtual 33, 3) := by decide +kernel
theorem dX0_tally_37 : decode cX0_tally 37 = .ok (.ifCond .eq 22, 3) := by decide +kernel
theorem dX0_tally_40 : decode cX0_tally 40 = .ok (.iinc 1 1, 3) := by decide +kernel
theorem dX0_tally_43 : decode cX0_tally 43 = .ok (.aload_n 0, 1) := by decide +kernel
theorem dX0_tally_44 : decode cX0_tally 44 = .ok (.getfield 18, 3) := by decide +kernel
theorem dX0_tally_47 : decode cX0_tally 47 = .ok (.aload_n 0, 1) := by decide +kernel
theorem dX0_tally_48 : decode cX0_tally 48 = .ok (.invokevirtual 37, 3) := by decide +kernel
theorem dX0_tally_51 : decode cX0_tally 51 = .ok (.dup2, 1) := by decide +kernel
theorem dX0_tally_52 : decode cX0_tally 52 = .ok (.iaload, 1) := by decide +kernel
theorem dX0_tally_53 : decode cX0_tally 53 = .ok (.iconst 1, 1) := by decide +kernel
theorem dX0_tally_54 : decode cX0_tally 54 = .ok (.iadd, 1) := by decide +kernel
theorem dX0_tally_55 : decode cX0_tally 55 = .ok (.iastore, 1) := by decide +kernel
theorem dX0_tally_56 : decode cX0_tally 56 = .ok (.goto (-29), 3) := by decide +kernel
theorem dX0_tally_59 : decode cX0_tally 59 = .ok (.iload_n 1, 1) := by decide +kernel
theorem dX0_tally_60 : decode cX0_tally 60 = .ok (.ireturn, 1) := by decide +kernel
theorem dX0_talliedUsing_0 : decode cX0_talliedUsing 0 = .ok (.aload_n 0, 1) := by decide +kernel
theorem dX0_talliedUsing_1 : decode cX0_talliedUsing 1 = .ok (.getfield 18, 3) := by decide +kernel
theorem dX0_talliedUsing_4 : decode cX0_talliedUsing 4 = .ok (.iload_n 1, 1) := by decide +kernel
theorem dX0_talliedUsing_5 : decode cX0_talliedUsing 5 = .ok (.iaload, 1) := by decide +kernel
theorem dX0_talliedUsing_6 : decode cX0_talliedUsing 6 = .ok (.ireturn, 1) := by decide +kernel
theorem dX0_coloursUsed_0 : decode cX0_coloursUsed 0 = .ok (.iconst 0, 1) := by decide +kernel
theorem dX0_coloursUsed_1 : decode cX0_coloursUsed 1 = .ok (.istore_n 1, 1) := by decide +kernel
theorem dX0_coloursUsed_2 : decode cX0_coloursUsed 2 = .ok (.iconst 0, 1) := by decide +kernel
theorem dX0_coloursUsed_3 : decode cX0_coloursUsed 3 = .ok (.istore_n 2, 1) := by decide +kernel
theorem dX0_coloursUsed_4 : decode cX0_coloursUsed 4 = .ok (.iload_n 2, 1) := by decide +kernel
theorem dX0_coloursUsed_5 : decode cX0_coloursUsed 5 = .ok (.aload_n 0, 1) := by decide +kernel
theorem dX0_coloursUsed_6 : decode cX0_coloursUsed 6 = .ok (.getfield 25, 3) := by decide +kernel
theorem dX0_coloursUsed_9 : decode cX0_coloursUsed 9 = .ok (.getfield 41, 3) := by decide +kernel
theorem dX0_coloursUsed_12 : decode cX0_coloursUsed 12 = .ok (.if_icmp .ge 20, 3) := by decide +kernel
theorem dX0_coloursUsed_15 : decode cX0_coloursUsed 15 = .ok (.iload_n 1, 1) := by decide +kernel
theorem dX0_coloursUsed_16 : decode cX0_coloursUsed 16 = .ok (.iconst 1, 1) := by decide +kernel
theorem dX0_coloursUsed_17 : decode cX0_coloursUsed 17 = .ok (.aload_n 0, 1) := by decide +kernel
theorem dX0_coloursUsed_18 : decode cX0_coloursUsed 18 = .ok (.getfield 9, 3) := by decide +kernel
theorem dX0_coloursUsed_21 : decode cX0_coloursUsed 21 = .ok (.iload_n 2, 1) := by decide +kernel
theorem dX0_coloursUsed_22 : decode cX0_coloursUsed 22 = .ok (.iaload, 1) := by decide +kernel
theorem dX0_coloursUsed_23 : decode cX0_coloursUsed 23 = .ok (.ishl, 1) := by decide +kernel
theorem dX0_coloursUsed_24 : decode cX0_coloursUsed 24 = .ok (.ior, 1) := by decide +kernel
theorem dX0_coloursUsed_25 : decode cX0_coloursUsed 25 = .ok (.istore_n 1, 1) := by decide +kernel
theorem dX0_coloursUsed_26 : decode cX0_coloursUsed 26 = .ok (.iinc 2 1, 3) := by decide +kernel
theorem dX0_coloursUsed_29 : decode cX0_coloursUsed 29 = .ok (.goto (-25), 3) := by decide +kernel
theorem dX0_coloursUsed_32 : decode cX0_coloursUsed 32 = .ok (.iload_n 1, 1) := by decide +kernel
theorem dX0_coloursUsed_33 : decode cX0_coloursUsed 33 = .ok (.invokestatic 47, 3) := by decide +kernel
theorem dX0_coloursUsed_36 : decode cX0_coloursUsed 36 = .ok (.ireturn, 1) := by decide +kernel
theorem dX0_countWith_0 : decode cX0_countWith 0 = .ok (.aload_n 0, 1) := by decide +kernel
theorem dX0_countWith_1 : decode cX0_countWith 1 = .ok (.invokevirtual 29, 3) := by decide +kernel
theorem dX0_countWith_4 : decode cX0_countWith 4 = .ok (.iconst 0, 1) := by decide +kernel
theorem dX0_countWith_5 : decode cX0_countWith 5 = .ok (.istore_n 3, 1) := by decide +kernel
theorem dX0_countWith_6 : decode cX0_countWith 6 = .ok (.iconst 0, 1) := by decide +kernel
theorem dX0_countWith_7 : decode cX0_countWith 7 = .ok (.istore 4, 2) := by decide +kernel
theorem dX0_countWith_9 : decode cX0_countWith 9 = .ok (.iload 4, 2) := by decide +kernel
theorem dX0_countWith_11 : decode cX0_countWith 11 = .ok (.ldc 32, 2) := by decide +kernel
theorem dX0_countWith_13 : decode cX0_countWith 13 = .ok (.if_icmp .ge 29, 3) := by decide +kernel
theorem dX0_countWith_16 : decode cX0_countWith 16 = .ok (.aload_n 0, 1) := by decide +kernel
theorem dX0_countWith_17 : decode cX0_countWith 17 = .ok (.invokevirtual 33, 3) := by decide +kernel
theorem dX0_countWith_20 : decode cX0_countWith 20 = .ok (.ifCond .eq 22, 3) := by decide +kernel
theorem dX0_countWith_23 : decode cX0_countWith 23 = .ok (.aload_n 0, 1) := by decide +kernel
theorem dX0_countWith_24 : decode cX0_countWith 24 = .ok (.getfield 9, 3) := by decide +kernel
theorem dX0_countWith_27 : decode cX0_countWith 27 = .ok (.iload_n 1, 1) := by decide +kernel
theorem dX0_countWith_28 : decode cX0_countWith 28 = .ok (.iaload, 1) := by decide +kernel
theorem dX0_countWith_29 : decode cX0_countWith 29 = .ok (.iload_n 2, 1) := by decide +kernel
theorem dX0_countWith_30 : decode cX0_countWith 30 = .ok (.if_icmp .ne 6, 3) := by decide +kernel
theorem dX0_countWith_33 : decode cX0_countWith 33 = .ok (.iinc 3 1, 3) := by decide +kernel
theorem dX0_countWith_36 : decode cX0_countWith 36 = .ok (.iinc 4 1, 3) := by decide +kernel
theorem dX0_countWith_39 : decode cX0_countWith 39 = .ok (.goto (-30), 3) := by decide +kernel
theorem dX0_countWith_42 : decode cX0_countWith 42 = .ok (.iload_n 3, 1) := by decide +kernel
theorem dX0_countWith_43 : decode cX0_countWith 43 = .ok (.ireturn, 1) := by decide +kernel
theorem dX0_countAlike_0 : decode cX0_countAlike 0 = .ok (.aload_n 0, 1) := by decide +kernel
theorem dX0_countAlike_1 : decode cX0_countAlike 1 = .ok (.invokevirtual 29, 3) := by decide +kernel
theorem dX0_countAlike_4 : decode cX0_countAlike 4 = .ok (.iconst 0, 1) := by decide +kernel
theorem dX0_countAlike_5 : decode cX0_countAlike 5 = .ok (.istore_n 3, 1) := by decide +kernel
theorem dX0_countAlike_6 : decode cX0_countAlike 6 = .ok (.iconst 0, 1) := by decide +kernel
theorem dX0_countAlike_7 : decode cX0_countAlike 7 = .ok (.istore 4, 2) := by decide +kernel
theorem dX0_countAlike_9 : decode cX0_countAlike 9 = .ok (.iload 4, 2) := by decide +kernel
theorem dX0_countAlike_11 : decode cX0_countAlike 11 = .ok (.ldc 32, 2) := by decide +kernel
theorem dX0_countAlike_13 : decode cX0_countAlike 13 = .ok (.if_icmp .ge 34, 3) := by decide +kernel
theorem dX0_countAlike_16 : decode cX0_countAlike 16 = .ok (.aload_n 0, 1) := by decide +kernel
theorem dX0_countAlike_17 : decode cX0_countAlike 17 = .ok (.invokevirtual 33, 3) := by decide +kernel
theorem dX0_countAlike_20 : decode cX0_countAlike 20 = .ok (.ifCond .eq 27, 3) := by decide +kernel
theorem dX0_countAlike_23 : decode cX0_countAlike 23 = .ok (.aload_n 0, 1) := by decide +kernel
theorem dX0_countAlike_24 : decode cX0_countAlike 24 = .ok (.getfield 9, 3) := by decide +kernel
theorem dX0_countAlike_27 : decode cX0_countAlike 27 = .ok (.iload_n 1, 1) := by decide +kernel
theorem dX0_countAlike_28 : decode cX0_countAlike 28 = .ok (.iaload, 1) := by decide +kernel
theorem dX0_countAlike_29 : decode cX0_countAlike 29 = .ok (.aload_n 0, 1) := by decide +kernel
theorem dX0_countAlike_30 : decode cX0_countAlike 30 = .ok (.getfield 9, 3) := by decide +kernel
theorem dX0_countAlike_33 : decode cX0_countAlike 33 = .ok (.iload_n 2, 1) := by decide +kernel
theorem dX0_countAlike_34 : decode cX0_countAlike 34 = .ok (.iaload, 1) := by decide +kernel
theorem dX0_countAlike_35 : decode cX0_countAlike 35 = .ok (.if_icmp .ne 6, 3) := by decide +kernel
theorem dX0_countAlike_38 : decode cX0_countAlike 38 = .ok (.iinc 3 1, 3) := by decide +kernel
theorem dX0_countAlike_41 : decode cX0_countAlike 41 = .ok (.iinc 4 1, 3) := by decide +kernel
theorem dX0_countAlike_44 : decode cX0_countAlike 44 = .ok (.goto (-35), 3) := by decide +kernel
theorem dX0_countAlike_47 : decode cX0_countAlike 47 = .ok (.iload_n 3, 1) := by decide +kernel
theorem dX0_countAlike_48 : decode cX0_countAlike 48 = .ok (.ireturn, 1) := by decide +kernel
theorem dX0_colourAt_0 : decode cX0_colourAt 0 = .ok (.aload_n 0, 1) := by decide +kernel
theorem dX0_colourAt_1 : decode cX0_colourAt 1 = .ok (.invokevirtual 29, 3) := by decide +kernel
theorem dX0_colourAt_4 : decode cX0_colourAt 4 = .ok (.iconst 0, 1) := by decide +kernel
theorem dX0_colourAt_5 : decode cX0_colourAt 5 = .ok (.istore_n 3, 1) := by decide +kernel
theorem dX0_colourAt_6 : decode cX0_colourAt 6 = .ok (.iload_n 3, 1) := by decide +kernel
theorem dX0_colourAt_7 : decode cX0_colourAt 7 = .ok (.ldc 32, 2) := by decide +kernel
theorem dX0_colourAt_9 : decode cX0_colourAt 9 = .ok (.if_icmp .ge 28, 3) := by decide +kernel
theorem dX0_colourAt_12 : decode cX0_colourAt 12 = .ok (.aload_n 0, 1) := by decide +kernel
theorem dX0_colourAt_13 : decode cX0_colourAt 13 = .ok (.invokevirtual 33, 3) := by decide +kernel
theorem dX0_colourAt_16 : decode cX0_colourAt 16 = .ok (.ifCond .eq 21, 3) := by decide +kernel
theorem dX0_colourAt_19 : decode cX0_colourAt 19 = .ok (.iload_n 3, 1) := by decide +kernel
theorem dX0_colourAt_20 : decode cX0_colourAt 20 = .ok (.iload_n 1, 1) := by decide +kernel
theorem dX0_colourAt_21 : decode cX0_colourAt 21 = .ok (.if_icmp .ne 10, 3) := by decide +kernel
theorem dX0_colourAt_24 : decode cX0_colourAt 24 = .ok (.aload_n 0, 1) := by decide +kernel
theorem dX0_colourAt_25 : decode cX0_colourAt 25 = .ok (.getfield 9, 3) := by decide +kernel
theorem dX0_colourAt_28 : decode cX0_colourAt 28 = .ok (.iload_n 2, 1) := by decide +kernel
theorem dX0_colourAt_29 : decode cX0_colourAt 29 = .ok (.iaload, 1) := by decide +kernel
theorem dX0_colourAt_30 : decode cX0_colourAt 30 = .ok (.ireturn, 1) := by decide +kernel
theorem dX0_colourAt_31 : decode cX0_colourAt 31 = .ok (.iinc 3 1, 3) := by decide +kernel
theorem dX0_colourAt_34 : decode cX0_colourAt 34 = .ok (.goto (-28), 3) := by decide +kernel
theorem dX0_colourAt_37 : decode cX0_colourAt 37 = .ok (.iconst (-1), 1) := by decide +kernel
theorem dX0_colourAt_38 : decode cX0_colourAt 38 = .ok (.ireturn, 1) := by decide +kernel
theorem dX0_start_0 : decode cX0_start 0 = .ok (.iconst 0, 1) := by decide +kernel
theorem dX0_start_1 : decode cX0_start 1 = .ok (.istore_n 1, 1) := by decide +kernel
theorem dX0_start_2 : decode cX0_start 2 = .ok (.iload_n 1, 1) := by decide +kernel
theorem dX0_start_3 : decode cX0_start 3 = .ok (.bipush 7, 2) := by decide +kernel
theorem dX0_start_5 : decode cX0_start 5 = .ok (.if_icmp .ge 16, 3) := by decide +kernel
theorem dX0_start_8 : decode cX0_start 8 = .ok (.aload_n 0, 1) := by decide +kernel
theorem dX0_start_9 : decode cX0_start 9 = .ok (.getfield 9, 3) := by decide +kernel
theorem dX0_start_12 : decode cX0_start 12 = .ok (.iload_n 1, 1) := by decide +kernel
theorem dX0_start_13 : decode cX0_start 13 = .ok (.iconst (-1), 1) := by decide +kernel
theorem dX0_start_14 : decode cX0_start 14 = .ok (.iastore, 1) := by decide +kernel
theorem dX0_start_15 : decode cX0_start 15 = .ok (.iinc 1 1, 3) := by decide +kernel
theorem dX0_start_18 : decode cX0_start 18 = .ok (.goto (-16), 3) := by decide +kernel
theorem dX0_start_21 : decode cX0_start 21 = .ok (.iconst 0, 1) := by decide +kernel
theorem dX0_start_22 : decode cX0_start 22 = .ok (.istore_n 1, 1) := by decide +kernel
theorem dX0_start_23 : decode cX0_start 23 = .ok (.iload_n 1, 1) := by decide +kernel
theorem dX0_start_24 : decode cX0_start 24 = .ok (.aload_n 0, 1) := by decide +kernel
theorem dX0_start_25 : decode cX0_start 25 = .ok (.getfield 25, 3) := by decide +kernel
theorem dX0_start_28 : decode cX0_start 28 = .ok (.getfield 53, 3) := by decide +kernel
theorem dX0_start_31 : decode cX0_start 31 = .ok (.if_icmp .ge 50, 3) := by decide +kernel
theorem dX0_start_34 : decode cX0_start 34 = .ok (.aload_n 0, 1) := by decide +kernel
theorem dX0_start_35 : decode cX0_start 35 = .ok (.getfield 25, 3) := by decide +kernel
theorem dX0_start_38 : decode cX0_start 38 = .ok (.iload_n 1, 1) := by decide +kernel
theorem dX0_start_39 : decode cX0_start 39 = .ok (.iconst 1, 1) := by decide +kernel
theorem dX0_start_40 : decode cX0_start 40 = .ok (.invokevirtual 56, 3) := by decide +kernel
theorem dX0_start_43 : decode cX0_start 43 = .ok (.aload_n 0, 1) := by decide +kernel
theorem dX0_start_44 : decode cX0_start 44 = .ok (.getfield 25, 3) := by decide +kernel
theorem dX0_start_47 : decode cX0_start 47 = .ok (.iload_n 1, 1) := by decide +kernel
theorem dX0_start_48 : decode cX0_start 48 = .ok (.iconst 2, 1) := by decide +kernel
theorem dX0_start_49 : decode cX0_start 49 = .ok (.invokevirtual 56, 3) := by decide +kernel
theorem dX0_start_52 : decode cX0_start 52 = .ok (.invokestatic 60, 3) := by decide +kernel
theorem dX0_start_55 : decode cX0_start 55 = .ok (.istore_n 2, 1) := by decide +kernel
theorem dX0_start_56 : decode cX0_start 56 = .ok (.aload_n 0, 1) := by decide +kernel
theorem dX0_start_57 : decode cX0_start 57 = .ok (.getfield 15, 3) := by decide +kernel
theorem dX0_start_60 : decode cX0_start 60 = .ok (.iload_n 1, 1) := by decide +kernel
theorem dX0_start_61 : decode cX0_start 61 = .ok (.aload_n 0, 1) := by decide +kernel
theorem dX0_start_62 : decode cX0_start 62 = .ok (.getfield 25, 3) := by decide +kernel
theorem dX0_start_65 : decode cX0_start 65 = .ok (.iload_n 1, 1) := by decide +kernel
theorem dX0_start_66 : decode cX0_start 66 = .ok (.iconst 0, 1) := by decide +kernel
theorem dX0_start_67 : decode cX0_start 67 = .ok (.invokevirtual 56, 3) := by decide +kernel
theorem dX0_start_70 : decode cX0_start 70 = .ok (.iload_n 2, 1) := by decide +kernel
theorem dX0_start_71 : decode cX0_start 71 = .ok (.invokestatic 60, 3) := by decide +kernel
theorem dX0_start_74 : decode cX0_start 74 = .ok (.iastore, 1) := by decide +kernel
theorem dX0_start_75 : decode cX0_start 75 = .ok (.iinc 1 1, 3) := by decide +kernel
theorem dX0_start_78 : decode cX0_start 78 = .ok (.goto (-55), 3) := by decide +kernel
theorem dX0_start_81 : decode cX0_start 81 = .ok (.aload_n 0, 1) := by decide +kernel
theorem dX0_start_82 : decode cX0_start 82 = .ok (.iconst 0, 1) := by decide +kernel
theorem dX0_start_83 : decode cX0_start 83 = .ok (.putfield 65, 3) := by decide +kernel
theorem dX0_start_86 : decode cX0_start 86 = .ok (.return_, 1) := by decide +kernel
theorem dX0_advance_0 : decode cX0_advance 0 = .ok (.iconst 0, 1) := by decide +kernel
theorem dX0_advance_1 : decode cX0_advance 1 = .ok (.istore_n 1, 1) := by decide +kernel
theorem dX0_advance_2 : decode cX0_advance 2 = .ok (.iload_n 1, 1) := by decide +kernel
theorem dX0_advance_3 : decode cX0_advance 3 = .ok (.ldc 68, 2) := by decide +kernel
theorem dX0_advance_5 : decode cX0_advance 5 = .ok (.if_icmp .ge 106, 3) := by decide +kernel
theorem dX0_advance_8 : decode cX0_advance 8 = .ok (.aload_n 0, 1) := by decide +kernel
theorem dX0_advance_9 : decode cX0_advance 9 = .ok (.getfield 65, 3) := by decide +kernel
theorem dX0_advance_12 : decode cX0_advance 12 = .ok (.ifCond .lt 99, 3) := by decide +kernel
theorem dX0_advance_15 : decode cX0_advance 15 = .ok (.aload_n 0, 1) := by decide +kernel
theorem dX0_advance_16 : decode cX0_advance 16 = .ok (.getfield 9, 3) := by decide +kernel
theorem dX0_advance_19 : decode cX0_advance 19 = .ok (.aload_n 0, 1) := by decide +kernel
theorem dX0_advance_20 : decode cX0_advance 20 = .ok (.getfield 65, 3) := by decide +kernel
theorem dX0_advance_23 : decode cX0_advance 23 = .ok (.dup2, 1) := by decide +kernel
theorem dX0_advance_24 : decode cX0_advance 24 = .ok (.iaload, 1) := by decide +kernel
theorem dX0_advance_25 : decode cX0_advance 25 = .ok (.iconst 1, 1) := by decide +kernel
theorem dX0_advance_26 : decode cX0_advance 26 = .ok (.iadd, 1) := by decide +kernel
theorem dX0_advance_27 : decode cX0_advance 27 = .ok (.iastore, 1) := by decide +kernel
theorem dX0_advance_28 : decode cX0_advance 28 = .ok (.aload_n 0, 1) := by decide +kernel
theorem dX0_advance_29 : decode cX0_advance 29 = .ok (.getfield 9, 3) := by decide +kernel
theorem dX0_advance_32 : decode cX0_advance 32 = .ok (.aload_n 0, 1) := by decide +kernel
theorem dX0_advance_33 : decode cX0_advance 33 = .ok (.getfield 65, 3) := by decide +kernel
theorem dX0_advance_36 : decode cX0_advance 36 = .ok (.iaload, 1) := by decide +kernel
theorem dX0_advance_37 : decode cX0_advance 37 = .ok (.aload_n 0, 1) := by decide +kernel
theorem dX0_advance_38 : decode cX0_advance 38 = .ok (.getfield 21, 3) := by decide +kernel
theorem dX0_advance_41 : decode cX0_advance 41 = .ok (.getfield 69, 3) := by decide +kernel
theorem dX0_advance_44 : decode cX0_advance 44 = .ok (.if_icmp .lt 26, 3) := by decide +kernel
theorem dX0_advance_47 : decode cX0_advance 47 = .ok (.aload_n 0, 1) := by decide +kernel
theorem dX0_advance_48 : decode cX0_advance 48 = .ok (.getfield 9, 3) := by decide +kernel
theorem dX0_advance_51 : decode cX0_advance 51 = .ok (.aload_n 0, 1) := by decide +kernel
theorem dX0_advance_52 : decode cX0_advance 52 = .ok (.getfield 65, 3) := by decide +kernel
theorem dX0_advance_55 : decode cX0_advance 55 = .ok (.iconst (-1), 1) := by decide +kernel
theorem dX0_advance_56 : decode cX0_advance 56 = .ok (.iastore, 1) := by decide +kernel
theorem dX0_advance_57 : decode cX0_advance 57 = .ok (.aload_n 0, 1) := by decide +kernel
theorem dX0_advance_58 : decode cX0_advance 58 = .ok (.dup, 1) := by decide +kernel
theorem dX0_advance_59 : decode cX0_advance 59 = .ok (.getfield 65, 3) := by decide +kernel
theorem dX0_advance_62 : decode cX0_advance 62 = .ok (.iconst 1, 1) := by decide +kernel
theorem dX0_advance_63 : decode cX0_advance 63 = .ok (.isub, 1) := by decide +kernel
theorem dX0_advance_64 : decode cX0_advance 64 = .ok (.putfield 65, 3) := by decide +kernel
theorem dX0_advance_67 : decode cX0_advance 67 = .ok (.goto 38, 3) := by decide +kernel
theorem dX0_advance_70 : decode cX0_advance 70 = .ok (.aload_n 0, 1) := by decide +kernel
theorem dX0_advance_71 : decode cX0_advance 71 = .ok (.invokevirtual 74, 3) := by decide +kernel
theorem dX0_advance_74 : decode cX0_advance 74 = .ok (.ifCond .eq 31, 3) := by decide +kernel
theorem dX0_advance_77 : decode cX0_advance 77 = .ok (.aload_n 0, 1) := by decide +kernel
theorem dX0_advance_78 : decode cX0_advance 78 = .ok (.getfield 65, 3) := by decide +kernel
theorem dX0_advance_81 : decode cX0_advance 81 = .ok (.aload_n 0, 1) := by decide +kernel
theorem dX0_advance_82 : decode cX0_advance 82 = .ok (.getfield 25, 3) := by decide +kernel
theorem dX0_advance_85 : decode cX0_advance 85 = .ok (.getfield 41, 3) := by decide +kernel
theorem dX0_advance_88 : decode cX0_advance 88 = .ok (.iconst 1, 1) := by decide +kernel
theorem dX0_advance_89 : decode cX0_advance 89 = .ok (.isub, 1) := by decide +kernel
theorem dX0_advance_90 : decode cX0_advance 90 = .ok (.if_icmp .ne 5, 3) := by decide +kernel
theorem dX0_advance_93 : decode cX0_advance 93 = .ok (.iconst 1, 1) := by decide +kernel
theorem dX0_advance_94 : decode cX0_advance 94 = .ok (.ireturn, 1) := by decide +kernel
theorem dX0_advance_95 : decode cX0_advance 95 = .ok (.aload_n 0, 1) := by decide +kernel
theorem dX0_advance_96 : decode cX0_advance 96 = .ok (.dup, 1) := by decide +kernel
theorem dX0_advance_97 : decode cX0_advance 97 = .ok (.getfield 65, 3) := by decide +kernel
theorem dX0_advance_100 : decode cX0_advance 100 = .ok (.iconst 1, 1) := by decide +kernel
theorem dX0_advance_101 : decode cX0_advance 101 = .ok (.iadd, 1) := by decide +kernel
theorem dX0_advance_102 : decode cX0_advance 102 = .ok (.putfield 65, 3) := by decide +kernel
theorem dX0_advance_105 : decode cX0_advance 105 = .ok (.iinc 1 1, 3) := by decide +kernel
theorem dX0_advance_108 : decode cX0_advance 108 = .ok (.goto (-106), 3) := by decide +kernel
theorem dX0_advance_111 : decode cX0_advance 111 = .ok (.iconst 0, 1) := by decide +kernel
theorem dX0_advance_112 : decode cX0_advance 112 = .ok (.ireturn, 1) := by decide +kernel
theorem dX0_fits_0 : decode cX0_fits 0 = .ok (.iconst 0, 1) := by decide +kernel
theorem dX0_fits_1 : decode cX0_fits 1 = .ok (.istore_n 1, 1) := by decide +kernel
theorem dX0_fits_2 : decode cX0_fits 2 = .ok (.iload_n 1, 1) := by decide +kernel
theorem dX0_fits_3 : decode cX0_fits 3 = .ok (.aload_n 0, 1) := by decide +kernel
theorem dX0_fits_4 : decode cX0_fits 4 = .ok (.getfield 25, 3) := by decide +kernel
theorem dX0_fits_7 : decode cX0_fits 7 = .ok (.getfield 53, 3) := by decide +kernel
theorem dX0_fits_10 : decode cX0_fits 10 = .ok (.if_icmp .ge 32, 3) := by decide +kernel
theorem dX0_fits_13 : decode cX0_fits 13 = .ok (.aload_n 0, 1) := by decide +kernel
theorem dX0_fits_14 : decode cX0_fits 14 = .ok (.getfield 15, 3) := by decide +kernel
theorem dX0_fits_17 : decode cX0_fits 17 = .ok (.iload_n 1, 1) := by decide +kernel
theorem dX0_fits_18 : decode cX0_fits 18 = .ok (.iaload, 1) := by decide +kernel
theorem dX0_fits_19 : decode cX0_fits 19 = .ok (.aload_n 0, 1) := by decide +kernel
theorem dX0_fits_20 : decode cX0_fits 20 = .ok (.getfield 65, 3) := by decide +kernel
theorem dX0_fits_23 : decode cX0_fits 23 = .ok (.if_icmp .ne 13, 3) := by decide +kernel
theorem dX0_fits_26 : decode cX0_fits 26 = .ok (.aload_n 0, 1) := by decide +kernel
theorem dX0_fits_27 : decode cX0_fits 27 = .ok (.iload_n 1, 1) := by decide +kernel
theorem dX0_fits_28 : decode cX0_fits 28 = .ok (.invokevirtual 77, 3) := by decide +kernel
theorem dX0_fits_31 : decode cX0_fits 31 = .ok (.ifCond .ne 5, 3) := by decide +kernel
theorem dX0_fits_34 : decode cX0_fits 34 = .ok (.iconst 0, 1) := by decide +kernel
theorem dX0_fits_35 : decode cX0_fits 35 = .ok (.ireturn, 1) := by decide +kernel
theorem dX0_fits_36 : decode cX0_fits 36 = .ok (.iinc 1 1, 3) := by decide +kernel
theorem dX0_fits_39 : decode cX0_fits 39 = .ok (.goto (-37), 3) := by decide +kernel
theorem dX0_fits_42 : decode cX0_fits 42 = .ok (.iconst 1, 1) := by decide +kernel
theorem dX0_fits_43 : decode cX0_fits 43 = .ok (.ireturn, 1) := by decide +kernel
theorem dX0_isMet_0 : decode cX0_isMet 0 = .ok (.aload_n 0, 1) := by decide +kernel
theorem dX0_isMet_1 : decode cX0_isMet 1 = .ok (.getfield 9, 3) := by decide +kernel
theorem dX0_isMet_4 : decode cX0_isMet 4 = .ok (.aload_n 0, 1) := by decide +kernel
theorem dX0_isMet_5 : decode cX0_isMet 5 = .ok (.getfield 25, 3) := by decide +kernel
theorem dX0_isMet_8 : decode cX0_isMet 8 = .ok (.iload_n 1, 1) := by decide +kernel
theorem dX0_isMet_9 : decode cX0_isMet 9 = .ok (.iconst 0, 1) := by decide +kernel
theorem dX0_isMet_10 : decode cX0_isMet 10 = .ok (.invokevirtual 56, 3) := by decide +kernel
theorem dX0_isMet_13 : decode cX0_isMet 13 = .ok (.iaload, 1) := by decide +kernel
theorem dX0_isMet_14 : decode cX0_isMet 14 = .ok (.istore_n 2, 1) := by decide +kernel
theorem dX0_isMet_15 : decode cX0_isMet 15 = .ok (.aload_n 0, 1) := by decide +kernel
theorem dX0_isMet_16 : decode cX0_isMet 16 = .ok (.getfield 9, 3) := by decide +kernel
theorem dX0_isMet_19 : decode cX0_isMet 19 = .ok (.aload_n 0, 1) := by decide +kernel
theorem dX0_isMet_20 : decode cX0_isMet 20 = .ok (.getfield 25, 3) := by decide +kernel
theorem dX0_isMet_23 : decode cX0_isMet 23 = .ok (.iload_n 1, 1) := by decide +kernel
theorem dX0_isMet_24 : decode cX0_isMet 24 = .ok (.iconst 1, 1) := by decide +kernel
theorem dX0_isMet_25 : decode cX0_isMet 25 = .ok (.invokevirtual 56, 3) := by decide +kernel
theorem dX0_isMet_28 : decode cX0_isMet 28 = .ok (.iaload, 1) := by decide +kernel
theorem dX0_isMet_29 : decode cX0_isMet 29 = .ok (.istore_n 3, 1) := by decide +kernel
theorem dX0_isMet_30 : decode cX0_isMet 30 = .ok (.aload_n 0, 1) := by decide +kernel
theorem dX0_isMet_31 : decode cX0_isMet 31 = .ok (.getfield 9, 3) := by decide +kernel
theorem dX0_isMet_34 : decode cX0_isMet 34 = .ok (.aload_n 0, 1) := by decide +kernel
theorem dX0_isMet_35 : decode cX0_isMet 35 = .ok (.getfield 25, 3) := by decide +kernel
theorem dX0_isMet_38 : decode cX0_isMet 38 = .ok (.iload_n 1, 1) := by decide +kernel
theorem dX0_isMet_39 : decode cX0_isMet 39 = .ok (.iconst 2, 1) := by decide +kernel
theorem dX0_isMet_40 : decode cX0_isMet 40 = .ok (.invokevirtual 56, 3) := by decide +kernel
theorem dX0_isMet_43 : decode cX0_isMet 43 = .ok (.iaload, 1) := by decide +kernel
theorem dX0_isMet_44 : decode cX0_isMet 44 = .ok (.istore 4, 2) := by decide +kernel
theorem dX0_isMet_46 : decode cX0_isMet 46 = .ok (.aload_n 0, 1) := by decide +kernel
theorem dX0_isMet_47 : decode cX0_isMet 47 = .ok (.getfield 25, 3) := by decide +kernel
theorem dX0_isMet_50 : decode cX0_isMet 50 = .ok (.iload_n 1, 1) := by decide +kernel
theorem dX0_isMet_51 : decode cX0_isMet 51 = .ok (.iconst 3, 1) := by decide +kernel
theorem dX0_isMet_52 : decode cX0_isMet 52 = .ok (.invokevirtual 56, 3) := by decide +kernel
theorem dX0_isMet_55 : decode cX0_isMet 55 = .ok (.iconst 1, 1) := by decide +kernel
theorem dX0_isMet_56 : decode cX0_isMet 56 = .ok (.if_icmp .ne 23, 3) := by decide +kernel
theorem dX0_isMet_59 : decode cX0_isMet 59 = .ok (.iload 4, 2) := by decide +kernel
theorem dX0_isMet_61 : decode cX0_isMet 61 = .ok (.aload_n 0, 1) := by decide +kernel
theorem dX0_isMet_62 : decode cX0_isMet 62 = .ok (.getfield 21, 3) := by decide +kernel
theorem dX0_isMet_65 : decode cX0_isMet 65 = .ok (.iload_n 3, 1) := by decide +kernel
theorem dX0_isMet_66 : decode cX0_isMet 66 = .ok (.iload_n 2, 1) := by decide +kernel
theorem dX0_isMet_67 : decode cX0_isMet 67 = .ok (.invokevirtual 81, 3) := by decide +kernel
theorem dX0_isMet_70 : decode cX0_isMet 70 = .ok (.if_icmp .ne 7, 3) := by decide +kernel
theorem dX0_isMet_73 : decode cX0_isMet 73 = .ok (.iconst 1, 1) := by decide +kernel
theorem dX0_isMet_74 : decode cX0_isMet 74 = .ok (.goto 4, 3) := by decide +kernel
theorem dX0_isMet_77 : decode cX0_isMet 77 = .ok (.iconst 0, 1) := by decide +kernel
theorem dX0_isMet_78 : decode cX0_isMet 78 = .ok (.ireturn, 1) := by decide +kernel
theorem dX0_isMet_79 : decode cX0_isMet 79 = .ok (.iload_n 3, 1) := by decide +kernel
theorem dX0_isMet_80 : decode cX0_isMet 80 = .ok (.aload_n 0, 1) := by decide +kernel
theorem dX0_isMet_81 : decode cX0_isMet 81 = .ok (.getfield 21, 3) := by decide +kernel
theorem dX0_isMet_84 : decode cX0_isMet 84 = .ok (.iload 4, 2) := by decide +kernel
theorem dX0_isMet_86 : decode cX0_isMet 86 = .ok (.iload_n 2, 1) := by decide +kernel
theorem dX0_isMet_87 : decode cX0_isMet 87 = .ok (.invokevirtual 81, 3) := by decide +kernel
theorem dX0_isMet_90 : decode cX0_isMet 90 = .ok (.if_icmp .ne 7, 3) := by decide +kernel
theorem dX0_isMet_93 : decode cX0_isMet 93 = .ok (.iconst 1, 1) := by decide +kernel
theorem dX0_isMet_94 : decode cX0_isMet 94 = .ok (.goto 4, 3) := by decide +kernel
theorem dX0_isMet_97 : decode cX0_isMet 97 = .ok (.iconst 0, 1) := by decide +kernel
theorem dX0_isMet_98 : decode cX0_isMet 98 = .ok (.ireturn, 1) := by decide +kernel
theorem dX1_init_0 : decode cX1_init 0 = .ok (.aload_n 0, 1) := by decide +kernel
theorem dX1_init_1 : decode cX1_init 1 = .ok (.invokespecial 3, 3) := by decide +kernel
theorem dX1_init_4 : decode cX1_init 4 = .ok (.aload_n 0, 1) := by decide +kernel
theorem dX1_init_5 : decode cX1_init 5 = .ok (.iconst 1, 1) := by decide +kernel
theorem dX1_init_6 : decode cX1_init 6 = .ok (.putfield 9, 3) := by decide +kernel
theorem dX1_init_9 : decode cX1_init 9 = .ok (.aload_n 0, 1) := by decide +kernel
theorem dX1_init_10 : decode cX1_init 10 = .ok (.iconst 0, 1) := by decide +kernel
theorem dX1_init_11 : decode cX1_init 11 = .ok (.putfield 15, 3) := by decide +kernel
theorem dX1_init_14 : decode cX1_init 14 = .ok (.aload_n 0, 1) := by decide +kernel
theorem dX1_init_15 : decode cX1_init 15 = .ok (.bipush 40, 2) := by decide +kernel
theorem dX1_init_17 : decode cX1_init 17 = .ok (.newarray .int, 2) := by decide +kernel
theorem dX1_init_19 : decode cX1_init 19 = .ok (.putfield 18, 3) := by decide +kernel
theorem dX1_init_22 : decode cX1_init 22 = .ok (.return_, 1) := by decide +kernel
theorem dX1_hasArc_0 : decode cX1_hasArc 0 = .ok (.iload_n 1, 1) := by decide +kernel
theorem dX1_hasArc_1 : decode cX1_hasArc 1 = .ok (.ifCond .lt 15, 3) := by decide +kernel
theorem dX1_hasArc_4 : decode cX1_hasArc 4 = .ok (.iload_n 1, 1) := by decide +kernel
theorem dX1_hasArc_5 : decode cX1_hasArc 5 = .ok (.aload_n 0, 1) := by decide +kernel
theorem dX1_hasArc_6 : decode cX1_hasArc 6 = .ok (.getfield 9, 3) := by decide +kernel
theorem dX1_hasArc_9 : decode cX1_hasArc 9 = .ok (.if_icmp .ge 7, 3) := by decide +kernel
theorem dX1_hasArc_12 : decode cX1_hasArc 12 = .ok (.iconst 1, 1) := by decide +kernel
theorem dX1_hasArc_13 : decode cX1_hasArc 13 = .ok (.goto 4, 3) := by decide +kernel
theorem dX1_hasArc_16 : decode cX1_hasArc 16 = .ok (.iconst 0, 1) := by decide +kernel
theorem dX1_hasArc_17 : decode cX1_hasArc 17 = .ok (.ireturn, 1) := by decide +kernel
theorem dX1_hasCrossing_0 : decode cX1_hasCrossing 0 = .ok (.iload_n 1, 1) := by decide +kernel
theorem dX1_hasCrossing_1 : decode cX1_hasCrossing 1 = .ok (.ifCond .lt 15, 3) := by decide +kernel
theorem dX1_hasCrossing_4 : decode cX1_hasCrossing 4 = .ok (.iload_n 1, 1) := by decide +kernel
theorem dX1_hasCrossing_5 : decode cX1_hasCrossing 5 = .ok (.aload_n 0, 1) := by decide +kernel
theorem dX1_hasCrossing_6 : decode cX1_hasCrossing 6 = .ok (.getfield 15, 3) := by decide +kernel
theorem dX1_hasCrossing_9 : decode cX1_hasCrossing 9 = .ok (.if_icmp .ge 7, 3) := by decide +kernel
theorem dX1_hasCrossing_12 : decode cX1_hasCrossing 12 = .ok (.iconst 1, 1) := by decide +kernel
theorem dX1_hasCrossing_13 : decode cX1_hasCrossing 13 = .ok (.goto 4, 3) := by decide +kernel
theorem dX1_hasCrossing_16 : decode cX1_hasCrossing 16 = .ok (.iconst 0, 1) := by decide +kernel
theorem dX1_hasCrossing_17 : decode cX1_hasCrossing 17 = .ok (.ireturn, 1) := by decide +kernel
theorem dX1_hasRoom_0 : decode cX1_hasRoom 0 = .ok (.aload_n 0, 1) := by decide +kernel
theorem dX1_hasRoom_1 : decode cX1_hasRoom 1 = .ok (.getfield 9, 3) := by decide +kernel
theorem dX1_hasRoom_4 : decode cX1_hasRoom 4 = .ok (.iload_n 1, 1) := by decide +kernel
theorem dX1_hasRoom_5 : decode cX1_hasRoom 5 = .ok (.iadd, 1) := by decide +kernel
theorem dX1_hasRoom_6 : decode cX1_hasRoom 6 = .ok (.bipush 7, 2) := by decide +kernel
theorem dX1_hasRoom_8 : decode cX1_hasRoom 8 = .ok (.if_icmp .gt 18, 3) := by decide +kernel
theorem dX1_hasRoom_11 : decode cX1_hasRoom 11 = .ok (.aload_n 0, 1) := by decide +kernel
theorem dX1_hasRoom_12 : decode cX1_hasRoom 12 = .ok (.getfield 15, 3) := by decide +kernel
theorem dX1_hasRoom_15 : decode cX1_hasRoom 15 = .ok (.iload_n 2, 1) := by decide +kernel
theorem dX1_hasRoom_16 : decode cX1_hasRoom 16 = .ok (.iadd, 1) := by decide +kernel
theorem dX1_hasRoom_17 : decode cX1_hasRoom 17 = .ok (.bipush 10, 2) := by decide +kernel
theorem dX1_hasRoom_19 : decode cX1_hasRoom 19 = .ok (.if_icmp .gt 7, 3) := by decide +kernel
theorem dX1_hasRoom_22 : decode cX1_hasRoom 22 = .ok (.iconst 1, 1) := by decide +kernel
theorem dX1_hasRoom_23 : decode cX1_hasRoom 23 = .ok (.goto 4, 3) := by decide +kernel
theorem dX1_hasRoom_26 : decode cX1_hasRoom 26 = .ok (.iconst 0, 1) := by decide +kernel
theorem dX1_hasRoom_27 : decode cX1_hasRoom 27 = .ok (.ireturn, 1) := by decide +kernel
theorem dX1_part_0 : decode cX1_part 0 = .ok (.aload_n 0, 1) := by decide +kernel
theorem dX1_part_1 : decode cX1_part 1 = .ok (.getfield 18, 3) := by decide +kernel
theorem dX1_part_4 : decode cX1_part 4 = .ok (.iconst 4, 1) := by decide +kernel
theorem dX1_part_5 : decode cX1_part 5 = .ok (.iload_n 1, 1) := by decide +kernel
theorem dX1_part_6 : decode cX1_part 6 = .ok (.imul, 1) := by decide +kernel
theorem dX1_part_7 : decode cX1_part 7 = .ok (.iload_n 2, 1) := by decide +kernel
theorem dX1_part_8 : decode cX1_part 8 = .ok (.iadd, 1) := by decide +kernel
theorem dX1_part_9 : decode cX1_part 9 = .ok (.iaload, 1) := by decide +kernel
theorem dX1_part_10 : decode cX1_part 10 = .ok (.ireturn, 1) := by decide +kernel
theorem dX1_copyFrom_0 : decode cX1_copyFrom 0 = .ok (.aload_n 0, 1) := by decide +kernel
theorem dX1_copyFrom_1 : decode cX1_copyFrom 1 = .ok (.aload_n 1, 1) := by decide +kernel
theorem dX1_copyFrom_2 : decode cX1_copyFrom 2 = .ok (.getfield 9, 3) := by decide +kernel
theorem dX1_copyFrom_5 : decode cX1_copyFrom 5 = .ok (.putfield 9, 3) := by decide +kernel
theorem dX1_copyFrom_8 : decode cX1_copyFrom 8 = .ok (.aload_n 0, 1) := by decide +kernel
theorem dX1_copyFrom_9 : decode cX1_copyFrom 9 = .ok (.aload_n 1, 1) := by decide +kernel
theorem dX1_copyFrom_10 : decode cX1_copyFrom 10 = .ok (.getfield 15, 3) := by decide +kernel
theorem dX1_copyFrom_13 : decode cX1_copyFrom 13 = .ok (.putfield 15, 3) := by decide +kernel
theorem dX1_copyFrom_16 : decode cX1_copyFrom 16 = .ok (.aload_n 1, 1) := by decide +kernel
theorem dX1_copyFrom_17 : decode cX1_copyFrom 17 = .ok (.getfield 18, 3) := by decide +kernel
theorem dX1_copyFrom_20 : decode cX1_copyFrom 20 = .ok (.iconst 0, 1) := by decide +kernel
theorem dX1_copyFrom_21 : decode cX1_copyFrom 21 = .ok (.aload_n 0, 1) := by decide +kernel
theorem dX1_copyFrom_22 : decode cX1_copyFrom 22 = .ok (.getfield 18, 3) := by decide +kernel
theorem dX1_copyFrom_25 : decode cX1_copyFrom 25 = .ok (.iconst 0, 1) := by decide +kernel
theorem dX1_copyFrom_26 : decode cX1_copyFrom 26 = .ok (.aload_n 0, 1) := by decide +kernel
theorem dX1_copyFrom_27 : decode cX1_copyFrom 27 = .ok (.getfield 18, 3) := by decide +kernel
theorem dX1_copyFrom_30 : decode cX1_copyFrom 30 = .ok (.arraylength, 1) := by decide +kernel
theorem dX1_copyFrom_31 : decode cX1_copyFrom 31 = .ok (.invokestatic 22, 3) := by decide +kernel
theorem dX1_copyFrom_34 : decode cX1_copyFrom 34 = .ok (.return_, 1) := by decide +kernel
theorem dX1_clear_0 : decode cX1_clear 0 = .ok (.aload_n 0, 1) := by decide +kernel
theorem dX1_clear_1 : decode cX1_clear 1 = .ok (.iload_n 1, 1) := by decide +kernel
theorem dX1_clear_2 : decode cX1_clear 2 = .ok (.putfield 9, 3) := by decide +kernel
theorem dX1_clear_5 : decode cX1_clear 5 = .ok (.aload_n 0, 1) := by decide +kernel
theorem dX1_clear_6 : decode cX1_clear 6 = .ok (.iconst 0, 1) := by decide +kernel
theorem dX1_clear_7 : decode cX1_clear 7 = .ok (.putfield 15, 3) := by decide +kernel
theorem dX1_clear_10 : decode cX1_clear 10 = .ok (.return_, 1) := by decide +kernel
theorem dX1_addArc_0 : decode cX1_addArc 0 = .ok (.aload_n 0, 1) := by decide +kernel
theorem dX1_addArc_1 : decode cX1_addArc 1 = .ok (.dup, 1) := by decide +kernel
theorem dX1_addArc_2 : decode cX1_addArc 2 = .ok (.getfield 9, 3) := by decide +kernel
theorem dX1_addArc_5 : decode cX1_addArc 5 = .ok (.iconst 1, 1) := by decide +kernel
theorem dX1_addArc_6 : decode cX1_addArc 6 = .ok (.iadd, 1) := by decide +kernel
theorem dX1_addArc_7 : decode cX1_addArc 7 = .ok (.putfield 9, 3) := by decide +kernel
theorem dX1_addArc_10 : decode cX1_addArc 10 = .ok (.aload_n 0, 1) := by decide +kernel
theorem dX1_addArc_11 : decode cX1_addArc 11 = .ok (.getfield 9, 3) := by decide +kernel
theorem dX1_addArc_14 : decode cX1_addArc 14 = .ok (.iconst 1, 1) := by decide +kernel
theorem dX1_addArc_15 : decode cX1_addArc 15 = .ok (.isub, 1) := by decide +kernel
theorem dX1_addArc_16 : decode cX1_addArc 16 = .ok (.ireturn, 1) := by decide +kernel
theorem dX1_append_0 : decode cX1_append 0 = .ok (.iconst 4, 1) := by decide +kernel
theorem dX1_append_1 : decode cX1_append 1 = .ok (.aload_n 0, 1) := by decide +kernel
theorem dX1_append_2 : decode cX1_append 2 = .ok (.getfield 15, 3) := by decide +kernel
theorem dX1_append_5 : decode cX1_append 5 = .ok (.imul, 1) := by decide +kernel
theorem dX1_append_6 : decode cX1_append 6 = .ok (.istore 5, 2) := by decide +kernel
theorem dX1_append_8 : decode cX1_append 8 = .ok (.aload_n 0, 1) := by decide +kernel
theorem dX1_append_9 : decode cX1_append 9 = .ok (.getfield 18, 3) := by decide +kernel
theorem dX1_append_12 : decode cX1_append 12 = .ok (.iload 5, 2) := by decide +kernel
theorem dX1_append_14 : decode cX1_append 14 = .ok (.iconst 0, 1) := by decide +kernel
theorem dX1_append_15 : decode cX1_append 15 = .ok (.iadd, 1) := by decide +kernel
theorem dX1_append_16 : decode cX1_append 16 = .ok (.iload_n 1, 1) := by decide +kernel
theorem dX1_append_17 : decode cX1_append 17 = .ok (.iastore, 1) := by decide +kernel
theorem dX1_append_18 : decode cX1_append 18 = .ok (.aload_n 0, 1) := by decide +kernel
theorem dX1_append_19 : decode cX1_append 19 = .ok (.getfield 18, 3) := by decide +kernel
theorem dX1_append_22 : decode cX1_append 22 = .ok (.iload 5, 2) := by decide +kernel
theorem dX1_append_24 : decode cX1_append 24 = .ok (.iconst 1, 1) := by decide +kernel
theorem dX1_append_25 : decode cX1_append 25 = .ok (.iadd, 1) := by decide +kernel
theorem dX1_append_26 : decode cX1_append 26 = .ok (.iload_n 2, 1) := by decide +kernel
theorem dX1_append_27 : decode cX1_append 27 = .ok (.iastore, 1) := by decide +kernel
theorem dX1_append_28 : decode cX1_append 28 = .ok (.aload_n 0, 1) := by decide +kernel
theorem dX1_append_29 : decode cX1_append 29 = .ok (.getfield 18, 3) := by decide +kernel
theorem dX1_append_32 : decode cX1_append 32 = .ok (.iload 5, 2) := by decide +kernel
theorem dX1_append_34 : decode cX1_append 34 = .ok (.iconst 2, 1) := by decide +kernel
theorem dX1_append_35 : decode cX1_append 35 = .ok (.iadd, 1) := by decide +kernel
theorem dX1_append_36 : decode cX1_append 36 = .ok (.iload_n 3, 1) := by decide +kernel
theorem dX1_append_37 : decode cX1_append 37 = .ok (.iastore, 1) := by decide +kernel
theorem dX1_append_38 : decode cX1_append 38 = .ok (.aload_n 0, 1) := by decide +kernel
theorem dX1_append_39 : decode cX1_append 39 = .ok (.getfield 18, 3) := by decide +kernel
theorem dX1_append_42 : decode cX1_append 42 = .ok (.iload 5, 2) := by decide +kernel
theorem dX1_append_44 : decode cX1_append 44 = .ok (.iconst 3, 1) := by decide +kernel
theorem dX1_append_45 : decode cX1_append 45 = .ok (.iadd, 1) := by decide +kernel
theorem dX1_append_46 : decode cX1_append 46 = .ok (.iload 4, 2) := by decide +kernel
theorem dX1_append_48 : decode cX1_append 48 = .ok (.iastore, 1) := by decide +kernel
theorem dX1_append_49 : decode cX1_append 49 = .ok (.aload_n 0, 1) := by decide +kernel
theorem dX1_append_50 : decode cX1_append 50 = .ok (.dup, 1) := by decide +kernel
theorem dX1_append_51 : decode cX1_append 51 = .ok (.getfield 15, 3) := by decide +kernel
theorem dX1_append_54 : decode cX1_append 54 = .ok (.iconst 1, 1) := by decide +kernel
theorem dX1_append_55 : decode cX1_append 55 = .ok (.iadd, 1) := by decide +kernel
theorem dX1_append_56 : decode cX1_append 56 = .ok (.putfield 15, 3) := by decide +kernel
theorem dX1_append_59 : decode cX1_append 59 = .ok (.return_, 1) := by decide +kernel
theorem dX1_remove_0 : decode cX1_remove 0 = .ok (.iconst 4, 1) := by decide +kernel
theorem dX1_remove_1 : decode cX1_remove 1 = .ok (.iload_n 1, 1) := by decide +kernel
theorem dX1_remove_2 : decode cX1_remove 2 = .ok (.iconst 1, 1) := by decide +kernel
theorem dX1_remove_3 : decode cX1_remove 3 = .ok (.iadd, 1) := by decide +kernel
theorem dX1_remove_4 : decode cX1_remove 4 = .ok (.imul, 1) := by decide +kernel
theorem dX1_remove_5 : decode cX1_remove 5 = .ok (.istore_n 2, 1) := by decide +kernel
theorem dX1_remove_6 : decode cX1_remove 6 = .ok (.aload_n 0, 1) := by decide +kernel
theorem dX1_remove_7 : decode cX1_remove 7 = .ok (.getfield 18, 3) := by decide +kernel
theorem dX1_remove_10 : decode cX1_remove 10 = .ok (.iload_n 2, 1) := by decide +kernel
theorem dX1_remove_11 : decode cX1_remove 11 = .ok (.aload_n 0, 1) := by decide +kernel
theorem dX1_remove_12 : decode cX1_remove 12 = .ok (.getfield 18, 3) := by decide +kernel
theorem dX1_remove_15 : decode cX1_remove 15 = .ok (.iload_n 2, 1) := by decide +kernel
theorem dX1_remove_16 : decode cX1_remove 16 = .ok (.iconst 4, 1) := by decide +kernel
theorem dX1_remove_17 : decode cX1_remove 17 = .ok (.isub, 1) := by decide +kernel
theorem dX1_remove_18 : decode cX1_remove 18 = .ok (.iconst 4, 1) := by decide +kernel
theorem dX1_remove_19 : decode cX1_remove 19 = .ok (.aload_n 0, 1) := by decide +kernel
theorem dX1_remove_20 : decode cX1_remove 20 = .ok (.getfield 15, 3) := by decide +kernel
theorem dX1_remove_23 : decode cX1_remove 23 = .ok (.imul, 1) := by decide +kernel
theorem dX1_remove_24 : decode cX1_remove 24 = .ok (.iload_n 2, 1) := by decide +kernel
theorem dX1_remove_25 : decode cX1_remove 25 = .ok (.isub, 1) := by decide +kernel
theorem dX1_remove_26 : decode cX1_remove 26 = .ok (.invokestatic 22, 3) := by decide +kernel
theorem dX1_remove_29 : decode cX1_remove 29 = .ok (.aload_n 0, 1) := by decide +kernel
theorem dX1_remove_30 : decode cX1_remove 30 = .ok (.dup, 1) := by decide +kernel
theorem dX1_remove_31 : decode cX1_remove 31 = .ok (.getfield 15, 3) := by decide +kernel
theorem dX1_remove_34 : decode cX1_remove 34 = .ok (.iconst 1, 1) := by decide +kernel
theorem dX1_remove_35 : decode cX1_remove 35 = .ok (.isub, 1) := by decide +kernel
theorem dX1_remove_36 : decode cX1_remove 36 = .ok (.putfield 15, 3) := by decide +kernel
theorem dX1_remove_39 : decode cX1_remove 39 = .ok (.return_, 1) := by decide +kernel
theorem dX1_moveIn_0 : decode cX1_moveIn 0 = .ok (.iconst 0, 1) := by decide +kernel
theorem dX1_moveIn_1 : decode cX1_moveIn 1 = .ok (.istore_n 3, 1) := by decide +kernel
theorem dX1_moveIn_2 : decode cX1_moveIn 2 = .ok (.iload_n 3, 1) := by decide +kernel
theorem dX1_moveIn_3 : decode cX1_moveIn 3 = .ok (.aload_n 0, 1) := by decide +kernel
theorem dX1_moveIn_4 : decode cX1_moveIn 4 = .ok (.getfield 15, 3) := by decide +kernel
theorem dX1_moveIn_7 : decode cX1_moveIn 7 = .ok (.if_icmp .ge 30, 3) := by decide +kernel
theorem dX1_moveIn_10 : decode cX1_moveIn 10 = .ok (.aload_n 0, 1) := by decide +kernel
theorem dX1_moveIn_11 : decode cX1_moveIn 11 = .ok (.iload_n 3, 1) := by decide +kernel
theorem dX1_moveIn_12 : decode cX1_moveIn 12 = .ok (.iconst 1, 1) := by decide +kernel
theorem dX1_moveIn_13 : decode cX1_moveIn 13 = .ok (.invokevirtual 28, 3) := by decide +kernel
theorem dX1_moveIn_16 : decode cX1_moveIn 16 = .ok (.iload_n 1, 1) := by decide +kernel
theorem dX1_moveIn_17 : decode cX1_moveIn 17 = .ok (.if_icmp .ne 14, 3) := by decide +kernel
theorem dX1_moveIn_20 : decode cX1_moveIn 20 = .ok (.aload_n 0, 1) := by decide +kernel
theorem dX1_moveIn_21 : decode cX1_moveIn 21 = .ok (.getfield 18, 3) := by decide +kernel
theorem dX1_moveIn_24 : decode cX1_moveIn 24 = .ok (.iconst 4, 1) := by decide +kernel
theorem dX1_moveIn_25 : decode cX1_moveIn 25 = .ok (.iload_n 3, 1) := by decide +kernel
theorem dX1_moveIn_26 : decode cX1_moveIn 26 = .ok (.imul, 1) := by decide +kernel
theorem dX1_moveIn_27 : decode cX1_moveIn 27 = .ok (.iconst 1, 1) := by decide +kernel
theorem dX1_moveIn_28 : decode cX1_moveIn 28 = .ok (.iadd, 1) := by decide +kernel
theorem dX1_moveIn_29 : decode cX1_moveIn 29 = .ok (.iload_n 2, 1) := by decide +kernel
theorem dX1_moveIn_30 : decode cX1_moveIn 30 = .ok (.iastore, 1) := by decide +kernel
theorem dX1_moveIn_31 : decode cX1_moveIn 31 = .ok (.iinc 3 1, 3) := by decide +kernel
theorem dX1_moveIn_34 : decode cX1_moveIn 34 = .ok (.goto (-32), 3) := by decide +kernel
theorem dX1_moveIn_37 : decode cX1_moveIn 37 = .ok (.return_, 1) := by decide +kernel
theorem dX1_isClosed_0 : decode cX1_isClosed 0 = .ok (.iconst 0, 1) := by decide +kernel
theorem dX1_isClosed_1 : decode cX1_isClosed 1 = .ok (.istore_n 1, 1) := by decide +kernel
theorem dX1_isClosed_2 : decode cX1_isClosed 2 = .ok (.iload_n 1, 1) := by decide +kernel
theorem dX1_isClosed_3 : decode cX1_isClosed 3 = .ok (.aload_n 0, 1) := by decide +kernel
theorem dX1_isClosed_4 : decode cX1_isClosed 4 = .ok (.getfield 9, 3) := by decide +kernel
theorem dX1_isClosed_7 : decode cX1_isClosed 7 = .ok (.if_icmp .ge 33, 3) := by decide +kernel
theorem dX1_isClosed_10 : decode cX1_isClosed 10 = .ok (.aload_n 0, 1) := by decide +kernel
theorem dX1_isClosed_11 : decode cX1_isClosed 11 = .ok (.iconst 1, 1) := by decide +kernel
theorem dX1_isClosed_12 : decode cX1_isClosed 12 = .ok (.iload_n 1, 1) := by decide +kernel
theorem dX1_isClosed_13 : decode cX1_isClosed 13 = .ok (.invokevirtual 32, 3) := by decide +kernel
theorem dX1_isClosed_16 : decode cX1_isClosed 16 = .ok (.istore_n 2, 1) := by decide +kernel
theorem dX1_isClosed_17 : decode cX1_isClosed 17 = .ok (.iload_n 2, 1) := by decide +kernel
theorem dX1_isClosed_18 : decode cX1_isClosed 18 = .ok (.iconst 1, 1) := by decide +kernel
theorem dX1_isClosed_19 : decode cX1_isClosed 19 = .ok (.if_icmp .gt 13, 3) := by decide +kernel
theorem dX1_isClosed_22 : decode cX1_isClosed 22 = .ok (.iload_n 2, 1) := by decide +kernel
theorem dX1_isClosed_23 : decode cX1_isClosed 23 = .ok (.aload_n 0, 1) := by decide +kernel
theorem dX1_isClosed_24 : decode cX1_isClosed 24 = .ok (.iconst 2, 1) := by decide +kernel
theorem dX1_isClosed_25 : decode cX1_isClosed 25 = .ok (.iload_n 1, 1) := by decide +kernel
theorem dX1_isClosed_26 : decode cX1_isClosed 26 = .ok (.invokevirtual 32, 3) := by decide +kernel
theorem dX1_isClosed_29 : decode cX1_isClosed 29 = .ok (.if_icmp .eq 5, 3) := by decide +kernel
theorem dX1_isClosed_32 : decode cX1_isClosed 32 = .ok (.iconst 0, 1) := by decide +kernel
theorem dX1_isClosed_33 : decode cX1_isClosed 33 = .ok (.ireturn, 1) := by decide +kernel
theorem dX1_isClosed_34 : decode cX1_isClosed 34 = .ok (.iinc 1 1, 3) := by decide +kernel
theorem dX1_isClosed_37 : decode cX1_isClosed 37 = .ok (.goto (-35), 3) := by decide +kernel
theorem dX1_isClosed_40 : decode cX1_isClosed 40 = .ok (.iconst 1, 1) := by decide +kernel
theorem dX1_isClosed_41 : decode cX1_isClosed 41 = .ok (.ireturn, 1) := by decide +kernel
theorem dX1_countAs_0 : decode cX1_countAs 0 = .ok (.iconst 0, 1) := by decide +kernel
theorem dX1_countAs_1 : decode cX1_countAs 1 = .ok (.istore_n 3, 1) := by decide +kernel
theorem dX1_countAs_2 : decode cX1_countAs 2 = .ok (.iconst 0, 1) := by decide +kernel
theorem dX1_countAs_3 : decode cX1_countAs 3 = .ok (.istore 4, 2) := by decide +kernel
theorem dX1_countAs_5 : decode cX1_countAs 5 = .ok (.iload 4, 2) := by decide +kernel
theorem dX1_countAs_7 : decode cX1_countAs 7 = .ok (.aload_n 0, 1) := by decide +kernel
theorem dX1_countAs_8 : decode cX1_countAs 8 = .ok (.getfield 15, 3) := by decide +kernel
theorem dX1_countAs_11 : decode cX1_countAs 11 = .ok (.if_icmp .ge 23, 3) := by decide +kernel
theorem dX1_countAs_14 : decode cX1_countAs 14 = .ok (.aload_n 0, 1) := by decide +kernel
theorem dX1_countAs_15 : decode cX1_countAs 15 = .ok (.iload 4, 2) := by decide +kernel
theorem dX1_countAs_17 : decode cX1_countAs 17 = .ok (.iload_n 1, 1) := by decide +kernel
theorem dX1_countAs_18 : decode cX1_countAs 18 = .ok (.invokevirtual 28, 3) := by decide +kernel
theorem dX1_countAs_21 : decode cX1_countAs 21 = .ok (.iload_n 2, 1) := by decide +kernel
theorem dX1_countAs_22 : decode cX1_countAs 22 = .ok (.if_icmp .ne 6, 3) := by decide +kernel
theorem dX1_countAs_25 : decode cX1_countAs 25 = .ok (.iinc 3 1, 3) := by decide +kernel
theorem dX1_countAs_28 : decode cX1_countAs 28 = .ok (.iinc 4 1, 3) := by decide +kernel
theorem dX1_countAs_31 : decode cX1_countAs 31 = .ok (.goto (-26), 3) := by decide +kernel
theorem dX1_countAs_34 : decode cX1_countAs 34 = .ok (.iload_n 3, 1) := by decide +kernel
theorem dX1_countAs_35 : decode cX1_countAs 35 = .ok (.ireturn, 1) := by decide +kernel
theorem dX1_countComponents_0 : decode cX1_countComponents 0 = .ok (.iconst 0, 1) := by decide +kernel
theorem dX1_countComponents_1 : decode cX1_countComponents 1 = .ok (.istore_n 1, 1) := by decide +kernel
theorem dX1_countComponents_2 : decode cX1_countComponents 2 = .ok (.iconst 0, 1) := by decide +kernel
theorem dX1_countComponents_3 : decode cX1_countComponents 3 = .ok (.istore_n 2, 1) := by decide +kernel
theorem dX1_countComponents_4 : decode cX1_countComponents 4 = .ok (.iconst 0, 1) := by decide +kernel
theorem dX1_countComponents_5 : decode cX1_countComponents 5 = .ok (.istore_n 3, 1) := by decide +kernel
theorem dX1_countComponents_6 : decode cX1_countComponents 6 = .ok (.iload_n 3, 1) := by decide +kernel
theorem dX1_countComponents_7 : decode cX1_countComponents 7 = .ok (.aload_n 0, 1) := by decide +kernel
theorem dX1_countComponents_8 : decode cX1_countComponents 8 = .ok (.getfield 9, 3) := by decide +kernel
theorem dX1_countComponents_11 : decode cX1_countComponents 11 = .ok (.if_icmp .ge 28, 3) := by decide +kernel
theorem dX1_countComponents_14 : decode cX1_countComponents 14 = .ok (.iload_n 2, 1) := by decide +kernel
theorem dX1_countComponents_15 : decode cX1_countComponents 15 = .ok (.iload_n 3, 1) := by decide +kernel
theorem dX1_countComponents_16 : decode cX1_countComponents 16 = .ok (.ishr, 1) := by decide +kernel
theorem dX1_countComponents_17 : decode cX1_countComponents 17 = .ok (.iconst 1, 1) := by decide +kernel
theorem dX1_countComponents_18 : decode cX1_countComponents 18 = .ok (.iand, 1) := by decide +kernel
theorem dX1_countComponents_19 : decode cX1_countComponents 19 = .ok (.ifCond .ne 14, 3) := by decide +kernel
theorem dX1_countComponents_22 : decode cX1_countComponents 22 = .ok (.iinc 1 1, 3) := by decide +kernel
theorem dX1_countComponents_25 : decode cX1_countComponents 25 = .ok (.iload_n 2, 1) := by decide +kernel
theorem dX1_countComponents_26 : decode cX1_countComponents 26 = .ok (.aload_n 0, 1) := by decide +kernel
theorem dX1_countComponents_27 : decode cX1_countComponents 27 = .ok (.iload_n 3, 1) := by decide +kernel
theorem dX1_countComponents_28 : decode cX1_countComponents 28 = .ok (.invokevirtual 35, 3) := by decide +kernel
theorem dX1_countComponents_31 : decode cX1_countComponents 31 = .ok (.ior, 1) := by decide +kernel
theorem dX1_countComponents_32 : decode cX1_countComponents 32 = .ok (.istore_n 2, 1) := by decide +kernel
theorem dX1_countComponents_33 : decode cX1_countComponents 33 = .ok (.iinc 3 1, 3) := by decide +kernel
theorem dX1_countComponents_36 : decode cX1_countComponents 36 = .ok (.goto (-30), 3) := by decide +kernel
theorem dX1_countComponents_39 : decode cX1_countComponents 39 = .ok (.iload_n 1, 1) := by decide +kernel
theorem dX1_countComponents_40 : decode cX1_countComponents 40 = .ok (.ireturn, 1) := by decide +kernel
theorem dX1_componentOf_0 : decode cX1_componentOf 0 = .ok (.iconst 1, 1) := by decide +kernel
theorem dX1_componentOf_1 : decode cX1_componentOf 1 = .ok (.iload_n 1, 1) := by decide +kernel
theorem dX1_componentOf_2 : decode cX1_componentOf 2 = .ok (.ishl, 1) := by decide +kernel
theorem dX1_componentOf_3 : decode cX1_componentOf 3 = .ok (.istore_n 2, 1) := by decide +kernel
theorem dX1_componentOf_4 : decode cX1_componentOf 4 = .ok (.iconst 0, 1) := by decide +kernel
theorem dX1_componentOf_5 : decode cX1_componentOf 5 = .ok (.istore_n 3, 1) := by decide +kernel
theorem dX1_componentOf_6 : decode cX1_componentOf 6 = .ok (.iload_n 3, 1) := by decide +kernel
theorem dX1_componentOf_7 : decode cX1_componentOf 7 = .ok (.aload_n 0, 1) := by decide +kernel
theorem dX1_componentOf_8 : decode cX1_componentOf 8 = .ok (.getfield 9, 3) := by decide +kernel
theorem dX1_componentOf_11 : decode cX1_componentOf 11 = .ok (.if_icmp .ge 60, 3) := by decide +kernel
theorem dX1_componentOf_14 : decode cX1_componentOf 14 = .ok (.iconst 0, 1) := by decide +kernel
theorem dX1_componentOf_15 : decode cX1_componentOf 15 = .ok (.istore 4, 2) := by decide +kernel
theorem dX1_componentOf_17 : decode cX1_componentOf 17 = .ok (.iload 4, 2) := by decide +kernel
theorem dX1_componentOf_19 : decode cX1_componentOf 19 = .ok (.aload_n 0, 1) := by decide +kernel
theorem dX1_componentOf_20 : decode cX1_componentOf 20 = .ok (.getfield 15, 3) := by decide +kernel
theorem dX1_componentOf_23 : decode cX1_componentOf 23 = .ok (.if_icmp .ge 42, 3) := by decide +kernel
theorem dX1_componentOf_26 : decode cX1_componentOf 26 = .ok (.iconst 1, 1) := by decide +kernel
theorem dX1_componentOf_27 : decode cX1_componentOf 27 = .ok (.aload_n 0, 1) := by decide +kernel
theorem dX1_componentOf_28 : decode cX1_componentOf 28 = .ok (.iload 4, 2) := by decide +kernel
theorem dX1_componentOf_30 : decode cX1_componentOf 30 = .ok (.iconst 1, 1) := by decide +kernel
theorem dX1_componentOf_31 : decode cX1_componentOf 31 = .ok (.invokevirtual 28, 3) := by decide +kernel
theorem dX1_componentOf_34 : decode cX1_componentOf 34 = .ok (.ishl, 1) := by decide +kernel
theorem dX1_componentOf_35 : decode cX1_componentOf 35 = .ok (.iconst 1, 1) := by decide +kernel
theorem dX1_componentOf_36 : decode cX1_componentOf 36 = .ok (.aload_n 0, 1) := by decide +kernel
theorem dX1_componentOf_37 : decode cX1_componentOf 37 = .ok (.iload 4, 2) := by decide +kernel
theorem dX1_componentOf_39 : decode cX1_componentOf 39 = .ok (.iconst 2, 1) := by decide +kernel
theorem dX1_componentOf_40 : decode cX1_componentOf 40 = .ok (.invokevirtual 28, 3) := by decide +kernel
theorem dX1_componentOf_43 : decode cX1_componentOf 43 = .ok (.ishl, 1) := by decide +kernel
theorem dX1_componentOf_44 : decode cX1_componentOf 44 = .ok (.ior, 1) := by decide +kernel
theorem dX1_componentOf_45 : decode cX1_componentOf 45 = .ok (.istore 5, 2) := by decide +kernel
theorem dX1_componentOf_47 : decode cX1_componentOf 47 = .ok (.iload_n 2, 1) := by decide +kernel
theorem dX1_componentOf_48 : decode cX1_componentOf 48 = .ok (.iload 5, 2) := by decide +kernel
theorem dX1_componentOf_50 : decode cX1_componentOf 50 = .ok (.iand, 1) := by decide +kernel
theorem dX1_componentOf_51 : decode cX1_componentOf 51 = .ok (.ifCond .eq 8, 3) := by decide +kernel
theorem dX1_componentOf_54 : decode cX1_componentOf 54 = .ok (.iload_n 2, 1) := by decide +kernel
theorem dX1_componentOf_55 : decode cX1_componentOf 55 = .ok (.iload 5, 2) := by decide +kernel
theorem dX1_componentOf_57 : decode cX1_componentOf 57 = .ok (.ior, 1) := by decide +kernel
theorem dX1_componentOf_58 : decode cX1_componentOf 58 = .ok (.istore_n 2, 1) := by decide +kernel
theorem dX1_componentOf_59 : decode cX1_componentOf 59 = .ok (.iinc 4 1, 3) := by decide +kernel
theorem dX1_componentOf_62 : decode cX1_componentOf 62 = .ok (.goto (-45), 3) := by decide +kernel
theorem dX1_componentOf_65 : decode cX1_componentOf 65 = .ok (.iinc 3 1, 3) := by decide +kernel
theorem dX1_componentOf_68 : decode cX1_componentOf 68 = .ok (.goto (-62), 3) := by decide +kernel
theorem dX1_componentOf_71 : decode cX1_componentOf 71 = .ok (.iload_n 2, 1) := by decide +kernel
theorem dX1_componentOf_72 : decode cX1_componentOf 72 = .ok (.ireturn, 1) := by decide +kernel
theorem dX1_signSum_0 : decode cX1_signSum 0 = .ok (.iconst 0, 1) := by decide +kernel
theorem dX1_signSum_1 : decode cX1_signSum 1 = .ok (.istore_n 1, 1) := by decide +kernel
theorem dX1_signSum_2 : decode cX1_signSum 2 = .ok (.iconst 0, 1) := by decide +kernel
theorem dX1_signSum_3 : decode cX1_signSum 3 = .ok (.istore_n 2, 1) := by decide +kernel
theorem dX1_signSum_4 : decode cX1_signSum 4 = .ok (.iload_n 2, 1) := by decide +kernel
theorem dX1_signSum_5 : decode cX1_signSum 5 = .ok (.aload_n 0, 1) := by decide +kernel
theorem dX1_signSum_6 : decode cX1_signSum 6 = .ok (.getfield 15, 3) := by decide +kernel
theorem dX1_signSum_9 : decode cX1_signSum 9 = .ok (.if_icmp .ge 18, 3) := by decide +kernel
theorem dX1_signSum_12 : decode cX1_signSum 12 = .ok (.iload_n 1, 1) := by decide +kernel
theorem dX1_signSum_13 : decode cX1_signSum 13 = .ok (.aload_n 0, 1) := by decide +kernel
theorem dX1_signSum_14 : decode cX1_signSum 14 = .ok (.iload_n 2, 1) := by decide +kernel
theorem dX1_signSum_15 : decode cX1_signSum 15 = .ok (.iconst 3, 1) := by decide +kernel
theorem dX1_signSum_16 : decode cX1_signSum 16 = .ok (.invokevirtual 28, 3) := by decide +kernel
theorem dX1_signSum_19 : decode cX1_signSum 19 = .ok (.iadd, 1) := by decide +kernel
theorem dX1_signSum_20 : decode cX1_signSum 20 = .ok (.istore_n 1, 1) := by decide +kernel
theorem dX1_signSum_21 : decode cX1_signSum 21 = .ok (.iinc 2 1, 3) := by decide +kernel
theorem dX1_signSum_24 : decode cX1_signSum 24 = .ok (.goto (-20), 3) := by decide +kernel
theorem dX1_signSum_27 : decode cX1_signSum 27 = .ok (.iload_n 1, 1) := by decide +kernel
theorem dX1_signSum_28 : decode cX1_signSum 28 = .ok (.ireturn, 1) := by decide +kernel
theorem dX1_linkingSum_0 : decode cX1_linkingSum 0 = .ok (.aload_n 0, 1) := by decide +kernel
theorem dX1_linkingSum_1 : decode cX1_linkingSum 1 = .ok (.iload_n 1, 1) := by decide +kernel
theorem dX1_linkingSum_2 : decode cX1_linkingSum 2 = .ok (.invokevirtual 35, 3) := by decide +kernel
theorem dX1_linkingSum_5 : decode cX1_linkingSum 5 = .ok (.istore_n 3, 1) := by decide +kernel
theorem dX1_linkingSum_6 : decode cX1_linkingSum 6 = .ok (.aload_n 0, 1) := by decide +kernel
theorem dX1_linkingSum_7 : decode cX1_linkingSum 7 = .ok (.iload_n 2, 1) := by decide +kernel
theorem dX1_linkingSum_8 : decode cX1_linkingSum 8 = .ok (.invokevirtual 35, 3) := by decide +kernel
theorem dX1_linkingSum_11 : decode cX1_linkingSum 11 = .ok (.istore 4, 2) := by decide +kernel
theorem dX1_linkingSum_13 : decode cX1_linkingSum 13 = .ok (.iconst 0, 1) := by decide +kernel
theorem dX1_linkingSum_14 : decode cX1_linkingSum 14 = .ok (.istore 5, 2) := by decide +kernel
theorem dX1_linkingSum_16 : decode cX1_linkingSum 16 = .ok (.iconst 0, 1) := by decide +kernel
theorem dX1_linkingSum_17 : decode cX1_linkingSum 17 = .ok (.istore 6, 2) := by decide +kernel
theorem dX1_linkingSum_19 : decode cX1_linkingSum 19 = .ok (.iload 6, 2) := by decide +kernel
theorem dX1_linkingSum_21 : decode cX1_linkingSum 21 = .ok (.aload_n 0, 1) := by decide +kernel
theorem dX1_linkingSum_22 : decode cX1_linkingSum 22 = .ok (.getfield 15, 3) := by decide +kernel
theorem dX1_linkingSum_25 : decode cX1_linkingSum 25 = .ok (.if_icmp .ge 52, 3) := by decide +kernel
theorem dX1_linkingSum_28 : decode cX1_linkingSum 28 = .ok (.iload_n 3, 1) := by decide +kernel
theorem dX1_linkingSum_29 : decode cX1_linkingSum 29 = .ok (.aload_n 0, 1) := by decide +kernel
theorem dX1_linkingSum_30 : decode cX1_linkingSum 30 = .ok (.iload 6, 2) := by decide +kernel
theorem dX1_linkingSum_32 : decode cX1_linkingSum 32 = .ok (.iconst 0, 1) := by decide +kernel
theorem dX1_linkingSum_33 : decode cX1_linkingSum 33 = .ok (.invokevirtual 28, 3) := by decide +kernel
theorem dX1_linkingSum_36 : decode cX1_linkingSum 36 = .ok (.ishr, 1) := by decide +kernel
theorem dX1_linkingSum_37 : decode cX1_linkingSum 37 = .ok (.iconst 1, 1) := by decide +kernel
theorem dX1_linkingSum_38 : decode cX1_linkingSum 38 = .ok (.iand, 1) := by decide +kernel
theorem dX1_linkingSum_39 : decode cX1_linkingSum 39 = .ok (.iconst 1, 1) := by decide +kernel
theorem dX1_linkingSum_40 : decode cX1_linkingSum 40 = .ok (.if_icmp .ne 31, 3) := by decide +kernel
theorem dX1_linkingSum_43 : decode cX1_linkingSum 43 = .ok (.iload 4, 2) := by decide +kernel
theorem dX1_linkingSum_45 : decode cX1_linkingSum 45 = .ok (.aload_n 0, 1) := by decide +kernel
theorem dX1_linkingSum_46 : decode cX1_linkingSum 46 = .ok (.iload 6, 2) := by decide +kernel
theorem dX1_linkingSum_48 : decode cX1_linkingSum 48 = .ok (.iconst 1, 1) := by decide +kernel
theorem dX1_linkingSum_49 : decode cX1_linkingSum 49 = .ok (.invokevirtual 28, 3) := by decide +kernel
theorem dX1_linkingSum_52 : decode cX1_linkingSum 52 = .ok (.ishr, 1) := by decide +kernel
theorem dX1_linkingSum_53 : decode cX1_linkingSum 53 = .ok (.iconst 1, 1) := by decide +kernel
theorem dX1_linkingSum_54 : decode cX1_linkingSum 54 = .ok (.iand, 1) := by decide +kernel
theorem dX1_linkingSum_55 : decode cX1_linkingSum 55 = .ok (.iconst 1, 1) := by decide +kernel
theorem dX1_linkingSum_56 : decode cX1_linkingSum 56 = .ok (.if_icmp .ne 15, 3) := by decide +kernel
theorem dX1_linkingSum_59 : decode cX1_linkingSum 59 = .ok (.iload 5, 2) := by decide +kernel
theorem dX1_linkingSum_61 : decode cX1_linkingSum 61 = .ok (.aload_n 0, 1) := by decide +kernel
theorem dX1_linkingSum_62 : decode cX1_linkingSum 62 = .ok (.iload 6, 2) := by decide +kernel
theorem dX1_linkingSum_64 : decode cX1_linkingSum 64 = .ok (.iconst 3, 1) := by decide +kernel
theorem dX1_linkingSum_65 : decode cX1_linkingSum 65 = .ok (.invokevirtual 28, 3) := by decide +kernel
theorem dX1_linkingSum_68 : decode cX1_linkingSum 68 = .ok (.iadd, 1) := by decide +kernel
theorem dX1_linkingSum_69 : decode cX1_linkingSum 69 = .ok (.istore 5, 2) := by decide +kernel
theorem dX1_linkingSum_71 : decode cX1_linkingSum 71 = .ok (.iinc 6 1, 3) := by decide +kernel
theorem dX1_linkingSum_74 : decode cX1_linkingSum 74 = .ok (.goto (-55), 3) := by decide +kernel
theorem dX1_linkingSum_77 : decode cX1_linkingSum 77 = .ok (.iload 5, 2) := by decide +kernel
theorem dX1_linkingSum_79 : decode cX1_linkingSum 79 = .ok (.ireturn, 1) := by decide +kernel
theorem dX2_init_0 : decode cX2_init 0 = .ok (.aload_n 0, 1) := by decide +kernel
theorem dX2_init_1 : decode cX2_init 1 = .ok (.invokespecial 5, 3) := by decide +kernel
theorem dX2_init_4 : decode cX2_init 4 = .ok (.aload_n 0, 1) := by decide +kernel
theorem dX2_init_5 : decode cX2_init 5 = .ok (.iconst 0, 1) := by decide +kernel
theorem dX2_init_6 : decode cX2_init 6 = .ok (.putfield 11, 3) := by decide +kernel
theorem dX2_init_9 : decode cX2_init 9 = .ok (.aload_n 0, 1) := by decide +kernel
theorem dX2_init_10 : decode cX2_init 10 = .ok (.bipush 70, 2) := by decide +kernel
theorem dX2_init_12 : decode cX2_init 12 = .ok (.newarray .char, 2) := by decide +kernel
theorem dX2_init_14 : decode cX2_init 14 = .ok (.putfield 15, 3) := by decide +kernel
theorem dX2_init_17 : decode cX2_init 17 = .ok (.return_, 1) := by decide +kernel
theorem dX2_append_0 : decode cX2_append 0 = .ok (.aload_n 0, 1) := by decide +kernel
theorem dX2_append_1 : decode cX2_append 1 = .ok (.getfield 15, 3) := by decide +kernel
theorem dX2_append_4 : decode cX2_append 4 = .ok (.aload_n 0, 1) := by decide +kernel
theorem dX2_append_5 : decode cX2_append 5 = .ok (.getfield 11, 3) := by decide +kernel
theorem dX2_append_8 : decode cX2_append 8 = .ok (.iload_n 1, 1) := by decide +kernel
theorem dX2_append_9 : decode cX2_append 9 = .ok (.castore, 1) := by decide +kernel
theorem dX2_append_10 : decode cX2_append 10 = .ok (.aload_n 0, 1) := by decide +kernel
theorem dX2_append_11 : decode cX2_append 11 = .ok (.dup, 1) := by decide +kernel
theorem dX2_append_12 : decode cX2_append 12 = .ok (.getfield 11, 3) := by decide +kernel
theorem dX2_append_15 : decode cX2_append 15 = .ok (.iconst 1, 1) := by decide +kernel
theorem dX2_append_16 : decode cX2_append 16 = .ok (.iadd, 1) := by decide +kernel
theorem dX2_append_17 : decode cX2_append 17 = .ok (.putfield 11, 3) := by decide +kernel
theorem dX2_append_20 : decode cX2_append 20 = .ok (.return_, 1) := by decide +kernel
theorem dX2_clear_0 : decode cX2_clear 0 = .ok (.aload_n 0, 1) := by decide +kernel
theorem dX2_clear_1 : decode cX2_clear 1 = .ok (.iconst 0, 1) := by decide +kernel
theorem dX2_clear_2 : decode cX2_clear 2 = .ok (.putfield 11, 3) := by decide +kernel
theorem dX2_clear_5 : decode cX2_clear 5 = .ok (.return_, 1) := by decide +kernel
theorem dX2_firstError_0 : decode cX2_firstError 0 = .ok (.iconst 0, 1) := by decide +kernel
theorem dX2_firstError_1 : decode cX2_firstError 1 = .ok (.istore_n 1, 1) := by decide +kernel
theorem dX2_firstError_2 : decode cX2_firstError 2 = .ok (.iload_n 1, 1) := by decide +kernel
theorem dX2_firstError_3 : decode cX2_firstError 3 = .ok (.aload_n 0, 1) := by decide +kernel
theorem dX2_firstError_4 : decode cX2_firstError 4 = .ok (.getfield 11, 3) := by decide +kernel
theorem dX2_firstError_7 : decode cX2_firstError 7 = .ok (.if_icmp .ge 19, 3) := by decide +kernel
theorem dX2_firstError_10 : decode cX2_firstError 10 = .ok (.aload_n 0, 1) := by decide +kernel
theorem dX2_firstError_11 : decode cX2_firstError 11 = .ok (.iload_n 1, 1) := by decide +kernel
theorem dX2_firstError_12 : decode cX2_firstError 12 = .ok (.invokevirtual 19, 3) := by decide +kernel
theorem dX2_firstError_15 : decode cX2_firstError 15 = .ok (.ifCond .ne 5, 3) := by decide +kernel
theorem dX2_firstError_18 : decode cX2_firstError 18 = .ok (.iload_n 1, 1) := by decide +kernel
theorem dX2_firstError_19 : decode cX2_firstError 19 = .ok (.ireturn, 1) := by decide +kernel
theorem dX2_firstError_20 : decode cX2_firstError 20 = .ok (.iinc 1 1, 3) := by decide +kernel
theorem dX2_firstError_23 : decode cX2_firstError 23 = .ok (.goto (-21), 3) := by decide +kernel
theorem dX2_firstError_26 : decode cX2_firstError 26 = .ok (.aload_n 0, 1) := by decide +kernel
theorem dX2_firstError_27 : decode cX2_firstError 27 = .ok (.getfield 11, 3) := by decide +kernel
theorem dX2_firstError_30 : decode cX2_firstError 30 = .ok (.bipush 7, 2) := by decide +kernel
theorem dX2_firstError_32 : decode cX2_firstError 32 = .ok (.irem, 1) := by decide +kernel
theorem dX2_firstError_33 : decode cX2_firstError 33 = .ok (.bipush 6, 2) := by decide +kernel
theorem dX2_firstError_35 : decode cX2_firstError 35 = .ok (.if_icmp .ne 8, 3) := by decide +kernel
theorem dX2_firstError_38 : decode cX2_firstError 38 = .ok (.bipush (-6), 2) := by decide +kernel
theorem dX2_firstError_40 : decode cX2_firstError 40 = .ok (.goto 7, 3) := by decide +kernel
theorem dX2_firstError_43 : decode cX2_firstError 43 = .ok (.aload_n 0, 1) := by decide +kernel
theorem dX2_firstError_44 : decode cX2_firstError 44 = .ok (.getfield 11, 3) := by decide +kernel
theorem dX2_firstError_47 : decode cX2_firstError 47 = .ok (.ireturn, 1) := by decide +kernel
theorem dX2_mayStandAt_0 : decode cX2_mayStandAt 0 = .ok (.aload_n 0, 1) := by decide +kernel
theorem dX2_mayStandAt_1 : decode cX2_mayStandAt 1 = .ok (.getfield 15, 3) := by decide +kernel
theorem dX2_mayStandAt_4 : decode cX2_mayStandAt 4 = .ok (.iload_n 1, 1) := by decide +kernel
theorem dX2_mayStandAt_5 : decode cX2_mayStandAt 5 = .ok (.caload, 1) := by decide +kernel
theorem dX2_mayStandAt_6 : decode cX2_mayStandAt 6 = .ok (.istore_n 2, 1) := by decide +kernel
theorem dX2_mayStandAt_7 : decode cX2_mayStandAt 7 = .ok (.iload_n 1, 1) := by decide +kernel
theorem dX2_mayStandAt_8 : decode cX2_mayStandAt 8 = .ok (.bipush 69, 2) := by decide +kernel
theorem dX2_mayStandAt_10 : decode cX2_mayStandAt 10 = .ok (.if_icmp .lt 5, 3) := by decide +kernel
theorem dX2_mayStandAt_13 : decode cX2_mayStandAt 13 = .ok (.iconst 0, 1) := by decide +kernel
theorem dX2_mayStandAt_14 : decode cX2_mayStandAt 14 = .ok (.ireturn, 1) := by decide +kernel
theorem dX2_mayStandAt_15 : decode cX2_mayStandAt 15 = .ok (.iload_n 1, 1) := by decide +kernel
theorem dX2_mayStandAt_16 : decode cX2_mayStandAt 16 = .ok (.bipush 7, 2) := by decide +kernel
theorem dX2_mayStandAt_18 : decode cX2_mayStandAt 18 = .ok (.irem, 1) := by decide +kernel
theorem dX2_mayStandAt_19 : decode cX2_mayStandAt 19 = .ok (.tableswitch 79 1 6 #[37, 79, 37, 79, 49, 67], 37) := by decide +kernel
theorem dX2_mayStandAt_56 : decode cX2_mayStandAt 56 = .ok (.iload_n 2, 1) := by decide +kernel
theorem dX2_mayStandAt_57 : decode cX2_mayStandAt 57 = .ok (.bipush 44, 2) := by decide +kernel
theorem dX2_mayStandAt_59 : decode cX2_mayStandAt 59 = .ok (.if_icmp .ne 7, 3) := by decide +kernel
theorem dX2_mayStandAt_62 : decode cX2_mayStandAt 62 = .ok (.iconst 1, 1) := by decide +kernel
theorem dX2_mayStandAt_63 : decode cX2_mayStandAt 63 = .ok (.goto 4, 3) := by decide +kernel
theorem dX2_mayStandAt_66 : decode cX2_mayStandAt 66 = .ok (.iconst 0, 1) := by decide +kernel
theorem dX2_mayStandAt_67 : decode cX2_mayStandAt 67 = .ok (.ireturn, 1) := by decide +kernel
theorem dX2_mayStandAt_68 : decode cX2_mayStandAt 68 = .ok (.iload_n 2, 1) := by decide +kernel
theorem dX2_mayStandAt_69 : decode cX2_mayStandAt 69 = .ok (.bipush 43, 2) := by decide +kernel
theorem dX2_mayStandAt_71 : decode cX2_mayStandAt 71 = .ok (.if_icmp .eq 9, 3) := by decide +kernel
theorem dX2_mayStandAt_74 : decode cX2_mayStandAt 74 = .ok (.iload_n 2, 1) := by decide +kernel
theorem dX2_mayStandAt_75 : decode cX2_mayStandAt 75 = .ok (.bipush 45, 2) := by decide +kernel
theorem dX2_mayStandAt_77 : decode cX2_mayStandAt 77 = .ok (.if_icmp .ne 7, 3) := by decide +kernel
theorem dX2_mayStandAt_80 : decode cX2_mayStandAt 80 = .ok (.iconst 1, 1) := by decide +kernel
theorem dX2_mayStandAt_81 : decode cX2_mayStandAt 81 = .ok (.goto 4, 3) := by decide +kernel
theorem dX2_mayStandAt_84 : decode cX2_mayStandAt 84 = .ok (.iconst 0, 1) := by decide +kernel
theorem dX2_mayStandAt_85 : decode cX2_mayStandAt 85 = .ok (.ireturn, 1) := by decide +kernel
theorem dX2_mayStandAt_86 : decode cX2_mayStandAt 86 = .ok (.iload_n 2, 1) := by decide +kernel
theorem dX2_mayStandAt_87 : decode cX2_mayStandAt 87 = .ok (.bipush 59, 2) := by decide +kernel
theorem dX2_mayStandAt_89 : decode cX2_mayStandAt 89 = .ok (.if_icmp .ne 7, 3) := by decide +kernel
theorem dX2_mayStandAt_92 : decode cX2_mayStandAt 92 = .ok (.iconst 1, 1) := by decide +kernel
theorem dX2_mayStandAt_93 : decode cX2_mayStandAt 93 = .ok (.goto 4, 3) := by decide +kernel
theorem dX2_mayStandAt_96 : decode cX2_mayStandAt 96 = .ok (.iconst 0, 1) := by decide +kernel
theorem dX2_mayStandAt_97 : decode cX2_mayStandAt 97 = .ok (.ireturn, 1) := by decide +kernel
theorem dX2_mayStandAt_98 : decode cX2_mayStandAt 98 = .ok (.iload_n 2, 1) := by decide +kernel
theorem dX2_mayStandAt_99 : decode cX2_mayStandAt 99 = .ok (.bipush 48, 2) := by decide +kernel
theorem dX2_mayStandAt_101 : decode cX2_mayStandAt 101 = .ok (.if_icmp .lt 13, 3) := by decide +kernel
theorem dX2_mayStandAt_104 : decode cX2_mayStandAt 104 = .ok (.iload_n 2, 1) := by decide +kernel
theorem dX2_mayStandAt_105 : decode cX2_mayStandAt 105 = .ok (.bipush 55, 2) := by decide +kernel
theorem dX2_mayStandAt_107 : decode cX2_mayStandAt 107 = .ok (.if_icmp .ge 7, 3) := by decide +kernel
theorem dX2_mayStandAt_110 : decode cX2_mayStandAt 110 = .ok (.iconst 1, 1) := by decide +kernel
theorem dX2_mayStandAt_111 : decode cX2_mayStandAt 111 = .ok (.goto 4, 3) := by decide +kernel
theorem dX2_mayStandAt_114 : decode cX2_mayStandAt 114 = .ok (.iconst 0, 1) := by decide +kernel
theorem dX2_mayStandAt_115 : decode cX2_mayStandAt 115 = .ok (.ireturn, 1) := by decide +kernel
theorem dX2_drawInto_0 : decode cX2_drawInto 0 = .ok (.iconst 0, 1) := by decide +kernel
theorem dX2_drawInto_1 : decode cX2_drawInto 1 = .ok (.istore_n 2, 1) := by decide +kernel
theorem dX2_drawInto_2 : decode cX2_drawInto 2 = .ok (.iconst 0, 1) := by decide +kernel
theorem dX2_drawInto_3 : decode cX2_drawInto 3 = .ok (.istore_n 3, 1) := by decide +kernel
theorem dX2_drawInto_4 : decode cX2_drawInto 4 = .ok (.iload_n 3, 1) := by decide +kernel
theorem dX2_drawInto_5 : decode cX2_drawInto 5 = .ok (.aload_n 0, 1) := by decide +kernel
theorem dX2_drawInto_6 : decode cX2_drawInto 6 = .ok (.getfield 11, 3) := by decide +kernel
theorem dX2_drawInto_9 : decode cX2_drawInto 9 = .ok (.if_icmp .ge 43, 3) := by decide +kernel
theorem dX2_drawInto_12 : decode cX2_drawInto 12 = .ok (.iload_n 2, 1) := by decide +kernel
theorem dX2_drawInto_13 : decode cX2_drawInto 13 = .ok (.aload_n 0, 1) := by decide +kernel
theorem dX2_drawInto_14 : decode cX2_drawInto 14 = .ok (.iload_n 3, 1) := by decide +kernel
theorem dX2_drawInto_15 : decode cX2_drawInto 15 = .ok (.invokevirtual 23, 3) := by decide +kernel
theorem dX2_drawInto_18 : decode cX2_drawInto 18 = .ok (.invokestatic 27, 3) := by decide +kernel
theorem dX2_drawInto_21 : decode cX2_drawInto 21 = .ok (.istore_n 2, 1) := by decide +kernel
theorem dX2_drawInto_22 : decode cX2_drawInto 22 = .ok (.iload_n 2, 1) := by decide +kernel
theorem dX2_drawInto_23 : decode cX2_drawInto 23 = .ok (.aload_n 0, 1) := by decide +kernel
theorem dX2_drawInto_24 : decode cX2_drawInto 24 = .ok (.iload_n 3, 1) := by decide +kernel
theorem dX2_drawInto_25 : decode cX2_drawInto 25 = .ok (.iconst 2, 1) := by decide +kernel
theorem dX2_drawInto_26 : decode cX2_drawInto 26 = .ok (.iadd, 1) := by decide +kernel
theorem dX2_drawInto_27 : decode cX2_drawInto 27 = .ok (.invokevirtual 23, 3) := by decide +kernel
theorem dX2_drawInto_30 : decode cX2_drawInto 30 = .ok (.invokestatic 27, 3) := by decide +kernel
theorem dX2_drawInto_33 : decode cX2_drawInto 33 = .ok (.istore_n 2, 1) := by decide +kernel
theorem dX2_drawInto_34 : decode cX2_drawInto 34 = .ok (.iload_n 2, 1) := by decide +kernel
theorem dX2_drawInto_35 : decode cX2_drawInto 35 = .ok (.aload_n 0, 1) := by decide +kernel
theorem dX2_drawInto_36 : decode cX2_drawInto 36 = .ok (.iload_n 3, 1) := by decide +kernel
theorem dX2_drawInto_37 : decode cX2_drawInto 37 = .ok (.iconst 4, 1) := by decide +kernel
theorem dX2_drawInto_38 : decode cX2_drawInto 38 = .ok (.iadd, 1) := by decide +kernel
theorem dX2_drawInto_39 : decode cX2_drawInto 39 = .ok (.invokevirtual 23, 3) := by decide +kernel
theorem dX2_drawInto_42 : decode cX2_drawInto 42 = .ok (.invokestatic 27, 3) := by decide +kernel
theorem dX2_drawInto_45 : decode cX2_drawInto 45 = .ok (.istore_n 2, 1) := by decide +kernel
theorem dX2_drawInto_46 : decode cX2_drawInto 46 = .ok (.iinc 3 7, 3) := by decide +kernel
theorem dX2_drawInto_49 : decode cX2_drawInto 49 = .ok (.goto (-45), 3) := by decide +kernel
theorem dX2_drawInto_52 : decode cX2_drawInto 52 = .ok (.aload_n 1, 1) := by decide +kernel
theorem dX2_drawInto_53 : decode cX2_drawInto 53 = .ok (.iload_n 2, 1) := by decide +kernel
theorem dX2_drawInto_54 : decode cX2_drawInto 54 = .ok (.iconst 1, 1) := by decide +kernel
theorem dX2_drawInto_55 : decode cX2_drawInto 55 = .ok (.iadd, 1) := by decide +kernel
theorem dX2_drawInto_56 : decode cX2_drawInto 56 = .ok (.invokevirtual 33, 3) := by decide +kernel
theorem dX2_drawInto_59 : decode cX2_drawInto 59 = .ok (.iconst 0, 1) := by decide +kernel
theorem dX2_drawInto_60 : decode cX2_drawInto 60 = .ok (.istore_n 3, 1) := by decide +kernel
theorem dX2_drawInto_61 : decode cX2_drawInto 61 = .ok (.iload_n 3, 1) := by decide +kernel
theorem dX2_drawInto_62 : decode cX2_drawInto 62 = .ok (.aload_n 0, 1) := by decide +kernel
theorem dX2_drawInto_63 : decode cX2_drawInto 63 = .ok (.getfield 11, 3) := by decide +kernel
theorem dX2_drawInto_66 : decode cX2_drawInto 66 = .ok (.if_icmp .ge 54, 3) := by decide +kernel
theorem dX2_drawInto_69 : decode cX2_drawInto 69 = .ok (.aload_n 0, 1) := by decide +kernel
theorem dX2_drawInto_70 : decode cX2_drawInto 70 = .ok (.getfield 15, 3) := by decide +kernel
theorem dX2_drawInto_73 : decode cX2_drawInto 73 = .ok (.iload_n 3, 1) := by decide +kernel
theorem dX2_drawInto_74 : decode cX2_drawInto 74 = .ok (.iconst 5, 1) := by decide +kernel
theorem dX2_drawInto_75 : decode cX2_drawInto 75 = .ok (.iadd, 1) := by decide +kernel
theorem dX2_drawInto_76 : decode cX2_drawInto 76 = .ok (.caload, 1) := by decide +kernel
theorem dX2_drawInto_77 : decode cX2_drawInto 77 = .ok (.bipush 43, 2) := by decide +kernel
theorem dX2_drawInto_79 : decode cX2_drawInto 79 = .ok (.if_icmp .ne 7, 3) := by decide +kernel
theorem dX2_drawInto_82 : decode cX2_drawInto 82 = .ok (.iconst 1, 1) := by decide +kernel
theorem dX2_drawInto_83 : decode cX2_drawInto 83 = .ok (.goto 4, 3) := by decide +kernel
theorem dX2_drawInto_86 : decode cX2_drawInto 86 = .ok (.iconst (-1), 1) := by decide +kernel
theorem dX2_drawInto_87 : decode cX2_drawInto 87 = .ok (.istore 4, 2) := by decide +kernel
theorem dX2_drawInto_89 : decode cX2_drawInto 89 = .ok (.aload_n 1, 1) := by decide +kernel
theorem dX2_drawInto_90 : decode cX2_drawInto 90 = .ok (.aload_n 0, 1) := by decide +kernel
theorem dX2_drawInto_91 : decode cX2_drawInto 91 = .ok (.iload_n 3, 1) := by decide +kernel
theorem dX2_drawInto_92 : decode cX2_drawInto 92 = .ok (.invokevirtual 23, 3) := by decide +kernel
theorem dX2_drawInto_95 : decode cX2_drawInto 95 = .ok (.aload_n 0, 1) := by decide +kernel
theorem dX2_drawInto_96 : decode cX2_drawInto 96 = .ok (.iload_n 3, 1) := by decide +kernel
theorem dX2_drawInto_97 : decode cX2_drawInto 97 = .ok (.iconst 2, 1) := by decide +kernel
theorem dX2_drawInto_98 : decode cX2_drawInto 98 = .ok (.iadd, 1) := by decide +kernel
theorem dX2_drawInto_99 : decode cX2_drawInto 99 = .ok (.invokevirtual 23, 3) := by decide +kernel
theorem dX2_drawInto_102 : decode cX2_drawInto 102 = .ok (.aload_n 0, 1) := by decide +kernel
theorem dX2_drawInto_103 : decode cX2_drawInto 103 = .ok (.iload_n 3, 1) := by decide +kernel
theorem dX2_drawInto_104 : decode cX2_drawInto 104 = .ok (.iconst 4, 1) := by decide +kernel
theorem dX2_drawInto_105 : decode cX2_drawInto 105 = .ok (.iadd, 1) := by decide +kernel
theorem dX2_drawInto_106 : decode cX2_drawInto 106 = .ok (.invokevirtual 23, 3) := by decide +kernel
theorem dX2_drawInto_109 : decode cX2_drawInto 109 = .ok (.iload 4, 2) := by decide +kernel
theorem dX2_drawInto_111 : decode cX2_drawInto 111 = .ok (.invokevirtual 39, 3) := by decide +kernel
theorem dX2_drawInto_114 : decode cX2_drawInto 114 = .ok (.iinc 3 7, 3) := by decide +kernel
theorem dX2_drawInto_117 : decode cX2_drawInto 117 = .ok (.goto (-56), 3) := by decide +kernel
theorem dX2_drawInto_120 : decode cX2_drawInto 120 = .ok (.return_, 1) := by decide +kernel
theorem dX2_arcAt_0 : decode cX2_arcAt 0 = .ok (.aload_n 0, 1) := by decide +kernel
theorem dX2_arcAt_1 : decode cX2_arcAt 1 = .ok (.getfield 15, 3) := by decide +kernel
theorem dX2_arcAt_4 : decode cX2_arcAt 4 = .ok (.iload_n 1, 1) := by decide +kernel
theorem dX2_arcAt_5 : decode cX2_arcAt 5 = .ok (.caload, 1) := by decide +kernel
theorem dX2_arcAt_6 : decode cX2_arcAt 6 = .ok (.bipush 48, 2) := by decide +kernel
theorem dX2_arcAt_8 : decode cX2_arcAt 8 = .ok (.isub, 1) := by decide +kernel
theorem dX2_arcAt_9 : decode cX2_arcAt 9 = .ok (.ireturn, 1) := by decide +kernel
theorem dX3_init_0 : decode cX3_init 0 = .ok (.aload_n 0, 1) := by decide +kernel
theorem dX3_init_1 : decode cX3_init 1 = .ok (.invokespecial 3, 3) := by decide +kernel
theorem dX3_init_4 : decode cX3_init 4 = .ok (.aload_n 0, 1) := by decide +kernel
theorem dX3_init_5 : decode cX3_init 5 = .ok (.iconst 0, 1) := by decide +kernel
theorem dX3_init_6 : decode cX3_init 6 = .ok (.putfield 9, 3) := by decide +kernel
theorem dX3_init_9 : decode cX3_init 9 = .ok (.aload_n 0, 1) := by decide +kernel
theorem dX3_init_10 : decode cX3_init 10 = .ok (.iconst 0, 1) := by decide +kernel
theorem dX3_init_11 : decode cX3_init 11 = .ok (.putfield 15, 3) := by decide +kernel
theorem dX3_init_14 : decode cX3_init 14 = .ok (.aload_n 0, 1) := by decide +kernel
theorem dX3_init_15 : decode cX3_init 15 = .ok (.bipush 6, 2) := by decide +kernel
theorem dX3_init_17 : decode cX3_init 17 = .ok (.anewarray 18, 3) := by decide +kernel
theorem dX3_init_20 : decode cX3_init 20 = .ok (.putfield 20, 3) := by decide +kernel
theorem dX3_init_23 : decode cX3_init 23 = .ok (.aload_n 0, 1) := by decide +kernel
theorem dX3_init_24 : decode cX3_init 24 = .ok (.bipush 6, 2) := by decide +kernel
theorem dX3_init_26 : decode cX3_init 26 = .ok (.anewarray 24, 3) := by decide +kernel
theorem dX3_init_29 : decode cX3_init 29 = .ok (.putfield 26, 3) := by decide +kernel
theorem dX3_init_32 : decode cX3_init 32 = .ok (.iconst 0, 1) := by decide +kernel
theorem dX3_init_33 : decode cX3_init 33 = .ok (.istore_n 1, 1) := by decide +kernel
theorem dX3_init_34 : decode cX3_init 34 = .ok (.iload_n 1, 1) := by decide +kernel
theorem dX3_init_35 : decode cX3_init 35 = .ok (.bipush 6, 2) := by decide +kernel
theorem dX3_init_37 : decode cX3_init 37 = .ok (.if_icmp .ge 35, 3) := by decide +kernel
theorem dX3_init_40 : decode cX3_init 40 = .ok (.aload_n 0, 1) := by decide +kernel
theorem dX3_init_41 : decode cX3_init 41 = .ok (.getfield 20, 3) := by decide +kernel
theorem dX3_init_44 : decode cX3_init 44 = .ok (.iload_n 1, 1) := by decide +kernel
theorem dX3_init_45 : decode cX3_init 45 = .ok (.new 18, 3) := by decide +kernel
theorem dX3_init_48 : decode cX3_init 48 = .ok (.dup, 1) := by decide +kernel
theorem dX3_init_49 : decode cX3_init 49 = .ok (.invokespecial 30, 3) := by decide +kernel
theorem dX3_init_52 : decode cX3_init 52 = .ok (.aastore, 1) := by decide +kernel
theorem dX3_init_53 : decode cX3_init 53 = .ok (.aload_n 0, 1) := by decide +kernel
theorem dX3_init_54 : decode cX3_init 54 = .ok (.getfield 26, 3) := by decide +kernel
theorem dX3_init_57 : decode cX3_init 57 = .ok (.iload_n 1, 1) := by decide +kernel
theorem dX3_init_58 : decode cX3_init 58 = .ok (.new 24, 3) := by decide +kernel
theorem dX3_init_61 : decode cX3_init 61 = .ok (.dup, 1) := by decide +kernel
theorem dX3_init_62 : decode cX3_init 62 = .ok (.invokespecial 31, 3) := by decide +kernel
theorem dX3_init_65 : decode cX3_init 65 = .ok (.aastore, 1) := by decide +kernel
theorem dX3_init_66 : decode cX3_init 66 = .ok (.iinc 1 1, 3) := by decide +kernel
theorem dX3_init_69 : decode cX3_init 69 = .ok (.goto (-35), 3) := by decide +kernel
theorem dX3_init_72 : decode cX3_init 72 = .ok (.return_, 1) := by decide +kernel
theorem dX3_save_0 : decode cX3_save 0 = .ok (.aload_n 0, 1) := by decide +kernel
theorem dX3_save_1 : decode cX3_save 1 = .ok (.getfield 20, 3) := by decide +kernel
theorem dX3_save_4 : decode cX3_save 4 = .ok (.aload_n 0, 1) := by decide +kernel
theorem dX3_save_5 : decode cX3_save 5 = .ok (.getfield 15, 3) := by decide +kernel
theorem dX3_save_8 : decode cX3_save 8 = .ok (.aaload, 1) := by decide +kernel
theorem dX3_save_9 : decode cX3_save 9 = .ok (.aload_n 1, 1) := by decide +kernel
theorem dX3_save_10 : decode cX3_save 10 = .ok (.invokevirtual 32, 3) := by decide +kernel
theorem dX3_save_13 : decode cX3_save 13 = .ok (.aload_n 0, 1) := by decide +kernel
theorem dX3_save_14 : decode cX3_save 14 = .ok (.getfield 26, 3) := by decide +kernel
theorem dX3_save_17 : decode cX3_save 17 = .ok (.aload_n 0, 1) := by decide +kernel
theorem dX3_save_18 : decode cX3_save 18 = .ok (.getfield 15, 3) := by decide +kernel
theorem dX3_save_21 : decode cX3_save 21 = .ok (.aaload, 1) := by decide +kernel
theorem dX3_save_22 : decode cX3_save 22 = .ok (.aload_n 2, 1) := by decide +kernel
theorem dX3_save_23 : decode cX3_save 23 = .ok (.invokevirtual 36, 3) := by decide +kernel
theorem dX3_save_26 : decode cX3_save 26 = .ok (.aload_n 0, 1) := by decide +kernel
theorem dX3_save_27 : decode cX3_save 27 = .ok (.aload_n 0, 1) := by decide +kernel
theorem dX3_save_28 : decode cX3_save 28 = .ok (.getfield 15, 3) := by decide +kernel
theorem dX3_save_31 : decode cX3_save 31 = .ok (.iconst 1, 1) := by decide +kernel
theorem dX3_save_32 : decode cX3_save 32 = .ok (.iadd, 1) := by decide +kernel
theorem dX3_save_33 : decode cX3_save 33 = .ok (.bipush 6, 2) := by decide +kernel
theorem dX3_save_35 : decode cX3_save 35 = .ok (.irem, 1) := by decide +kernel
theorem dX3_save_36 : decode cX3_save 36 = .ok (.putfield 15, 3) := by decide +kernel
theorem dX3_save_39 : decode cX3_save 39 = .ok (.aload_n 0, 1) := by decide +kernel
theorem dX3_save_40 : decode cX3_save 40 = .ok (.aload_n 0, 1) := by decide +kernel
theorem dX3_save_41 : decode cX3_save 41 = .ok (.getfield 9, 3) := by decide +kernel
theorem dX3_save_44 : decode cX3_save 44 = .ok (.iconst 1, 1) := by decide +kernel
theorem dX3_save_45 : decode cX3_save 45 = .ok (.iadd, 1) := by decide +kernel
theorem dX3_save_46 : decode cX3_save 46 = .ok (.bipush 6, 2) := by decide +kernel
theorem dX3_save_48 : decode cX3_save 48 = .ok (.invokestatic 39, 3) := by decide +kernel
theorem dX3_save_51 : decode cX3_save 51 = .ok (.putfield 9, 3) := by decide +kernel
theorem dX3_save_54 : decode cX3_save 54 = .ok (.return_, 1) := by decide +kernel
theorem dX3_restore_0 : decode cX3_restore 0 = .ok (.aload_n 0, 1) := by decide +kernel
theorem dX3_restore_1 : decode cX3_restore 1 = .ok (.aload_n 0, 1) := by decide +kernel
theorem dX3_restore_2 : decode cX3_restore 2 = .ok (.getfield 15, 3) := by decide +kernel
theorem dX3_restore_5 : decode cX3_restore 5 = .ok (.bipush 6, 2) := by decide +kernel
theorem dX3_restore_7 : decode cX3_restore 7 = .ok (.iadd, 1) := by decide +kernel
theorem dX3_restore_8 : decode cX3_restore 8 = .ok (.iconst 1, 1) := by decide +kernel
theorem dX3_restore_9 : decode cX3_restore 9 = .ok (.isub, 1) := by decide +kernel
theorem dX3_restore_10 : decode cX3_restore 10 = .ok (.bipush 6, 2) := by decide +kernel
theorem dX3_restore_12 : decode cX3_restore 12 = .ok (.irem, 1) := by decide +kernel
theorem dX3_restore_13 : decode cX3_restore 13 = .ok (.putfield 15, 3) := by decide +kernel
theorem dX3_restore_16 : decode cX3_restore 16 = .ok (.aload_n 0, 1) := by decide +kernel
theorem dX3_restore_17 : decode cX3_restore 17 = .ok (.dup, 1) := by decide +kernel
theorem dX3_restore_18 : decode cX3_restore 18 = .ok (.getfield 9, 3) := by decide +kernel
theorem dX3_restore_21 : decode cX3_restore 21 = .ok (.iconst 1, 1) := by decide +kernel
theorem dX3_restore_22 : decode cX3_restore 22 = .ok (.isub, 1) := by decide +kernel
theorem dX3_restore_23 : decode cX3_restore 23 = .ok (.putfield 9, 3) := by decide +kernel
theorem dX3_restore_26 : decode cX3_restore 26 = .ok (.aload_n 1, 1) := by decide +kernel
theorem dX3_restore_27 : decode cX3_restore 27 = .ok (.aload_n 0, 1) := by decide +kernel
theorem dX3_restore_28 : decode cX3_restore 28 = .ok (.getfield 20, 3) := by decide +kernel
theorem dX3_restore_31 : decode cX3_restore 31 = .ok (.aload_n 0, 1) := by decide +kernel
theorem dX3_restore_32 : decode cX3_restore 32 = .ok (.getfield 15, 3) := by decide +kernel
theorem dX3_restore_35 : decode cX3_restore 35 = .ok (.aaload, 1) := by decide +kernel
theorem dX3_restore_36 : decode cX3_restore 36 = .ok (.invokevirtual 32, 3) := by decide +kernel
theorem dX3_restore_39 : decode cX3_restore 39 = .ok (.aload_n 2, 1) := by decide +kernel
theorem dX3_restore_40 : decode cX3_restore 40 = .ok (.aload_n 0, 1) := by decide +kernel
theorem dX3_restore_41 : decode cX3_restore 41 = .ok (.getfield 26, 3) := by decide +kernel
theorem dX3_restore_44 : decode cX3_restore 44 = .ok (.aload_n 0, 1) := by decide +kernel
theorem dX3_restore_45 : decode cX3_restore 45 = .ok (.getfield 15, 3) := by decide +kernel
theorem dX3_restore_48 : decode cX3_restore 48 = .ok (.aaload, 1) := by decide +kernel
theorem dX3_restore_49 : decode cX3_restore 49 = .ok (.invokevirtual 36, 3) := by decide +kernel
theorem dX3_restore_52 : decode cX3_restore 52 = .ok (.return_, 1) := by decide +kernel
theorem dX4_init_0 : decode cX4_init 0 = .ok (.aload_n 0, 1) := by decide +kernel
theorem dX4_init_1 : decode cX4_init 1 = .ok (.invokespecial 3, 3) := by decide +kernel
theorem dX4_init_4 : decode cX4_init 4 = .ok (.aload_n 0, 1) := by decide +kernel
theorem dX4_init_5 : decode cX4_init 5 = .ok (.bipush 6, 2) := by decide +kernel
theorem dX4_init_7 : decode cX4_init 7 = .ok (.newarray .int, 2) := by decide +kernel
theorem dX4_init_9 : decode cX4_init 9 = .ok (.putfield 9, 3) := by decide +kernel
theorem dX4_init_12 : decode cX4_init 12 = .ok (.aload_n 0, 1) := by decide +kernel
theorem dX4_init_13 : decode cX4_init 13 = .ok (.bipush 6, 2) := by decide +kernel
theorem dX4_init_15 : decode cX4_init 15 = .ok (.newarray .int, 2) := by decide +kernel
theorem dX4_init_17 : decode cX4_init 17 = .ok (.putfield 15, 3) := by decide +kernel
theorem dX4_init_20 : decode cX4_init 20 = .ok (.aload_n 0, 1) := by decide +kernel
theorem dX4_init_21 : decode cX4_init 21 = .ok (.sipush 720, 3) := by decide +kernel
theorem dX4_init_24 : decode cX4_init 24 = .ok (.newarray .int, 2) := by decide +kernel
theorem dX4_init_26 : decode cX4_init 26 = .ok (.putfield 18, 3) := by decide +kernel
theorem dX4_init_29 : decode cX4_init 29 = .ok (.aload_n 0, 1) := by decide +kernel
theorem dX4_init_30 : decode cX4_init 30 = .ok (.sipush 720, 3) := by decide +kernel
theorem dX4_init_33 : decode cX4_init 33 = .ok (.newarray .boolean, 2) := by decide +kernel
theorem dX4_init_35 : decode cX4_init 35 = .ok (.putfield 21, 3) := by decide +kernel
theorem dX4_init_38 : decode cX4_init 38 = .ok (.return_, 1) := by decide +kernel
theorem dX4_countCompositions_0 : decode cX4_countCompositions 0 = .ok (.aload_n 0, 1) := by decide +kernel
theorem dX4_countCompositions_1 : decode cX4_countCompositions 1 = .ok (.invokevirtual 25, 3) := by decide +kernel
theorem dX4_countCompositions_4 : decode cX4_countCompositions 4 = .ok (.iconst 1, 1) := by decide +kernel
theorem dX4_countCompositions_5 : decode cX4_countCompositions 5 = .ok (.istore_n 2, 1) := by decide +kernel
theorem dX4_countCompositions_6 : decode cX4_countCompositions 6 = .ok (.iconst 0, 1) := by decide +kernel
theorem dX4_countCompositions_7 : decode cX4_countCompositions 7 = .ok (.istore_n 3, 1) := by decide +kernel
theorem dX4_countCompositions_8 : decode cX4_countCompositions 8 = .ok (.iload_n 3, 1) := by decide +kernel
theorem dX4_countCompositions_9 : decode cX4_countCompositions 9 = .ok (.iload_n 2, 1) := by decide +kernel
theorem dX4_countCompositions_10 : decode cX4_countCompositions 10 = .ok (.if_icmp .ge 86, 3) := by decide +kernel
theorem dX4_countCompositions_13 : decode cX4_countCompositions 13 = .ok (.aload_n 0, 1) := by decide +kernel
theorem dX4_countCompositions_14 : decode cX4_countCompositions 14 = .ok (.aload_n 0, 1) := by decide +kernel
theorem dX4_countCompositions_15 : decode cX4_countCompositions 15 = .ok (.getfield 18, 3) := by decide +kernel
theorem dX4_countCompositions_18 : decode cX4_countCompositions 18 = .ok (.iload_n 3, 1) := by decide +kernel
theorem dX4_countCompositions_19 : decode cX4_countCompositions 19 = .ok (.iaload, 1) := by decide +kernel
theorem dX4_countCompositions_20 : decode cX4_countCompositions 20 = .ok (.aload_n 1, 1) := by decide +kernel
theorem dX4_countCompositions_21 : decode cX4_countCompositions 21 = .ok (.getfield 28, 3) := by decide +kernel
theorem dX4_countCompositions_24 : decode cX4_countCompositions 24 = .ok (.invokevirtual 34, 3) := by decide +kernel
theorem dX4_countCompositions_27 : decode cX4_countCompositions 27 = .ok (.iconst 0, 1) := by decide +kernel
theorem dX4_countCompositions_28 : decode cX4_countCompositions 28 = .ok (.istore 4, 2) := by decide +kernel
theorem dX4_countCompositions_30 : decode cX4_countCompositions 30 = .ok (.iload 4, 2) := by decide +kernel
theorem dX4_countCompositions_32 : decode cX4_countCompositions 32 = .ok (.aload_n 1, 1) := by decide +kernel
theorem dX4_countCompositions_33 : decode cX4_countCompositions 33 = .ok (.getfield 28, 3) := by decide +kernel
theorem dX4_countCompositions_36 : decode cX4_countCompositions 36 = .ok (.if_icmp .ge 54, 3) := by decide +kernel
theorem dX4_countCompositions_39 : decode cX4_countCompositions 39 = .ok (.aload_n 0, 1) := by decide +kernel
theorem dX4_countCompositions_40 : decode cX4_countCompositions 40 = .ok (.aload_n 1, 1) := by decide +kernel
theorem dX4_countCompositions_41 : decode cX4_countCompositions 41 = .ok (.iload 4, 2) := by decide +kernel
theorem dX4_countCompositions_43 : decode cX4_countCompositions 43 = .ok (.invokevirtual 38, 3) := by decide +kernel
theorem dX4_countCompositions_46 : decode cX4_countCompositions 46 = .ok (.istore 5, 2) := by decide +kernel
theorem dX4_countCompositions_48 : decode cX4_countCompositions 48 = .ok (.aload_n 0, 1) := by decide +kernel
theorem dX4_countCompositions_49 : decode cX4_countCompositions 49 = .ok (.getfield 21, 3) := by decide +kernel
theorem dX4_countCompositions_52 : decode cX4_countCompositions 52 = .ok (.iload 5, 2) := by decide +kernel
theorem dX4_countCompositions_54 : decode cX4_countCompositions 54 = .ok (.baload, 1) := by decide +kernel
theorem dX4_countCompositions_55 : decode cX4_countCompositions 55 = .ok (.ifCond .ne 29, 3) := by decide +kernel
theorem dX4_countCompositions_58 : decode cX4_countCompositions 58 = .ok (.iload_n 2, 1) := by decide +kernel
theorem dX4_countCompositions_59 : decode cX4_countCompositions 59 = .ok (.sipush 720, 3) := by decide +kernel
theorem dX4_countCompositions_62 : decode cX4_countCompositions 62 = .ok (.if_icmp .ge 22, 3) := by decide +kernel
theorem dX4_countCompositions_65 : decode cX4_countCompositions 65 = .ok (.aload_n 0, 1) := by decide +kernel
theorem dX4_countCompositions_66 : decode cX4_countCompositions 66 = .ok (.getfield 21, 3) := by decide +kernel
theorem dX4_countCompositions_69 : decode cX4_countCompositions 69 = .ok (.iload 5, 2) := by decide +kernel
theorem dX4_countCompositions_71 : decode cX4_countCompositions 71 = .ok (.iconst 1, 1) := by decide +kernel
theorem dX4_countCompositions_72 : decode cX4_countCompositions 72 = .ok (.bastore, 1) := by decide +kernel
theorem dX4_countCompositions_73 : decode cX4_countCompositions 73 = .ok (.aload_n 0, 1) := by decide +kernel
theorem dX4_countCompositions_74 : decode cX4_countCompositions 74 = .ok (.getfield 18, 3) := by decide +kernel
theorem dX4_countCompositions_77 : decode cX4_countCompositions 77 = .ok (.iload_n 2, 1) := by decide +kernel
theorem dX4_countCompositions_78 : decode cX4_countCompositions 78 = .ok (.iload 5, 2) := by decide +kernel
theorem dX4_countCompositions_80 : decode cX4_countCompositions 80 = .ok (.iastore, 1) := by decide +kernel
theorem dX4_countCompositions_81 : decode cX4_countCompositions 81 = .ok (.iinc 2 1, 3) := by decide +kernel
theorem dX4_countCompositions_84 : decode cX4_countCompositions 84 = .ok (.iinc 4 1, 3) := by decide +kernel
theorem dX4_countCompositions_87 : decode cX4_countCompositions 87 = .ok (.goto (-57), 3) := by decide +kernel
theorem dX4_countCompositions_90 : decode cX4_countCompositions 90 = .ok (.iinc 3 1, 3) := by decide +kernel
theorem dX4_countCompositions_93 : decode cX4_countCompositions 93 = .ok (.goto (-85), 3) := by decide +kernel
theorem dX4_countCompositions_96 : decode cX4_countCompositions 96 = .ok (.iload_n 2, 1) := by decide +kernel
theorem dX4_countCompositions_97 : decode cX4_countCompositions 97 = .ok (.ireturn, 1) := by decide +kernel
theorem dX4_startAtIdentity_0 : decode cX4_startAtIdentity 0 = .ok (.iconst 0, 1) := by decide +kernel
theorem dX4_startAtIdentity_1 : decode cX4_startAtIdentity 1 = .ok (.istore_n 1, 1) := by decide +kernel
theorem dX4_startAtIdentity_2 : decode cX4_startAtIdentity 2 = .ok (.iload_n 1, 1) := by decide +kernel
theorem dX4_startAtIdentity_3 : decode cX4_startAtIdentity 3 = .ok (.sipush 720, 3) := by decide +kernel
theorem dX4_startAtIdentity_6 : decode cX4_startAtIdentity 6 = .ok (.if_icmp .ge 16, 3) := by decide +kernel
theorem dX4_startAtIdentity_9 : decode cX4_startAtIdentity 9 = .ok (.aload_n 0, 1) := by decide +kernel
theorem dX4_startAtIdentity_10 : decode cX4_startAtIdentity 10 = .ok (.getfield 21, 3) := by decide +kernel
theorem dX4_startAtIdentity_13 : decode cX4_startAtIdentity 13 = .ok (.iload_n 1, 1) := by decide +kernel
theorem dX4_startAtIdentity_14 : decode cX4_startAtIdentity 14 = .ok (.iconst 0, 1) := by decide +kernel
theorem dX4_startAtIdentity_15 : decode cX4_startAtIdentity 15 = .ok (.bastore, 1) := by decide +kernel
theorem dX4_startAtIdentity_16 : decode cX4_startAtIdentity 16 = .ok (.iinc 1 1, 3) := by decide +kernel
theorem dX4_startAtIdentity_19 : decode cX4_startAtIdentity 19 = .ok (.goto (-17), 3) := by decide +kernel
theorem dX4_startAtIdentity_22 : decode cX4_startAtIdentity 22 = .ok (.aload_n 0, 1) := by decide +kernel
theorem dX4_startAtIdentity_23 : decode cX4_startAtIdentity 23 = .ok (.getfield 21, 3) := by decide +kernel
theorem dX4_startAtIdentity_26 : decode cX4_startAtIdentity 26 = .ok (.iconst 0, 1) := by decide +kernel
theorem dX4_startAtIdentity_27 : decode cX4_startAtIdentity 27 = .ok (.iconst 1, 1) := by decide +kernel
theorem dX4_startAtIdentity_28 : decode cX4_startAtIdentity 28 = .ok (.bastore, 1) := by decide +kernel
theorem dX4_startAtIdentity_29 : decode cX4_startAtIdentity 29 = .ok (.aload_n 0, 1) := by decide +kernel
theorem dX4_startAtIdentity_30 : decode cX4_startAtIdentity 30 = .ok (.getfield 18, 3) := by decide +kernel
theorem dX4_startAtIdentity_33 : decode cX4_startAtIdentity 33 = .ok (.iconst 0, 1) := by decide +kernel
theorem dX4_startAtIdentity_34 : decode cX4_startAtIdentity 34 = .ok (.iconst 0, 1) := by decide +kernel
theorem dX4_startAtIdentity_35 : decode cX4_startAtIdentity 35 = .ok (.iastore, 1) := by decide +kernel
theorem dX4_startAtIdentity_36 : decode cX4_startAtIdentity 36 = .ok (.return_, 1) := by decide +kernel
theorem dX4_rankBehind_0 : decode cX4_rankBehind 0 = .ok (.iconst 0, 1) := by decide +kernel
theorem dX4_rankBehind_1 : decode cX4_rankBehind 1 = .ok (.istore_n 3, 1) := by decide +kernel
theorem dX4_rankBehind_2 : decode cX4_rankBehind 2 = .ok (.iload_n 3, 1) := by decide +kernel
theorem dX4_rankBehind_3 : decode cX4_rankBehind 3 = .ok (.aload_n 1, 1) := by decide +kernel
theorem dX4_rankBehind_4 : decode cX4_rankBehind 4 = .ok (.getfield 28, 3) := by decide +kernel
theorem dX4_rankBehind_7 : decode cX4_rankBehind 7 = .ok (.if_icmp .ge 26, 3) := by decide +kernel
theorem dX4_rankBehind_10 : decode cX4_rankBehind 10 = .ok (.aload_n 0, 1) := by decide +kernel
theorem dX4_rankBehind_11 : decode cX4_rankBehind 11 = .ok (.getfield 15, 3) := by decide +kernel
theorem dX4_rankBehind_14 : decode cX4_rankBehind 14 = .ok (.iload_n 3, 1) := by decide +kernel
theorem dX4_rankBehind_15 : decode cX4_rankBehind 15 = .ok (.aload_n 1, 1) := by decide +kernel
theorem dX4_rankBehind_16 : decode cX4_rankBehind 16 = .ok (.aload_n 0, 1) := by decide +kernel
theorem dX4_rankBehind_17 : decode cX4_rankBehind 17 = .ok (.getfield 9, 3) := by decide +kernel
theorem dX4_rankBehind_20 : decode cX4_rankBehind 20 = .ok (.iload_n 3, 1) := by decide +kernel
theorem dX4_rankBehind_21 : decode cX4_rankBehind 21 = .ok (.iaload, 1) := by decide +kernel
theorem dX4_rankBehind_22 : decode cX4_rankBehind 22 = .ok (.iload_n 2, 1) := by decide +kernel
theorem dX4_rankBehind_23 : decode cX4_rankBehind 23 = .ok (.invokevirtual 42, 3) := by decide +kernel
theorem dX4_rankBehind_26 : decode cX4_rankBehind 26 = .ok (.iastore, 1) := by decide +kernel
theorem dX4_rankBehind_27 : decode cX4_rankBehind 27 = .ok (.iinc 3 1, 3) := by decide +kernel
theorem dX4_rankBehind_30 : decode cX4_rankBehind 30 = .ok (.goto (-28), 3) := by decide +kernel
theorem dX4_rankBehind_33 : decode cX4_rankBehind 33 = .ok (.iconst 0, 1) := by decide +kernel
theorem dX4_rankBehind_34 : decode cX4_rankBehind 34 = .ok (.istore_n 3, 1) := by decide +kernel
theorem dX4_rankBehind_35 : decode cX4_rankBehind 35 = .ok (.iconst 0, 1) := by decide +kernel
theorem dX4_rankBehind_36 : decode cX4_rankBehind 36 = .ok (.istore 4, 2) := by decide +kernel
theorem dX4_rankBehind_38 : decode cX4_rankBehind 38 = .ok (.iload 4, 2) := by decide +kernel
theorem dX4_rankBehind_40 : decode cX4_rankBehind 40 = .ok (.aload_n 1, 1) := by decide +kernel
theorem dX4_rankBehind_41 : decode cX4_rankBehind 41 = .ok (.getfield 28, 3) := by decide +kernel
theorem dX4_rankBehind_44 : decode cX4_rankBehind 44 = .ok (.if_icmp .ge 66, 3) := by decide +kernel
theorem dX4_rankBehind_47 : decode cX4_rankBehind 47 = .ok (.iconst 0, 1) := by decide +kernel
theorem dX4_rankBehind_48 : decode cX4_rankBehind 48 = .ok (.istore 5, 2) := by decide +kernel
theorem dX4_rankBehind_50 : decode cX4_rankBehind 50 = .ok (.iload 4, 2) := by decide +kernel
theorem dX4_rankBehind_52 : decode cX4_rankBehind 52 = .ok (.iconst 1, 1) := by decide +kernel
theorem dX4_rankBehind_53 : decode cX4_rankBehind 53 = .ok (.iadd, 1) := by decide +kernel
theorem dX4_rankBehind_54 : decode cX4_rankBehind 54 = .ok (.istore 6, 2) := by decide +kernel
theorem dX4_rankBehind_56 : decode cX4_rankBehind 56 = .ok (.iload 6, 2) := by decide +kernel
theorem dX4_rankBehind_58 : decode cX4_rankBehind 58 = .ok (.aload_n 1, 1) := by decide +kernel
theorem dX4_rankBehind_59 : decode cX4_rankBehind 59 = .ok (.getfield 28, 3) := by decide +kernel
theorem dX4_rankBehind_62 : decode cX4_rankBehind 62 = .ok (.if_icmp .ge 29, 3) := by decide +kernel
theorem dX4_rankBehind_65 : decode cX4_rankBehind 65 = .ok (.aload_n 0, 1) := by decide +kernel
theorem dX4_rankBehind_66 : decode cX4_rankBehind 66 = .ok (.getfield 15, 3) := by decide +kernel
theorem dX4_rankBehind_69 : decode cX4_rankBehind 69 = .ok (.iload 6, 2) := by decide +kernel
theorem dX4_rankBehind_71 : decode cX4_rankBehind 71 = .ok (.iaload, 1) := by decide +kernel
theorem dX4_rankBehind_72 : decode cX4_rankBehind 72 = .ok (.aload_n 0, 1) := by decide +kernel
theorem dX4_rankBehind_73 : decode cX4_rankBehind 73 = .ok (.getfield 15, 3) := by decide +kernel
theorem dX4_rankBehind_76 : decode cX4_rankBehind 76 = .ok (.iload 4, 2) := by decide +kernel
theorem dX4_rankBehind_78 : decode cX4_rankBehind 78 = .ok (.iaload, 1) := by decide +kernel
theorem dX4_rankBehind_79 : decode cX4_rankBehind 79 = .ok (.if_icmp .ge 6, 3) := by decide +kernel
theorem dX4_rankBehind_82 : decode cX4_rankBehind 82 = .ok (.iinc 5 1, 3) := by decide +kernel
theorem dX4_rankBehind_85 : decode cX4_rankBehind 85 = .ok (.iinc 6 1, 3) := by decide +kernel
theorem dX4_rankBehind_88 : decode cX4_rankBehind 88 = .ok (.goto (-32), 3) := by decide +kernel
theorem dX4_rankBehind_91 : decode cX4_rankBehind 91 = .ok (.iload_n 3, 1) := by decide +kernel
theorem dX4_rankBehind_92 : decode cX4_rankBehind 92 = .ok (.aload_n 1, 1) := by decide +kernel
theorem dX4_rankBehind_93 : decode cX4_rankBehind 93 = .ok (.getfield 28, 3) := by decide +kernel
theorem dX4_rankBehind_96 : decode cX4_rankBehind 96 = .ok (.iload 4, 2) := by decide +kernel
theorem dX4_rankBehind_98 : decode cX4_rankBehind 98 = .ok (.isub, 1) := by decide +kernel
theorem dX4_rankBehind_99 : decode cX4_rankBehind 99 = .ok (.imul, 1) := by decide +kernel
theorem dX4_rankBehind_100 : decode cX4_rankBehind 100 = .ok (.iload 5, 2) := by decide +kernel
theorem dX4_rankBehind_102 : decode cX4_rankBehind 102 = .ok (.iadd, 1) := by decide +kernel
theorem dX4_rankBehind_103 : decode cX4_rankBehind 103 = .ok (.istore_n 3, 1) := by decide +kernel
theorem dX4_rankBehind_104 : decode cX4_rankBehind 104 = .ok (.iinc 4 1, 3) := by decide +kernel
theorem dX4_rankBehind_107 : decode cX4_rankBehind 107 = .ok (.goto (-69), 3) := by decide +kernel
theorem dX4_rankBehind_110 : decode cX4_rankBehind 110 = .ok (.iload_n 3, 1) := by decide +kernel
theorem dX4_rankBehind_111 : decode cX4_rankBehind 111 = .ok (.ireturn, 1) := by decide +kernel
theorem dX4_unrank_0 : decode cX4_unrank 0 = .ok (.iload_n 1, 1) := by decide +kernel
theorem dX4_unrank_1 : decode cX4_unrank 1 = .ok (.istore_n 3, 1) := by decide +kernel
theorem dX4_unrank_2 : decode cX4_unrank 2 = .ok (.iload_n 2, 1) := by decide +kernel
theorem dX4_unrank_3 : decode cX4_unrank 3 = .ok (.iconst 1, 1) := by decide +kernel
theorem dX4_unrank_4 : decode cX4_unrank 4 = .ok (.isub, 1) := by decide +kernel
theorem dX4_unrank_5 : decode cX4_unrank 5 = .ok (.istore 4, 2) := by decide +kernel
theorem dX4_unrank_7 : decode cX4_unrank 7 = .ok (.iload 4, 2) := by decide +kernel
theorem dX4_unrank_9 : decode cX4_unrank 9 = .ok (.ifCond .lt 76, 3) := by decide +kernel
theorem dX4_unrank_12 : decode cX4_unrank 12 = .ok (.iload_n 2, 1) := by decide +kernel
theorem dX4_unrank_13 : decode cX4_unrank 13 = .ok (.iload 4, 2) := by decide +kernel
theorem dX4_unrank_15 : decode cX4_unrank 15 = .ok (.isub, 1) := by decide +kernel
theorem dX4_unrank_16 : decode cX4_unrank 16 = .ok (.istore 5, 2) := by decide +kernel
theorem dX4_unrank_18 : decode cX4_unrank 18 = .ok (.iload_n 3, 1) := by decide +kernel
theorem dX4_unrank_19 : decode cX4_unrank 19 = .ok (.iload 5, 2) := by decide +kernel
theorem dX4_unrank_21 : decode cX4_unrank 21 = .ok (.irem, 1) := by decide +kernel
theorem dX4_unrank_22 : decode cX4_unrank 22 = .ok (.istore 6, 2) := by decide +kernel
theorem dX4_unrank_24 : decode cX4_unrank 24 = .ok (.iload_n 3, 1) := by decide +kernel
theorem dX4_unrank_25 : decode cX4_unrank 25 = .ok (.iload 5, 2) := by decide +kernel
theorem dX4_unrank_27 : decode cX4_unrank 27 = .ok (.idiv, 1) := by decide +kernel
theorem dX4_unrank_28 : decode cX4_unrank 28 = .ok (.istore_n 3, 1) := by decide +kernel
theorem dX4_unrank_29 : decode cX4_unrank 29 = .ok (.aload_n 0, 1) := by decide +kernel
theorem dX4_unrank_30 : decode cX4_unrank 30 = .ok (.getfield 9, 3) := by decide +kernel
theorem dX4_unrank_33 : decode cX4_unrank 33 = .ok (.iload 4, 2) := by decide +kernel
theorem dX4_unrank_35 : decode cX4_unrank 35 = .ok (.iload 6, 2) := by decide +kernel
theorem dX4_unrank_37 : decode cX4_unrank 37 = .ok (.iastore, 1) := by decide +kernel
theorem dX4_unrank_38 : decode cX4_unrank 38 = .ok (.iload 4, 2) := by decide +kernel
theorem dX4_unrank_40 : decode cX4_unrank 40 = .ok (.iconst 1, 1) := by decide +kernel
theorem dX4_unrank_41 : decode cX4_unrank 41 = .ok (.iadd, 1) := by decide +kernel
theorem dX4_unrank_42 : decode cX4_unrank 42 = .ok (.istore 7, 2) := by decide +kernel
theorem dX4_unrank_44 : decode cX4_unrank 44 = .ok (.iload 7, 2) := by decide +kernel
theorem dX4_unrank_46 : decode cX4_unrank 46 = .ok (.iload_n 2, 1) := by decide +kernel
theorem dX4_unrank_47 : decode cX4_unrank 47 = .ok (.if_icmp .ge 32, 3) := by decide +kernel
theorem dX4_unrank_50 : decode cX4_unrank 50 = .ok (.aload_n 0, 1) := by decide +kernel
theorem dX4_unrank_51 : decode cX4_unrank 51 = .ok (.getfield 9, 3) := by decide +kernel
theorem dX4_unrank_54 : decode cX4_unrank 54 = .ok (.iload 7, 2) := by decide +kernel
theorem dX4_unrank_56 : decode cX4_unrank 56 = .ok (.iaload, 1) := by decide +kernel
theorem dX4_unrank_57 : decode cX4_unrank 57 = .ok (.iload 6, 2) := by decide +kernel
theorem dX4_unrank_59 : decode cX4_unrank 59 = .ok (.if_icmp .lt 14, 3) := by decide +kernel
theorem dX4_unrank_62 : decode cX4_unrank 62 = .ok (.aload_n 0, 1) := by decide +kernel
theorem dX4_unrank_63 : decode cX4_unrank 63 = .ok (.getfield 9, 3) := by decide +kernel
theorem dX4_unrank_66 : decode cX4_unrank 66 = .ok (.iload 7, 2) := by decide +kernel
theorem dX4_unrank_68 : decode cX4_unrank 68 = .ok (.dup2, 1) := by decide +kernel
theorem dX4_unrank_69 : decode cX4_unrank 69 = .ok (.iaload, 1) := by decide +kernel
theorem dX4_unrank_70 : decode cX4_unrank 70 = .ok (.iconst 1, 1) := by decide +kernel
theorem dX4_unrank_71 : decode cX4_unrank 71 = .ok (.iadd, 1) := by decide +kernel
theorem dX4_unrank_72 : decode cX4_unrank 72 = .ok (.iastore, 1) := by decide +kernel
theorem dX4_unrank_73 : decode cX4_unrank 73 = .ok (.iinc 7 1, 3) := by decide +kernel
theorem dX4_unrank_76 : decode cX4_unrank 76 = .ok (.goto (-32), 3) := by decide +kernel
theorem dX4_unrank_79 : decode cX4_unrank 79 = .ok (.iinc 4 (-1), 3) := by decide +kernel
theorem dX4_unrank_82 : decode cX4_unrank 82 = .ok (.goto (-75), 3) := by decide +kernel
theorem dX4_unrank_85 : decode cX4_unrank 85 = .ok (.return_, 1) := by decide +kernel
theorem dX4_countAutomorphisms_0 : decode cX4_countAutomorphisms 0 = .ok (.iconst 1, 1) := by decide +kernel
theorem dX4_countAutomorphisms_1 : decode cX4_countAutomorphisms 1 = .ok (.istore_n 2, 1) := by decide +kernel
theorem dX4_countAutomorphisms_2 : decode cX4_countAutomorphisms 2 = .ok (.iconst 2, 1) := by decide +kernel
theorem dX4_countAutomorphisms_3 : decode cX4_countAutomorphisms 3 = .ok (.istore_n 3, 1) := by decide +kernel
theorem dX4_countAutomorphisms_4 : decode cX4_countAutomorphisms 4 = .ok (.iload_n 3, 1) := by decide +kernel
theorem dX4_countAutomorphisms_5 : decode cX4_countAutomorphisms 5 = .ok (.aload_n 1, 1) := by decide +kernel
theorem dX4_countAutomorphisms_6 : decode cX4_countAutomorphisms 6 = .ok (.getfield 28, 3) := by decide +kernel
theorem dX4_countAutomorphisms_9 : decode cX4_countAutomorphisms 9 = .ok (.if_icmp .gt 13, 3) := by decide +kernel
theorem dX4_countAutomorphisms_12 : decode cX4_countAutomorphisms 12 = .ok (.iload_n 2, 1) := by decide +kernel
theorem dX4_countAutomorphisms_13 : decode cX4_countAutomorphisms 13 = .ok (.iload_n 3, 1) := by decide +kernel
theorem dX4_countAutomorphisms_14 : decode cX4_countAutomorphisms 14 = .ok (.imul, 1) := by decide +kernel
theorem dX4_countAutomorphisms_15 : decode cX4_countAutomorphisms 15 = .ok (.istore_n 2, 1) := by decide +kernel
theorem dX4_countAutomorphisms_16 : decode cX4_countAutomorphisms 16 = .ok (.iinc 3 1, 3) := by decide +kernel
theorem dX4_countAutomorphisms_19 : decode cX4_countAutomorphisms 19 = .ok (.goto (-15), 3) := by decide +kernel
theorem dX4_countAutomorphisms_22 : decode cX4_countAutomorphisms 22 = .ok (.iconst 0, 1) := by decide +kernel
theorem dX4_countAutomorphisms_23 : decode cX4_countAutomorphisms 23 = .ok (.istore_n 3, 1) := by decide +kernel
theorem dX4_countAutomorphisms_24 : decode cX4_countAutomorphisms 24 = .ok (.iconst 0, 1) := by decide +kernel
theorem dX4_countAutomorphisms_25 : decode cX4_countAutomorphisms 25 = .ok (.istore 4, 2) := by decide +kernel
theorem dX4_countAutomorphisms_27 : decode cX4_countAutomorphisms 27 = .ok (.iload 4, 2) := by decide +kernel
theorem dX4_countAutomorphisms_29 : decode cX4_countAutomorphisms 29 = .ok (.iload_n 2, 1) := by decide +kernel
theorem dX4_countAutomorphisms_30 : decode cX4_countAutomorphisms 30 = .ok (.if_icmp .ge 30, 3) := by decide +kernel
theorem dX4_countAutomorphisms_33 : decode cX4_countAutomorphisms 33 = .ok (.aload_n 0, 1) := by decide +kernel
theorem dX4_countAutomorphisms_34 : decode cX4_countAutomorphisms 34 = .ok (.iload 4, 2) := by decide +kernel
theorem dX4_countAutomorphisms_36 : decode cX4_countAutomorphisms 36 = .ok (.aload_n 1, 1) := by decide +kernel
theorem dX4_countAutomorphisms_37 : decode cX4_countAutomorphisms 37 = .ok (.getfield 28, 3) := by decide +kernel
theorem dX4_countAutomorphisms_40 : decode cX4_countAutomorphisms 40 = .ok (.invokevirtual 34, 3) := by decide +kernel
theorem dX4_countAutomorphisms_43 : decode cX4_countAutomorphisms 43 = .ok (.aload_n 0, 1) := by decide +kernel
theorem dX4_countAutomorphisms_44 : decode cX4_countAutomorphisms 44 = .ok (.aload_n 1, 1) := by decide +kernel
theorem dX4_countAutomorphisms_45 : decode cX4_countAutomorphisms 45 = .ok (.invokevirtual 46, 3) := by decide +kernel
theorem dX4_countAutomorphisms_48 : decode cX4_countAutomorphisms 48 = .ok (.ifCond .eq 6, 3) := by decide +kernel
theorem dX4_countAutomorphisms_51 : decode cX4_countAutomorphisms 51 = .ok (.iinc 3 1, 3) := by decide +kernel
theorem dX4_countAutomorphisms_54 : decode cX4_countAutomorphisms 54 = .ok (.iinc 4 1, 3) := by decide +kernel
theorem dX4_countAutomorphisms_57 : decode cX4_countAutomorphisms 57 = .ok (.goto (-30), 3) := by decide +kernel
theorem dX4_countAutomorphisms_60 : decode cX4_countAutomorphisms 60 = .ok (.iload_n 3, 1) := by decide +kernel
theorem dX4_countAutomorphisms_61 : decode cX4_countAutomorphisms 61 = .ok (.ireturn, 1) := by decide +kernel
theorem dX4_keepsProducts_0 : decode cX4_keepsProducts 0 = .ok (.iconst 0, 1) := by decide +kernel
theorem dX4_keepsProducts_1 : decode cX4_keepsProducts 1 = .ok (.istore_n 2, 1) := by decide +kernel
theorem dX4_keepsProducts_2 : decode cX4_keepsProducts 2 = .ok (.iload_n 2, 1) := by decide +kernel
theorem dX4_keepsProducts_3 : decode cX4_keepsProducts 3 = .ok (.aload_n 1, 1) := by decide +kernel
theorem dX4_keepsProducts_4 : decode cX4_keepsProducts 4 = .ok (.getfield 28, 3) := by decide +kernel
theorem dX4_keepsProducts_7 : decode cX4_keepsProducts 7 = .ok (.if_icmp .ge 57, 3) := by decide +kernel
theorem dX4_keepsProducts_10 : decode cX4_keepsProducts 10 = .ok (.iconst 0, 1) := by decide +kernel
theorem dX4_keepsProducts_11 : decode cX4_keepsProducts 11 = .ok (.istore_n 3, 1) := by decide +kernel
theorem dX4_keepsProducts_12 : decode cX4_keepsProducts 12 = .ok (.iload_n 3, 1) := by decide +kernel
theorem dX4_keepsProducts_13 : decode cX4_keepsProducts 13 = .ok (.aload_n 1, 1) := by decide +kernel
theorem dX4_keepsProducts_14 : decode cX4_keepsProducts 14 = .ok (.getfield 28, 3) := by decide +kernel
theorem dX4_keepsProducts_17 : decode cX4_keepsProducts 17 = .ok (.if_icmp .ge 41, 3) := by decide +kernel
theorem dX4_keepsProducts_20 : decode cX4_keepsProducts 20 = .ok (.aload_n 0, 1) := by decide +kernel
theorem dX4_keepsProducts_21 : decode cX4_keepsProducts 21 = .ok (.getfield 9, 3) := by decide +kernel
theorem dX4_keepsProducts_24 : decode cX4_keepsProducts 24 = .ok (.aload_n 1, 1) := by decide +kernel
theorem dX4_keepsProducts_25 : decode cX4_keepsProducts 25 = .ok (.iload_n 2, 1) := by decide +kernel
theorem dX4_keepsProducts_26 : decode cX4_keepsProducts 26 = .ok (.iload_n 3, 1) := by decide +kernel
theorem dX4_keepsProducts_27 : decode cX4_keepsProducts 27 = .ok (.invokevirtual 42, 3) := by decide +kernel
theorem dX4_keepsProducts_30 : decode cX4_keepsProducts 30 = .ok (.iaload, 1) := by decide +kernel
theorem dX4_keepsProducts_31 : decode cX4_keepsProducts 31 = .ok (.aload_n 1, 1) := by decide +kernel
theorem dX4_keepsProducts_32 : decode cX4_keepsProducts 32 = .ok (.aload_n 0, 1) := by decide +kernel
theorem dX4_keepsProducts_33 : decode cX4_keepsProducts 33 = .ok (.getfield 9, 3) := by decide +kernel
theorem dX4_keepsProducts_36 : decode cX4_keepsProducts 36 = .ok (.iload_n 2, 1) := by decide +kernel
theorem dX4_keepsProducts_37 : decode cX4_keepsProducts 37 = .ok (.iaload, 1) := by decide +kernel
theorem dX4_keepsProducts_38 : decode cX4_keepsProducts 38 = .ok (.aload_n 0, 1) := by decide +kernel
theorem dX4_keepsProducts_39 : decode cX4_keepsProducts 39 = .ok (.getfield 9, 3) := by decide +kernel
theorem dX4_keepsProducts_42 : decode cX4_keepsProducts 42 = .ok (.iload_n 3, 1) := by decide +kernel
theorem dX4_keepsProducts_43 : decode cX4_keepsProducts 43 = .ok (.iaload, 1) := by decide +kernel
theorem dX4_keepsProducts_44 : decode cX4_keepsProducts 44 = .ok (.invokevirtual 42, 3) := by decide +kernel
theorem dX4_keepsProducts_47 : decode cX4_keepsProducts 47 = .ok (.if_icmp .eq 5, 3) := by decide +kernel
theorem dX4_keepsProducts_50 : decode cX4_keepsProducts 50 = .ok (.iconst 0, 1) := by decide +kernel
theorem dX4_keepsProducts_51 : decode cX4_keepsProducts 51 = .ok (.ireturn, 1) := by decide +kernel
theorem dX4_keepsProducts_52 : decode cX4_keepsProducts 52 = .ok (.iinc 3 1, 3) := by decide +kernel
theorem dX4_keepsProducts_55 : decode cX4_keepsProducts 55 = .ok (.goto (-43), 3) := by decide +kernel
theorem dX4_keepsProducts_58 : decode cX4_keepsProducts 58 = .ok (.iinc 2 1, 3) := by decide +kernel
theorem dX4_keepsProducts_61 : decode cX4_keepsProducts 61 = .ok (.goto (-59), 3) := by decide +kernel
theorem dX4_keepsProducts_64 : decode cX4_keepsProducts 64 = .ok (.iconst 1, 1) := by decide +kernel
theorem dX4_keepsProducts_65 : decode cX4_keepsProducts 65 = .ok (.ireturn, 1) := by decide +kernel
theorem dX5_init_0 : decode cX5_init 0 = .ok (.aload_n 0, 1) := by decide +kernel
theorem dX5_init_1 : decode cX5_init 1 = .ok (.invokespecial 3, 3) := by decide +kernel
theorem dX5_init_4 : decode cX5_init 4 = .ok (.aload_n 0, 1) := by decide +kernel
theorem dX5_init_5 : decode cX5_init 5 = .ok (.iconst 1, 1) := by decide +kernel
theorem dX5_init_6 : decode cX5_init 6 = .ok (.putfield 9, 3) := by decide +kernel
theorem dX5_init_9 : decode cX5_init 9 = .ok (.aload_n 0, 1) := by decide +kernel
theorem dX5_init_10 : decode cX5_init 10 = .ok (.bipush 36, 2) := by decide +kernel
theorem dX5_init_12 : decode cX5_init 12 = .ok (.newarray .int, 2) := by decide +kernel
theorem dX5_init_14 : decode cX5_init 14 = .ok (.putfield 15, 3) := by decide +kernel
theorem dX5_init_17 : decode cX5_init 17 = .ok (.return_, 1) := by decide +kernel
theorem dX5_has_0 : decode cX5_has 0 = .ok (.iload_n 1, 1) := by decide +kernel
theorem dX5_has_1 : decode cX5_has 1 = .ok (.ifCond .lt 15, 3) := by decide +kernel
theorem dX5_has_4 : decode cX5_has 4 = .ok (.iload_n 1, 1) := by decide +kernel
theorem dX5_has_5 : decode cX5_has 5 = .ok (.aload_n 0, 1) := by decide +kernel
theorem dX5_has_6 : decode cX5_has 6 = .ok (.getfield 9, 3) := by decide +kernel
theorem dX5_has_9 : decode cX5_has 9 = .ok (.if_icmp .ge 7, 3) := by decide +kernel
theorem dX5_has_12 : decode cX5_has 12 = .ok (.iconst 1, 1) := by decide +kernel
theorem dX5_has_13 : decode cX5_has 13 = .ok (.goto 4, 3) := by decide +kernel
theorem dX5_has_16 : decode cX5_has 16 = .ok (.iconst 0, 1) := by decide +kernel
theorem dX5_has_17 : decode cX5_has 17 = .ok (.ireturn, 1) := by decide +kernel
theorem dX5_times_0 : decode cX5_times 0 = .ok (.aload_n 0, 1) := by decide +kernel
theorem dX5_times_1 : decode cX5_times 1 = .ok (.getfield 15, 3) := by decide +kernel
theorem dX5_times_4 : decode cX5_times 4 = .ok (.bipush 6, 2) := by decide +kernel
theorem dX5_times_6 : decode cX5_times 6 = .ok (.iload_n 1, 1) := by decide +kernel
theorem dX5_times_7 : decode cX5_times 7 = .ok (.imul, 1) := by decide +kernel
theorem dX5_times_8 : decode cX5_times 8 = .ok (.iload_n 2, 1) := by decide +kernel
theorem dX5_times_9 : decode cX5_times 9 = .ok (.iadd, 1) := by decide +kernel
theorem dX5_times_10 : decode cX5_times 10 = .ok (.iaload, 1) := by decide +kernel
theorem dX5_times_11 : decode cX5_times 11 = .ok (.ireturn, 1) := by decide +kernel
theorem dX5_put_0 : decode cX5_put 0 = .ok (.aload_n 0, 1) := by decide +kernel
theorem dX5_put_1 : decode cX5_put 1 = .ok (.getfield 15, 3) := by decide +kernel
theorem dX5_put_4 : decode cX5_put 4 = .ok (.bipush 6, 2) := by decide +kernel
theorem dX5_put_6 : decode cX5_put 6 = .ok (.iload_n 1, 1) := by decide +kernel
theorem dX5_put_7 : decode cX5_put 7 = .ok (.imul, 1) := by decide +kernel
theorem dX5_put_8 : decode cX5_put 8 = .ok (.iload_n 2, 1) := by decide +kernel
theorem dX5_put_9 : decode cX5_put 9 = .ok (.iadd, 1) := by decide +kernel
theorem dX5_put_10 : decode cX5_put 10 = .ok (.iload_n 3, 1) := by decide +kernel
theorem dX5_put_11 : decode cX5_put 11 = .ok (.iastore, 1) := by decide +kernel
theorem dX5_put_12 : decode cX5_put 12 = .ok (.return_, 1) := by decide +kernel
theorem dX5_copyFrom_0 : decode cX5_copyFrom 0 = .ok (.aload_n 0, 1) := by decide +kernel
theorem dX5_copyFrom_1 : decode cX5_copyFrom 1 = .ok (.aload_n 1, 1) := by decide +kernel
theorem dX5_copyFrom_2 : decode cX5_copyFrom 2 = .ok (.getfield 9, 3) := by decide +kernel
theorem dX5_copyFrom_5 : decode cX5_copyFrom 5 = .ok (.putfield 9, 3) := by decide +kernel
theorem dX5_copyFrom_8 : decode cX5_copyFrom 8 = .ok (.aload_n 1, 1) := by decide +kernel
theorem dX5_copyFrom_9 : decode cX5_copyFrom 9 = .ok (.getfield 15, 3) := by decide +kernel
theorem dX5_copyFrom_12 : decode cX5_copyFrom 12 = .ok (.iconst 0, 1) := by decide +kernel
theorem dX5_copyFrom_13 : decode cX5_copyFrom 13 = .ok (.aload_n 0, 1) := by decide +kernel
theorem dX5_copyFrom_14 : decode cX5_copyFrom 14 = .ok (.getfield 15, 3) := by decide +kernel
theorem dX5_copyFrom_17 : decode cX5_copyFrom 17 = .ok (.iconst 0, 1) := by decide +kernel
theorem dX5_copyFrom_18 : decode cX5_copyFrom 18 = .ok (.aload_n 0, 1) := by decide +kernel
theorem dX5_copyFrom_19 : decode cX5_copyFrom 19 = .ok (.getfield 15, 3) := by decide +kernel
theorem dX5_copyFrom_22 : decode cX5_copyFrom 22 = .ok (.arraylength, 1) := by decide +kernel
theorem dX5_copyFrom_23 : decode cX5_copyFrom 23 = .ok (.invokestatic 19, 3) := by decide +kernel
theorem dX5_copyFrom_26 : decode cX5_copyFrom 26 = .ok (.return_, 1) := by decide +kernel
theorem dX5_fillLinear_0 : decode cX5_fillLinear 0 = .ok (.aload_n 0, 1) := by decide +kernel
theorem dX5_fillLinear_1 : decode cX5_fillLinear 1 = .ok (.iload_n 1, 1) := by decide +kernel
theorem dX5_fillLinear_2 : decode cX5_fillLinear 2 = .ok (.putfield 9, 3) := by decide +kernel
theorem dX5_fillLinear_5 : decode cX5_fillLinear 5 = .ok (.iconst 0, 1) := by decide +kernel
theorem dX5_fillLinear_6 : decode cX5_fillLinear 6 = .ok (.istore_n 3, 1) := by decide +kernel
theorem dX5_fillLinear_7 : decode cX5_fillLinear 7 = .ok (.iload_n 3, 1) := by decide +kernel
theorem dX5_fillLinear_8 : decode cX5_fillLinear 8 = .ok (.iload_n 1, 1) := by decide +kernel
theorem dX5_fillLinear_9 : decode cX5_fillLinear 9 = .ok (.if_icmp .ge 45, 3) := by decide +kernel
theorem dX5_fillLinear_12 : decode cX5_fillLinear 12 = .ok (.iconst 0, 1) := by decide +kernel
theorem dX5_fillLinear_13 : decode cX5_fillLinear 13 = .ok (.istore 4, 2) := by decide +kernel
theorem dX5_fillLinear_15 : decode cX5_fillLinear 15 = .ok (.iload 4, 2) := by decide +kernel
theorem dX5_fillLinear_17 : decode cX5_fillLinear 17 = .ok (.iload_n 1, 1) := by decide +kernel
theorem dX5_fillLinear_18 : decode cX5_fillLinear 18 = .ok (.if_icmp .ge 30, 3) := by decide +kernel
theorem dX5_fillLinear_21 : decode cX5_fillLinear 21 = .ok (.aload_n 0, 1) := by decide +kernel
theorem dX5_fillLinear_22 : decode cX5_fillLinear 22 = .ok (.iload_n 3, 1) := by decide +kernel
theorem dX5_fillLinear_23 : decode cX5_fillLinear 23 = .ok (.iload 4, 2) := by decide +kernel
theorem dX5_fillLinear_25 : decode cX5_fillLinear 25 = .ok (.iload_n 2, 1) := by decide +kernel
theorem dX5_fillLinear_26 : decode cX5_fillLinear 26 = .ok (.iload_n 3, 1) := by decide +kernel
theorem dX5_fillLinear_27 : decode cX5_fillLinear 27 = .ok (.imul, 1) := by decide +kernel
theorem dX5_fillLinear_28 : decode cX5_fillLinear 28 = .ok (.iconst 1, 1) := by decide +kernel
theorem dX5_fillLinear_29 : decode cX5_fillLinear 29 = .ok (.iload_n 2, 1) := by decide +kernel
theorem dX5_fillLinear_30 : decode cX5_fillLinear 30 = .ok (.isub, 1) := by decide +kernel
theorem dX5_fillLinear_31 : decode cX5_fillLinear 31 = .ok (.iload 4, 2) := by decide +kernel
theorem dX5_fillLinear_33 : decode cX5_fillLinear 33 = .ok (.imul, 1) := by decide +kernel
theorem dX5_fillLinear_34 : decode cX5_fillLinear 34 = .ok (.iadd, 1) := by decide +kernel
theorem dX5_fillLinear_35 : decode cX5_fillLinear 35 = .ok (.iload_n 1, 1) := by decide +kernel
theorem dX5_fillLinear_36 : decode cX5_fillLinear 36 = .ok (.invokestatic 25, 3) := by decide +kernel
theorem dX5_fillLinear_39 : decode cX5_fillLinear 39 = .ok (.invokevirtual 31, 3) := by decide +kernel
theorem dX5_fillLinear_42 : decode cX5_fillLinear 42 = .ok (.iinc 4 1, 3) := by decide +kernel
theorem dX5_fillLinear_45 : decode cX5_fillLinear 45 = .ok (.goto (-30), 3) := by decide +kernel
theorem dX5_fillLinear_48 : decode cX5_fillLinear 48 = .ok (.iinc 3 1, 3) := by decide +kernel
theorem dX5_fillLinear_51 : decode cX5_fillLinear 51 = .ok (.goto (-44), 3) := by decide +kernel
theorem dX5_fillLinear_54 : decode cX5_fillLinear 54 = .ok (.return_, 1) := by decide +kernel
theorem dX5_fillTranspositions_0 : decode cX5_fillTranspositions 0 = .ok (.aload_n 0, 1) := by decide +kernel
theorem dX5_fillTranspositions_1 : decode cX5_fillTranspositions 1 = .ok (.iload_n 1, 1) := by decide +kernel
theorem dX5_fillTranspositions_2 : decode cX5_fillTranspositions 2 = .ok (.iload_n 1, 1) := by decide +kernel
theorem dX5_fillTranspositions_3 : decode cX5_fillTranspositions 3 = .ok (.iconst 1, 1) := by decide +kernel
theorem dX5_fillTranspositions_4 : decode cX5_fillTranspositions 4 = .ok (.isub, 1) := by decide +kernel
theorem dX5_fillTranspositions_5 : decode cX5_fillTranspositions 5 = .ok (.imul, 1) := by decide +kernel
theorem dX5_fillTranspositions_6 : decode cX5_fillTranspositions 6 = .ok (.iconst 2, 1) := by decide +kernel
theorem dX5_fillTranspositions_7 : decode cX5_fillTranspositions 7 = .ok (.idiv, 1) := by decide +kernel
theorem dX5_fillTranspositions_8 : decode cX5_fillTranspositions 8 = .ok (.putfield 9, 3) := by decide +kernel
theorem dX5_fillTranspositions_11 : decode cX5_fillTranspositions 11 = .ok (.iconst 0, 1) := by decide +kernel
theorem dX5_fillTranspositions_12 : decode cX5_fillTranspositions 12 = .ok (.istore_n 2, 1) := by decide +kernel
theorem dX5_fillTranspositions_13 : decode cX5_fillTranspositions 13 = .ok (.iload_n 2, 1) := by decide +kernel
theorem dX5_fillTranspositions_14 : decode cX5_fillTranspositions 14 = .ok (.iload_n 1, 1) := by decide +kernel
theorem dX5_fillTranspositions_15 : decode cX5_fillTranspositions 15 = .ok (.if_icmp .ge 31, 3) := by decide +kernel
theorem dX5_fillTranspositions_18 : decode cX5_fillTranspositions 18 = .ok (.iload_n 2, 1) := by decide +kernel
theorem dX5_fillTranspositions_19 : decode cX5_fillTranspositions 19 = .ok (.iconst 1, 1) := by decide +kernel
theorem dX5_fillTranspositions_20 : decode cX5_fillTranspositions 20 = .ok (.iadd, 1) := by decide +kernel
theorem dX5_fillTranspositions_21 : decode cX5_fillTranspositions 21 = .ok (.istore_n 3, 1) := by decide +kernel
theorem dX5_fillTranspositions_22 : decode cX5_fillTranspositions 22 = .ok (.iload_n 3, 1) := by decide +kernel
theorem dX5_fillTranspositions_23 : decode cX5_fillTranspositions 23 = .ok (.iload_n 1, 1) := by decide +kernel
theorem dX5_fillTranspositions_24 : decode cX5_fillTranspositions 24 = .ok (.if_icmp .ge 16, 3) := by decide +kernel
theorem dX5_fillTranspositions_27 : decode cX5_fillTranspositions 27 = .ok (.aload_n 0, 1) := by decide +kernel
theorem dX5_fillTranspositions_28 : decode cX5_fillTranspositions 28 = .ok (.iload_n 2, 1) := by decide +kernel
theorem dX5_fillTranspositions_29 : decode cX5_fillTranspositions 29 = .ok (.iload_n 3, 1) := by decide +kernel
theorem dX5_fillTranspositions_30 : decode cX5_fillTranspositions 30 = .ok (.iload_n 1, 1) := by decide +kernel
theorem dX5_fillTranspositions_31 : decode cX5_fillTranspositions 31 = .ok (.invokevirtual 35, 3) := by decide +kernel
theorem dX5_fillTranspositions_34 : decode cX5_fillTranspositions 34 = .ok (.iinc 3 1, 3) := by decide +kernel
theorem dX5_fillTranspositions_37 : decode cX5_fillTranspositions 37 = .ok (.goto (-15), 3) := by decide +kernel
theorem dX5_fillTranspositions_40 : decode cX5_fillTranspositions 40 = .ok (.iinc 2 1, 3) := by decide +kernel
theorem dX5_fillTranspositions_43 : decode cX5_fillTranspositions 43 = .ok (.goto (-30), 3) := by decide +kernel
theorem dX5_fillTranspositions_46 : decode cX5_fillTranspositions 46 = .ok (.return_, 1) := by decide +kernel
theorem dX5_fillTranslation_0 : decode cX5_fillTranslation 0 = .ok (.iload_n 1, 1) := by decide +kernel
theorem dX5_fillTranslation_1 : decode cX5_fillTranslation 1 = .ok (.iload_n 2, 1) := by decide +kernel
theorem dX5_fillTranslation_2 : decode cX5_fillTranslation 2 = .ok (.iload_n 3, 1) := by decide +kernel
theorem dX5_fillTranslation_3 : decode cX5_fillTranslation 3 = .ok (.invokestatic 38, 3) := by decide +kernel
theorem dX5_fillTranslation_6 : decode cX5_fillTranslation 6 = .ok (.istore 4, 2) := by decide +kernel
theorem dX5_fillTranslation_8 : decode cX5_fillTranslation 8 = .ok (.iconst 0, 1) := by decide +kernel
theorem dX5_fillTranslation_9 : decode cX5_fillTranslation 9 = .ok (.istore 5, 2) := by decide +kernel
theorem dX5_fillTranslation_11 : decode cX5_fillTranslation 11 = .ok (.iload 5, 2) := by decide +kernel
theorem dX5_fillTranslation_13 : decode cX5_fillTranslation 13 = .ok (.iload_n 3, 1) := by decide +kernel
theorem dX5_fillTranslation_14 : decode cX5_fillTranslation 14 = .ok (.if_icmp .ge 77, 3) := by decide +kernel
theorem dX5_fillTranslation_17 : decode cX5_fillTranslation 17 = .ok (.iload 5, 2) := by decide +kernel
theorem dX5_fillTranslation_19 : decode cX5_fillTranslation 19 = .ok (.iconst 1, 1) := by decide +kernel
theorem dX5_fillTranslation_20 : decode cX5_fillTranslation 20 = .ok (.iadd, 1) := by decide +kernel
theorem dX5_fillTranslation_21 : decode cX5_fillTranslation 21 = .ok (.istore 6, 2) := by decide +kernel
theorem dX5_fillTranslation_23 : decode cX5_fillTranslation 23 = .ok (.iload 6, 2) := by decide +kernel
theorem dX5_fillTranslation_25 : decode cX5_fillTranslation 25 = .ok (.iload_n 3, 1) := by decide +kernel
theorem dX5_fillTranslation_26 : decode cX5_fillTranslation 26 = .ok (.if_icmp .ge 59, 3) := by decide +kernel
theorem dX5_fillTranslation_29 : decode cX5_fillTranslation 29 = .ok (.iload 5, 2) := by decide +kernel
theorem dX5_fillTranslation_31 : decode cX5_fillTranslation 31 = .ok (.iload_n 1, 1) := by decide +kernel
theorem dX5_fillTranslation_32 : decode cX5_fillTranslation 32 = .ok (.iload_n 2, 1) := by decide +kernel
theorem dX5_fillTranslation_33 : decode cX5_fillTranslation 33 = .ok (.invokestatic 42, 3) := by decide +kernel
theorem dX5_fillTranslation_36 : decode cX5_fillTranslation 36 = .ok (.istore 7, 2) := by decide +kernel
theorem dX5_fillTranslation_38 : decode cX5_fillTranslation 38 = .ok (.iload 6, 2) := by decide +kernel
theorem dX5_fillTranslation_40 : decode cX5_fillTranslation 40 = .ok (.iload_n 1, 1) := by decide +kernel
theorem dX5_fillTranslation_41 : decode cX5_fillTranslation 41 = .ok (.iload_n 2, 1) := by decide +kernel
theorem dX5_fillTranslation_42 : decode cX5_fillTranslation 42 = .ok (.invokestatic 42, 3) := by decide +kernel
theorem dX5_fillTranslation_45 : decode cX5_fillTranslation 45 = .ok (.istore 8, 2) := by decide +kernel
theorem dX5_fillTranslation_47 : decode cX5_fillTranslation 47 = .ok (.aload_n 0, 1) := by decide +kernel
theorem dX5_fillTranslation_48 : decode cX5_fillTranslation 48 = .ok (.iload 5, 2) := by decide +kernel
theorem dX5_fillTranslation_50 : decode cX5_fillTranslation 50 = .ok (.iload 6, 2) := by decide +kernel
theorem dX5_fillTranslation_52 : decode cX5_fillTranslation 52 = .ok (.iload_n 3, 1) := by decide +kernel
theorem dX5_fillTranslation_53 : decode cX5_fillTranslation 53 = .ok (.invokestatic 38, 3) := by decide +kernel
theorem dX5_fillTranslation_56 : decode cX5_fillTranslation 56 = .ok (.iload 4, 2) := by decide +kernel
theorem dX5_fillTranslation_58 : decode cX5_fillTranslation 58 = .ok (.iload 7, 2) := by decide +kernel
theorem dX5_fillTranslation_60 : decode cX5_fillTranslation 60 = .ok (.iload 8, 2) := by decide +kernel
theorem dX5_fillTranslation_62 : decode cX5_fillTranslation 62 = .ok (.invokestatic 45, 3) := by decide +kernel
theorem dX5_fillTranslation_65 : decode cX5_fillTranslation 65 = .ok (.iload 7, 2) := by decide +kernel
theorem dX5_fillTranslation_67 : decode cX5_fillTranslation 67 = .ok (.iload 8, 2) := by decide +kernel
theorem dX5_fillTranslation_69 : decode cX5_fillTranslation 69 = .ok (.invokestatic 48, 3) := by decide +kernel
theorem dX5_fillTranslation_72 : decode cX5_fillTranslation 72 = .ok (.iload_n 3, 1) := by decide +kernel
theorem dX5_fillTranslation_73 : decode cX5_fillTranslation 73 = .ok (.invokestatic 38, 3) := by decide +kernel
theorem dX5_fillTranslation_76 : decode cX5_fillTranslation 76 = .ok (.invokevirtual 31, 3) := by decide +kernel
theorem dX5_fillTranslation_79 : decode cX5_fillTranslation 79 = .ok (.iinc 6 1, 3) := by decide +kernel
theorem dX5_fillTranslation_82 : decode cX5_fillTranslation 82 = .ok (.goto (-59), 3) := by decide +kernel
theorem dX5_fillTranslation_85 : decode cX5_fillTranslation 85 = .ok (.iinc 5 1, 3) := by decide +kernel
theorem dX5_fillTranslation_88 : decode cX5_fillTranslation 88 = .ok (.goto (-77), 3) := by decide +kernel
theorem dX5_fillTranslation_91 : decode cX5_fillTranslation 91 = .ok (.return_, 1) := by decide +kernel
theorem dX5_pairNumber_0 : decode cX5_pairNumber 0 = .ok (.iload_n 0, 1) := by decide +kernel
theorem dX5_pairNumber_1 : decode cX5_pairNumber 1 = .ok (.iconst 2, 1) := by decide +kernel
theorem dX5_pairNumber_2 : decode cX5_pairNumber 2 = .ok (.iload_n 2, 1) := by decide +kernel
theorem dX5_pairNumber_3 : decode cX5_pairNumber 3 = .ok (.imul, 1) := by decide +kernel
theorem dX5_pairNumber_4 : decode cX5_pairNumber 4 = .ok (.iload_n 0, 1) := by decide +kernel
theorem dX5_pairNumber_5 : decode cX5_pairNumber 5 = .ok (.isub, 1) := by decide +kernel
theorem dX5_pairNumber_6 : decode cX5_pairNumber 6 = .ok (.iconst 1, 1) := by decide +kernel
theorem dX5_pairNumber_7 : decode cX5_pairNumber 7 = .ok (.isub, 1) := by decide +kernel
theorem dX5_pairNumber_8 : decode cX5_pairNumber 8 = .ok (.imul, 1) := by decide +kernel
theorem dX5_pairNumber_9 : decode cX5_pairNumber 9 = .ok (.iconst 2, 1) := by decide +kernel
theorem dX5_pairNumber_10 : decode cX5_pairNumber 10 = .ok (.idiv, 1) := by decide +kernel
theorem dX5_pairNumber_11 : decode cX5_pairNumber 11 = .ok (.iload_n 1, 1) := by decide +kernel
theorem dX5_pairNumber_12 : decode cX5_pairNumber 12 = .ok (.iadd, 1) := by decide +kernel
theorem dX5_pairNumber_13 : decode cX5_pairNumber 13 = .ok (.iload_n 0, 1) := by decide +kernel
theorem dX5_pairNumber_14 : decode cX5_pairNumber 14 = .ok (.isub, 1) := by decide +kernel
theorem dX5_pairNumber_15 : decode cX5_pairNumber 15 = .ok (.iconst 1, 1) := by decide +kernel
theorem dX5_pairNumber_16 : decode cX5_pairNumber 16 = .ok (.isub, 1) := by decide +kernel
theorem dX5_pairNumber_17 : decode cX5_pairNumber 17 = .ok (.ireturn, 1) := by decide +kernel
theorem dX5_swapped_0 : decode cX5_swapped 0 = .ok (.iload_n 0, 1) := by decide +kernel
theorem dX5_swapped_1 : decode cX5_swapped 1 = .ok (.iload_n 1, 1) := by decide +kernel
theorem dX5_swapped_2 : decode cX5_swapped 2 = .ok (.if_icmp .ne 5, 3) := by decide +kernel
theorem dX5_swapped_5 : decode cX5_swapped 5 = .ok (.iload_n 2, 1) := by decide +kernel
theorem dX5_swapped_6 : decode cX5_swapped 6 = .ok (.ireturn, 1) := by decide +kernel
theorem dX5_swapped_7 : decode cX5_swapped 7 = .ok (.iload_n 0, 1) := by decide +kernel
theorem dX5_swapped_8 : decode cX5_swapped 8 = .ok (.iload_n 2, 1) := by decide +kernel
theorem dX5_swapped_9 : decode cX5_swapped 9 = .ok (.if_icmp .ne 7, 3) := by decide +kernel
theorem dX5_swapped_12 : decode cX5_swapped 12 = .ok (.iload_n 1, 1) := by decide +kernel
theorem dX5_swapped_13 : decode cX5_swapped 13 = .ok (.goto 4, 3) := by decide +kernel
theorem dX5_swapped_16 : decode cX5_swapped 16 = .ok (.iload_n 0, 1) := by decide +kernel
theorem dX5_swapped_17 : decode cX5_swapped 17 = .ok (.ireturn, 1) := by decide +kernel
theorem dX5_fillInverse_0 : decode cX5_fillInverse 0 = .ok (.iconst 0, 1) := by decide +kernel
theorem dX5_fillInverse_1 : decode cX5_fillInverse 1 = .ok (.istore_n 2, 1) := by decide +kernel
theorem dX5_fillInverse_2 : decode cX5_fillInverse 2 = .ok (.iconst 0, 1) := by decide +kernel
theorem dX5_fillInverse_3 : decode cX5_fillInverse 3 = .ok (.istore_n 3, 1) := by decide +kernel
theorem dX5_fillInverse_4 : decode cX5_fillInverse 4 = .ok (.iload_n 3, 1) := by decide +kernel
theorem dX5_fillInverse_5 : decode cX5_fillInverse 5 = .ok (.aload_n 0, 1) := by decide +kernel
theorem dX5_fillInverse_6 : decode cX5_fillInverse 6 = .ok (.getfield 9, 3) := by decide +kernel
theorem dX5_fillInverse_9 : decode cX5_fillInverse 9 = .ok (.if_icmp .ge 60, 3) := by decide +kernel
theorem dX5_fillInverse_12 : decode cX5_fillInverse 12 = .ok (.iconst 0, 1) := by decide +kernel
theorem dX5_fillInverse_13 : decode cX5_fillInverse 13 = .ok (.istore 4, 2) := by decide +kernel
theorem dX5_fillInverse_15 : decode cX5_fillInverse 15 = .ok (.iload 4, 2) := by decide +kernel
theorem dX5_fillInverse_17 : decode cX5_fillInverse 17 = .ok (.aload_n 0, 1) := by decide +kernel
theorem dX5_fillInverse_18 : decode cX5_fillInverse 18 = .ok (.getfield 9, 3) := by decide +kernel
theorem dX5_fillInverse_21 : decode cX5_fillInverse 21 = .ok (.if_icmp .ge 42, 3) := by decide +kernel
theorem dX5_fillInverse_24 : decode cX5_fillInverse 24 = .ok (.aload_n 1, 1) := by decide +kernel
theorem dX5_fillInverse_25 : decode cX5_fillInverse 25 = .ok (.iload_n 3, 1) := by decide +kernel
theorem dX5_fillInverse_26 : decode cX5_fillInverse 26 = .ok (.iload 4, 2) := by decide +kernel
theorem dX5_fillInverse_28 : decode cX5_fillInverse 28 = .ok (.invokevirtual 51, 3) := by decide +kernel
theorem dX5_fillInverse_31 : decode cX5_fillInverse 31 = .ok (.istore 5, 2) := by decide +kernel
theorem dX5_fillInverse_33 : decode cX5_fillInverse 33 = .ok (.aload_n 0, 1) := by decide +kernel
theorem dX5_fillInverse_34 : decode cX5_fillInverse 34 = .ok (.iload_n 3, 1) := by decide +kernel
theorem dX5_fillInverse_35 : decode cX5_fillInverse 35 = .ok (.iload 4, 2) := by decide +kernel
theorem dX5_fillInverse_37 : decode cX5_fillInverse 37 = .ok (.iload 5, 2) := by decide +kernel
theorem dX5_fillInverse_39 : decode cX5_fillInverse 39 = .ok (.invokevirtual 31, 3) := by decide +kernel
theorem dX5_fillInverse_42 : decode cX5_fillInverse 42 = .ok (.iload 5, 2) := by decide +kernel
theorem dX5_fillInverse_44 : decode cX5_fillInverse 44 = .ok (.aload_n 1, 1) := by decide +kernel
theorem dX5_fillInverse_45 : decode cX5_fillInverse 45 = .ok (.iload_n 3, 1) := by decide +kernel
theorem dX5_fillInverse_46 : decode cX5_fillInverse 46 = .ok (.iload 4, 2) := by decide +kernel
theorem dX5_fillInverse_48 : decode cX5_fillInverse 48 = .ok (.invokevirtual 54, 3) := by decide +kernel
theorem dX5_fillInverse_51 : decode cX5_fillInverse 51 = .ok (.if_icmp .eq 6, 3) := by decide +kernel
theorem dX5_fillInverse_54 : decode cX5_fillInverse 54 = .ok (.iinc 2 1, 3) := by decide +kernel
theorem dX5_fillInverse_57 : decode cX5_fillInverse 57 = .ok (.iinc 4 1, 3) := by decide +kernel
theorem dX5_fillInverse_60 : decode cX5_fillInverse 60 = .ok (.goto (-45), 3) := by decide +kernel
theorem dX5_fillInverse_63 : decode cX5_fillInverse 63 = .ok (.iinc 3 1, 3) := by decide +kernel
theorem dX5_fillInverse_66 : decode cX5_fillInverse 66 = .ok (.goto (-62), 3) := by decide +kernel
theorem dX5_fillInverse_69 : decode cX5_fillInverse 69 = .ok (.iload_n 2, 1) := by decide +kernel
theorem dX5_fillInverse_70 : decode cX5_fillInverse 70 = .ok (.ireturn, 1) := by decide +kernel
theorem dX5_lowestFactor_0 : decode cX5_lowestFactor 0 = .ok (.iconst 0, 1) := by decide +kernel
theorem dX5_lowestFactor_1 : decode cX5_lowestFactor 1 = .ok (.istore_n 3, 1) := by decide +kernel
theorem dX5_lowestFactor_2 : decode cX5_lowestFactor 2 = .ok (.iload_n 3, 1) := by decide +kernel
theorem dX5_lowestFactor_3 : decode cX5_lowestFactor 3 = .ok (.aload_n 0, 1) := by decide +kernel
theorem dX5_lowestFactor_4 : decode cX5_lowestFactor 4 = .ok (.getfield 9, 3) := by decide +kernel
theorem dX5_lowestFactor_7 : decode cX5_lowestFactor 7 = .ok (.if_icmp .ge 21, 3) := by decide +kernel
theorem dX5_lowestFactor_10 : decode cX5_lowestFactor 10 = .ok (.aload_n 0, 1) := by decide +kernel
theorem dX5_lowestFactor_11 : decode cX5_lowestFactor 11 = .ok (.iload_n 3, 1) := by decide +kernel
theorem dX5_lowestFactor_12 : decode cX5_lowestFactor 12 = .ok (.iload_n 2, 1) := by decide +kernel
theorem dX5_lowestFactor_13 : decode cX5_lowestFactor 13 = .ok (.invokevirtual 54, 3) := by decide +kernel
theorem dX5_lowestFactor_16 : decode cX5_lowestFactor 16 = .ok (.iload_n 1, 1) := by decide +kernel
theorem dX5_lowestFactor_17 : decode cX5_lowestFactor 17 = .ok (.if_icmp .ne 5, 3) := by decide +kernel
theorem dX5_lowestFactor_20 : decode cX5_lowestFactor 20 = .ok (.iload_n 3, 1) := by decide +kernel
theorem dX5_lowestFactor_21 : decode cX5_lowestFactor 21 = .ok (.ireturn, 1) := by decide +kernel
theorem dX5_lowestFactor_22 : decode cX5_lowestFactor 22 = .ok (.iinc 3 1, 3) := by decide +kernel
theorem dX5_lowestFactor_25 : decode cX5_lowestFactor 25 = .ok (.goto (-23), 3) := by decide +kernel
theorem dX5_lowestFactor_28 : decode cX5_lowestFactor 28 = .ok (.bipush (-6), 2) := by decide +kernel
theorem dX5_lowestFactor_30 : decode cX5_lowestFactor 30 = .ok (.ireturn, 1) := by decide +kernel
theorem dX5_firstNotIdempotent_0 : decode cX5_firstNotIdempotent 0 = .ok (.iconst 0, 1) := by decide +kernel
theorem dX5_firstNotIdempotent_1 : decode cX5_firstNotIdempotent 1 = .ok (.istore_n 1, 1) := by decide +kernel
theorem dX5_firstNotIdempotent_2 : decode cX5_firstNotIdempotent 2 = .ok (.iload_n 1, 1) := by decide +kernel
theorem dX5_firstNotIdempotent_3 : decode cX5_firstNotIdempotent 3 = .ok (.aload_n 0, 1) := by decide +kernel
theorem dX5_firstNotIdempotent_4 : decode cX5_firstNotIdempotent 4 = .ok (.getfield 9, 3) := by decide +kernel
theorem dX5_firstNotIdempotent_7 : decode cX5_firstNotIdempotent 7 = .ok (.if_icmp .ge 21, 3) := by decide +kernel
theorem dX5_firstNotIdempotent_10 : decode cX5_firstNotIdempotent 10 = .ok (.aload_n 0, 1) := by decide +kernel
theorem dX5_firstNotIdempotent_11 : decode cX5_firstNotIdempotent 11 = .ok (.iload_n 1, 1) := by decide +kernel
theorem dX5_firstNotIdempotent_12 : decode cX5_firstNotIdempotent 12 = .ok (.iload_n 1, 1) := by decide +kernel
theorem dX5_firstNotIdempotent_13 : decode cX5_firstNotIdempotent 13 = .ok (.invokevirtual 54, 3) := by decide +kernel
theorem dX5_firstNotIdempotent_16 : decode cX5_firstNotIdempotent 16 = .ok (.iload_n 1, 1) := by decide +kernel
theorem dX5_firstNotIdempotent_17 : decode cX5_firstNotIdempotent 17 = .ok (.if_icmp .eq 5, 3) := by decide +kernel
theorem dX5_firstNotIdempotent_20 : decode cX5_firstNotIdempotent 20 = .ok (.iload_n 1, 1) := by decide +kernel
theorem dX5_firstNotIdempotent_21 : decode cX5_firstNotIdempotent 21 = .ok (.ireturn, 1) := by decide +kernel
theorem dX5_firstNotIdempotent_22 : decode cX5_firstNotIdempotent 22 = .ok (.iinc 1 1, 3) := by decide +kernel
theorem dX5_firstNotIdempotent_25 : decode cX5_firstNotIdempotent 25 = .ok (.goto (-23), 3) := by decide +kernel
theorem dX5_firstNotIdempotent_28 : decode cX5_firstNotIdempotent 28 = .ok (.bipush (-6), 2) := by decide +kernel
theorem dX5_firstNotIdempotent_30 : decode cX5_firstNotIdempotent 30 = .ok (.ireturn, 1) := by decide +kernel
theorem dX5_firstNoPermutation_0 : decode cX5_firstNoPermutation 0 = .ok (.iconst 0, 1) := by decide +kernel
theorem dX5_firstNoPermutation_1 : decode cX5_firstNoPermutation 1 = .ok (.istore_n 1, 1) := by decide +kernel
theorem dX5_firstNoPermutation_2 : decode cX5_firstNoPermutation 2 = .ok (.iload_n 1, 1) := by decide +kernel
theorem dX5_firstNoPermutation_3 : decode cX5_firstNoPermutation 3 = .ok (.aload_n 0, 1) := by decide +kernel
theorem dX5_firstNoPermutation_4 : decode cX5_firstNoPermutation 4 = .ok (.getfield 9, 3) := by decide +kernel
theorem dX5_firstNoPermutation_7 : decode cX5_firstNoPermutation 7 = .ok (.if_icmp .ge 19, 3) := by decide +kernel
theorem dX5_firstNoPermutation_10 : decode cX5_firstNoPermutation 10 = .ok (.aload_n 0, 1) := by decide +kernel
theorem dX5_firstNoPermutation_11 : decode cX5_firstNoPermutation 11 = .ok (.iload_n 1, 1) := by decide +kernel
theorem dX5_firstNoPermutation_12 : decode cX5_firstNoPermutation 12 = .ok (.invokevirtual 57, 3) := by decide +kernel
theorem dX5_firstNoPermutation_15 : decode cX5_firstNoPermutation 15 = .ok (.ifCond .ne 5, 3) := by decide +kernel
theorem dX5_firstNoPermutation_18 : decode cX5_firstNoPermutation 18 = .ok (.iload_n 1, 1) := by decide +kernel
theorem dX5_firstNoPermutation_19 : decode cX5_firstNoPermutation 19 = .ok (.ireturn, 1) := by decide +kernel
theorem dX5_firstNoPermutation_20 : decode cX5_firstNoPermutation 20 = .ok (.iinc 1 1, 3) := by decide +kernel
theorem dX5_firstNoPermutation_23 : decode cX5_firstNoPermutation 23 = .ok (.goto (-21), 3) := by decide +kernel
theorem dX5_firstNoPermutation_26 : decode cX5_firstNoPermutation 26 = .ok (.bipush (-6), 2) := by decide +kernel
theorem dX5_firstNoPermutation_28 : decode cX5_firstNoPermutation 28 = .ok (.ireturn, 1) := by decide +kernel
theorem dX5_isPermutation_0 : decode cX5_isPermutation 0 = .ok (.iconst 0, 1) := by decide +kernel
theorem dX5_isPermutation_1 : decode cX5_isPermutation 1 = .ok (.istore_n 2, 1) := by decide +kernel
theorem dX5_isPermutation_2 : decode cX5_isPermutation 2 = .ok (.iconst 0, 1) := by decide +kernel
theorem dX5_isPermutation_3 : decode cX5_isPermutation 3 = .ok (.istore_n 3, 1) := by decide +kernel
theorem dX5_isPermutation_4 : decode cX5_isPermutation 4 = .ok (.iload_n 3, 1) := by decide +kernel
theorem dX5_isPermutation_5 : decode cX5_isPermutation 5 = .ok (.aload_n 0, 1) := by decide +kernel
theorem dX5_isPermutation_6 : decode cX5_isPermutation 6 = .ok (.getfield 9, 3) := by decide +kernel
theorem dX5_isPermutation_9 : decode cX5_isPermutation 9 = .ok (.if_icmp .ge 20, 3) := by decide +kernel
theorem dX5_isPermutation_12 : decode cX5_isPermutation 12 = .ok (.iload_n 2, 1) := by decide +kernel
theorem dX5_isPermutation_13 : decode cX5_isPermutation 13 = .ok (.iconst 1, 1) := by decide +kernel
theorem dX5_isPermutation_14 : decode cX5_isPermutation 14 = .ok (.aload_n 0, 1) := by decide +kernel
theorem dX5_isPermutation_15 : decode cX5_isPermutation 15 = .ok (.iload_n 3, 1) := by decide +kernel
theorem dX5_isPermutation_16 : decode cX5_isPermutation 16 = .ok (.iload_n 1, 1) := by decide +kernel
theorem dX5_isPermutation_17 : decode cX5_isPermutation 17 = .ok (.invokevirtual 54, 3) := by decide +kernel
theorem dX5_isPermutation_20 : decode cX5_isPermutation 20 = .ok (.ishl, 1) := by decide +kernel
theorem dX5_isPermutation_21 : decode cX5_isPermutation 21 = .ok (.ior, 1) := by decide +kernel
theorem dX5_isPermutation_22 : decode cX5_isPermutation 22 = .ok (.istore_n 2, 1) := by decide +kernel
theorem dX5_isPermutation_23 : decode cX5_isPermutation 23 = .ok (.iinc 3 1, 3) := by decide +kernel
theorem dX5_isPermutation_26 : decode cX5_isPermutation 26 = .ok (.goto (-22), 3) := by decide +kernel
theorem dX5_isPermutation_29 : decode cX5_isPermutation 29 = .ok (.iload_n 2, 1) := by decide +kernel
theorem dX5_isPermutation_30 : decode cX5_isPermutation 30 = .ok (.aload_n 0, 1) := by decide +kernel
theorem dX5_isPermutation_31 : decode cX5_isPermutation 31 = .ok (.invokevirtual 61, 3) := by decide +kernel
theorem dX5_isPermutation_34 : decode cX5_isPermutation 34 = .ok (.if_icmp .ne 7, 3) := by decide +kernel
theorem dX5_isPermutation_37 : decode cX5_isPermutation 37 = .ok (.iconst 1, 1) := by decide +kernel
theorem dX5_isPermutation_38 : decode cX5_isPermutation 38 = .ok (.goto 4, 3) := by decide +kernel
theorem dX5_isPermutation_41 : decode cX5_isPermutation 41 = .ok (.iconst 0, 1) := by decide +kernel
theorem dX5_isPermutation_42 : decode cX5_isPermutation 42 = .ok (.ireturn, 1) := by decide +kernel
theorem dX5_firstNotDistributive_0 : decode cX5_firstNotDistributive 0 = .ok (.iconst 0, 1) := by decide +kernel
theorem dX5_firstNotDistributive_1 : decode cX5_firstNotDistributive 1 = .ok (.istore_n 1, 1) := by decide +kernel
theorem dX5_firstNotDistributive_2 : decode cX5_firstNotDistributive 2 = .ok (.iload_n 1, 1) := by decide +kernel
theorem dX5_firstNotDistributive_3 : decode cX5_firstNotDistributive 3 = .ok (.aload_n 0, 1) := by decide +kernel
theorem dX5_firstNotDistributive_4 : decode cX5_firstNotDistributive 4 = .ok (.getfield 9, 3) := by decide +kernel
theorem dX5_firstNotDistributive_7 : decode cX5_firstNotDistributive 7 = .ok (.if_icmp .ge 83, 3) := by decide +kernel
theorem dX5_firstNotDistributive_10 : decode cX5_firstNotDistributive 10 = .ok (.iconst 0, 1) := by decide +kernel
theorem dX5_firstNotDistributive_11 : decode cX5_firstNotDistributive 11 = .ok (.istore_n 2, 1) := by decide +kernel
theorem dX5_firstNotDistributive_12 : decode cX5_firstNotDistributive 12 = .ok (.iload_n 2, 1) := by decide +kernel
theorem dX5_firstNotDistributive_13 : decode cX5_firstNotDistributive 13 = .ok (.aload_n 0, 1) := by decide +kernel
theorem dX5_firstNotDistributive_14 : decode cX5_firstNotDistributive 14 = .ok (.getfield 9, 3) := by decide +kernel
theorem dX5_firstNotDistributive_17 : decode cX5_firstNotDistributive 17 = .ok (.if_icmp .ge 67, 3) := by decide +kernel
theorem dX5_firstNotDistributive_20 : decode cX5_firstNotDistributive 20 = .ok (.iconst 0, 1) := by decide +kernel
theorem dX5_firstNotDistributive_21 : decode cX5_firstNotDistributive 21 = .ok (.istore_n 3, 1) := by decide +kernel
theorem dX5_firstNotDistributive_22 : decode cX5_firstNotDistributive 22 = .ok (.iload_n 3, 1) := by decide +kernel
theorem dX5_firstNotDistributive_23 : decode cX5_firstNotDistributive 23 = .ok (.aload_n 0, 1) := by decide +kernel
theorem dX5_firstNotDistributive_24 : decode cX5_firstNotDistributive 24 = .ok (.getfield 9, 3) := by decide +kernel
theorem dX5_firstNotDistributive_27 : decode cX5_firstNotDistributive 27 = .ok (.if_icmp .ge 51, 3) := by decide +kernel
theorem dX5_firstNotDistributive_30 : decode cX5_firstNotDistributive 30 = .ok (.aload_n 0, 1) := by decide +kernel
theorem dX5_firstNotDistributive_31 : decode cX5_firstNotDistributive 31 = .ok (.aload_n 0, 1) := by decide +kernel
theorem dX5_firstNotDistributive_32 : decode cX5_firstNotDistributive 32 = .ok (.iload_n 1, 1) := by decide +kernel
theorem dX5_firstNotDistributive_33 : decode cX5_firstNotDistributive 33 = .ok (.iload_n 2, 1) := by decide +kernel
theorem dX5_firstNotDistributive_34 : decode cX5_firstNotDistributive 34 = .ok (.invokevirtual 54, 3) := by decide +kernel
theorem dX5_firstNotDistributive_37 : decode cX5_firstNotDistributive 37 = .ok (.iload_n 3, 1) := by decide +kernel
theorem dX5_firstNotDistributive_38 : decode cX5_firstNotDistributive 38 = .ok (.invokevirtual 54, 3) := by decide +kernel
theorem dX5_firstNotDistributive_41 : decode cX5_firstNotDistributive 41 = .ok (.aload_n 0, 1) := by decide +kernel
theorem dX5_firstNotDistributive_42 : decode cX5_firstNotDistributive 42 = .ok (.aload_n 0, 1) := by decide +kernel
theorem dX5_firstNotDistributive_43 : decode cX5_firstNotDistributive 43 = .ok (.iload_n 1, 1) := by decide +kernel
theorem dX5_firstNotDistributive_44 : decode cX5_firstNotDistributive 44 = .ok (.iload_n 3, 1) := by decide +kernel
theorem dX5_firstNotDistributive_45 : decode cX5_firstNotDistributive 45 = .ok (.invokevirtual 54, 3) := by decide +kernel
theorem dX5_firstNotDistributive_48 : decode cX5_firstNotDistributive 48 = .ok (.aload_n 0, 1) := by decide +kernel
theorem dX5_firstNotDistributive_49 : decode cX5_firstNotDistributive 49 = .ok (.iload_n 2, 1) := by decide +kernel
theorem dX5_firstNotDistributive_50 : decode cX5_firstNotDistributive 50 = .ok (.iload_n 3, 1) := by decide +kernel
theorem dX5_firstNotDistributive_51 : decode cX5_firstNotDistributive 51 = .ok (.invokevirtual 54, 3) := by decide +kernel
theorem dX5_firstNotDistributive_54 : decode cX5_firstNotDistributive 54 = .ok (.invokevirtual 54, 3) := by decide +kernel
theorem dX5_firstNotDistributive_57 : decode cX5_firstNotDistributive 57 = .ok (.if_icmp .eq 15, 3) := by decide +kernel
theorem dX5_firstNotDistributive_60 : decode cX5_firstNotDistributive 60 = .ok (.bipush 100, 2) := by decide +kernel
theorem dX5_firstNotDistributive_62 : decode cX5_firstNotDistributive 62 = .ok (.iload_n 1, 1) := by decide +kernel
theorem dX5_firstNotDistributive_63 : decode cX5_firstNotDistributive 63 = .ok (.imul, 1) := by decide +kernel
theorem dX5_firstNotDistributive_64 : decode cX5_firstNotDistributive 64 = .ok (.bipush 10, 2) := by decide +kernel
theorem dX5_firstNotDistributive_66 : decode cX5_firstNotDistributive 66 = .ok (.iload_n 2, 1) := by decide +kernel
theorem dX5_firstNotDistributive_67 : decode cX5_firstNotDistributive 67 = .ok (.imul, 1) := by decide +kernel
theorem dX5_firstNotDistributive_68 : decode cX5_firstNotDistributive 68 = .ok (.iadd, 1) := by decide +kernel
theorem dX5_firstNotDistributive_69 : decode cX5_firstNotDistributive 69 = .ok (.iload_n 3, 1) := by decide +kernel
theorem dX5_firstNotDistributive_70 : decode cX5_firstNotDistributive 70 = .ok (.iadd, 1) := by decide +kernel
theorem dX5_firstNotDistributive_71 : decode cX5_firstNotDistributive 71 = .ok (.ireturn, 1) := by decide +kernel
theorem dX5_firstNotDistributive_72 : decode cX5_firstNotDistributive 72 = .ok (.iinc 3 1, 3) := by decide +kernel
theorem dX5_firstNotDistributive_75 : decode cX5_firstNotDistributive 75 = .ok (.goto (-53), 3) := by decide +kernel
theorem dX5_firstNotDistributive_78 : decode cX5_firstNotDistributive 78 = .ok (.iinc 2 1, 3) := by decide +kernel
theorem dX5_firstNotDistributive_81 : decode cX5_firstNotDistributive 81 = .ok (.goto (-69), 3) := by decide +kernel
theorem dX5_firstNotDistributive_84 : decode cX5_firstNotDistributive 84 = .ok (.iinc 1 1, 3) := by decide +kernel
theorem dX5_firstNotDistributive_87 : decode cX5_firstNotDistributive 87 = .ok (.goto (-85), 3) := by decide +kernel
theorem dX5_firstNotDistributive_90 : decode cX5_firstNotDistributive 90 = .ok (.bipush (-6), 2) := by decide +kernel
theorem dX5_firstNotDistributive_92 : decode cX5_firstNotDistributive 92 = .ok (.ireturn, 1) := by decide +kernel
theorem dX5_allElements_0 : decode cX5_allElements 0 = .ok (.iconst 1, 1) := by decide +kernel
theorem dX5_allElements_1 : decode cX5_allElements 1 = .ok (.aload_n 0, 1) := by decide +kernel
theorem dX5_allElements_2 : decode cX5_allElements 2 = .ok (.getfield 9, 3) := by decide +kernel
theorem dX5_allElements_5 : decode cX5_allElements 5 = .ok (.ishl, 1) := by decide +kernel
theorem dX5_allElements_6 : decode cX5_allElements 6 = .ok (.iconst 1, 1) := by decide +kernel
theorem dX5_allElements_7 : decode cX5_allElements 7 = .ok (.isub, 1) := by decide +kernel
theorem dX5_allElements_8 : decode cX5_allElements 8 = .ok (.ireturn, 1) := by decide +kernel
theorem dX5_reachedFrom_0 : decode cX5_reachedFrom 0 = .ok (.iconst 1, 1) := by decide +kernel
theorem dX5_reachedFrom_1 : decode cX5_reachedFrom 1 = .ok (.iload_n 1, 1) := by decide +kernel
theorem dX5_reachedFrom_2 : decode cX5_reachedFrom 2 = .ok (.ishl, 1) := by decide +kernel
theorem dX5_reachedFrom_3 : decode cX5_reachedFrom 3 = .ok (.istore_n 2, 1) := by decide +kernel
theorem dX5_reachedFrom_4 : decode cX5_reachedFrom 4 = .ok (.iconst 0, 1) := by decide +kernel
theorem dX5_reachedFrom_5 : decode cX5_reachedFrom 5 = .ok (.istore_n 3, 1) := by decide +kernel
theorem dX5_reachedFrom_6 : decode cX5_reachedFrom 6 = .ok (.iload_n 3, 1) := by decide +kernel
theorem dX5_reachedFrom_7 : decode cX5_reachedFrom 7 = .ok (.aload_n 0, 1) := by decide +kernel
theorem dX5_reachedFrom_8 : decode cX5_reachedFrom 8 = .ok (.getfield 9, 3) := by decide +kernel
theorem dX5_reachedFrom_11 : decode cX5_reachedFrom 11 = .ok (.if_icmp .ge 68, 3) := by decide +kernel
theorem dX5_reachedFrom_14 : decode cX5_reachedFrom 14 = .ok (.iconst 0, 1) := by decide +kernel
theorem dX5_reachedFrom_15 : decode cX5_reachedFrom 15 = .ok (.istore 4, 2) := by decide +kernel
theorem dX5_reachedFrom_17 : decode cX5_reachedFrom 17 = .ok (.iload 4, 2) := by decide +kernel
theorem dX5_reachedFrom_19 : decode cX5_reachedFrom 19 = .ok (.aload_n 0, 1) := by decide +kernel
theorem dX5_reachedFrom_20 : decode cX5_reachedFrom 20 = .ok (.getfield 9, 3) := by decide +kernel
theorem dX5_reachedFrom_23 : decode cX5_reachedFrom 23 = .ok (.if_icmp .ge 50, 3) := by decide +kernel
theorem dX5_reachedFrom_26 : decode cX5_reachedFrom 26 = .ok (.iconst 0, 1) := by decide +kernel
theorem dX5_reachedFrom_27 : decode cX5_reachedFrom 27 = .ok (.istore 5, 2) := by decide +kernel
theorem dX5_reachedFrom_29 : decode cX5_reachedFrom 29 = .ok (.iload 5, 2) := by decide +kernel
theorem dX5_reachedFrom_31 : decode cX5_reachedFrom 31 = .ok (.aload_n 0, 1) := by decide +kernel
theorem dX5_reachedFrom_32 : decode cX5_reachedFrom 32 = .ok (.getfield 9, 3) := by decide +kernel
theorem dX5_reachedFrom_35 : decode cX5_reachedFrom 35 = .ok (.if_icmp .ge 32, 3) := by decide +kernel
theorem dX5_reachedFrom_38 : decode cX5_reachedFrom 38 = .ok (.iload_n 2, 1) := by decide +kernel
theorem dX5_reachedFrom_39 : decode cX5_reachedFrom 39 = .ok (.iload 4, 2) := by decide +kernel
theorem dX5_reachedFrom_41 : decode cX5_reachedFrom 41 = .ok (.ishr, 1) := by decide +kernel
theorem dX5_reachedFrom_42 : decode cX5_reachedFrom 42 = .ok (.iconst 1, 1) := by decide +kernel
theorem dX5_reachedFrom_43 : decode cX5_reachedFrom 43 = .ok (.iand, 1) := by decide +kernel
theorem dX5_reachedFrom_44 : decode cX5_reachedFrom 44 = .ok (.iconst 1, 1) := by decide +kernel
theorem dX5_reachedFrom_45 : decode cX5_reachedFrom 45 = .ok (.if_icmp .ne 16, 3) := by decide +kernel
theorem dX5_reachedFrom_48 : decode cX5_reachedFrom 48 = .ok (.iload_n 2, 1) := by decide +kernel
theorem dX5_reachedFrom_49 : decode cX5_reachedFrom 49 = .ok (.iconst 1, 1) := by decide +kernel
theorem dX5_reachedFrom_50 : decode cX5_reachedFrom 50 = .ok (.aload_n 0, 1) := by decide +kernel
theorem dX5_reachedFrom_51 : decode cX5_reachedFrom 51 = .ok (.iload 4, 2) := by decide +kernel
theorem dX5_reachedFrom_53 : decode cX5_reachedFrom 53 = .ok (.iload 5, 2) := by decide +kernel
theorem dX5_reachedFrom_55 : decode cX5_reachedFrom 55 = .ok (.invokevirtual 54, 3) := by decide +kernel
theorem dX5_reachedFrom_58 : decode cX5_reachedFrom 58 = .ok (.ishl, 1) := by decide +kernel
theorem dX5_reachedFrom_59 : decode cX5_reachedFrom 59 = .ok (.ior, 1) := by decide +kernel
theorem dX5_reachedFrom_60 : decode cX5_reachedFrom 60 = .ok (.istore_n 2, 1) := by decide +kernel
theorem dX5_reachedFrom_61 : decode cX5_reachedFrom 61 = .ok (.iinc 5 1, 3) := by decide +kernel
theorem dX5_reachedFrom_64 : decode cX5_reachedFrom 64 = .ok (.goto (-35), 3) := by decide +kernel
theorem dX5_reachedFrom_67 : decode cX5_reachedFrom 67 = .ok (.iinc 4 1, 3) := by decide +kernel
theorem dX5_reachedFrom_70 : decode cX5_reachedFrom 70 = .ok (.goto (-53), 3) := by decide +kernel
theorem dX5_reachedFrom_73 : decode cX5_reachedFrom 73 = .ok (.iinc 3 1, 3) := by decide +kernel
theorem dX5_reachedFrom_76 : decode cX5_reachedFrom 76 = .ok (.goto (-70), 3) := by decide +kernel
theorem dX5_reachedFrom_79 : decode cX5_reachedFrom 79 = .ok (.iload_n 2, 1) := by decide +kernel
theorem dX5_reachedFrom_80 : decode cX5_reachedFrom 80 = .ok (.ireturn, 1) := by decide +kernel
theorem dX5_countComponents_0 : decode cX5_countComponents 0 = .ok (.iconst 0, 1) := by decide +kernel
theorem dX5_countComponents_1 : decode cX5_countComponents 1 = .ok (.istore_n 1, 1) := by decide +kernel
theorem dX5_countComponents_2 : decode cX5_countComponents 2 = .ok (.iconst 0, 1) := by decide +kernel
theorem dX5_countComponents_3 : decode cX5_countComponents 3 = .ok (.istore_n 2, 1) := by decide +kernel
theorem dX5_countComponents_4 : decode cX5_countComponents 4 = .ok (.iconst 0, 1) := by decide +kernel
theorem dX5_countComponents_5 : decode cX5_countComponents 5 = .ok (.istore_n 3, 1) := by decide +kernel
theorem dX5_countComponents_6 : decode cX5_countComponents 6 = .ok (.iload_n 3, 1) := by decide +kernel
theorem dX5_countComponents_7 : decode cX5_countComponents 7 = .ok (.aload_n 0, 1) := by decide +kernel
theorem dX5_countComponents_8 : decode cX5_countComponents 8 = .ok (.getfield 9, 3) := by decide +kernel
theorem dX5_countComponents_11 : decode cX5_countComponents 11 = .ok (.if_icmp .ge 28, 3) := by decide +kernel
theorem dX5_countComponents_14 : decode cX5_countComponents 14 = .ok (.iload_n 2, 1) := by decide +kernel
theorem dX5_countComponents_15 : decode cX5_countComponents 15 = .ok (.iload_n 3, 1) := by decide +kernel
theorem dX5_countComponents_16 : decode cX5_countComponents 16 = .ok (.ishr, 1) := by decide +kernel
theorem dX5_countComponents_17 : decode cX5_countComponents 17 = .ok (.iconst 1, 1) := by decide +kernel
theorem dX5_countComponents_18 : decode cX5_countComponents 18 = .ok (.iand, 1) := by decide +kernel
theorem dX5_countComponents_19 : decode cX5_countComponents 19 = .ok (.ifCond .ne 14, 3) := by decide +kernel
theorem dX5_countComponents_22 : decode cX5_countComponents 22 = .ok (.iinc 1 1, 3) := by decide +kernel
theorem dX5_countComponents_25 : decode cX5_countComponents 25 = .ok (.iload_n 2, 1) := by decide +kernel
theorem dX5_countComponents_26 : decode cX5_countComponents 26 = .ok (.aload_n 0, 1) := by decide +kernel
theorem dX5_countComponents_27 : decode cX5_countComponents 27 = .ok (.iload_n 3, 1) := by decide +kernel
theorem dX5_countComponents_28 : decode cX5_countComponents 28 = .ok (.invokevirtual 65, 3) := by decide +kernel
theorem dX5_countComponents_31 : decode cX5_countComponents 31 = .ok (.ior, 1) := by decide +kernel
theorem dX5_countComponents_32 : decode cX5_countComponents 32 = .ok (.istore_n 2, 1) := by decide +kernel
theorem dX5_countComponents_33 : decode cX5_countComponents 33 = .ok (.iinc 3 1, 3) := by decide +kernel
theorem dX5_countComponents_36 : decode cX5_countComponents 36 = .ok (.goto (-30), 3) := by decide +kernel
theorem dX5_countComponents_39 : decode cX5_countComponents 39 = .ok (.iload_n 1, 1) := by decide +kernel
theorem dX5_countComponents_40 : decode cX5_countComponents 40 = .ok (.ireturn, 1) := by decide +kernel
theorem dX5_componentOf_0 : decode cX5_componentOf 0 = .ok (.iconst 1, 1) := by decide +kernel
theorem dX5_componentOf_1 : decode cX5_componentOf 1 = .ok (.iload_n 1, 1) := by decide +kernel
theorem dX5_componentOf_2 : decode cX5_componentOf 2 = .ok (.ishl, 1) := by decide +kernel
theorem dX5_componentOf_3 : decode cX5_componentOf 3 = .ok (.istore_n 2, 1) := by decide +kernel
theorem dX5_componentOf_4 : decode cX5_componentOf 4 = .ok (.iconst 0, 1) := by decide +kernel
theorem dX5_componentOf_5 : decode cX5_componentOf 5 = .ok (.istore_n 3, 1) := by decide +kernel
theorem dX5_componentOf_6 : decode cX5_componentOf 6 = .ok (.iload_n 3, 1) := by decide +kernel
theorem dX5_componentOf_7 : decode cX5_componentOf 7 = .ok (.aload_n 0, 1) := by decide +kernel
theorem dX5_componentOf_8 : decode cX5_componentOf 8 = .ok (.getfield 9, 3) := by decide +kernel
theorem dX5_componentOf_11 : decode cX5_componentOf 11 = .ok (.if_icmp .ge 74, 3) := by decide +kernel
theorem dX5_componentOf_14 : decode cX5_componentOf 14 = .ok (.iconst 0, 1) := by decide +kernel
theorem dX5_componentOf_15 : decode cX5_componentOf 15 = .ok (.istore 4, 2) := by decide +kernel
theorem dX5_componentOf_17 : decode cX5_componentOf 17 = .ok (.iload 4, 2) := by decide +kernel
theorem dX5_componentOf_19 : decode cX5_componentOf 19 = .ok (.aload_n 0, 1) := by decide +kernel
theorem dX5_componentOf_20 : decode cX5_componentOf 20 = .ok (.getfield 9, 3) := by decide +kernel
theorem dX5_componentOf_23 : decode cX5_componentOf 23 = .ok (.if_icmp .ge 56, 3) := by decide +kernel
theorem dX5_componentOf_26 : decode cX5_componentOf 26 = .ok (.iconst 0, 1) := by decide +kernel
theorem dX5_componentOf_27 : decode cX5_componentOf 27 = .ok (.istore 5, 2) := by decide +kernel
theorem dX5_componentOf_29 : decode cX5_componentOf 29 = .ok (.iload 5, 2) := by decide +kernel
theorem dX5_componentOf_31 : decode cX5_componentOf 31 = .ok (.aload_n 0, 1) := by decide +kernel
theorem dX5_componentOf_32 : decode cX5_componentOf 32 = .ok (.getfield 9, 3) := by decide +kernel
theorem dX5_componentOf_35 : decode cX5_componentOf 35 = .ok (.if_icmp .ge 38, 3) := by decide +kernel
theorem dX5_componentOf_38 : decode cX5_componentOf 38 = .ok (.iconst 1, 1) := by decide +kernel
theorem dX5_componentOf_39 : decode cX5_componentOf 39 = .ok (.iload 4, 2) := by decide +kernel
theorem dX5_componentOf_41 : decode cX5_componentOf 41 = .ok (.ishl, 1) := by decide +kernel
theorem dX5_componentOf_42 : decode cX5_componentOf 42 = .ok (.iconst 1, 1) := by decide +kernel
theorem dX5_componentOf_43 : decode cX5_componentOf 43 = .ok (.aload_n 0, 1) := by decide +kernel
theorem dX5_componentOf_44 : decode cX5_componentOf 44 = .ok (.iload 4, 2) := by decide +kernel
theorem dX5_componentOf_46 : decode cX5_componentOf 46 = .ok (.iload 5, 2) := by decide +kernel
theorem dX5_componentOf_48 : decode cX5_componentOf 48 = .ok (.invokevirtual 54, 3) := by decide +kernel
theorem dX5_componentOf_51 : decode cX5_componentOf 51 = .ok (.ishl, 1) := by decide +kernel
theorem dX5_componentOf_52 : decode cX5_componentOf 52 = .ok (.ior, 1) := by decide +kernel
theorem dX5_componentOf_53 : decode cX5_componentOf 53 = .ok (.istore 6, 2) := by decide +kernel
theorem dX5_componentOf_55 : decode cX5_componentOf 55 = .ok (.iload_n 2, 1) := by decide +kernel
theorem dX5_componentOf_56 : decode cX5_componentOf 56 = .ok (.iload 6, 2) := by decide +kernel
theorem dX5_componentOf_58 : decode cX5_componentOf 58 = .ok (.iand, 1) := by decide +kernel
theorem dX5_componentOf_59 : decode cX5_componentOf 59 = .ok (.ifCond .eq 8, 3) := by decide +kernel
theorem dX5_componentOf_62 : decode cX5_componentOf 62 = .ok (.iload_n 2, 1) := by decide +kernel
theorem dX5_componentOf_63 : decode cX5_componentOf 63 = .ok (.iload 6, 2) := by decide +kernel
theorem dX5_componentOf_65 : decode cX5_componentOf 65 = .ok (.ior, 1) := by decide +kernel
theorem dX5_componentOf_66 : decode cX5_componentOf 66 = .ok (.istore_n 2, 1) := by decide +kernel
theorem dX5_componentOf_67 : decode cX5_componentOf 67 = .ok (.iinc 5 1, 3) := by decide +kernel
theorem dX5_componentOf_70 : decode cX5_componentOf 70 = .ok (.goto (-41), 3) := by decide +kernel
theorem dX5_componentOf_73 : decode cX5_componentOf 73 = .ok (.iinc 4 1, 3) := by decide +kernel
theorem dX5_componentOf_76 : decode cX5_componentOf 76 = .ok (.goto (-59), 3) := by decide +kernel
theorem dX5_componentOf_79 : decode cX5_componentOf 79 = .ok (.iinc 3 1, 3) := by decide +kernel
theorem dX5_componentOf_82 : decode cX5_componentOf 82 = .ok (.goto (-76), 3) := by decide +kernel
theorem dX5_componentOf_85 : decode cX5_componentOf 85 = .ok (.iload_n 2, 1) := by decide +kernel
theorem dX5_componentOf_86 : decode cX5_componentOf 86 = .ok (.ireturn, 1) := by decide +kernel
theorem dX5_closureOf_0 : decode cX5_closureOf 0 = .ok (.iload_n 1, 1) := by decide +kernel
theorem dX5_closureOf_1 : decode cX5_closureOf 1 = .ok (.istore_n 2, 1) := by decide +kernel
theorem dX5_closureOf_2 : decode cX5_closureOf 2 = .ok (.iconst 0, 1) := by decide +kernel
theorem dX5_closureOf_3 : decode cX5_closureOf 3 = .ok (.istore_n 3, 1) := by decide +kernel
theorem dX5_closureOf_4 : decode cX5_closureOf 4 = .ok (.iload_n 3, 1) := by decide +kernel
theorem dX5_closureOf_5 : decode cX5_closureOf 5 = .ok (.aload_n 0, 1) := by decide +kernel
theorem dX5_closureOf_6 : decode cX5_closureOf 6 = .ok (.getfield 9, 3) := by decide +kernel
theorem dX5_closureOf_9 : decode cX5_closureOf 9 = .ok (.if_icmp .ge 78, 3) := by decide +kernel
theorem dX5_closureOf_12 : decode cX5_closureOf 12 = .ok (.iconst 0, 1) := by decide +kernel
theorem dX5_closureOf_13 : decode cX5_closureOf 13 = .ok (.istore 4, 2) := by decide +kernel
theorem dX5_closureOf_15 : decode cX5_closureOf 15 = .ok (.iload 4, 2) := by decide +kernel
theorem dX5_closureOf_17 : decode cX5_closureOf 17 = .ok (.aload_n 0, 1) := by decide +kernel
theorem dX5_closureOf_18 : decode cX5_closureOf 18 = .ok (.getfield 9, 3) := by decide +kernel
theorem dX5_closureOf_21 : decode cX5_closureOf 21 = .ok (.if_icmp .ge 60, 3) := by decide +kernel
theorem dX5_closureOf_24 : decode cX5_closureOf 24 = .ok (.iconst 0, 1) := by decide +kernel
theorem dX5_closureOf_25 : decode cX5_closureOf 25 = .ok (.istore 5, 2) := by decide +kernel
theorem dX5_closureOf_27 : decode cX5_closureOf 27 = .ok (.iload 5, 2) := by decide +kernel
theorem dX5_closureOf_29 : decode cX5_closureOf 29 = .ok (.aload_n 0, 1) := by decide +kernel
theorem dX5_closureOf_30 : decode cX5_closureOf 30 = .ok (.getfield 9, 3) := by decide +kernel
theorem dX5_closureOf_33 : decode cX5_closureOf 33 = .ok (.if_icmp .ge 42, 3) := by decide +kernel
theorem dX5_closureOf_36 : decode cX5_closureOf 36 = .ok (.iload_n 2, 1) := by decide +kernel
theorem dX5_closureOf_37 : decode cX5_closureOf 37 = .ok (.iload 4, 2) := by decide +kernel
theorem dX5_closureOf_39 : decode cX5_closureOf 39 = .ok (.ishr, 1) := by decide +kernel
theorem dX5_closureOf_40 : decode cX5_closureOf 40 = .ok (.iconst 1, 1) := by decide +kernel
theorem dX5_closureOf_41 : decode cX5_closureOf 41 = .ok (.iand, 1) := by decide +kernel
theorem dX5_closureOf_42 : decode cX5_closureOf 42 = .ok (.iconst 1, 1) := by decide +kernel
theorem dX5_closureOf_43 : decode cX5_closureOf 43 = .ok (.if_icmp .ne 26, 3) := by decide +kernel
theorem dX5_closureOf_46 : decode cX5_closureOf 46 = .ok (.iload_n 2, 1) := by decide +kernel
theorem dX5_closureOf_47 : decode cX5_closureOf 47 = .ok (.iload 5, 2) := by decide +kernel
theorem dX5_closureOf_49 : decode cX5_closureOf 49 = .ok (.ishr, 1) := by decide +kernel
theorem dX5_closureOf_50 : decode cX5_closureOf 50 = .ok (.iconst 1, 1) := by decide +kernel
theorem dX5_closureOf_51 : decode cX5_closureOf 51 = .ok (.iand, 1) := by decide +kernel
theorem dX5_closureOf_52 : decode cX5_closureOf 52 = .ok (.iconst 1, 1) := by decide +kernel
theorem dX5_closureOf_53 : decode cX5_closureOf 53 = .ok (.if_icmp .ne 16, 3) := by decide +kernel
theorem dX5_closureOf_56 : decode cX5_closureOf 56 = .ok (.iload_n 2, 1) := by decide +kernel
theorem dX5_closureOf_57 : decode cX5_closureOf 57 = .ok (.iconst 1, 1) := by decide +kernel
theorem dX5_closureOf_58 : decode cX5_closureOf 58 = .ok (.aload_n 0, 1) := by decide +kernel
theorem dX5_closureOf_59 : decode cX5_closureOf 59 = .ok (.iload 4, 2) := by decide +kernel
theorem dX5_closureOf_61 : decode cX5_closureOf 61 = .ok (.iload 5, 2) := by decide +kernel
theorem dX5_closureOf_63 : decode cX5_closureOf 63 = .ok (.invokevirtual 54, 3) := by decide +kernel
theorem dX5_closureOf_66 : decode cX5_closureOf 66 = .ok (.ishl, 1) := by decide +kernel
theorem dX5_closureOf_67 : decode cX5_closureOf 67 = .ok (.ior, 1) := by decide +kernel
theorem dX5_closureOf_68 : decode cX5_closureOf 68 = .ok (.istore_n 2, 1) := by decide +kernel
theorem dX5_closureOf_69 : decode cX5_closureOf 69 = .ok (.iinc 5 1, 3) := by decide +kernel
theorem dX5_closureOf_72 : decode cX5_closureOf 72 = .ok (.goto (-45), 3) := by decide +kernel
theorem dX5_closureOf_75 : decode cX5_closureOf 75 = .ok (.iinc 4 1, 3) := by decide +kernel
theorem dX5_closureOf_78 : decode cX5_closureOf 78 = .ok (.goto (-63), 3) := by decide +kernel
theorem dX5_closureOf_81 : decode cX5_closureOf 81 = .ok (.iinc 3 1, 3) := by decide +kernel
theorem dX5_closureOf_84 : decode cX5_closureOf 84 = .ok (.goto (-80), 3) := by decide +kernel
theorem dX5_closureOf_87 : decode cX5_closureOf 87 = .ok (.iload_n 2, 1) := by decide +kernel
theorem dX5_closureOf_88 : decode cX5_closureOf 88 = .ok (.ireturn, 1) := by decide +kernel
theorem dX5_leastGenerators_0 : decode cX5_leastGenerators 0 = .ok (.aload_n 0, 1) := by decide +kernel
theorem dX5_leastGenerators_1 : decode cX5_leastGenerators 1 = .ok (.getfield 9, 3) := by decide +kernel
theorem dX5_leastGenerators_4 : decode cX5_leastGenerators 4 = .ok (.istore_n 1, 1) := by decide +kernel
theorem dX5_leastGenerators_5 : decode cX5_leastGenerators 5 = .ok (.iconst 0, 1) := by decide +kernel
theorem dX5_leastGenerators_6 : decode cX5_leastGenerators 6 = .ok (.istore_n 2, 1) := by decide +kernel
theorem dX5_leastGenerators_7 : decode cX5_leastGenerators 7 = .ok (.iload_n 2, 1) := by decide +kernel
theorem dX5_leastGenerators_8 : decode cX5_leastGenerators 8 = .ok (.aload_n 0, 1) := by decide +kernel
theorem dX5_leastGenerators_9 : decode cX5_leastGenerators 9 = .ok (.invokevirtual 61, 3) := by decide +kernel
theorem dX5_leastGenerators_12 : decode cX5_leastGenerators 12 = .ok (.if_icmp .gt 30, 3) := by decide +kernel
theorem dX5_leastGenerators_15 : decode cX5_leastGenerators 15 = .ok (.aload_n 0, 1) := by decide +kernel
theorem dX5_leastGenerators_16 : decode cX5_leastGenerators 16 = .ok (.iload_n 2, 1) := by decide +kernel
theorem dX5_leastGenerators_17 : decode cX5_leastGenerators 17 = .ok (.invokevirtual 69, 3) := by decide +kernel
theorem dX5_leastGenerators_20 : decode cX5_leastGenerators 20 = .ok (.aload_n 0, 1) := by decide +kernel
theorem dX5_leastGenerators_21 : decode cX5_leastGenerators 21 = .ok (.invokevirtual 61, 3) := by decide +kernel
theorem dX5_leastGenerators_24 : decode cX5_leastGenerators 24 = .ok (.if_icmp .ne 12, 3) := by decide +kernel
theorem dX5_leastGenerators_27 : decode cX5_leastGenerators 27 = .ok (.iload_n 1, 1) := by decide +kernel
theorem dX5_leastGenerators_28 : decode cX5_leastGenerators 28 = .ok (.iload_n 2, 1) := by decide +kernel
theorem dX5_leastGenerators_29 : decode cX5_leastGenerators 29 = .ok (.invokestatic 72, 3) := by decide +kernel
theorem dX5_leastGenerators_32 : decode cX5_leastGenerators 32 = .ok (.invokestatic 45, 3) := by decide +kernel
theorem dX5_leastGenerators_35 : decode cX5_leastGenerators 35 = .ok (.istore_n 1, 1) := by decide +kernel
theorem dX5_leastGenerators_36 : decode cX5_leastGenerators 36 = .ok (.iinc 2 1, 3) := by decide +kernel
theorem dX5_leastGenerators_39 : decode cX5_leastGenerators 39 = .ok (.goto (-32), 3) := by decide +kernel
theorem dX5_leastGenerators_42 : decode cX5_leastGenerators 42 = .ok (.iload_n 1, 1) := by decide +kernel
theorem dX5_leastGenerators_43 : decode cX5_leastGenerators 43 = .ok (.ireturn, 1) := by decide +kernel
theorem dX5_orderOfTranslation_0 : decode cX5_orderOfTranslation 0 = .ok (.aload_n 0, 1) := by decide +kernel
theorem dX5_orderOfTranslation_1 : decode cX5_orderOfTranslation 1 = .ok (.iload_n 1, 1) := by decide +kernel
theorem dX5_orderOfTranslation_2 : decode cX5_orderOfTranslation 2 = .ok (.invokevirtual 57, 3) := by decide +kernel
theorem dX5_orderOfTranslation_5 : decode cX5_orderOfTranslation 5 = .ok (.ifCond .ne 6, 3) := by decide +kernel
theorem dX5_orderOfTranslation_8 : decode cX5_orderOfTranslation 8 = .ok (.bipush (-6), 2) := by decide +kernel
theorem dX5_orderOfTranslation_10 : decode cX5_orderOfTranslation 10 = .ok (.ireturn, 1) := by decide +kernel
theorem dX5_orderOfTranslation_11 : decode cX5_orderOfTranslation 11 = .ok (.iconst 1, 1) := by decide +kernel
theorem dX5_orderOfTranslation_12 : decode cX5_orderOfTranslation 12 = .ok (.istore_n 2, 1) := by decide +kernel
theorem dX5_orderOfTranslation_13 : decode cX5_orderOfTranslation 13 = .ok (.iload_n 2, 1) := by decide +kernel
theorem dX5_orderOfTranslation_14 : decode cX5_orderOfTranslation 14 = .ok (.bipush 6, 2) := by decide +kernel
theorem dX5_orderOfTranslation_16 : decode cX5_orderOfTranslation 16 = .ok (.if_icmp .ge 18, 3) := by decide +kernel
theorem dX5_orderOfTranslation_19 : decode cX5_orderOfTranslation 19 = .ok (.aload_n 0, 1) := by decide +kernel
theorem dX5_orderOfTranslation_20 : decode cX5_orderOfTranslation 20 = .ok (.iload_n 1, 1) := by decide +kernel
theorem dX5_orderOfTranslation_21 : decode cX5_orderOfTranslation 21 = .ok (.iload_n 2, 1) := by decide +kernel
theorem dX5_orderOfTranslation_22 : decode cX5_orderOfTranslation 22 = .ok (.invokevirtual 77, 3) := by decide +kernel
theorem dX5_orderOfTranslation_25 : decode cX5_orderOfTranslation 25 = .ok (.ifCond .ne 9, 3) := by decide +kernel
theorem dX5_orderOfTranslation_28 : decode cX5_orderOfTranslation 28 = .ok (.iinc 2 1, 3) := by decide +kernel
theorem dX5_orderOfTranslation_31 : decode cX5_orderOfTranslation 31 = .ok (.goto (-18), 3) := by decide +kernel
theorem dX5_orderOfTranslation_34 : decode cX5_orderOfTranslation 34 = .ok (.iload_n 2, 1) := by decide +kernel
theorem dX5_orderOfTranslation_35 : decode cX5_orderOfTranslation 35 = .ok (.ireturn, 1) := by decide +kernel
theorem dX5_isIdentityAfter_0 : decode cX5_isIdentityAfter 0 = .ok (.iconst 0, 1) := by decide +kernel
theorem dX5_isIdentityAfter_1 : decode cX5_isIdentityAfter 1 = .ok (.istore_n 3, 1) := by decide +kernel
theorem dX5_isIdentityAfter_2 : decode cX5_isIdentityAfter 2 = .ok (.iload_n 3, 1) := by decide +kernel
theorem dX5_isIdentityAfter_3 : decode cX5_isIdentityAfter 3 = .ok (.aload_n 0, 1) := by decide +kernel
theorem dX5_isIdentityAfter_4 : decode cX5_isIdentityAfter 4 = .ok (.getfield 9, 3) := by decide +kernel
theorem dX5_isIdentityAfter_7 : decode cX5_isIdentityAfter 7 = .ok (.if_icmp .ge 44, 3) := by decide +kernel
theorem dX5_isIdentityAfter_10 : decode cX5_isIdentityAfter 10 = .ok (.iload_n 3, 1) := by decide +kernel
theorem dX5_isIdentityAfter_11 : decode cX5_isIdentityAfter 11 = .ok (.istore 4, 2) := by decide +kernel
theorem dX5_isIdentityAfter_13 : decode cX5_isIdentityAfter 13 = .ok (.iconst 0, 1) := by decide +kernel
theorem dX5_isIdentityAfter_14 : decode cX5_isIdentityAfter 14 = .ok (.istore 5, 2) := by decide +kernel
theorem dX5_isIdentityAfter_16 : decode cX5_isIdentityAfter 16 = .ok (.iload 5, 2) := by decide +kernel
theorem dX5_isIdentityAfter_18 : decode cX5_isIdentityAfter 18 = .ok (.iload_n 2, 1) := by decide +kernel
theorem dX5_isIdentityAfter_19 : decode cX5_isIdentityAfter 19 = .ok (.if_icmp .ge 18, 3) := by decide +kernel
theorem dX5_isIdentityAfter_22 : decode cX5_isIdentityAfter 22 = .ok (.aload_n 0, 1) := by decide +kernel
theorem dX5_isIdentityAfter_23 : decode cX5_isIdentityAfter 23 = .ok (.iload 4, 2) := by decide +kernel
theorem dX5_isIdentityAfter_25 : decode cX5_isIdentityAfter 25 = .ok (.iload_n 1, 1) := by decide +kernel
theorem dX5_isIdentityAfter_26 : decode cX5_isIdentityAfter 26 = .ok (.invokevirtual 54, 3) := by decide +kernel
theorem dX5_isIdentityAfter_29 : decode cX5_isIdentityAfter 29 = .ok (.istore 4, 2) := by decide +kernel
theorem dX5_isIdentityAfter_31 : decode cX5_isIdentityAfter 31 = .ok (.iinc 5 1, 3) := by decide +kernel
theorem dX5_isIdentityAfter_34 : decode cX5_isIdentityAfter 34 = .ok (.goto (-18), 3) := by decide +kernel
theorem dX5_isIdentityAfter_37 : decode cX5_isIdentityAfter 37 = .ok (.iload 4, 2) := by decide +kernel
theorem dX5_isIdentityAfter_39 : decode cX5_isIdentityAfter 39 = .ok (.iload_n 3, 1) := by decide +kernel
theorem dX5_isIdentityAfter_40 : decode cX5_isIdentityAfter 40 = .ok (.if_icmp .eq 5, 3) := by decide +kernel
theorem dX5_isIdentityAfter_43 : decode cX5_isIdentityAfter 43 = .ok (.iconst 0, 1) := by decide +kernel
theorem dX5_isIdentityAfter_44 : decode cX5_isIdentityAfter 44 = .ok (.ireturn, 1) := by decide +kernel
theorem dX5_isIdentityAfter_45 : decode cX5_isIdentityAfter 45 = .ok (.iinc 3 1, 3) := by decide +kernel
theorem dX5_isIdentityAfter_48 : decode cX5_isIdentityAfter 48 = .ok (.goto (-46), 3) := by decide +kernel
theorem dX5_isIdentityAfter_51 : decode cX5_isIdentityAfter 51 = .ok (.iconst 1, 1) := by decide +kernel
theorem dX5_isIdentityAfter_52 : decode cX5_isIdentityAfter 52 = .ok (.ireturn, 1) := by decide +kernel
theorem dX5_countTranslations_0 : decode cX5_countTranslations 0 = .ok (.iconst 0, 1) := by decide +kernel
theorem dX5_countTranslations_1 : decode cX5_countTranslations 1 = .ok (.istore_n 1, 1) := by decide +kernel
theorem dX5_countTranslations_2 : decode cX5_countTranslations 2 = .ok (.iconst 0, 1) := by decide +kernel
theorem dX5_countTranslations_3 : decode cX5_countTranslations 3 = .ok (.istore_n 2, 1) := by decide +kernel
theorem dX5_countTranslations_4 : decode cX5_countTranslations 4 = .ok (.iload_n 2, 1) := by decide +kernel
theorem dX5_countTranslations_5 : decode cX5_countTranslations 5 = .ok (.aload_n 0, 1) := by decide +kernel
theorem dX5_countTranslations_6 : decode cX5_countTranslations 6 = .ok (.getfield 9, 3) := by decide +kernel
theorem dX5_countTranslations_9 : decode cX5_countTranslations 9 = .ok (.if_icmp .ge 20, 3) := by decide +kernel
theorem dX5_countTranslations_12 : decode cX5_countTranslations 12 = .ok (.aload_n 0, 1) := by decide +kernel
theorem dX5_countTranslations_13 : decode cX5_countTranslations 13 = .ok (.iload_n 2, 1) := by decide +kernel
theorem dX5_countTranslations_14 : decode cX5_countTranslations 14 = .ok (.invokevirtual 81, 3) := by decide +kernel
theorem dX5_countTranslations_17 : decode cX5_countTranslations 17 = .ok (.ifCond .eq 6, 3) := by decide +kernel
theorem dX5_countTranslations_20 : decode cX5_countTranslations 20 = .ok (.iinc 1 1, 3) := by decide +kernel
theorem dX5_countTranslations_23 : decode cX5_countTranslations 23 = .ok (.iinc 2 1, 3) := by decide +kernel
theorem dX5_countTranslations_26 : decode cX5_countTranslations 26 = .ok (.goto (-22), 3) := by decide +kernel
theorem dX5_countTranslations_29 : decode cX5_countTranslations 29 = .ok (.iload_n 1, 1) := by decide +kernel
theorem dX5_countTranslations_30 : decode cX5_countTranslations 30 = .ok (.ireturn, 1) := by decide +kernel
theorem dX5_isNewTranslation_0 : decode cX5_isNewTranslation 0 = .ok (.iconst 0, 1) := by decide +kernel
theorem dX5_isNewTranslation_1 : decode cX5_isNewTranslation 1 = .ok (.istore_n 2, 1) := by decide +kernel
theorem dX5_isNewTranslation_2 : decode cX5_isNewTranslation 2 = .ok (.iload_n 2, 1) := by decide +kernel
theorem dX5_isNewTranslation_3 : decode cX5_isNewTranslation 3 = .ok (.iload_n 1, 1) := by decide +kernel
theorem dX5_isNewTranslation_4 : decode cX5_isNewTranslation 4 = .ok (.if_icmp .ge 20, 3) := by decide +kernel
theorem dX5_isNewTranslation_7 : decode cX5_isNewTranslation 7 = .ok (.aload_n 0, 1) := by decide +kernel
theorem dX5_isNewTranslation_8 : decode cX5_isNewTranslation 8 = .ok (.iload_n 2, 1) := by decide +kernel
theorem dX5_isNewTranslation_9 : decode cX5_isNewTranslation 9 = .ok (.iload_n 1, 1) := by decide +kernel
theorem dX5_isNewTranslation_10 : decode cX5_isNewTranslation 10 = .ok (.invokevirtual 84, 3) := by decide +kernel
theorem dX5_isNewTranslation_13 : decode cX5_isNewTranslation 13 = .ok (.ifCond .eq 5, 3) := by decide +kernel
theorem dX5_isNewTranslation_16 : decode cX5_isNewTranslation 16 = .ok (.iconst 0, 1) := by decide +kernel
theorem dX5_isNewTranslation_17 : decode cX5_isNewTranslation 17 = .ok (.ireturn, 1) := by decide +kernel
theorem dX5_isNewTranslation_18 : decode cX5_isNewTranslation 18 = .ok (.iinc 2 1, 3) := by decide +kernel
theorem dX5_isNewTranslation_21 : decode cX5_isNewTranslation 21 = .ok (.goto (-19), 3) := by decide +kernel
theorem dX5_isNewTranslation_24 : decode cX5_isNewTranslation 24 = .ok (.iconst 1, 1) := by decide +kernel
theorem dX5_isNewTranslation_25 : decode cX5_isNewTranslation 25 = .ok (.ireturn, 1) := by decide +kernel
theorem dX5_sameTranslation_0 : decode cX5_sameTranslation 0 = .ok (.iconst 0, 1) := by decide +kernel
theorem dX5_sameTranslation_1 : decode cX5_sameTranslation 1 = .ok (.istore_n 3, 1) := by decide +kernel
theorem dX5_sameTranslation_2 : decode cX5_sameTranslation 2 = .ok (.iload_n 3, 1) := by decide +kernel
theorem dX5_sameTranslation_3 : decode cX5_sameTranslation 3 = .ok (.aload_n 0, 1) := by decide +kernel
theorem dX5_sameTranslation_4 : decode cX5_sameTranslation 4 = .ok (.getfield 9, 3) := by decide +kernel
theorem dX5_sameTranslation_7 : decode cX5_sameTranslation 7 = .ok (.if_icmp .ge 26, 3) := by decide +kernel
theorem dX5_sameTranslation_10 : decode cX5_sameTranslation 10 = .ok (.aload_n 0, 1) := by decide +kernel
theorem dX5_sameTranslation_11 : decode cX5_sameTranslation 11 = .ok (.iload_n 3, 1) := by decide +kernel
theorem dX5_sameTranslation_12 : decode cX5_sameTranslation 12 = .ok (.iload_n 1, 1) := by decide +kernel
theorem dX5_sameTranslation_13 : decode cX5_sameTranslation 13 = .ok (.invokevirtual 54, 3) := by decide +kernel
theorem dX5_sameTranslation_16 : decode cX5_sameTranslation 16 = .ok (.aload_n 0, 1) := by decide +kernel
theorem dX5_sameTranslation_17 : decode cX5_sameTranslation 17 = .ok (.iload_n 3, 1) := by decide +kernel
theorem dX5_sameTranslation_18 : decode cX5_sameTranslation 18 = .ok (.iload_n 2, 1) := by decide +kernel
theorem dX5_sameTranslation_19 : decode cX5_sameTranslation 19 = .ok (.invokevirtual 54, 3) := by decide +kernel
theorem dX5_sameTranslation_22 : decode cX5_sameTranslation 22 = .ok (.if_icmp .eq 5, 3) := by decide +kernel
theorem dX5_sameTranslation_25 : decode cX5_sameTranslation 25 = .ok (.iconst 0, 1) := by decide +kernel
theorem dX5_sameTranslation_26 : decode cX5_sameTranslation 26 = .ok (.ireturn, 1) := by decide +kernel
theorem dX5_sameTranslation_27 : decode cX5_sameTranslation 27 = .ok (.iinc 3 1, 3) := by decide +kernel
theorem dX5_sameTranslation_30 : decode cX5_sameTranslation 30 = .ok (.goto (-28), 3) := by decide +kernel
theorem dX5_sameTranslation_33 : decode cX5_sameTranslation 33 = .ok (.iconst 1, 1) := by decide +kernel
theorem dX5_sameTranslation_34 : decode cX5_sameTranslation 34 = .ok (.ireturn, 1) := by decide +kernel
theorem dX6_init_0 : decode cX6_init 0 = .ok (.aload_n 0, 1) := by decide +kernel
theorem dX6_init_1 : decode cX6_init 1 = .ok (.invokespecial 1, 3) := by decide +kernel
theorem dX6_init_4 : decode cX6_init 4 = .ok (.aload_n 0, 1) := by decide +kernel
theorem dX6_init_5 : decode cX6_init 5 = .ok (.new 7, 3) := by decide +kernel
theorem dX6_init_8 : decode cX6_init 8 = .ok (.dup, 1) := by decide +kernel
theorem dX6_init_9 : decode cX6_init 9 = .ok (.invokespecial 9, 3) := by decide +kernel
theorem dX6_init_12 : decode cX6_init 12 = .ok (.putfield 10, 3) := by decide +kernel
theorem dX6_init_15 : decode cX6_init 15 = .ok (.aload_n 0, 1) := by decide +kernel
theorem dX6_init_16 : decode cX6_init 16 = .ok (.new 7, 3) := by decide +kernel
theorem dX6_init_19 : decode cX6_init 19 = .ok (.dup, 1) := by decide +kernel
theorem dX6_init_20 : decode cX6_init 20 = .ok (.invokespecial 9, 3) := by decide +kernel
theorem dX6_init_23 : decode cX6_init 23 = .ok (.putfield 16, 3) := by decide +kernel
theorem dX6_init_26 : decode cX6_init 26 = .ok (.aload_n 0, 1) := by decide +kernel
theorem dX6_init_27 : decode cX6_init 27 = .ok (.new 19, 3) := by decide +kernel
theorem dX6_init_30 : decode cX6_init 30 = .ok (.dup, 1) := by decide +kernel
theorem dX6_init_31 : decode cX6_init 31 = .ok (.invokespecial 21, 3) := by decide +kernel
theorem dX6_init_34 : decode cX6_init 34 = .ok (.putfield 22, 3) := by decide +kernel
theorem dX6_init_37 : decode cX6_init 37 = .ok (.aload_n 0, 1) := by decide +kernel
theorem dX6_init_38 : decode cX6_init 38 = .ok (.new 26, 3) := by decide +kernel
theorem dX6_init_41 : decode cX6_init 41 = .ok (.dup, 1) := by decide +kernel
theorem dX6_init_42 : decode cX6_init 42 = .ok (.invokespecial 28, 3) := by decide +kernel
theorem dX6_init_45 : decode cX6_init 45 = .ok (.putfield 29, 3) := by decide +kernel
theorem dX6_init_48 : decode cX6_init 48 = .ok (.aload_n 0, 1) := by decide +kernel
theorem dX6_init_49 : decode cX6_init 49 = .ok (.new 33, 3) := by decide +kernel
theorem dX6_init_52 : decode cX6_init 52 = .ok (.dup, 1) := by decide +kernel
theorem dX6_init_53 : decode cX6_init 53 = .ok (.aload_n 0, 1) := by decide +kernel
theorem dX6_init_54 : decode cX6_init 54 = .ok (.getfield 10, 3) := by decide +kernel
theorem dX6_init_57 : decode cX6_init 57 = .ok (.aload_n 0, 1) := by decide +kernel
theorem dX6_init_58 : decode cX6_init 58 = .ok (.getfield 29, 3) := by decide +kernel
theorem dX6_init_61 : decode cX6_init 61 = .ok (.invokespecial 35, 3) := by decide +kernel
theorem dX6_init_64 : decode cX6_init 64 = .ok (.putfield 38, 3) := by decide +kernel
theorem dX6_init_67 : decode cX6_init 67 = .ok (.aload_n 0, 1) := by decide +kernel
theorem dX6_init_68 : decode cX6_init 68 = .ok (.new 42, 3) := by decide +kernel
theorem dX6_init_71 : decode cX6_init 71 = .ok (.dup, 1) := by decide +kernel
theorem dX6_init_72 : decode cX6_init 72 = .ok (.invokespecial 44, 3) := by decide +kernel
theorem dX6_init_75 : decode cX6_init 75 = .ok (.putfield 45, 3) := by decide +kernel
theorem dX6_init_78 : decode cX6_init 78 = .ok (.aload_n 0, 1) := by decide +kernel
theorem dX6_init_79 : decode cX6_init 79 = .ok (.new 49, 3) := by decide +kernel
theorem dX6_init_82 : decode cX6_init 82 = .ok (.dup, 1) := by decide +kernel
theorem dX6_init_83 : decode cX6_init 83 = .ok (.invokespecial 51, 3) := by decide +kernel
theorem dX6_init_86 : decode cX6_init 86 = .ok (.putfield 52, 3) := by decide +kernel
theorem dX6_init_89 : decode cX6_init 89 = .ok (.return_, 1) := by decide +kernel
theorem dX6_trivial_0 : decode cX6_trivial 0 = .ok (.iload_n 1, 1) := by decide +kernel
theorem dX6_trivial_1 : decode cX6_trivial 1 = .ok (.invokestatic 56, 3) := by decide +kernel
theorem dX6_trivial_4 : decode cX6_trivial 4 = .ok (.ifCond .eq 12, 3) := by decide +kernel
theorem dX6_trivial_7 : decode cX6_trivial 7 = .ok (.aload_n 0, 1) := by decide +kernel
theorem dX6_trivial_8 : decode cX6_trivial 8 = .ok (.iload_n 1, 1) := by decide +kernel
theorem dX6_trivial_9 : decode cX6_trivial 9 = .ok (.iconst 1, 1) := by decide +kernel
theorem dX6_trivial_10 : decode cX6_trivial 10 = .ok (.invokevirtual 60, 3) := by decide +kernel
theorem dX6_trivial_13 : decode cX6_trivial 13 = .ok (.goto 5, 3) := by decide +kernel
theorem dX6_trivial_16 : decode cX6_trivial 16 = .ok (.bipush (-2), 2) := by decide +kernel
theorem dX6_trivial_18 : decode cX6_trivial 18 = .ok (.ireturn, 1) := by decide +kernel
theorem dX6_dihedral_0 : decode cX6_dihedral 0 = .ok (.iload_n 1, 1) := by decide +kernel
theorem dX6_dihedral_1 : decode cX6_dihedral 1 = .ok (.invokestatic 56, 3) := by decide +kernel
theorem dX6_dihedral_4 : decode cX6_dihedral 4 = .ok (.ifCond .eq 12, 3) := by decide +kernel
theorem dX6_dihedral_7 : decode cX6_dihedral 7 = .ok (.aload_n 0, 1) := by decide +kernel
theorem dX6_dihedral_8 : decode cX6_dihedral 8 = .ok (.iload_n 1, 1) := by decide +kernel
theorem dX6_dihedral_9 : decode cX6_dihedral 9 = .ok (.iconst (-1), 1) := by decide +kernel
theorem dX6_dihedral_10 : decode cX6_dihedral 10 = .ok (.invokevirtual 60, 3) := by decide +kernel
theorem dX6_dihedral_13 : decode cX6_dihedral 13 = .ok (.goto 5, 3) := by decide +kernel
theorem dX6_dihedral_16 : decode cX6_dihedral 16 = .ok (.bipush (-2), 2) := by decide +kernel
theorem dX6_dihedral_18 : decode cX6_dihedral 18 = .ok (.ireturn, 1) := by decide +kernel
theorem dX6_linear_0 : decode cX6_linear 0 = .ok (.iload_n 1, 1) := by decide +kernel
theorem dX6_linear_1 : decode cX6_linear 1 = .ok (.invokestatic 56, 3) := by decide +kernel
theorem dX6_linear_4 : decode cX6_linear 4 = .ok (.ifCond .eq 12, 3) := by decide +kernel
theorem dX6_linear_7 : decode cX6_linear 7 = .ok (.iload_n 2, 1) := by decide +kernel
theorem dX6_linear_8 : decode cX6_linear 8 = .ok (.ifCond .lt 8, 3) := by decide +kernel
theorem dX6_linear_11 : decode cX6_linear 11 = .ok (.iload_n 2, 1) := by decide +kernel
theorem dX6_linear_12 : decode cX6_linear 12 = .ok (.iconst 5, 1) := by decide +kernel
theorem dX6_linear_13 : decode cX6_linear 13 = .ok (.if_icmp .le 6, 3) := by decide +kernel
theorem dX6_linear_16 : decode cX6_linear 16 = .ok (.bipush (-2), 2) := by decide +kernel
theorem dX6_linear_18 : decode cX6_linear 18 = .ok (.ireturn, 1) := by decide +kernel
theorem dX6_linear_19 : decode cX6_linear 19 = .ok (.aload_n 0, 1) := by decide +kernel
theorem dX6_linear_20 : decode cX6_linear 20 = .ok (.iload_n 1, 1) := by decide +kernel
theorem dX6_linear_21 : decode cX6_linear 21 = .ok (.iload_n 2, 1) := by decide +kernel
theorem dX6_linear_22 : decode cX6_linear 22 = .ok (.invokevirtual 60, 3) := by decide +kernel
theorem dX6_linear_25 : decode cX6_linear 25 = .ok (.ireturn, 1) := by decide +kernel
theorem dX6_transpositions_0 : decode cX6_transpositions 0 = .ok (.iload_n 1, 1) := by decide +kernel
theorem dX6_transpositions_1 : decode cX6_transpositions 1 = .ok (.iconst 2, 1) := by decide +kernel
theorem dX6_transpositions_2 : decode cX6_transpositions 2 = .ok (.if_icmp .lt 8, 3) := by decide +kernel
theorem dX6_transpositions_5 : decode cX6_transpositions 5 = .ok (.iload_n 1, 1) := by decide +kernel
theorem dX6_transpositions_6 : decode cX6_transpositions 6 = .ok (.iconst 4, 1) := by decide +kernel
theorem dX6_transpositions_7 : decode cX6_transpositions 7 = .ok (.if_icmp .le 6, 3) := by decide +kernel
theorem dX6_transpositions_10 : decode cX6_transpositions 10 = .ok (.bipush (-2), 2) := by decide +kernel
theorem dX6_transpositions_12 : decode cX6_transpositions 12 = .ok (.ireturn, 1) := by decide +kernel
theorem dX6_transpositions_13 : decode cX6_transpositions 13 = .ok (.aload_n 0, 1) := by decide +kernel
theorem dX6_transpositions_14 : decode cX6_transpositions 14 = .ok (.invokevirtual 64, 3) := by decide +kernel
theorem dX6_transpositions_17 : decode cX6_transpositions 17 = .ok (.aload_n 0, 1) := by decide +kernel
theorem dX6_transpositions_18 : decode cX6_transpositions 18 = .ok (.getfield 10, 3) := by decide +kernel
theorem dX6_transpositions_21 : decode cX6_transpositions 21 = .ok (.iload_n 1, 1) := by decide +kernel
theorem dX6_transpositions_22 : decode cX6_transpositions 22 = .ok (.invokevirtual 67, 3) := by decide +kernel
theorem dX6_transpositions_25 : decode cX6_transpositions 25 = .ok (.aload_n 0, 1) := by decide +kernel
theorem dX6_transpositions_26 : decode cX6_transpositions 26 = .ok (.getfield 10, 3) := by decide +kernel
theorem dX6_transpositions_29 : decode cX6_transpositions 29 = .ok (.getfield 71, 3) := by decide +kernel
theorem dX6_transpositions_32 : decode cX6_transpositions 32 = .ok (.ireturn, 1) := by decide +kernel
theorem dX6_setProduct_0 : decode cX6_setProduct 0 = .ok (.aload_n 0, 1) := by decide +kernel
theorem dX6_setProduct_1 : decode cX6_setProduct 1 = .ok (.getfield 10, 3) := by decide +kernel
theorem dX6_setProduct_4 : decode cX6_setProduct 4 = .ok (.iload_n 1, 1) := by decide +kernel
theorem dX6_setProduct_5 : decode cX6_setProduct 5 = .ok (.invokevirtual 75, 3) := by decide +kernel
theorem dX6_setProduct_8 : decode cX6_setProduct 8 = .ok (.ifCond .eq 25, 3) := by decide +kernel
theorem dX6_setProduct_11 : decode cX6_setProduct 11 = .ok (.aload_n 0, 1) := by decide +kernel
theorem dX6_setProduct_12 : decode cX6_setProduct 12 = .ok (.getfield 10, 3) := by decide +kernel
theorem dX6_setProduct_15 : decode cX6_setProduct 15 = .ok (.iload_n 2, 1) := by decide +kernel
theorem dX6_setProduct_16 : decode cX6_setProduct 16 = .ok (.invokevirtual 75, 3) := by decide +kernel
theorem dX6_setProduct_19 : decode cX6_setProduct 19 = .ok (.ifCond .eq 14, 3) := by decide +kernel
theorem dX6_setProduct_22 : decode cX6_setProduct 22 = .ok (.aload_n 0, 1) := by decide +kernel
theorem dX6_setProduct_23 : decode cX6_setProduct 23 = .ok (.getfield 10, 3) := by decide +kernel
theorem dX6_setProduct_26 : decode cX6_setProduct 26 = .ok (.iload_n 3, 1) := by decide +kernel
theorem dX6_setProduct_27 : decode cX6_setProduct 27 = .ok (.invokevirtual 75, 3) := by decide +kernel
theorem dX6_setProduct_30 : decode cX6_setProduct 30 = .ok (.ifCond .ne 5, 3) := by decide +kernel
theorem dX6_setProduct_33 : decode cX6_setProduct 33 = .ok (.iconst (-1), 1) := by decide +kernel
theorem dX6_setProduct_34 : decode cX6_setProduct 34 = .ok (.ireturn, 1) := by decide +kernel
theorem dX6_setProduct_35 : decode cX6_setProduct 35 = .ok (.aload_n 0, 1) := by decide +kernel
theorem dX6_setProduct_36 : decode cX6_setProduct 36 = .ok (.invokevirtual 64, 3) := by decide +kernel
theorem dX6_setProduct_39 : decode cX6_setProduct 39 = .ok (.aload_n 0, 1) := by decide +kernel
theorem dX6_setProduct_40 : decode cX6_setProduct 40 = .ok (.getfield 10, 3) := by decide +kernel
theorem dX6_setProduct_43 : decode cX6_setProduct 43 = .ok (.iload_n 1, 1) := by decide +kernel
theorem dX6_setProduct_44 : decode cX6_setProduct 44 = .ok (.iload_n 2, 1) := by decide +kernel
theorem dX6_setProduct_45 : decode cX6_setProduct 45 = .ok (.invokevirtual 78, 3) := by decide +kernel
theorem dX6_setProduct_48 : decode cX6_setProduct 48 = .ok (.istore 4, 2) := by decide +kernel
theorem dX6_setProduct_50 : decode cX6_setProduct 50 = .ok (.aload_n 0, 1) := by decide +kernel
theorem dX6_setProduct_51 : decode cX6_setProduct 51 = .ok (.getfield 10, 3) := by decide +kernel
theorem dX6_setProduct_54 : decode cX6_setProduct 54 = .ok (.iload_n 1, 1) := by decide +kernel
theorem dX6_setProduct_55 : decode cX6_setProduct 55 = .ok (.iload_n 2, 1) := by decide +kernel
theorem dX6_setProduct_56 : decode cX6_setProduct 56 = .ok (.iload_n 3, 1) := by decide +kernel
theorem dX6_setProduct_57 : decode cX6_setProduct 57 = .ok (.invokevirtual 81, 3) := by decide +kernel
theorem dX6_setProduct_60 : decode cX6_setProduct 60 = .ok (.iload 4, 2) := by decide +kernel
theorem dX6_setProduct_62 : decode cX6_setProduct 62 = .ok (.ireturn, 1) := by decide +kernel
theorem dX6_invert_0 : decode cX6_invert 0 = .ok (.aload_n 0, 1) := by decide +kernel
theorem dX6_invert_1 : decode cX6_invert 1 = .ok (.getfield 10, 3) := by decide +kernel
theorem dX6_invert_4 : decode cX6_invert 4 = .ok (.invokevirtual 85, 3) := by decide +kernel
theorem dX6_invert_7 : decode cX6_invert 7 = .ok (.bipush (-6), 2) := by decide +kernel
theorem dX6_invert_9 : decode cX6_invert 9 = .ok (.if_icmp .eq 6, 3) := by decide +kernel
theorem dX6_invert_12 : decode cX6_invert 12 = .ok (.bipush (-3), 2) := by decide +kernel
theorem dX6_invert_14 : decode cX6_invert 14 = .ok (.ireturn, 1) := by decide +kernel
theorem dX6_invert_15 : decode cX6_invert 15 = .ok (.aload_n 0, 1) := by decide +kernel
theorem dX6_invert_16 : decode cX6_invert 16 = .ok (.invokevirtual 64, 3) := by decide +kernel
theorem dX6_invert_19 : decode cX6_invert 19 = .ok (.aload_n 0, 1) := by decide +kernel
theorem dX6_invert_20 : decode cX6_invert 20 = .ok (.getfield 16, 3) := by decide +kernel
theorem dX6_invert_23 : decode cX6_invert 23 = .ok (.aload_n 0, 1) := by decide +kernel
theorem dX6_invert_24 : decode cX6_invert 24 = .ok (.getfield 10, 3) := by decide +kernel
theorem dX6_invert_27 : decode cX6_invert 27 = .ok (.invokevirtual 89, 3) := by decide +kernel
theorem dX6_invert_30 : decode cX6_invert 30 = .ok (.aload_n 0, 1) := by decide +kernel
theorem dX6_invert_31 : decode cX6_invert 31 = .ok (.getfield 10, 3) := by decide +kernel
theorem dX6_invert_34 : decode cX6_invert 34 = .ok (.aload_n 0, 1) := by decide +kernel
theorem dX6_invert_35 : decode cX6_invert 35 = .ok (.getfield 16, 3) := by decide +kernel
theorem dX6_invert_38 : decode cX6_invert 38 = .ok (.invokevirtual 93, 3) := by decide +kernel
theorem dX6_invert_41 : decode cX6_invert 41 = .ok (.ireturn, 1) := by decide +kernel
theorem dX6_size_0 : decode cX6_size 0 = .ok (.aload_n 0, 1) := by decide +kernel
theorem dX6_size_1 : decode cX6_size 1 = .ok (.getfield 10, 3) := by decide +kernel
theorem dX6_size_4 : decode cX6_size 4 = .ok (.getfield 71, 3) := by decide +kernel
theorem dX6_size_7 : decode cX6_size 7 = .ok (.ireturn, 1) := by decide +kernel
theorem dX6_product_0 : decode cX6_product 0 = .ok (.aload_n 0, 1) := by decide +kernel
theorem dX6_product_1 : decode cX6_product 1 = .ok (.getfield 10, 3) := by decide +kernel
theorem dX6_product_4 : decode cX6_product 4 = .ok (.iload_n 1, 1) := by decide +kernel
theorem dX6_product_5 : decode cX6_product 5 = .ok (.invokevirtual 75, 3) := by decide +kernel
theorem dX6_product_8 : decode cX6_product 8 = .ok (.ifCond .eq 14, 3) := by decide +kernel
theorem dX6_product_11 : decode cX6_product 11 = .ok (.aload_n 0, 1) := by decide +kernel
theorem dX6_product_12 : decode cX6_product 12 = .ok (.getfield 10, 3) := by decide +kernel
theorem dX6_product_15 : decode cX6_product 15 = .ok (.iload_n 2, 1) := by decide +kernel
theorem dX6_product_16 : decode cX6_product 16 = .ok (.invokevirtual 75, 3) := by decide +kernel
theorem dX6_product_19 : decode cX6_product 19 = .ok (.ifCond .ne 5, 3) := by decide +kernel
theorem dX6_product_22 : decode cX6_product 22 = .ok (.iconst (-1), 1) := by decide +kernel
theorem dX6_product_23 : decode cX6_product 23 = .ok (.ireturn, 1) := by decide +kernel
theorem dX6_product_24 : decode cX6_product 24 = .ok (.aload_n 0, 1) := by decide +kernel
theorem dX6_product_25 : decode cX6_product 25 = .ok (.getfield 10, 3) := by decide +kernel
theorem dX6_product_28 : decode cX6_product 28 = .ok (.iload_n 1, 1) := by decide +kernel
theorem dX6_product_29 : decode cX6_product 29 = .ok (.iload_n 2, 1) := by decide +kernel
theorem dX6_product_30 : decode cX6_product 30 = .ok (.invokevirtual 78, 3) := by decide +kernel
theorem dX6_product_33 : decode cX6_product 33 = .ok (.ireturn, 1) := by decide +kernel
theorem dX6_quotient_0 : decode cX6_quotient 0 = .ok (.aload_n 0, 1) := by decide +kernel
theorem dX6_quotient_1 : decode cX6_quotient 1 = .ok (.getfield 10, 3) := by decide +kernel
theorem dX6_quotient_4 : decode cX6_quotient 4 = .ok (.iload_n 1, 1) := by decide +kernel
theorem dX6_quotient_5 : decode cX6_quotient 5 = .ok (.invokevirtual 75, 3) := by decide +kernel
theorem dX6_quotient_8 : decode cX6_quotient 8 = .ok (.ifCond .eq 14, 3) := by decide +kernel
theorem dX6_quotient_11 : decode cX6_quotient 11 = .ok (.aload_n 0, 1) := by decide +kernel
theorem dX6_quotient_12 : decode cX6_quotient 12 = .ok (.getfield 10, 3) := by decide +kernel
theorem dX6_quotient_15 : decode cX6_quotient 15 = .ok (.iload_n 2, 1) := by decide +kernel
theorem dX6_quotient_16 : decode cX6_quotient 16 = .ok (.invokevirtual 75, 3) := by decide +kernel
theorem dX6_quotient_19 : decode cX6_quotient 19 = .ok (.ifCond .ne 5, 3) := by decide +kernel
theorem dX6_quotient_22 : decode cX6_quotient 22 = .ok (.iconst (-1), 1) := by decide +kernel
theorem dX6_quotient_23 : decode cX6_quotient 23 = .ok (.ireturn, 1) := by decide +kernel
theorem dX6_quotient_24 : decode cX6_quotient 24 = .ok (.aload_n 0, 1) := by decide +kernel
theorem dX6_quotient_25 : decode cX6_quotient 25 = .ok (.getfield 10, 3) := by decide +kernel
theorem dX6_quotient_28 : decode cX6_quotient 28 = .ok (.iload_n 1, 1) := by decide +kernel
theorem dX6_quotient_29 : decode cX6_quotient 29 = .ok (.iload_n 2, 1) := by decide +kernel
theorem dX6_quotient_30 : decode cX6_quotient 30 = .ok (.invokevirtual 97, 3) := by decide +kernel
theorem dX6_quotient_33 : decode cX6_quotient 33 = .ok (.ireturn, 1) := by decide +kernel
theorem dX6_violation_0 : decode cX6_violation 0 = .ok (.iload_n 1, 1) := by decide +kernel
theorem dX6_violation_1 : decode cX6_violation 1 = .ok (.tableswitch 51 1 3 #[27, 35, 43], 27) := by decide +kernel
theorem dX6_violation_28 : decode cX6_violation 28 = .ok (.aload_n 0, 1) := by decide +kernel
theorem dX6_violation_29 : decode cX6_violation 29 = .ok (.getfield 10, 3) := by decide +kernel
theorem dX6_violation_32 : decode cX6_violation 32 = .ok (.invokevirtual 100, 3) := by decide +kernel
theorem dX6_violation_35 : decode cX6_violation 35 = .ok (.ireturn, 1) := by decide +kernel
theorem dX6_violation_36 : decode cX6_violation 36 = .ok (.aload_n 0, 1) := by decide +kernel
theorem dX6_violation_37 : decode cX6_violation 37 = .ok (.getfield 10, 3) := by decide +kernel
theorem dX6_violation_40 : decode cX6_violation 40 = .ok (.invokevirtual 85, 3) := by decide +kernel
theorem dX6_violation_43 : decode cX6_violation 43 = .ok (.ireturn, 1) := by decide +kernel
theorem dX6_violation_44 : decode cX6_violation 44 = .ok (.aload_n 0, 1) := by decide +kernel
theorem dX6_violation_45 : decode cX6_violation 45 = .ok (.getfield 10, 3) := by decide +kernel
theorem dX6_violation_48 : decode cX6_violation 48 = .ok (.invokevirtual 103, 3) := by decide +kernel
theorem dX6_violation_51 : decode cX6_violation 51 = .ok (.ireturn, 1) := by decide +kernel
theorem dX6_violation_52 : decode cX6_violation 52 = .ok (.iconst (-1), 1) := by decide +kernel
theorem dX6_violation_53 : decode cX6_violation 53 = .ok (.ireturn, 1) := by decide +kernel
theorem dX6_reach_0 : decode cX6_reach 0 = .ok (.aload_n 0, 1) := by decide +kernel
theorem dX6_reach_1 : decode cX6_reach 1 = .ok (.getfield 10, 3) := by decide +kernel
theorem dX6_reach_4 : decode cX6_reach 4 = .ok (.iload_n 1, 1) := by decide +kernel
theorem dX6_reach_5 : decode cX6_reach 5 = .ok (.invokevirtual 75, 3) := by decide +kernel
theorem dX6_reach_8 : decode cX6_reach 8 = .ok (.ifCond .eq 14, 3) := by decide +kernel
theorem dX6_reach_11 : decode cX6_reach 11 = .ok (.aload_n 0, 1) := by decide +kernel
theorem dX6_reach_12 : decode cX6_reach 12 = .ok (.getfield 10, 3) := by decide +kernel
theorem dX6_reach_15 : decode cX6_reach 15 = .ok (.iload_n 1, 1) := by decide +kernel
theorem dX6_reach_16 : decode cX6_reach 16 = .ok (.invokevirtual 106, 3) := by decide +kernel
theorem dX6_reach_19 : decode cX6_reach 19 = .ok (.goto 4, 3) := by decide +kernel
theorem dX6_reach_22 : decode cX6_reach 22 = .ok (.iconst (-1), 1) := by decide +kernel
theorem dX6_reach_23 : decode cX6_reach 23 = .ok (.ireturn, 1) := by decide +kernel
theorem dX6_tableComponents_0 : decode cX6_tableComponents 0 = .ok (.aload_n 0, 1) := by decide +kernel
theorem dX6_tableComponents_1 : decode cX6_tableComponents 1 = .ok (.getfield 10, 3) := by decide +kernel
theorem dX6_tableComponents_4 : decode cX6_tableComponents 4 = .ok (.invokevirtual 110, 3) := by decide +kernel
theorem dX6_tableComponents_7 : decode cX6_tableComponents 7 = .ok (.ireturn, 1) := by decide +kernel
theorem dX6_closure_0 : decode cX6_closure 0 = .ok (.iload_n 1, 1) := by decide +kernel
theorem dX6_closure_1 : decode cX6_closure 1 = .ok (.ifCond .lt 14, 3) := by decide +kernel
theorem dX6_closure_4 : decode cX6_closure 4 = .ok (.iload_n 1, 1) := by decide +kernel
theorem dX6_closure_5 : decode cX6_closure 5 = .ok (.aload_n 0, 1) := by decide +kernel
theorem dX6_closure_6 : decode cX6_closure 6 = .ok (.getfield 10, 3) := by decide +kernel
theorem dX6_closure_9 : decode cX6_closure 9 = .ok (.invokevirtual 113, 3) := by decide +kernel
theorem dX6_closure_12 : decode cX6_closure 12 = .ok (.if_icmp .le 6, 3) := by decide +kernel
theorem dX6_closure_15 : decode cX6_closure 15 = .ok (.bipush (-2), 2) := by decide +kernel
theorem dX6_closure_17 : decode cX6_closure 17 = .ok (.ireturn, 1) := by decide +kernel
theorem dX6_closure_18 : decode cX6_closure 18 = .ok (.aload_n 0, 1) := by decide +kernel
theorem dX6_closure_19 : decode cX6_closure 19 = .ok (.getfield 10, 3) := by decide +kernel
theorem dX6_closure_22 : decode cX6_closure 22 = .ok (.iload_n 1, 1) := by decide +kernel
theorem dX6_closure_23 : decode cX6_closure 23 = .ok (.invokevirtual 116, 3) := by decide +kernel
theorem dX6_closure_26 : decode cX6_closure 26 = .ok (.ireturn, 1) := by decide +kernel
theorem dX6_generators_0 : decode cX6_generators 0 = .ok (.aload_n 0, 1) := by decide +kernel
theorem dX6_generators_1 : decode cX6_generators 1 = .ok (.getfield 10, 3) := by decide +kernel
theorem dX6_generators_4 : decode cX6_generators 4 = .ok (.invokevirtual 119, 3) := by decide +kernel
theorem dX6_generators_7 : decode cX6_generators 7 = .ok (.ireturn, 1) := by decide +kernel
theorem dX6_translationOrder_0 : decode cX6_translationOrder 0 = .ok (.aload_n 0, 1) := by decide +kernel
theorem dX6_translationOrder_1 : decode cX6_translationOrder 1 = .ok (.getfield 10, 3) := by decide +kernel
theorem dX6_translationOrder_4 : decode cX6_translationOrder 4 = .ok (.iload_n 1, 1) := by decide +kernel
theorem dX6_translationOrder_5 : decode cX6_translationOrder 5 = .ok (.invokevirtual 75, 3) := by decide +kernel
theorem dX6_translationOrder_8 : decode cX6_translationOrder 8 = .ok (.ifCond .eq 14, 3) := by decide +kernel
theorem dX6_translationOrder_11 : decode cX6_translationOrder 11 = .ok (.aload_n 0, 1) := by decide +kernel
theorem dX6_translationOrder_12 : decode cX6_translationOrder 12 = .ok (.getfield 10, 3) := by decide +kernel
theorem dX6_translationOrder_15 : decode cX6_translationOrder 15 = .ok (.iload_n 1, 1) := by decide +kernel
theorem dX6_translationOrder_16 : decode cX6_translationOrder 16 = .ok (.invokevirtual 122, 3) := by decide +kernel
theorem dX6_translationOrder_19 : decode cX6_translationOrder 19 = .ok (.goto 4, 3) := by decide +kernel
theorem dX6_translationOrder_22 : decode cX6_translationOrder 22 = .ok (.iconst (-1), 1) := by decide +kernel
theorem dX6_translationOrder_23 : decode cX6_translationOrder 23 = .ok (.ireturn, 1) := by decide +kernel
theorem dX6_translations_0 : decode cX6_translations 0 = .ok (.aload_n 0, 1) := by decide +kernel
theorem dX6_translations_1 : decode cX6_translations 1 = .ok (.getfield 10, 3) := by decide +kernel
theorem dX6_translations_4 : decode cX6_translations 4 = .ok (.invokevirtual 125, 3) := by decide +kernel
theorem dX6_translations_7 : decode cX6_translations 7 = .ok (.ireturn, 1) := by decide +kernel
theorem dX6_innerGroup_0 : decode cX6_innerGroup 0 = .ok (.aload_n 0, 1) := by decide +kernel
theorem dX6_innerGroup_1 : decode cX6_innerGroup 1 = .ok (.getfield 10, 3) := by decide +kernel
theorem dX6_innerGroup_4 : decode cX6_innerGroup 4 = .ok (.invokevirtual 85, 3) := by decide +kernel
theorem dX6_innerGroup_7 : decode cX6_innerGroup 7 = .ok (.bipush (-6), 2) := by decide +kernel
theorem dX6_innerGroup_9 : decode cX6_innerGroup 9 = .ok (.if_icmp .eq 6, 3) := by decide +kernel
theorem dX6_innerGroup_12 : decode cX6_innerGroup 12 = .ok (.bipush (-6), 2) := by decide +kernel
theorem dX6_innerGroup_14 : decode cX6_innerGroup 14 = .ok (.ireturn, 1) := by decide +kernel
theorem dX6_innerGroup_15 : decode cX6_innerGroup 15 = .ok (.aload_n 0, 1) := by decide +kernel
theorem dX6_innerGroup_16 : decode cX6_innerGroup 16 = .ok (.getfield 22, 3) := by decide +kernel
theorem dX6_innerGroup_19 : decode cX6_innerGroup 19 = .ok (.aload_n 0, 1) := by decide +kernel
theorem dX6_innerGroup_20 : decode cX6_innerGroup 20 = .ok (.getfield 10, 3) := by decide +kernel
theorem dX6_innerGroup_23 : decode cX6_innerGroup 23 = .ok (.invokevirtual 128, 3) := by decide +kernel
theorem dX6_innerGroup_26 : decode cX6_innerGroup 26 = .ok (.ireturn, 1) := by decide +kernel
theorem dX6_automorphisms_0 : decode cX6_automorphisms 0 = .ok (.aload_n 0, 1) := by decide +kernel
theorem dX6_automorphisms_1 : decode cX6_automorphisms 1 = .ok (.getfield 22, 3) := by decide +kernel
theorem dX6_automorphisms_4 : decode cX6_automorphisms 4 = .ok (.aload_n 0, 1) := by decide +kernel
theorem dX6_automorphisms_5 : decode cX6_automorphisms 5 = .ok (.getfield 10, 3) := by decide +kernel
theorem dX6_automorphisms_8 : decode cX6_automorphisms 8 = .ok (.invokevirtual 131, 3) := by decide +kernel
theorem dX6_automorphisms_11 : decode cX6_automorphisms 11 = .ok (.ireturn, 1) := by decide +kernel
theorem dX6_newDiagram_0 : decode cX6_newDiagram 0 = .ok (.iload_n 1, 1) := by decide +kernel
theorem dX6_newDiagram_1 : decode cX6_newDiagram 1 = .ok (.iconst 1, 1) := by decide +kernel
theorem dX6_newDiagram_2 : decode cX6_newDiagram 2 = .ok (.if_icmp .lt 9, 3) := by decide +kernel
theorem dX6_newDiagram_5 : decode cX6_newDiagram 5 = .ok (.iload_n 1, 1) := by decide +kernel
theorem dX6_newDiagram_6 : decode cX6_newDiagram 6 = .ok (.bipush 7, 2) := by decide +kernel
theorem dX6_newDiagram_8 : decode cX6_newDiagram 8 = .ok (.if_icmp .le 6, 3) := by decide +kernel
theorem dX6_newDiagram_11 : decode cX6_newDiagram 11 = .ok (.bipush (-2), 2) := by decide +kernel
theorem dX6_newDiagram_13 : decode cX6_newDiagram 13 = .ok (.ireturn, 1) := by decide +kernel
theorem dX6_newDiagram_14 : decode cX6_newDiagram 14 = .ok (.aload_n 0, 1) := by decide +kernel
theorem dX6_newDiagram_15 : decode cX6_newDiagram 15 = .ok (.invokevirtual 64, 3) := by decide +kernel
theorem dX6_newDiagram_18 : decode cX6_newDiagram 18 = .ok (.aload_n 0, 1) := by decide +kernel
theorem dX6_newDiagram_19 : decode cX6_newDiagram 19 = .ok (.getfield 29, 3) := by decide +kernel
theorem dX6_newDiagram_22 : decode cX6_newDiagram 22 = .ok (.getfield 134, 3) := by decide +kernel
theorem dX6_newDiagram_25 : decode cX6_newDiagram 25 = .ok (.istore_n 2, 1) := by decide +kernel
theorem dX6_newDiagram_26 : decode cX6_newDiagram 26 = .ok (.aload_n 0, 1) := by decide +kernel
theorem dX6_newDiagram_27 : decode cX6_newDiagram 27 = .ok (.getfield 29, 3) := by decide +kernel
theorem dX6_newDiagram_30 : decode cX6_newDiagram 30 = .ok (.iload_n 1, 1) := by decide +kernel
theorem dX6_newDiagram_31 : decode cX6_newDiagram 31 = .ok (.invokevirtual 137, 3) := by decide +kernel
theorem dX6_newDiagram_34 : decode cX6_newDiagram 34 = .ok (.iload_n 2, 1) := by decide +kernel
theorem dX6_newDiagram_35 : decode cX6_newDiagram 35 = .ok (.ireturn, 1) := by decide +kernel
theorem dX6_standard_0 : decode cX6_standard 0 = .ok (.iload_n 1, 1) := by decide +kernel
theorem dX6_standard_1 : decode cX6_standard 1 = .ok (.ifCond .lt 9, 3) := by decide +kernel
theorem dX6_standard_4 : decode cX6_standard 4 = .ok (.iload_n 1, 1) := by decide +kernel
theorem dX6_standard_5 : decode cX6_standard 5 = .ok (.bipush 6, 2) := by decide +kernel
theorem dX6_standard_7 : decode cX6_standard 7 = .ok (.if_icmp .lt 5, 3) := by decide +kernel
theorem dX6_standard_10 : decode cX6_standard 10 = .ok (.iconst (-1), 1) := by decide +kernel
theorem dX6_standard_11 : decode cX6_standard 11 = .ok (.ireturn, 1) := by decide +kernel
theorem dX6_standard_12 : decode cX6_standard 12 = .ok (.aload_n 0, 1) := by decide +kernel
theorem dX6_standard_13 : decode cX6_standard 13 = .ok (.invokevirtual 64, 3) := by decide +kernel
theorem dX6_standard_16 : decode cX6_standard 16 = .ok (.aload_n 0, 1) := by decide +kernel
theorem dX6_standard_17 : decode cX6_standard 17 = .ok (.getfield 29, 3) := by decide +kernel
theorem dX6_standard_20 : decode cX6_standard 20 = .ok (.getstatic 140, 3) := by decide +kernel
theorem dX6_standard_23 : decode cX6_standard 23 = .ok (.iload_n 1, 1) := by decide +kernel
theorem dX6_standard_24 : decode cX6_standard 24 = .ok (.iaload, 1) := by decide +kernel
theorem dX6_standard_25 : decode cX6_standard 25 = .ok (.invokevirtual 137, 3) := by decide +kernel
theorem dX6_standard_28 : decode cX6_standard 28 = .ok (.getstatic 144, 3) := by decide +kernel
theorem dX6_standard_31 : decode cX6_standard 31 = .ok (.iload_n 1, 1) := by decide +kernel
theorem dX6_standard_32 : decode cX6_standard 32 = .ok (.iaload, 1) := by decide +kernel
theorem dX6_standard_33 : decode cX6_standard 33 = .ok (.istore_n 2, 1) := by decide +kernel
theorem dX6_standard_34 : decode cX6_standard 34 = .ok (.iload_n 2, 1) := by decide +kernel
theorem dX6_standard_35 : decode cX6_standard 35 = .ok (.getstatic 144, 3) := by decide +kernel
theorem dX6_standard_38 : decode cX6_standard 38 = .ok (.iload_n 1, 1) := by decide +kernel
theorem dX6_standard_39 : decode cX6_standard 39 = .ok (.iconst 1, 1) := by decide +kernel
theorem dX6_standard_40 : decode cX6_standard 40 = .ok (.iadd, 1) := by decide +kernel
theorem dX6_standard_41 : decode cX6_standard 41 = .ok (.iaload, 1) := by decide +kernel
theorem dX6_standard_42 : decode cX6_standard 42 = .ok (.if_icmp .ge 48, 3) := by decide +kernel
theorem dX6_standard_45 : decode cX6_standard 45 = .ok (.iconst 4, 1) := by decide +kernel
theorem dX6_standard_46 : decode cX6_standard 46 = .ok (.iload_n 2, 1) := by decide +kernel
theorem dX6_standard_47 : decode cX6_standard 47 = .ok (.imul, 1) := by decide +kernel
theorem dX6_standard_48 : decode cX6_standard 48 = .ok (.istore_n 3, 1) := by decide +kernel
theorem dX6_standard_49 : decode cX6_standard 49 = .ok (.aload_n 0, 1) := by decide +kernel
theorem dX6_standard_50 : decode cX6_standard 50 = .ok (.getfield 29, 3) := by decide +kernel
theorem dX6_standard_53 : decode cX6_standard 53 = .ok (.getstatic 147, 3) := by decide +kernel
theorem dX6_standard_56 : decode cX6_standard 56 = .ok (.iload_n 3, 1) := by decide +kernel
theorem dX6_standard_57 : decode cX6_standard 57 = .ok (.iconst 0, 1) := by decide +kernel
theorem dX6_standard_58 : decode cX6_standard 58 = .ok (.iadd, 1) := by decide +kernel
theorem dX6_standard_59 : decode cX6_standard 59 = .ok (.iaload, 1) := by decide +kernel
theorem dX6_standard_60 : decode cX6_standard 60 = .ok (.getstatic 147, 3) := by decide +kernel
theorem dX6_standard_63 : decode cX6_standard 63 = .ok (.iload_n 3, 1) := by decide +kernel
theorem dX6_standard_64 : decode cX6_standard 64 = .ok (.iconst 1, 1) := by decide +kernel
theorem dX6_standard_65 : decode cX6_standard 65 = .ok (.iadd, 1) := by decide +kernel
theorem dX6_standard_66 : decode cX6_standard 66 = .ok (.iaload, 1) := by decide +kernel
theorem dX6_standard_67 : decode cX6_standard 67 = .ok (.getstatic 147, 3) := by decide +kernel
theorem dX6_standard_70 : decode cX6_standard 70 = .ok (.iload_n 3, 1) := by decide +kernel
theorem dX6_standard_71 : decode cX6_standard 71 = .ok (.iconst 2, 1) := by decide +kernel
theorem dX6_standard_72 : decode cX6_standard 72 = .ok (.iadd, 1) := by decide +kernel
theorem dX6_standard_73 : decode cX6_standard 73 = .ok (.iaload, 1) := by decide +kernel
theorem dX6_standard_74 : decode cX6_standard 74 = .ok (.getstatic 147, 3) := by decide +kernel
theorem dX6_standard_77 : decode cX6_standard 77 = .ok (.iload_n 3, 1) := by decide +kernel
theorem dX6_standard_78 : decode cX6_standard 78 = .ok (.iconst 3, 1) := by decide +kernel
theorem dX6_standard_79 : decode cX6_standard 79 = .ok (.iadd, 1) := by decide +kernel
theorem dX6_standard_80 : decode cX6_standard 80 = .ok (.iaload, 1) := by decide +kernel
theorem dX6_standard_81 : decode cX6_standard 81 = .ok (.invokevirtual 150, 3) := by decide +kernel
theorem dX6_standard_84 : decode cX6_standard 84 = .ok (.iinc 2 1, 3) := by decide +kernel
theorem dX6_standard_87 : decode cX6_standard 87 = .ok (.goto (-53), 3) := by decide +kernel
theorem dX6_standard_90 : decode cX6_standard 90 = .ok (.aload_n 0, 1) := by decide +kernel
theorem dX6_standard_91 : decode cX6_standard 91 = .ok (.getfield 29, 3) := by decide +kernel
theorem dX6_standard_94 : decode cX6_standard 94 = .ok (.getfield 154, 3) := by decide +kernel
theorem dX6_standard_97 : decode cX6_standard 97 = .ok (.ireturn, 1) := by decide +kernel
theorem dX6_addCrossing_0 : decode cX6_addCrossing 0 = .ok (.aload_n 0, 1) := by decide +kernel
theorem dX6_addCrossing_1 : decode cX6_addCrossing 1 = .ok (.getfield 29, 3) := by decide +kernel
theorem dX6_addCrossing_4 : decode cX6_addCrossing 4 = .ok (.iload_n 1, 1) := by decide +kernel
theorem dX6_addCrossing_5 : decode cX6_addCrossing 5 = .ok (.invokevirtual 157, 3) := by decide +kernel
theorem dX6_addCrossing_8 : decode cX6_addCrossing 8 = .ok (.ifCond .eq 25, 3) := by decide +kernel
theorem dX6_addCrossing_11 : decode cX6_addCrossing 11 = .ok (.aload_n 0, 1) := by decide +kernel
theorem dX6_addCrossing_12 : decode cX6_addCrossing 12 = .ok (.getfield 29, 3) := by decide +kernel
theorem dX6_addCrossing_15 : decode cX6_addCrossing 15 = .ok (.iload_n 2, 1) := by decide +kernel
theorem dX6_addCrossing_16 : decode cX6_addCrossing 16 = .ok (.invokevirtual 157, 3) := by decide +kernel
theorem dX6_addCrossing_19 : decode cX6_addCrossing 19 = .ok (.ifCond .eq 14, 3) := by decide +kernel
theorem dX6_addCrossing_22 : decode cX6_addCrossing 22 = .ok (.aload_n 0, 1) := by decide +kernel
theorem dX6_addCrossing_23 : decode cX6_addCrossing 23 = .ok (.getfield 29, 3) := by decide +kernel
theorem dX6_addCrossing_26 : decode cX6_addCrossing 26 = .ok (.iload_n 3, 1) := by decide +kernel
theorem dX6_addCrossing_27 : decode cX6_addCrossing 27 = .ok (.invokevirtual 157, 3) := by decide +kernel
theorem dX6_addCrossing_30 : decode cX6_addCrossing 30 = .ok (.ifCond .ne 5, 3) := by decide +kernel
theorem dX6_addCrossing_33 : decode cX6_addCrossing 33 = .ok (.iconst (-1), 1) := by decide +kernel
theorem dX6_addCrossing_34 : decode cX6_addCrossing 34 = .ok (.ireturn, 1) := by decide +kernel
theorem dX6_addCrossing_35 : decode cX6_addCrossing 35 = .ok (.iload 4, 2) := by decide +kernel
theorem dX6_addCrossing_37 : decode cX6_addCrossing 37 = .ok (.iconst 1, 1) := by decide +kernel
theorem dX6_addCrossing_38 : decode cX6_addCrossing 38 = .ok (.if_icmp .eq 12, 3) := by decide +kernel
theorem dX6_addCrossing_41 : decode cX6_addCrossing 41 = .ok (.iload 4, 2) := by decide +kernel
theorem dX6_addCrossing_43 : decode cX6_addCrossing 43 = .ok (.iconst (-1), 1) := by decide +kernel
theorem dX6_addCrossing_44 : decode cX6_addCrossing 44 = .ok (.if_icmp .eq 6, 3) := by decide +kernel
theorem dX6_addCrossing_47 : decode cX6_addCrossing 47 = .ok (.bipush (-2), 2) := by decide +kernel
theorem dX6_addCrossing_49 : decode cX6_addCrossing 49 = .ok (.ireturn, 1) := by decide +kernel
theorem dX6_addCrossing_50 : decode cX6_addCrossing 50 = .ok (.aload_n 0, 1) := by decide +kernel
theorem dX6_addCrossing_51 : decode cX6_addCrossing 51 = .ok (.getfield 29, 3) := by decide +kernel
theorem dX6_addCrossing_54 : decode cX6_addCrossing 54 = .ok (.iconst 0, 1) := by decide +kernel
theorem dX6_addCrossing_55 : decode cX6_addCrossing 55 = .ok (.iconst 1, 1) := by decide +kernel
theorem dX6_addCrossing_56 : decode cX6_addCrossing 56 = .ok (.invokevirtual 160, 3) := by decide +kernel
theorem dX6_addCrossing_59 : decode cX6_addCrossing 59 = .ok (.ifCond .ne 6, 3) := by decide +kernel
theorem dX6_addCrossing_62 : decode cX6_addCrossing 62 = .ok (.bipush (-4), 2) := by decide +kernel
theorem dX6_addCrossing_64 : decode cX6_addCrossing 64 = .ok (.ireturn, 1) := by decide +kernel
theorem dX6_addCrossing_65 : decode cX6_addCrossing 65 = .ok (.aload_n 0, 1) := by decide +kernel
theorem dX6_addCrossing_66 : decode cX6_addCrossing 66 = .ok (.invokevirtual 64, 3) := by decide +kernel
theorem dX6_addCrossing_69 : decode cX6_addCrossing 69 = .ok (.aload_n 0, 1) := by decide +kernel
theorem dX6_addCrossing_70 : decode cX6_addCrossing 70 = .ok (.getfield 29, 3) := by decide +kernel
theorem dX6_addCrossing_73 : decode cX6_addCrossing 73 = .ok (.iload_n 1, 1) := by decide +kernel
theorem dX6_addCrossing_74 : decode cX6_addCrossing 74 = .ok (.iload_n 2, 1) := by decide +kernel
theorem dX6_addCrossing_75 : decode cX6_addCrossing 75 = .ok (.iload_n 3, 1) := by decide +kernel
theorem dX6_addCrossing_76 : decode cX6_addCrossing 76 = .ok (.iload 4, 2) := by decide +kernel
theorem dX6_addCrossing_78 : decode cX6_addCrossing 78 = .ok (.invokevirtual 150, 3) := by decide +kernel
theorem dX6_addCrossing_81 : decode cX6_addCrossing 81 = .ok (.aload_n 0, 1) := by decide +kernel
theorem dX6_addCrossing_82 : decode cX6_addCrossing 82 = .ok (.getfield 29, 3) := by decide +kernel
theorem dX6_addCrossing_85 : decode cX6_addCrossing 85 = .ok (.getfield 154, 3) := by decide +kernel
theorem dX6_addCrossing_88 : decode cX6_addCrossing 88 = .ok (.iconst 1, 1) := by decide +kernel
theorem dX6_addCrossing_89 : decode cX6_addCrossing 89 = .ok (.isub, 1) := by decide +kernel
theorem dX6_addCrossing_90 : decode cX6_addCrossing 90 = .ok (.ireturn, 1) := by decide +kernel
theorem dX6_removeCrossing_0 : decode cX6_removeCrossing 0 = .ok (.aload_n 0, 1) := by decide +kernel
theorem dX6_removeCrossing_1 : decode cX6_removeCrossing 1 = .ok (.getfield 29, 3) := by decide +kernel
theorem dX6_removeCrossing_4 : decode cX6_removeCrossing 4 = .ok (.iload_n 1, 1) := by decide +kernel
theorem dX6_removeCrossing_5 : decode cX6_removeCrossing 5 = .ok (.invokevirtual 164, 3) := by decide +kernel
theorem dX6_removeCrossing_8 : decode cX6_removeCrossing 8 = .ok (.ifCond .ne 5, 3) := by decide +kernel
theorem dX6_removeCrossing_11 : decode cX6_removeCrossing 11 = .ok (.iconst (-1), 1) := by decide +kernel
theorem dX6_removeCrossing_12 : decode cX6_removeCrossing 12 = .ok (.ireturn, 1) := by decide +kernel
theorem dX6_removeCrossing_13 : decode cX6_removeCrossing 13 = .ok (.aload_n 0, 1) := by decide +kernel
theorem dX6_removeCrossing_14 : decode cX6_removeCrossing 14 = .ok (.invokevirtual 64, 3) := by decide +kernel
theorem dX6_removeCrossing_17 : decode cX6_removeCrossing 17 = .ok (.aload_n 0, 1) := by decide +kernel
theorem dX6_removeCrossing_18 : decode cX6_removeCrossing 18 = .ok (.getfield 29, 3) := by decide +kernel
theorem dX6_removeCrossing_21 : decode cX6_removeCrossing 21 = .ok (.iload_n 1, 1) := by decide +kernel
theorem dX6_removeCrossing_22 : decode cX6_removeCrossing 22 = .ok (.invokevirtual 167, 3) := by decide +kernel
theorem dX6_removeCrossing_25 : decode cX6_removeCrossing 25 = .ok (.aload_n 0, 1) := by decide +kernel
theorem dX6_removeCrossing_26 : decode cX6_removeCrossing 26 = .ok (.getfield 29, 3) := by decide +kernel
theorem dX6_removeCrossing_29 : decode cX6_removeCrossing 29 = .ok (.getfield 154, 3) := by decide +kernel
theorem dX6_removeCrossing_32 : decode cX6_removeCrossing 32 = .ok (.ireturn, 1) := by decide +kernel
theorem dX6_kink_0 : decode cX6_kink 0 = .ok (.aload_n 0, 1) := by decide +kernel
theorem dX6_kink_1 : decode cX6_kink 1 = .ok (.getfield 29, 3) := by decide +kernel
theorem dX6_kink_4 : decode cX6_kink 4 = .ok (.iload_n 1, 1) := by decide +kernel
theorem dX6_kink_5 : decode cX6_kink 5 = .ok (.invokevirtual 157, 3) := by decide +kernel
theorem dX6_kink_8 : decode cX6_kink 8 = .ok (.ifCond .ne 5, 3) := by decide +kernel
theorem dX6_kink_11 : decode cX6_kink 11 = .ok (.iconst (-1), 1) := by decide +kernel
theorem dX6_kink_12 : decode cX6_kink 12 = .ok (.ireturn, 1) := by decide +kernel
theorem dX6_kink_13 : decode cX6_kink 13 = .ok (.iload_n 2, 1) := by decide +kernel
theorem dX6_kink_14 : decode cX6_kink 14 = .ok (.iconst 1, 1) := by decide +kernel
theorem dX6_kink_15 : decode cX6_kink 15 = .ok (.if_icmp .eq 11, 3) := by decide +kernel
theorem dX6_kink_18 : decode cX6_kink 18 = .ok (.iload_n 2, 1) := by decide +kernel
theorem dX6_kink_19 : decode cX6_kink 19 = .ok (.iconst (-1), 1) := by decide +kernel
theorem dX6_kink_20 : decode cX6_kink 20 = .ok (.if_icmp .eq 6, 3) := by decide +kernel
theorem dX6_kink_23 : decode cX6_kink 23 = .ok (.bipush (-2), 2) := by decide +kernel
theorem dX6_kink_25 : decode cX6_kink 25 = .ok (.ireturn, 1) := by decide +kernel
theorem dX6_kink_26 : decode cX6_kink 26 = .ok (.aload_n 0, 1) := by decide +kernel
theorem dX6_kink_27 : decode cX6_kink 27 = .ok (.getfield 29, 3) := by decide +kernel
theorem dX6_kink_30 : decode cX6_kink 30 = .ok (.iconst 1, 1) := by decide +kernel
theorem dX6_kink_31 : decode cX6_kink 31 = .ok (.iconst 1, 1) := by decide +kernel
theorem dX6_kink_32 : decode cX6_kink 32 = .ok (.invokevirtual 160, 3) := by decide +kernel
theorem dX6_kink_35 : decode cX6_kink 35 = .ok (.ifCond .ne 6, 3) := by decide +kernel
theorem dX6_kink_38 : decode cX6_kink 38 = .ok (.bipush (-4), 2) := by decide +kernel
theorem dX6_kink_40 : decode cX6_kink 40 = .ok (.ireturn, 1) := by decide +kernel
theorem dX6_kink_41 : decode cX6_kink 41 = .ok (.aload_n 0, 1) := by decide +kernel
theorem dX6_kink_42 : decode cX6_kink 42 = .ok (.invokevirtual 64, 3) := by decide +kernel
theorem dX6_kink_45 : decode cX6_kink 45 = .ok (.aload_n 0, 1) := by decide +kernel
theorem dX6_kink_46 : decode cX6_kink 46 = .ok (.getfield 29, 3) := by decide +kernel
theorem dX6_kink_49 : decode cX6_kink 49 = .ok (.invokevirtual 170, 3) := by decide +kernel
theorem dX6_kink_52 : decode cX6_kink 52 = .ok (.istore_n 3, 1) := by decide +kernel
theorem dX6_kink_53 : decode cX6_kink 53 = .ok (.aload_n 0, 1) := by decide +kernel
theorem dX6_kink_54 : decode cX6_kink 54 = .ok (.getfield 29, 3) := by decide +kernel
theorem dX6_kink_57 : decode cX6_kink 57 = .ok (.iload_n 1, 1) := by decide +kernel
theorem dX6_kink_58 : decode cX6_kink 58 = .ok (.iload_n 3, 1) := by decide +kernel
theorem dX6_kink_59 : decode cX6_kink 59 = .ok (.invokevirtual 173, 3) := by decide +kernel
theorem dX6_kink_62 : decode cX6_kink 62 = .ok (.aload_n 0, 1) := by decide +kernel
theorem dX6_kink_63 : decode cX6_kink 63 = .ok (.getfield 29, 3) := by decide +kernel
theorem dX6_kink_66 : decode cX6_kink 66 = .ok (.iload_n 1, 1) := by decide +kernel
theorem dX6_kink_67 : decode cX6_kink 67 = .ok (.iload_n 1, 1) := by decide +kernel
theorem dX6_kink_68 : decode cX6_kink 68 = .ok (.iload_n 3, 1) := by decide +kernel
theorem dX6_kink_69 : decode cX6_kink 69 = .ok (.iload_n 2, 1) := by decide +kernel
theorem dX6_kink_70 : decode cX6_kink 70 = .ok (.invokevirtual 150, 3) := by decide +kernel
theorem dX6_kink_73 : decode cX6_kink 73 = .ok (.iload_n 3, 1) := by decide +kernel
theorem dX6_kink_74 : decode cX6_kink 74 = .ok (.ireturn, 1) := by decide +kernel
theorem dX6_poke_0 : decode cX6_poke 0 = .ok (.aload_n 0, 1) := by decide +kernel
theorem dX6_poke_1 : decode cX6_poke 1 = .ok (.getfield 29, 3) := by decide +kernel
theorem dX6_poke_4 : decode cX6_poke 4 = .ok (.iload_n 1, 1) := by decide +kernel
theorem dX6_poke_5 : decode cX6_poke 5 = .ok (.invokevirtual 157, 3) := by decide +kernel
theorem dX6_poke_8 : decode cX6_poke 8 = .ok (.ifCond .eq 14, 3) := by decide +kernel
theorem dX6_poke_11 : decode cX6_poke 11 = .ok (.aload_n 0, 1) := by decide +kernel
theorem dX6_poke_12 : decode cX6_poke 12 = .ok (.getfield 29, 3) := by decide +kernel
theorem dX6_poke_15 : decode cX6_poke 15 = .ok (.iload_n 2, 1) := by decide +kernel
theorem dX6_poke_16 : decode cX6_poke 16 = .ok (.invokevirtual 157, 3) := by decide +kernel
theorem dX6_poke_19 : decode cX6_poke 19 = .ok (.ifCond .ne 5, 3) := by decide +kernel
theorem dX6_poke_22 : decode cX6_poke 22 = .ok (.iconst (-1), 1) := by decide +kernel
theorem dX6_poke_23 : decode cX6_poke 23 = .ok (.ireturn, 1) := by decide +kernel
theorem dX6_poke_24 : decode cX6_poke 24 = .ok (.aload_n 0, 1) := by decide +kernel
theorem dX6_poke_25 : decode cX6_poke 25 = .ok (.getfield 29, 3) := by decide +kernel
theorem dX6_poke_28 : decode cX6_poke 28 = .ok (.iconst 2, 1) := by decide +kernel
theorem dX6_poke_29 : decode cX6_poke 29 = .ok (.iconst 2, 1) := by decide +kernel
theorem dX6_poke_30 : decode cX6_poke 30 = .ok (.invokevirtual 160, 3) := by decide +kernel
theorem dX6_poke_33 : decode cX6_poke 33 = .ok (.ifCond .ne 6, 3) := by decide +kernel
theorem dX6_poke_36 : decode cX6_poke 36 = .ok (.bipush (-4), 2) := by decide +kernel
theorem dX6_poke_38 : decode cX6_poke 38 = .ok (.ireturn, 1) := by decide +kernel
theorem dX6_poke_39 : decode cX6_poke 39 = .ok (.aload_n 0, 1) := by decide +kernel
theorem dX6_poke_40 : decode cX6_poke 40 = .ok (.invokevirtual 64, 3) := by decide +kernel
theorem dX6_poke_43 : decode cX6_poke 43 = .ok (.aload_n 0, 1) := by decide +kernel
theorem dX6_poke_44 : decode cX6_poke 44 = .ok (.getfield 29, 3) := by decide +kernel
theorem dX6_poke_47 : decode cX6_poke 47 = .ok (.invokevirtual 170, 3) := by decide +kernel
theorem dX6_poke_50 : decode cX6_poke 50 = .ok (.istore_n 3, 1) := by decide +kernel
theorem dX6_poke_51 : decode cX6_poke 51 = .ok (.aload_n 0, 1) := by decide +kernel
theorem dX6_poke_52 : decode cX6_poke 52 = .ok (.getfield 29, 3) := by decide +kernel
theorem dX6_poke_55 : decode cX6_poke 55 = .ok (.invokevirtual 170, 3) := by decide +kernel
theorem dX6_poke_58 : decode cX6_poke 58 = .ok (.istore 4, 2) := by decide +kernel
theorem dX6_poke_60 : decode cX6_poke 60 = .ok (.aload_n 0, 1) := by decide +kernel
theorem dX6_poke_61 : decode cX6_poke 61 = .ok (.getfield 29, 3) := by decide +kernel
theorem dX6_poke_64 : decode cX6_poke 64 = .ok (.iload_n 1, 1) := by decide +kernel
theorem dX6_poke_65 : decode cX6_poke 65 = .ok (.iload 4, 2) := by decide +kernel
theorem dX6_poke_67 : decode cX6_poke 67 = .ok (.invokevirtual 173, 3) := by decide +kernel
theorem dX6_poke_70 : decode cX6_poke 70 = .ok (.aload_n 0, 1) := by decide +kernel
theorem dX6_poke_71 : decode cX6_poke 71 = .ok (.getfield 29, 3) := by decide +kernel
theorem dX6_poke_74 : decode cX6_poke 74 = .ok (.iload_n 2, 1) := by decide +kernel
theorem dX6_poke_75 : decode cX6_poke 75 = .ok (.iload_n 1, 1) := by decide +kernel
theorem dX6_poke_76 : decode cX6_poke 76 = .ok (.iload_n 3, 1) := by decide +kernel
theorem dX6_poke_77 : decode cX6_poke 77 = .ok (.iconst 1, 1) := by decide +kernel
theorem dX6_poke_78 : decode cX6_poke 78 = .ok (.invokevirtual 150, 3) := by decide +kernel
theorem dX6_poke_81 : decode cX6_poke 81 = .ok (.aload_n 0, 1) := by decide +kernel
theorem dX6_poke_82 : decode cX6_poke 82 = .ok (.getfield 29, 3) := by decide +kernel
theorem dX6_poke_85 : decode cX6_poke 85 = .ok (.iload_n 2, 1) := by decide +kernel
theorem dX6_poke_86 : decode cX6_poke 86 = .ok (.iload_n 3, 1) := by decide +kernel
theorem dX6_poke_87 : decode cX6_poke 87 = .ok (.iload 4, 2) := by decide +kernel
theorem dX6_poke_89 : decode cX6_poke 89 = .ok (.iconst (-1), 1) := by decide +kernel
theorem dX6_poke_90 : decode cX6_poke 90 = .ok (.invokevirtual 150, 3) := by decide +kernel
theorem dX6_poke_93 : decode cX6_poke 93 = .ok (.aload_n 0, 1) := by decide +kernel
theorem dX6_poke_94 : decode cX6_poke 94 = .ok (.getfield 29, 3) := by decide +kernel
theorem dX6_poke_97 : decode cX6_poke 97 = .ok (.getfield 134, 3) := by decide +kernel
theorem dX6_poke_100 : decode cX6_poke 100 = .ok (.ireturn, 1) := by decide +kernel
theorem dX6_arcs_0 : decode cX6_arcs 0 = .ok (.aload_n 0, 1) := by decide +kernel
theorem dX6_arcs_1 : decode cX6_arcs 1 = .ok (.getfield 29, 3) := by decide +kernel
theorem dX6_arcs_4 : decode cX6_arcs 4 = .ok (.getfield 134, 3) := by decide +kernel
theorem dX6_arcs_7 : decode cX6_arcs 7 = .ok (.ireturn, 1) := by decide +kernel
theorem dX6_crossings_0 : decode cX6_crossings 0 = .ok (.aload_n 0, 1) := by decide +kernel
theorem dX6_crossings_1 : decode cX6_crossings 1 = .ok (.getfield 29, 3) := by decide +kernel
theorem dX6_crossings_4 : decode cX6_crossings 4 = .ok (.getfield 154, 3) := by decide +kernel
theorem dX6_crossings_7 : decode cX6_crossings 7 = .ok (.ireturn, 1) := by decide +kernel
theorem dX6_crossing_0 : decode cX6_crossing 0 = .ok (.aload_n 0, 1) := by decide +kernel
theorem dX6_crossing_1 : decode cX6_crossing 1 = .ok (.getfield 29, 3) := by decide +kernel
theorem dX6_crossing_4 : decode cX6_crossing 4 = .ok (.iload_n 1, 1) := by decide +kernel
theorem dX6_crossing_5 : decode cX6_crossing 5 = .ok (.invokevirtual 164, 3) := by decide +kernel
theorem dX6_crossing_8 : decode cX6_crossing 8 = .ok (.ifCond .ne 5, 3) := by decide +kernel
theorem dX6_crossing_11 : decode cX6_crossing 11 = .ok (.iconst (-1), 1) := by decide +kernel
theorem dX6_crossing_12 : decode cX6_crossing 12 = .ok (.ireturn, 1) := by decide +kernel
theorem dX6_crossing_13 : decode cX6_crossing 13 = .ok (.iload_n 2, 1) := by decide +kernel
theorem dX6_crossing_14 : decode cX6_crossing 14 = .ok (.ifCond .lt 8, 3) := by decide +kernel
theorem dX6_crossing_17 : decode cX6_crossing 17 = .ok (.iload_n 2, 1) := by decide +kernel
theorem dX6_crossing_18 : decode cX6_crossing 18 = .ok (.iconst 4, 1) := by decide +kernel
theorem dX6_crossing_19 : decode cX6_crossing 19 = .ok (.if_icmp .lt 6, 3) := by decide +kernel
theorem dX6_crossing_22 : decode cX6_crossing 22 = .ok (.bipush (-2), 2) := by decide +kernel
theorem dX6_crossing_24 : decode cX6_crossing 24 = .ok (.ireturn, 1) := by decide +kernel
theorem dX6_crossing_25 : decode cX6_crossing 25 = .ok (.aload_n 0, 1) := by decide +kernel
theorem dX6_crossing_26 : decode cX6_crossing 26 = .ok (.getfield 29, 3) := by decide +kernel
theorem dX6_crossing_29 : decode cX6_crossing 29 = .ok (.iload_n 1, 1) := by decide +kernel
theorem dX6_crossing_30 : decode cX6_crossing 30 = .ok (.iload_n 2, 1) := by decide +kernel
theorem dX6_crossing_31 : decode cX6_crossing 31 = .ok (.invokevirtual 177, 3) := by decide +kernel
theorem dX6_crossing_34 : decode cX6_crossing 34 = .ok (.ireturn, 1) := by decide +kernel
theorem dX6_components_0 : decode cX6_components 0 = .ok (.aload_n 0, 1) := by decide +kernel
theorem dX6_components_1 : decode cX6_components 1 = .ok (.getfield 29, 3) := by decide +kernel
theorem dX6_components_4 : decode cX6_components 4 = .ok (.invokevirtual 180, 3) := by decide +kernel
theorem dX6_components_7 : decode cX6_components 7 = .ok (.ifCond .eq 13, 3) := by decide +kernel
theorem dX6_components_10 : decode cX6_components 10 = .ok (.aload_n 0, 1) := by decide +kernel
theorem dX6_components_11 : decode cX6_components 11 = .ok (.getfield 29, 3) := by decide +kernel
theorem dX6_components_14 : decode cX6_components 14 = .ok (.invokevirtual 184, 3) := by decide +kernel
theorem dX6_components_17 : decode cX6_components 17 = .ok (.goto 5, 3) := by decide +kernel
theorem dX6_components_20 : decode cX6_components 20 = .ok (.bipush (-6), 2) := by decide +kernel
theorem dX6_components_22 : decode cX6_components 22 = .ok (.ireturn, 1) := by decide +kernel
theorem dX6_writhe_0 : decode cX6_writhe 0 = .ok (.aload_n 0, 1) := by decide +kernel
theorem dX6_writhe_1 : decode cX6_writhe 1 = .ok (.getfield 29, 3) := by decide +kernel
theorem dX6_writhe_4 : decode cX6_writhe 4 = .ok (.invokevirtual 185, 3) := by decide +kernel
theorem dX6_writhe_7 : decode cX6_writhe 7 = .ok (.bipush 100, 2) := by decide +kernel
theorem dX6_writhe_9 : decode cX6_writhe 9 = .ok (.iadd, 1) := by decide +kernel
theorem dX6_writhe_10 : decode cX6_writhe 10 = .ok (.ireturn, 1) := by decide +kernel
theorem dX6_linking_0 : decode cX6_linking 0 = .ok (.aload_n 0, 1) := by decide +kernel
theorem dX6_linking_1 : decode cX6_linking 1 = .ok (.getfield 29, 3) := by decide +kernel
theorem dX6_linking_4 : decode cX6_linking 4 = .ok (.iload_n 1, 1) := by decide +kernel
theorem dX6_linking_5 : decode cX6_linking 5 = .ok (.invokevirtual 157, 3) := by decide +kernel
theorem dX6_linking_8 : decode cX6_linking 8 = .ok (.ifCond .eq 14, 3) := by decide +kernel
theorem dX6_linking_11 : decode cX6_linking 11 = .ok (.aload_n 0, 1) := by decide +kernel
theorem dX6_linking_12 : decode cX6_linking 12 = .ok (.getfield 29, 3) := by decide +kernel
theorem dX6_linking_15 : decode cX6_linking 15 = .ok (.iload_n 2, 1) := by decide +kernel
theorem dX6_linking_16 : decode cX6_linking 16 = .ok (.invokevirtual 157, 3) := by decide +kernel
theorem dX6_linking_19 : decode cX6_linking 19 = .ok (.ifCond .ne 5, 3) := by decide +kernel
theorem dX6_linking_22 : decode cX6_linking 22 = .ok (.iconst (-1), 1) := by decide +kernel
theorem dX6_linking_23 : decode cX6_linking 23 = .ok (.ireturn, 1) := by decide +kernel
theorem dX6_linking_24 : decode cX6_linking 24 = .ok (.aload_n 0, 1) := by decide +kernel
theorem dX6_linking_25 : decode cX6_linking 25 = .ok (.getfield 29, 3) := by decide +kernel
theorem dX6_linking_28 : decode cX6_linking 28 = .ok (.invokevirtual 180, 3) := by decide +kernel
theorem dX6_linking_31 : decode cX6_linking 31 = .ok (.ifCond .ne 6, 3) := by decide +kernel
theorem dX6_linking_34 : decode cX6_linking 34 = .ok (.bipush (-6), 2) := by decide +kernel
theorem dX6_linking_36 : decode cX6_linking 36 = .ok (.ireturn, 1) := by decide +kernel
theorem dX6_linking_37 : decode cX6_linking 37 = .ok (.aload_n 0, 1) := by decide +kernel
theorem dX6_linking_38 : decode cX6_linking 38 = .ok (.getfield 29, 3) := by decide +kernel
theorem dX6_linking_41 : decode cX6_linking 41 = .ok (.iload_n 1, 1) := by decide +kernel
theorem dX6_linking_42 : decode cX6_linking 42 = .ok (.iload_n 2, 1) := by decide +kernel
theorem dX6_linking_43 : decode cX6_linking 43 = .ok (.invokevirtual 188, 3) := by decide +kernel
theorem dX6_linking_46 : decode cX6_linking 46 = .ok (.bipush 100, 2) := by decide +kernel
theorem dX6_linking_48 : decode cX6_linking 48 = .ok (.iadd, 1) := by decide +kernel
theorem dX6_linking_49 : decode cX6_linking 49 = .ok (.ireturn, 1) := by decide +kernel
theorem dX6_colourings_0 : decode cX6_colourings 0 = .ok (.aload_n 0, 1) := by decide +kernel
theorem dX6_colourings_1 : decode cX6_colourings 1 = .ok (.getfield 38, 3) := by decide +kernel
theorem dX6_colourings_4 : decode cX6_colourings 4 = .ok (.invokevirtual 191, 3) := by decide +kernel
theorem dX6_colourings_7 : decode cX6_colourings 7 = .ok (.ireturn, 1) := by decide +kernel
theorem dX6_colouringsWith_0 : decode cX6_colouringsWith 0 = .ok (.aload_n 0, 1) := by decide +kernel
theorem dX6_colouringsWith_1 : decode cX6_colouringsWith 1 = .ok (.getfield 29, 3) := by decide +kernel
theorem dX6_colouringsWith_4 : decode cX6_colouringsWith 4 = .ok (.iload_n 1, 1) := by decide +kernel
theorem dX6_colouringsWith_5 : decode cX6_colouringsWith 5 = .ok (.invokevirtual 157, 3) := by decide +kernel
theorem dX6_colouringsWith_8 : decode cX6_colouringsWith 8 = .ok (.ifCond .eq 14, 3) := by decide +kernel
theorem dX6_colouringsWith_11 : decode cX6_colouringsWith 11 = .ok (.aload_n 0, 1) := by decide +kernel
theorem dX6_colouringsWith_12 : decode cX6_colouringsWith 12 = .ok (.getfield 10, 3) := by decide +kernel
theorem dX6_colouringsWith_15 : decode cX6_colouringsWith 15 = .ok (.iload_n 2, 1) := by decide +kernel
theorem dX6_colouringsWith_16 : decode cX6_colouringsWith 16 = .ok (.invokevirtual 75, 3) := by decide +kernel
theorem dX6_colouringsWith_19 : decode cX6_colouringsWith 19 = .ok (.ifCond .ne 5, 3) := by decide +kernel
theorem dX6_colouringsWith_22 : decode cX6_colouringsWith 22 = .ok (.iconst (-1), 1) := by decide +kernel
theorem dX6_colouringsWith_23 : decode cX6_colouringsWith 23 = .ok (.ireturn, 1) := by decide +kernel
theorem dX6_colouringsWith_24 : decode cX6_colouringsWith 24 = .ok (.aload_n 0, 1) := by decide +kernel
theorem dX6_colouringsWith_25 : decode cX6_colouringsWith 25 = .ok (.getfield 38, 3) := by decide +kernel
theorem dX6_colouringsWith_28 : decode cX6_colouringsWith 28 = .ok (.iload_n 1, 1) := by decide +kernel
theorem dX6_colouringsWith_29 : decode cX6_colouringsWith 29 = .ok (.iload_n 2, 1) := by decide +kernel
theorem dX6_colouringsWith_30 : decode cX6_colouringsWith 30 = .ok (.invokevirtual 194, 3) := by decide +kernel
theorem dX6_colouringsWith_33 : decode cX6_colouringsWith 33 = .ok (.ireturn, 1) := by decide +kernel
theorem dX6_colouringsAlike_0 : decode cX6_colouringsAlike 0 = .ok (.aload_n 0, 1) := by decide +kernel
theorem dX6_colouringsAlike_1 : decode cX6_colouringsAlike 1 = .ok (.getfield 29, 3) := by decide +kernel
theorem dX6_colouringsAlike_4 : decode cX6_colouringsAlike 4 = .ok (.iload_n 1, 1) := by decide +kernel
theorem dX6_colouringsAlike_5 : decode cX6_colouringsAlike 5 = .ok (.invokevirtual 157, 3) := by decide +kernel
theorem dX6_colouringsAlike_8 : decode cX6_colouringsAlike 8 = .ok (.ifCond .eq 14, 3) := by decide +kernel
theorem dX6_colouringsAlike_11 : decode cX6_colouringsAlike 11 = .ok (.aload_n 0, 1) := by decide +kernel
theorem dX6_colouringsAlike_12 : decode cX6_colouringsAlike 12 = .ok (.getfield 29, 3) := by decide +kernel
theorem dX6_colouringsAlike_15 : decode cX6_colouringsAlike 15 = .ok (.iload_n 2, 1) := by decide +kernel
theorem dX6_colouringsAlike_16 : decode cX6_colouringsAlike 16 = .ok (.invokevirtual 157, 3) := by decide +kernel
theorem dX6_colouringsAlike_19 : decode cX6_colouringsAlike 19 = .ok (.ifCond .ne 5, 3) := by decide +kernel
theorem dX6_colouringsAlike_22 : decode cX6_colouringsAlike 22 = .ok (.iconst (-1), 1) := by decide +kernel
theorem dX6_colouringsAlike_23 : decode cX6_colouringsAlike 23 = .ok (.ireturn, 1) := by decide +kernel
theorem dX6_colouringsAlike_24 : decode cX6_colouringsAlike 24 = .ok (.aload_n 0, 1) := by decide +kernel
theorem dX6_colouringsAlike_25 : decode cX6_colouringsAlike 25 = .ok (.getfield 38, 3) := by decide +kernel
theorem dX6_colouringsAlike_28 : decode cX6_colouringsAlike 28 = .ok (.iload_n 1, 1) := by decide +kernel
theorem dX6_colouringsAlike_29 : decode cX6_colouringsAlike 29 = .ok (.iload_n 2, 1) := by decide +kernel
theorem dX6_colouringsAlike_30 : decode cX6_colouringsAlike 30 = .ok (.invokevirtual 197, 3) := by decide +kernel
theorem dX6_colouringsAlike_33 : decode cX6_colouringsAlike 33 = .ok (.ireturn, 1) := by decide +kernel
theorem dX6_colouringsUsing_0 : decode cX6_colouringsUsing 0 = .ok (.iload_n 1, 1) := by decide +kernel
theorem dX6_colouringsUsing_1 : decode cX6_colouringsUsing 1 = .ok (.iconst 1, 1) := by decide +kernel
theorem dX6_colouringsUsing_2 : decode cX6_colouringsUsing 2 = .ok (.if_icmp .lt 9, 3) := by decide +kernel
theorem dX6_colouringsUsing_5 : decode cX6_colouringsUsing 5 = .ok (.iload_n 1, 1) := by decide +kernel
theorem dX6_colouringsUsing_6 : decode cX6_colouringsUsing 6 = .ok (.bipush 6, 2) := by decide +kernel
theorem dX6_colouringsUsing_8 : decode cX6_colouringsUsing 8 = .ok (.if_icmp .le 6, 3) := by decide +kernel
theorem dX6_colouringsUsing_11 : decode cX6_colouringsUsing 11 = .ok (.bipush (-2), 2) := by decide +kernel
theorem dX6_colouringsUsing_13 : decode cX6_colouringsUsing 13 = .ok (.ireturn, 1) := by decide +kernel
theorem dX6_colouringsUsing_14 : decode cX6_colouringsUsing 14 = .ok (.aload_n 0, 1) := by decide +kernel
theorem dX6_colouringsUsing_15 : decode cX6_colouringsUsing 15 = .ok (.getfield 38, 3) := by decide +kernel
theorem dX6_colouringsUsing_18 : decode cX6_colouringsUsing 18 = .ok (.invokevirtual 191, 3) := by decide +kernel
theorem dX6_colouringsUsing_21 : decode cX6_colouringsUsing 21 = .ok (.pop, 1) := by decide +kernel
theorem dX6_colouringsUsing_22 : decode cX6_colouringsUsing 22 = .ok (.aload_n 0, 1) := by decide +kernel
theorem dX6_colouringsUsing_23 : decode cX6_colouringsUsing 23 = .ok (.getfield 38, 3) := by decide +kernel
theorem dX6_colouringsUsing_26 : decode cX6_colouringsUsing 26 = .ok (.iload_n 1, 1) := by decide +kernel
theorem dX6_colouringsUsing_27 : decode cX6_colouringsUsing 27 = .ok (.invokevirtual 200, 3) := by decide +kernel
theorem dX6_colouringsUsing_30 : decode cX6_colouringsUsing 30 = .ok (.ireturn, 1) := by decide +kernel
theorem dX6_colour_0 : decode cX6_colour 0 = .ok (.iload_n 1, 1) := by decide +kernel
theorem dX6_colour_1 : decode cX6_colour 1 = .ok (.ifCond .lt 20, 3) := by decide +kernel
theorem dX6_colour_4 : decode cX6_colour 4 = .ok (.iload_n 1, 1) := by decide +kernel
theorem dX6_colour_5 : decode cX6_colour 5 = .ok (.ldc 203, 2) := by decide +kernel
theorem dX6_colour_7 : decode cX6_colour 7 = .ok (.if_icmp .ge 14, 3) := by decide +kernel
theorem dX6_colour_10 : decode cX6_colour 10 = .ok (.aload_n 0, 1) := by decide +kernel
theorem dX6_colour_11 : decode cX6_colour 11 = .ok (.getfield 29, 3) := by decide +kernel
theorem dX6_colour_14 : decode cX6_colour 14 = .ok (.iload_n 2, 1) := by decide +kernel
theorem dX6_colour_15 : decode cX6_colour 15 = .ok (.invokevirtual 157, 3) := by decide +kernel
theorem dX6_colour_18 : decode cX6_colour 18 = .ok (.ifCond .ne 5, 3) := by decide +kernel
theorem dX6_colour_21 : decode cX6_colour 21 = .ok (.iconst (-1), 1) := by decide +kernel
theorem dX6_colour_22 : decode cX6_colour 22 = .ok (.ireturn, 1) := by decide +kernel
theorem dX6_colour_23 : decode cX6_colour 23 = .ok (.aload_n 0, 1) := by decide +kernel
theorem dX6_colour_24 : decode cX6_colour 24 = .ok (.getfield 38, 3) := by decide +kernel
theorem dX6_colour_27 : decode cX6_colour 27 = .ok (.iload_n 1, 1) := by decide +kernel
theorem dX6_colour_28 : decode cX6_colour 28 = .ok (.iload_n 2, 1) := by decide +kernel
theorem dX6_colour_29 : decode cX6_colour 29 = .ok (.invokevirtual 204, 3) := by decide +kernel
theorem dX6_colour_32 : decode cX6_colour 32 = .ok (.ireturn, 1) := by decide +kernel
theorem dX6_type_0 : decode cX6_type 0 = .ok (.iload_n 1, 1) := by decide +kernel
theorem dX6_type_1 : decode cX6_type 1 = .ok (.bipush 33, 2) := by decide +kernel
theorem dX6_type_3 : decode cX6_type 3 = .ok (.if_icmp .lt 9, 3) := by decide +kernel
theorem dX6_type_6 : decode cX6_type 6 = .ok (.iload_n 1, 1) := by decide +kernel
theorem dX6_type_7 : decode cX6_type 7 = .ok (.bipush 126, 2) := by decide +kernel
theorem dX6_type_9 : decode cX6_type 9 = .ok (.if_icmp .le 6, 3) := by decide +kernel
theorem dX6_type_12 : decode cX6_type 12 = .ok (.bipush (-2), 2) := by decide +kernel
theorem dX6_type_14 : decode cX6_type 14 = .ok (.ireturn, 1) := by decide +kernel
theorem dX6_type_15 : decode cX6_type 15 = .ok (.aload_n 0, 1) := by decide +kernel
theorem dX6_type_16 : decode cX6_type 16 = .ok (.getfield 45, 3) := by decide +kernel
theorem dX6_type_19 : decode cX6_type 19 = .ok (.getfield 207, 3) := by decide +kernel
theorem dX6_type_22 : decode cX6_type 22 = .ok (.bipush 70, 2) := by decide +kernel
theorem dX6_type_24 : decode cX6_type 24 = .ok (.if_icmp .lt 6, 3) := by decide +kernel
theorem dX6_type_27 : decode cX6_type 27 = .ok (.bipush (-4), 2) := by decide +kernel
theorem dX6_type_29 : decode cX6_type 29 = .ok (.ireturn, 1) := by decide +kernel
theorem dX6_type_30 : decode cX6_type 30 = .ok (.aload_n 0, 1) := by decide +kernel
theorem dX6_type_31 : decode cX6_type 31 = .ok (.getfield 45, 3) := by decide +kernel
theorem dX6_type_34 : decode cX6_type 34 = .ok (.iload_n 1, 1) := by decide +kernel
theorem dX6_type_35 : decode cX6_type 35 = .ok (.i2c, 1) := by decide +kernel
theorem dX6_type_36 : decode cX6_type 36 = .ok (.invokevirtual 210, 3) := by decide +kernel
theorem dX6_type_39 : decode cX6_type 39 = .ok (.aload_n 0, 1) := by decide +kernel
theorem dX6_type_40 : decode cX6_type 40 = .ok (.getfield 45, 3) := by decide +kernel
theorem dX6_type_43 : decode cX6_type 43 = .ok (.getfield 207, 3) := by decide +kernel
theorem dX6_type_46 : decode cX6_type 46 = .ok (.ireturn, 1) := by decide +kernel
theorem dX6_clearText_0 : decode cX6_clearText 0 = .ok (.aload_n 0, 1) := by decide +kernel
theorem dX6_clearText_1 : decode cX6_clearText 1 = .ok (.getfield 45, 3) := by decide +kernel
theorem dX6_clearText_4 : decode cX6_clearText 4 = .ok (.getfield 207, 3) := by decide +kernel
theorem dX6_clearText_7 : decode cX6_clearText 7 = .ok (.istore_n 1, 1) := by decide +kernel
theorem dX6_clearText_8 : decode cX6_clearText 8 = .ok (.aload_n 0, 1) := by decide +kernel
theorem dX6_clearText_9 : decode cX6_clearText 9 = .ok (.getfield 45, 3) := by decide +kernel
theorem dX6_clearText_12 : decode cX6_clearText 12 = .ok (.invokevirtual 213, 3) := by decide +kernel
theorem dX6_clearText_15 : decode cX6_clearText 15 = .ok (.iload_n 1, 1) := by decide +kernel
theorem dX6_clearText_16 : decode cX6_clearText 16 = .ok (.ireturn, 1) := by decide +kernel
theorem dX6_syntaxError_0 : decode cX6_syntaxError 0 = .ok (.aload_n 0, 1) := by decide +kernel
theorem dX6_syntaxError_1 : decode cX6_syntaxError 1 = .ok (.getfield 45, 3) := by decide +kernel
theorem dX6_syntaxError_4 : decode cX6_syntaxError 4 = .ok (.invokevirtual 215, 3) := by decide +kernel
theorem dX6_syntaxError_7 : decode cX6_syntaxError 7 = .ok (.ireturn, 1) := by decide +kernel
theorem dX6_read_0 : decode cX6_read 0 = .ok (.aload_n 0, 1) := by decide +kernel
theorem dX6_read_1 : decode cX6_read 1 = .ok (.getfield 45, 3) := by decide +kernel
theorem dX6_read_4 : decode cX6_read 4 = .ok (.invokevirtual 215, 3) := by decide +kernel
theorem dX6_read_7 : decode cX6_read 7 = .ok (.bipush (-6), 2) := by decide +kernel
theorem dX6_read_9 : decode cX6_read 9 = .ok (.if_icmp .eq 6, 3) := by decide +kernel
theorem dX6_read_12 : decode cX6_read 12 = .ok (.bipush (-5), 2) := by decide +kernel
theorem dX6_read_14 : decode cX6_read 14 = .ok (.ireturn, 1) := by decide +kernel
theorem dX6_read_15 : decode cX6_read 15 = .ok (.aload_n 0, 1) := by decide +kernel
theorem dX6_read_16 : decode cX6_read 16 = .ok (.invokevirtual 64, 3) := by decide +kernel
theorem dX6_read_19 : decode cX6_read 19 = .ok (.aload_n 0, 1) := by decide +kernel
theorem dX6_read_20 : decode cX6_read 20 = .ok (.getfield 45, 3) := by decide +kernel
theorem dX6_read_23 : decode cX6_read 23 = .ok (.aload_n 0, 1) := by decide +kernel
theorem dX6_read_24 : decode cX6_read 24 = .ok (.getfield 29, 3) := by decide +kernel
theorem dX6_read_27 : decode cX6_read 27 = .ok (.invokevirtual 218, 3) := by decide +kernel
theorem dX6_read_30 : decode cX6_read 30 = .ok (.aload_n 0, 1) := by decide +kernel
theorem dX6_read_31 : decode cX6_read 31 = .ok (.getfield 45, 3) := by decide +kernel
theorem dX6_read_34 : decode cX6_read 34 = .ok (.invokevirtual 213, 3) := by decide +kernel
theorem dX6_read_37 : decode cX6_read 37 = .ok (.aload_n 0, 1) := by decide +kernel
theorem dX6_read_38 : decode cX6_read 38 = .ok (.getfield 29, 3) := by decide +kernel
theorem dX6_read_41 : decode cX6_read 41 = .ok (.getfield 134, 3) := by decide +kernel
theorem dX6_read_44 : decode cX6_read 44 = .ok (.ireturn, 1) := by decide +kernel
theorem dX6_undo_0 : decode cX6_undo 0 = .ok (.aload_n 0, 1) := by decide +kernel
theorem dX6_undo_1 : decode cX6_undo 1 = .ok (.getfield 52, 3) := by decide +kernel
theorem dX6_undo_4 : decode cX6_undo 4 = .ok (.getfield 222, 3) := by decide +kernel
theorem dX6_undo_7 : decode cX6_undo 7 = .ok (.ifCond .ne 6, 3) := by decide +kernel
theorem dX6_undo_10 : decode cX6_undo 10 = .ok (.bipush (-3), 2) := by decide +kernel
theorem dX6_undo_12 : decode cX6_undo 12 = .ok (.ireturn, 1) := by decide +kernel
theorem dX6_undo_13 : decode cX6_undo 13 = .ok (.aload_n 0, 1) := by decide +kernel
theorem dX6_undo_14 : decode cX6_undo 14 = .ok (.getfield 52, 3) := by decide +kernel
theorem dX6_undo_17 : decode cX6_undo 17 = .ok (.aload_n 0, 1) := by decide +kernel
theorem dX6_undo_18 : decode cX6_undo 18 = .ok (.getfield 10, 3) := by decide +kernel
theorem dX6_undo_21 : decode cX6_undo 21 = .ok (.aload_n 0, 1) := by decide +kernel
theorem dX6_undo_22 : decode cX6_undo 22 = .ok (.getfield 29, 3) := by decide +kernel
theorem dX6_undo_25 : decode cX6_undo 25 = .ok (.invokevirtual 225, 3) := by decide +kernel
theorem dX6_undo_28 : decode cX6_undo 28 = .ok (.aload_n 0, 1) := by decide +kernel
theorem dX6_undo_29 : decode cX6_undo 29 = .ok (.getfield 52, 3) := by decide +kernel
theorem dX6_undo_32 : decode cX6_undo 32 = .ok (.getfield 222, 3) := by decide +kernel
theorem dX6_undo_35 : decode cX6_undo 35 = .ok (.ireturn, 1) := by decide +kernel
theorem dX6_digest_0 : decode cX6_digest 0 = .ok (.aload_n 0, 1) := by decide +kernel
theorem dX6_digest_1 : decode cX6_digest 1 = .ok (.ldc2_w 228, 3) := by decide +kernel
theorem dX6_digest_4 : decode cX6_digest 4 = .ok (.invokevirtual 230, 3) := by decide +kernel
theorem dX6_digest_7 : decode cX6_digest 7 = .ok (.lstore_n 1, 1) := by decide +kernel
theorem dX6_digest_8 : decode cX6_digest 8 = .ok (.aload_n 0, 1) := by decide +kernel
theorem dX6_digest_9 : decode cX6_digest 9 = .ok (.lload_n 1, 1) := by decide +kernel
theorem dX6_digest_10 : decode cX6_digest 10 = .ok (.invokevirtual 234, 3) := by decide +kernel
theorem dX6_digest_13 : decode cX6_digest 13 = .ok (.lstore_n 1, 1) := by decide +kernel
theorem dX6_digest_14 : decode cX6_digest 14 = .ok (.aload_n 0, 1) := by decide +kernel
theorem dX6_digest_15 : decode cX6_digest 15 = .ok (.lload_n 1, 1) := by decide +kernel
theorem dX6_digest_16 : decode cX6_digest 16 = .ok (.invokevirtual 237, 3) := by decide +kernel
theorem dX6_digest_19 : decode cX6_digest 19 = .ok (.lreturn, 1) := by decide +kernel
theorem dX6_isSize_0 : decode cX6_isSize 0 = .ok (.iload_n 0, 1) := by decide +kernel
theorem dX6_isSize_1 : decode cX6_isSize 1 = .ok (.iconst 1, 1) := by decide +kernel
theorem dX6_isSize_2 : decode cX6_isSize 2 = .ok (.if_icmp .lt 13, 3) := by decide +kernel
theorem dX6_isSize_5 : decode cX6_isSize 5 = .ok (.iload_n 0, 1) := by decide +kernel
theorem dX6_isSize_6 : decode cX6_isSize 6 = .ok (.bipush 6, 2) := by decide +kernel
theorem dX6_isSize_8 : decode cX6_isSize 8 = .ok (.if_icmp .gt 7, 3) := by decide +kernel
theorem dX6_isSize_11 : decode cX6_isSize 11 = .ok (.iconst 1, 1) := by decide +kernel
theorem dX6_isSize_12 : decode cX6_isSize 12 = .ok (.goto 4, 3) := by decide +kernel
theorem dX6_isSize_15 : decode cX6_isSize 15 = .ok (.iconst 0, 1) := by decide +kernel
theorem dX6_isSize_16 : decode cX6_isSize 16 = .ok (.ireturn, 1) := by decide +kernel
theorem dX6_makeLinear_0 : decode cX6_makeLinear 0 = .ok (.aload_n 0, 1) := by decide +kernel
theorem dX6_makeLinear_1 : decode cX6_makeLinear 1 = .ok (.invokevirtual 64, 3) := by decide +kernel
theorem dX6_makeLinear_4 : decode cX6_makeLinear 4 = .ok (.aload_n 0, 1) := by decide +kernel
theorem dX6_makeLinear_5 : decode cX6_makeLinear 5 = .ok (.getfield 10, 3) := by decide +kernel
theorem dX6_makeLinear_8 : decode cX6_makeLinear 8 = .ok (.getfield 71, 3) := by decide +kernel
theorem dX6_makeLinear_11 : decode cX6_makeLinear 11 = .ok (.istore_n 3, 1) := by decide +kernel
theorem dX6_makeLinear_12 : decode cX6_makeLinear 12 = .ok (.aload_n 0, 1) := by decide +kernel
theorem dX6_makeLinear_13 : decode cX6_makeLinear 13 = .ok (.getfield 10, 3) := by decide +kernel
theorem dX6_makeLinear_16 : decode cX6_makeLinear 16 = .ok (.iload_n 1, 1) := by decide +kernel
theorem dX6_makeLinear_17 : decode cX6_makeLinear 17 = .ok (.iload_n 2, 1) := by decide +kernel
theorem dX6_makeLinear_18 : decode cX6_makeLinear 18 = .ok (.invokevirtual 240, 3) := by decide +kernel
theorem dX6_makeLinear_21 : decode cX6_makeLinear 21 = .ok (.iload_n 3, 1) := by decide +kernel
theorem dX6_makeLinear_22 : decode cX6_makeLinear 22 = .ok (.ireturn, 1) := by decide +kernel
theorem dX6_saveState_0 : decode cX6_saveState 0 = .ok (.aload_n 0, 1) := by decide +kernel
theorem dX6_saveState_1 : decode cX6_saveState 1 = .ok (.getfield 52, 3) := by decide +kernel
theorem dX6_saveState_4 : decode cX6_saveState 4 = .ok (.aload_n 0, 1) := by decide +kernel
theorem dX6_saveState_5 : decode cX6_saveState 5 = .ok (.getfield 10, 3) := by decide +kernel
theorem dX6_saveState_8 : decode cX6_saveState 8 = .ok (.aload_n 0, 1) := by decide +kernel
theorem dX6_saveState_9 : decode cX6_saveState 9 = .ok (.getfield 29, 3) := by decide +kernel
theorem dX6_saveState_12 : decode cX6_saveState 12 = .ok (.invokevirtual 243, 3) := by decide +kernel
theorem dX6_saveState_15 : decode cX6_saveState 15 = .ok (.return_, 1) := by decide +kernel
theorem dX6_hashTable_0 : decode cX6_hashTable 0 = .ok (.lload_n 1, 1) := by decide +kernel
theorem dX6_hashTable_1 : decode cX6_hashTable 1 = .ok (.aload_n 0, 1) := by decide +kernel
theorem dX6_hashTable_2 : decode cX6_hashTable 2 = .ok (.invokevirtual 246, 3) := by decide +kernel
theorem dX6_hashTable_5 : decode cX6_hashTable 5 = .ok (.invokestatic 249, 3) := by decide +kernel
theorem dX6_hashTable_8 : decode cX6_hashTable 8 = .ok (.lstore_n 3, 1) := by decide +kernel
theorem dX6_hashTable_9 : decode cX6_hashTable 9 = .ok (.iconst 0, 1) := by decide +kernel
theorem dX6_hashTable_10 : decode cX6_hashTable 10 = .ok (.istore 5, 2) := by decide +kernel
theorem dX6_hashTable_12 : decode cX6_hashTable 12 = .ok (.iload 5, 2) := by decide +kernel
theorem dX6_hashTable_14 : decode cX6_hashTable 14 = .ok (.aload_n 0, 1) := by decide +kernel
theorem dX6_hashTable_15 : decode cX6_hashTable 15 = .ok (.getfield 10, 3) := by decide +kernel
theorem dX6_hashTable_18 : decode cX6_hashTable 18 = .ok (.getfield 71, 3) := by decide +kernel
theorem dX6_hashTable_21 : decode cX6_hashTable 21 = .ok (.if_icmp .ge 46, 3) := by decide +kernel
theorem dX6_hashTable_24 : decode cX6_hashTable 24 = .ok (.iconst 0, 1) := by decide +kernel
theorem dX6_hashTable_25 : decode cX6_hashTable 25 = .ok (.istore 6, 2) := by decide +kernel
theorem dX6_hashTable_27 : decode cX6_hashTable 27 = .ok (.iload 6, 2) := by decide +kernel
theorem dX6_hashTable_29 : decode cX6_hashTable 29 = .ok (.aload_n 0, 1) := by decide +kernel
theorem dX6_hashTable_30 : decode cX6_hashTable 30 = .ok (.getfield 10, 3) := by decide +kernel
theorem dX6_hashTable_33 : decode cX6_hashTable 33 = .ok (.getfield 71, 3) := by decide +kernel
theorem dX6_hashTable_36 : decode cX6_hashTable 36 = .ok (.if_icmp .ge 25, 3) := by decide +kernel
theorem dX6_hashTable_39 : decode cX6_hashTable 39 = .ok (.lload_n 3, 1) := by decide +kernel
theorem dX6_hashTable_40 : decode cX6_hashTable 40 = .ok (.aload_n 0, 1) := by decide +kernel
theorem dX6_hashTable_41 : decode cX6_hashTable 41 = .ok (.getfield 10, 3) := by decide +kernel
theorem dX6_hashTable_44 : decode cX6_hashTable 44 = .ok (.iload 5, 2) := by decide +kernel
theorem dX6_hashTable_46 : decode cX6_hashTable 46 = .ok (.iload 6, 2) := by decide +kernel
theorem dX6_hashTable_48 : decode cX6_hashTable 48 = .ok (.invokevirtual 78, 3) := by decide +kernel
theorem dX6_hashTable_51 : decode cX6_hashTable 51 = .ok (.invokestatic 249, 3) := by decide +kernel
theorem dX6_hashTable_54 : decode cX6_hashTable 54 = .ok (.lstore_n 3, 1) := by decide +kernel
theorem dX6_hashTable_55 : decode cX6_hashTable 55 = .ok (.iinc 6 1, 3) := by decide +kernel
theorem dX6_hashTable_58 : decode cX6_hashTable 58 = .ok (.goto (-31), 3) := by decide +kernel
theorem dX6_hashTable_61 : decode cX6_hashTable 61 = .ok (.iinc 5 1, 3) := by decide +kernel
theorem dX6_hashTable_64 : decode cX6_hashTable 64 = .ok (.goto (-52), 3) := by decide +kernel
theorem dX6_hashTable_67 : decode cX6_hashTable 67 = .ok (.iconst 1, 1) := by decide +kernel
theorem dX6_hashTable_68 : decode cX6_hashTable 68 = .ok (.istore 5, 2) := by decide +kernel
theorem dX6_hashTable_70 : decode cX6_hashTable 70 = .ok (.iload 5, 2) := by decide +kernel
theorem dX6_hashTable_72 : decode cX6_hashTable 72 = .ok (.iconst 3, 1) := by decide +kernel
theorem dX6_hashTable_73 : decode cX6_hashTable 73 = .ok (.if_icmp .gt 20, 3) := by decide +kernel
theorem dX6_hashTable_76 : decode cX6_hashTable 76 = .ok (.lload_n 3, 1) := by decide +kernel
theorem dX6_hashTable_77 : decode cX6_hashTable 77 = .ok (.aload_n 0, 1) := by decide +kernel
theorem dX6_hashTable_78 : decode cX6_hashTable 78 = .ok (.iload 5, 2) := by decide +kernel
theorem dX6_hashTable_80 : decode cX6_hashTable 80 = .ok (.invokevirtual 253, 3) := by decide +kernel
theorem dX6_hashTable_83 : decode cX6_hashTable 83 = .ok (.invokestatic 249, 3) := by decide +kernel
theorem dX6_hashTable_86 : decode cX6_hashTable 86 = .ok (.lstore_n 3, 1) := by decide +kernel
theorem dX6_hashTable_87 : decode cX6_hashTable 87 = .ok (.iinc 5 1, 3) := by decide +kernel
theorem dX6_hashTable_90 : decode cX6_hashTable 90 = .ok (.goto (-20), 3) := by decide +kernel
theorem dX6_hashTable_93 : decode cX6_hashTable 93 = .ok (.lload_n 3, 1) := by decide +kernel
theorem dX6_hashTable_94 : decode cX6_hashTable 94 = .ok (.aload_n 0, 1) := by decide +kernel
theorem dX6_hashTable_95 : decode cX6_hashTable 95 = .ok (.invokevirtual 256, 3) := by decide +kernel
theorem dX6_hashTable_98 : decode cX6_hashTable 98 = .ok (.invokestatic 249, 3) := by decide +kernel
theorem dX6_hashTable_101 : decode cX6_hashTable 101 = .ok (.lstore_n 3, 1) := by decide +kernel
theorem dX6_hashTable_102 : decode cX6_hashTable 102 = .ok (.lload_n 3, 1) := by decide +kernel
theorem dX6_hashTable_103 : decode cX6_hashTable 103 = .ok (.aload_n 0, 1) := by decide +kernel
theorem dX6_hashTable_104 : decode cX6_hashTable 104 = .ok (.invokevirtual 259, 3) := by decide +kernel
theorem dX6_hashTable_107 : decode cX6_hashTable 107 = .ok (.invokestatic 249, 3) := by decide +kernel
theorem dX6_hashTable_110 : decode cX6_hashTable 110 = .ok (.lstore_n 3, 1) := by decide +kernel
theorem dX6_hashTable_111 : decode cX6_hashTable 111 = .ok (.lload_n 3, 1) := by decide +kernel
theorem dX6_hashTable_112 : decode cX6_hashTable 112 = .ok (.aload_n 0, 1) := by decide +kernel
theorem dX6_hashTable_113 : decode cX6_hashTable 113 = .ok (.invokevirtual 262, 3) := by decide +kernel
theorem dX6_hashTable_116 : decode cX6_hashTable 116 = .ok (.invokestatic 249, 3) := by decide +kernel
theorem dX6_hashTable_119 : decode cX6_hashTable 119 = .ok (.lstore_n 3, 1) := by decide +kernel
theorem dX6_hashTable_120 : decode cX6_hashTable 120 = .ok (.lload_n 3, 1) := by decide +kernel
theorem dX6_hashTable_121 : decode cX6_hashTable 121 = .ok (.aload_n 0, 1) := by decide +kernel
theorem dX6_hashTable_122 : decode cX6_hashTable 122 = .ok (.invokevirtual 265, 3) := by decide +kernel
theorem dX6_hashTable_125 : decode cX6_hashTable 125 = .ok (.invokestatic 249, 3) := by decide +kernel
theorem dX6_hashTable_128 : decode cX6_hashTable 128 = .ok (.lstore_n 3, 1) := by decide +kernel
theorem dX6_hashTable_129 : decode cX6_hashTable 129 = .ok (.lload_n 3, 1) := by decide +kernel
theorem dX6_hashTable_130 : decode cX6_hashTable 130 = .ok (.aload_n 0, 1) := by decide +kernel
theorem dX6_hashTable_131 : decode cX6_hashTable 131 = .ok (.invokevirtual 268, 3) := by decide +kernel
theorem dX6_hashTable_134 : decode cX6_hashTable 134 = .ok (.invokestatic 249, 3) := by decide +kernel
theorem dX6_hashTable_137 : decode cX6_hashTable 137 = .ok (.lreturn, 1) := by decide +kernel
theorem dX6_hashDiagram_0 : decode cX6_hashDiagram 0 = .ok (.lload_n 1, 1) := by decide +kernel
theorem dX6_hashDiagram_1 : decode cX6_hashDiagram 1 = .ok (.aload_n 0, 1) := by decide +kernel
theorem dX6_hashDiagram_2 : decode cX6_hashDiagram 2 = .ok (.invokevirtual 271, 3) := by decide +kernel
theorem dX6_hashDiagram_5 : decode cX6_hashDiagram 5 = .ok (.invokestatic 249, 3) := by decide +kernel
theorem dX6_hashDiagram_8 : decode cX6_hashDiagram 8 = .ok (.lstore_n 3, 1) := by decide +kernel
theorem dX6_hashDiagram_9 : decode cX6_hashDiagram 9 = .ok (.lload_n 3, 1) := by decide +kernel
theorem dX6_hashDiagram_10 : decode cX6_hashDiagram 10 = .ok (.aload_n 0, 1) := by decide +kernel
theorem dX6_hashDiagram_11 : decode cX6_hashDiagram 11 = .ok (.invokevirtual 274, 3) := by decide +kernel
theorem dX6_hashDiagram_14 : decode cX6_hashDiagram 14 = .ok (.invokestatic 249, 3) := by decide +kernel
theorem dX6_hashDiagram_17 : decode cX6_hashDiagram 17 = .ok (.lstore_n 3, 1) := by decide +kernel
theorem dX6_hashDiagram_18 : decode cX6_hashDiagram 18 = .ok (.iconst 0, 1) := by decide +kernel
theorem dX6_hashDiagram_19 : decode cX6_hashDiagram 19 = .ok (.istore 5, 2) := by decide +kernel
theorem dX6_hashDiagram_21 : decode cX6_hashDiagram 21 = .ok (.iload 5, 2) := by decide +kernel
theorem dX6_hashDiagram_23 : decode cX6_hashDiagram 23 = .ok (.aload_n 0, 1) := by decide +kernel
theorem dX6_hashDiagram_24 : decode cX6_hashDiagram 24 = .ok (.getfield 29, 3) := by decide +kernel
theorem dX6_hashDiagram_27 : decode cX6_hashDiagram 27 = .ok (.getfield 154, 3) := by decide +kernel
theorem dX6_hashDiagram_30 : decode cX6_hashDiagram 30 = .ok (.if_icmp .ge 40, 3) := by decide +kernel
theorem dX6_hashDiagram_33 : decode cX6_hashDiagram 33 = .ok (.iconst 0, 1) := by decide +kernel
theorem dX6_hashDiagram_34 : decode cX6_hashDiagram 34 = .ok (.istore 6, 2) := by decide +kernel
theorem dX6_hashDiagram_36 : decode cX6_hashDiagram 36 = .ok (.iload 6, 2) := by decide +kernel
theorem dX6_hashDiagram_38 : decode cX6_hashDiagram 38 = .ok (.iconst 4, 1) := by decide +kernel
theorem dX6_hashDiagram_39 : decode cX6_hashDiagram 39 = .ok (.if_icmp .ge 25, 3) := by decide +kernel
theorem dX6_hashDiagram_42 : decode cX6_hashDiagram 42 = .ok (.lload_n 3, 1) := by decide +kernel
theorem dX6_hashDiagram_43 : decode cX6_hashDiagram 43 = .ok (.aload_n 0, 1) := by decide +kernel
theorem dX6_hashDiagram_44 : decode cX6_hashDiagram 44 = .ok (.getfield 29, 3) := by decide +kernel
theorem dX6_hashDiagram_47 : decode cX6_hashDiagram 47 = .ok (.iload 5, 2) := by decide +kernel
theorem dX6_hashDiagram_49 : decode cX6_hashDiagram 49 = .ok (.iload 6, 2) := by decide +kernel
theorem dX6_hashDiagram_51 : decode cX6_hashDiagram 51 = .ok (.invokevirtual 177, 3) := by decide +kernel
theorem dX6_hashDiagram_54 : decode cX6_hashDiagram 54 = .ok (.invokestatic 249, 3) := by decide +kernel
theorem dX6_hashDiagram_57 : decode cX6_hashDiagram 57 = .ok (.lstore_n 3, 1) := by decide +kernel
theorem dX6_hashDiagram_58 : decode cX6_hashDiagram 58 = .ok (.iinc 6 1, 3) := by decide +kernel
theorem dX6_hashDiagram_61 : decode cX6_hashDiagram 61 = .ok (.goto (-25), 3) := by decide +kernel
theorem dX6_hashDiagram_64 : decode cX6_hashDiagram 64 = .ok (.iinc 5 1, 3) := by decide +kernel
theorem dX6_hashDiagram_67 : decode cX6_hashDiagram 67 = .ok (.goto (-46), 3) := by decide +kernel
theorem dX6_hashDiagram_70 : decode cX6_hashDiagram 70 = .ok (.lload_n 3, 1) := by decide +kernel
theorem dX6_hashDiagram_71 : decode cX6_hashDiagram 71 = .ok (.aload_n 0, 1) := by decide +kernel
theorem dX6_hashDiagram_72 : decode cX6_hashDiagram 72 = .ok (.invokevirtual 277, 3) := by decide +kernel
theorem dX6_hashDiagram_75 : decode cX6_hashDiagram 75 = .ok (.invokestatic 249, 3) := by decide +kernel
theorem dX6_hashDiagram_78 : decode cX6_hashDiagram 78 = .ok (.lstore_n 3, 1) := by decide +kernel
theorem dX6_hashDiagram_79 : decode cX6_hashDiagram 79 = .ok (.lload_n 3, 1) := by decide +kernel
theorem dX6_hashDiagram_80 : decode cX6_hashDiagram 80 = .ok (.aload_n 0, 1) := by decide +kernel
theorem dX6_hashDiagram_81 : decode cX6_hashDiagram 81 = .ok (.invokevirtual 280, 3) := by decide +kernel
theorem dX6_hashDiagram_84 : decode cX6_hashDiagram 84 = .ok (.invokestatic 249, 3) := by decide +kernel
theorem dX6_hashDiagram_87 : decode cX6_hashDiagram 87 = .ok (.lreturn, 1) := by decide +kernel
theorem dX6_hashColourings_0 : decode cX6_hashColourings 0 = .ok (.lload_n 1, 1) := by decide +kernel
theorem dX6_hashColourings_1 : decode cX6_hashColourings 1 = .ok (.aload_n 0, 1) := by decide +kernel
theorem dX6_hashColourings_2 : decode cX6_hashColourings 2 = .ok (.getfield 38, 3) := by decide +kernel
theorem dX6_hashColourings_5 : decode cX6_hashColourings 5 = .ok (.invokevirtual 191, 3) := by decide +kernel
theorem dX6_hashColourings_8 : decode cX6_hashColourings 8 = .ok (.invokestatic 249, 3) := by decide +kernel
theorem dX6_hashColourings_11 : decode cX6_hashColourings 11 = .ok (.lstore_n 3, 1) := by decide +kernel
theorem dX6_hashColourings_12 : decode cX6_hashColourings 12 = .ok (.iconst 1, 1) := by decide +kernel
theorem dX6_hashColourings_13 : decode cX6_hashColourings 13 = .ok (.istore 5, 2) := by decide +kernel
theorem dX6_hashColourings_15 : decode cX6_hashColourings 15 = .ok (.iload 5, 2) := by decide +kernel
theorem dX6_hashColourings_17 : decode cX6_hashColourings 17 = .ok (.bipush 6, 2) := by decide +kernel
theorem dX6_hashColourings_19 : decode cX6_hashColourings 19 = .ok (.if_icmp .gt 23, 3) := by decide +kernel
theorem dX6_hashColourings_22 : decode cX6_hashColourings 22 = .ok (.lload_n 3, 1) := by decide +kernel
theorem dX6_hashColourings_23 : decode cX6_hashColourings 23 = .ok (.aload_n 0, 1) := by decide +kernel
theorem dX6_hashColourings_24 : decode cX6_hashColourings 24 = .ok (.getfield 38, 3) := by decide +kernel
theorem dX6_hashColourings_27 : decode cX6_hashColourings 27 = .ok (.iload 5, 2) := by decide +kernel
theorem dX6_hashColourings_29 : decode cX6_hashColourings 29 = .ok (.invokevirtual 200, 3) := by decide +kernel
theorem dX6_hashColourings_32 : decode cX6_hashColourings 32 = .ok (.invokestatic 249, 3) := by decide +kernel
theorem dX6_hashColourings_35 : decode cX6_hashColourings 35 = .ok (.lstore_n 3, 1) := by decide +kernel
theorem dX6_hashColourings_36 : decode cX6_hashColourings 36 = .ok (.iinc 5 1, 3) := by decide +kernel
theorem dX6_hashColourings_39 : decode cX6_hashColourings 39 = .ok (.goto (-24), 3) := by decide +kernel
theorem dX6_hashColourings_42 : decode cX6_hashColourings 42 = .ok (.lload_n 3, 1) := by decide +kernel
theorem dX6_hashColourings_43 : decode cX6_hashColourings 43 = .ok (.lreturn, 1) := by decide +kernel
theorem dX6_mix_0 : decode cX6_mix 0 = .ok (.ldc2_w 283, 3) := by decide +kernel
theorem dX6_mix_3 : decode cX6_mix 3 = .ok (.lload_n 0, 1) := by decide +kernel
theorem dX6_mix_4 : decode cX6_mix 4 = .ok (.lmul, 1) := by decide +kernel
theorem dX6_mix_5 : decode cX6_mix 5 = .ok (.iload_n 2, 1) := by decide +kernel
theorem dX6_mix_6 : decode cX6_mix 6 = .ok (.i2l, 1) := by decide +kernel
theorem dX6_mix_7 : decode cX6_mix 7 = .ok (.ladd, 1) := by decide +kernel
theorem dX6_mix_8 : decode cX6_mix 8 = .ok (.lreturn, 1) := by decide +kernel
theorem dJ6_bitCount_0f7a4_0 : decode cJ6_bitCount_0f7a4 0 = .ok (.iload_n 0, 1) := by decide +kernel
theorem dJ6_bitCount_0f7a4_1 : decode cJ6_bitCount_0f7a4 1 = .ok (.iload_n 0, 1) := by decide +kernel
theorem dJ6_bitCount_0f7a4_2 : decode cJ6_bitCount_0f7a4 2 = .ok (.iconst 1, 1) := by decide +kernel
theorem dJ6_bitCount_0f7a4_3 : decode cJ6_bitCount_0f7a4 3 = .ok (.iushr, 1) := by decide +kernel
theorem dJ6_bitCount_0f7a4_4 : decode cJ6_bitCount_0f7a4 4 = .ok (.ldc_w 265, 3) := by decide +kernel
theorem dJ6_bitCount_0f7a4_7 : decode cJ6_bitCount_0f7a4 7 = .ok (.iand, 1) := by decide +kernel
theorem dJ6_bitCount_0f7a4_8 : decode cJ6_bitCount_0f7a4 8 = .ok (.isub, 1) := by decide +kernel
theorem dJ6_bitCount_0f7a4_9 : decode cJ6_bitCount_0f7a4 9 = .ok (.istore_n 0, 1) := by decide +kernel
theorem dJ6_bitCount_0f7a4_10 : decode cJ6_bitCount_0f7a4 10 = .ok (.iload_n 0, 1) := by decide +kernel
theorem dJ6_bitCount_0f7a4_11 : decode cJ6_bitCount_0f7a4 11 = .ok (.ldc_w 266, 3) := by decide +kernel
theorem dJ6_bitCount_0f7a4_14 : decode cJ6_bitCount_0f7a4 14 = .ok (.iand, 1) := by decide +kernel
theorem dJ6_bitCount_0f7a4_15 : decode cJ6_bitCount_0f7a4 15 = .ok (.iload_n 0, 1) := by decide +kernel
theorem dJ6_bitCount_0f7a4_16 : decode cJ6_bitCount_0f7a4 16 = .ok (.iconst 2, 1) := by decide +kernel
theorem dJ6_bitCount_0f7a4_17 : decode cJ6_bitCount_0f7a4 17 = .ok (.iushr, 1) := by decide +kernel
theorem dJ6_bitCount_0f7a4_18 : decode cJ6_bitCount_0f7a4 18 = .ok (.ldc_w 266, 3) := by decide +kernel
theorem dJ6_bitCount_0f7a4_21 : decode cJ6_bitCount_0f7a4 21 = .ok (.iand, 1) := by decide +kernel
theorem dJ6_bitCount_0f7a4_22 : decode cJ6_bitCount_0f7a4 22 = .ok (.iadd, 1) := by decide +kernel
theorem dJ6_bitCount_0f7a4_23 : decode cJ6_bitCount_0f7a4 23 = .ok (.istore_n 0, 1) := by decide +kernel
theorem dJ6_bitCount_0f7a4_24 : decode cJ6_bitCount_0f7a4 24 = .ok (.iload_n 0, 1) := by decide +kernel
theorem dJ6_bitCount_0f7a4_25 : decode cJ6_bitCount_0f7a4 25 = .ok (.iload_n 0, 1) := by decide +kernel
theorem dJ6_bitCount_0f7a4_26 : decode cJ6_bitCount_0f7a4 26 = .ok (.iconst 4, 1) := by decide +kernel
theorem dJ6_bitCount_0f7a4_27 : decode cJ6_bitCount_0f7a4 27 = .ok (.iushr, 1) := by decide +kernel
theorem dJ6_bitCount_0f7a4_28 : decode cJ6_bitCount_0f7a4 28 = .ok (.iadd, 1) := by decide +kernel
theorem dJ6_bitCount_0f7a4_29 : decode cJ6_bitCount_0f7a4 29 = .ok (.ldc_w 267, 3) := by decide +kernel
theorem dJ6_bitCount_0f7a4_32 : decode cJ6_bitCount_0f7a4 32 = .ok (.iand, 1) := by decide +kernel
theorem dJ6_bitCount_0f7a4_33 : decode cJ6_bitCount_0f7a4 33 = .ok (.istore_n 0, 1) := by decide +kernel
theorem dJ6_bitCount_0f7a4_34 : decode cJ6_bitCount_0f7a4 34 = .ok (.iload_n 0, 1) := by decide +kernel
theorem dJ6_bitCount_0f7a4_35 : decode cJ6_bitCount_0f7a4 35 = .ok (.iload_n 0, 1) := by decide +kernel
theorem dJ6_bitCount_0f7a4_36 : decode cJ6_bitCount_0f7a4 36 = .ok (.bipush 8, 2) := by decide +kernel
theorem dJ6_bitCount_0f7a4_38 : decode cJ6_bitCount_0f7a4 38 = .ok (.iushr, 1) := by decide +kernel
theorem dJ6_bitCount_0f7a4_39 : decode cJ6_bitCount_0f7a4 39 = .ok (.iadd, 1) := by decide +kernel
theorem dJ6_bitCount_0f7a4_40 : decode cJ6_bitCount_0f7a4 40 = .ok (.istore_n 0, 1) := by decide +kernel
theorem dJ6_bitCount_0f7a4_41 : decode cJ6_bitCount_0f7a4 41 = .ok (.iload_n 0, 1) := by decide +kernel
theorem dJ6_bitCount_0f7a4_42 : decode cJ6_bitCount_0f7a4 42 = .ok (.iload_n 0, 1) := by decide +kernel
theorem dJ6_bitCount_0f7a4_43 : decode cJ6_bitCount_0f7a4 43 = .ok (.bipush 16, 2) := by decide +kernel
theorem dJ6_bitCount_0f7a4_45 : decode cJ6_bitCount_0f7a4 45 = .ok (.iushr, 1) := by decide +kernel
theorem dJ6_bitCount_0f7a4_46 : decode cJ6_bitCount_0f7a4 46 = .ok (.iadd, 1) := by decide +kernel
theorem dJ6_bitCount_0f7a4_47 : decode cJ6_bitCount_0f7a4 47 = .ok (.istore_n 0, 1) := by decide +kernel
theorem dJ6_bitCount_0f7a4_48 : decode cJ6_bitCount_0f7a4 48 = .ok (.iload_n 0, 1) := by decide +kernel
theorem dJ6_bitCount_0f7a4_49 : decode cJ6_bitCount_0f7a4 49 = .ok (.bipush 63, 2) := by decide +kernel
theorem dJ6_bitCount_0f7a4_51 : decode cJ6_bitCount_0f7a4 51 = .ok (.iand, 1) := by decide +kernel
theorem dJ6_bitCount_0f7a4_52 : decode cJ6_bitCount_0f7a4 52 = .ok (.ireturn, 1) := by decide +kernel
theorem dJ9_floorMod_7cf53_0 : decode cJ9_floorMod_7cf53 0 = .ok (.iload_n 0, 1) := by decide +kernel
theorem dJ9_floorMod_7cf53_1 : decode cJ9_floorMod_7cf53 1 = .ok (.iload_n 1, 1) := by decide +kernel
theorem dJ9_floorMod_7cf53_2 : decode cJ9_floorMod_7cf53 2 = .ok (.irem, 1) := by decide +kernel
theorem dJ9_floorMod_7cf53_3 : decode cJ9_floorMod_7cf53 3 = .ok (.istore_n 2, 1) := by decide +kernel
theorem dJ9_floorMod_7cf53_4 : decode cJ9_floorMod_7cf53 4 = .ok (.iload_n 0, 1) := by decide +kernel
theorem dJ9_floorMod_7cf53_5 : decode cJ9_floorMod_7cf53 5 = .ok (.iload_n 1, 1) := by decide +kernel
theorem dJ9_floorMod_7cf53_6 : decode cJ9_floorMod_7cf53 6 = .ok (.ixor, 1) := by decide +kernel
theorem dJ9_floorMod_7cf53_7 : decode cJ9_floorMod_7cf53 7 = .ok (.ifCond .ge 11, 3) := by decide +kernel
theorem dJ9_floorMod_7cf53_10 : decode cJ9_floorMod_7cf53 10 = .ok (.iload_n 2, 1) := by decide +kernel
theorem dJ9_floorMod_7cf53_11 : decode cJ9_floorMod_7cf53 11 = .ok (.ifCond .eq 7, 3) := by decide +kernel
theorem dJ9_floorMod_7cf53_14 : decode cJ9_floorMod_7cf53 14 = .ok (.iload_n 2, 1) := by decide +kernel
theorem dJ9_floorMod_7cf53_15 : decode cJ9_floorMod_7cf53 15 = .ok (.iload_n 1, 1) := by decide +kernel
theorem dJ9_floorMod_7cf53_16 : decode cJ9_floorMod_7cf53 16 = .ok (.iadd, 1) := by decide +kernel
theorem dJ9_floorMod_7cf53_17 : decode cJ9_floorMod_7cf53 17 = .ok (.ireturn, 1) := by decide +kernel
theorem dJ9_floorMod_7cf53_18 : decode cJ9_floorMod_7cf53 18 = .ok (.iload_n 2, 1) := by decide +kernel
theorem dJ9_floorMod_7cf53_19 : decode cJ9_floorMod_7cf53 19 = .ok (.ireturn, 1) := by decide +kernel
theorem dJ9_max_7cf53_0 : decode cJ9_max_7cf53 0 = .ok (.iload_n 0, 1) := by decide +kernel
theorem dJ9_max_7cf53_1 : decode cJ9_max_7cf53 1 = .ok (.iload_n 1, 1) := by decide +kernel
theorem dJ9_max_7cf53_2 : decode cJ9_max_7cf53 2 = .ok (.if_icmp .lt 7, 3) := by decide +kernel
theorem dJ9_max_7cf53_5 : decode cJ9_max_7cf53 5 = .ok (.iload_n 0, 1) := by decide +kernel
theorem dJ9_max_7cf53_6 : decode cJ9_max_7cf53 6 = .ok (.goto 4, 3) := by decide +kernel
theorem dJ9_max_7cf53_9 : decode cJ9_max_7cf53 9 = .ok (.iload_n 1, 1) := by decide +kernel
theorem dJ9_max_7cf53_10 : decode cJ9_max_7cf53 10 = .ok (.ireturn, 1) := by decide +kernel
theorem dJ9_min_7cf53_0 : decode cJ9_min_7cf53 0 = .ok (.iload_n 0, 1) := by decide +kernel
theorem dJ9_min_7cf53_1 : decode cJ9_min_7cf53 1 = .ok (.iload_n 1, 1) := by decide +kernel
theorem dJ9_min_7cf53_2 : decode cJ9_min_7cf53 2 = .ok (.if_icmp .gt 7, 3) := by decide +kernel
theorem dJ9_min_7cf53_5 : decode cJ9_min_7cf53 5 = .ok (.iload_n 0, 1) := by decide +kernel
theorem dJ9_min_7cf53_6 : decode cJ9_min_7cf53 6 = .ok (.goto 4, 3) := by decide +kernel
theorem dJ9_min_7cf53_9 : decode cJ9_min_7cf53 9 = .ok (.iload_n 1, 1) := by decide +kernel
theorem dJ9_min_7cf53_10 : decode cJ9_min_7cf53 10 = .ok (.ireturn, 1) := by decide +kernel
end
section
theorem dX7_init_0 : decode cX7_init 0 = .ok (.aload_n 0, 1) := by decide +kernel
theorem dX7_init_1 : decode cX7_init 1 = .ok (.invokespecial 1, 3) := by decide +kernel
theorem dX7_init_4 : decode cX7_init 4 = .ok (.aload_n 0, 1) := by decide +kernel
theorem dX7_init_5 : decode cX7_init 5 = .ok (.bipush 79, 2) := by decide +kernel
theorem dX7_init_7 : decode cX7_init 7 = .ok (.newarray .int, 2) := by decide +kernel
theorem dX7_init_9 : decode cX7_init 9 = .ok (.putfield 7, 3) := by decide +kernel
theorem dX7_init_12 : decode cX7_init 12 = .ok (.aload_n 0, 1) := by decide +kernel
theorem dX7_init_13 : decode cX7_init 13 = .ok (.sipush 474, 3) := by decide +kernel
theorem dX7_init_16 : decode cX7_init 16 = .ok (.newarray .int, 2) := by decide +kernel
theorem dX7_init_18 : decode cX7_init 18 = .ok (.putfield 13, 3) := by decide +kernel
theorem dX7_init_21 : decode cX7_init 21 = .ok (.aload_n 0, 1) := by decide +kernel
theorem dX7_init_22 : decode cX7_init 22 = .ok (.bipush 70, 2) := by decide +kernel
theorem dX7_init_24 : decode cX7_init 24 = .ok (.newarray .int, 2) := by decide +kernel
theorem dX7_init_26 : decode cX7_init 26 = .ok (.putfield 16, 3) := by decide +kernel
theorem dX7_init_29 : decode cX7_init 29 = .ok (.aload_n 0, 1) := by decide +kernel
theorem dX7_init_30 : decode cX7_init 30 = .ok (.sipush 720, 3) := by decide +kernel
theorem dX7_init_33 : decode cX7_init 33 = .ok (.newarray .int, 2) := by decide +kernel
theorem dX7_init_35 : decode cX7_init 35 = .ok (.putfield 19, 3) := by decide +kernel
theorem dX7_init_38 : decode cX7_init 38 = .ok (.aload_n 0, 1) := by decide +kernel
theorem dX7_init_39 : decode cX7_init 39 = .ok (.bipush 6, 2) := by decide +kernel
theorem dX7_init_41 : decode cX7_init 41 = .ok (.newarray .int, 2) := by decide +kernel
theorem dX7_init_43 : decode cX7_init 43 = .ok (.putfield 22, 3) := by decide +kernel
theorem dX7_init_46 : decode cX7_init 46 = .ok (.aload_n 0, 1) := by decide +kernel
theorem dX7_init_47 : decode cX7_init 47 = .ok (.bipush 7, 2) := by decide +kernel
theorem dX7_init_49 : decode cX7_init 49 = .ok (.newarray .int, 2) := by decide +kernel
theorem dX7_init_51 : decode cX7_init 51 = .ok (.putfield 25, 3) := by decide +kernel
theorem dX7_init_54 : decode cX7_init 54 = .ok (.aload_n 0, 1) := by decide +kernel
theorem dX7_init_55 : decode cX7_init 55 = .ok (.bipush 7, 2) := by decide +kernel
theorem dX7_init_57 : decode cX7_init 57 = .ok (.newarray .int, 2) := by decide +kernel
theorem dX7_init_59 : decode cX7_init 59 = .ok (.putfield 28, 3) := by decide +kernel
theorem dX7_init_62 : decode cX7_init 62 = .ok (.aload_n 0, 1) := by decide +kernel
theorem dX7_init_63 : decode cX7_init 63 = .ok (.getfield 7, 3) := by decide +kernel
theorem dX7_init_66 : decode cX7_init 66 = .ok (.iconst 0, 1) := by decide +kernel
theorem dX7_init_67 : decode cX7_init 67 = .ok (.iconst 1, 1) := by decide +kernel
theorem dX7_init_68 : decode cX7_init 68 = .ok (.iastore, 1) := by decide +kernel
theorem dX7_init_69 : decode cX7_init 69 = .ok (.aload_n 0, 1) := by decide +kernel
theorem dX7_init_70 : decode cX7_init 70 = .ok (.getfield 7, 3) := by decide +kernel
theorem dX7_init_73 : decode cX7_init 73 = .ok (.bipush 37, 2) := by decide +kernel
theorem dX7_init_75 : decode cX7_init 75 = .ok (.iconst 1, 1) := by decide +kernel
theorem dX7_init_76 : decode cX7_init 76 = .ok (.iastore, 1) := by decide +kernel
theorem dX7_init_77 : decode cX7_init 77 = .ok (.return_, 1) := by decide +kernel
theorem dX7_within_0 : decode cX7_within 0 = .ok (.iload_n 0, 1) := by decide +kernel
theorem dX7_within_1 : decode cX7_within 1 = .ok (.iload_n 1, 1) := by decide +kernel
theorem dX7_within_2 : decode cX7_within 2 = .ok (.if_icmp .lt 12, 3) := by decide +kernel
theorem dX7_within_5 : decode cX7_within 5 = .ok (.iload_n 0, 1) := by decide +kernel
theorem dX7_within_6 : decode cX7_within 6 = .ok (.iload_n 2, 1) := by decide +kernel
theorem dX7_within_7 : decode cX7_within 7 = .ok (.if_icmp .gt 7, 3) := by decide +kernel
theorem dX7_within_10 : decode cX7_within 10 = .ok (.iconst 1, 1) := by decide +kernel
theorem dX7_within_11 : decode cX7_within 11 = .ok (.goto 4, 3) := by decide +kernel
theorem dX7_within_14 : decode cX7_within 14 = .ok (.iconst 0, 1) := by decide +kernel
theorem dX7_within_15 : decode cX7_within 15 = .ok (.ireturn, 1) := by decide +kernel
theorem dX7_bits_0 : decode cX7_bits 0 = .ok (.iconst 0, 1) := by decide +kernel
theorem dX7_bits_1 : decode cX7_bits 1 = .ok (.istore_n 1, 1) := by decide +kernel
theorem dX7_bits_2 : decode cX7_bits 2 = .ok (.iconst 0, 1) := by decide +kernel
theorem dX7_bits_3 : decode cX7_bits 3 = .ok (.istore_n 2, 1) := by decide +kernel
theorem dX7_bits_4 : decode cX7_bits 4 = .ok (.iload_n 2, 1) := by decide +kernel
theorem dX7_bits_5 : decode cX7_bits 5 = .ok (.bipush 6, 2) := by decide +kernel
theorem dX7_bits_7 : decode cX7_bits 7 = .ok (.if_icmp .ge 17, 3) := by decide +kernel
theorem dX7_bits_10 : decode cX7_bits 10 = .ok (.iload_n 1, 1) := by decide +kernel
theorem dX7_bits_11 : decode cX7_bits 11 = .ok (.iload_n 0, 1) := by decide +kernel
theorem dX7_bits_12 : decode cX7_bits 12 = .ok (.iload_n 2, 1) := by decide +kernel
theorem dX7_bits_13 : decode cX7_bits 13 = .ok (.ishr, 1) := by decide +kernel
theorem dX7_bits_14 : decode cX7_bits 14 = .ok (.iconst 1, 1) := by decide +kernel
theorem dX7_bits_15 : decode cX7_bits 15 = .ok (.iand, 1) := by decide +kernel
theorem dX7_bits_16 : decode cX7_bits 16 = .ok (.iadd, 1) := by decide +kernel
theorem dX7_bits_17 : decode cX7_bits 17 = .ok (.istore_n 1, 1) := by decide +kernel
theorem dX7_bits_18 : decode cX7_bits 18 = .ok (.iinc 2 1, 3) := by decide +kernel
theorem dX7_bits_21 : decode cX7_bits 21 = .ok (.goto (-17), 3) := by decide +kernel
theorem dX7_bits_24 : decode cX7_bits 24 = .ok (.iload_n 1, 1) := by decide +kernel
theorem dX7_bits_25 : decode cX7_bits 25 = .ok (.ireturn, 1) := by decide +kernel
theorem dX7_record_0 : decode cX7_record 0 = .ok (.aload_n 0, 1) := by decide +kernel
theorem dX7_record_1 : decode cX7_record 1 = .ok (.getfield 31, 3) := by decide +kernel
theorem dX7_record_4 : decode cX7_record 4 = .ok (.bipush 6, 2) := by decide +kernel
theorem dX7_record_6 : decode cX7_record 6 = .ok (.if_icmp .ne 43, 3) := by decide +kernel
theorem dX7_record_9 : decode cX7_record 9 = .ok (.iconst 0, 1) := by decide +kernel
theorem dX7_record_10 : decode cX7_record 10 = .ok (.istore_n 1, 1) := by decide +kernel
theorem dX7_record_11 : decode cX7_record 11 = .ok (.iload_n 1, 1) := by decide +kernel
theorem dX7_record_12 : decode cX7_record 12 = .ok (.sipush 395, 3) := by decide +kernel
theorem dX7_record_15 : decode cX7_record 15 = .ok (.if_icmp .ge 24, 3) := by decide +kernel
theorem dX7_record_18 : decode cX7_record 18 = .ok (.aload_n 0, 1) := by decide +kernel
theorem dX7_record_19 : decode cX7_record 19 = .ok (.getfield 13, 3) := by decide +kernel
theorem dX7_record_22 : decode cX7_record 22 = .ok (.iload_n 1, 1) := by decide +kernel
theorem dX7_record_23 : decode cX7_record 23 = .ok (.aload_n 0, 1) := by decide +kernel
theorem dX7_record_24 : decode cX7_record 24 = .ok (.getfield 13, 3) := by decide +kernel
theorem dX7_record_27 : decode cX7_record 27 = .ok (.iload_n 1, 1) := by decide +kernel
theorem dX7_record_28 : decode cX7_record 28 = .ok (.bipush 79, 2) := by decide +kernel
theorem dX7_record_30 : decode cX7_record 30 = .ok (.iadd, 1) := by decide +kernel
theorem dX7_record_31 : decode cX7_record 31 = .ok (.iaload, 1) := by decide +kernel
theorem dX7_record_32 : decode cX7_record 32 = .ok (.iastore, 1) := by decide +kernel
theorem dX7_record_33 : decode cX7_record 33 = .ok (.iinc 1 1, 3) := by decide +kernel
theorem dX7_record_36 : decode cX7_record 36 = .ok (.goto (-25), 3) := by decide +kernel
theorem dX7_record_39 : decode cX7_record 39 = .ok (.aload_n 0, 1) := by decide +kernel
theorem dX7_record_40 : decode cX7_record 40 = .ok (.dup, 1) := by decide +kernel
theorem dX7_record_41 : decode cX7_record 41 = .ok (.getfield 31, 3) := by decide +kernel
theorem dX7_record_44 : decode cX7_record 44 = .ok (.iconst 1, 1) := by decide +kernel
theorem dX7_record_45 : decode cX7_record 45 = .ok (.isub, 1) := by decide +kernel
theorem dX7_record_46 : decode cX7_record 46 = .ok (.putfield 31, 3) := by decide +kernel
theorem dX7_record_49 : decode cX7_record 49 = .ok (.iconst 0, 1) := by decide +kernel
theorem dX7_record_50 : decode cX7_record 50 = .ok (.istore_n 1, 1) := by decide +kernel
theorem dX7_record_51 : decode cX7_record 51 = .ok (.iload_n 1, 1) := by decide +kernel
theorem dX7_record_52 : decode cX7_record 52 = .ok (.bipush 79, 2) := by decide +kernel
theorem dX7_record_54 : decode cX7_record 54 = .ok (.if_icmp .ge 29, 3) := by decide +kernel
theorem dX7_record_57 : decode cX7_record 57 = .ok (.aload_n 0, 1) := by decide +kernel
theorem dX7_record_58 : decode cX7_record 58 = .ok (.getfield 13, 3) := by decide +kernel
theorem dX7_record_61 : decode cX7_record 61 = .ok (.aload_n 0, 1) := by decide +kernel
theorem dX7_record_62 : decode cX7_record 62 = .ok (.getfield 31, 3) := by decide +kernel
theorem dX7_record_65 : decode cX7_record 65 = .ok (.bipush 79, 2) := by decide +kernel
theorem dX7_record_67 : decode cX7_record 67 = .ok (.imul, 1) := by decide +kernel
theorem dX7_record_68 : decode cX7_record 68 = .ok (.iload_n 1, 1) := by decide +kernel
theorem dX7_record_69 : decode cX7_record 69 = .ok (.iadd, 1) := by decide +kernel
theorem dX7_record_70 : decode cX7_record 70 = .ok (.aload_n 0, 1) := by decide +kernel
theorem dX7_record_71 : decode cX7_record 71 = .ok (.getfield 7, 3) := by decide +kernel
theorem dX7_record_74 : decode cX7_record 74 = .ok (.iload_n 1, 1) := by decide +kernel
theorem dX7_record_75 : decode cX7_record 75 = .ok (.iaload, 1) := by decide +kernel
theorem dX7_record_76 : decode cX7_record 76 = .ok (.iastore, 1) := by decide +kernel
theorem dX7_record_77 : decode cX7_record 77 = .ok (.iinc 1 1, 3) := by decide +kernel
theorem dX7_record_80 : decode cX7_record 80 = .ok (.goto (-29), 3) := by decide +kernel
theorem dX7_record_83 : decode cX7_record 83 = .ok (.aload_n 0, 1) := by decide +kernel
theorem dX7_record_84 : decode cX7_record 84 = .ok (.dup, 1) := by decide +kernel
theorem dX7_record_85 : decode cX7_record 85 = .ok (.getfield 31, 3) := by decide +kernel
theorem dX7_record_88 : decode cX7_record 88 = .ok (.iconst 1, 1) := by decide +kernel
theorem dX7_record_89 : decode cX7_record 89 = .ok (.iadd, 1) := by decide +kernel
theorem dX7_record_90 : decode cX7_record 90 = .ok (.putfield 31, 3) := by decide +kernel
theorem dX7_record_93 : decode cX7_record 93 = .ok (.return_, 1) := by decide +kernel
theorem dX7_isElement_0 : decode cX7_isElement 0 = .ok (.iload_n 1, 1) := by decide +kernel
theorem dX7_isElement_1 : decode cX7_isElement 1 = .ok (.iconst 0, 1) := by decide +kernel
theorem dX7_isElement_2 : decode cX7_isElement 2 = .ok (.aload_n 0, 1) := by decide +kernel
theorem dX7_isElement_3 : decode cX7_isElement 3 = .ok (.getfield 7, 3) := by decide +kernel
theorem dX7_isElement_6 : decode cX7_isElement 6 = .ok (.iconst 0, 1) := by decide +kernel
theorem dX7_isElement_7 : decode cX7_isElement 7 = .ok (.iaload, 1) := by decide +kernel
theorem dX7_isElement_8 : decode cX7_isElement 8 = .ok (.iconst 1, 1) := by decide +kernel
theorem dX7_isElement_9 : decode cX7_isElement 9 = .ok (.isub, 1) := by decide +kernel
theorem dX7_isElement_10 : decode cX7_isElement 10 = .ok (.invokestatic 35, 3) := by decide +kernel
theorem dX7_isElement_13 : decode cX7_isElement 13 = .ok (.ireturn, 1) := by decide +kernel
theorem dX7_times_0 : decode cX7_times 0 = .ok (.aload_n 0, 1) := by decide +kernel
theorem dX7_times_1 : decode cX7_times 1 = .ok (.getfield 7, 3) := by decide +kernel
theorem dX7_times_4 : decode cX7_times 4 = .ok (.iconst 1, 1) := by decide +kernel
theorem dX7_times_5 : decode cX7_times 5 = .ok (.bipush 6, 2) := by decide +kernel
theorem dX7_times_7 : decode cX7_times 7 = .ok (.iload_n 1, 1) := by decide +kernel
theorem dX7_times_8 : decode cX7_times 8 = .ok (.imul, 1) := by decide +kernel
theorem dX7_times_9 : decode cX7_times 9 = .ok (.iadd, 1) := by decide +kernel
theorem dX7_times_10 : decode cX7_times 10 = .ok (.iload_n 2, 1) := by decide +kernel
theorem dX7_times_11 : decode cX7_times 11 = .ok (.iadd, 1) := by decide +kernel
theorem dX7_times_12 : decode cX7_times 12 = .ok (.iaload, 1) := by decide +kernel
theorem dX7_times_13 : decode cX7_times 13 = .ok (.ireturn, 1) := by decide +kernel
theorem dX7_setTimes_0 : decode cX7_setTimes 0 = .ok (.aload_n 0, 1) := by decide +kernel
theorem dX7_setTimes_1 : decode cX7_setTimes 1 = .ok (.getfield 7, 3) := by decide +kernel
theorem dX7_setTimes_4 : decode cX7_setTimes 4 = .ok (.iconst 1, 1) := by decide +kernel
theorem dX7_setTimes_5 : decode cX7_setTimes 5 = .ok (.bipush 6, 2) := by decide +kernel
theorem dX7_setTimes_7 : decode cX7_setTimes 7 = .ok (.iload_n 1, 1) := by decide +kernel
theorem dX7_setTimes_8 : decode cX7_setTimes 8 = .ok (.imul, 1) := by decide +kernel
theorem dX7_setTimes_9 : decode cX7_setTimes 9 = .ok (.iadd, 1) := by decide +kernel
theorem dX7_setTimes_10 : decode cX7_setTimes 10 = .ok (.iload_n 2, 1) := by decide +kernel
theorem dX7_setTimes_11 : decode cX7_setTimes 11 = .ok (.iadd, 1) := by decide +kernel
theorem dX7_setTimes_12 : decode cX7_setTimes 12 = .ok (.iload_n 3, 1) := by decide +kernel
theorem dX7_setTimes_13 : decode cX7_setTimes 13 = .ok (.iastore, 1) := by decide +kernel
theorem dX7_setTimes_14 : decode cX7_setTimes 14 = .ok (.return_, 1) := by decide +kernel
theorem dX7_makes_0 : decode cX7_makes 0 = .ok (.aload_n 0, 1) := by decide +kernel
theorem dX7_makes_1 : decode cX7_makes 1 = .ok (.invokevirtual 39, 3) := by decide +kernel
theorem dX7_makes_4 : decode cX7_makes 4 = .ok (.aload_n 0, 1) := by decide +kernel
theorem dX7_makes_5 : decode cX7_makes 5 = .ok (.getfield 7, 3) := by decide +kernel
theorem dX7_makes_8 : decode cX7_makes 8 = .ok (.iconst 0, 1) := by decide +kernel
theorem dX7_makes_9 : decode cX7_makes 9 = .ok (.iaload, 1) := by decide +kernel
theorem dX7_makes_10 : decode cX7_makes 10 = .ok (.istore 4, 2) := by decide +kernel
theorem dX7_makes_12 : decode cX7_makes 12 = .ok (.aload_n 0, 1) := by decide +kernel
theorem dX7_makes_13 : decode cX7_makes 13 = .ok (.getfield 7, 3) := by decide +kernel
theorem dX7_makes_16 : decode cX7_makes 16 = .ok (.iconst 0, 1) := by decide +kernel
theorem dX7_makes_17 : decode cX7_makes 17 = .ok (.iload_n 1, 1) := by decide +kernel
theorem dX7_makes_18 : decode cX7_makes 18 = .ok (.iastore, 1) := by decide +kernel
theorem dX7_makes_19 : decode cX7_makes 19 = .ok (.iconst 0, 1) := by decide +kernel
theorem dX7_makes_20 : decode cX7_makes 20 = .ok (.istore 5, 2) := by decide +kernel
theorem dX7_makes_22 : decode cX7_makes 22 = .ok (.iload 5, 2) := by decide +kernel
theorem dX7_makes_24 : decode cX7_makes 24 = .ok (.bipush 6, 2) := by decide +kernel
theorem dX7_makes_26 : decode cX7_makes 26 = .ok (.if_icmp .ge 68, 3) := by decide +kernel
theorem dX7_makes_29 : decode cX7_makes 29 = .ok (.iconst 0, 1) := by decide +kernel
theorem dX7_makes_30 : decode cX7_makes 30 = .ok (.istore 6, 2) := by decide +kernel
theorem dX7_makes_32 : decode cX7_makes 32 = .ok (.iload 6, 2) := by decide +kernel
theorem dX7_makes_34 : decode cX7_makes 34 = .ok (.bipush 6, 2) := by decide +kernel
theorem dX7_makes_36 : decode cX7_makes 36 = .ok (.if_icmp .ge 52, 3) := by decide +kernel
theorem dX7_makes_39 : decode cX7_makes 39 = .ok (.iload_n 2, 1) := by decide +kernel
theorem dX7_makes_40 : decode cX7_makes 40 = .ok (.iload 5, 2) := by decide +kernel
theorem dX7_makes_42 : decode cX7_makes 42 = .ok (.imul, 1) := by decide +kernel
theorem dX7_makes_43 : decode cX7_makes 43 = .ok (.iload_n 3, 1) := by decide +kernel
theorem dX7_makes_44 : decode cX7_makes 44 = .ok (.iload 6, 2) := by decide +kernel
theorem dX7_makes_46 : decode cX7_makes 46 = .ok (.imul, 1) := by decide +kernel
theorem dX7_makes_47 : decode cX7_makes 47 = .ok (.iadd, 1) := by decide +kernel
theorem dX7_makes_48 : decode cX7_makes 48 = .ok (.iload_n 1, 1) := by decide +kernel
theorem dX7_makes_49 : decode cX7_makes 49 = .ok (.irem, 1) := by decide +kernel
theorem dX7_makes_50 : decode cX7_makes 50 = .ok (.istore 7, 2) := by decide +kernel
theorem dX7_makes_52 : decode cX7_makes 52 = .ok (.aload_n 0, 1) := by decide +kernel
theorem dX7_makes_53 : decode cX7_makes 53 = .ok (.iload 5, 2) := by decide +kernel
theorem dX7_makes_55 : decode cX7_makes 55 = .ok (.iload 6, 2) := by decide +kernel
theorem dX7_makes_57 : decode cX7_makes 57 = .ok (.iload 5, 2) := by decide +kernel
theorem dX7_makes_59 : decode cX7_makes 59 = .ok (.iload_n 1, 1) := by decide +kernel
theorem dX7_makes_60 : decode cX7_makes 60 = .ok (.if_icmp .ge 18, 3) := by decide +kernel
theorem dX7_makes_63 : decode cX7_makes 63 = .ok (.iload 6, 2) := by decide +kernel
theorem dX7_makes_65 : decode cX7_makes 65 = .ok (.iload_n 1, 1) := by decide +kernel
theorem dX7_makes_66 : decode cX7_makes 66 = .ok (.if_icmp .ge 12, 3) := by decide +kernel
theorem dX7_makes_69 : decode cX7_makes 69 = .ok (.iload 7, 2) := by decide +kernel
theorem dX7_makes_71 : decode cX7_makes 71 = .ok (.iload_n 1, 1) := by decide +kernel
theorem dX7_makes_72 : decode cX7_makes 72 = .ok (.iadd, 1) := by decide +kernel
theorem dX7_makes_73 : decode cX7_makes 73 = .ok (.iload_n 1, 1) := by decide +kernel
theorem dX7_makes_74 : decode cX7_makes 74 = .ok (.irem, 1) := by decide +kernel
theorem dX7_makes_75 : decode cX7_makes 75 = .ok (.goto 4, 3) := by decide +kernel
theorem dX7_makes_78 : decode cX7_makes 78 = .ok (.iconst 0, 1) := by decide +kernel
theorem dX7_makes_79 : decode cX7_makes 79 = .ok (.invokevirtual 42, 3) := by decide +kernel
theorem dX7_makes_82 : decode cX7_makes 82 = .ok (.iinc 6 1, 3) := by decide +kernel
theorem dX7_makes_85 : decode cX7_makes 85 = .ok (.goto (-53), 3) := by decide +kernel
theorem dX7_makes_88 : decode cX7_makes 88 = .ok (.iinc 5 1, 3) := by decide +kernel
theorem dX7_makes_91 : decode cX7_makes 91 = .ok (.goto (-69), 3) := by decide +kernel
theorem dX7_makes_94 : decode cX7_makes 94 = .ok (.iload 4, 2) := by decide +kernel
theorem dX7_makes_96 : decode cX7_makes 96 = .ok (.ireturn, 1) := by decide +kernel
theorem dX7_makesTrivial_0 : decode cX7_makesTrivial 0 = .ok (.aload_n 0, 1) := by decide +kernel
theorem dX7_makesTrivial_1 : decode cX7_makesTrivial 1 = .ok (.iload_n 1, 1) := by decide +kernel
theorem dX7_makesTrivial_2 : decode cX7_makesTrivial 2 = .ok (.iconst 1, 1) := by decide +kernel
theorem dX7_makesTrivial_3 : decode cX7_makesTrivial 3 = .ok (.iconst 0, 1) := by decide +kernel
theorem dX7_makesTrivial_4 : decode cX7_makesTrivial 4 = .ok (.invokevirtual 46, 3) := by decide +kernel
theorem dX7_makesTrivial_7 : decode cX7_makesTrivial 7 = .ok (.ireturn, 1) := by decide +kernel
theorem dX7_trivial_0 : decode cX7_trivial 0 = .ok (.iload_n 1, 1) := by decide +kernel
theorem dX7_trivial_1 : decode cX7_trivial 1 = .ok (.iconst 1, 1) := by decide +kernel
theorem dX7_trivial_2 : decode cX7_trivial 2 = .ok (.bipush 6, 2) := by decide +kernel
theorem dX7_trivial_4 : decode cX7_trivial 4 = .ok (.invokestatic 35, 3) := by decide +kernel
theorem dX7_trivial_7 : decode cX7_trivial 7 = .ok (.ifCond .eq 11, 3) := by decide +kernel
theorem dX7_trivial_10 : decode cX7_trivial 10 = .ok (.aload_n 0, 1) := by decide +kernel
theorem dX7_trivial_11 : decode cX7_trivial 11 = .ok (.iload_n 1, 1) := by decide +kernel
theorem dX7_trivial_12 : decode cX7_trivial 12 = .ok (.invokevirtual 50, 3) := by decide +kernel
theorem dX7_trivial_15 : decode cX7_trivial 15 = .ok (.goto 5, 3) := by decide +kernel
theorem dX7_trivial_18 : decode cX7_trivial 18 = .ok (.bipush (-2), 2) := by decide +kernel
theorem dX7_trivial_20 : decode cX7_trivial 20 = .ok (.ireturn, 1) := by decide +kernel
theorem dX7_dihedral_0 : decode cX7_dihedral 0 = .ok (.iload_n 1, 1) := by decide +kernel
theorem dX7_dihedral_1 : decode cX7_dihedral 1 = .ok (.iconst 1, 1) := by decide +kernel
theorem dX7_dihedral_2 : decode cX7_dihedral 2 = .ok (.bipush 6, 2) := by decide +kernel
theorem dX7_dihedral_4 : decode cX7_dihedral 4 = .ok (.invokestatic 35, 3) := by decide +kernel
theorem dX7_dihedral_7 : decode cX7_dihedral 7 = .ok (.ifCond .eq 13, 3) := by decide +kernel
theorem dX7_dihedral_10 : decode cX7_dihedral 10 = .ok (.aload_n 0, 1) := by decide +kernel
theorem dX7_dihedral_11 : decode cX7_dihedral 11 = .ok (.iload_n 1, 1) := by decide +kernel
theorem dX7_dihedral_12 : decode cX7_dihedral 12 = .ok (.iconst (-1), 1) := by decide +kernel
theorem dX7_dihedral_13 : decode cX7_dihedral 13 = .ok (.iconst 2, 1) := by decide +kernel
theorem dX7_dihedral_14 : decode cX7_dihedral 14 = .ok (.invokevirtual 46, 3) := by decide +kernel
theorem dX7_dihedral_17 : decode cX7_dihedral 17 = .ok (.goto 5, 3) := by decide +kernel
theorem dX7_dihedral_20 : decode cX7_dihedral 20 = .ok (.bipush (-2), 2) := by decide +kernel
theorem dX7_dihedral_22 : decode cX7_dihedral 22 = .ok (.ireturn, 1) := by decide +kernel
theorem dX7_linear_0 : decode cX7_linear 0 = .ok (.iload_n 1, 1) := by decide +kernel
theorem dX7_linear_1 : decode cX7_linear 1 = .ok (.iconst 1, 1) := by decide +kernel
theorem dX7_linear_2 : decode cX7_linear 2 = .ok (.bipush 6, 2) := by decide +kernel
theorem dX7_linear_4 : decode cX7_linear 4 = .ok (.invokestatic 35, 3) := by decide +kernel
theorem dX7_linear_7 : decode cX7_linear 7 = .ok (.ifCond .eq 24, 3) := by decide +kernel
theorem dX7_linear_10 : decode cX7_linear 10 = .ok (.iload_n 2, 1) := by decide +kernel
theorem dX7_linear_11 : decode cX7_linear 11 = .ok (.iconst 0, 1) := by decide +kernel
theorem dX7_linear_12 : decode cX7_linear 12 = .ok (.iconst 5, 1) := by decide +kernel
theorem dX7_linear_13 : decode cX7_linear 13 = .ok (.invokestatic 35, 3) := by decide +kernel
theorem dX7_linear_16 : decode cX7_linear 16 = .ok (.ifCond .eq 15, 3) := by decide +kernel
theorem dX7_linear_19 : decode cX7_linear 19 = .ok (.aload_n 0, 1) := by decide +kernel
theorem dX7_linear_20 : decode cX7_linear 20 = .ok (.iload_n 1, 1) := by decide +kernel
theorem dX7_linear_21 : decode cX7_linear 21 = .ok (.iload_n 2, 1) := by decide +kernel
theorem dX7_linear_22 : decode cX7_linear 22 = .ok (.iconst 1, 1) := by decide +kernel
theorem dX7_linear_23 : decode cX7_linear 23 = .ok (.iload_n 2, 1) := by decide +kernel
theorem dX7_linear_24 : decode cX7_linear 24 = .ok (.isub, 1) := by decide +kernel
theorem dX7_linear_25 : decode cX7_linear 25 = .ok (.invokevirtual 46, 3) := by decide +kernel
theorem dX7_linear_28 : decode cX7_linear 28 = .ok (.goto 5, 3) := by decide +kernel
theorem dX7_linear_31 : decode cX7_linear 31 = .ok (.bipush (-2), 2) := by decide +kernel
theorem dX7_linear_33 : decode cX7_linear 33 = .ok (.ireturn, 1) := by decide +kernel
theorem dX7_pairOf_0 : decode cX7_pairOf 0 = .ok (.iload_n 0, 1) := by decide +kernel
theorem dX7_pairOf_1 : decode cX7_pairOf 1 = .ok (.iload_n 1, 1) := by decide +kernel
theorem dX7_pairOf_2 : decode cX7_pairOf 2 = .ok (.if_icmp .ge 7, 3) := by decide +kernel
theorem dX7_pairOf_5 : decode cX7_pairOf 5 = .ok (.iload_n 0, 1) := by decide +kernel
theorem dX7_pairOf_6 : decode cX7_pairOf 6 = .ok (.goto 4, 3) := by decide +kernel
theorem dX7_pairOf_9 : decode cX7_pairOf 9 = .ok (.iload_n 1, 1) := by decide +kernel
theorem dX7_pairOf_10 : decode cX7_pairOf 10 = .ok (.istore_n 3, 1) := by decide +kernel
theorem dX7_pairOf_11 : decode cX7_pairOf 11 = .ok (.iload_n 0, 1) := by decide +kernel
theorem dX7_pairOf_12 : decode cX7_pairOf 12 = .ok (.iload_n 1, 1) := by decide +kernel
theorem dX7_pairOf_13 : decode cX7_pairOf 13 = .ok (.if_icmp .ge 7, 3) := by decide +kernel
theorem dX7_pairOf_16 : decode cX7_pairOf 16 = .ok (.iload_n 1, 1) := by decide +kernel
theorem dX7_pairOf_17 : decode cX7_pairOf 17 = .ok (.goto 4, 3) := by decide +kernel
theorem dX7_pairOf_20 : decode cX7_pairOf 20 = .ok (.iload_n 0, 1) := by decide +kernel
theorem dX7_pairOf_21 : decode cX7_pairOf 21 = .ok (.istore 4, 2) := by decide +kernel
theorem dX7_pairOf_23 : decode cX7_pairOf 23 = .ok (.iload 4, 2) := by decide +kernel
theorem dX7_pairOf_25 : decode cX7_pairOf 25 = .ok (.iload_n 3, 1) := by decide +kernel
theorem dX7_pairOf_26 : decode cX7_pairOf 26 = .ok (.isub, 1) := by decide +kernel
theorem dX7_pairOf_27 : decode cX7_pairOf 27 = .ok (.iconst 1, 1) := by decide +kernel
theorem dX7_pairOf_28 : decode cX7_pairOf 28 = .ok (.isub, 1) := by decide +kernel
theorem dX7_pairOf_29 : decode cX7_pairOf 29 = .ok (.istore 5, 2) := by decide +kernel
theorem dX7_pairOf_31 : decode cX7_pairOf 31 = .ok (.iconst 0, 1) := by decide +kernel
theorem dX7_pairOf_32 : decode cX7_pairOf 32 = .ok (.istore 6, 2) := by decide +kernel
theorem dX7_pairOf_34 : decode cX7_pairOf 34 = .ok (.iload 6, 2) := by decide +kernel
theorem dX7_pairOf_36 : decode cX7_pairOf 36 = .ok (.iload_n 3, 1) := by decide +kernel
theorem dX7_pairOf_37 : decode cX7_pairOf 37 = .ok (.if_icmp .ge 20, 3) := by decide +kernel
theorem dX7_pairOf_40 : decode cX7_pairOf 40 = .ok (.iload 5, 2) := by decide +kernel
theorem dX7_pairOf_42 : decode cX7_pairOf 42 = .ok (.iload_n 2, 1) := by decide +kernel
theorem dX7_pairOf_43 : decode cX7_pairOf 43 = .ok (.iconst 1, 1) := by decide +kernel
theorem dX7_pairOf_44 : decode cX7_pairOf 44 = .ok (.isub, 1) := by decide +kernel
theorem dX7_pairOf_45 : decode cX7_pairOf 45 = .ok (.iload 6, 2) := by decide +kernel
theorem dX7_pairOf_47 : decode cX7_pairOf 47 = .ok (.isub, 1) := by decide +kernel
theorem dX7_pairOf_48 : decode cX7_pairOf 48 = .ok (.iadd, 1) := by decide +kernel
theorem dX7_pairOf_49 : decode cX7_pairOf 49 = .ok (.istore 5, 2) := by decide +kernel
theorem dX7_pairOf_51 : decode cX7_pairOf 51 = .ok (.iinc 6 1, 3) := by decide +kernel
theorem dX7_pairOf_54 : decode cX7_pairOf 54 = .ok (.goto (-20), 3) := by decide +kernel
theorem dX7_pairOf_57 : decode cX7_pairOf 57 = .ok (.iload 5, 2) := by decide +kernel
theorem dX7_pairOf_59 : decode cX7_pairOf 59 = .ok (.ireturn, 1) := by decide +kernel
theorem dX7_replaced_0 : decode cX7_replaced 0 = .ok (.iload_n 0, 1) := by decide +kernel
theorem dX7_replaced_1 : decode cX7_replaced 1 = .ok (.iload_n 1, 1) := by decide +kernel
theorem dX7_replaced_2 : decode cX7_replaced 2 = .ok (.if_icmp .ne 7, 3) := by decide +kernel
theorem dX7_replaced_5 : decode cX7_replaced 5 = .ok (.iload_n 2, 1) := by decide +kernel
theorem dX7_replaced_6 : decode cX7_replaced 6 = .ok (.goto 13, 3) := by decide +kernel
theorem dX7_replaced_9 : decode cX7_replaced 9 = .ok (.iload_n 0, 1) := by decide +kernel
theorem dX7_replaced_10 : decode cX7_replaced 10 = .ok (.iload_n 2, 1) := by decide +kernel
theorem dX7_replaced_11 : decode cX7_replaced 11 = .ok (.if_icmp .ne 7, 3) := by decide +kernel
theorem dX7_replaced_14 : decode cX7_replaced 14 = .ok (.iload_n 1, 1) := by decide +kernel
theorem dX7_replaced_15 : decode cX7_replaced 15 = .ok (.goto 4, 3) := by decide +kernel
theorem dX7_replaced_18 : decode cX7_replaced 18 = .ok (.iload_n 0, 1) := by decide +kernel
theorem dX7_replaced_19 : decode cX7_replaced 19 = .ok (.ireturn, 1) := by decide +kernel
theorem dX7_laysPair_0 : decode cX7_laysPair 0 = .ok (.iload_n 1, 1) := by decide +kernel
theorem dX7_laysPair_1 : decode cX7_laysPair 1 = .ok (.iload_n 2, 1) := by decide +kernel
theorem dX7_laysPair_2 : decode cX7_laysPair 2 = .ok (.iload_n 3, 1) := by decide +kernel
theorem dX7_laysPair_3 : decode cX7_laysPair 3 = .ok (.invokestatic 54, 3) := by decide +kernel
theorem dX7_laysPair_6 : decode cX7_laysPair 6 = .ok (.istore 4, 2) := by decide +kernel
theorem dX7_laysPair_8 : decode cX7_laysPair 8 = .ok (.iconst 0, 1) := by decide +kernel
theorem dX7_laysPair_9 : decode cX7_laysPair 9 = .ok (.istore 5, 2) := by decide +kernel
theorem dX7_laysPair_11 : decode cX7_laysPair 11 = .ok (.iload 5, 2) := by decide +kernel
theorem dX7_laysPair_13 : decode cX7_laysPair 13 = .ok (.iload_n 3, 1) := by decide +kernel
theorem dX7_laysPair_14 : decode cX7_laysPair 14 = .ok (.if_icmp .ge 61, 3) := by decide +kernel
theorem dX7_laysPair_17 : decode cX7_laysPair 17 = .ok (.iload 5, 2) := by decide +kernel
theorem dX7_laysPair_19 : decode cX7_laysPair 19 = .ok (.iconst 1, 1) := by decide +kernel
theorem dX7_laysPair_20 : decode cX7_laysPair 20 = .ok (.iadd, 1) := by decide +kernel
theorem dX7_laysPair_21 : decode cX7_laysPair 21 = .ok (.istore 6, 2) := by decide +kernel
theorem dX7_laysPair_23 : decode cX7_laysPair 23 = .ok (.iload 6, 2) := by decide +kernel
theorem dX7_laysPair_25 : decode cX7_laysPair 25 = .ok (.iload_n 3, 1) := by decide +kernel
theorem dX7_laysPair_26 : decode cX7_laysPair 26 = .ok (.if_icmp .ge 43, 3) := by decide +kernel
theorem dX7_laysPair_29 : decode cX7_laysPair 29 = .ok (.aload_n 0, 1) := by decide +kernel
theorem dX7_laysPair_30 : decode cX7_laysPair 30 = .ok (.iload 4, 2) := by decide +kernel
theorem dX7_laysPair_32 : decode cX7_laysPair 32 = .ok (.iload 5, 2) := by decide +kernel
theorem dX7_laysPair_34 : decode cX7_laysPair 34 = .ok (.iload 6, 2) := by decide +kernel
theorem dX7_laysPair_36 : decode cX7_laysPair 36 = .ok (.iload_n 3, 1) := by decide +kernel
theorem dX7_laysPair_37 : decode cX7_laysPair 37 = .ok (.invokestatic 54, 3) := by decide +kernel
theorem dX7_laysPair_40 : decode cX7_laysPair 40 = .ok (.iload_n 1, 1) := by decide +kernel
theorem dX7_laysPair_41 : decode cX7_laysPair 41 = .ok (.iload 5, 2) := by decide +kernel
theorem dX7_laysPair_43 : decode cX7_laysPair 43 = .ok (.iload 6, 2) := by decide +kernel
theorem dX7_laysPair_45 : decode cX7_laysPair 45 = .ok (.invokestatic 57, 3) := by decide +kernel
theorem dX7_laysPair_48 : decode cX7_laysPair 48 = .ok (.iload_n 2, 1) := by decide +kernel
theorem dX7_laysPair_49 : decode cX7_laysPair 49 = .ok (.iload 5, 2) := by decide +kernel
theorem dX7_laysPair_51 : decode cX7_laysPair 51 = .ok (.iload 6, 2) := by decide +kernel
theorem dX7_laysPair_53 : decode cX7_laysPair 53 = .ok (.invokestatic 57, 3) := by decide +kernel
theorem dX7_laysPair_56 : decode cX7_laysPair 56 = .ok (.iload_n 3, 1) := by decide +kernel
theorem dX7_laysPair_57 : decode cX7_laysPair 57 = .ok (.invokestatic 54, 3) := by decide +kernel
theorem dX7_laysPair_60 : decode cX7_laysPair 60 = .ok (.invokevirtual 42, 3) := by decide +kernel
theorem dX7_laysPair_63 : decode cX7_laysPair 63 = .ok (.iinc 6 1, 3) := by decide +kernel
theorem dX7_laysPair_66 : decode cX7_laysPair 66 = .ok (.goto (-43), 3) := by decide +kernel
theorem dX7_laysPair_69 : decode cX7_laysPair 69 = .ok (.iinc 5 1, 3) := by decide +kernel
theorem dX7_laysPair_72 : decode cX7_laysPair 72 = .ok (.goto (-61), 3) := by decide +kernel
theorem dX7_laysPair_75 : decode cX7_laysPair 75 = .ok (.return_, 1) := by decide +kernel
theorem dX7_transpositions_0 : decode cX7_transpositions 0 = .ok (.iload_n 1, 1) := by decide +kernel
theorem dX7_transpositions_1 : decode cX7_transpositions 1 = .ok (.iconst 2, 1) := by decide +kernel
theorem dX7_transpositions_2 : decode cX7_transpositions 2 = .ok (.iconst 4, 1) := by decide +kernel
theorem dX7_transpositions_3 : decode cX7_transpositions 3 = .ok (.invokestatic 35, 3) := by decide +kernel
theorem dX7_transpositions_6 : decode cX7_transpositions 6 = .ok (.ifCond .ne 6, 3) := by decide +kernel
theorem dX7_transpositions_9 : decode cX7_transpositions 9 = .ok (.bipush (-2), 2) := by decide +kernel
theorem dX7_transpositions_11 : decode cX7_transpositions 11 = .ok (.ireturn, 1) := by decide +kernel
theorem dX7_transpositions_12 : decode cX7_transpositions 12 = .ok (.aload_n 0, 1) := by decide +kernel
theorem dX7_transpositions_13 : decode cX7_transpositions 13 = .ok (.iload_n 1, 1) := by decide +kernel
theorem dX7_transpositions_14 : decode cX7_transpositions 14 = .ok (.iload_n 1, 1) := by decide +kernel
theorem dX7_transpositions_15 : decode cX7_transpositions 15 = .ok (.iconst 1, 1) := by decide +kernel
theorem dX7_transpositions_16 : decode cX7_transpositions 16 = .ok (.isub, 1) := by decide +kernel
theorem dX7_transpositions_17 : decode cX7_transpositions 17 = .ok (.imul, 1) := by decide +kernel
theorem dX7_transpositions_18 : decode cX7_transpositions 18 = .ok (.iconst 2, 1) := by decide +kernel
theorem dX7_transpositions_19 : decode cX7_transpositions 19 = .ok (.idiv, 1) := by decide +kernel
theorem dX7_transpositions_20 : decode cX7_transpositions 20 = .ok (.invokevirtual 50, 3) := by decide +kernel
theorem dX7_transpositions_23 : decode cX7_transpositions 23 = .ok (.pop, 1) := by decide +kernel
theorem dX7_transpositions_24 : decode cX7_transpositions 24 = .ok (.iconst 0, 1) := by decide +kernel
theorem dX7_transpositions_25 : decode cX7_transpositions 25 = .ok (.istore_n 2, 1) := by decide +kernel
theorem dX7_transpositions_26 : decode cX7_transpositions 26 = .ok (.iload_n 2, 1) := by decide +kernel
theorem dX7_transpositions_27 : decode cX7_transpositions 27 = .ok (.iload_n 1, 1) := by decide +kernel
theorem dX7_transpositions_28 : decode cX7_transpositions 28 = .ok (.if_icmp .ge 31, 3) := by decide +kernel
theorem dX7_transpositions_31 : decode cX7_transpositions 31 = .ok (.iload_n 2, 1) := by decide +kernel
theorem dX7_transpositions_32 : decode cX7_transpositions 32 = .ok (.iconst 1, 1) := by decide +kernel
theorem dX7_transpositions_33 : decode cX7_transpositions 33 = .ok (.iadd, 1) := by decide +kernel
theorem dX7_transpositions_34 : decode cX7_transpositions 34 = .ok (.istore_n 3, 1) := by decide +kernel
theorem dX7_transpositions_35 : decode cX7_transpositions 35 = .ok (.iload_n 3, 1) := by decide +kernel
theorem dX7_transpositions_36 : decode cX7_transpositions 36 = .ok (.iload_n 1, 1) := by decide +kernel
theorem dX7_transpositions_37 : decode cX7_transpositions 37 = .ok (.if_icmp .ge 16, 3) := by decide +kernel
theorem dX7_transpositions_40 : decode cX7_transpositions 40 = .ok (.aload_n 0, 1) := by decide +kernel
theorem dX7_transpositions_41 : decode cX7_transpositions 41 = .ok (.iload_n 2, 1) := by decide +kernel
theorem dX7_transpositions_42 : decode cX7_transpositions 42 = .ok (.iload_n 3, 1) := by decide +kernel
theorem dX7_transpositions_43 : decode cX7_transpositions 43 = .ok (.iload_n 1, 1) := by decide +kernel
theorem dX7_transpositions_44 : decode cX7_transpositions 44 = .ok (.invokevirtual 60, 3) := by decide +kernel
theorem dX7_transpositions_47 : decode cX7_transpositions 47 = .ok (.iinc 3 1, 3) := by decide +kernel
theorem dX7_transpositions_50 : decode cX7_transpositions 50 = .ok (.goto (-15), 3) := by decide +kernel
theorem dX7_transpositions_53 : decode cX7_transpositions 53 = .ok (.iinc 2 1, 3) := by decide +kernel
theorem dX7_transpositions_56 : decode cX7_transpositions 56 = .ok (.goto (-30), 3) := by decide +kernel
theorem dX7_transpositions_59 : decode cX7_transpositions 59 = .ok (.aload_n 0, 1) := by decide +kernel
theorem dX7_transpositions_60 : decode cX7_transpositions 60 = .ok (.getfield 7, 3) := by decide +kernel
theorem dX7_transpositions_63 : decode cX7_transpositions 63 = .ok (.iconst 0, 1) := by decide +kernel
theorem dX7_transpositions_64 : decode cX7_transpositions 64 = .ok (.iaload, 1) := by decide +kernel
theorem dX7_transpositions_65 : decode cX7_transpositions 65 = .ok (.ireturn, 1) := by decide +kernel
theorem dX7_setProduct_0 : decode cX7_setProduct 0 = .ok (.aload_n 0, 1) := by decide +kernel
theorem dX7_setProduct_1 : decode cX7_setProduct 1 = .ok (.iload_n 1, 1) := by decide +kernel
theorem dX7_setProduct_2 : decode cX7_setProduct 2 = .ok (.invokevirtual 63, 3) := by decide +kernel
theorem dX7_setProduct_5 : decode cX7_setProduct 5 = .ok (.ifCond .eq 19, 3) := by decide +kernel
theorem dX7_setProduct_8 : decode cX7_setProduct 8 = .ok (.aload_n 0, 1) := by decide +kernel
theorem dX7_setProduct_9 : decode cX7_setProduct 9 = .ok (.iload_n 2, 1) := by decide +kernel
theorem dX7_setProduct_10 : decode cX7_setProduct 10 = .ok (.invokevirtual 63, 3) := by decide +kernel
theorem dX7_setProduct_13 : decode cX7_setProduct 13 = .ok (.ifCond .eq 11, 3) := by decide +kernel
theorem dX7_setProduct_16 : decode cX7_setProduct 16 = .ok (.aload_n 0, 1) := by decide +kernel
theorem dX7_setProduct_17 : decode cX7_setProduct 17 = .ok (.iload_n 3, 1) := by decide +kernel
theorem dX7_setProduct_18 : decode cX7_setProduct 18 = .ok (.invokevirtual 63, 3) := by decide +kernel
theorem dX7_setProduct_21 : decode cX7_setProduct 21 = .ok (.ifCond .ne 5, 3) := by decide +kernel
theorem dX7_setProduct_24 : decode cX7_setProduct 24 = .ok (.iconst (-1), 1) := by decide +kernel
theorem dX7_setProduct_25 : decode cX7_setProduct 25 = .ok (.ireturn, 1) := by decide +kernel
theorem dX7_setProduct_26 : decode cX7_setProduct 26 = .ok (.aload_n 0, 1) := by decide +kernel
theorem dX7_setProduct_27 : decode cX7_setProduct 27 = .ok (.invokevirtual 39, 3) := by decide +kernel
theorem dX7_setProduct_30 : decode cX7_setProduct 30 = .ok (.aload_n 0, 1) := by decide +kernel
theorem dX7_setProduct_31 : decode cX7_setProduct 31 = .ok (.iload_n 1, 1) := by decide +kernel
theorem dX7_setProduct_32 : decode cX7_setProduct 32 = .ok (.iload_n 2, 1) := by decide +kernel
theorem dX7_setProduct_33 : decode cX7_setProduct 33 = .ok (.invokevirtual 67, 3) := by decide +kernel
theorem dX7_setProduct_36 : decode cX7_setProduct 36 = .ok (.istore 4, 2) := by decide +kernel
theorem dX7_setProduct_38 : decode cX7_setProduct 38 = .ok (.aload_n 0, 1) := by decide +kernel
theorem dX7_setProduct_39 : decode cX7_setProduct 39 = .ok (.iload_n 1, 1) := by decide +kernel
theorem dX7_setProduct_40 : decode cX7_setProduct 40 = .ok (.iload_n 2, 1) := by decide +kernel
theorem dX7_setProduct_41 : decode cX7_setProduct 41 = .ok (.iload_n 3, 1) := by decide +kernel
theorem dX7_setProduct_42 : decode cX7_setProduct 42 = .ok (.invokevirtual 42, 3) := by decide +kernel
theorem dX7_setProduct_45 : decode cX7_setProduct 45 = .ok (.iload 4, 2) := by decide +kernel
theorem dX7_setProduct_47 : decode cX7_setProduct 47 = .ok (.ireturn, 1) := by decide +kernel
theorem dX7_dividedBy_0 : decode cX7_dividedBy 0 = .ok (.bipush (-6), 2) := by decide +kernel
theorem dX7_dividedBy_2 : decode cX7_dividedBy 2 = .ok (.istore_n 3, 1) := by decide +kernel
theorem dX7_dividedBy_3 : decode cX7_dividedBy 3 = .ok (.aload_n 0, 1) := by decide +kernel
theorem dX7_dividedBy_4 : decode cX7_dividedBy 4 = .ok (.getfield 7, 3) := by decide +kernel
theorem dX7_dividedBy_7 : decode cX7_dividedBy 7 = .ok (.iconst 0, 1) := by decide +kernel
theorem dX7_dividedBy_8 : decode cX7_dividedBy 8 = .ok (.iaload, 1) := by decide +kernel
theorem dX7_dividedBy_9 : decode cX7_dividedBy 9 = .ok (.iconst 1, 1) := by decide +kernel
theorem dX7_dividedBy_10 : decode cX7_dividedBy 10 = .ok (.isub, 1) := by decide +kernel
theorem dX7_dividedBy_11 : decode cX7_dividedBy 11 = .ok (.istore 4, 2) := by decide +kernel
theorem dX7_dividedBy_13 : decode cX7_dividedBy 13 = .ok (.iload 4, 2) := by decide +kernel
theorem dX7_dividedBy_15 : decode cX7_dividedBy 15 = .ok (.ifCond .lt 27, 3) := by decide +kernel
theorem dX7_dividedBy_18 : decode cX7_dividedBy 18 = .ok (.aload_n 0, 1) := by decide +kernel
theorem dX7_dividedBy_19 : decode cX7_dividedBy 19 = .ok (.iload 4, 2) := by decide +kernel
theorem dX7_dividedBy_21 : decode cX7_dividedBy 21 = .ok (.iload_n 2, 1) := by decide +kernel
theorem dX7_dividedBy_22 : decode cX7_dividedBy 22 = .ok (.invokevirtual 67, 3) := by decide +kernel
theorem dX7_dividedBy_25 : decode cX7_dividedBy 25 = .ok (.iload_n 1, 1) := by decide +kernel
theorem dX7_dividedBy_26 : decode cX7_dividedBy 26 = .ok (.if_icmp .ne 8, 3) := by decide +kernel
theorem dX7_dividedBy_29 : decode cX7_dividedBy 29 = .ok (.iload 4, 2) := by decide +kernel
theorem dX7_dividedBy_31 : decode cX7_dividedBy 31 = .ok (.goto 4, 3) := by decide +kernel
theorem dX7_dividedBy_34 : decode cX7_dividedBy 34 = .ok (.iload_n 3, 1) := by decide +kernel
theorem dX7_dividedBy_35 : decode cX7_dividedBy 35 = .ok (.istore_n 3, 1) := by decide +kernel
theorem dX7_dividedBy_36 : decode cX7_dividedBy 36 = .ok (.iinc 4 (-1), 3) := by decide +kernel
theorem dX7_dividedBy_39 : decode cX7_dividedBy 39 = .ok (.goto (-26), 3) := by decide +kernel
theorem dX7_dividedBy_42 : decode cX7_dividedBy 42 = .ok (.iload_n 3, 1) := by decide +kernel
theorem dX7_dividedBy_43 : decode cX7_dividedBy 43 = .ok (.ireturn, 1) := by decide +kernel
theorem dX7_isPermutation_0 : decode cX7_isPermutation 0 = .ok (.iconst 0, 1) := by decide +kernel
theorem dX7_isPermutation_1 : decode cX7_isPermutation 1 = .ok (.istore_n 2, 1) := by decide +kernel
theorem dX7_isPermutation_2 : decode cX7_isPermutation 2 = .ok (.iconst 0, 1) := by decide +kernel
theorem dX7_isPermutation_3 : decode cX7_isPermutation 3 = .ok (.istore_n 3, 1) := by decide +kernel
theorem dX7_isPermutation_4 : decode cX7_isPermutation 4 = .ok (.iload_n 3, 1) := by decide +kernel
theorem dX7_isPermutation_5 : decode cX7_isPermutation 5 = .ok (.aload_n 0, 1) := by decide +kernel
theorem dX7_isPermutation_6 : decode cX7_isPermutation 6 = .ok (.getfield 7, 3) := by decide +kernel
theorem dX7_isPermutation_9 : decode cX7_isPermutation 9 = .ok (.iconst 0, 1) := by decide +kernel
theorem dX7_isPermutation_10 : decode cX7_isPermutation 10 = .ok (.iaload, 1) := by decide +kernel
theorem dX7_isPermutation_11 : decode cX7_isPermutation 11 = .ok (.if_icmp .ge 20, 3) := by decide +kernel
theorem dX7_isPermutation_14 : decode cX7_isPermutation 14 = .ok (.iload_n 2, 1) := by decide +kernel
theorem dX7_isPermutation_15 : decode cX7_isPermutation 15 = .ok (.iconst 1, 1) := by decide +kernel
theorem dX7_isPermutation_16 : decode cX7_isPermutation 16 = .ok (.aload_n 0, 1) := by decide +kernel
theorem dX7_isPermutation_17 : decode cX7_isPermutation 17 = .ok (.iload_n 3, 1) := by decide +kernel
theorem dX7_isPermutation_18 : decode cX7_isPermutation 18 = .ok (.iload_n 1, 1) := by decide +kernel
theorem dX7_isPermutation_19 : decode cX7_isPermutation 19 = .ok (.invokevirtual 67, 3) := by decide +kernel
theorem dX7_isPermutation_22 : decode cX7_isPermutation 22 = .ok (.ishl, 1) := by decide +kernel
theorem dX7_isPermutation_23 : decode cX7_isPermutation 23 = .ok (.ior, 1) := by decide +kernel
theorem dX7_isPermutation_24 : decode cX7_isPermutation 24 = .ok (.istore_n 2, 1) := by decide +kernel
theorem dX7_isPermutation_25 : decode cX7_isPermutation 25 = .ok (.iinc 3 1, 3) := by decide +kernel
theorem dX7_isPermutation_28 : decode cX7_isPermutation 28 = .ok (.goto (-24), 3) := by decide +kernel
theorem dX7_isPermutation_31 : decode cX7_isPermutation 31 = .ok (.iload_n 2, 1) := by decide +kernel
theorem dX7_isPermutation_32 : decode cX7_isPermutation 32 = .ok (.invokestatic 71, 3) := by decide +kernel
theorem dX7_isPermutation_35 : decode cX7_isPermutation 35 = .ok (.aload_n 0, 1) := by decide +kernel
theorem dX7_isPermutation_36 : decode cX7_isPermutation 36 = .ok (.getfield 7, 3) := by decide +kernel
theorem dX7_isPermutation_39 : decode cX7_isPermutation 39 = .ok (.iconst 0, 1) := by decide +kernel
theorem dX7_isPermutation_40 : decode cX7_isPermutation 40 = .ok (.iaload, 1) := by decide +kernel
theorem dX7_isPermutation_41 : decode cX7_isPermutation 41 = .ok (.if_icmp .ne 7, 3) := by decide +kernel
theorem dX7_isPermutation_44 : decode cX7_isPermutation 44 = .ok (.iconst 1, 1) := by decide +kernel
theorem dX7_isPermutation_45 : decode cX7_isPermutation 45 = .ok (.goto 4, 3) := by decide +kernel
theorem dX7_isPermutation_48 : decode cX7_isPermutation 48 = .ok (.iconst 0, 1) := by decide +kernel
theorem dX7_isPermutation_49 : decode cX7_isPermutation 49 = .ok (.ireturn, 1) := by decide +kernel
theorem dX7_violatesFirst_0 : decode cX7_violatesFirst 0 = .ok (.bipush (-6), 2) := by decide +kernel
theorem dX7_violatesFirst_2 : decode cX7_violatesFirst 2 = .ok (.istore_n 1, 1) := by decide +kernel
theorem dX7_violatesFirst_3 : decode cX7_violatesFirst 3 = .ok (.aload_n 0, 1) := by decide +kernel
theorem dX7_violatesFirst_4 : decode cX7_violatesFirst 4 = .ok (.getfield 7, 3) := by decide +kernel
theorem dX7_violatesFirst_7 : decode cX7_violatesFirst 7 = .ok (.iconst 0, 1) := by decide +kernel
theorem dX7_violatesFirst_8 : decode cX7_violatesFirst 8 = .ok (.iaload, 1) := by decide +kernel
theorem dX7_violatesFirst_9 : decode cX7_violatesFirst 9 = .ok (.iconst 1, 1) := by decide +kernel
theorem dX7_violatesFirst_10 : decode cX7_violatesFirst 10 = .ok (.isub, 1) := by decide +kernel
theorem dX7_violatesFirst_11 : decode cX7_violatesFirst 11 = .ok (.istore_n 2, 1) := by decide +kernel
theorem dX7_violatesFirst_12 : decode cX7_violatesFirst 12 = .ok (.iload_n 2, 1) := by decide +kernel
theorem dX7_violatesFirst_13 : decode cX7_violatesFirst 13 = .ok (.ifCond .lt 25, 3) := by decide +kernel
theorem dX7_violatesFirst_16 : decode cX7_violatesFirst 16 = .ok (.aload_n 0, 1) := by decide +kernel
theorem dX7_violatesFirst_17 : decode cX7_violatesFirst 17 = .ok (.iload_n 2, 1) := by decide +kernel
theorem dX7_violatesFirst_18 : decode cX7_violatesFirst 18 = .ok (.iload_n 2, 1) := by decide +kernel
theorem dX7_violatesFirst_19 : decode cX7_violatesFirst 19 = .ok (.invokevirtual 67, 3) := by decide +kernel
theorem dX7_violatesFirst_22 : decode cX7_violatesFirst 22 = .ok (.iload_n 2, 1) := by decide +kernel
theorem dX7_violatesFirst_23 : decode cX7_violatesFirst 23 = .ok (.if_icmp .ne 7, 3) := by decide +kernel
theorem dX7_violatesFirst_26 : decode cX7_violatesFirst 26 = .ok (.iload_n 1, 1) := by decide +kernel
theorem dX7_violatesFirst_27 : decode cX7_violatesFirst 27 = .ok (.goto 4, 3) := by decide +kernel
theorem dX7_violatesFirst_30 : decode cX7_violatesFirst 30 = .ok (.iload_n 2, 1) := by decide +kernel
theorem dX7_violatesFirst_31 : decode cX7_violatesFirst 31 = .ok (.istore_n 1, 1) := by decide +kernel
theorem dX7_violatesFirst_32 : decode cX7_violatesFirst 32 = .ok (.iinc 2 (-1), 3) := by decide +kernel
theorem dX7_violatesFirst_35 : decode cX7_violatesFirst 35 = .ok (.goto (-23), 3) := by decide +kernel
theorem dX7_violatesFirst_38 : decode cX7_violatesFirst 38 = .ok (.iload_n 1, 1) := by decide +kernel
theorem dX7_violatesFirst_39 : decode cX7_violatesFirst 39 = .ok (.ireturn, 1) := by decide +kernel
theorem dX7_violatesSecond_0 : decode cX7_violatesSecond 0 = .ok (.bipush (-6), 2) := by decide +kernel
theorem dX7_violatesSecond_2 : decode cX7_violatesSecond 2 = .ok (.istore_n 1, 1) := by decide +kernel
theorem dX7_violatesSecond_3 : decode cX7_violatesSecond 3 = .ok (.aload_n 0, 1) := by decide +kernel
theorem dX7_violatesSecond_4 : decode cX7_violatesSecond 4 = .ok (.getfield 7, 3) := by decide +kernel
theorem dX7_violatesSecond_7 : decode cX7_violatesSecond 7 = .ok (.iconst 0, 1) := by decide +kernel
theorem dX7_violatesSecond_8 : decode cX7_violatesSecond 8 = .ok (.iaload, 1) := by decide +kernel
theorem dX7_violatesSecond_9 : decode cX7_violatesSecond 9 = .ok (.iconst 1, 1) := by decide +kernel
theorem dX7_violatesSecond_10 : decode cX7_violatesSecond 10 = .ok (.isub, 1) := by decide +kernel
theorem dX7_violatesSecond_11 : decode cX7_violatesSecond 11 = .ok (.istore_n 2, 1) := by decide +kernel
theorem dX7_violatesSecond_12 : decode cX7_violatesSecond 12 = .ok (.iload_n 2, 1) := by decide +kernel
theorem dX7_violatesSecond_13 : decode cX7_violatesSecond 13 = .ok (.ifCond .lt 23, 3) := by decide +kernel
theorem dX7_violatesSecond_16 : decode cX7_violatesSecond 16 = .ok (.aload_n 0, 1) := by decide +kernel
theorem dX7_violatesSecond_17 : decode cX7_violatesSecond 17 = .ok (.iload_n 2, 1) := by decide +kernel
theorem dX7_violatesSecond_18 : decode cX7_violatesSecond 18 = .ok (.invokevirtual 74, 3) := by decide +kernel
theorem dX7_violatesSecond_21 : decode cX7_violatesSecond 21 = .ok (.ifCond .eq 7, 3) := by decide +kernel
theorem dX7_violatesSecond_24 : decode cX7_violatesSecond 24 = .ok (.iload_n 1, 1) := by decide +kernel
theorem dX7_violatesSecond_25 : decode cX7_violatesSecond 25 = .ok (.goto 4, 3) := by decide +kernel
theorem dX7_violatesSecond_28 : decode cX7_violatesSecond 28 = .ok (.iload_n 2, 1) := by decide +kernel
theorem dX7_violatesSecond_29 : decode cX7_violatesSecond 29 = .ok (.istore_n 1, 1) := by decide +kernel
theorem dX7_violatesSecond_30 : decode cX7_violatesSecond 30 = .ok (.iinc 2 (-1), 3) := by decide +kernel
theorem dX7_violatesSecond_33 : decode cX7_violatesSecond 33 = .ok (.goto (-21), 3) := by decide +kernel
theorem dX7_violatesSecond_36 : decode cX7_violatesSecond 36 = .ok (.iload_n 1, 1) := by decide +kernel
theorem dX7_violatesSecond_37 : decode cX7_violatesSecond 37 = .ok (.ireturn, 1) := by decide +kernel
theorem dX7_violatesThird_0 : decode cX7_violatesThird 0 = .ok (.iconst 0, 1) := by decide +kernel
theorem dX7_violatesThird_1 : decode cX7_violatesThird 1 = .ok (.istore_n 1, 1) := by decide +kernel
theorem dX7_violatesThird_2 : decode cX7_violatesThird 2 = .ok (.iload_n 1, 1) := by decide +kernel
theorem dX7_violatesThird_3 : decode cX7_violatesThird 3 = .ok (.aload_n 0, 1) := by decide +kernel
theorem dX7_violatesThird_4 : decode cX7_violatesThird 4 = .ok (.getfield 7, 3) := by decide +kernel
theorem dX7_violatesThird_7 : decode cX7_violatesThird 7 = .ok (.iconst 0, 1) := by decide +kernel
theorem dX7_violatesThird_8 : decode cX7_violatesThird 8 = .ok (.iaload, 1) := by decide +kernel
theorem dX7_violatesThird_9 : decode cX7_violatesThird 9 = .ok (.if_icmp .ge 87, 3) := by decide +kernel
theorem dX7_violatesThird_12 : decode cX7_violatesThird 12 = .ok (.iconst 0, 1) := by decide +kernel
theorem dX7_violatesThird_13 : decode cX7_violatesThird 13 = .ok (.istore_n 2, 1) := by decide +kernel
theorem dX7_violatesThird_14 : decode cX7_violatesThird 14 = .ok (.iload_n 2, 1) := by decide +kernel
theorem dX7_violatesThird_15 : decode cX7_violatesThird 15 = .ok (.aload_n 0, 1) := by decide +kernel
theorem dX7_violatesThird_16 : decode cX7_violatesThird 16 = .ok (.getfield 7, 3) := by decide +kernel
theorem dX7_violatesThird_19 : decode cX7_violatesThird 19 = .ok (.iconst 0, 1) := by decide +kernel
theorem dX7_violatesThird_20 : decode cX7_violatesThird 20 = .ok (.iaload, 1) := by decide +kernel
theorem dX7_violatesThird_21 : decode cX7_violatesThird 21 = .ok (.if_icmp .ge 69, 3) := by decide +kernel
theorem dX7_violatesThird_24 : decode cX7_violatesThird 24 = .ok (.iconst 0, 1) := by decide +kernel
theorem dX7_violatesThird_25 : decode cX7_violatesThird 25 = .ok (.istore_n 3, 1) := by decide +kernel
theorem dX7_violatesThird_26 : decode cX7_violatesThird 26 = .ok (.iload_n 3, 1) := by decide +kernel
theorem dX7_violatesThird_27 : decode cX7_violatesThird 27 = .ok (.aload_n 0, 1) := by decide +kernel
theorem dX7_violatesThird_28 : decode cX7_violatesThird 28 = .ok (.getfield 7, 3) := by decide +kernel
theorem dX7_violatesThird_31 : decode cX7_violatesThird 31 = .ok (.iconst 0, 1) := by decide +kernel
theorem dX7_violatesThird_32 : decode cX7_violatesThird 32 = .ok (.iaload, 1) := by decide +kernel
theorem dX7_violatesThird_33 : decode cX7_violatesThird 33 = .ok (.if_icmp .ge 51, 3) := by decide +kernel
theorem dX7_violatesThird_36 : decode cX7_violatesThird 36 = .ok (.aload_n 0, 1) := by decide +kernel
theorem dX7_violatesThird_37 : decode cX7_violatesThird 37 = .ok (.aload_n 0, 1) := by decide +kernel
theorem dX7_violatesThird_38 : decode cX7_violatesThird 38 = .ok (.iload_n 1, 1) := by decide +kernel
theorem dX7_violatesThird_39 : decode cX7_violatesThird 39 = .ok (.iload_n 2, 1) := by decide +kernel
theorem dX7_violatesThird_40 : decode cX7_violatesThird 40 = .ok (.invokevirtual 67, 3) := by decide +kernel
theorem dX7_violatesThird_43 : decode cX7_violatesThird 43 = .ok (.iload_n 3, 1) := by decide +kernel
theorem dX7_violatesThird_44 : decode cX7_violatesThird 44 = .ok (.invokevirtual 67, 3) := by decide +kernel
theorem dX7_violatesThird_47 : decode cX7_violatesThird 47 = .ok (.aload_n 0, 1) := by decide +kernel
theorem dX7_violatesThird_48 : decode cX7_violatesThird 48 = .ok (.aload_n 0, 1) := by decide +kernel
theorem dX7_violatesThird_49 : decode cX7_violatesThird 49 = .ok (.iload_n 1, 1) := by decide +kernel
theorem dX7_violatesThird_50 : decode cX7_violatesThird 50 = .ok (.iload_n 3, 1) := by decide +kernel
theorem dX7_violatesThird_51 : decode cX7_violatesThird 51 = .ok (.invokevirtual 67, 3) := by decide +kernel
theorem dX7_violatesThird_54 : decode cX7_violatesThird 54 = .ok (.aload_n 0, 1) := by decide +kernel
theorem dX7_violatesThird_55 : decode cX7_violatesThird 55 = .ok (.iload_n 2, 1) := by decide +kernel
theorem dX7_violatesThird_56 : decode cX7_violatesThird 56 = .ok (.iload_n 3, 1) := by decide +kernel
theorem dX7_violatesThird_57 : decode cX7_violatesThird 57 = .ok (.invokevirtual 67, 3) := by decide +kernel
theorem dX7_violatesThird_60 : decode cX7_violatesThird 60 = .ok (.invokevirtual 67, 3) := by decide +kernel
theorem dX7_violatesThird_63 : decode cX7_violatesThird 63 = .ok (.if_icmp .eq 15, 3) := by decide +kernel
theorem dX7_violatesThird_66 : decode cX7_violatesThird 66 = .ok (.bipush 100, 2) := by decide +kernel
theorem dX7_violatesThird_68 : decode cX7_violatesThird 68 = .ok (.iload_n 1, 1) := by decide +kernel
theorem dX7_violatesThird_69 : decode cX7_violatesThird 69 = .ok (.imul, 1) := by decide +kernel
theorem dX7_violatesThird_70 : decode cX7_violatesThird 70 = .ok (.bipush 10, 2) := by decide +kernel
theorem dX7_violatesThird_72 : decode cX7_violatesThird 72 = .ok (.iload_n 2, 1) := by decide +kernel
theorem dX7_violatesThird_73 : decode cX7_violatesThird 73 = .ok (.imul, 1) := by decide +kernel
theorem dX7_violatesThird_74 : decode cX7_violatesThird 74 = .ok (.iadd, 1) := by decide +kernel
theorem dX7_violatesThird_75 : decode cX7_violatesThird 75 = .ok (.iload_n 3, 1) := by decide +kernel
theorem dX7_violatesThird_76 : decode cX7_violatesThird 76 = .ok (.iadd, 1) := by decide +kernel
theorem dX7_violatesThird_77 : decode cX7_violatesThird 77 = .ok (.ireturn, 1) := by decide +kernel
theorem dX7_violatesThird_78 : decode cX7_violatesThird 78 = .ok (.iinc 3 1, 3) := by decide +kernel
theorem dX7_violatesThird_81 : decode cX7_violatesThird 81 = .ok (.goto (-55), 3) := by decide +kernel
theorem dX7_violatesThird_84 : decode cX7_violatesThird 84 = .ok (.iinc 2 1, 3) := by decide +kernel
theorem dX7_violatesThird_87 : decode cX7_violatesThird 87 = .ok (.goto (-73), 3) := by decide +kernel
theorem dX7_violatesThird_90 : decode cX7_violatesThird 90 = .ok (.iinc 1 1, 3) := by decide +kernel
theorem dX7_violatesThird_93 : decode cX7_violatesThird 93 = .ok (.goto (-91), 3) := by decide +kernel
theorem dX7_violatesThird_96 : decode cX7_violatesThird 96 = .ok (.bipush (-6), 2) := by decide +kernel
theorem dX7_violatesThird_98 : decode cX7_violatesThird 98 = .ok (.ireturn, 1) := by decide +kernel
theorem dX7_violates_0 : decode cX7_violates 0 = .ok (.iload_n 1, 1) := by decide +kernel
theorem dX7_violates_1 : decode cX7_violates 1 = .ok (.iconst 1, 1) := by decide +kernel
theorem dX7_violates_2 : decode cX7_violates 2 = .ok (.if_icmp .ne 10, 3) := by decide +kernel
theorem dX7_violates_5 : decode cX7_violates 5 = .ok (.aload_n 0, 1) := by decide +kernel
theorem dX7_violates_6 : decode cX7_violates 6 = .ok (.invokevirtual 77, 3) := by decide +kernel
theorem dX7_violates_9 : decode cX7_violates 9 = .ok (.goto 19, 3) := by decide +kernel
theorem dX7_violates_12 : decode cX7_violates 12 = .ok (.iload_n 1, 1) := by decide +kernel
theorem dX7_violates_13 : decode cX7_violates 13 = .ok (.iconst 2, 1) := by decide +kernel
theorem dX7_violates_14 : decode cX7_violates 14 = .ok (.if_icmp .ne 10, 3) := by decide +kernel
theorem dX7_violates_17 : decode cX7_violates 17 = .ok (.aload_n 0, 1) := by decide +kernel
theorem dX7_violates_18 : decode cX7_violates 18 = .ok (.invokevirtual 81, 3) := by decide +kernel
theorem dX7_violates_21 : decode cX7_violates 21 = .ok (.goto 7, 3) := by decide +kernel
theorem dX7_violates_24 : decode cX7_violates 24 = .ok (.aload_n 0, 1) := by decide +kernel
theorem dX7_violates_25 : decode cX7_violates 25 = .ok (.invokevirtual 84, 3) := by decide +kernel
theorem dX7_violates_28 : decode cX7_violates 28 = .ok (.ireturn, 1) := by decide +kernel
theorem dX7_invert_0 : decode cX7_invert 0 = .ok (.aload_n 0, 1) := by decide +kernel
theorem dX7_invert_1 : decode cX7_invert 1 = .ok (.invokevirtual 81, 3) := by decide +kernel
theorem dX7_invert_4 : decode cX7_invert 4 = .ok (.bipush (-6), 2) := by decide +kernel
theorem dX7_invert_6 : decode cX7_invert 6 = .ok (.if_icmp .eq 6, 3) := by decide +kernel
theorem dX7_invert_9 : decode cX7_invert 9 = .ok (.bipush (-3), 2) := by decide +kernel
theorem dX7_invert_11 : decode cX7_invert 11 = .ok (.ireturn, 1) := by decide +kernel
theorem dX7_invert_12 : decode cX7_invert 12 = .ok (.aload_n 0, 1) := by decide +kernel
theorem dX7_invert_13 : decode cX7_invert 13 = .ok (.invokevirtual 39, 3) := by decide +kernel
theorem dX7_invert_16 : decode cX7_invert 16 = .ok (.iconst 0, 1) := by decide +kernel
theorem dX7_invert_17 : decode cX7_invert 17 = .ok (.istore_n 1, 1) := by decide +kernel
theorem dX7_invert_18 : decode cX7_invert 18 = .ok (.iconst 0, 1) := by decide +kernel
theorem dX7_invert_19 : decode cX7_invert 19 = .ok (.istore_n 2, 1) := by decide +kernel
theorem dX7_invert_20 : decode cX7_invert 20 = .ok (.iload_n 2, 1) := by decide +kernel
theorem dX7_invert_21 : decode cX7_invert 21 = .ok (.aload_n 0, 1) := by decide +kernel
theorem dX7_invert_22 : decode cX7_invert 22 = .ok (.getfield 7, 3) := by decide +kernel
theorem dX7_invert_25 : decode cX7_invert 25 = .ok (.iconst 0, 1) := by decide +kernel
theorem dX7_invert_26 : decode cX7_invert 26 = .ok (.iaload, 1) := by decide +kernel
theorem dX7_invert_27 : decode cX7_invert 27 = .ok (.if_icmp .ge 92, 3) := by decide +kernel
theorem dX7_invert_30 : decode cX7_invert 30 = .ok (.iconst 0, 1) := by decide +kernel
theorem dX7_invert_31 : decode cX7_invert 31 = .ok (.istore_n 3, 1) := by decide +kernel
theorem dX7_invert_32 : decode cX7_invert 32 = .ok (.iload_n 3, 1) := by decide +kernel
theorem dX7_invert_33 : decode cX7_invert 33 = .ok (.aload_n 0, 1) := by decide +kernel
theorem dX7_invert_34 : decode cX7_invert 34 = .ok (.getfield 7, 3) := by decide +kernel
theorem dX7_invert_37 : decode cX7_invert 37 = .ok (.iconst 0, 1) := by decide +kernel
theorem dX7_invert_38 : decode cX7_invert 38 = .ok (.iaload, 1) := by decide +kernel
theorem dX7_invert_39 : decode cX7_invert 39 = .ok (.if_icmp .ge 21, 3) := by decide +kernel
theorem dX7_invert_42 : decode cX7_invert 42 = .ok (.aload_n 0, 1) := by decide +kernel
theorem dX7_invert_43 : decode cX7_invert 43 = .ok (.getfield 22, 3) := by decide +kernel
theorem dX7_invert_46 : decode cX7_invert 46 = .ok (.iload_n 3, 1) := by decide +kernel
theorem dX7_invert_47 : decode cX7_invert 47 = .ok (.aload_n 0, 1) := by decide +kernel
theorem dX7_invert_48 : decode cX7_invert 48 = .ok (.iload_n 3, 1) := by decide +kernel
theorem dX7_invert_49 : decode cX7_invert 49 = .ok (.iload_n 2, 1) := by decide +kernel
theorem dX7_invert_50 : decode cX7_invert 50 = .ok (.invokevirtual 87, 3) := by decide +kernel
theorem dX7_invert_53 : decode cX7_invert 53 = .ok (.iastore, 1) := by decide +kernel
theorem dX7_invert_54 : decode cX7_invert 54 = .ok (.iinc 3 1, 3) := by decide +kernel
theorem dX7_invert_57 : decode cX7_invert 57 = .ok (.goto (-25), 3) := by decide +kernel
theorem dX7_invert_60 : decode cX7_invert 60 = .ok (.iconst 0, 1) := by decide +kernel
theorem dX7_invert_61 : decode cX7_invert 61 = .ok (.istore_n 3, 1) := by decide +kernel
theorem dX7_invert_62 : decode cX7_invert 62 = .ok (.iload_n 3, 1) := by decide +kernel
theorem dX7_invert_63 : decode cX7_invert 63 = .ok (.aload_n 0, 1) := by decide +kernel
theorem dX7_invert_64 : decode cX7_invert 64 = .ok (.getfield 7, 3) := by decide +kernel
theorem dX7_invert_67 : decode cX7_invert 67 = .ok (.iconst 0, 1) := by decide +kernel
theorem dX7_invert_68 : decode cX7_invert 68 = .ok (.iaload, 1) := by decide +kernel
theorem dX7_invert_69 : decode cX7_invert 69 = .ok (.if_icmp .ge 44, 3) := by decide +kernel
theorem dX7_invert_72 : decode cX7_invert 72 = .ok (.iload_n 1, 1) := by decide +kernel
theorem dX7_invert_73 : decode cX7_invert 73 = .ok (.aload_n 0, 1) := by decide +kernel
theorem dX7_invert_74 : decode cX7_invert 74 = .ok (.iload_n 3, 1) := by decide +kernel
theorem dX7_invert_75 : decode cX7_invert 75 = .ok (.iload_n 2, 1) := by decide +kernel
theorem dX7_invert_76 : decode cX7_invert 76 = .ok (.invokevirtual 67, 3) := by decide +kernel
theorem dX7_invert_79 : decode cX7_invert 79 = .ok (.aload_n 0, 1) := by decide +kernel
theorem dX7_invert_80 : decode cX7_invert 80 = .ok (.getfield 22, 3) := by decide +kernel
theorem dX7_invert_83 : decode cX7_invert 83 = .ok (.iload_n 3, 1) := by decide +kernel
theorem dX7_invert_84 : decode cX7_invert 84 = .ok (.iaload, 1) := by decide +kernel
theorem dX7_invert_85 : decode cX7_invert 85 = .ok (.if_icmp .ne 7, 3) := by decide +kernel
theorem dX7_invert_88 : decode cX7_invert 88 = .ok (.iconst 0, 1) := by decide +kernel
theorem dX7_invert_89 : decode cX7_invert 89 = .ok (.goto 4, 3) := by decide +kernel
theorem dX7_invert_92 : decode cX7_invert 92 = .ok (.iconst 1, 1) := by decide +kernel
theorem dX7_invert_93 : decode cX7_invert 93 = .ok (.iadd, 1) := by decide +kernel
theorem dX7_invert_94 : decode cX7_invert 94 = .ok (.istore_n 1, 1) := by decide +kernel
theorem dX7_invert_95 : decode cX7_invert 95 = .ok (.aload_n 0, 1) := by decide +kernel
theorem dX7_invert_96 : decode cX7_invert 96 = .ok (.iload_n 3, 1) := by decide +kernel
theorem dX7_invert_97 : decode cX7_invert 97 = .ok (.iload_n 2, 1) := by decide +kernel
theorem dX7_invert_98 : decode cX7_invert 98 = .ok (.aload_n 0, 1) := by decide +kernel
theorem dX7_invert_99 : decode cX7_invert 99 = .ok (.getfield 22, 3) := by decide +kernel
theorem dX7_invert_102 : decode cX7_invert 102 = .ok (.iload_n 3, 1) := by decide +kernel
theorem dX7_invert_103 : decode cX7_invert 103 = .ok (.iaload, 1) := by decide +kernel
theorem dX7_invert_104 : decode cX7_invert 104 = .ok (.invokevirtual 42, 3) := by decide +kernel
theorem dX7_invert_107 : decode cX7_invert 107 = .ok (.iinc 3 1, 3) := by decide +kernel
theorem dX7_invert_110 : decode cX7_invert 110 = .ok (.goto (-48), 3) := by decide +kernel
theorem dX7_invert_113 : decode cX7_invert 113 = .ok (.iinc 2 1, 3) := by decide +kernel
theorem dX7_invert_116 : decode cX7_invert 116 = .ok (.goto (-96), 3) := by decide +kernel
theorem dX7_invert_119 : decode cX7_invert 119 = .ok (.iload_n 1, 1) := by decide +kernel
theorem dX7_invert_120 : decode cX7_invert 120 = .ok (.ireturn, 1) := by decide +kernel
theorem dX7_size_0 : decode cX7_size 0 = .ok (.aload_n 0, 1) := by decide +kernel
theorem dX7_size_1 : decode cX7_size 1 = .ok (.getfield 7, 3) := by decide +kernel
theorem dX7_size_4 : decode cX7_size 4 = .ok (.iconst 0, 1) := by decide +kernel
theorem dX7_size_5 : decode cX7_size 5 = .ok (.iaload, 1) := by decide +kernel
theorem dX7_size_6 : decode cX7_size 6 = .ok (.ireturn, 1) := by decide +kernel
theorem dX7_product_0 : decode cX7_product 0 = .ok (.aload_n 0, 1) := by decide +kernel
theorem dX7_product_1 : decode cX7_product 1 = .ok (.iload_n 1, 1) := by decide +kernel
theorem dX7_product_2 : decode cX7_product 2 = .ok (.invokevirtual 63, 3) := by decide +kernel
theorem dX7_product_5 : decode cX7_product 5 = .ok (.ifCond .eq 20, 3) := by decide +kernel
theorem dX7_product_8 : decode cX7_product 8 = .ok (.aload_n 0, 1) := by decide +kernel
theorem dX7_product_9 : decode cX7_product 9 = .ok (.iload_n 2, 1) := by decide +kernel
theorem dX7_product_10 : decode cX7_product 10 = .ok (.invokevirtual 63, 3) := by decide +kernel
theorem dX7_product_13 : decode cX7_product 13 = .ok (.ifCond .eq 12, 3) := by decide +kernel
theorem dX7_product_16 : decode cX7_product 16 = .ok (.aload_n 0, 1) := by decide +kernel
theorem dX7_product_17 : decode cX7_product 17 = .ok (.iload_n 1, 1) := by decide +kernel
theorem dX7_product_18 : decode cX7_product 18 = .ok (.iload_n 2, 1) := by decide +kernel
theorem dX7_product_19 : decode cX7_product 19 = .ok (.invokevirtual 67, 3) := by decide +kernel
theorem dX7_product_22 : decode cX7_product 22 = .ok (.goto 4, 3) := by decide +kernel
theorem dX7_product_25 : decode cX7_product 25 = .ok (.iconst (-1), 1) := by decide +kernel
theorem dX7_product_26 : decode cX7_product 26 = .ok (.ireturn, 1) := by decide +kernel
theorem dX7_quotient_0 : decode cX7_quotient 0 = .ok (.aload_n 0, 1) := by decide +kernel
theorem dX7_quotient_1 : decode cX7_quotient 1 = .ok (.iload_n 1, 1) := by decide +kernel
theorem dX7_quotient_2 : decode cX7_quotient 2 = .ok (.invokevirtual 63, 3) := by decide +kernel
theorem dX7_quotient_5 : decode cX7_quotient 5 = .ok (.ifCond .eq 20, 3) := by decide +kernel
theorem dX7_quotient_8 : decode cX7_quotient 8 = .ok (.aload_n 0, 1) := by decide +kernel
theorem dX7_quotient_9 : decode cX7_quotient 9 = .ok (.iload_n 2, 1) := by decide +kernel
theorem dX7_quotient_10 : decode cX7_quotient 10 = .ok (.invokevirtual 63, 3) := by decide +kernel
theorem dX7_quotient_13 : decode cX7_quotient 13 = .ok (.ifCond .eq 12, 3) := by decide +kernel
theorem dX7_quotient_16 : decode cX7_quotient 16 = .ok (.aload_n 0, 1) := by decide +kernel
theorem dX7_quotient_17 : decode cX7_quotient 17 = .ok (.iload_n 1, 1) := by decide +kernel
theorem dX7_quotient_18 : decode cX7_quotient 18 = .ok (.iload_n 2, 1) := by decide +kernel
theorem dX7_quotient_19 : decode cX7_quotient 19 = .ok (.invokevirtual 87, 3) := by decide +kernel
theorem dX7_quotient_22 : decode cX7_quotient 22 = .ok (.goto 4, 3) := by decide +kernel
theorem dX7_quotient_25 : decode cX7_quotient 25 = .ok (.iconst (-1), 1) := by decide +kernel
theorem dX7_quotient_26 : decode cX7_quotient 26 = .ok (.ireturn, 1) := by decide +kernel
theorem dX7_violation_0 : decode cX7_violation 0 = .ok (.iload_n 1, 1) := by decide +kernel
theorem dX7_violation_1 : decode cX7_violation 1 = .ok (.iconst 1, 1) := by decide +kernel
theorem dX7_violation_2 : decode cX7_violation 2 = .ok (.iconst 3, 1) := by decide +kernel
theorem dX7_violation_3 : decode cX7_violation 3 = .ok (.invokestatic 35, 3) := by decide +kernel
theorem dX7_violation_6 : decode cX7_violation 6 = .ok (.ifCond .eq 11, 3) := by decide +kernel
theorem dX7_violation_9 : decode cX7_violation 9 = .ok (.aload_n 0, 1) := by decide +kernel
theorem dX7_violation_10 : decode cX7_violation 10 = .ok (.iload_n 1, 1) := by decide +kernel
theorem dX7_violation_11 : decode cX7_violation 11 = .ok (.invokevirtual 90, 3) := by decide +kernel
theorem dX7_violation_14 : decode cX7_violation 14 = .ok (.goto 4, 3) := by decide +kernel
theorem dX7_violation_17 : decode cX7_violation 17 = .ok (.iconst (-1), 1) := by decide +kernel
theorem dX7_violation_18 : decode cX7_violation 18 = .ok (.ireturn, 1) := by decide +kernel
theorem dX7_reach_0 : decode cX7_reach 0 = .ok (.aload_n 0, 1) := by decide +kernel
theorem dX7_reach_1 : decode cX7_reach 1 = .ok (.iload_n 1, 1) := by decide +kernel
theorem dX7_reach_2 : decode cX7_reach 2 = .ok (.invokevirtual 63, 3) := by decide +kernel
theorem dX7_reach_5 : decode cX7_reach 5 = .ok (.ifCond .ne 5, 3) := by decide +kernel
theorem dX7_reach_8 : decode cX7_reach 8 = .ok (.iconst (-1), 1) := by decide +kernel
theorem dX7_reach_9 : decode cX7_reach 9 = .ok (.ireturn, 1) := by decide +kernel
theorem dX7_reach_10 : decode cX7_reach 10 = .ok (.iconst 1, 1) := by decide +kernel
theorem dX7_reach_11 : decode cX7_reach 11 = .ok (.iload_n 1, 1) := by decide +kernel
theorem dX7_reach_12 : decode cX7_reach 12 = .ok (.ishl, 1) := by decide +kernel
theorem dX7_reach_13 : decode cX7_reach 13 = .ok (.istore_n 2, 1) := by decide +kernel
theorem dX7_reach_14 : decode cX7_reach 14 = .ok (.iconst 0, 1) := by decide +kernel
theorem dX7_reach_15 : decode cX7_reach 15 = .ok (.istore_n 3, 1) := by decide +kernel
theorem dX7_reach_16 : decode cX7_reach 16 = .ok (.iload_n 3, 1) := by decide +kernel
theorem dX7_reach_17 : decode cX7_reach 17 = .ok (.bipush 6, 2) := by decide +kernel
theorem dX7_reach_19 : decode cX7_reach 19 = .ok (.if_icmp .ge 72, 3) := by decide +kernel
theorem dX7_reach_22 : decode cX7_reach 22 = .ok (.iconst 0, 1) := by decide +kernel
theorem dX7_reach_23 : decode cX7_reach 23 = .ok (.istore 4, 2) := by decide +kernel
theorem dX7_reach_25 : decode cX7_reach 25 = .ok (.iload 4, 2) := by decide +kernel
theorem dX7_reach_27 : decode cX7_reach 27 = .ok (.aload_n 0, 1) := by decide +kernel
theorem dX7_reach_28 : decode cX7_reach 28 = .ok (.getfield 7, 3) := by decide +kernel
theorem dX7_reach_31 : decode cX7_reach 31 = .ok (.iconst 0, 1) := by decide +kernel
theorem dX7_reach_32 : decode cX7_reach 32 = .ok (.iaload, 1) := by decide +kernel
theorem dX7_reach_33 : decode cX7_reach 33 = .ok (.if_icmp .ge 52, 3) := by decide +kernel
theorem dX7_reach_36 : decode cX7_reach 36 = .ok (.iconst 0, 1) := by decide +kernel
theorem dX7_reach_37 : decode cX7_reach 37 = .ok (.istore 5, 2) := by decide +kernel
theorem dX7_reach_39 : decode cX7_reach 39 = .ok (.iload 5, 2) := by decide +kernel
theorem dX7_reach_41 : decode cX7_reach 41 = .ok (.aload_n 0, 1) := by decide +kernel
theorem dX7_reach_42 : decode cX7_reach 42 = .ok (.getfield 7, 3) := by decide +kernel
theorem dX7_reach_45 : decode cX7_reach 45 = .ok (.iconst 0, 1) := by decide +kernel
theorem dX7_reach_46 : decode cX7_reach 46 = .ok (.iaload, 1) := by decide +kernel
theorem dX7_reach_47 : decode cX7_reach 47 = .ok (.if_icmp .ge 32, 3) := by decide +kernel
theorem dX7_reach_50 : decode cX7_reach 50 = .ok (.iload_n 2, 1) := by decide +kernel
theorem dX7_reach_51 : decode cX7_reach 51 = .ok (.iload 4, 2) := by decide +kernel
theorem dX7_reach_53 : decode cX7_reach 53 = .ok (.ishr, 1) := by decide +kernel
theorem dX7_reach_54 : decode cX7_reach 54 = .ok (.iconst 1, 1) := by decide +kernel
theorem dX7_reach_55 : decode cX7_reach 55 = .ok (.iand, 1) := by decide +kernel
theorem dX7_reach_56 : decode cX7_reach 56 = .ok (.iconst 1, 1) := by decide +kernel
theorem dX7_reach_57 : decode cX7_reach 57 = .ok (.if_icmp .ne 22, 3) := by decide +kernel
theorem dX7_reach_60 : decode cX7_reach 60 = .ok (.iload_n 2, 1) := by decide +kernel
theorem dX7_reach_61 : decode cX7_reach 61 = .ok (.iconst 1, 1) := by decide +kernel
theorem dX7_reach_62 : decode cX7_reach 62 = .ok (.aload_n 0, 1) := by decide +kernel
theorem dX7_reach_63 : decode cX7_reach 63 = .ok (.iload 4, 2) := by decide +kernel
theorem dX7_reach_65 : decode cX7_reach 65 = .ok (.iload 5, 2) := by decide +kernel
theorem dX7_reach_67 : decode cX7_reach 67 = .ok (.invokevirtual 67, 3) := by decide +kernel
theorem dX7_reach_70 : decode cX7_reach 70 = .ok (.ishl, 1) := by decide +kernel
theorem dX7_reach_71 : decode cX7_reach 71 = .ok (.ior, 1) := by decide +kernel
theorem dX7_reach_72 : decode cX7_reach 72 = .ok (.istore_n 2, 1) := by decide +kernel
theorem dX7_reach_73 : decode cX7_reach 73 = .ok (.iinc 5 1, 3) := by decide +kernel
theorem dX7_reach_76 : decode cX7_reach 76 = .ok (.goto (-37), 3) := by decide +kernel
theorem dX7_reach_79 : decode cX7_reach 79 = .ok (.iinc 4 1, 3) := by decide +kernel
theorem dX7_reach_82 : decode cX7_reach 82 = .ok (.goto (-57), 3) := by decide +kernel
theorem dX7_reach_85 : decode cX7_reach 85 = .ok (.iinc 3 1, 3) := by decide +kernel
theorem dX7_reach_88 : decode cX7_reach 88 = .ok (.goto (-72), 3) := by decide +kernel
theorem dX7_reach_91 : decode cX7_reach 91 = .ok (.iload_n 2, 1) := by decide +kernel
theorem dX7_reach_92 : decode cX7_reach 92 = .ok (.ireturn, 1) := by decide +kernel
theorem dX7_joins_0 : decode cX7_joins 0 = .ok (.aload_n 0, 1) := by decide +kernel
theorem dX7_joins_1 : decode cX7_joins 1 = .ok (.getfield 25, 3) := by decide +kernel
theorem dX7_joins_4 : decode cX7_joins 4 = .ok (.iload_n 1, 1) := by decide +kernel
theorem dX7_joins_5 : decode cX7_joins 5 = .ok (.iaload, 1) := by decide +kernel
theorem dX7_joins_6 : decode cX7_joins 6 = .ok (.aload_n 0, 1) := by decide +kernel
theorem dX7_joins_7 : decode cX7_joins 7 = .ok (.getfield 25, 3) := by decide +kernel
theorem dX7_joins_10 : decode cX7_joins 10 = .ok (.iload_n 2, 1) := by decide +kernel
theorem dX7_joins_11 : decode cX7_joins 11 = .ok (.iaload, 1) := by decide +kernel
theorem dX7_joins_12 : decode cX7_joins 12 = .ok (.if_icmp .ge 12, 3) := by decide +kernel
theorem dX7_joins_15 : decode cX7_joins 15 = .ok (.aload_n 0, 1) := by decide +kernel
theorem dX7_joins_16 : decode cX7_joins 16 = .ok (.getfield 25, 3) := by decide +kernel
theorem dX7_joins_19 : decode cX7_joins 19 = .ok (.iload_n 1, 1) := by decide +kernel
theorem dX7_joins_20 : decode cX7_joins 20 = .ok (.iaload, 1) := by decide +kernel
theorem dX7_joins_21 : decode cX7_joins 21 = .ok (.goto 9, 3) := by decide +kernel
theorem dX7_joins_24 : decode cX7_joins 24 = .ok (.aload_n 0, 1) := by decide +kernel
theorem dX7_joins_25 : decode cX7_joins 25 = .ok (.getfield 25, 3) := by decide +kernel
theorem dX7_joins_28 : decode cX7_joins 28 = .ok (.iload_n 2, 1) := by decide +kernel
theorem dX7_joins_29 : decode cX7_joins 29 = .ok (.iaload, 1) := by decide +kernel
theorem dX7_joins_30 : decode cX7_joins 30 = .ok (.istore 4, 2) := by decide +kernel
theorem dX7_joins_32 : decode cX7_joins 32 = .ok (.aload_n 0, 1) := by decide +kernel
theorem dX7_joins_33 : decode cX7_joins 33 = .ok (.getfield 25, 3) := by decide +kernel
theorem dX7_joins_36 : decode cX7_joins 36 = .ok (.iload_n 1, 1) := by decide +kernel
theorem dX7_joins_37 : decode cX7_joins 37 = .ok (.iaload, 1) := by decide +kernel
theorem dX7_joins_38 : decode cX7_joins 38 = .ok (.aload_n 0, 1) := by decide +kernel
theorem dX7_joins_39 : decode cX7_joins 39 = .ok (.getfield 25, 3) := by decide +kernel
theorem dX7_joins_42 : decode cX7_joins 42 = .ok (.iload_n 2, 1) := by decide +kernel
theorem dX7_joins_43 : decode cX7_joins 43 = .ok (.iaload, 1) := by decide +kernel
theorem dX7_joins_44 : decode cX7_joins 44 = .ok (.if_icmp .ge 12, 3) := by decide +kernel
theorem dX7_joins_47 : decode cX7_joins 47 = .ok (.aload_n 0, 1) := by decide +kernel
theorem dX7_joins_48 : decode cX7_joins 48 = .ok (.getfield 25, 3) := by decide +kernel
theorem dX7_joins_51 : decode cX7_joins 51 = .ok (.iload_n 2, 1) := by decide +kernel
theorem dX7_joins_52 : decode cX7_joins 52 = .ok (.iaload, 1) := by decide +kernel
theorem dX7_joins_53 : decode cX7_joins 53 = .ok (.goto 9, 3) := by decide +kernel
theorem dX7_joins_56 : decode cX7_joins 56 = .ok (.aload_n 0, 1) := by decide +kernel
theorem dX7_joins_57 : decode cX7_joins 57 = .ok (.getfield 25, 3) := by decide +kernel
theorem dX7_joins_60 : decode cX7_joins 60 = .ok (.iload_n 1, 1) := by decide +kernel
theorem dX7_joins_61 : decode cX7_joins 61 = .ok (.iaload, 1) := by decide +kernel
theorem dX7_joins_62 : decode cX7_joins 62 = .ok (.istore 5, 2) := by decide +kernel
theorem dX7_joins_64 : decode cX7_joins 64 = .ok (.iconst 0, 1) := by decide +kernel
theorem dX7_joins_65 : decode cX7_joins 65 = .ok (.istore 6, 2) := by decide +kernel
theorem dX7_joins_67 : decode cX7_joins 67 = .ok (.iload 6, 2) := by decide +kernel
theorem dX7_joins_69 : decode cX7_joins 69 = .ok (.iload_n 3, 1) := by decide +kernel
theorem dX7_joins_70 : decode cX7_joins 70 = .ok (.if_icmp .ge 40, 3) := by decide +kernel
theorem dX7_joins_73 : decode cX7_joins 73 = .ok (.aload_n 0, 1) := by decide +kernel
theorem dX7_joins_74 : decode cX7_joins 74 = .ok (.getfield 25, 3) := by decide +kernel
theorem dX7_joins_77 : decode cX7_joins 77 = .ok (.iload 6, 2) := by decide +kernel
theorem dX7_joins_79 : decode cX7_joins 79 = .ok (.aload_n 0, 1) := by decide +kernel
theorem dX7_joins_80 : decode cX7_joins 80 = .ok (.getfield 25, 3) := by decide +kernel
theorem dX7_joins_83 : decode cX7_joins 83 = .ok (.iload 6, 2) := by decide +kernel
theorem dX7_joins_85 : decode cX7_joins 85 = .ok (.iaload, 1) := by decide +kernel
theorem dX7_joins_86 : decode cX7_joins 86 = .ok (.iload 5, 2) := by decide +kernel
theorem dX7_joins_88 : decode cX7_joins 88 = .ok (.if_icmp .ne 8, 3) := by decide +kernel
theorem dX7_joins_91 : decode cX7_joins 91 = .ok (.iload 4, 2) := by decide +kernel
theorem dX7_joins_93 : decode cX7_joins 93 = .ok (.goto 10, 3) := by decide +kernel
theorem dX7_joins_96 : decode cX7_joins 96 = .ok (.aload_n 0, 1) := by decide +kernel
theorem dX7_joins_97 : decode cX7_joins 97 = .ok (.getfield 25, 3) := by decide +kernel
theorem dX7_joins_100 : decode cX7_joins 100 = .ok (.iload 6, 2) := by decide +kernel
theorem dX7_joins_102 : decode cX7_joins 102 = .ok (.iaload, 1) := by decide +kernel
theorem dX7_joins_103 : decode cX7_joins 103 = .ok (.iastore, 1) := by decide +kernel
theorem dX7_joins_104 : decode cX7_joins 104 = .ok (.iinc 6 1, 3) := by decide +kernel
theorem dX7_joins_107 : decode cX7_joins 107 = .ok (.goto (-40), 3) := by decide +kernel
theorem dX7_joins_110 : decode cX7_joins 110 = .ok (.return_, 1) := by decide +kernel
theorem dX7_aloneAll_0 : decode cX7_aloneAll 0 = .ok (.iconst 0, 1) := by decide +kernel
theorem dX7_aloneAll_1 : decode cX7_aloneAll 1 = .ok (.istore_n 2, 1) := by decide +kernel
theorem dX7_aloneAll_2 : decode cX7_aloneAll 2 = .ok (.iload_n 2, 1) := by decide +kernel
theorem dX7_aloneAll_3 : decode cX7_aloneAll 3 = .ok (.iload_n 1, 1) := by decide +kernel
theorem dX7_aloneAll_4 : decode cX7_aloneAll 4 = .ok (.if_icmp .ge 16, 3) := by decide +kernel
theorem dX7_aloneAll_7 : decode cX7_aloneAll 7 = .ok (.aload_n 0, 1) := by decide +kernel
theorem dX7_aloneAll_8 : decode cX7_aloneAll 8 = .ok (.getfield 25, 3) := by decide +kernel
theorem dX7_aloneAll_11 : decode cX7_aloneAll 11 = .ok (.iload_n 2, 1) := by decide +kernel
theorem dX7_aloneAll_12 : decode cX7_aloneAll 12 = .ok (.iload_n 2, 1) := by decide +kernel
theorem dX7_aloneAll_13 : decode cX7_aloneAll 13 = .ok (.iastore, 1) := by decide +kernel
theorem dX7_aloneAll_14 : decode cX7_aloneAll 14 = .ok (.iinc 2 1, 3) := by decide +kernel
theorem dX7_aloneAll_17 : decode cX7_aloneAll 17 = .ok (.goto (-15), 3) := by decide +kernel
theorem dX7_aloneAll_20 : decode cX7_aloneAll 20 = .ok (.return_, 1) := by decide +kernel
theorem dX7_partsMany_0 : decode cX7_partsMany 0 = .ok (.iconst 0, 1) := by decide +kernel
theorem dX7_partsMany_1 : decode cX7_partsMany 1 = .ok (.istore_n 2, 1) := by decide +kernel
theorem dX7_partsMany_2 : decode cX7_partsMany 2 = .ok (.iconst 0, 1) := by decide +kernel
theorem dX7_partsMany_3 : decode cX7_partsMany 3 = .ok (.istore_n 3, 1) := by decide +kernel
theorem dX7_partsMany_4 : decode cX7_partsMany 4 = .ok (.iload_n 3, 1) := by decide +kernel
theorem dX7_partsMany_5 : decode cX7_partsMany 5 = .ok (.iload_n 1, 1) := by decide +kernel
theorem dX7_partsMany_6 : decode cX7_partsMany 6 = .ok (.if_icmp .ge 27, 3) := by decide +kernel
theorem dX7_partsMany_9 : decode cX7_partsMany 9 = .ok (.iload_n 2, 1) := by decide +kernel
theorem dX7_partsMany_10 : decode cX7_partsMany 10 = .ok (.aload_n 0, 1) := by decide +kernel
theorem dX7_partsMany_11 : decode cX7_partsMany 11 = .ok (.getfield 25, 3) := by decide +kernel
theorem dX7_partsMany_14 : decode cX7_partsMany 14 = .ok (.iload_n 3, 1) := by decide +kernel
theorem dX7_partsMany_15 : decode cX7_partsMany 15 = .ok (.iaload, 1) := by decide +kernel
theorem dX7_partsMany_16 : decode cX7_partsMany 16 = .ok (.iload_n 3, 1) := by decide +kernel
theorem dX7_partsMany_17 : decode cX7_partsMany 17 = .ok (.if_icmp .ne 7, 3) := by decide +kernel
theorem dX7_partsMany_20 : decode cX7_partsMany 20 = .ok (.iconst 1, 1) := by decide +kernel
theorem dX7_partsMany_21 : decode cX7_partsMany 21 = .ok (.goto 4, 3) := by decide +kernel
theorem dX7_partsMany_24 : decode cX7_partsMany 24 = .ok (.iconst 0, 1) := by decide +kernel
theorem dX7_partsMany_25 : decode cX7_partsMany 25 = .ok (.iadd, 1) := by decide +kernel
theorem dX7_partsMany_26 : decode cX7_partsMany 26 = .ok (.istore_n 2, 1) := by decide +kernel
theorem dX7_partsMany_27 : decode cX7_partsMany 27 = .ok (.iinc 3 1, 3) := by decide +kernel
theorem dX7_partsMany_30 : decode cX7_partsMany 30 = .ok (.goto (-26), 3) := by decide +kernel
theorem dX7_partsMany_33 : decode cX7_partsMany 33 = .ok (.iload_n 2, 1) := by decide +kernel
theorem dX7_partsMany_34 : decode cX7_partsMany 34 = .ok (.ireturn, 1) := by decide +kernel
theorem dX7_componentsOfTable_0 : decode cX7_componentsOfTable 0 = .ok (.aload_n 0, 1) := by decide +kernel
theorem dX7_componentsOfTable_1 : decode cX7_componentsOfTable 1 = .ok (.aload_n 0, 1) := by decide +kernel
theorem dX7_componentsOfTable_2 : decode cX7_componentsOfTable 2 = .ok (.getfield 7, 3) := by decide +kernel
theorem dX7_componentsOfTable_5 : decode cX7_componentsOfTable 5 = .ok (.iconst 0, 1) := by decide +kernel
theorem dX7_componentsOfTable_6 : decode cX7_componentsOfTable 6 = .ok (.iaload, 1) := by decide +kernel
theorem dX7_componentsOfTable_7 : decode cX7_componentsOfTable 7 = .ok (.invokevirtual 93, 3) := by decide +kernel
theorem dX7_componentsOfTable_10 : decode cX7_componentsOfTable 10 = .ok (.iconst 0, 1) := by decide +kernel
theorem dX7_componentsOfTable_11 : decode cX7_componentsOfTable 11 = .ok (.istore_n 1, 1) := by decide +kernel
theorem dX7_componentsOfTable_12 : decode cX7_componentsOfTable 12 = .ok (.iload_n 1, 1) := by decide +kernel
theorem dX7_componentsOfTable_13 : decode cX7_componentsOfTable 13 = .ok (.aload_n 0, 1) := by decide +kernel
theorem dX7_componentsOfTable_14 : decode cX7_componentsOfTable 14 = .ok (.getfield 7, 3) := by decide +kernel
theorem dX7_componentsOfTable_17 : decode cX7_componentsOfTable 17 = .ok (.iconst 0, 1) := by decide +kernel
theorem dX7_componentsOfTable_18 : decode cX7_componentsOfTable 18 = .ok (.iaload, 1) := by decide +kernel
theorem dX7_componentsOfTable_19 : decode cX7_componentsOfTable 19 = .ok (.if_icmp .ge 44, 3) := by decide +kernel
theorem dX7_componentsOfTable_22 : decode cX7_componentsOfTable 22 = .ok (.iconst 0, 1) := by decide +kernel
theorem dX7_componentsOfTable_23 : decode cX7_componentsOfTable 23 = .ok (.istore_n 2, 1) := by decide +kernel
theorem dX7_componentsOfTable_24 : decode cX7_componentsOfTable 24 = .ok (.iload_n 2, 1) := by decide +kernel
theorem dX7_componentsOfTable_25 : decode cX7_componentsOfTable 25 = .ok (.aload_n 0, 1) := by decide +kernel
theorem dX7_componentsOfTable_26 : decode cX7_componentsOfTable 26 = .ok (.getfield 7, 3) := by decide +kernel
theorem dX7_componentsOfTable_29 : decode cX7_componentsOfTable 29 = .ok (.iconst 0, 1) := by decide +kernel
theorem dX7_componentsOfTable_30 : decode cX7_componentsOfTable 30 = .ok (.iaload, 1) := by decide +kernel
theorem dX7_componentsOfTable_31 : decode cX7_componentsOfTable 31 = .ok (.if_icmp .ge 26, 3) := by decide +kernel
theorem dX7_componentsOfTable_34 : decode cX7_componentsOfTable 34 = .ok (.aload_n 0, 1) := by decide +kernel
theorem dX7_componentsOfTable_35 : decode cX7_componentsOfTable 35 = .ok (.iload_n 1, 1) := by decide +kernel
theorem dX7_componentsOfTable_36 : decode cX7_componentsOfTable 36 = .ok (.aload_n 0, 1) := by decide +kernel
theorem dX7_componentsOfTable_37 : decode cX7_componentsOfTable 37 = .ok (.iload_n 1, 1) := by decide +kernel
theorem dX7_componentsOfTable_38 : decode cX7_componentsOfTable 38 = .ok (.iload_n 2, 1) := by decide +kernel
theorem dX7_componentsOfTable_39 : decode cX7_componentsOfTable 39 = .ok (.invokevirtual 67, 3) := by decide +kernel
theorem dX7_componentsOfTable_42 : decode cX7_componentsOfTable 42 = .ok (.aload_n 0, 1) := by decide +kernel
theorem dX7_componentsOfTable_43 : decode cX7_componentsOfTable 43 = .ok (.getfield 7, 3) := by decide +kernel
theorem dX7_componentsOfTable_46 : decode cX7_componentsOfTable 46 = .ok (.iconst 0, 1) := by decide +kernel
theorem dX7_componentsOfTable_47 : decode cX7_componentsOfTable 47 = .ok (.iaload, 1) := by decide +kernel
theorem dX7_componentsOfTable_48 : decode cX7_componentsOfTable 48 = .ok (.invokevirtual 97, 3) := by decide +kernel
theorem dX7_componentsOfTable_51 : decode cX7_componentsOfTable 51 = .ok (.iinc 2 1, 3) := by decide +kernel
theorem dX7_componentsOfTable_54 : decode cX7_componentsOfTable 54 = .ok (.goto (-30), 3) := by decide +kernel
theorem dX7_componentsOfTable_57 : decode cX7_componentsOfTable 57 = .ok (.iinc 1 1, 3) := by decide +kernel
theorem dX7_componentsOfTable_60 : decode cX7_componentsOfTable 60 = .ok (.goto (-48), 3) := by decide +kernel
theorem dX7_componentsOfTable_63 : decode cX7_componentsOfTable 63 = .ok (.aload_n 0, 1) := by decide +kernel
theorem dX7_componentsOfTable_64 : decode cX7_componentsOfTable 64 = .ok (.aload_n 0, 1) := by decide +kernel
theorem dX7_componentsOfTable_65 : decode cX7_componentsOfTable 65 = .ok (.getfield 7, 3) := by decide +kernel
theorem dX7_componentsOfTable_68 : decode cX7_componentsOfTable 68 = .ok (.iconst 0, 1) := by decide +kernel
theorem dX7_componentsOfTable_69 : decode cX7_componentsOfTable 69 = .ok (.iaload, 1) := by decide +kernel
theorem dX7_componentsOfTable_70 : decode cX7_componentsOfTable 70 = .ok (.invokevirtual 100, 3) := by decide +kernel
theorem dX7_componentsOfTable_73 : decode cX7_componentsOfTable 73 = .ok (.ireturn, 1) := by decide +kernel
theorem dX7_tableComponents_0 : decode cX7_tableComponents 0 = .ok (.aload_n 0, 1) := by decide +kernel
theorem dX7_tableComponents_1 : decode cX7_tableComponents 1 = .ok (.invokevirtual 103, 3) := by decide +kernel
theorem dX7_tableComponents_4 : decode cX7_tableComponents 4 = .ok (.ireturn, 1) := by decide +kernel
theorem dX7_closureOf_0 : decode cX7_closureOf 0 = .ok (.iload_n 1, 1) := by decide +kernel
theorem dX7_closureOf_1 : decode cX7_closureOf 1 = .ok (.istore_n 2, 1) := by decide +kernel
theorem dX7_closureOf_2 : decode cX7_closureOf 2 = .ok (.iconst 0, 1) := by decide +kernel
theorem dX7_closureOf_3 : decode cX7_closureOf 3 = .ok (.istore_n 3, 1) := by decide +kernel
theorem dX7_closureOf_4 : decode cX7_closureOf 4 = .ok (.iload_n 3, 1) := by decide +kernel
theorem dX7_closureOf_5 : decode cX7_closureOf 5 = .ok (.bipush 6, 2) := by decide +kernel
theorem dX7_closureOf_7 : decode cX7_closureOf 7 = .ok (.if_icmp .ge 86, 3) := by decide +kernel
theorem dX7_closureOf_10 : decode cX7_closureOf 10 = .ok (.iconst 0, 1) := by decide +kernel
theorem dX7_closureOf_11 : decode cX7_closureOf 11 = .ok (.istore 4, 2) := by decide +kernel
theorem dX7_closureOf_13 : decode cX7_closureOf 13 = .ok (.iload 4, 2) := by decide +kernel
theorem dX7_closureOf_15 : decode cX7_closureOf 15 = .ok (.aload_n 0, 1) := by decide +kernel
theorem dX7_closureOf_16 : decode cX7_closureOf 16 = .ok (.getfield 7, 3) := by decide +kernel
theorem dX7_closureOf_19 : decode cX7_closureOf 19 = .ok (.iconst 0, 1) := by decide +kernel
theorem dX7_closureOf_20 : decode cX7_closureOf 20 = .ok (.iaload, 1) := by decide +kernel
theorem dX7_closureOf_21 : decode cX7_closureOf 21 = .ok (.if_icmp .ge 66, 3) := by decide +kernel
theorem dX7_closureOf_24 : decode cX7_closureOf 24 = .ok (.iconst 0, 1) := by decide +kernel
theorem dX7_closureOf_25 : decode cX7_closureOf 25 = .ok (.istore 5, 2) := by decide +kernel
theorem dX7_closureOf_27 : decode cX7_closureOf 27 = .ok (.iload 5, 2) := by decide +kernel
theorem dX7_closureOf_29 : decode cX7_closureOf 29 = .ok (.aload_n 0, 1) := by decide +kernel
theorem dX7_closureOf_30 : decode cX7_closureOf 30 = .ok (.getfield 7, 3) := by decide +kernel
theorem dX7_closureOf_33 : decode cX7_closureOf 33 = .ok (.iconst 0, 1) := by decide +kernel
theorem dX7_closureOf_34 : decode cX7_closureOf 34 = .ok (.iaload, 1) := by decide +kernel
theorem dX7_closureOf_35 : decode cX7_closureOf 35 = .ok (.if_icmp .ge 46, 3) := by decide +kernel
theorem dX7_closureOf_38 : decode cX7_closureOf 38 = .ok (.iload_n 2, 1) := by decide +kernel
theorem dX7_closureOf_39 : decode cX7_closureOf 39 = .ok (.iload_n 2, 1) := by decide +kernel
theorem dX7_closureOf_40 : decode cX7_closureOf 40 = .ok (.iload 4, 2) := by decide +kernel
theorem dX7_closureOf_42 : decode cX7_closureOf 42 = .ok (.ishr, 1) := by decide +kernel
theorem dX7_closureOf_43 : decode cX7_closureOf 43 = .ok (.iconst 1, 1) := by decide +kernel
theorem dX7_closureOf_44 : decode cX7_closureOf 44 = .ok (.iand, 1) := by decide +kernel
theorem dX7_closureOf_45 : decode cX7_closureOf 45 = .ok (.iconst 1, 1) := by decide +kernel
theorem dX7_closureOf_46 : decode cX7_closureOf 46 = .ok (.if_icmp .ne 26, 3) := by decide +kernel
theorem dX7_closureOf_49 : decode cX7_closureOf 49 = .ok (.iload_n 2, 1) := by decide +kernel
theorem dX7_closureOf_50 : decode cX7_closureOf 50 = .ok (.iload 5, 2) := by decide +kernel
theorem dX7_closureOf_52 : decode cX7_closureOf 52 = .ok (.ishr, 1) := by decide +kernel
theorem dX7_closureOf_53 : decode cX7_closureOf 53 = .ok (.iconst 1, 1) := by decide +kernel
theorem dX7_closureOf_54 : decode cX7_closureOf 54 = .ok (.iand, 1) := by decide +kernel
theorem dX7_closureOf_55 : decode cX7_closureOf 55 = .ok (.iconst 1, 1) := by decide +kernel
theorem dX7_closureOf_56 : decode cX7_closureOf 56 = .ok (.if_icmp .ne 16, 3) := by decide +kernel
theorem dX7_closureOf_59 : decode cX7_closureOf 59 = .ok (.iconst 1, 1) := by decide +kernel
theorem dX7_closureOf_60 : decode cX7_closureOf 60 = .ok (.aload_n 0, 1) := by decide +kernel
theorem dX7_closureOf_61 : decode cX7_closureOf 61 = .ok (.iload 4, 2) := by decide +kernel
theorem dX7_closureOf_63 : decode cX7_closureOf 63 = .ok (.iload 5, 2) := by decide +kernel
theorem dX7_closureOf_65 : decode cX7_closureOf 65 = .ok (.invokevirtual 67, 3) := by decide +kernel
theorem dX7_closureOf_68 : decode cX7_closureOf 68 = .ok (.ishl, 1) := by decide +kernel
theorem dX7_closureOf_69 : decode cX7_closureOf 69 = .ok (.goto 4, 3) := by decide +kernel
theorem dX7_closureOf_72 : decode cX7_closureOf 72 = .ok (.iconst 0, 1) := by decide +kernel
theorem dX7_closureOf_73 : decode cX7_closureOf 73 = .ok (.ior, 1) := by decide +kernel
theorem dX7_closureOf_74 : decode cX7_closureOf 74 = .ok (.istore_n 2, 1) := by decide +kernel
theorem dX7_closureOf_75 : decode cX7_closureOf 75 = .ok (.iinc 5 1, 3) := by decide +kernel
theorem dX7_closureOf_78 : decode cX7_closureOf 78 = .ok (.goto (-51), 3) := by decide +kernel
theorem dX7_closureOf_81 : decode cX7_closureOf 81 = .ok (.iinc 4 1, 3) := by decide +kernel
theorem dX7_closureOf_84 : decode cX7_closureOf 84 = .ok (.goto (-71), 3) := by decide +kernel
theorem dX7_closureOf_87 : decode cX7_closureOf 87 = .ok (.iinc 3 1, 3) := by decide +kernel
theorem dX7_closureOf_90 : decode cX7_closureOf 90 = .ok (.goto (-86), 3) := by decide +kernel
theorem dX7_closureOf_93 : decode cX7_closureOf 93 = .ok (.iload_n 2, 1) := by decide +kernel
theorem dX7_closureOf_94 : decode cX7_closureOf 94 = .ok (.ireturn, 1) := by decide +kernel
theorem dX7_closure_0 : decode cX7_closure 0 = .ok (.iload_n 1, 1) := by decide +kernel
theorem dX7_closure_1 : decode cX7_closure 1 = .ok (.iconst 0, 1) := by decide +kernel
theorem dX7_closure_2 : decode cX7_closure 2 = .ok (.iconst 1, 1) := by decide +kernel
theorem dX7_closure_3 : decode cX7_closure 3 = .ok (.aload_n 0, 1) := by decide +kernel
theorem dX7_closure_4 : decode cX7_closure 4 = .ok (.getfield 7, 3) := by decide +kernel
theorem dX7_closure_7 : decode cX7_closure 7 = .ok (.iconst 0, 1) := by decide +kernel
theorem dX7_closure_8 : decode cX7_closure 8 = .ok (.iaload, 1) := by decide +kernel
theorem dX7_closure_9 : decode cX7_closure 9 = .ok (.ishl, 1) := by decide +kernel
theorem dX7_closure_10 : decode cX7_closure 10 = .ok (.iconst 1, 1) := by decide +kernel
theorem dX7_closure_11 : decode cX7_closure 11 = .ok (.isub, 1) := by decide +kernel
theorem dX7_closure_12 : decode cX7_closure 12 = .ok (.invokestatic 35, 3) := by decide +kernel
theorem dX7_closure_15 : decode cX7_closure 15 = .ok (.ifCond .eq 11, 3) := by decide +kernel
theorem dX7_closure_18 : decode cX7_closure 18 = .ok (.aload_n 0, 1) := by decide +kernel
theorem dX7_closure_19 : decode cX7_closure 19 = .ok (.iload_n 1, 1) := by decide +kernel
theorem dX7_closure_20 : decode cX7_closure 20 = .ok (.invokevirtual 106, 3) := by decide +kernel
theorem dX7_closure_23 : decode cX7_closure 23 = .ok (.goto 5, 3) := by decide +kernel
theorem dX7_closure_26 : decode cX7_closure 26 = .ok (.bipush (-2), 2) := by decide +kernel
theorem dX7_closure_28 : decode cX7_closure 28 = .ok (.ireturn, 1) := by decide +kernel
theorem dX7_fewestGenerators_0 : decode cX7_fewestGenerators 0 = .ok (.iconst 1, 1) := by decide +kernel
theorem dX7_fewestGenerators_1 : decode cX7_fewestGenerators 1 = .ok (.aload_n 0, 1) := by decide +kernel
theorem dX7_fewestGenerators_2 : decode cX7_fewestGenerators 2 = .ok (.getfield 7, 3) := by decide +kernel
theorem dX7_fewestGenerators_5 : decode cX7_fewestGenerators 5 = .ok (.iconst 0, 1) := by decide +kernel
theorem dX7_fewestGenerators_6 : decode cX7_fewestGenerators 6 = .ok (.iaload, 1) := by decide +kernel
theorem dX7_fewestGenerators_7 : decode cX7_fewestGenerators 7 = .ok (.ishl, 1) := by decide +kernel
theorem dX7_fewestGenerators_8 : decode cX7_fewestGenerators 8 = .ok (.iconst 1, 1) := by decide +kernel
theorem dX7_fewestGenerators_9 : decode cX7_fewestGenerators 9 = .ok (.isub, 1) := by decide +kernel
theorem dX7_fewestGenerators_10 : decode cX7_fewestGenerators 10 = .ok (.istore_n 1, 1) := by decide +kernel
theorem dX7_fewestGenerators_11 : decode cX7_fewestGenerators 11 = .ok (.aload_n 0, 1) := by decide +kernel
theorem dX7_fewestGenerators_12 : decode cX7_fewestGenerators 12 = .ok (.getfield 7, 3) := by decide +kernel
theorem dX7_fewestGenerators_15 : decode cX7_fewestGenerators 15 = .ok (.iconst 0, 1) := by decide +kernel
theorem dX7_fewestGenerators_16 : decode cX7_fewestGenerators 16 = .ok (.iaload, 1) := by decide +kernel
theorem dX7_fewestGenerators_17 : decode cX7_fewestGenerators 17 = .ok (.istore_n 2, 1) := by decide +kernel
theorem dX7_fewestGenerators_18 : decode cX7_fewestGenerators 18 = .ok (.iconst 1, 1) := by decide +kernel
theorem dX7_fewestGenerators_19 : decode cX7_fewestGenerators 19 = .ok (.istore_n 3, 1) := by decide +kernel
theorem dX7_fewestGenerators_20 : decode cX7_fewestGenerators 20 = .ok (.iload_n 3, 1) := by decide +kernel
theorem dX7_fewestGenerators_21 : decode cX7_fewestGenerators 21 = .ok (.iload_n 1, 1) := by decide +kernel
theorem dX7_fewestGenerators_22 : decode cX7_fewestGenerators 22 = .ok (.if_icmp .gt 35, 3) := by decide +kernel
theorem dX7_fewestGenerators_25 : decode cX7_fewestGenerators 25 = .ok (.iload_n 3, 1) := by decide +kernel
theorem dX7_fewestGenerators_26 : decode cX7_fewestGenerators 26 = .ok (.invokestatic 71, 3) := by decide +kernel
theorem dX7_fewestGenerators_29 : decode cX7_fewestGenerators 29 = .ok (.iload_n 2, 1) := by decide +kernel
theorem dX7_fewestGenerators_30 : decode cX7_fewestGenerators 30 = .ok (.if_icmp .ge 19, 3) := by decide +kernel
theorem dX7_fewestGenerators_33 : decode cX7_fewestGenerators 33 = .ok (.aload_n 0, 1) := by decide +kernel
theorem dX7_fewestGenerators_34 : decode cX7_fewestGenerators 34 = .ok (.iload_n 3, 1) := by decide +kernel
theorem dX7_fewestGenerators_35 : decode cX7_fewestGenerators 35 = .ok (.invokevirtual 106, 3) := by decide +kernel
theorem dX7_fewestGenerators_38 : decode cX7_fewestGenerators 38 = .ok (.iload_n 1, 1) := by decide +kernel
theorem dX7_fewestGenerators_39 : decode cX7_fewestGenerators 39 = .ok (.if_icmp .ne 10, 3) := by decide +kernel
theorem dX7_fewestGenerators_42 : decode cX7_fewestGenerators 42 = .ok (.iload_n 3, 1) := by decide +kernel
theorem dX7_fewestGenerators_43 : decode cX7_fewestGenerators 43 = .ok (.invokestatic 71, 3) := by decide +kernel
theorem dX7_fewestGenerators_46 : decode cX7_fewestGenerators 46 = .ok (.goto 4, 3) := by decide +kernel
theorem dX7_fewestGenerators_49 : decode cX7_fewestGenerators 49 = .ok (.iload_n 2, 1) := by decide +kernel
theorem dX7_fewestGenerators_50 : decode cX7_fewestGenerators 50 = .ok (.istore_n 2, 1) := by decide +kernel
theorem dX7_fewestGenerators_51 : decode cX7_fewestGenerators 51 = .ok (.iinc 3 1, 3) := by decide +kernel
theorem dX7_fewestGenerators_54 : decode cX7_fewestGenerators 54 = .ok (.goto (-34), 3) := by decide +kernel
theorem dX7_fewestGenerators_57 : decode cX7_fewestGenerators 57 = .ok (.iload_n 2, 1) := by decide +kernel
theorem dX7_fewestGenerators_58 : decode cX7_fewestGenerators 58 = .ok (.ireturn, 1) := by decide +kernel
theorem dX7_generators_0 : decode cX7_generators 0 = .ok (.aload_n 0, 1) := by decide +kernel
theorem dX7_generators_1 : decode cX7_generators 1 = .ok (.invokevirtual 109, 3) := by decide +kernel
theorem dX7_generators_4 : decode cX7_generators 4 = .ok (.ireturn, 1) := by decide +kernel
theorem dX7_translationOrder_0 : decode cX7_translationOrder 0 = .ok (.aload_n 0, 1) := by decide +kernel
theorem dX7_translationOrder_1 : decode cX7_translationOrder 1 = .ok (.iload_n 1, 1) := by decide +kernel
theorem dX7_translationOrder_2 : decode cX7_translationOrder 2 = .ok (.invokevirtual 63, 3) := by decide +kernel
theorem dX7_translationOrder_5 : decode cX7_translationOrder 5 = .ok (.ifCond .ne 5, 3) := by decide +kernel
theorem dX7_translationOrder_8 : decode cX7_translationOrder 8 = .ok (.iconst (-1), 1) := by decide +kernel
theorem dX7_translationOrder_9 : decode cX7_translationOrder 9 = .ok (.ireturn, 1) := by decide +kernel
theorem dX7_translationOrder_10 : decode cX7_translationOrder 10 = .ok (.aload_n 0, 1) := by decide +kernel
theorem dX7_translationOrder_11 : decode cX7_translationOrder 11 = .ok (.iload_n 1, 1) := by decide +kernel
theorem dX7_translationOrder_12 : decode cX7_translationOrder 12 = .ok (.invokevirtual 74, 3) := by decide +kernel
theorem dX7_translationOrder_15 : decode cX7_translationOrder 15 = .ok (.ifCond .ne 6, 3) := by decide +kernel
theorem dX7_translationOrder_18 : decode cX7_translationOrder 18 = .ok (.bipush (-6), 2) := by decide +kernel
theorem dX7_translationOrder_20 : decode cX7_translationOrder 20 = .ok (.ireturn, 1) := by decide +kernel
theorem dX7_translationOrder_21 : decode cX7_translationOrder 21 = .ok (.iconst 0, 1) := by decide +kernel
theorem dX7_translationOrder_22 : decode cX7_translationOrder 22 = .ok (.istore_n 2, 1) := by decide +kernel
theorem dX7_translationOrder_23 : decode cX7_translationOrder 23 = .ok (.iload_n 2, 1) := by decide +kernel
theorem dX7_translationOrder_24 : decode cX7_translationOrder 24 = .ok (.aload_n 0, 1) := by decide +kernel
theorem dX7_translationOrder_25 : decode cX7_translationOrder 25 = .ok (.getfield 7, 3) := by decide +kernel
theorem dX7_translationOrder_28 : decode cX7_translationOrder 28 = .ok (.iconst 0, 1) := by decide +kernel
theorem dX7_translationOrder_29 : decode cX7_translationOrder 29 = .ok (.iaload, 1) := by decide +kernel
theorem dX7_translationOrder_30 : decode cX7_translationOrder 30 = .ok (.if_icmp .ge 16, 3) := by decide +kernel
theorem dX7_translationOrder_33 : decode cX7_translationOrder 33 = .ok (.aload_n 0, 1) := by decide +kernel
theorem dX7_translationOrder_34 : decode cX7_translationOrder 34 = .ok (.getfield 22, 3) := by decide +kernel
theorem dX7_translationOrder_37 : decode cX7_translationOrder 37 = .ok (.iload_n 2, 1) := by decide +kernel
theorem dX7_translationOrder_38 : decode cX7_translationOrder 38 = .ok (.iload_n 2, 1) := by decide +kernel
theorem dX7_translationOrder_39 : decode cX7_translationOrder 39 = .ok (.iastore, 1) := by decide +kernel
theorem dX7_translationOrder_40 : decode cX7_translationOrder 40 = .ok (.iinc 2 1, 3) := by decide +kernel
theorem dX7_translationOrder_43 : decode cX7_translationOrder 43 = .ok (.goto (-20), 3) := by decide +kernel
theorem dX7_translationOrder_46 : decode cX7_translationOrder 46 = .ok (.iconst 0, 1) := by decide +kernel
theorem dX7_translationOrder_47 : decode cX7_translationOrder 47 = .ok (.istore_n 2, 1) := by decide +kernel
theorem dX7_translationOrder_48 : decode cX7_translationOrder 48 = .ok (.iconst 1, 1) := by decide +kernel
theorem dX7_translationOrder_49 : decode cX7_translationOrder 49 = .ok (.istore_n 3, 1) := by decide +kernel
theorem dX7_translationOrder_50 : decode cX7_translationOrder 50 = .ok (.iload_n 3, 1) := by decide +kernel
theorem dX7_translationOrder_51 : decode cX7_translationOrder 51 = .ok (.ifCond .eq 72, 3) := by decide +kernel
theorem dX7_translationOrder_54 : decode cX7_translationOrder 54 = .ok (.iinc 2 1, 3) := by decide +kernel
theorem dX7_translationOrder_57 : decode cX7_translationOrder 57 = .ok (.iconst 0, 1) := by decide +kernel
theorem dX7_translationOrder_58 : decode cX7_translationOrder 58 = .ok (.istore_n 3, 1) := by decide +kernel
theorem dX7_translationOrder_59 : decode cX7_translationOrder 59 = .ok (.iconst 0, 1) := by decide +kernel
theorem dX7_translationOrder_60 : decode cX7_translationOrder 60 = .ok (.istore 4, 2) := by decide +kernel
theorem dX7_translationOrder_62 : decode cX7_translationOrder 62 = .ok (.iload 4, 2) := by decide +kernel
theorem dX7_translationOrder_64 : decode cX7_translationOrder 64 = .ok (.aload_n 0, 1) := by decide +kernel
theorem dX7_translationOrder_65 : decode cX7_translationOrder 65 = .ok (.getfield 7, 3) := by decide +kernel
theorem dX7_translationOrder_68 : decode cX7_translationOrder 68 = .ok (.iconst 0, 1) := by decide +kernel
theorem dX7_translationOrder_69 : decode cX7_translationOrder 69 = .ok (.iaload, 1) := by decide +kernel
theorem dX7_translationOrder_70 : decode cX7_translationOrder 70 = .ok (.if_icmp .ge 50, 3) := by decide +kernel
theorem dX7_translationOrder_73 : decode cX7_translationOrder 73 = .ok (.aload_n 0, 1) := by decide +kernel
theorem dX7_translationOrder_74 : decode cX7_translationOrder 74 = .ok (.getfield 22, 3) := by decide +kernel
theorem dX7_translationOrder_77 : decode cX7_translationOrder 77 = .ok (.iload 4, 2) := by decide +kernel
theorem dX7_translationOrder_79 : decode cX7_translationOrder 79 = .ok (.aload_n 0, 1) := by decide +kernel
theorem dX7_translationOrder_80 : decode cX7_translationOrder 80 = .ok (.aload_n 0, 1) := by decide +kernel
theorem dX7_translationOrder_81 : decode cX7_translationOrder 81 = .ok (.getfield 22, 3) := by decide +kernel
theorem dX7_translationOrder_84 : decode cX7_translationOrder 84 = .ok (.iload 4, 2) := by decide +kernel
theorem dX7_translationOrder_86 : decode cX7_translationOrder 86 = .ok (.iaload, 1) := by decide +kernel
theorem dX7_translationOrder_87 : decode cX7_translationOrder 87 = .ok (.iload_n 1, 1) := by decide +kernel
theorem dX7_translationOrder_88 : decode cX7_translationOrder 88 = .ok (.invokevirtual 67, 3) := by decide +kernel
theorem dX7_translationOrder_91 : decode cX7_translationOrder 91 = .ok (.iastore, 1) := by decide +kernel
theorem dX7_translationOrder_92 : decode cX7_translationOrder 92 = .ok (.iload_n 3, 1) := by decide +kernel
theorem dX7_translationOrder_93 : decode cX7_translationOrder 93 = .ok (.ifCond .ne 15, 3) := by decide +kernel
theorem dX7_translationOrder_96 : decode cX7_translationOrder 96 = .ok (.aload_n 0, 1) := by decide +kernel
theorem dX7_translationOrder_97 : decode cX7_translationOrder 97 = .ok (.getfield 22, 3) := by decide +kernel
theorem dX7_translationOrder_100 : decode cX7_translationOrder 100 = .ok (.iload 4, 2) := by decide +kernel
theorem dX7_translationOrder_102 : decode cX7_translationOrder 102 = .ok (.iaload, 1) := by decide +kernel
theorem dX7_translationOrder_103 : decode cX7_translationOrder 103 = .ok (.iload 4, 2) := by decide +kernel
theorem dX7_translationOrder_105 : decode cX7_translationOrder 105 = .ok (.if_icmp .eq 7, 3) := by decide +kernel
theorem dX7_translationOrder_108 : decode cX7_translationOrder 108 = .ok (.iconst 1, 1) := by decide +kernel
theorem dX7_translationOrder_109 : decode cX7_translationOrder 109 = .ok (.goto 4, 3) := by decide +kernel
theorem dX7_translationOrder_112 : decode cX7_translationOrder 112 = .ok (.iconst 0, 1) := by decide +kernel
theorem dX7_translationOrder_113 : decode cX7_translationOrder 113 = .ok (.istore_n 3, 1) := by decide +kernel
theorem dX7_translationOrder_114 : decode cX7_translationOrder 114 = .ok (.iinc 4 1, 3) := by decide +kernel
theorem dX7_translationOrder_117 : decode cX7_translationOrder 117 = .ok (.goto (-55), 3) := by decide +kernel
theorem dX7_translationOrder_120 : decode cX7_translationOrder 120 = .ok (.goto (-70), 3) := by decide +kernel
theorem dX7_translationOrder_123 : decode cX7_translationOrder 123 = .ok (.iload_n 2, 1) := by decide +kernel
theorem dX7_translationOrder_124 : decode cX7_translationOrder 124 = .ok (.ireturn, 1) := by decide +kernel
theorem dX7_differentTranslations_0 : decode cX7_differentTranslations 0 = .ok (.iconst 0, 1) := by decide +kernel
theorem dX7_differentTranslations_1 : decode cX7_differentTranslations 1 = .ok (.istore_n 1, 1) := by decide +kernel
theorem dX7_differentTranslations_2 : decode cX7_differentTranslations 2 = .ok (.iconst 0, 1) := by decide +kernel
theorem dX7_differentTranslations_3 : decode cX7_differentTranslations 3 = .ok (.istore_n 2, 1) := by decide +kernel
theorem dX7_differentTranslations_4 : decode cX7_differentTranslations 4 = .ok (.iload_n 2, 1) := by decide +kernel
theorem dX7_differentTranslations_5 : decode cX7_differentTranslations 5 = .ok (.aload_n 0, 1) := by decide +kernel
theorem dX7_differentTranslations_6 : decode cX7_differentTranslations 6 = .ok (.getfield 7, 3) := by decide +kernel
theorem dX7_differentTranslations_9 : decode cX7_differentTranslations 9 = .ok (.iconst 0, 1) := by decide +kernel
theorem dX7_differentTranslations_10 : decode cX7_differentTranslations 10 = .ok (.iaload, 1) := by decide +kernel
theorem dX7_differentTranslations_11 : decode cX7_differentTranslations 11 = .ok (.if_icmp .ge 106, 3) := by decide +kernel
theorem dX7_differentTranslations_14 : decode cX7_differentTranslations 14 = .ok (.iconst 1, 1) := by decide +kernel
theorem dX7_differentTranslations_15 : decode cX7_differentTranslations 15 = .ok (.istore_n 3, 1) := by decide +kernel
theorem dX7_differentTranslations_16 : decode cX7_differentTranslations 16 = .ok (.iconst 0, 1) := by decide +kernel
theorem dX7_differentTranslations_17 : decode cX7_differentTranslations 17 = .ok (.istore 4, 2) := by decide +kernel
theorem dX7_differentTranslations_19 : decode cX7_differentTranslations 19 = .ok (.iload 4, 2) := by decide +kernel
theorem dX7_differentTranslations_21 : decode cX7_differentTranslations 21 = .ok (.iload_n 2, 1) := by decide +kernel
theorem dX7_differentTranslations_22 : decode cX7_differentTranslations 22 = .ok (.if_icmp .ge 77, 3) := by decide +kernel
theorem dX7_differentTranslations_25 : decode cX7_differentTranslations 25 = .ok (.iconst 1, 1) := by decide +kernel
theorem dX7_differentTranslations_26 : decode cX7_differentTranslations 26 = .ok (.istore 5, 2) := by decide +kernel
theorem dX7_differentTranslations_28 : decode cX7_differentTranslations 28 = .ok (.iconst 0, 1) := by decide +kernel
theorem dX7_differentTranslations_29 : decode cX7_differentTranslations 29 = .ok (.istore 6, 2) := by decide +kernel
theorem dX7_differentTranslations_31 : decode cX7_differentTranslations 31 = .ok (.iload 6, 2) := by decide +kernel
theorem dX7_differentTranslations_33 : decode cX7_differentTranslations 33 = .ok (.aload_n 0, 1) := by decide +kernel
theorem dX7_differentTranslations_34 : decode cX7_differentTranslations 34 = .ok (.getfield 7, 3) := by decide +kernel
theorem dX7_differentTranslations_37 : decode cX7_differentTranslations 37 = .ok (.iconst 0, 1) := by decide +kernel
theorem dX7_differentTranslations_38 : decode cX7_differentTranslations 38 = .ok (.iaload, 1) := by decide +kernel
theorem dX7_differentTranslations_39 : decode cX7_differentTranslations 39 = .ok (.if_icmp .ge 39, 3) := by decide +kernel
theorem dX7_differentTranslations_42 : decode cX7_differentTranslations 42 = .ok (.iload 5, 2) := by decide +kernel
theorem dX7_differentTranslations_44 : decode cX7_differentTranslations 44 = .ok (.ifCond .eq 25, 3) := by decide +kernel
theorem dX7_differentTranslations_47 : decode cX7_differentTranslations 47 = .ok (.aload_n 0, 1) := by decide +kernel
theorem dX7_differentTranslations_48 : decode cX7_differentTranslations 48 = .ok (.iload 6, 2) := by decide +kernel
theorem dX7_differentTranslations_50 : decode cX7_differentTranslations 50 = .ok (.iload 4, 2) := by decide +kernel
theorem dX7_differentTranslations_52 : decode cX7_differentTranslations 52 = .ok (.invokevirtual 67, 3) := by decide +kernel
theorem dX7_differentTranslations_55 : decode cX7_differentTranslations 55 = .ok (.aload_n 0, 1) := by decide +kernel
theorem dX7_differentTranslations_56 : decode cX7_differentTranslations 56 = .ok (.iload 6, 2) := by decide +kernel
theorem dX7_differentTranslations_58 : decode cX7_differentTranslations 58 = .ok (.iload_n 2, 1) := by decide +kernel
theorem dX7_differentTranslations_59 : decode cX7_differentTranslations 59 = .ok (.invokevirtual 67, 3) := by decide +kernel
theorem dX7_differentTranslations_62 : decode cX7_differentTranslations 62 = .ok (.if_icmp .ne 7, 3) := by decide +kernel
theorem dX7_differentTranslations_65 : decode cX7_differentTranslations 65 = .ok (.iconst 1, 1) := by decide +kernel
theorem dX7_differentTranslations_66 : decode cX7_differentTranslations 66 = .ok (.goto 4, 3) := by decide +kernel
theorem dX7_differentTranslations_69 : decode cX7_differentTranslations 69 = .ok (.iconst 0, 1) := by decide +kernel
theorem dX7_differentTranslations_70 : decode cX7_differentTranslations 70 = .ok (.istore 5, 2) := by decide +kernel
theorem dX7_differentTranslations_72 : decode cX7_differentTranslations 72 = .ok (.iinc 6 1, 3) := by decide +kernel
theorem dX7_differentTranslations_75 : decode cX7_differentTranslations 75 = .ok (.goto (-44), 3) := by decide +kernel
theorem dX7_differentTranslations_78 : decode cX7_differentTranslations 78 = .ok (.iload_n 3, 1) := by decide +kernel
theorem dX7_differentTranslations_79 : decode cX7_differentTranslations 79 = .ok (.ifCond .eq 12, 3) := by decide +kernel
theorem dX7_differentTranslations_82 : decode cX7_differentTranslations 82 = .ok (.iload 5, 2) := by decide +kernel
theorem dX7_differentTranslations_84 : decode cX7_differentTranslations 84 = .ok (.ifCond .ne 7, 3) := by decide +kernel
theorem dX7_differentTranslations_87 : decode cX7_differentTranslations 87 = .ok (.iconst 1, 1) := by decide +kernel
theorem dX7_differentTranslations_88 : decode cX7_differentTranslations 88 = .ok (.goto 4, 3) := by decide +kernel
theorem dX7_differentTranslations_91 : decode cX7_differentTranslations 91 = .ok (.iconst 0, 1) := by decide +kernel
theorem dX7_differentTranslations_92 : decode cX7_differentTranslations 92 = .ok (.istore_n 3, 1) := by decide +kernel
theorem dX7_differentTranslations_93 : decode cX7_differentTranslations 93 = .ok (.iinc 4 1, 3) := by decide +kernel
theorem dX7_differentTranslations_96 : decode cX7_differentTranslations 96 = .ok (.goto (-77), 3) := by decide +kernel
theorem dX7_differentTranslations_99 : decode cX7_differentTranslations 99 = .ok (.iload_n 1, 1) := by decide +kernel
theorem dX7_differentTranslations_100 : decode cX7_differentTranslations 100 = .ok (.iload_n 3, 1) := by decide +kernel
theorem dX7_differentTranslations_101 : decode cX7_differentTranslations 101 = .ok (.ifCond .eq 7, 3) := by decide +kernel
theorem dX7_differentTranslations_104 : decode cX7_differentTranslations 104 = .ok (.iconst 1, 1) := by decide +kernel
theorem dX7_differentTranslations_105 : decode cX7_differentTranslations 105 = .ok (.goto 4, 3) := by decide +kernel
theorem dX7_differentTranslations_108 : decode cX7_differentTranslations 108 = .ok (.iconst 0, 1) := by decide +kernel
theorem dX7_differentTranslations_109 : decode cX7_differentTranslations 109 = .ok (.iadd, 1) := by decide +kernel
theorem dX7_differentTranslations_110 : decode cX7_differentTranslations 110 = .ok (.istore_n 1, 1) := by decide +kernel
theorem dX7_differentTranslations_111 : decode cX7_differentTranslations 111 = .ok (.iinc 2 1, 3) := by decide +kernel
theorem dX7_differentTranslations_114 : decode cX7_differentTranslations 114 = .ok (.goto (-110), 3) := by decide +kernel
theorem dX7_differentTranslations_117 : decode cX7_differentTranslations 117 = .ok (.iload_n 1, 1) := by decide +kernel
theorem dX7_differentTranslations_118 : decode cX7_differentTranslations 118 = .ok (.ireturn, 1) := by decide +kernel
theorem dX7_translations_0 : decode cX7_translations 0 = .ok (.aload_n 0, 1) := by decide +kernel
theorem dX7_translations_1 : decode cX7_translations 1 = .ok (.invokevirtual 112, 3) := by decide +kernel
theorem dX7_translations_4 : decode cX7_translations 4 = .ok (.ireturn, 1) := by decide +kernel
theorem dX7_unpacks_0 : decode cX7_unpacks 0 = .ok (.iload_n 1, 1) := by decide +kernel
theorem dX7_unpacks_1 : decode cX7_unpacks 1 = .ok (.istore_n 2, 1) := by decide +kernel
theorem dX7_unpacks_2 : decode cX7_unpacks 2 = .ok (.aload_n 0, 1) := by decide +kernel
theorem dX7_unpacks_3 : decode cX7_unpacks 3 = .ok (.getfield 7, 3) := by decide +kernel
theorem dX7_unpacks_6 : decode cX7_unpacks 6 = .ok (.iconst 0, 1) := by decide +kernel
theorem dX7_unpacks_7 : decode cX7_unpacks 7 = .ok (.iaload, 1) := by decide +kernel
theorem dX7_unpacks_8 : decode cX7_unpacks 8 = .ok (.iconst 1, 1) := by decide +kernel
theorem dX7_unpacks_9 : decode cX7_unpacks 9 = .ok (.isub, 1) := by decide +kernel
theorem dX7_unpacks_10 : decode cX7_unpacks 10 = .ok (.istore_n 3, 1) := by decide +kernel
theorem dX7_unpacks_11 : decode cX7_unpacks 11 = .ok (.iload_n 3, 1) := by decide +kernel
theorem dX7_unpacks_12 : decode cX7_unpacks 12 = .ok (.ifCond .lt 24, 3) := by decide +kernel
theorem dX7_unpacks_15 : decode cX7_unpacks 15 = .ok (.aload_n 0, 1) := by decide +kernel
theorem dX7_unpacks_16 : decode cX7_unpacks 16 = .ok (.getfield 22, 3) := by decide +kernel
theorem dX7_unpacks_19 : decode cX7_unpacks 19 = .ok (.iload_n 3, 1) := by decide +kernel
theorem dX7_unpacks_20 : decode cX7_unpacks 20 = .ok (.iload_n 2, 1) := by decide +kernel
theorem dX7_unpacks_21 : decode cX7_unpacks 21 = .ok (.bipush 6, 2) := by decide +kernel
theorem dX7_unpacks_23 : decode cX7_unpacks 23 = .ok (.irem, 1) := by decide +kernel
theorem dX7_unpacks_24 : decode cX7_unpacks 24 = .ok (.iastore, 1) := by decide +kernel
theorem dX7_unpacks_25 : decode cX7_unpacks 25 = .ok (.iload_n 2, 1) := by decide +kernel
theorem dX7_unpacks_26 : decode cX7_unpacks 26 = .ok (.bipush 6, 2) := by decide +kernel
theorem dX7_unpacks_28 : decode cX7_unpacks 28 = .ok (.idiv, 1) := by decide +kernel
theorem dX7_unpacks_29 : decode cX7_unpacks 29 = .ok (.istore_n 2, 1) := by decide +kernel
theorem dX7_unpacks_30 : decode cX7_unpacks 30 = .ok (.iinc 3 (-1), 3) := by decide +kernel
theorem dX7_unpacks_33 : decode cX7_unpacks 33 = .ok (.goto (-22), 3) := by decide +kernel
theorem dX7_unpacks_36 : decode cX7_unpacks 36 = .ok (.return_, 1) := by decide +kernel
theorem dX7_packed_0 : decode cX7_packed 0 = .ok (.iconst 0, 1) := by decide +kernel
theorem dX7_packed_1 : decode cX7_packed 1 = .ok (.istore_n 2, 1) := by decide +kernel
theorem dX7_packed_2 : decode cX7_packed 2 = .ok (.iconst 0, 1) := by decide +kernel
theorem dX7_packed_3 : decode cX7_packed 3 = .ok (.istore_n 3, 1) := by decide +kernel
theorem dX7_packed_4 : decode cX7_packed 4 = .ok (.iload_n 3, 1) := by decide +kernel
theorem dX7_packed_5 : decode cX7_packed 5 = .ok (.aload_n 0, 1) := by decide +kernel
theorem dX7_packed_6 : decode cX7_packed 6 = .ok (.getfield 7, 3) := by decide +kernel
theorem dX7_packed_9 : decode cX7_packed 9 = .ok (.iconst 0, 1) := by decide +kernel
theorem dX7_packed_10 : decode cX7_packed 10 = .ok (.iaload, 1) := by decide +kernel
theorem dX7_packed_11 : decode cX7_packed 11 = .ok (.if_icmp .ge 26, 3) := by decide +kernel
theorem dX7_packed_14 : decode cX7_packed 14 = .ok (.bipush 6, 2) := by decide +kernel
theorem dX7_packed_16 : decode cX7_packed 16 = .ok (.iload_n 2, 1) := by decide +kernel
theorem dX7_packed_17 : decode cX7_packed 17 = .ok (.imul, 1) := by decide +kernel
theorem dX7_packed_18 : decode cX7_packed 18 = .ok (.aload_n 0, 1) := by decide +kernel
theorem dX7_packed_19 : decode cX7_packed 19 = .ok (.aload_n 0, 1) := by decide +kernel
theorem dX7_packed_20 : decode cX7_packed 20 = .ok (.getfield 22, 3) := by decide +kernel
theorem dX7_packed_23 : decode cX7_packed 23 = .ok (.iload_n 3, 1) := by decide +kernel
theorem dX7_packed_24 : decode cX7_packed 24 = .ok (.iaload, 1) := by decide +kernel
theorem dX7_packed_25 : decode cX7_packed 25 = .ok (.iload_n 1, 1) := by decide +kernel
theorem dX7_packed_26 : decode cX7_packed 26 = .ok (.invokevirtual 67, 3) := by decide +kernel
theorem dX7_packed_29 : decode cX7_packed 29 = .ok (.iadd, 1) := by decide +kernel
theorem dX7_packed_30 : decode cX7_packed 30 = .ok (.istore_n 2, 1) := by decide +kernel
theorem dX7_packed_31 : decode cX7_packed 31 = .ok (.iinc 3 1, 3) := by decide +kernel
theorem dX7_packed_34 : decode cX7_packed 34 = .ok (.goto (-30), 3) := by decide +kernel
theorem dX7_packed_37 : decode cX7_packed 37 = .ok (.iload_n 2, 1) := by decide +kernel
theorem dX7_packed_38 : decode cX7_packed 38 = .ok (.ireturn, 1) := by decide +kernel
theorem dX7_keepsFound_0 : decode cX7_keepsFound 0 = .ok (.iconst 1, 1) := by decide +kernel
theorem dX7_keepsFound_1 : decode cX7_keepsFound 1 = .ok (.istore_n 2, 1) := by decide +kernel
theorem dX7_keepsFound_2 : decode cX7_keepsFound 2 = .ok (.iconst 0, 1) := by decide +kernel
theorem dX7_keepsFound_3 : decode cX7_keepsFound 3 = .ok (.istore_n 3, 1) := by decide +kernel
theorem dX7_keepsFound_4 : decode cX7_keepsFound 4 = .ok (.iload_n 3, 1) := by decide +kernel
theorem dX7_keepsFound_5 : decode cX7_keepsFound 5 = .ok (.aload_n 0, 1) := by decide +kernel
theorem dX7_keepsFound_6 : decode cX7_keepsFound 6 = .ok (.getfield 115, 3) := by decide +kernel
theorem dX7_keepsFound_9 : decode cX7_keepsFound 9 = .ok (.if_icmp .ge 29, 3) := by decide +kernel
theorem dX7_keepsFound_12 : decode cX7_keepsFound 12 = .ok (.iload_n 2, 1) := by decide +kernel
theorem dX7_keepsFound_13 : decode cX7_keepsFound 13 = .ok (.ifCond .eq 17, 3) := by decide +kernel
theorem dX7_keepsFound_16 : decode cX7_keepsFound 16 = .ok (.aload_n 0, 1) := by decide +kernel
theorem dX7_keepsFound_17 : decode cX7_keepsFound 17 = .ok (.getfield 19, 3) := by decide +kernel
theorem dX7_keepsFound_20 : decode cX7_keepsFound 20 = .ok (.iload_n 3, 1) := by decide +kernel
theorem dX7_keepsFound_21 : decode cX7_keepsFound 21 = .ok (.iaload, 1) := by decide +kernel
theorem dX7_keepsFound_22 : decode cX7_keepsFound 22 = .ok (.iload_n 1, 1) := by decide +kernel
theorem dX7_keepsFound_23 : decode cX7_keepsFound 23 = .ok (.if_icmp .eq 7, 3) := by decide +kernel
theorem dX7_keepsFound_26 : decode cX7_keepsFound 26 = .ok (.iconst 1, 1) := by decide +kernel
theorem dX7_keepsFound_27 : decode cX7_keepsFound 27 = .ok (.goto 4, 3) := by decide +kernel
theorem dX7_keepsFound_30 : decode cX7_keepsFound 30 = .ok (.iconst 0, 1) := by decide +kernel
theorem dX7_keepsFound_31 : decode cX7_keepsFound 31 = .ok (.istore_n 2, 1) := by decide +kernel
theorem dX7_keepsFound_32 : decode cX7_keepsFound 32 = .ok (.iinc 3 1, 3) := by decide +kernel
theorem dX7_keepsFound_35 : decode cX7_keepsFound 35 = .ok (.goto (-31), 3) := by decide +kernel
theorem dX7_keepsFound_38 : decode cX7_keepsFound 38 = .ok (.iload_n 2, 1) := by decide +kernel
theorem dX7_keepsFound_39 : decode cX7_keepsFound 39 = .ok (.ifCond .eq 23, 3) := by decide +kernel
theorem dX7_keepsFound_42 : decode cX7_keepsFound 42 = .ok (.aload_n 0, 1) := by decide +kernel
theorem dX7_keepsFound_43 : decode cX7_keepsFound 43 = .ok (.getfield 19, 3) := by decide +kernel
theorem dX7_keepsFound_46 : decode cX7_keepsFound 46 = .ok (.aload_n 0, 1) := by decide +kernel
theorem dX7_keepsFound_47 : decode cX7_keepsFound 47 = .ok (.getfield 115, 3) := by decide +kernel
theorem dX7_keepsFound_50 : decode cX7_keepsFound 50 = .ok (.iload_n 1, 1) := by decide +kernel
theorem dX7_keepsFound_51 : decode cX7_keepsFound 51 = .ok (.iastore, 1) := by decide +kernel
theorem dX7_keepsFound_52 : decode cX7_keepsFound 52 = .ok (.aload_n 0, 1) := by decide +kernel
theorem dX7_keepsFound_53 : decode cX7_keepsFound 53 = .ok (.dup, 1) := by decide +kernel
theorem dX7_keepsFound_54 : decode cX7_keepsFound 54 = .ok (.getfield 115, 3) := by decide +kernel
theorem dX7_keepsFound_57 : decode cX7_keepsFound 57 = .ok (.iconst 1, 1) := by decide +kernel
theorem dX7_keepsFound_58 : decode cX7_keepsFound 58 = .ok (.iadd, 1) := by decide +kernel
theorem dX7_keepsFound_59 : decode cX7_keepsFound 59 = .ok (.putfield 115, 3) := by decide +kernel
theorem dX7_keepsFound_62 : decode cX7_keepsFound 62 = .ok (.return_, 1) := by decide +kernel
theorem dX7_groupSize_0 : decode cX7_groupSize 0 = .ok (.aload_n 0, 1) := by decide +kernel
theorem dX7_groupSize_1 : decode cX7_groupSize 1 = .ok (.invokevirtual 81, 3) := by decide +kernel
theorem dX7_groupSize_4 : decode cX7_groupSize 4 = .ok (.bipush (-6), 2) := by decide +kernel
theorem dX7_groupSize_6 : decode cX7_groupSize 6 = .ok (.if_icmp .eq 6, 3) := by decide +kernel
theorem dX7_groupSize_9 : decode cX7_groupSize 9 = .ok (.bipush (-6), 2) := by decide +kernel
theorem dX7_groupSize_11 : decode cX7_groupSize 11 = .ok (.ireturn, 1) := by decide +kernel
theorem dX7_groupSize_12 : decode cX7_groupSize 12 = .ok (.iconst 0, 1) := by decide +kernel
theorem dX7_groupSize_13 : decode cX7_groupSize 13 = .ok (.istore_n 1, 1) := by decide +kernel
theorem dX7_groupSize_14 : decode cX7_groupSize 14 = .ok (.iconst 0, 1) := by decide +kernel
theorem dX7_groupSize_15 : decode cX7_groupSize 15 = .ok (.istore_n 2, 1) := by decide +kernel
theorem dX7_groupSize_16 : decode cX7_groupSize 16 = .ok (.iload_n 2, 1) := by decide +kernel
theorem dX7_groupSize_17 : decode cX7_groupSize 17 = .ok (.aload_n 0, 1) := by decide +kernel
theorem dX7_groupSize_18 : decode cX7_groupSize 18 = .ok (.getfield 7, 3) := by decide +kernel
theorem dX7_groupSize_21 : decode cX7_groupSize 21 = .ok (.iconst 0, 1) := by decide +kernel
theorem dX7_groupSize_22 : decode cX7_groupSize 22 = .ok (.iaload, 1) := by decide +kernel
theorem dX7_groupSize_23 : decode cX7_groupSize 23 = .ok (.if_icmp .ge 16, 3) := by decide +kernel
theorem dX7_groupSize_26 : decode cX7_groupSize 26 = .ok (.bipush 6, 2) := by decide +kernel
theorem dX7_groupSize_28 : decode cX7_groupSize 28 = .ok (.iload_n 1, 1) := by decide +kernel
theorem dX7_groupSize_29 : decode cX7_groupSize 29 = .ok (.imul, 1) := by decide +kernel
theorem dX7_groupSize_30 : decode cX7_groupSize 30 = .ok (.iload_n 2, 1) := by decide +kernel
theorem dX7_groupSize_31 : decode cX7_groupSize 31 = .ok (.iadd, 1) := by decide +kernel
theorem dX7_groupSize_32 : decode cX7_groupSize 32 = .ok (.istore_n 1, 1) := by decide +kernel
theorem dX7_groupSize_33 : decode cX7_groupSize 33 = .ok (.iinc 2 1, 3) := by decide +kernel
theorem dX7_groupSize_36 : decode cX7_groupSize 36 = .ok (.goto (-20), 3) := by decide +kernel
theorem dX7_groupSize_39 : decode cX7_groupSize 39 = .ok (.aload_n 0, 1) := by decide +kernel
theorem dX7_groupSize_40 : decode cX7_groupSize 40 = .ok (.iconst 0, 1) := by decide +kernel
theorem dX7_groupSize_41 : decode cX7_groupSize 41 = .ok (.putfield 115, 3) := by decide +kernel
theorem dX7_groupSize_44 : decode cX7_groupSize 44 = .ok (.aload_n 0, 1) := by decide +kernel
theorem dX7_groupSize_45 : decode cX7_groupSize 45 = .ok (.iload_n 1, 1) := by decide +kernel
theorem dX7_groupSize_46 : decode cX7_groupSize 46 = .ok (.invokevirtual 118, 3) := by decide +kernel
theorem dX7_groupSize_49 : decode cX7_groupSize 49 = .ok (.iconst 0, 1) := by decide +kernel
theorem dX7_groupSize_50 : decode cX7_groupSize 50 = .ok (.istore_n 2, 1) := by decide +kernel
theorem dX7_groupSize_51 : decode cX7_groupSize 51 = .ok (.iload_n 2, 1) := by decide +kernel
theorem dX7_groupSize_52 : decode cX7_groupSize 52 = .ok (.aload_n 0, 1) := by decide +kernel
theorem dX7_groupSize_53 : decode cX7_groupSize 53 = .ok (.getfield 115, 3) := by decide +kernel
theorem dX7_groupSize_56 : decode cX7_groupSize 56 = .ok (.if_icmp .ge 46, 3) := by decide +kernel
theorem dX7_groupSize_59 : decode cX7_groupSize 59 = .ok (.iconst 0, 1) := by decide +kernel
theorem dX7_groupSize_60 : decode cX7_groupSize 60 = .ok (.istore_n 3, 1) := by decide +kernel
theorem dX7_groupSize_61 : decode cX7_groupSize 61 = .ok (.iload_n 3, 1) := by decide +kernel
theorem dX7_groupSize_62 : decode cX7_groupSize 62 = .ok (.aload_n 0, 1) := by decide +kernel
theorem dX7_groupSize_63 : decode cX7_groupSize 63 = .ok (.getfield 7, 3) := by decide +kernel
theorem dX7_groupSize_66 : decode cX7_groupSize 66 = .ok (.iconst 0, 1) := by decide +kernel
theorem dX7_groupSize_67 : decode cX7_groupSize 67 = .ok (.iaload, 1) := by decide +kernel
theorem dX7_groupSize_68 : decode cX7_groupSize 68 = .ok (.if_icmp .ge 28, 3) := by decide +kernel
theorem dX7_groupSize_71 : decode cX7_groupSize 71 = .ok (.aload_n 0, 1) := by decide +kernel
theorem dX7_groupSize_72 : decode cX7_groupSize 72 = .ok (.aload_n 0, 1) := by decide +kernel
theorem dX7_groupSize_73 : decode cX7_groupSize 73 = .ok (.getfield 19, 3) := by decide +kernel
theorem dX7_groupSize_76 : decode cX7_groupSize 76 = .ok (.iload_n 2, 1) := by decide +kernel
theorem dX7_groupSize_77 : decode cX7_groupSize 77 = .ok (.iaload, 1) := by decide +kernel
theorem dX7_groupSize_78 : decode cX7_groupSize 78 = .ok (.invokevirtual 121, 3) := by decide +kernel
theorem dX7_groupSize_81 : decode cX7_groupSize 81 = .ok (.aload_n 0, 1) := by decide +kernel
theorem dX7_groupSize_82 : decode cX7_groupSize 82 = .ok (.aload_n 0, 1) := by decide +kernel
theorem dX7_groupSize_83 : decode cX7_groupSize 83 = .ok (.iload_n 3, 1) := by decide +kernel
theorem dX7_groupSize_84 : decode cX7_groupSize 84 = .ok (.invokevirtual 124, 3) := by decide +kernel
theorem dX7_groupSize_87 : decode cX7_groupSize 87 = .ok (.invokevirtual 118, 3) := by decide +kernel
theorem dX7_groupSize_90 : decode cX7_groupSize 90 = .ok (.iinc 3 1, 3) := by decide +kernel
theorem dX7_groupSize_93 : decode cX7_groupSize 93 = .ok (.goto (-32), 3) := by decide +kernel
theorem dX7_groupSize_96 : decode cX7_groupSize 96 = .ok (.iinc 2 1, 3) := by decide +kernel
theorem dX7_groupSize_99 : decode cX7_groupSize 99 = .ok (.goto (-48), 3) := by decide +kernel
theorem dX7_groupSize_102 : decode cX7_groupSize 102 = .ok (.aload_n 0, 1) := by decide +kernel
theorem dX7_groupSize_103 : decode cX7_groupSize 103 = .ok (.getfield 115, 3) := by decide +kernel
theorem dX7_groupSize_106 : decode cX7_groupSize 106 = .ok (.ireturn, 1) := by decide +kernel
theorem dX7_innerGroup_0 : decode cX7_innerGroup 0 = .ok (.aload_n 0, 1) := by decide +kernel
theorem dX7_innerGroup_1 : decode cX7_innerGroup 1 = .ok (.invokevirtual 127, 3) := by decide +kernel
theorem dX7_innerGroup_4 : decode cX7_innerGroup 4 = .ok (.ireturn, 1) := by decide +kernel
theorem dX7_isAutomorphism_0 : decode cX7_isAutomorphism 0 = .ok (.iconst 0, 1) := by decide +kernel
theorem dX7_isAutomorphism_1 : decode cX7_isAutomorphism 1 = .ok (.istore_n 1, 1) := by decide +kernel
theorem dX7_isAutomorphism_2 : decode cX7_isAutomorphism 2 = .ok (.iconst 0, 1) := by decide +kernel
theorem dX7_isAutomorphism_3 : decode cX7_isAutomorphism 3 = .ok (.istore_n 2, 1) := by decide +kernel
theorem dX7_isAutomorphism_4 : decode cX7_isAutomorphism 4 = .ok (.iload_n 2, 1) := by decide +kernel
theorem dX7_isAutomorphism_5 : decode cX7_isAutomorphism 5 = .ok (.aload_n 0, 1) := by decide +kernel
theorem dX7_isAutomorphism_6 : decode cX7_isAutomorphism 6 = .ok (.getfield 7, 3) := by decide +kernel
theorem dX7_isAutomorphism_9 : decode cX7_isAutomorphism 9 = .ok (.iconst 0, 1) := by decide +kernel
theorem dX7_isAutomorphism_10 : decode cX7_isAutomorphism 10 = .ok (.iaload, 1) := by decide +kernel
theorem dX7_isAutomorphism_11 : decode cX7_isAutomorphism 11 = .ok (.if_icmp .ge 20, 3) := by decide +kernel
theorem dX7_isAutomorphism_14 : decode cX7_isAutomorphism 14 = .ok (.iload_n 1, 1) := by decide +kernel
theorem dX7_isAutomorphism_15 : decode cX7_isAutomorphism 15 = .ok (.iconst 1, 1) := by decide +kernel
theorem dX7_isAutomorphism_16 : decode cX7_isAutomorphism 16 = .ok (.aload_n 0, 1) := by decide +kernel
theorem dX7_isAutomorphism_17 : decode cX7_isAutomorphism 17 = .ok (.getfield 22, 3) := by decide +kernel
theorem dX7_isAutomorphism_20 : decode cX7_isAutomorphism 20 = .ok (.iload_n 2, 1) := by decide +kernel
theorem dX7_isAutomorphism_21 : decode cX7_isAutomorphism 21 = .ok (.iaload, 1) := by decide +kernel
theorem dX7_isAutomorphism_22 : decode cX7_isAutomorphism 22 = .ok (.ishl, 1) := by decide +kernel
theorem dX7_isAutomorphism_23 : decode cX7_isAutomorphism 23 = .ok (.ior, 1) := by decide +kernel
theorem dX7_isAutomorphism_24 : decode cX7_isAutomorphism 24 = .ok (.istore_n 1, 1) := by decide +kernel
theorem dX7_isAutomorphism_25 : decode cX7_isAutomorphism 25 = .ok (.iinc 2 1, 3) := by decide +kernel
theorem dX7_isAutomorphism_28 : decode cX7_isAutomorphism 28 = .ok (.goto (-24), 3) := by decide +kernel
theorem dX7_isAutomorphism_31 : decode cX7_isAutomorphism 31 = .ok (.iload_n 1, 1) := by decide +kernel
theorem dX7_isAutomorphism_32 : decode cX7_isAutomorphism 32 = .ok (.iconst 1, 1) := by decide +kernel
theorem dX7_isAutomorphism_33 : decode cX7_isAutomorphism 33 = .ok (.aload_n 0, 1) := by decide +kernel
theorem dX7_isAutomorphism_34 : decode cX7_isAutomorphism 34 = .ok (.getfield 7, 3) := by decide +kernel
theorem dX7_isAutomorphism_37 : decode cX7_isAutomorphism 37 = .ok (.iconst 0, 1) := by decide +kernel
theorem dX7_isAutomorphism_38 : decode cX7_isAutomorphism 38 = .ok (.iaload, 1) := by decide +kernel
theorem dX7_isAutomorphism_39 : decode cX7_isAutomorphism 39 = .ok (.ishl, 1) := by decide +kernel
theorem dX7_isAutomorphism_40 : decode cX7_isAutomorphism 40 = .ok (.iconst 1, 1) := by decide +kernel
theorem dX7_isAutomorphism_41 : decode cX7_isAutomorphism 41 = .ok (.isub, 1) := by decide +kernel
theorem dX7_isAutomorphism_42 : decode cX7_isAutomorphism 42 = .ok (.if_icmp .ne 7, 3) := by decide +kernel
theorem dX7_isAutomorphism_45 : decode cX7_isAutomorphism 45 = .ok (.iconst 1, 1) := by decide +kernel
theorem dX7_isAutomorphism_46 : decode cX7_isAutomorphism 46 = .ok (.goto 4, 3) := by decide +kernel
theorem dX7_isAutomorphism_49 : decode cX7_isAutomorphism 49 = .ok (.iconst 0, 1) := by decide +kernel
theorem dX7_isAutomorphism_50 : decode cX7_isAutomorphism 50 = .ok (.istore_n 2, 1) := by decide +kernel
theorem dX7_isAutomorphism_51 : decode cX7_isAutomorphism 51 = .ok (.iconst 0, 1) := by decide +kernel
theorem dX7_isAutomorphism_52 : decode cX7_isAutomorphism 52 = .ok (.istore_n 3, 1) := by decide +kernel
theorem dX7_isAutomorphism_53 : decode cX7_isAutomorphism 53 = .ok (.iload_n 3, 1) := by decide +kernel
theorem dX7_isAutomorphism_54 : decode cX7_isAutomorphism 54 = .ok (.aload_n 0, 1) := by decide +kernel
theorem dX7_isAutomorphism_55 : decode cX7_isAutomorphism 55 = .ok (.getfield 7, 3) := by decide +kernel
theorem dX7_isAutomorphism_58 : decode cX7_isAutomorphism 58 = .ok (.iconst 0, 1) := by decide +kernel
theorem dX7_isAutomorphism_59 : decode cX7_isAutomorphism 59 = .ok (.iaload, 1) := by decide +kernel
theorem dX7_isAutomorphism_60 : decode cX7_isAutomorphism 60 = .ok (.if_icmp .ge 75, 3) := by decide +kernel
theorem dX7_isAutomorphism_63 : decode cX7_isAutomorphism 63 = .ok (.iload_n 2, 1) := by decide +kernel
theorem dX7_isAutomorphism_64 : decode cX7_isAutomorphism 64 = .ok (.ifCond .eq 71, 3) := by decide +kernel
theorem dX7_isAutomorphism_67 : decode cX7_isAutomorphism 67 = .ok (.iconst 0, 1) := by decide +kernel
theorem dX7_isAutomorphism_68 : decode cX7_isAutomorphism 68 = .ok (.istore 4, 2) := by decide +kernel
theorem dX7_isAutomorphism_70 : decode cX7_isAutomorphism 70 = .ok (.iload 4, 2) := by decide +kernel
theorem dX7_isAutomorphism_72 : decode cX7_isAutomorphism 72 = .ok (.aload_n 0, 1) := by decide +kernel
theorem dX7_isAutomorphism_73 : decode cX7_isAutomorphism 73 = .ok (.getfield 7, 3) := by decide +kernel
theorem dX7_isAutomorphism_76 : decode cX7_isAutomorphism 76 = .ok (.iconst 0, 1) := by decide +kernel
theorem dX7_isAutomorphism_77 : decode cX7_isAutomorphism 77 = .ok (.iaload, 1) := by decide +kernel
theorem dX7_isAutomorphism_78 : decode cX7_isAutomorphism 78 = .ok (.if_icmp .ge 51, 3) := by decide +kernel
theorem dX7_isAutomorphism_81 : decode cX7_isAutomorphism 81 = .ok (.iload_n 2, 1) := by decide +kernel
theorem dX7_isAutomorphism_82 : decode cX7_isAutomorphism 82 = .ok (.ifCond .eq 39, 3) := by decide +kernel
theorem dX7_isAutomorphism_85 : decode cX7_isAutomorphism 85 = .ok (.aload_n 0, 1) := by decide +kernel
theorem dX7_isAutomorphism_86 : decode cX7_isAutomorphism 86 = .ok (.getfield 22, 3) := by decide +kernel
theorem dX7_isAutomorphism_89 : decode cX7_isAutomorphism 89 = .ok (.aload_n 0, 1) := by decide +kernel
theorem dX7_isAutomorphism_90 : decode cX7_isAutomorphism 90 = .ok (.iload_n 3, 1) := by decide +kernel
theorem dX7_isAutomorphism_91 : decode cX7_isAutomorphism 91 = .ok (.iload 4, 2) := by decide +kernel
theorem dX7_isAutomorphism_93 : decode cX7_isAutomorphism 93 = .ok (.invokevirtual 67, 3) := by decide +kernel
theorem dX7_isAutomorphism_96 : decode cX7_isAutomorphism 96 = .ok (.iaload, 1) := by decide +kernel
theorem dX7_isAutomorphism_97 : decode cX7_isAutomorphism 97 = .ok (.aload_n 0, 1) := by decide +kernel
theorem dX7_isAutomorphism_98 : decode cX7_isAutomorphism 98 = .ok (.aload_n 0, 1) := by decide +kernel
theorem dX7_isAutomorphism_99 : decode cX7_isAutomorphism 99 = .ok (.getfield 22, 3) := by decide +kernel
theorem dX7_isAutomorphism_102 : decode cX7_isAutomorphism 102 = .ok (.iload_n 3, 1) := by decide +kernel
theorem dX7_isAutomorphism_103 : decode cX7_isAutomorphism 103 = .ok (.iaload, 1) := by decide +kernel
theorem dX7_isAutomorphism_104 : decode cX7_isAutomorphism 104 = .ok (.aload_n 0, 1) := by decide +kernel
theorem dX7_isAutomorphism_105 : decode cX7_isAutomorphism 105 = .ok (.getfield 22, 3) := by decide +kernel
theorem dX7_isAutomorphism_108 : decode cX7_isAutomorphism 108 = .ok (.iload 4, 2) := by decide +kernel
theorem dX7_isAutomorphism_110 : decode cX7_isAutomorphism 110 = .ok (.iaload, 1) := by decide +kernel
theorem dX7_isAutomorphism_111 : decode cX7_isAutomorphism 111 = .ok (.invokevirtual 67, 3) := by decide +kernel
theorem dX7_isAutomorphism_114 : decode cX7_isAutomorphism 114 = .ok (.if_icmp .ne 7, 3) := by decide +kernel
theorem dX7_isAutomorphism_117 : decode cX7_isAutomorphism 117 = .ok (.iconst 1, 1) := by decide +kernel
theorem dX7_isAutomorphism_118 : decode cX7_isAutomorphism 118 = .ok (.goto 4, 3) := by decide +kernel
theorem dX7_isAutomorphism_121 : decode cX7_isAutomorphism 121 = .ok (.iconst 0, 1) := by decide +kernel
theorem dX7_isAutomorphism_122 : decode cX7_isAutomorphism 122 = .ok (.istore_n 2, 1) := by decide +kernel
theorem dX7_isAutomorphism_123 : decode cX7_isAutomorphism 123 = .ok (.iinc 4 1, 3) := by decide +kernel
theorem dX7_isAutomorphism_126 : decode cX7_isAutomorphism 126 = .ok (.goto (-56), 3) := by decide +kernel
theorem dX7_isAutomorphism_129 : decode cX7_isAutomorphism 129 = .ok (.iinc 3 1, 3) := by decide +kernel
theorem dX7_isAutomorphism_132 : decode cX7_isAutomorphism 132 = .ok (.goto (-79), 3) := by decide +kernel
theorem dX7_isAutomorphism_135 : decode cX7_isAutomorphism 135 = .ok (.iload_n 2, 1) := by decide +kernel
theorem dX7_isAutomorphism_136 : decode cX7_isAutomorphism 136 = .ok (.ireturn, 1) := by decide +kernel
theorem dX7_automorphismsMany_0 : decode cX7_automorphismsMany 0 = .ok (.iconst 1, 1) := by decide +kernel
theorem dX7_automorphismsMany_1 : decode cX7_automorphismsMany 1 = .ok (.istore_n 1, 1) := by decide +kernel
theorem dX7_automorphismsMany_2 : decode cX7_automorphismsMany 2 = .ok (.iconst 0, 1) := by decide +kernel
theorem dX7_automorphismsMany_3 : decode cX7_automorphismsMany 3 = .ok (.istore_n 2, 1) := by decide +kernel
theorem dX7_automorphismsMany_4 : decode cX7_automorphismsMany 4 = .ok (.iload_n 2, 1) := by decide +kernel
theorem dX7_automorphismsMany_5 : decode cX7_automorphismsMany 5 = .ok (.aload_n 0, 1) := by decide +kernel
theorem dX7_automorphismsMany_6 : decode cX7_automorphismsMany 6 = .ok (.getfield 7, 3) := by decide +kernel
theorem dX7_automorphismsMany_9 : decode cX7_automorphismsMany 9 = .ok (.iconst 0, 1) := by decide +kernel
theorem dX7_automorphismsMany_10 : decode cX7_automorphismsMany 10 = .ok (.iaload, 1) := by decide +kernel
theorem dX7_automorphismsMany_11 : decode cX7_automorphismsMany 11 = .ok (.if_icmp .ge 14, 3) := by decide +kernel
theorem dX7_automorphismsMany_14 : decode cX7_automorphismsMany 14 = .ok (.iload_n 1, 1) := by decide +kernel
theorem dX7_automorphismsMany_15 : decode cX7_automorphismsMany 15 = .ok (.bipush 6, 2) := by decide +kernel
theorem dX7_automorphismsMany_17 : decode cX7_automorphismsMany 17 = .ok (.imul, 1) := by decide +kernel
theorem dX7_automorphismsMany_18 : decode cX7_automorphismsMany 18 = .ok (.istore_n 1, 1) := by decide +kernel
theorem dX7_automorphismsMany_19 : decode cX7_automorphismsMany 19 = .ok (.iinc 2 1, 3) := by decide +kernel
theorem dX7_automorphismsMany_22 : decode cX7_automorphismsMany 22 = .ok (.goto (-18), 3) := by decide +kernel
theorem dX7_automorphismsMany_25 : decode cX7_automorphismsMany 25 = .ok (.iconst 0, 1) := by decide +kernel
theorem dX7_automorphismsMany_26 : decode cX7_automorphismsMany 26 = .ok (.istore_n 2, 1) := by decide +kernel
theorem dX7_automorphismsMany_27 : decode cX7_automorphismsMany 27 = .ok (.iconst 0, 1) := by decide +kernel
theorem dX7_automorphismsMany_28 : decode cX7_automorphismsMany 28 = .ok (.istore_n 3, 1) := by decide +kernel
theorem dX7_automorphismsMany_29 : decode cX7_automorphismsMany 29 = .ok (.iload_n 3, 1) := by decide +kernel
theorem dX7_automorphismsMany_30 : decode cX7_automorphismsMany 30 = .ok (.iload_n 1, 1) := by decide +kernel
theorem dX7_automorphismsMany_31 : decode cX7_automorphismsMany 31 = .ok (.if_icmp .ge 29, 3) := by decide +kernel
theorem dX7_automorphismsMany_34 : decode cX7_automorphismsMany 34 = .ok (.aload_n 0, 1) := by decide +kernel
theorem dX7_automorphismsMany_35 : decode cX7_automorphismsMany 35 = .ok (.iload_n 3, 1) := by decide +kernel
theorem dX7_automorphismsMany_36 : decode cX7_automorphismsMany 36 = .ok (.invokevirtual 121, 3) := by decide +kernel
theorem dX7_automorphismsMany_39 : decode cX7_automorphismsMany 39 = .ok (.iload_n 2, 1) := by decide +kernel
theorem dX7_automorphismsMany_40 : decode cX7_automorphismsMany 40 = .ok (.aload_n 0, 1) := by decide +kernel
theorem dX7_automorphismsMany_41 : decode cX7_automorphismsMany 41 = .ok (.invokevirtual 130, 3) := by decide +kernel
theorem dX7_automorphismsMany_44 : decode cX7_automorphismsMany 44 = .ok (.ifCond .eq 7, 3) := by decide +kernel
theorem dX7_automorphismsMany_47 : decode cX7_automorphismsMany 47 = .ok (.iconst 1, 1) := by decide +kernel
theorem dX7_automorphismsMany_48 : decode cX7_automorphismsMany 48 = .ok (.goto 4, 3) := by decide +kernel
theorem dX7_automorphismsMany_51 : decode cX7_automorphismsMany 51 = .ok (.iconst 0, 1) := by decide +kernel
theorem dX7_automorphismsMany_52 : decode cX7_automorphismsMany 52 = .ok (.iadd, 1) := by decide +kernel
theorem dX7_automorphismsMany_53 : decode cX7_automorphismsMany 53 = .ok (.istore_n 2, 1) := by decide +kernel
theorem dX7_automorphismsMany_54 : decode cX7_automorphismsMany 54 = .ok (.iinc 3 1, 3) := by decide +kernel
theorem dX7_automorphismsMany_57 : decode cX7_automorphismsMany 57 = .ok (.goto (-28), 3) := by decide +kernel
theorem dX7_automorphismsMany_60 : decode cX7_automorphismsMany 60 = .ok (.iload_n 2, 1) := by decide +kernel
theorem dX7_automorphismsMany_61 : decode cX7_automorphismsMany 61 = .ok (.ireturn, 1) := by decide +kernel
theorem dX7_automorphisms_0 : decode cX7_automorphisms 0 = .ok (.aload_n 0, 1) := by decide +kernel
theorem dX7_automorphisms_1 : decode cX7_automorphisms 1 = .ok (.invokevirtual 134, 3) := by decide +kernel
theorem dX7_automorphisms_4 : decode cX7_automorphisms 4 = .ok (.ireturn, 1) := by decide +kernel
theorem dX7_isArc_0 : decode cX7_isArc 0 = .ok (.iload_n 1, 1) := by decide +kernel
theorem dX7_isArc_1 : decode cX7_isArc 1 = .ok (.iconst 0, 1) := by decide +kernel
theorem dX7_isArc_2 : decode cX7_isArc 2 = .ok (.aload_n 0, 1) := by decide +kernel
theorem dX7_isArc_3 : decode cX7_isArc 3 = .ok (.getfield 7, 3) := by decide +kernel
theorem dX7_isArc_6 : decode cX7_isArc 6 = .ok (.bipush 37, 2) := by decide +kernel
theorem dX7_isArc_8 : decode cX7_isArc 8 = .ok (.iaload, 1) := by decide +kernel
theorem dX7_isArc_9 : decode cX7_isArc 9 = .ok (.iconst 1, 1) := by decide +kernel
theorem dX7_isArc_10 : decode cX7_isArc 10 = .ok (.isub, 1) := by decide +kernel
theorem dX7_isArc_11 : decode cX7_isArc 11 = .ok (.invokestatic 35, 3) := by decide +kernel
theorem dX7_isArc_14 : decode cX7_isArc 14 = .ok (.ireturn, 1) := by decide +kernel
theorem dX7_isCrossing_0 : decode cX7_isCrossing 0 = .ok (.iload_n 1, 1) := by decide +kernel
theorem dX7_isCrossing_1 : decode cX7_isCrossing 1 = .ok (.iconst 0, 1) := by decide +kernel
theorem dX7_isCrossing_2 : decode cX7_isCrossing 2 = .ok (.aload_n 0, 1) := by decide +kernel
theorem dX7_isCrossing_3 : decode cX7_isCrossing 3 = .ok (.getfield 7, 3) := by decide +kernel
theorem dX7_isCrossing_6 : decode cX7_isCrossing 6 = .ok (.bipush 38, 2) := by decide +kernel
theorem dX7_isCrossing_8 : decode cX7_isCrossing 8 = .ok (.iaload, 1) := by decide +kernel
theorem dX7_isCrossing_9 : decode cX7_isCrossing 9 = .ok (.iconst 1, 1) := by decide +kernel
theorem dX7_isCrossing_10 : decode cX7_isCrossing 10 = .ok (.isub, 1) := by decide +kernel
theorem dX7_isCrossing_11 : decode cX7_isCrossing 11 = .ok (.invokestatic 35, 3) := by decide +kernel
theorem dX7_isCrossing_14 : decode cX7_isCrossing 14 = .ok (.ireturn, 1) := by decide +kernel
theorem dX7_crossingPart_0 : decode cX7_crossingPart 0 = .ok (.aload_n 0, 1) := by decide +kernel
theorem dX7_crossingPart_1 : decode cX7_crossingPart 1 = .ok (.getfield 7, 3) := by decide +kernel
theorem dX7_crossingPart_4 : decode cX7_crossingPart 4 = .ok (.bipush 39, 2) := by decide +kernel
theorem dX7_crossingPart_6 : decode cX7_crossingPart 6 = .ok (.iconst 4, 1) := by decide +kernel
theorem dX7_crossingPart_7 : decode cX7_crossingPart 7 = .ok (.iload_n 1, 1) := by decide +kernel
theorem dX7_crossingPart_8 : decode cX7_crossingPart 8 = .ok (.imul, 1) := by decide +kernel
theorem dX7_crossingPart_9 : decode cX7_crossingPart 9 = .ok (.iadd, 1) := by decide +kernel
theorem dX7_crossingPart_10 : decode cX7_crossingPart 10 = .ok (.iload_n 2, 1) := by decide +kernel
theorem dX7_crossingPart_11 : decode cX7_crossingPart 11 = .ok (.iadd, 1) := by decide +kernel
theorem dX7_crossingPart_12 : decode cX7_crossingPart 12 = .ok (.iaload, 1) := by decide +kernel
theorem dX7_crossingPart_13 : decode cX7_crossingPart 13 = .ok (.ireturn, 1) := by decide +kernel
theorem dX7_adds_0 : decode cX7_adds 0 = .ok (.bipush 39, 2) := by decide +kernel
theorem dX7_adds_2 : decode cX7_adds 2 = .ok (.iconst 4, 1) := by decide +kernel
theorem dX7_adds_3 : decode cX7_adds 3 = .ok (.aload_n 0, 1) := by decide +kernel
theorem dX7_adds_4 : decode cX7_adds 4 = .ok (.getfield 7, 3) := by decide +kernel
theorem dX7_adds_7 : decode cX7_adds 7 = .ok (.bipush 38, 2) := by decide +kernel
theorem dX7_adds_9 : decode cX7_adds 9 = .ok (.iaload, 1) := by decide +kernel
theorem dX7_adds_10 : decode cX7_adds 10 = .ok (.imul, 1) := by decide +kernel
theorem dX7_adds_11 : decode cX7_adds 11 = .ok (.iadd, 1) := by decide +kernel
theorem dX7_adds_12 : decode cX7_adds 12 = .ok (.istore 5, 2) := by decide +kernel
theorem dX7_adds_14 : decode cX7_adds 14 = .ok (.aload_n 0, 1) := by decide +kernel
theorem dX7_adds_15 : decode cX7_adds 15 = .ok (.getfield 7, 3) := by decide +kernel
theorem dX7_adds_18 : decode cX7_adds 18 = .ok (.iload 5, 2) := by decide +kernel
theorem dX7_adds_20 : decode cX7_adds 20 = .ok (.iconst 0, 1) := by decide +kernel
theorem dX7_adds_21 : decode cX7_adds 21 = .ok (.iadd, 1) := by decide +kernel
theorem dX7_adds_22 : decode cX7_adds 22 = .ok (.iload_n 1, 1) := by decide +kernel
theorem dX7_adds_23 : decode cX7_adds 23 = .ok (.iastore, 1) := by decide +kernel
theorem dX7_adds_24 : decode cX7_adds 24 = .ok (.aload_n 0, 1) := by decide +kernel
theorem dX7_adds_25 : decode cX7_adds 25 = .ok (.getfield 7, 3) := by decide +kernel
theorem dX7_adds_28 : decode cX7_adds 28 = .ok (.iload 5, 2) := by decide +kernel
theorem dX7_adds_30 : decode cX7_adds 30 = .ok (.iconst 1, 1) := by decide +kernel
theorem dX7_adds_31 : decode cX7_adds 31 = .ok (.iadd, 1) := by decide +kernel
theorem dX7_adds_32 : decode cX7_adds 32 = .ok (.iload_n 2, 1) := by decide +kernel
theorem dX7_adds_33 : decode cX7_adds 33 = .ok (.iastore, 1) := by decide +kernel
theorem dX7_adds_34 : decode cX7_adds 34 = .ok (.aload_n 0, 1) := by decide +kernel
theorem dX7_adds_35 : decode cX7_adds 35 = .ok (.getfield 7, 3) := by decide +kernel
theorem dX7_adds_38 : decode cX7_adds 38 = .ok (.iload 5, 2) := by decide +kernel
theorem dX7_adds_40 : decode cX7_adds 40 = .ok (.iconst 2, 1) := by decide +kernel
theorem dX7_adds_41 : decode cX7_adds 41 = .ok (.iadd, 1) := by decide +kernel
theorem dX7_adds_42 : decode cX7_adds 42 = .ok (.iload_n 3, 1) := by decide +kernel
theorem dX7_adds_43 : decode cX7_adds 43 = .ok (.iastore, 1) := by decide +kernel
theorem dX7_adds_44 : decode cX7_adds 44 = .ok (.aload_n 0, 1) := by decide +kernel
theorem dX7_adds_45 : decode cX7_adds 45 = .ok (.getfield 7, 3) := by decide +kernel
theorem dX7_adds_48 : decode cX7_adds 48 = .ok (.iload 5, 2) := by decide +kernel
theorem dX7_adds_50 : decode cX7_adds 50 = .ok (.iconst 3, 1) := by decide +kernel
theorem dX7_adds_51 : decode cX7_adds 51 = .ok (.iadd, 1) := by decide +kernel
theorem dX7_adds_52 : decode cX7_adds 52 = .ok (.iload 4, 2) := by decide +kernel
theorem dX7_adds_54 : decode cX7_adds 54 = .ok (.iastore, 1) := by decide +kernel
theorem dX7_adds_55 : decode cX7_adds 55 = .ok (.aload_n 0, 1) := by decide +kernel
theorem dX7_adds_56 : decode cX7_adds 56 = .ok (.getfield 7, 3) := by decide +kernel
theorem dX7_adds_59 : decode cX7_adds 59 = .ok (.bipush 38, 2) := by decide +kernel
theorem dX7_adds_61 : decode cX7_adds 61 = .ok (.dup2, 1) := by decide +kernel
theorem dX7_adds_62 : decode cX7_adds 62 = .ok (.iaload, 1) := by decide +kernel
theorem dX7_adds_63 : decode cX7_adds 63 = .ok (.iconst 1, 1) := by decide +kernel
theorem dX7_adds_64 : decode cX7_adds 64 = .ok (.iadd, 1) := by decide +kernel
theorem dX7_adds_65 : decode cX7_adds 65 = .ok (.iastore, 1) := by decide +kernel
theorem dX7_adds_66 : decode cX7_adds 66 = .ok (.return_, 1) := by decide +kernel
theorem dX7_clears_0 : decode cX7_clears 0 = .ok (.aload_n 0, 1) := by decide +kernel
theorem dX7_clears_1 : decode cX7_clears 1 = .ok (.getfield 7, 3) := by decide +kernel
theorem dX7_clears_4 : decode cX7_clears 4 = .ok (.bipush 37, 2) := by decide +kernel
theorem dX7_clears_6 : decode cX7_clears 6 = .ok (.iload_n 1, 1) := by decide +kernel
theorem dX7_clears_7 : decode cX7_clears 7 = .ok (.iastore, 1) := by decide +kernel
theorem dX7_clears_8 : decode cX7_clears 8 = .ok (.aload_n 0, 1) := by decide +kernel
theorem dX7_clears_9 : decode cX7_clears 9 = .ok (.getfield 7, 3) := by decide +kernel
theorem dX7_clears_12 : decode cX7_clears 12 = .ok (.bipush 38, 2) := by decide +kernel
theorem dX7_clears_14 : decode cX7_clears 14 = .ok (.iconst 0, 1) := by decide +kernel
theorem dX7_clears_15 : decode cX7_clears 15 = .ok (.iastore, 1) := by decide +kernel
theorem dX7_clears_16 : decode cX7_clears 16 = .ok (.bipush 39, 2) := by decide +kernel
theorem dX7_clears_18 : decode cX7_clears 18 = .ok (.istore_n 2, 1) := by decide +kernel
theorem dX7_clears_19 : decode cX7_clears 19 = .ok (.iload_n 2, 1) := by decide +kernel
theorem dX7_clears_20 : decode cX7_clears 20 = .ok (.bipush 79, 2) := by decide +kernel
theorem dX7_clears_22 : decode cX7_clears 22 = .ok (.if_icmp .ge 16, 3) := by decide +kernel
theorem dX7_clears_25 : decode cX7_clears 25 = .ok (.aload_n 0, 1) := by decide +kernel
theorem dX7_clears_26 : decode cX7_clears 26 = .ok (.getfield 7, 3) := by decide +kernel
theorem dX7_clears_29 : decode cX7_clears 29 = .ok (.iload_n 2, 1) := by decide +kernel
theorem dX7_clears_30 : decode cX7_clears 30 = .ok (.iconst 0, 1) := by decide +kernel
theorem dX7_clears_31 : decode cX7_clears 31 = .ok (.iastore, 1) := by decide +kernel
theorem dX7_clears_32 : decode cX7_clears 32 = .ok (.iinc 2 1, 3) := by decide +kernel
theorem dX7_clears_35 : decode cX7_clears 35 = .ok (.goto (-16), 3) := by decide +kernel
theorem dX7_clears_38 : decode cX7_clears 38 = .ok (.return_, 1) := by decide +kernel
theorem dX7_newDiagram_0 : decode cX7_newDiagram 0 = .ok (.iload_n 1, 1) := by decide +kernel
theorem dX7_newDiagram_1 : decode cX7_newDiagram 1 = .ok (.iconst 1, 1) := by decide +kernel
theorem dX7_newDiagram_2 : decode cX7_newDiagram 2 = .ok (.bipush 7, 2) := by decide +kernel
theorem dX7_newDiagram_4 : decode cX7_newDiagram 4 = .ok (.invokestatic 35, 3) := by decide +kernel
theorem dX7_newDiagram_7 : decode cX7_newDiagram 7 = .ok (.ifCond .ne 6, 3) := by decide +kernel
theorem dX7_newDiagram_10 : decode cX7_newDiagram 10 = .ok (.bipush (-2), 2) := by decide +kernel
theorem dX7_newDiagram_12 : decode cX7_newDiagram 12 = .ok (.ireturn, 1) := by decide +kernel
theorem dX7_newDiagram_13 : decode cX7_newDiagram 13 = .ok (.aload_n 0, 1) := by decide +kernel
theorem dX7_newDiagram_14 : decode cX7_newDiagram 14 = .ok (.invokevirtual 39, 3) := by decide +kernel
theorem dX7_newDiagram_17 : decode cX7_newDiagram 17 = .ok (.aload_n 0, 1) := by decide +kernel
theorem dX7_newDiagram_18 : decode cX7_newDiagram 18 = .ok (.getfield 7, 3) := by decide +kernel
theorem dX7_newDiagram_21 : decode cX7_newDiagram 21 = .ok (.bipush 37, 2) := by decide +kernel
theorem dX7_newDiagram_23 : decode cX7_newDiagram 23 = .ok (.iaload, 1) := by decide +kernel
theorem dX7_newDiagram_24 : decode cX7_newDiagram 24 = .ok (.istore_n 2, 1) := by decide +kernel
theorem dX7_newDiagram_25 : decode cX7_newDiagram 25 = .ok (.aload_n 0, 1) := by decide +kernel
theorem dX7_newDiagram_26 : decode cX7_newDiagram 26 = .ok (.iload_n 1, 1) := by decide +kernel
theorem dX7_newDiagram_27 : decode cX7_newDiagram 27 = .ok (.invokevirtual 137, 3) := by decide +kernel
theorem dX7_newDiagram_30 : decode cX7_newDiagram 30 = .ok (.iload_n 2, 1) := by decide +kernel
theorem dX7_newDiagram_31 : decode cX7_newDiagram 31 = .ok (.ireturn, 1) := by decide +kernel
theorem dX7_standard_0 : decode cX7_standard 0 = .ok (.iload_n 1, 1) := by decide +kernel
theorem dX7_standard_1 : decode cX7_standard 1 = .ok (.iconst 0, 1) := by decide +kernel
theorem dX7_standard_2 : decode cX7_standard 2 = .ok (.iconst 5, 1) := by decide +kernel
theorem dX7_standard_3 : decode cX7_standard 3 = .ok (.invokestatic 35, 3) := by decide +kernel
theorem dX7_standard_6 : decode cX7_standard 6 = .ok (.ifCond .ne 5, 3) := by decide +kernel
theorem dX7_standard_9 : decode cX7_standard 9 = .ok (.iconst (-1), 1) := by decide +kernel
theorem dX7_standard_10 : decode cX7_standard 10 = .ok (.ireturn, 1) := by decide +kernel
theorem dX7_standard_11 : decode cX7_standard 11 = .ok (.aload_n 0, 1) := by decide +kernel
theorem dX7_standard_12 : decode cX7_standard 12 = .ok (.invokevirtual 39, 3) := by decide +kernel
theorem dX7_standard_15 : decode cX7_standard 15 = .ok (.aload_n 0, 1) := by decide +kernel
theorem dX7_standard_16 : decode cX7_standard 16 = .ok (.iload_n 1, 1) := by decide +kernel
theorem dX7_standard_17 : decode cX7_standard 17 = .ok (.ifCond .ne 7, 3) := by decide +kernel
theorem dX7_standard_20 : decode cX7_standard 20 = .ok (.iconst 1, 1) := by decide +kernel
theorem dX7_standard_21 : decode cX7_standard 21 = .ok (.goto 31, 3) := by decide +kernel
theorem dX7_standard_24 : decode cX7_standard 24 = .ok (.iload_n 1, 1) := by decide +kernel
theorem dX7_standard_25 : decode cX7_standard 25 = .ok (.iconst 1, 1) := by decide +kernel
theorem dX7_standard_26 : decode cX7_standard 26 = .ok (.if_icmp .ne 7, 3) := by decide +kernel
theorem dX7_standard_29 : decode cX7_standard 29 = .ok (.iconst 3, 1) := by decide +kernel
theorem dX7_standard_30 : decode cX7_standard 30 = .ok (.goto 22, 3) := by decide +kernel
theorem dX7_standard_33 : decode cX7_standard 33 = .ok (.iload_n 1, 1) := by decide +kernel
theorem dX7_standard_34 : decode cX7_standard 34 = .ok (.iconst 2, 1) := by decide +kernel
theorem dX7_standard_35 : decode cX7_standard 35 = .ok (.if_icmp .ne 7, 3) := by decide +kernel
theorem dX7_standard_38 : decode cX7_standard 38 = .ok (.iconst 4, 1) := by decide +kernel
theorem dX7_standard_39 : decode cX7_standard 39 = .ok (.goto 13, 3) := by decide +kernel
theorem dX7_standard_42 : decode cX7_standard 42 = .ok (.iload_n 1, 1) := by decide +kernel
theorem dX7_standard_43 : decode cX7_standard 43 = .ok (.iconst 3, 1) := by decide +kernel
theorem dX7_standard_44 : decode cX7_standard 44 = .ok (.if_icmp .ne 7, 3) := by decide +kernel
theorem dX7_standard_47 : decode cX7_standard 47 = .ok (.iconst 5, 1) := by decide +kernel
theorem dX7_standard_48 : decode cX7_standard 48 = .ok (.goto 4, 3) := by decide +kernel
theorem dX7_standard_51 : decode cX7_standard 51 = .ok (.iconst 2, 1) := by decide +kernel
theorem dX7_standard_52 : decode cX7_standard 52 = .ok (.invokevirtual 137, 3) := by decide +kernel
theorem dX7_standard_55 : decode cX7_standard 55 = .ok (.iload_n 1, 1) := by decide +kernel
theorem dX7_standard_56 : decode cX7_standard 56 = .ok (.tableswitch 156 1 4 #[32, 59, 94, 137], 32) := by decide +kernel
theorem dX7_standard_88 : decode cX7_standard 88 = .ok (.aload_n 0, 1) := by decide +kernel
theorem dX7_standard_89 : decode cX7_standard 89 = .ok (.iconst 0, 1) := by decide +kernel
theorem dX7_standard_90 : decode cX7_standard 90 = .ok (.iconst 1, 1) := by decide +kernel
theorem dX7_standard_91 : decode cX7_standard 91 = .ok (.iconst 2, 1) := by decide +kernel
theorem dX7_standard_92 : decode cX7_standard 92 = .ok (.iconst 1, 1) := by decide +kernel
theorem dX7_standard_93 : decode cX7_standard 93 = .ok (.invokevirtual 140, 3) := by decide +kernel
theorem dX7_standard_96 : decode cX7_standard 96 = .ok (.aload_n 0, 1) := by decide +kernel
theorem dX7_standard_97 : decode cX7_standard 97 = .ok (.iconst 1, 1) := by decide +kernel
theorem dX7_standard_98 : decode cX7_standard 98 = .ok (.iconst 2, 1) := by decide +kernel
theorem dX7_standard_99 : decode cX7_standard 99 = .ok (.iconst 0, 1) := by decide +kernel
theorem dX7_standard_100 : decode cX7_standard 100 = .ok (.iconst 1, 1) := by decide +kernel
theorem dX7_standard_101 : decode cX7_standard 101 = .ok (.invokevirtual 140, 3) := by decide +kernel
theorem dX7_standard_104 : decode cX7_standard 104 = .ok (.aload_n 0, 1) := by decide +kernel
theorem dX7_standard_105 : decode cX7_standard 105 = .ok (.iconst 2, 1) := by decide +kernel
theorem dX7_standard_106 : decode cX7_standard 106 = .ok (.iconst 0, 1) := by decide +kernel
theorem dX7_standard_107 : decode cX7_standard 107 = .ok (.iconst 1, 1) := by decide +kernel
theorem dX7_standard_108 : decode cX7_standard 108 = .ok (.iconst 1, 1) := by decide +kernel
theorem dX7_standard_109 : decode cX7_standard 109 = .ok (.invokevirtual 140, 3) := by decide +kernel
theorem dX7_standard_112 : decode cX7_standard 112 = .ok (.goto 100, 3) := by decide +kernel
theorem dX7_standard_115 : decode cX7_standard 115 = .ok (.aload_n 0, 1) := by decide +kernel
theorem dX7_standard_116 : decode cX7_standard 116 = .ok (.iconst 0, 1) := by decide +kernel
theorem dX7_standard_117 : decode cX7_standard 117 = .ok (.iconst 2, 1) := by decide +kernel
theorem dX7_standard_118 : decode cX7_standard 118 = .ok (.iconst 3, 1) := by decide +kernel
theorem dX7_standard_119 : decode cX7_standard 119 = .ok (.iconst 1, 1) := by decide +kernel
theorem dX7_standard_120 : decode cX7_standard 120 = .ok (.invokevirtual 140, 3) := by decide +kernel
theorem dX7_standard_123 : decode cX7_standard 123 = .ok (.aload_n 0, 1) := by decide +kernel
theorem dX7_standard_124 : decode cX7_standard 124 = .ok (.iconst 1, 1) := by decide +kernel
theorem dX7_standard_125 : decode cX7_standard 125 = .ok (.iconst 3, 1) := by decide +kernel
theorem dX7_standard_126 : decode cX7_standard 126 = .ok (.iconst 0, 1) := by decide +kernel
theorem dX7_standard_127 : decode cX7_standard 127 = .ok (.iconst (-1), 1) := by decide +kernel
theorem dX7_standard_128 : decode cX7_standard 128 = .ok (.invokevirtual 140, 3) := by decide +kernel
theorem dX7_standard_131 : decode cX7_standard 131 = .ok (.aload_n 0, 1) := by decide +kernel
theorem dX7_standard_132 : decode cX7_standard 132 = .ok (.iconst 2, 1) := by decide +kernel
theorem dX7_standard_133 : decode cX7_standard 133 = .ok (.iconst 0, 1) := by decide +kernel
theorem dX7_standard_134 : decode cX7_standard 134 = .ok (.iconst 1, 1) := by decide +kernel
theorem dX7_standard_135 : decode cX7_standard 135 = .ok (.iconst 1, 1) := by decide +kernel
theorem dX7_standard_136 : decode cX7_standard 136 = .ok (.invokevirtual 140, 3) := by decide +kernel
theorem dX7_standard_139 : decode cX7_standard 139 = .ok (.aload_n 0, 1) := by decide +kernel
theorem dX7_standard_140 : decode cX7_standard 140 = .ok (.iconst 3, 1) := by decide +kernel
theorem dX7_standard_141 : decode cX7_standard 141 = .ok (.iconst 1, 1) := by decide +kernel
theorem dX7_standard_142 : decode cX7_standard 142 = .ok (.iconst 2, 1) := by decide +kernel
theorem dX7_standard_143 : decode cX7_standard 143 = .ok (.iconst (-1), 1) := by decide +kernel
theorem dX7_standard_144 : decode cX7_standard 144 = .ok (.invokevirtual 140, 3) := by decide +kernel
theorem dX7_standard_147 : decode cX7_standard 147 = .ok (.goto 65, 3) := by decide +kernel
theorem dX7_standard_150 : decode cX7_standard 150 = .ok (.aload_n 0, 1) := by decide +kernel
theorem dX7_standard_151 : decode cX7_standard 151 = .ok (.iconst 0, 1) := by decide +kernel
theorem dX7_standard_152 : decode cX7_standard 152 = .ok (.iconst 2, 1) := by decide +kernel
theorem dX7_standard_153 : decode cX7_standard 153 = .ok (.iconst 3, 1) := by decide +kernel
theorem dX7_standard_154 : decode cX7_standard 154 = .ok (.iconst 1, 1) := by decide +kernel
theorem dX7_standard_155 : decode cX7_standard 155 = .ok (.invokevirtual 140, 3) := by decide +kernel
theorem dX7_standard_158 : decode cX7_standard 158 = .ok (.aload_n 0, 1) := by decide +kernel
theorem dX7_standard_159 : decode cX7_standard 159 = .ok (.iconst 3, 1) := by decide +kernel
theorem dX7_standard_160 : decode cX7_standard 160 = .ok (.iconst 0, 1) := by decide +kernel
theorem dX7_standard_161 : decode cX7_standard 161 = .ok (.iconst 1, 1) := by decide +kernel
theorem dX7_standard_162 : decode cX7_standard 162 = .ok (.iconst 1, 1) := by decide +kernel
theorem dX7_standard_163 : decode cX7_standard 163 = .ok (.invokevirtual 140, 3) := by decide +kernel
theorem dX7_standard_166 : decode cX7_standard 166 = .ok (.aload_n 0, 1) := by decide +kernel
theorem dX7_standard_167 : decode cX7_standard 167 = .ok (.iconst 1, 1) := by decide +kernel
theorem dX7_standard_168 : decode cX7_standard 168 = .ok (.iconst 3, 1) := by decide +kernel
theorem dX7_standard_169 : decode cX7_standard 169 = .ok (.iconst 4, 1) := by decide +kernel
theorem dX7_standard_170 : decode cX7_standard 170 = .ok (.iconst 1, 1) := by decide +kernel
theorem dX7_standard_171 : decode cX7_standard 171 = .ok (.invokevirtual 140, 3) := by decide +kernel
theorem dX7_standard_174 : decode cX7_standard 174 = .ok (.aload_n 0, 1) := by decide +kernel
theorem dX7_standard_175 : decode cX7_standard 175 = .ok (.iconst 4, 1) := by decide +kernel
theorem dX7_standard_176 : decode cX7_standard 176 = .ok (.iconst 1, 1) := by decide +kernel
theorem dX7_standard_177 : decode cX7_standard 177 = .ok (.iconst 2, 1) := by decide +kernel
theorem dX7_standard_178 : decode cX7_standard 178 = .ok (.iconst 1, 1) := by decide +kernel
theorem dX7_standard_179 : decode cX7_standard 179 = .ok (.invokevirtual 140, 3) := by decide +kernel
theorem dX7_standard_182 : decode cX7_standard 182 = .ok (.aload_n 0, 1) := by decide +kernel
theorem dX7_standard_183 : decode cX7_standard 183 = .ok (.iconst 2, 1) := by decide +kernel
theorem dX7_standard_184 : decode cX7_standard 184 = .ok (.iconst 4, 1) := by decide +kernel
theorem dX7_standard_185 : decode cX7_standard 185 = .ok (.iconst 0, 1) := by decide +kernel
theorem dX7_standard_186 : decode cX7_standard 186 = .ok (.iconst 1, 1) := by decide +kernel
theorem dX7_standard_187 : decode cX7_standard 187 = .ok (.invokevirtual 140, 3) := by decide +kernel
theorem dX7_standard_190 : decode cX7_standard 190 = .ok (.goto 22, 3) := by decide +kernel
theorem dX7_standard_193 : decode cX7_standard 193 = .ok (.aload_n 0, 1) := by decide +kernel
theorem dX7_standard_194 : decode cX7_standard 194 = .ok (.iconst 0, 1) := by decide +kernel
theorem dX7_standard_195 : decode cX7_standard 195 = .ok (.iconst 1, 1) := by decide +kernel
theorem dX7_standard_196 : decode cX7_standard 196 = .ok (.iconst 1, 1) := by decide +kernel
theorem dX7_standard_197 : decode cX7_standard 197 = .ok (.iconst 1, 1) := by decide +kernel
theorem dX7_standard_198 : decode cX7_standard 198 = .ok (.invokevirtual 140, 3) := by decide +kernel
theorem dX7_standard_201 : decode cX7_standard 201 = .ok (.aload_n 0, 1) := by decide +kernel
theorem dX7_standard_202 : decode cX7_standard 202 = .ok (.iconst 1, 1) := by decide +kernel
theorem dX7_standard_203 : decode cX7_standard 203 = .ok (.iconst 0, 1) := by decide +kernel
theorem dX7_standard_204 : decode cX7_standard 204 = .ok (.iconst 0, 1) := by decide +kernel
theorem dX7_standard_205 : decode cX7_standard 205 = .ok (.iconst 1, 1) := by decide +kernel
theorem dX7_standard_206 : decode cX7_standard 206 = .ok (.invokevirtual 140, 3) := by decide +kernel
theorem dX7_standard_209 : decode cX7_standard 209 = .ok (.goto 3, 3) := by decide +kernel
theorem dX7_standard_212 : decode cX7_standard 212 = .ok (.aload_n 0, 1) := by decide +kernel
theorem dX7_standard_213 : decode cX7_standard 213 = .ok (.getfield 7, 3) := by decide +kernel
theorem dX7_standard_216 : decode cX7_standard 216 = .ok (.bipush 38, 2) := by decide +kernel
theorem dX7_standard_218 : decode cX7_standard 218 = .ok (.iaload, 1) := by decide +kernel
theorem dX7_standard_219 : decode cX7_standard 219 = .ok (.ireturn, 1) := by decide +kernel
theorem dX7_isSign_0 : decode cX7_isSign 0 = .ok (.iload_n 0, 1) := by decide +kernel
theorem dX7_isSign_1 : decode cX7_isSign 1 = .ok (.iconst 1, 1) := by decide +kernel
theorem dX7_isSign_2 : decode cX7_isSign 2 = .ok (.if_icmp .eq 8, 3) := by decide +kernel
theorem dX7_isSign_5 : decode cX7_isSign 5 = .ok (.iload_n 0, 1) := by decide +kernel
theorem dX7_isSign_6 : decode cX7_isSign 6 = .ok (.iconst (-1), 1) := by decide +kernel
theorem dX7_isSign_7 : decode cX7_isSign 7 = .ok (.if_icmp .ne 7, 3) := by decide +kernel
theorem dX7_isSign_10 : decode cX7_isSign 10 = .ok (.iconst 1, 1) := by decide +kernel
theorem dX7_isSign_11 : decode cX7_isSign 11 = .ok (.goto 4, 3) := by decide +kernel
theorem dX7_isSign_14 : decode cX7_isSign 14 = .ok (.iconst 0, 1) := by decide +kernel
theorem dX7_isSign_15 : decode cX7_isSign 15 = .ok (.ireturn, 1) := by decide +kernel
theorem dX7_addCrossing_0 : decode cX7_addCrossing 0 = .ok (.aload_n 0, 1) := by decide +kernel
theorem dX7_addCrossing_1 : decode cX7_addCrossing 1 = .ok (.iload_n 1, 1) := by decide +kernel
theorem dX7_addCrossing_2 : decode cX7_addCrossing 2 = .ok (.invokevirtual 144, 3) := by decide +kernel
theorem dX7_addCrossing_5 : decode cX7_addCrossing 5 = .ok (.ifCond .eq 19, 3) := by decide +kernel
theorem dX7_addCrossing_8 : decode cX7_addCrossing 8 = .ok (.aload_n 0, 1) := by decide +kernel
theorem dX7_addCrossing_9 : decode cX7_addCrossing 9 = .ok (.iload_n 2, 1) := by decide +kernel
theorem dX7_addCrossing_10 : decode cX7_addCrossing 10 = .ok (.invokevirtual 144, 3) := by decide +kernel
theorem dX7_addCrossing_13 : decode cX7_addCrossing 13 = .ok (.ifCond .eq 11, 3) := by decide +kernel
theorem dX7_addCrossing_16 : decode cX7_addCrossing 16 = .ok (.aload_n 0, 1) := by decide +kernel
theorem dX7_addCrossing_17 : decode cX7_addCrossing 17 = .ok (.iload_n 3, 1) := by decide +kernel
theorem dX7_addCrossing_18 : decode cX7_addCrossing 18 = .ok (.invokevirtual 144, 3) := by decide +kernel
theorem dX7_addCrossing_21 : decode cX7_addCrossing 21 = .ok (.ifCond .ne 5, 3) := by decide +kernel
theorem dX7_addCrossing_24 : decode cX7_addCrossing 24 = .ok (.iconst (-1), 1) := by decide +kernel
theorem dX7_addCrossing_25 : decode cX7_addCrossing 25 = .ok (.ireturn, 1) := by decide +kernel
theorem dX7_addCrossing_26 : decode cX7_addCrossing 26 = .ok (.iload 4, 2) := by decide +kernel
theorem dX7_addCrossing_28 : decode cX7_addCrossing 28 = .ok (.invokestatic 147, 3) := by decide +kernel
theorem dX7_addCrossing_31 : decode cX7_addCrossing 31 = .ok (.ifCond .ne 6, 3) := by decide +kernel
theorem dX7_addCrossing_34 : decode cX7_addCrossing 34 = .ok (.bipush (-2), 2) := by decide +kernel
theorem dX7_addCrossing_36 : decode cX7_addCrossing 36 = .ok (.ireturn, 1) := by decide +kernel
theorem dX7_addCrossing_37 : decode cX7_addCrossing 37 = .ok (.aload_n 0, 1) := by decide +kernel
theorem dX7_addCrossing_38 : decode cX7_addCrossing 38 = .ok (.getfield 7, 3) := by decide +kernel
theorem dX7_addCrossing_41 : decode cX7_addCrossing 41 = .ok (.bipush 38, 2) := by decide +kernel
theorem dX7_addCrossing_43 : decode cX7_addCrossing 43 = .ok (.iaload, 1) := by decide +kernel
theorem dX7_addCrossing_44 : decode cX7_addCrossing 44 = .ok (.bipush 10, 2) := by decide +kernel
theorem dX7_addCrossing_46 : decode cX7_addCrossing 46 = .ok (.if_icmp .ne 6, 3) := by decide +kernel
theorem dX7_addCrossing_49 : decode cX7_addCrossing 49 = .ok (.bipush (-4), 2) := by decide +kernel
theorem dX7_addCrossing_51 : decode cX7_addCrossing 51 = .ok (.ireturn, 1) := by decide +kernel
theorem dX7_addCrossing_52 : decode cX7_addCrossing 52 = .ok (.aload_n 0, 1) := by decide +kernel
theorem dX7_addCrossing_53 : decode cX7_addCrossing 53 = .ok (.invokevirtual 39, 3) := by decide +kernel
theorem dX7_addCrossing_56 : decode cX7_addCrossing 56 = .ok (.aload_n 0, 1) := by decide +kernel
theorem dX7_addCrossing_57 : decode cX7_addCrossing 57 = .ok (.iload_n 1, 1) := by decide +kernel
theorem dX7_addCrossing_58 : decode cX7_addCrossing 58 = .ok (.iload_n 2, 1) := by decide +kernel
theorem dX7_addCrossing_59 : decode cX7_addCrossing 59 = .ok (.iload_n 3, 1) := by decide +kernel
theorem dX7_addCrossing_60 : decode cX7_addCrossing 60 = .ok (.iload 4, 2) := by decide +kernel
theorem dX7_addCrossing_62 : decode cX7_addCrossing 62 = .ok (.invokevirtual 140, 3) := by decide +kernel
theorem dX7_addCrossing_65 : decode cX7_addCrossing 65 = .ok (.aload_n 0, 1) := by decide +kernel
theorem dX7_addCrossing_66 : decode cX7_addCrossing 66 = .ok (.getfield 7, 3) := by decide +kernel
theorem dX7_addCrossing_69 : decode cX7_addCrossing 69 = .ok (.bipush 38, 2) := by decide +kernel
theorem dX7_addCrossing_71 : decode cX7_addCrossing 71 = .ok (.iaload, 1) := by decide +kernel
theorem dX7_addCrossing_72 : decode cX7_addCrossing 72 = .ok (.iconst 1, 1) := by decide +kernel
theorem dX7_addCrossing_73 : decode cX7_addCrossing 73 = .ok (.isub, 1) := by decide +kernel
theorem dX7_addCrossing_74 : decode cX7_addCrossing 74 = .ok (.ireturn, 1) := by decide +kernel
theorem dX7_removeCrossing_0 : decode cX7_removeCrossing 0 = .ok (.aload_n 0, 1) := by decide +kernel
theorem dX7_removeCrossing_1 : decode cX7_removeCrossing 1 = .ok (.iload_n 1, 1) := by decide +kernel
theorem dX7_removeCrossing_2 : decode cX7_removeCrossing 2 = .ok (.invokevirtual 150, 3) := by decide +kernel
theorem dX7_removeCrossing_5 : decode cX7_removeCrossing 5 = .ok (.ifCond .ne 5, 3) := by decide +kernel
theorem dX7_removeCrossing_8 : decode cX7_removeCrossing 8 = .ok (.iconst (-1), 1) := by decide +kernel
theorem dX7_removeCrossing_9 : decode cX7_removeCrossing 9 = .ok (.ireturn, 1) := by decide +kernel
theorem dX7_removeCrossing_10 : decode cX7_removeCrossing 10 = .ok (.aload_n 0, 1) := by decide +kernel
theorem dX7_removeCrossing_11 : decode cX7_removeCrossing 11 = .ok (.invokevirtual 39, 3) := by decide +kernel
theorem dX7_removeCrossing_14 : decode cX7_removeCrossing 14 = .ok (.aload_n 0, 1) := by decide +kernel
theorem dX7_removeCrossing_15 : decode cX7_removeCrossing 15 = .ok (.getfield 7, 3) := by decide +kernel
theorem dX7_removeCrossing_18 : decode cX7_removeCrossing 18 = .ok (.bipush 38, 2) := by decide +kernel
theorem dX7_removeCrossing_20 : decode cX7_removeCrossing 20 = .ok (.dup2, 1) := by decide +kernel
theorem dX7_removeCrossing_21 : decode cX7_removeCrossing 21 = .ok (.iaload, 1) := by decide +kernel
theorem dX7_removeCrossing_22 : decode cX7_removeCrossing 22 = .ok (.iconst 1, 1) := by decide +kernel
theorem dX7_removeCrossing_23 : decode cX7_removeCrossing 23 = .ok (.isub, 1) := by decide +kernel
theorem dX7_removeCrossing_24 : decode cX7_removeCrossing 24 = .ok (.iastore, 1) := by decide +kernel
theorem dX7_removeCrossing_25 : decode cX7_removeCrossing 25 = .ok (.bipush 39, 2) := by decide +kernel
theorem dX7_removeCrossing_27 : decode cX7_removeCrossing 27 = .ok (.iconst 4, 1) := by decide +kernel
theorem dX7_removeCrossing_28 : decode cX7_removeCrossing 28 = .ok (.iload_n 1, 1) := by decide +kernel
theorem dX7_removeCrossing_29 : decode cX7_removeCrossing 29 = .ok (.imul, 1) := by decide +kernel
theorem dX7_removeCrossing_30 : decode cX7_removeCrossing 30 = .ok (.iadd, 1) := by decide +kernel
theorem dX7_removeCrossing_31 : decode cX7_removeCrossing 31 = .ok (.istore_n 2, 1) := by decide +kernel
theorem dX7_removeCrossing_32 : decode cX7_removeCrossing 32 = .ok (.iload_n 2, 1) := by decide +kernel
theorem dX7_removeCrossing_33 : decode cX7_removeCrossing 33 = .ok (.bipush 39, 2) := by decide +kernel
theorem dX7_removeCrossing_35 : decode cX7_removeCrossing 35 = .ok (.iconst 4, 1) := by decide +kernel
theorem dX7_removeCrossing_36 : decode cX7_removeCrossing 36 = .ok (.aload_n 0, 1) := by decide +kernel
theorem dX7_removeCrossing_37 : decode cX7_removeCrossing 37 = .ok (.getfield 7, 3) := by decide +kernel
theorem dX7_removeCrossing_40 : decode cX7_removeCrossing 40 = .ok (.bipush 38, 2) := by decide +kernel
theorem dX7_removeCrossing_42 : decode cX7_removeCrossing 42 = .ok (.iaload, 1) := by decide +kernel
theorem dX7_removeCrossing_43 : decode cX7_removeCrossing 43 = .ok (.imul, 1) := by decide +kernel
theorem dX7_removeCrossing_44 : decode cX7_removeCrossing 44 = .ok (.iadd, 1) := by decide +kernel
theorem dX7_removeCrossing_45 : decode cX7_removeCrossing 45 = .ok (.if_icmp .ge 23, 3) := by decide +kernel
theorem dX7_removeCrossing_48 : decode cX7_removeCrossing 48 = .ok (.aload_n 0, 1) := by decide +kernel
theorem dX7_removeCrossing_49 : decode cX7_removeCrossing 49 = .ok (.getfield 7, 3) := by decide +kernel
theorem dX7_removeCrossing_52 : decode cX7_removeCrossing 52 = .ok (.iload_n 2, 1) := by decide +kernel
theorem dX7_removeCrossing_53 : decode cX7_removeCrossing 53 = .ok (.aload_n 0, 1) := by decide +kernel
theorem dX7_removeCrossing_54 : decode cX7_removeCrossing 54 = .ok (.getfield 7, 3) := by decide +kernel
theorem dX7_removeCrossing_57 : decode cX7_removeCrossing 57 = .ok (.iload_n 2, 1) := by decide +kernel
theorem dX7_removeCrossing_58 : decode cX7_removeCrossing 58 = .ok (.iconst 4, 1) := by decide +kernel
theorem dX7_removeCrossing_59 : decode cX7_removeCrossing 59 = .ok (.iadd, 1) := by decide +kernel
theorem dX7_removeCrossing_60 : decode cX7_removeCrossing 60 = .ok (.iaload, 1) := by decide +kernel
theorem dX7_removeCrossing_61 : decode cX7_removeCrossing 61 = .ok (.iastore, 1) := by decide +kernel
theorem dX7_removeCrossing_62 : decode cX7_removeCrossing 62 = .ok (.iinc 2 1, 3) := by decide +kernel
theorem dX7_removeCrossing_65 : decode cX7_removeCrossing 65 = .ok (.goto (-33), 3) := by decide +kernel
theorem dX7_removeCrossing_68 : decode cX7_removeCrossing 68 = .ok (.aload_n 0, 1) := by decide +kernel
theorem dX7_removeCrossing_69 : decode cX7_removeCrossing 69 = .ok (.getfield 7, 3) := by decide +kernel
theorem dX7_removeCrossing_72 : decode cX7_removeCrossing 72 = .ok (.bipush 38, 2) := by decide +kernel
theorem dX7_removeCrossing_74 : decode cX7_removeCrossing 74 = .ok (.iaload, 1) := by decide +kernel
theorem dX7_removeCrossing_75 : decode cX7_removeCrossing 75 = .ok (.ireturn, 1) := by decide +kernel
theorem dX7_moves_0 : decode cX7_moves 0 = .ok (.iconst 0, 1) := by decide +kernel
theorem dX7_moves_1 : decode cX7_moves 1 = .ok (.istore_n 3, 1) := by decide +kernel
theorem dX7_moves_2 : decode cX7_moves 2 = .ok (.iload_n 3, 1) := by decide +kernel
theorem dX7_moves_3 : decode cX7_moves 3 = .ok (.aload_n 0, 1) := by decide +kernel
theorem dX7_moves_4 : decode cX7_moves 4 = .ok (.getfield 7, 3) := by decide +kernel
theorem dX7_moves_7 : decode cX7_moves 7 = .ok (.bipush 38, 2) := by decide +kernel
theorem dX7_moves_9 : decode cX7_moves 9 = .ok (.iaload, 1) := by decide +kernel
theorem dX7_moves_10 : decode cX7_moves 10 = .ok (.if_icmp .ge 33, 3) := by decide +kernel
theorem dX7_moves_13 : decode cX7_moves 13 = .ok (.aload_n 0, 1) := by decide +kernel
theorem dX7_moves_14 : decode cX7_moves 14 = .ok (.iload_n 3, 1) := by decide +kernel
theorem dX7_moves_15 : decode cX7_moves 15 = .ok (.iconst 1, 1) := by decide +kernel
theorem dX7_moves_16 : decode cX7_moves 16 = .ok (.invokevirtual 153, 3) := by decide +kernel
theorem dX7_moves_19 : decode cX7_moves 19 = .ok (.iload_n 1, 1) := by decide +kernel
theorem dX7_moves_20 : decode cX7_moves 20 = .ok (.if_icmp .ne 17, 3) := by decide +kernel
theorem dX7_moves_23 : decode cX7_moves 23 = .ok (.aload_n 0, 1) := by decide +kernel
theorem dX7_moves_24 : decode cX7_moves 24 = .ok (.getfield 7, 3) := by decide +kernel
theorem dX7_moves_27 : decode cX7_moves 27 = .ok (.bipush 39, 2) := by decide +kernel
theorem dX7_moves_29 : decode cX7_moves 29 = .ok (.iconst 4, 1) := by decide +kernel
theorem dX7_moves_30 : decode cX7_moves 30 = .ok (.iload_n 3, 1) := by decide +kernel
theorem dX7_moves_31 : decode cX7_moves 31 = .ok (.imul, 1) := by decide +kernel
theorem dX7_moves_32 : decode cX7_moves 32 = .ok (.iadd, 1) := by decide +kernel
theorem dX7_moves_33 : decode cX7_moves 33 = .ok (.iconst 1, 1) := by decide +kernel
theorem dX7_moves_34 : decode cX7_moves 34 = .ok (.iadd, 1) := by decide +kernel
theorem dX7_moves_35 : decode cX7_moves 35 = .ok (.iload_n 2, 1) := by decide +kernel
theorem dX7_moves_36 : decode cX7_moves 36 = .ok (.iastore, 1) := by decide +kernel
theorem dX7_moves_37 : decode cX7_moves 37 = .ok (.iinc 3 1, 3) := by decide +kernel
theorem dX7_moves_40 : decode cX7_moves 40 = .ok (.goto (-38), 3) := by decide +kernel
theorem dX7_moves_43 : decode cX7_moves 43 = .ok (.return_, 1) := by decide +kernel
theorem dX7_kink_0 : decode cX7_kink 0 = .ok (.aload_n 0, 1) := by decide +kernel
theorem dX7_kink_1 : decode cX7_kink 1 = .ok (.iload_n 1, 1) := by decide +kernel
theorem dX7_kink_2 : decode cX7_kink 2 = .ok (.invokevirtual 144, 3) := by decide +kernel
theorem dX7_kink_5 : decode cX7_kink 5 = .ok (.ifCond .ne 5, 3) := by decide +kernel
theorem dX7_kink_8 : decode cX7_kink 8 = .ok (.iconst (-1), 1) := by decide +kernel
theorem dX7_kink_9 : decode cX7_kink 9 = .ok (.ireturn, 1) := by decide +kernel
theorem dX7_kink_10 : decode cX7_kink 10 = .ok (.iload_n 2, 1) := by decide +kernel
theorem dX7_kink_11 : decode cX7_kink 11 = .ok (.invokestatic 147, 3) := by decide +kernel
theorem dX7_kink_14 : decode cX7_kink 14 = .ok (.ifCond .ne 6, 3) := by decide +kernel
theorem dX7_kink_17 : decode cX7_kink 17 = .ok (.bipush (-2), 2) := by decide +kernel
theorem dX7_kink_19 : decode cX7_kink 19 = .ok (.ireturn, 1) := by decide +kernel
theorem dX7_kink_20 : decode cX7_kink 20 = .ok (.aload_n 0, 1) := by decide +kernel
theorem dX7_kink_21 : decode cX7_kink 21 = .ok (.getfield 7, 3) := by decide +kernel
theorem dX7_kink_24 : decode cX7_kink 24 = .ok (.bipush 37, 2) := by decide +kernel
theorem dX7_kink_26 : decode cX7_kink 26 = .ok (.iaload, 1) := by decide +kernel
theorem dX7_kink_27 : decode cX7_kink 27 = .ok (.bipush 7, 2) := by decide +kernel
theorem dX7_kink_29 : decode cX7_kink 29 = .ok (.if_icmp .eq 15, 3) := by decide +kernel
theorem dX7_kink_32 : decode cX7_kink 32 = .ok (.aload_n 0, 1) := by decide +kernel
theorem dX7_kink_33 : decode cX7_kink 33 = .ok (.getfield 7, 3) := by decide +kernel
theorem dX7_kink_36 : decode cX7_kink 36 = .ok (.bipush 38, 2) := by decide +kernel
theorem dX7_kink_38 : decode cX7_kink 38 = .ok (.iaload, 1) := by decide +kernel
theorem dX7_kink_39 : decode cX7_kink 39 = .ok (.bipush 10, 2) := by decide +kernel
theorem dX7_kink_41 : decode cX7_kink 41 = .ok (.if_icmp .ne 6, 3) := by decide +kernel
theorem dX7_kink_44 : decode cX7_kink 44 = .ok (.bipush (-4), 2) := by decide +kernel
theorem dX7_kink_46 : decode cX7_kink 46 = .ok (.ireturn, 1) := by decide +kernel
theorem dX7_kink_47 : decode cX7_kink 47 = .ok (.aload_n 0, 1) := by decide +kernel
theorem dX7_kink_48 : decode cX7_kink 48 = .ok (.invokevirtual 39, 3) := by decide +kernel
theorem dX7_kink_51 : decode cX7_kink 51 = .ok (.aload_n 0, 1) := by decide +kernel
theorem dX7_kink_52 : decode cX7_kink 52 = .ok (.getfield 7, 3) := by decide +kernel
theorem dX7_kink_55 : decode cX7_kink 55 = .ok (.bipush 37, 2) := by decide +kernel
theorem dX7_kink_57 : decode cX7_kink 57 = .ok (.iaload, 1) := by decide +kernel
theorem dX7_kink_58 : decode cX7_kink 58 = .ok (.istore_n 3, 1) := by decide +kernel
theorem dX7_kink_59 : decode cX7_kink 59 = .ok (.aload_n 0, 1) := by decide +kernel
theorem dX7_kink_60 : decode cX7_kink 60 = .ok (.getfield 7, 3) := by decide +kernel
theorem dX7_kink_63 : decode cX7_kink 63 = .ok (.bipush 37, 2) := by decide +kernel
theorem dX7_kink_65 : decode cX7_kink 65 = .ok (.dup2, 1) := by decide +kernel
theorem dX7_kink_66 : decode cX7_kink 66 = .ok (.iaload, 1) := by decide +kernel
theorem dX7_kink_67 : decode cX7_kink 67 = .ok (.iconst 1, 1) := by decide +kernel
theorem dX7_kink_68 : decode cX7_kink 68 = .ok (.iadd, 1) := by decide +kernel
theorem dX7_kink_69 : decode cX7_kink 69 = .ok (.iastore, 1) := by decide +kernel
theorem dX7_kink_70 : decode cX7_kink 70 = .ok (.aload_n 0, 1) := by decide +kernel
theorem dX7_kink_71 : decode cX7_kink 71 = .ok (.iload_n 1, 1) := by decide +kernel
theorem dX7_kink_72 : decode cX7_kink 72 = .ok (.iload_n 3, 1) := by decide +kernel
theorem dX7_kink_73 : decode cX7_kink 73 = .ok (.invokevirtual 156, 3) := by decide +kernel
theorem dX7_kink_76 : decode cX7_kink 76 = .ok (.aload_n 0, 1) := by decide +kernel
theorem dX7_kink_77 : decode cX7_kink 77 = .ok (.iload_n 1, 1) := by decide +kernel
theorem dX7_kink_78 : decode cX7_kink 78 = .ok (.iload_n 1, 1) := by decide +kernel
theorem dX7_kink_79 : decode cX7_kink 79 = .ok (.iload_n 3, 1) := by decide +kernel
theorem dX7_kink_80 : decode cX7_kink 80 = .ok (.iload_n 2, 1) := by decide +kernel
theorem dX7_kink_81 : decode cX7_kink 81 = .ok (.invokevirtual 140, 3) := by decide +kernel
theorem dX7_kink_84 : decode cX7_kink 84 = .ok (.iload_n 3, 1) := by decide +kernel
theorem dX7_kink_85 : decode cX7_kink 85 = .ok (.ireturn, 1) := by decide +kernel
theorem dX7_poke_0 : decode cX7_poke 0 = .ok (.aload_n 0, 1) := by decide +kernel
theorem dX7_poke_1 : decode cX7_poke 1 = .ok (.iload_n 1, 1) := by decide +kernel
theorem dX7_poke_2 : decode cX7_poke 2 = .ok (.invokevirtual 144, 3) := by decide +kernel
theorem dX7_poke_5 : decode cX7_poke 5 = .ok (.ifCond .eq 11, 3) := by decide +kernel
theorem dX7_poke_8 : decode cX7_poke 8 = .ok (.aload_n 0, 1) := by decide +kernel
theorem dX7_poke_9 : decode cX7_poke 9 = .ok (.iload_n 2, 1) := by decide +kernel
theorem dX7_poke_10 : decode cX7_poke 10 = .ok (.invokevirtual 144, 3) := by decide +kernel
theorem dX7_poke_13 : decode cX7_poke 13 = .ok (.ifCond .ne 5, 3) := by decide +kernel
theorem dX7_poke_16 : decode cX7_poke 16 = .ok (.iconst (-1), 1) := by decide +kernel
theorem dX7_poke_17 : decode cX7_poke 17 = .ok (.ireturn, 1) := by decide +kernel
theorem dX7_poke_18 : decode cX7_poke 18 = .ok (.aload_n 0, 1) := by decide +kernel
theorem dX7_poke_19 : decode cX7_poke 19 = .ok (.getfield 7, 3) := by decide +kernel
theorem dX7_poke_22 : decode cX7_poke 22 = .ok (.bipush 37, 2) := by decide +kernel
theorem dX7_poke_24 : decode cX7_poke 24 = .ok (.iaload, 1) := by decide +kernel
theorem dX7_poke_25 : decode cX7_poke 25 = .ok (.iconst 5, 1) := by decide +kernel
theorem dX7_poke_26 : decode cX7_poke 26 = .ok (.if_icmp .gt 15, 3) := by decide +kernel
theorem dX7_poke_29 : decode cX7_poke 29 = .ok (.aload_n 0, 1) := by decide +kernel
theorem dX7_poke_30 : decode cX7_poke 30 = .ok (.getfield 7, 3) := by decide +kernel
theorem dX7_poke_33 : decode cX7_poke 33 = .ok (.bipush 38, 2) := by decide +kernel
theorem dX7_poke_35 : decode cX7_poke 35 = .ok (.iaload, 1) := by decide +kernel
theorem dX7_poke_36 : decode cX7_poke 36 = .ok (.bipush 8, 2) := by decide +kernel
theorem dX7_poke_38 : decode cX7_poke 38 = .ok (.if_icmp .le 6, 3) := by decide +kernel
theorem dX7_poke_41 : decode cX7_poke 41 = .ok (.bipush (-4), 2) := by decide +kernel
theorem dX7_poke_43 : decode cX7_poke 43 = .ok (.ireturn, 1) := by decide +kernel
theorem dX7_poke_44 : decode cX7_poke 44 = .ok (.aload_n 0, 1) := by decide +kernel
theorem dX7_poke_45 : decode cX7_poke 45 = .ok (.invokevirtual 39, 3) := by decide +kernel
theorem dX7_poke_48 : decode cX7_poke 48 = .ok (.aload_n 0, 1) := by decide +kernel
theorem dX7_poke_49 : decode cX7_poke 49 = .ok (.getfield 7, 3) := by decide +kernel
theorem dX7_poke_52 : decode cX7_poke 52 = .ok (.bipush 37, 2) := by decide +kernel
theorem dX7_poke_54 : decode cX7_poke 54 = .ok (.iaload, 1) := by decide +kernel
theorem dX7_poke_55 : decode cX7_poke 55 = .ok (.istore_n 3, 1) := by decide +kernel
theorem dX7_poke_56 : decode cX7_poke 56 = .ok (.aload_n 0, 1) := by decide +kernel
theorem dX7_poke_57 : decode cX7_poke 57 = .ok (.getfield 7, 3) := by decide +kernel
theorem dX7_poke_60 : decode cX7_poke 60 = .ok (.bipush 37, 2) := by decide +kernel
theorem dX7_poke_62 : decode cX7_poke 62 = .ok (.dup2, 1) := by decide +kernel
theorem dX7_poke_63 : decode cX7_poke 63 = .ok (.iaload, 1) := by decide +kernel
theorem dX7_poke_64 : decode cX7_poke 64 = .ok (.iconst 2, 1) := by decide +kernel
theorem dX7_poke_65 : decode cX7_poke 65 = .ok (.iadd, 1) := by decide +kernel
theorem dX7_poke_66 : decode cX7_poke 66 = .ok (.iastore, 1) := by decide +kernel
theorem dX7_poke_67 : decode cX7_poke 67 = .ok (.aload_n 0, 1) := by decide +kernel
theorem dX7_poke_68 : decode cX7_poke 68 = .ok (.iload_n 1, 1) := by decide +kernel
theorem dX7_poke_69 : decode cX7_poke 69 = .ok (.iload_n 3, 1) := by decide +kernel
theorem dX7_poke_70 : decode cX7_poke 70 = .ok (.iconst 1, 1) := by decide +kernel
theorem dX7_poke_71 : decode cX7_poke 71 = .ok (.iadd, 1) := by decide +kernel
theorem dX7_poke_72 : decode cX7_poke 72 = .ok (.invokevirtual 156, 3) := by decide +kernel
theorem dX7_poke_75 : decode cX7_poke 75 = .ok (.aload_n 0, 1) := by decide +kernel
theorem dX7_poke_76 : decode cX7_poke 76 = .ok (.iload_n 2, 1) := by decide +kernel
theorem dX7_poke_77 : decode cX7_poke 77 = .ok (.iload_n 1, 1) := by decide +kernel
theorem dX7_poke_78 : decode cX7_poke 78 = .ok (.iload_n 3, 1) := by decide +kernel
theorem dX7_poke_79 : decode cX7_poke 79 = .ok (.iconst 1, 1) := by decide +kernel
theorem dX7_poke_80 : decode cX7_poke 80 = .ok (.invokevirtual 140, 3) := by decide +kernel
theorem dX7_poke_83 : decode cX7_poke 83 = .ok (.aload_n 0, 1) := by decide +kernel
theorem dX7_poke_84 : decode cX7_poke 84 = .ok (.iload_n 2, 1) := by decide +kernel
theorem dX7_poke_85 : decode cX7_poke 85 = .ok (.iload_n 3, 1) := by decide +kernel
theorem dX7_poke_86 : decode cX7_poke 86 = .ok (.iload_n 3, 1) := by decide +kernel
theorem dX7_poke_87 : decode cX7_poke 87 = .ok (.iconst 1, 1) := by decide +kernel
theorem dX7_poke_88 : decode cX7_poke 88 = .ok (.iadd, 1) := by decide +kernel
theorem dX7_poke_89 : decode cX7_poke 89 = .ok (.iconst (-1), 1) := by decide +kernel
theorem dX7_poke_90 : decode cX7_poke 90 = .ok (.invokevirtual 140, 3) := by decide +kernel
theorem dX7_poke_93 : decode cX7_poke 93 = .ok (.aload_n 0, 1) := by decide +kernel
theorem dX7_poke_94 : decode cX7_poke 94 = .ok (.getfield 7, 3) := by decide +kernel
theorem dX7_poke_97 : decode cX7_poke 97 = .ok (.bipush 37, 2) := by decide +kernel
theorem dX7_poke_99 : decode cX7_poke 99 = .ok (.iaload, 1) := by decide +kernel
theorem dX7_poke_100 : decode cX7_poke 100 = .ok (.ireturn, 1) := by decide +kernel
theorem dX7_arcs_0 : decode cX7_arcs 0 = .ok (.aload_n 0, 1) := by decide +kernel
theorem dX7_arcs_1 : decode cX7_arcs 1 = .ok (.getfield 7, 3) := by decide +kernel
theorem dX7_arcs_4 : decode cX7_arcs 4 = .ok (.bipush 37, 2) := by decide +kernel
theorem dX7_arcs_6 : decode cX7_arcs 6 = .ok (.iaload, 1) := by decide +kernel
theorem dX7_arcs_7 : decode cX7_arcs 7 = .ok (.ireturn, 1) := by decide +kernel
theorem dX7_crossings_0 : decode cX7_crossings 0 = .ok (.aload_n 0, 1) := by decide +kernel
theorem dX7_crossings_1 : decode cX7_crossings 1 = .ok (.getfield 7, 3) := by decide +kernel
theorem dX7_crossings_4 : decode cX7_crossings 4 = .ok (.bipush 38, 2) := by decide +kernel
theorem dX7_crossings_6 : decode cX7_crossings 6 = .ok (.iaload, 1) := by decide +kernel
theorem dX7_crossings_7 : decode cX7_crossings 7 = .ok (.ireturn, 1) := by decide +kernel
theorem dX7_crossing_0 : decode cX7_crossing 0 = .ok (.aload_n 0, 1) := by decide +kernel
theorem dX7_crossing_1 : decode cX7_crossing 1 = .ok (.iload_n 1, 1) := by decide +kernel
theorem dX7_crossing_2 : decode cX7_crossing 2 = .ok (.invokevirtual 150, 3) := by decide +kernel
theorem dX7_crossing_5 : decode cX7_crossing 5 = .ok (.ifCond .ne 5, 3) := by decide +kernel
theorem dX7_crossing_8 : decode cX7_crossing 8 = .ok (.iconst (-1), 1) := by decide +kernel
theorem dX7_crossing_9 : decode cX7_crossing 9 = .ok (.ireturn, 1) := by decide +kernel
theorem dX7_crossing_10 : decode cX7_crossing 10 = .ok (.iload_n 2, 1) := by decide +kernel
theorem dX7_crossing_11 : decode cX7_crossing 11 = .ok (.iconst 0, 1) := by decide +kernel
theorem dX7_crossing_12 : decode cX7_crossing 12 = .ok (.iconst 3, 1) := by decide +kernel
theorem dX7_crossing_13 : decode cX7_crossing 13 = .ok (.invokestatic 35, 3) := by decide +kernel
theorem dX7_crossing_16 : decode cX7_crossing 16 = .ok (.ifCond .eq 12, 3) := by decide +kernel
theorem dX7_crossing_19 : decode cX7_crossing 19 = .ok (.aload_n 0, 1) := by decide +kernel
theorem dX7_crossing_20 : decode cX7_crossing 20 = .ok (.iload_n 1, 1) := by decide +kernel
theorem dX7_crossing_21 : decode cX7_crossing 21 = .ok (.iload_n 2, 1) := by decide +kernel
theorem dX7_crossing_22 : decode cX7_crossing 22 = .ok (.invokevirtual 153, 3) := by decide +kernel
theorem dX7_crossing_25 : decode cX7_crossing 25 = .ok (.goto 5, 3) := by decide +kernel
theorem dX7_crossing_28 : decode cX7_crossing 28 = .ok (.bipush (-2), 2) := by decide +kernel
theorem dX7_crossing_30 : decode cX7_crossing 30 = .ok (.ireturn, 1) := by decide +kernel
theorem dX7_isClosed_0 : decode cX7_isClosed 0 = .ok (.iconst 1, 1) := by decide +kernel
theorem dX7_isClosed_1 : decode cX7_isClosed 1 = .ok (.istore_n 1, 1) := by decide +kernel
theorem dX7_isClosed_2 : decode cX7_isClosed 2 = .ok (.iconst 0, 1) := by decide +kernel
theorem dX7_isClosed_3 : decode cX7_isClosed 3 = .ok (.istore_n 2, 1) := by decide +kernel
theorem dX7_isClosed_4 : decode cX7_isClosed 4 = .ok (.iload_n 2, 1) := by decide +kernel
theorem dX7_isClosed_5 : decode cX7_isClosed 5 = .ok (.aload_n 0, 1) := by decide +kernel
theorem dX7_isClosed_6 : decode cX7_isClosed 6 = .ok (.getfield 7, 3) := by decide +kernel
theorem dX7_isClosed_9 : decode cX7_isClosed 9 = .ok (.bipush 37, 2) := by decide +kernel
theorem dX7_isClosed_11 : decode cX7_isClosed 11 = .ok (.iaload, 1) := by decide +kernel
theorem dX7_isClosed_12 : decode cX7_isClosed 12 = .ok (.if_icmp .ge 96, 3) := by decide +kernel
theorem dX7_isClosed_15 : decode cX7_isClosed 15 = .ok (.iconst 0, 1) := by decide +kernel
theorem dX7_isClosed_16 : decode cX7_isClosed 16 = .ok (.istore_n 3, 1) := by decide +kernel
theorem dX7_isClosed_17 : decode cX7_isClosed 17 = .ok (.iconst 0, 1) := by decide +kernel
theorem dX7_isClosed_18 : decode cX7_isClosed 18 = .ok (.istore 4, 2) := by decide +kernel
theorem dX7_isClosed_20 : decode cX7_isClosed 20 = .ok (.iconst 0, 1) := by decide +kernel
theorem dX7_isClosed_21 : decode cX7_isClosed 21 = .ok (.istore 5, 2) := by decide +kernel
theorem dX7_isClosed_23 : decode cX7_isClosed 23 = .ok (.iload 5, 2) := by decide +kernel
theorem dX7_isClosed_25 : decode cX7_isClosed 25 = .ok (.aload_n 0, 1) := by decide +kernel
theorem dX7_isClosed_26 : decode cX7_isClosed 26 = .ok (.getfield 7, 3) := by decide +kernel
theorem dX7_isClosed_29 : decode cX7_isClosed 29 = .ok (.bipush 38, 2) := by decide +kernel
theorem dX7_isClosed_31 : decode cX7_isClosed 31 = .ok (.iaload, 1) := by decide +kernel
theorem dX7_isClosed_32 : decode cX7_isClosed 32 = .ok (.if_icmp .ge 49, 3) := by decide +kernel
theorem dX7_isClosed_35 : decode cX7_isClosed 35 = .ok (.iload_n 3, 1) := by decide +kernel
theorem dX7_isClosed_36 : decode cX7_isClosed 36 = .ok (.aload_n 0, 1) := by decide +kernel
theorem dX7_isClosed_37 : decode cX7_isClosed 37 = .ok (.iload 5, 2) := by decide +kernel
theorem dX7_isClosed_39 : decode cX7_isClosed 39 = .ok (.iconst 1, 1) := by decide +kernel
theorem dX7_isClosed_40 : decode cX7_isClosed 40 = .ok (.invokevirtual 153, 3) := by decide +kernel
theorem dX7_isClosed_43 : decode cX7_isClosed 43 = .ok (.iload_n 2, 1) := by decide +kernel
theorem dX7_isClosed_44 : decode cX7_isClosed 44 = .ok (.if_icmp .ne 7, 3) := by decide +kernel
theorem dX7_isClosed_47 : decode cX7_isClosed 47 = .ok (.iconst 1, 1) := by decide +kernel
theorem dX7_isClosed_48 : decode cX7_isClosed 48 = .ok (.goto 4, 3) := by decide +kernel
theorem dX7_isClosed_51 : decode cX7_isClosed 51 = .ok (.iconst 0, 1) := by decide +kernel
theorem dX7_isClosed_52 : decode cX7_isClosed 52 = .ok (.iadd, 1) := by decide +kernel
theorem dX7_isClosed_53 : decode cX7_isClosed 53 = .ok (.istore_n 3, 1) := by decide +kernel
theorem dX7_isClosed_54 : decode cX7_isClosed 54 = .ok (.iload 4, 2) := by decide +kernel
theorem dX7_isClosed_56 : decode cX7_isClosed 56 = .ok (.aload_n 0, 1) := by decide +kernel
theorem dX7_isClosed_57 : decode cX7_isClosed 57 = .ok (.iload 5, 2) := by decide +kernel
theorem dX7_isClosed_59 : decode cX7_isClosed 59 = .ok (.iconst 2, 1) := by decide +kernel
theorem dX7_isClosed_60 : decode cX7_isClosed 60 = .ok (.invokevirtual 153, 3) := by decide +kernel
theorem dX7_isClosed_63 : decode cX7_isClosed 63 = .ok (.iload_n 2, 1) := by decide +kernel
theorem dX7_isClosed_64 : decode cX7_isClosed 64 = .ok (.if_icmp .ne 7, 3) := by decide +kernel
theorem dX7_isClosed_67 : decode cX7_isClosed 67 = .ok (.iconst 1, 1) := by decide +kernel
theorem dX7_isClosed_68 : decode cX7_isClosed 68 = .ok (.goto 4, 3) := by decide +kernel
theorem dX7_isClosed_71 : decode cX7_isClosed 71 = .ok (.iconst 0, 1) := by decide +kernel
theorem dX7_isClosed_72 : decode cX7_isClosed 72 = .ok (.iadd, 1) := by decide +kernel
theorem dX7_isClosed_73 : decode cX7_isClosed 73 = .ok (.istore 4, 2) := by decide +kernel
theorem dX7_isClosed_75 : decode cX7_isClosed 75 = .ok (.iinc 5 1, 3) := by decide +kernel
theorem dX7_isClosed_78 : decode cX7_isClosed 78 = .ok (.goto (-55), 3) := by decide +kernel
theorem dX7_isClosed_81 : decode cX7_isClosed 81 = .ok (.iload_n 1, 1) := by decide +kernel
theorem dX7_isClosed_82 : decode cX7_isClosed 82 = .ok (.ifCond .eq 18, 3) := by decide +kernel
theorem dX7_isClosed_85 : decode cX7_isClosed 85 = .ok (.iload_n 3, 1) := by decide +kernel
theorem dX7_isClosed_86 : decode cX7_isClosed 86 = .ok (.iload 4, 2) := by decide +kernel
theorem dX7_isClosed_88 : decode cX7_isClosed 88 = .ok (.if_icmp .ne 12, 3) := by decide +kernel
theorem dX7_isClosed_91 : decode cX7_isClosed 91 = .ok (.iload_n 3, 1) := by decide +kernel
theorem dX7_isClosed_92 : decode cX7_isClosed 92 = .ok (.iconst 1, 1) := by decide +kernel
theorem dX7_isClosed_93 : decode cX7_isClosed 93 = .ok (.if_icmp .gt 7, 3) := by decide +kernel
theorem dX7_isClosed_96 : decode cX7_isClosed 96 = .ok (.iconst 1, 1) := by decide +kernel
theorem dX7_isClosed_97 : decode cX7_isClosed 97 = .ok (.goto 4, 3) := by decide +kernel
theorem dX7_isClosed_100 : decode cX7_isClosed 100 = .ok (.iconst 0, 1) := by decide +kernel
theorem dX7_isClosed_101 : decode cX7_isClosed 101 = .ok (.istore_n 1, 1) := by decide +kernel
theorem dX7_isClosed_102 : decode cX7_isClosed 102 = .ok (.iinc 2 1, 3) := by decide +kernel
theorem dX7_isClosed_105 : decode cX7_isClosed 105 = .ok (.goto (-101), 3) := by decide +kernel
theorem dX7_isClosed_108 : decode cX7_isClosed 108 = .ok (.iload_n 1, 1) := by decide +kernel
theorem dX7_isClosed_109 : decode cX7_isClosed 109 = .ok (.ireturn, 1) := by decide +kernel
theorem dX7_findParts_0 : decode cX7_findParts 0 = .ok (.aload_n 0, 1) := by decide +kernel
theorem dX7_findParts_1 : decode cX7_findParts 1 = .ok (.aload_n 0, 1) := by decide +kernel
theorem dX7_findParts_2 : decode cX7_findParts 2 = .ok (.getfield 7, 3) := by decide +kernel
theorem dX7_findParts_5 : decode cX7_findParts 5 = .ok (.bipush 37, 2) := by decide +kernel
theorem dX7_findParts_7 : decode cX7_findParts 7 = .ok (.iaload, 1) := by decide +kernel
theorem dX7_findParts_8 : decode cX7_findParts 8 = .ok (.invokevirtual 93, 3) := by decide +kernel
theorem dX7_findParts_11 : decode cX7_findParts 11 = .ok (.iconst 0, 1) := by decide +kernel
theorem dX7_findParts_12 : decode cX7_findParts 12 = .ok (.istore_n 1, 1) := by decide +kernel
theorem dX7_findParts_13 : decode cX7_findParts 13 = .ok (.iload_n 1, 1) := by decide +kernel
theorem dX7_findParts_14 : decode cX7_findParts 14 = .ok (.aload_n 0, 1) := by decide +kernel
theorem dX7_findParts_15 : decode cX7_findParts 15 = .ok (.getfield 7, 3) := by decide +kernel
theorem dX7_findParts_18 : decode cX7_findParts 18 = .ok (.bipush 38, 2) := by decide +kernel
theorem dX7_findParts_20 : decode cX7_findParts 20 = .ok (.iaload, 1) := by decide +kernel
theorem dX7_findParts_21 : decode cX7_findParts 21 = .ok (.if_icmp .ge 32, 3) := by decide +kernel
theorem dX7_findParts_24 : decode cX7_findParts 24 = .ok (.aload_n 0, 1) := by decide +kernel
theorem dX7_findParts_25 : decode cX7_findParts 25 = .ok (.aload_n 0, 1) := by decide +kernel
theorem dX7_findParts_26 : decode cX7_findParts 26 = .ok (.iload_n 1, 1) := by decide +kernel
theorem dX7_findParts_27 : decode cX7_findParts 27 = .ok (.iconst 1, 1) := by decide +kernel
theorem dX7_findParts_28 : decode cX7_findParts 28 = .ok (.invokevirtual 153, 3) := by decide +kernel
theorem dX7_findParts_31 : decode cX7_findParts 31 = .ok (.aload_n 0, 1) := by decide +kernel
theorem dX7_findParts_32 : decode cX7_findParts 32 = .ok (.iload_n 1, 1) := by decide +kernel
theorem dX7_findParts_33 : decode cX7_findParts 33 = .ok (.iconst 2, 1) := by decide +kernel
theorem dX7_findParts_34 : decode cX7_findParts 34 = .ok (.invokevirtual 153, 3) := by decide +kernel
theorem dX7_findParts_37 : decode cX7_findParts 37 = .ok (.aload_n 0, 1) := by decide +kernel
theorem dX7_findParts_38 : decode cX7_findParts 38 = .ok (.getfield 7, 3) := by decide +kernel
theorem dX7_findParts_41 : decode cX7_findParts 41 = .ok (.bipush 37, 2) := by decide +kernel
theorem dX7_findParts_43 : decode cX7_findParts 43 = .ok (.iaload, 1) := by decide +kernel
theorem dX7_findParts_44 : decode cX7_findParts 44 = .ok (.invokevirtual 97, 3) := by decide +kernel
theorem dX7_findParts_47 : decode cX7_findParts 47 = .ok (.iinc 1 1, 3) := by decide +kernel
theorem dX7_findParts_50 : decode cX7_findParts 50 = .ok (.goto (-37), 3) := by decide +kernel
theorem dX7_findParts_53 : decode cX7_findParts 53 = .ok (.return_, 1) := by decide +kernel
theorem dX7_componentsNow_0 : decode cX7_componentsNow 0 = .ok (.aload_n 0, 1) := by decide +kernel
theorem dX7_componentsNow_1 : decode cX7_componentsNow 1 = .ok (.invokevirtual 160, 3) := by decide +kernel
theorem dX7_componentsNow_4 : decode cX7_componentsNow 4 = .ok (.ifCond .ne 6, 3) := by decide +kernel
theorem dX7_componentsNow_7 : decode cX7_componentsNow 7 = .ok (.bipush (-6), 2) := by decide +kernel
theorem dX7_componentsNow_9 : decode cX7_componentsNow 9 = .ok (.ireturn, 1) := by decide +kernel
theorem dX7_componentsNow_10 : decode cX7_componentsNow 10 = .ok (.aload_n 0, 1) := by decide +kernel
theorem dX7_componentsNow_11 : decode cX7_componentsNow 11 = .ok (.invokevirtual 163, 3) := by decide +kernel
theorem dX7_componentsNow_14 : decode cX7_componentsNow 14 = .ok (.aload_n 0, 1) := by decide +kernel
theorem dX7_componentsNow_15 : decode cX7_componentsNow 15 = .ok (.aload_n 0, 1) := by decide +kernel
theorem dX7_componentsNow_16 : decode cX7_componentsNow 16 = .ok (.getfield 7, 3) := by decide +kernel
theorem dX7_componentsNow_19 : decode cX7_componentsNow 19 = .ok (.bipush 37, 2) := by decide +kernel
theorem dX7_componentsNow_21 : decode cX7_componentsNow 21 = .ok (.iaload, 1) := by decide +kernel
theorem dX7_componentsNow_22 : decode cX7_componentsNow 22 = .ok (.invokevirtual 100, 3) := by decide +kernel
theorem dX7_componentsNow_25 : decode cX7_componentsNow 25 = .ok (.ireturn, 1) := by decide +kernel
theorem dX7_components_0 : decode cX7_components 0 = .ok (.aload_n 0, 1) := by decide +kernel
theorem dX7_components_1 : decode cX7_components 1 = .ok (.invokevirtual 166, 3) := by decide +kernel
theorem dX7_components_4 : decode cX7_components 4 = .ok (.ireturn, 1) := by decide +kernel
theorem dX7_writheNow_0 : decode cX7_writheNow 0 = .ok (.bipush 100, 2) := by decide +kernel
theorem dX7_writheNow_2 : decode cX7_writheNow 2 = .ok (.istore_n 1, 1) := by decide +kernel
theorem dX7_writheNow_3 : decode cX7_writheNow 3 = .ok (.iconst 0, 1) := by decide +kernel
theorem dX7_writheNow_4 : decode cX7_writheNow 4 = .ok (.istore_n 2, 1) := by decide +kernel
theorem dX7_writheNow_5 : decode cX7_writheNow 5 = .ok (.iload_n 2, 1) := by decide +kernel
theorem dX7_writheNow_6 : decode cX7_writheNow 6 = .ok (.aload_n 0, 1) := by decide +kernel
theorem dX7_writheNow_7 : decode cX7_writheNow 7 = .ok (.getfield 7, 3) := by decide +kernel
theorem dX7_writheNow_10 : decode cX7_writheNow 10 = .ok (.bipush 38, 2) := by decide +kernel
theorem dX7_writheNow_12 : decode cX7_writheNow 12 = .ok (.iaload, 1) := by decide +kernel
theorem dX7_writheNow_13 : decode cX7_writheNow 13 = .ok (.if_icmp .ge 18, 3) := by decide +kernel
theorem dX7_writheNow_16 : decode cX7_writheNow 16 = .ok (.iload_n 1, 1) := by decide +kernel
theorem dX7_writheNow_17 : decode cX7_writheNow 17 = .ok (.aload_n 0, 1) := by decide +kernel
theorem dX7_writheNow_18 : decode cX7_writheNow 18 = .ok (.iload_n 2, 1) := by decide +kernel
theorem dX7_writheNow_19 : decode cX7_writheNow 19 = .ok (.iconst 3, 1) := by decide +kernel
theorem dX7_writheNow_20 : decode cX7_writheNow 20 = .ok (.invokevirtual 153, 3) := by decide +kernel
theorem dX7_writheNow_23 : decode cX7_writheNow 23 = .ok (.iadd, 1) := by decide +kernel
theorem dX7_writheNow_24 : decode cX7_writheNow 24 = .ok (.istore_n 1, 1) := by decide +kernel
theorem dX7_writheNow_25 : decode cX7_writheNow 25 = .ok (.iinc 2 1, 3) := by decide +kernel
theorem dX7_writheNow_28 : decode cX7_writheNow 28 = .ok (.goto (-23), 3) := by decide +kernel
theorem dX7_writheNow_31 : decode cX7_writheNow 31 = .ok (.iload_n 1, 1) := by decide +kernel
theorem dX7_writheNow_32 : decode cX7_writheNow 32 = .ok (.ireturn, 1) := by decide +kernel
theorem dX7_writhe_0 : decode cX7_writhe 0 = .ok (.aload_n 0, 1) := by decide +kernel
theorem dX7_writhe_1 : decode cX7_writhe 1 = .ok (.invokevirtual 169, 3) := by decide +kernel
theorem dX7_writhe_4 : decode cX7_writhe 4 = .ok (.ireturn, 1) := by decide +kernel
theorem dX7_linking_0 : decode cX7_linking 0 = .ok (.aload_n 0, 1) := by decide +kernel
theorem dX7_linking_1 : decode cX7_linking 1 = .ok (.iload_n 1, 1) := by decide +kernel
theorem dX7_linking_2 : decode cX7_linking 2 = .ok (.invokevirtual 144, 3) := by decide +kernel
theorem dX7_linking_5 : decode cX7_linking 5 = .ok (.ifCond .eq 11, 3) := by decide +kernel
theorem dX7_linking_8 : decode cX7_linking 8 = .ok (.aload_n 0, 1) := by decide +kernel
theorem dX7_linking_9 : decode cX7_linking 9 = .ok (.iload_n 2, 1) := by decide +kernel
theorem dX7_linking_10 : decode cX7_linking 10 = .ok (.invokevirtual 144, 3) := by decide +kernel
theorem dX7_linking_13 : decode cX7_linking 13 = .ok (.ifCond .ne 5, 3) := by decide +kernel
theorem dX7_linking_16 : decode cX7_linking 16 = .ok (.iconst (-1), 1) := by decide +kernel
theorem dX7_linking_17 : decode cX7_linking 17 = .ok (.ireturn, 1) := by decide +kernel
theorem dX7_linking_18 : decode cX7_linking 18 = .ok (.aload_n 0, 1) := by decide +kernel
theorem dX7_linking_19 : decode cX7_linking 19 = .ok (.invokevirtual 160, 3) := by decide +kernel
theorem dX7_linking_22 : decode cX7_linking 22 = .ok (.ifCond .ne 6, 3) := by decide +kernel
theorem dX7_linking_25 : decode cX7_linking 25 = .ok (.bipush (-6), 2) := by decide +kernel
theorem dX7_linking_27 : decode cX7_linking 27 = .ok (.ireturn, 1) := by decide +kernel
theorem dX7_linking_28 : decode cX7_linking 28 = .ok (.aload_n 0, 1) := by decide +kernel
theorem dX7_linking_29 : decode cX7_linking 29 = .ok (.invokevirtual 163, 3) := by decide +kernel
theorem dX7_linking_32 : decode cX7_linking 32 = .ok (.bipush 100, 2) := by decide +kernel
theorem dX7_linking_34 : decode cX7_linking 34 = .ok (.istore_n 3, 1) := by decide +kernel
theorem dX7_linking_35 : decode cX7_linking 35 = .ok (.iconst 0, 1) := by decide +kernel
theorem dX7_linking_36 : decode cX7_linking 36 = .ok (.istore 4, 2) := by decide +kernel
theorem dX7_linking_38 : decode cX7_linking 38 = .ok (.iload 4, 2) := by decide +kernel
theorem dX7_linking_40 : decode cX7_linking 40 = .ok (.aload_n 0, 1) := by decide +kernel
theorem dX7_linking_41 : decode cX7_linking 41 = .ok (.getfield 7, 3) := by decide +kernel
theorem dX7_linking_44 : decode cX7_linking 44 = .ok (.bipush 38, 2) := by decide +kernel
theorem dX7_linking_46 : decode cX7_linking 46 = .ok (.iaload, 1) := by decide +kernel
theorem dX7_linking_47 : decode cX7_linking 47 = .ok (.if_icmp .ge 77, 3) := by decide +kernel
theorem dX7_linking_50 : decode cX7_linking 50 = .ok (.aload_n 0, 1) := by decide +kernel
theorem dX7_linking_51 : decode cX7_linking 51 = .ok (.getfield 25, 3) := by decide +kernel
theorem dX7_linking_54 : decode cX7_linking 54 = .ok (.aload_n 0, 1) := by decide +kernel
theorem dX7_linking_55 : decode cX7_linking 55 = .ok (.iload 4, 2) := by decide +kernel
theorem dX7_linking_57 : decode cX7_linking 57 = .ok (.iconst 0, 1) := by decide +kernel
theorem dX7_linking_58 : decode cX7_linking 58 = .ok (.invokevirtual 153, 3) := by decide +kernel
theorem dX7_linking_61 : decode cX7_linking 61 = .ok (.iaload, 1) := by decide +kernel
theorem dX7_linking_62 : decode cX7_linking 62 = .ok (.aload_n 0, 1) := by decide +kernel
theorem dX7_linking_63 : decode cX7_linking 63 = .ok (.getfield 25, 3) := by decide +kernel
theorem dX7_linking_66 : decode cX7_linking 66 = .ok (.iload_n 1, 1) := by decide +kernel
theorem dX7_linking_67 : decode cX7_linking 67 = .ok (.iaload, 1) := by decide +kernel
theorem dX7_linking_68 : decode cX7_linking 68 = .ok (.if_icmp .ne 28, 3) := by decide +kernel
theorem dX7_linking_71 : decode cX7_linking 71 = .ok (.aload_n 0, 1) := by decide +kernel
theorem dX7_linking_72 : decode cX7_linking 72 = .ok (.getfield 25, 3) := by decide +kernel
theorem dX7_linking_75 : decode cX7_linking 75 = .ok (.aload_n 0, 1) := by decide +kernel
theorem dX7_linking_76 : decode cX7_linking 76 = .ok (.iload 4, 2) := by decide +kernel
theorem dX7_linking_78 : decode cX7_linking 78 = .ok (.iconst 1, 1) := by decide +kernel
theorem dX7_linking_79 : decode cX7_linking 79 = .ok (.invokevirtual 153, 3) := by decide +kernel
theorem dX7_linking_82 : decode cX7_linking 82 = .ok (.iaload, 1) := by decide +kernel
theorem dX7_linking_83 : decode cX7_linking 83 = .ok (.aload_n 0, 1) := by decide +kernel
theorem dX7_linking_84 : decode cX7_linking 84 = .ok (.getfield 25, 3) := by decide +kernel
theorem dX7_linking_87 : decode cX7_linking 87 = .ok (.iload_n 2, 1) := by decide +kernel
theorem dX7_linking_88 : decode cX7_linking 88 = .ok (.iaload, 1) := by decide +kernel
theorem dX7_linking_89 : decode cX7_linking 89 = .ok (.if_icmp .ne 7, 3) := by decide +kernel
theorem dX7_linking_92 : decode cX7_linking 92 = .ok (.iconst 1, 1) := by decide +kernel
theorem dX7_linking_93 : decode cX7_linking 93 = .ok (.goto 4, 3) := by decide +kernel
theorem dX7_linking_96 : decode cX7_linking 96 = .ok (.iconst 0, 1) := by decide +kernel
theorem dX7_linking_97 : decode cX7_linking 97 = .ok (.istore 5, 2) := by decide +kernel
theorem dX7_linking_99 : decode cX7_linking 99 = .ok (.iload_n 3, 1) := by decide +kernel
theorem dX7_linking_100 : decode cX7_linking 100 = .ok (.iload 5, 2) := by decide +kernel
theorem dX7_linking_102 : decode cX7_linking 102 = .ok (.ifCond .eq 13, 3) := by decide +kernel
theorem dX7_linking_105 : decode cX7_linking 105 = .ok (.aload_n 0, 1) := by decide +kernel
theorem dX7_linking_106 : decode cX7_linking 106 = .ok (.iload 4, 2) := by decide +kernel
theorem dX7_linking_108 : decode cX7_linking 108 = .ok (.iconst 3, 1) := by decide +kernel
theorem dX7_linking_109 : decode cX7_linking 109 = .ok (.invokevirtual 153, 3) := by decide +kernel
theorem dX7_linking_112 : decode cX7_linking 112 = .ok (.goto 4, 3) := by decide +kernel
theorem dX7_linking_115 : decode cX7_linking 115 = .ok (.iconst 0, 1) := by decide +kernel
theorem dX7_linking_116 : decode cX7_linking 116 = .ok (.iadd, 1) := by decide +kernel
theorem dX7_linking_117 : decode cX7_linking 117 = .ok (.istore_n 3, 1) := by decide +kernel
theorem dX7_linking_118 : decode cX7_linking 118 = .ok (.iinc 4 1, 3) := by decide +kernel
theorem dX7_linking_121 : decode cX7_linking 121 = .ok (.goto (-83), 3) := by decide +kernel
theorem dX7_linking_124 : decode cX7_linking 124 = .ok (.iload_n 3, 1) := by decide +kernel
theorem dX7_linking_125 : decode cX7_linking 125 = .ok (.ireturn, 1) := by decide +kernel
theorem dX7_isColouring_0 : decode cX7_isColouring 0 = .ok (.iconst 1, 1) := by decide +kernel
theorem dX7_isColouring_1 : decode cX7_isColouring 1 = .ok (.istore_n 1, 1) := by decide +kernel
theorem dX7_isColouring_2 : decode cX7_isColouring 2 = .ok (.iconst 0, 1) := by decide +kernel
theorem dX7_isColouring_3 : decode cX7_isColouring 3 = .ok (.istore_n 2, 1) := by decide +kernel
theorem dX7_isColouring_4 : decode cX7_isColouring 4 = .ok (.iload_n 2, 1) := by decide +kernel
theorem dX7_isColouring_5 : decode cX7_isColouring 5 = .ok (.aload_n 0, 1) := by decide +kernel
theorem dX7_isColouring_6 : decode cX7_isColouring 6 = .ok (.getfield 7, 3) := by decide +kernel
theorem dX7_isColouring_9 : decode cX7_isColouring 9 = .ok (.bipush 38, 2) := by decide +kernel
theorem dX7_isColouring_11 : decode cX7_isColouring 11 = .ok (.iaload, 1) := by decide +kernel
theorem dX7_isColouring_12 : decode cX7_isColouring 12 = .ok (.if_icmp .ge 99, 3) := by decide +kernel
theorem dX7_isColouring_15 : decode cX7_isColouring 15 = .ok (.iload_n 1, 1) := by decide +kernel
theorem dX7_isColouring_16 : decode cX7_isColouring 16 = .ok (.ifCond .eq 95, 3) := by decide +kernel
theorem dX7_isColouring_19 : decode cX7_isColouring 19 = .ok (.aload_n 0, 1) := by decide +kernel
theorem dX7_isColouring_20 : decode cX7_isColouring 20 = .ok (.getfield 28, 3) := by decide +kernel
theorem dX7_isColouring_23 : decode cX7_isColouring 23 = .ok (.aload_n 0, 1) := by decide +kernel
theorem dX7_isColouring_24 : decode cX7_isColouring 24 = .ok (.iload_n 2, 1) := by decide +kernel
theorem dX7_isColouring_25 : decode cX7_isColouring 25 = .ok (.iconst 1, 1) := by decide +kernel
theorem dX7_isColouring_26 : decode cX7_isColouring 26 = .ok (.invokevirtual 153, 3) := by decide +kernel
theorem dX7_isColouring_29 : decode cX7_isColouring 29 = .ok (.iaload, 1) := by decide +kernel
theorem dX7_isColouring_30 : decode cX7_isColouring 30 = .ok (.istore_n 3, 1) := by decide +kernel
theorem dX7_isColouring_31 : decode cX7_isColouring 31 = .ok (.aload_n 0, 1) := by decide +kernel
theorem dX7_isColouring_32 : decode cX7_isColouring 32 = .ok (.getfield 28, 3) := by decide +kernel
theorem dX7_isColouring_35 : decode cX7_isColouring 35 = .ok (.aload_n 0, 1) := by decide +kernel
theorem dX7_isColouring_36 : decode cX7_isColouring 36 = .ok (.iload_n 2, 1) := by decide +kernel
theorem dX7_isColouring_37 : decode cX7_isColouring 37 = .ok (.iconst 2, 1) := by decide +kernel
theorem dX7_isColouring_38 : decode cX7_isColouring 38 = .ok (.invokevirtual 153, 3) := by decide +kernel
theorem dX7_isColouring_41 : decode cX7_isColouring 41 = .ok (.iaload, 1) := by decide +kernel
theorem dX7_isColouring_42 : decode cX7_isColouring 42 = .ok (.istore 4, 2) := by decide +kernel
theorem dX7_isColouring_44 : decode cX7_isColouring 44 = .ok (.aload_n 0, 1) := by decide +kernel
theorem dX7_isColouring_45 : decode cX7_isColouring 45 = .ok (.getfield 28, 3) := by decide +kernel
theorem dX7_isColouring_48 : decode cX7_isColouring 48 = .ok (.aload_n 0, 1) := by decide +kernel
theorem dX7_isColouring_49 : decode cX7_isColouring 49 = .ok (.iload_n 2, 1) := by decide +kernel
theorem dX7_isColouring_50 : decode cX7_isColouring 50 = .ok (.iconst 0, 1) := by decide +kernel
theorem dX7_isColouring_51 : decode cX7_isColouring 51 = .ok (.invokevirtual 153, 3) := by decide +kernel
theorem dX7_isColouring_54 : decode cX7_isColouring 54 = .ok (.iaload, 1) := by decide +kernel
theorem dX7_isColouring_55 : decode cX7_isColouring 55 = .ok (.istore 5, 2) := by decide +kernel
theorem dX7_isColouring_57 : decode cX7_isColouring 57 = .ok (.aload_n 0, 1) := by decide +kernel
theorem dX7_isColouring_58 : decode cX7_isColouring 58 = .ok (.iload_n 2, 1) := by decide +kernel
theorem dX7_isColouring_59 : decode cX7_isColouring 59 = .ok (.iconst 3, 1) := by decide +kernel
theorem dX7_isColouring_60 : decode cX7_isColouring 60 = .ok (.invokevirtual 153, 3) := by decide +kernel
theorem dX7_isColouring_63 : decode cX7_isColouring 63 = .ok (.iconst 1, 1) := by decide +kernel
theorem dX7_isColouring_64 : decode cX7_isColouring 64 = .ok (.if_icmp .ne 23, 3) := by decide +kernel
theorem dX7_isColouring_67 : decode cX7_isColouring 67 = .ok (.iload 4, 2) := by decide +kernel
theorem dX7_isColouring_69 : decode cX7_isColouring 69 = .ok (.aload_n 0, 1) := by decide +kernel
theorem dX7_isColouring_70 : decode cX7_isColouring 70 = .ok (.iload_n 3, 1) := by decide +kernel
theorem dX7_isColouring_71 : decode cX7_isColouring 71 = .ok (.iload 5, 2) := by decide +kernel
theorem dX7_isColouring_73 : decode cX7_isColouring 73 = .ok (.invokevirtual 67, 3) := by decide +kernel
theorem dX7_isColouring_76 : decode cX7_isColouring 76 = .ok (.if_icmp .ne 7, 3) := by decide +kernel
theorem dX7_isColouring_79 : decode cX7_isColouring 79 = .ok (.iconst 1, 1) := by decide +kernel
theorem dX7_isColouring_80 : decode cX7_isColouring 80 = .ok (.goto 24, 3) := by decide +kernel
theorem dX7_isColouring_83 : decode cX7_isColouring 83 = .ok (.iconst 0, 1) := by decide +kernel
theorem dX7_isColouring_84 : decode cX7_isColouring 84 = .ok (.goto 20, 3) := by decide +kernel
theorem dX7_isColouring_87 : decode cX7_isColouring 87 = .ok (.iload_n 3, 1) := by decide +kernel
theorem dX7_isColouring_88 : decode cX7_isColouring 88 = .ok (.aload_n 0, 1) := by decide +kernel
theorem dX7_isColouring_89 : decode cX7_isColouring 89 = .ok (.iload 4, 2) := by decide +kernel
theorem dX7_isColouring_91 : decode cX7_isColouring 91 = .ok (.iload 5, 2) := by decide +kernel
theorem dX7_isColouring_93 : decode cX7_isColouring 93 = .ok (.invokevirtual 67, 3) := by decide +kernel
theorem dX7_isColouring_96 : decode cX7_isColouring 96 = .ok (.if_icmp .ne 7, 3) := by decide +kernel
theorem dX7_isColouring_99 : decode cX7_isColouring 99 = .ok (.iconst 1, 1) := by decide +kernel
theorem dX7_isColouring_100 : decode cX7_isColouring 100 = .ok (.goto 4, 3) := by decide +kernel
theorem dX7_isColouring_103 : decode cX7_isColouring 103 = .ok (.iconst 0, 1) := by decide +kernel
theorem dX7_isColouring_104 : decode cX7_isColouring 104 = .ok (.istore_n 1, 1) := by decide +kernel
theorem dX7_isColouring_105 : decode cX7_isColouring 105 = .ok (.iinc 2 1, 3) := by decide +kernel
theorem dX7_isColouring_108 : decode cX7_isColouring 108 = .ok (.goto (-104), 3) := by decide +kernel
theorem dX7_isColouring_111 : decode cX7_isColouring 111 = .ok (.iload_n 1, 1) := by decide +kernel
theorem dX7_isColouring_112 : decode cX7_isColouring 112 = .ok (.ireturn, 1) := by decide +kernel
theorem dX7_usedColours_0 : decode cX7_usedColours 0 = .ok (.iconst 0, 1) := by decide +kernel
theorem dX7_usedColours_1 : decode cX7_usedColours 1 = .ok (.istore_n 1, 1) := by decide +kernel
theorem dX7_usedColours_2 : decode cX7_usedColours 2 = .ok (.iconst 0, 1) := by decide +kernel
theorem dX7_usedColours_3 : decode cX7_usedColours 3 = .ok (.istore_n 2, 1) := by decide +kernel
theorem dX7_usedColours_4 : decode cX7_usedColours 4 = .ok (.iload_n 2, 1) := by decide +kernel
theorem dX7_usedColours_5 : decode cX7_usedColours 5 = .ok (.aload_n 0, 1) := by decide +kernel
theorem dX7_usedColours_6 : decode cX7_usedColours 6 = .ok (.getfield 7, 3) := by decide +kernel
theorem dX7_usedColours_9 : decode cX7_usedColours 9 = .ok (.bipush 37, 2) := by decide +kernel
theorem dX7_usedColours_11 : decode cX7_usedColours 11 = .ok (.iaload, 1) := by decide +kernel
theorem dX7_usedColours_12 : decode cX7_usedColours 12 = .ok (.if_icmp .ge 20, 3) := by decide +kernel
theorem dX7_usedColours_15 : decode cX7_usedColours 15 = .ok (.iload_n 1, 1) := by decide +kernel
theorem dX7_usedColours_16 : decode cX7_usedColours 16 = .ok (.iconst 1, 1) := by decide +kernel
theorem dX7_usedColours_17 : decode cX7_usedColours 17 = .ok (.aload_n 0, 1) := by decide +kernel
theorem dX7_usedColours_18 : decode cX7_usedColours 18 = .ok (.getfield 28, 3) := by decide +kernel
theorem dX7_usedColours_21 : decode cX7_usedColours 21 = .ok (.iload_n 2, 1) := by decide +kernel
theorem dX7_usedColours_22 : decode cX7_usedColours 22 = .ok (.iaload, 1) := by decide +kernel
theorem dX7_usedColours_23 : decode cX7_usedColours 23 = .ok (.ishl, 1) := by decide +kernel
theorem dX7_usedColours_24 : decode cX7_usedColours 24 = .ok (.ior, 1) := by decide +kernel
theorem dX7_usedColours_25 : decode cX7_usedColours 25 = .ok (.istore_n 1, 1) := by decide +kernel
theorem dX7_usedColours_26 : decode cX7_usedColours 26 = .ok (.iinc 2 1, 3) := by decide +kernel
theorem dX7_usedColours_29 : decode cX7_usedColours 29 = .ok (.goto (-25), 3) := by decide +kernel
theorem dX7_usedColours_32 : decode cX7_usedColours 32 = .ok (.iload_n 1, 1) := by decide +kernel
theorem dX7_usedColours_33 : decode cX7_usedColours 33 = .ok (.invokestatic 71, 3) := by decide +kernel
theorem dX7_usedColours_36 : decode cX7_usedColours 36 = .ok (.ireturn, 1) := by decide +kernel
theorem dX7_beginsColours_0 : decode cX7_beginsColours 0 = .ok (.iconst 0, 1) := by decide +kernel
theorem dX7_beginsColours_1 : decode cX7_beginsColours 1 = .ok (.istore_n 1, 1) := by decide +kernel
theorem dX7_beginsColours_2 : decode cX7_beginsColours 2 = .ok (.iload_n 1, 1) := by decide +kernel
theorem dX7_beginsColours_3 : decode cX7_beginsColours 3 = .ok (.bipush 7, 2) := by decide +kernel
theorem dX7_beginsColours_5 : decode cX7_beginsColours 5 = .ok (.if_icmp .ge 16, 3) := by decide +kernel
theorem dX7_beginsColours_8 : decode cX7_beginsColours 8 = .ok (.aload_n 0, 1) := by decide +kernel
theorem dX7_beginsColours_9 : decode cX7_beginsColours 9 = .ok (.getfield 28, 3) := by decide +kernel
theorem dX7_beginsColours_12 : decode cX7_beginsColours 12 = .ok (.iload_n 1, 1) := by decide +kernel
theorem dX7_beginsColours_13 : decode cX7_beginsColours 13 = .ok (.iconst 0, 1) := by decide +kernel
theorem dX7_beginsColours_14 : decode cX7_beginsColours 14 = .ok (.iastore, 1) := by decide +kernel
theorem dX7_beginsColours_15 : decode cX7_beginsColours 15 = .ok (.iinc 1 1, 3) := by decide +kernel
theorem dX7_beginsColours_18 : decode cX7_beginsColours 18 = .ok (.goto (-16), 3) := by decide +kernel
theorem dX7_beginsColours_21 : decode cX7_beginsColours 21 = .ok (.return_, 1) := by decide +kernel
theorem dX7_goesOnColours_0 : decode cX7_goesOnColours 0 = .ok (.aload_n 0, 1) := by decide +kernel
theorem dX7_goesOnColours_1 : decode cX7_goesOnColours 1 = .ok (.getfield 7, 3) := by decide +kernel
theorem dX7_goesOnColours_4 : decode cX7_goesOnColours 4 = .ok (.bipush 37, 2) := by decide +kernel
theorem dX7_goesOnColours_6 : decode cX7_goesOnColours 6 = .ok (.iaload, 1) := by decide +kernel
theorem dX7_goesOnColours_7 : decode cX7_goesOnColours 7 = .ok (.iconst 1, 1) := by decide +kernel
theorem dX7_goesOnColours_8 : decode cX7_goesOnColours 8 = .ok (.isub, 1) := by decide +kernel
theorem dX7_goesOnColours_9 : decode cX7_goesOnColours 9 = .ok (.istore_n 1, 1) := by decide +kernel
theorem dX7_goesOnColours_10 : decode cX7_goesOnColours 10 = .ok (.iload_n 1, 1) := by decide +kernel
theorem dX7_goesOnColours_11 : decode cX7_goesOnColours 11 = .ok (.ifCond .lt 33, 3) := by decide +kernel
theorem dX7_goesOnColours_14 : decode cX7_goesOnColours 14 = .ok (.aload_n 0, 1) := by decide +kernel
theorem dX7_goesOnColours_15 : decode cX7_goesOnColours 15 = .ok (.getfield 28, 3) := by decide +kernel
theorem dX7_goesOnColours_18 : decode cX7_goesOnColours 18 = .ok (.iload_n 1, 1) := by decide +kernel
theorem dX7_goesOnColours_19 : decode cX7_goesOnColours 19 = .ok (.iaload, 1) := by decide +kernel
theorem dX7_goesOnColours_20 : decode cX7_goesOnColours 20 = .ok (.aload_n 0, 1) := by decide +kernel
theorem dX7_goesOnColours_21 : decode cX7_goesOnColours 21 = .ok (.getfield 7, 3) := by decide +kernel
theorem dX7_goesOnColours_24 : decode cX7_goesOnColours 24 = .ok (.iconst 0, 1) := by decide +kernel
theorem dX7_goesOnColours_25 : decode cX7_goesOnColours 25 = .ok (.iaload, 1) := by decide +kernel
theorem dX7_goesOnColours_26 : decode cX7_goesOnColours 26 = .ok (.iconst 1, 1) := by decide +kernel
theorem dX7_goesOnColours_27 : decode cX7_goesOnColours 27 = .ok (.isub, 1) := by decide +kernel
theorem dX7_goesOnColours_28 : decode cX7_goesOnColours 28 = .ok (.if_icmp .ne 16, 3) := by decide +kernel
theorem dX7_goesOnColours_31 : decode cX7_goesOnColours 31 = .ok (.aload_n 0, 1) := by decide +kernel
theorem dX7_goesOnColours_32 : decode cX7_goesOnColours 32 = .ok (.getfield 28, 3) := by decide +kernel
theorem dX7_goesOnColours_35 : decode cX7_goesOnColours 35 = .ok (.iload_n 1, 1) := by decide +kernel
theorem dX7_goesOnColours_36 : decode cX7_goesOnColours 36 = .ok (.iconst 0, 1) := by decide +kernel
theorem dX7_goesOnColours_37 : decode cX7_goesOnColours 37 = .ok (.iastore, 1) := by decide +kernel
theorem dX7_goesOnColours_38 : decode cX7_goesOnColours 38 = .ok (.iinc 1 (-1), 3) := by decide +kernel
theorem dX7_goesOnColours_41 : decode cX7_goesOnColours 41 = .ok (.goto (-31), 3) := by decide +kernel
theorem dX7_goesOnColours_44 : decode cX7_goesOnColours 44 = .ok (.iload_n 1, 1) := by decide +kernel
theorem dX7_goesOnColours_45 : decode cX7_goesOnColours 45 = .ok (.ifCond .lt 13, 3) := by decide +kernel
theorem dX7_goesOnColours_48 : decode cX7_goesOnColours 48 = .ok (.aload_n 0, 1) := by decide +kernel
theorem dX7_goesOnColours_49 : decode cX7_goesOnColours 49 = .ok (.getfield 28, 3) := by decide +kernel
theorem dX7_goesOnColours_52 : decode cX7_goesOnColours 52 = .ok (.iload_n 1, 1) := by decide +kernel
theorem dX7_goesOnColours_53 : decode cX7_goesOnColours 53 = .ok (.dup2, 1) := by decide +kernel
theorem dX7_goesOnColours_54 : decode cX7_goesOnColours 54 = .ok (.iaload, 1) := by decide +kernel
theorem dX7_goesOnColours_55 : decode cX7_goesOnColours 55 = .ok (.iconst 1, 1) := by decide +kernel
theorem dX7_goesOnColours_56 : decode cX7_goesOnColours 56 = .ok (.iadd, 1) := by decide +kernel
theorem dX7_goesOnColours_57 : decode cX7_goesOnColours 57 = .ok (.iastore, 1) := by decide +kernel
theorem dX7_goesOnColours_58 : decode cX7_goesOnColours 58 = .ok (.iload_n 1, 1) := by decide +kernel
theorem dX7_goesOnColours_59 : decode cX7_goesOnColours 59 = .ok (.ifCond .lt 7, 3) := by decide +kernel
theorem dX7_goesOnColours_62 : decode cX7_goesOnColours 62 = .ok (.iconst 1, 1) := by decide +kernel
theorem dX7_goesOnColours_63 : decode cX7_goesOnColours 63 = .ok (.goto 4, 3) := by decide +kernel
theorem dX7_goesOnColours_66 : decode cX7_goesOnColours 66 = .ok (.iconst 0, 1) := by decide +kernel
theorem dX7_goesOnColours_67 : decode cX7_goesOnColours 67 = .ok (.ireturn, 1) := by decide +kernel
theorem dX7_counts_0 : decode cX7_counts 0 = .ok (.iconst 0, 1) := by decide +kernel
theorem dX7_counts_1 : decode cX7_counts 1 = .ok (.istore 4, 2) := by decide +kernel
theorem dX7_counts_3 : decode cX7_counts 3 = .ok (.aload_n 0, 1) := by decide +kernel
theorem dX7_counts_4 : decode cX7_counts 4 = .ok (.invokevirtual 172, 3) := by decide +kernel
theorem dX7_counts_7 : decode cX7_counts 7 = .ok (.iconst 1, 1) := by decide +kernel
theorem dX7_counts_8 : decode cX7_counts 8 = .ok (.istore 5, 2) := by decide +kernel
theorem dX7_counts_10 : decode cX7_counts 10 = .ok (.iload 5, 2) := by decide +kernel
theorem dX7_counts_12 : decode cX7_counts 12 = .ok (.ifCond .eq 94, 3) := by decide +kernel
theorem dX7_counts_15 : decode cX7_counts 15 = .ok (.iload_n 1, 1) := by decide +kernel
theorem dX7_counts_16 : decode cX7_counts 16 = .ok (.ifCond .eq 52, 3) := by decide +kernel
theorem dX7_counts_19 : decode cX7_counts 19 = .ok (.iload_n 1, 1) := by decide +kernel
theorem dX7_counts_20 : decode cX7_counts 20 = .ok (.iconst 1, 1) := by decide +kernel
theorem dX7_counts_21 : decode cX7_counts 21 = .ok (.if_icmp .ne 16, 3) := by decide +kernel
theorem dX7_counts_24 : decode cX7_counts 24 = .ok (.aload_n 0, 1) := by decide +kernel
theorem dX7_counts_25 : decode cX7_counts 25 = .ok (.getfield 28, 3) := by decide +kernel
theorem dX7_counts_28 : decode cX7_counts 28 = .ok (.iload_n 2, 1) := by decide +kernel
theorem dX7_counts_29 : decode cX7_counts 29 = .ok (.iaload, 1) := by decide +kernel
theorem dX7_counts_30 : decode cX7_counts 30 = .ok (.iload_n 3, 1) := by decide +kernel
theorem dX7_counts_31 : decode cX7_counts 31 = .ok (.if_icmp .ne 41, 3) := by decide +kernel
theorem dX7_counts_34 : decode cX7_counts 34 = .ok (.goto 34, 3) := by decide +kernel
theorem dX7_counts_37 : decode cX7_counts 37 = .ok (.iload_n 1, 1) := by decide +kernel
theorem dX7_counts_38 : decode cX7_counts 38 = .ok (.iconst 2, 1) := by decide +kernel
theorem dX7_counts_39 : decode cX7_counts 39 = .ok (.if_icmp .ne 21, 3) := by decide +kernel
theorem dX7_counts_42 : decode cX7_counts 42 = .ok (.aload_n 0, 1) := by decide +kernel
theorem dX7_counts_43 : decode cX7_counts 43 = .ok (.getfield 28, 3) := by decide +kernel
theorem dX7_counts_46 : decode cX7_counts 46 = .ok (.iload_n 2, 1) := by decide +kernel
theorem dX7_counts_47 : decode cX7_counts 47 = .ok (.iaload, 1) := by decide +kernel
theorem dX7_counts_48 : decode cX7_counts 48 = .ok (.aload_n 0, 1) := by decide +kernel
theorem dX7_counts_49 : decode cX7_counts 49 = .ok (.getfield 28, 3) := by decide +kernel
theorem dX7_counts_52 : decode cX7_counts 52 = .ok (.iload_n 3, 1) := by decide +kernel
theorem dX7_counts_53 : decode cX7_counts 53 = .ok (.iaload, 1) := by decide +kernel
theorem dX7_counts_54 : decode cX7_counts 54 = .ok (.if_icmp .ne 18, 3) := by decide +kernel
theorem dX7_counts_57 : decode cX7_counts 57 = .ok (.goto 11, 3) := by decide +kernel
theorem dX7_counts_60 : decode cX7_counts 60 = .ok (.aload_n 0, 1) := by decide +kernel
theorem dX7_counts_61 : decode cX7_counts 61 = .ok (.invokevirtual 175, 3) := by decide +kernel
theorem dX7_counts_64 : decode cX7_counts 64 = .ok (.iload_n 2, 1) := by decide +kernel
theorem dX7_counts_65 : decode cX7_counts 65 = .ok (.if_icmp .ne 7, 3) := by decide +kernel
theorem dX7_counts_68 : decode cX7_counts 68 = .ok (.iconst 1, 1) := by decide +kernel
theorem dX7_counts_69 : decode cX7_counts 69 = .ok (.goto 4, 3) := by decide +kernel
theorem dX7_counts_72 : decode cX7_counts 72 = .ok (.iconst 0, 1) := by decide +kernel
theorem dX7_counts_73 : decode cX7_counts 73 = .ok (.istore 6, 2) := by decide +kernel
theorem dX7_counts_75 : decode cX7_counts 75 = .ok (.iload 4, 2) := by decide +kernel
theorem dX7_counts_77 : decode cX7_counts 77 = .ok (.iload 6, 2) := by decide +kernel
theorem dX7_counts_79 : decode cX7_counts 79 = .ok (.ifCond .eq 14, 3) := by decide +kernel
theorem dX7_counts_82 : decode cX7_counts 82 = .ok (.aload_n 0, 1) := by decide +kernel
theorem dX7_counts_83 : decode cX7_counts 83 = .ok (.invokevirtual 178, 3) := by decide +kernel
theorem dX7_counts_86 : decode cX7_counts 86 = .ok (.ifCond .eq 7, 3) := by decide +kernel
theorem dX7_counts_89 : decode cX7_counts 89 = .ok (.iconst 1, 1) := by decide +kernel
theorem dX7_counts_90 : decode cX7_counts 90 = .ok (.goto 4, 3) := by decide +kernel
theorem dX7_counts_93 : decode cX7_counts 93 = .ok (.iconst 0, 1) := by decide +kernel
theorem dX7_counts_94 : decode cX7_counts 94 = .ok (.iadd, 1) := by decide +kernel
theorem dX7_counts_95 : decode cX7_counts 95 = .ok (.istore 4, 2) := by decide +kernel
theorem dX7_counts_97 : decode cX7_counts 97 = .ok (.aload_n 0, 1) := by decide +kernel
theorem dX7_counts_98 : decode cX7_counts 98 = .ok (.invokevirtual 181, 3) := by decide +kernel
theorem dX7_counts_101 : decode cX7_counts 101 = .ok (.istore 5, 2) := by decide +kernel
theorem dX7_counts_103 : decode cX7_counts 103 = .ok (.goto (-93), 3) := by decide +kernel
theorem dX7_counts_106 : decode cX7_counts 106 = .ok (.iload 4, 2) := by decide +kernel
theorem dX7_counts_108 : decode cX7_counts 108 = .ok (.ireturn, 1) := by decide +kernel
theorem dX7_colourings_0 : decode cX7_colourings 0 = .ok (.aload_n 0, 1) := by decide +kernel
theorem dX7_colourings_1 : decode cX7_colourings 1 = .ok (.iconst 0, 1) := by decide +kernel
theorem dX7_colourings_2 : decode cX7_colourings 2 = .ok (.iconst 0, 1) := by decide +kernel
theorem dX7_colourings_3 : decode cX7_colourings 3 = .ok (.iconst 0, 1) := by decide +kernel
theorem dX7_colourings_4 : decode cX7_colourings 4 = .ok (.invokevirtual 184, 3) := by decide +kernel
theorem dX7_colourings_7 : decode cX7_colourings 7 = .ok (.ireturn, 1) := by decide +kernel
theorem dX7_colouringsWith_0 : decode cX7_colouringsWith 0 = .ok (.aload_n 0, 1) := by decide +kernel
theorem dX7_colouringsWith_1 : decode cX7_colouringsWith 1 = .ok (.iload_n 1, 1) := by decide +kernel
theorem dX7_colouringsWith_2 : decode cX7_colouringsWith 2 = .ok (.invokevirtual 144, 3) := by decide +kernel
theorem dX7_colouringsWith_5 : decode cX7_colouringsWith 5 = .ok (.ifCond .eq 21, 3) := by decide +kernel
theorem dX7_colouringsWith_8 : decode cX7_colouringsWith 8 = .ok (.aload_n 0, 1) := by decide +kernel
theorem dX7_colouringsWith_9 : decode cX7_colouringsWith 9 = .ok (.iload_n 2, 1) := by decide +kernel
theorem dX7_colouringsWith_10 : decode cX7_colouringsWith 10 = .ok (.invokevirtual 63, 3) := by decide +kernel
theorem dX7_colouringsWith_13 : decode cX7_colouringsWith 13 = .ok (.ifCond .eq 13, 3) := by decide +kernel
theorem dX7_colouringsWith_16 : decode cX7_colouringsWith 16 = .ok (.aload_n 0, 1) := by decide +kernel
theorem dX7_colouringsWith_17 : decode cX7_colouringsWith 17 = .ok (.iconst 1, 1) := by decide +kernel
theorem dX7_colouringsWith_18 : decode cX7_colouringsWith 18 = .ok (.iload_n 1, 1) := by decide +kernel
theorem dX7_colouringsWith_19 : decode cX7_colouringsWith 19 = .ok (.iload_n 2, 1) := by decide +kernel
theorem dX7_colouringsWith_20 : decode cX7_colouringsWith 20 = .ok (.invokevirtual 184, 3) := by decide +kernel
theorem dX7_colouringsWith_23 : decode cX7_colouringsWith 23 = .ok (.goto 4, 3) := by decide +kernel
theorem dX7_colouringsWith_26 : decode cX7_colouringsWith 26 = .ok (.iconst (-1), 1) := by decide +kernel
theorem dX7_colouringsWith_27 : decode cX7_colouringsWith 27 = .ok (.ireturn, 1) := by decide +kernel
theorem dX7_colouringsAlike_0 : decode cX7_colouringsAlike 0 = .ok (.aload_n 0, 1) := by decide +kernel
theorem dX7_colouringsAlike_1 : decode cX7_colouringsAlike 1 = .ok (.iload_n 1, 1) := by decide +kernel
theorem dX7_colouringsAlike_2 : decode cX7_colouringsAlike 2 = .ok (.invokevirtual 144, 3) := by decide +kernel
theorem dX7_colouringsAlike_5 : decode cX7_colouringsAlike 5 = .ok (.ifCond .eq 21, 3) := by decide +kernel
theorem dX7_colouringsAlike_8 : decode cX7_colouringsAlike 8 = .ok (.aload_n 0, 1) := by decide +kernel
theorem dX7_colouringsAlike_9 : decode cX7_colouringsAlike 9 = .ok (.iload_n 2, 1) := by decide +kernel
theorem dX7_colouringsAlike_10 : decode cX7_colouringsAlike 10 = .ok (.invokevirtual 144, 3) := by decide +kernel
theorem dX7_colouringsAlike_13 : decode cX7_colouringsAlike 13 = .ok (.ifCond .eq 13, 3) := by decide +kernel
theorem dX7_colouringsAlike_16 : decode cX7_colouringsAlike 16 = .ok (.aload_n 0, 1) := by decide +kernel
theorem dX7_colouringsAlike_17 : decode cX7_colouringsAlike 17 = .ok (.iconst 2, 1) := by decide +kernel
theorem dX7_colouringsAlike_18 : decode cX7_colouringsAlike 18 = .ok (.iload_n 1, 1) := by decide +kernel
theorem dX7_colouringsAlike_19 : decode cX7_colouringsAlike 19 = .ok (.iload_n 2, 1) := by decide +kernel
theorem dX7_colouringsAlike_20 : decode cX7_colouringsAlike 20 = .ok (.invokevirtual 184, 3) := by decide +kernel
theorem dX7_colouringsAlike_23 : decode cX7_colouringsAlike 23 = .ok (.goto 4, 3) := by decide +kernel
theorem dX7_colouringsAlike_26 : decode cX7_colouringsAlike 26 = .ok (.iconst (-1), 1) := by decide +kernel
theorem dX7_colouringsAlike_27 : decode cX7_colouringsAlike 27 = .ok (.ireturn, 1) := by decide +kernel
theorem dX7_colouringsUsing_0 : decode cX7_colouringsUsing 0 = .ok (.iload_n 1, 1) := by decide +kernel
theorem dX7_colouringsUsing_1 : decode cX7_colouringsUsing 1 = .ok (.iconst 1, 1) := by decide +kernel
theorem dX7_colouringsUsing_2 : decode cX7_colouringsUsing 2 = .ok (.bipush 6, 2) := by decide +kernel
theorem dX7_colouringsUsing_4 : decode cX7_colouringsUsing 4 = .ok (.invokestatic 35, 3) := by decide +kernel
theorem dX7_colouringsUsing_7 : decode cX7_colouringsUsing 7 = .ok (.ifCond .eq 13, 3) := by decide +kernel
theorem dX7_colouringsUsing_10 : decode cX7_colouringsUsing 10 = .ok (.aload_n 0, 1) := by decide +kernel
theorem dX7_colouringsUsing_11 : decode cX7_colouringsUsing 11 = .ok (.iconst 3, 1) := by decide +kernel
theorem dX7_colouringsUsing_12 : decode cX7_colouringsUsing 12 = .ok (.iload_n 1, 1) := by decide +kernel
theorem dX7_colouringsUsing_13 : decode cX7_colouringsUsing 13 = .ok (.iconst 0, 1) := by decide +kernel
theorem dX7_colouringsUsing_14 : decode cX7_colouringsUsing 14 = .ok (.invokevirtual 184, 3) := by decide +kernel
theorem dX7_colouringsUsing_17 : decode cX7_colouringsUsing 17 = .ok (.goto 5, 3) := by decide +kernel
theorem dX7_colouringsUsing_20 : decode cX7_colouringsUsing 20 = .ok (.bipush (-2), 2) := by decide +kernel
theorem dX7_colouringsUsing_22 : decode cX7_colouringsUsing 22 = .ok (.ireturn, 1) := by decide +kernel
theorem dX7_colour_0 : decode cX7_colour 0 = .ok (.iload_n 1, 1) := by decide +kernel
theorem dX7_colour_1 : decode cX7_colour 1 = .ok (.ifCond .lt 11, 3) := by decide +kernel
theorem dX7_colour_4 : decode cX7_colour 4 = .ok (.aload_n 0, 1) := by decide +kernel
theorem dX7_colour_5 : decode cX7_colour 5 = .ok (.iload_n 2, 1) := by decide +kernel
theorem dX7_colour_6 : decode cX7_colour 6 = .ok (.invokevirtual 144, 3) := by decide +kernel
theorem dX7_colour_9 : decode cX7_colour 9 = .ok (.ifCond .ne 5, 3) := by decide +kernel
theorem dX7_colour_12 : decode cX7_colour 12 = .ok (.iconst (-1), 1) := by decide +kernel
theorem dX7_colour_13 : decode cX7_colour 13 = .ok (.ireturn, 1) := by decide +kernel
theorem dX7_colour_14 : decode cX7_colour 14 = .ok (.iload_n 1, 1) := by decide +kernel
theorem dX7_colour_15 : decode cX7_colour 15 = .ok (.istore_n 3, 1) := by decide +kernel
theorem dX7_colour_16 : decode cX7_colour 16 = .ok (.aload_n 0, 1) := by decide +kernel
theorem dX7_colour_17 : decode cX7_colour 17 = .ok (.invokevirtual 172, 3) := by decide +kernel
theorem dX7_colour_20 : decode cX7_colour 20 = .ok (.iconst 1, 1) := by decide +kernel
theorem dX7_colour_21 : decode cX7_colour 21 = .ok (.istore 4, 2) := by decide +kernel
theorem dX7_colour_23 : decode cX7_colour 23 = .ok (.iload 4, 2) := by decide +kernel
theorem dX7_colour_25 : decode cX7_colour 25 = .ok (.ifCond .eq 33, 3) := by decide +kernel
theorem dX7_colour_28 : decode cX7_colour 28 = .ok (.aload_n 0, 1) := by decide +kernel
theorem dX7_colour_29 : decode cX7_colour 29 = .ok (.invokevirtual 178, 3) := by decide +kernel
theorem dX7_colour_32 : decode cX7_colour 32 = .ok (.ifCond .eq 17, 3) := by decide +kernel
theorem dX7_colour_35 : decode cX7_colour 35 = .ok (.iload_n 3, 1) := by decide +kernel
theorem dX7_colour_36 : decode cX7_colour 36 = .ok (.ifCond .ne 10, 3) := by decide +kernel
theorem dX7_colour_39 : decode cX7_colour 39 = .ok (.aload_n 0, 1) := by decide +kernel
theorem dX7_colour_40 : decode cX7_colour 40 = .ok (.getfield 28, 3) := by decide +kernel
theorem dX7_colour_43 : decode cX7_colour 43 = .ok (.iload_n 2, 1) := by decide +kernel
theorem dX7_colour_44 : decode cX7_colour 44 = .ok (.iaload, 1) := by decide +kernel
theorem dX7_colour_45 : decode cX7_colour 45 = .ok (.ireturn, 1) := by decide +kernel
theorem dX7_colour_46 : decode cX7_colour 46 = .ok (.iinc 3 (-1), 3) := by decide +kernel
theorem dX7_colour_49 : decode cX7_colour 49 = .ok (.aload_n 0, 1) := by decide +kernel
theorem dX7_colour_50 : decode cX7_colour 50 = .ok (.invokevirtual 181, 3) := by decide +kernel
theorem dX7_colour_53 : decode cX7_colour 53 = .ok (.istore 4, 2) := by decide +kernel
theorem dX7_colour_55 : decode cX7_colour 55 = .ok (.goto (-32), 3) := by decide +kernel
theorem dX7_colour_58 : decode cX7_colour 58 = .ok (.iconst (-1), 1) := by decide +kernel
theorem dX7_colour_59 : decode cX7_colour 59 = .ok (.ireturn, 1) := by decide +kernel
theorem dX7_type_0 : decode cX7_type 0 = .ok (.iload_n 1, 1) := by decide +kernel
theorem dX7_type_1 : decode cX7_type 1 = .ok (.bipush 33, 2) := by decide +kernel
theorem dX7_type_3 : decode cX7_type 3 = .ok (.bipush 126, 2) := by decide +kernel
theorem dX7_type_5 : decode cX7_type 5 = .ok (.invokestatic 35, 3) := by decide +kernel
theorem dX7_type_8 : decode cX7_type 8 = .ok (.ifCond .ne 6, 3) := by decide +kernel
theorem dX7_type_11 : decode cX7_type 11 = .ok (.bipush (-2), 2) := by decide +kernel
theorem dX7_type_13 : decode cX7_type 13 = .ok (.ireturn, 1) := by decide +kernel
theorem dX7_type_14 : decode cX7_type 14 = .ok (.aload_n 0, 1) := by decide +kernel
theorem dX7_type_15 : decode cX7_type 15 = .ok (.getfield 187, 3) := by decide +kernel
theorem dX7_type_18 : decode cX7_type 18 = .ok (.bipush 70, 2) := by decide +kernel
theorem dX7_type_20 : decode cX7_type 20 = .ok (.if_icmp .ne 6, 3) := by decide +kernel
theorem dX7_type_23 : decode cX7_type 23 = .ok (.bipush (-4), 2) := by decide +kernel
theorem dX7_type_25 : decode cX7_type 25 = .ok (.ireturn, 1) := by decide +kernel
theorem dX7_type_26 : decode cX7_type 26 = .ok (.aload_n 0, 1) := by decide +kernel
theorem dX7_type_27 : decode cX7_type 27 = .ok (.getfield 16, 3) := by decide +kernel
theorem dX7_type_30 : decode cX7_type 30 = .ok (.aload_n 0, 1) := by decide +kernel
theorem dX7_type_31 : decode cX7_type 31 = .ok (.getfield 187, 3) := by decide +kernel
theorem dX7_type_34 : decode cX7_type 34 = .ok (.iload_n 1, 1) := by decide +kernel
theorem dX7_type_35 : decode cX7_type 35 = .ok (.iastore, 1) := by decide +kernel
theorem dX7_type_36 : decode cX7_type 36 = .ok (.aload_n 0, 1) := by decide +kernel
theorem dX7_type_37 : decode cX7_type 37 = .ok (.dup, 1) := by decide +kernel
theorem dX7_type_38 : decode cX7_type 38 = .ok (.getfield 187, 3) := by decide +kernel
theorem dX7_type_41 : decode cX7_type 41 = .ok (.iconst 1, 1) := by decide +kernel
theorem dX7_type_42 : decode cX7_type 42 = .ok (.iadd, 1) := by decide +kernel
theorem dX7_type_43 : decode cX7_type 43 = .ok (.putfield 187, 3) := by decide +kernel
theorem dX7_type_46 : decode cX7_type 46 = .ok (.aload_n 0, 1) := by decide +kernel
theorem dX7_type_47 : decode cX7_type 47 = .ok (.getfield 187, 3) := by decide +kernel
theorem dX7_type_50 : decode cX7_type 50 = .ok (.ireturn, 1) := by decide +kernel
theorem dX7_clearText_0 : decode cX7_clearText 0 = .ok (.aload_n 0, 1) := by decide +kernel
theorem dX7_clearText_1 : decode cX7_clearText 1 = .ok (.getfield 187, 3) := by decide +kernel
theorem dX7_clearText_4 : decode cX7_clearText 4 = .ok (.istore_n 1, 1) := by decide +kernel
theorem dX7_clearText_5 : decode cX7_clearText 5 = .ok (.aload_n 0, 1) := by decide +kernel
theorem dX7_clearText_6 : decode cX7_clearText 6 = .ok (.iconst 0, 1) := by decide +kernel
theorem dX7_clearText_7 : decode cX7_clearText 7 = .ok (.putfield 187, 3) := by decide +kernel
theorem dX7_clearText_10 : decode cX7_clearText 10 = .ok (.iload_n 1, 1) := by decide +kernel
theorem dX7_clearText_11 : decode cX7_clearText 11 = .ok (.ireturn, 1) := by decide +kernel
theorem dX7_character_0 : decode cX7_character 0 = .ok (.iload_n 1, 1) := by decide +kernel
theorem dX7_character_1 : decode cX7_character 1 = .ok (.aload_n 0, 1) := by decide +kernel
theorem dX7_character_2 : decode cX7_character 2 = .ok (.getfield 187, 3) := by decide +kernel
theorem dX7_character_5 : decode cX7_character 5 = .ok (.if_icmp .ge 12, 3) := by decide +kernel
theorem dX7_character_8 : decode cX7_character 8 = .ok (.aload_n 0, 1) := by decide +kernel
theorem dX7_character_9 : decode cX7_character 9 = .ok (.getfield 16, 3) := by decide +kernel
theorem dX7_character_12 : decode cX7_character 12 = .ok (.iload_n 1, 1) := by decide +kernel
theorem dX7_character_13 : decode cX7_character 13 = .ok (.iaload, 1) := by decide +kernel
theorem dX7_character_14 : decode cX7_character 14 = .ok (.goto 4, 3) := by decide +kernel
theorem dX7_character_17 : decode cX7_character 17 = .ok (.iconst (-1), 1) := by decide +kernel
theorem dX7_character_18 : decode cX7_character 18 = .ok (.ireturn, 1) := by decide +kernel
theorem dX7_isNext_0 : decode cX7_isNext 0 = .ok (.aload_n 0, 1) := by decide +kernel
theorem dX7_isNext_1 : decode cX7_isNext 1 = .ok (.aload_n 0, 1) := by decide +kernel
theorem dX7_isNext_2 : decode cX7_isNext 2 = .ok (.getfield 190, 3) := by decide +kernel
theorem dX7_isNext_5 : decode cX7_isNext 5 = .ok (.invokevirtual 193, 3) := by decide +kernel
theorem dX7_isNext_8 : decode cX7_isNext 8 = .ok (.iload_n 1, 1) := by decide +kernel
theorem dX7_isNext_9 : decode cX7_isNext 9 = .ok (.if_icmp .ne 7, 3) := by decide +kernel
theorem dX7_isNext_12 : decode cX7_isNext 12 = .ok (.iconst 1, 1) := by decide +kernel
theorem dX7_isNext_13 : decode cX7_isNext 13 = .ok (.goto 4, 3) := by decide +kernel
theorem dX7_isNext_16 : decode cX7_isNext 16 = .ok (.iconst 0, 1) := by decide +kernel
theorem dX7_isNext_17 : decode cX7_isNext 17 = .ok (.istore_n 2, 1) := by decide +kernel
theorem dX7_isNext_18 : decode cX7_isNext 18 = .ok (.aload_n 0, 1) := by decide +kernel
theorem dX7_isNext_19 : decode cX7_isNext 19 = .ok (.dup, 1) := by decide +kernel
theorem dX7_isNext_20 : decode cX7_isNext 20 = .ok (.getfield 190, 3) := by decide +kernel
theorem dX7_isNext_23 : decode cX7_isNext 23 = .ok (.iload_n 2, 1) := by decide +kernel
theorem dX7_isNext_24 : decode cX7_isNext 24 = .ok (.ifCond .eq 7, 3) := by decide +kernel
theorem dX7_isNext_27 : decode cX7_isNext 27 = .ok (.iconst 1, 1) := by decide +kernel
theorem dX7_isNext_28 : decode cX7_isNext 28 = .ok (.goto 4, 3) := by decide +kernel
theorem dX7_isNext_31 : decode cX7_isNext 31 = .ok (.iconst 0, 1) := by decide +kernel
theorem dX7_isNext_32 : decode cX7_isNext 32 = .ok (.iadd, 1) := by decide +kernel
theorem dX7_isNext_33 : decode cX7_isNext 33 = .ok (.putfield 190, 3) := by decide +kernel
theorem dX7_isNext_36 : decode cX7_isNext 36 = .ok (.iload_n 2, 1) := by decide +kernel
theorem dX7_isNext_37 : decode cX7_isNext 37 = .ok (.ireturn, 1) := by decide +kernel
theorem dX7_arcRead_0 : decode cX7_arcRead 0 = .ok (.aload_n 0, 1) := by decide +kernel
theorem dX7_arcRead_1 : decode cX7_arcRead 1 = .ok (.aload_n 0, 1) := by decide +kernel
theorem dX7_arcRead_2 : decode cX7_arcRead 2 = .ok (.getfield 190, 3) := by decide +kernel
theorem dX7_arcRead_5 : decode cX7_arcRead 5 = .ok (.invokevirtual 193, 3) := by decide +kernel
theorem dX7_arcRead_8 : decode cX7_arcRead 8 = .ok (.bipush 48, 2) := by decide +kernel
theorem dX7_arcRead_10 : decode cX7_arcRead 10 = .ok (.isub, 1) := by decide +kernel
theorem dX7_arcRead_11 : decode cX7_arcRead 11 = .ok (.istore_n 1, 1) := by decide +kernel
theorem dX7_arcRead_12 : decode cX7_arcRead 12 = .ok (.iload_n 1, 1) := by decide +kernel
theorem dX7_arcRead_13 : decode cX7_arcRead 13 = .ok (.iconst 0, 1) := by decide +kernel
theorem dX7_arcRead_14 : decode cX7_arcRead 14 = .ok (.bipush 6, 2) := by decide +kernel
theorem dX7_arcRead_16 : decode cX7_arcRead 16 = .ok (.invokestatic 35, 3) := by decide +kernel
theorem dX7_arcRead_19 : decode cX7_arcRead 19 = .ok (.ifCond .ne 6, 3) := by decide +kernel
theorem dX7_arcRead_22 : decode cX7_arcRead 22 = .ok (.bipush (-6), 2) := by decide +kernel
theorem dX7_arcRead_24 : decode cX7_arcRead 24 = .ok (.ireturn, 1) := by decide +kernel
theorem dX7_arcRead_25 : decode cX7_arcRead 25 = .ok (.aload_n 0, 1) := by decide +kernel
theorem dX7_arcRead_26 : decode cX7_arcRead 26 = .ok (.dup, 1) := by decide +kernel
theorem dX7_arcRead_27 : decode cX7_arcRead 27 = .ok (.getfield 190, 3) := by decide +kernel
theorem dX7_arcRead_30 : decode cX7_arcRead 30 = .ok (.iconst 1, 1) := by decide +kernel
theorem dX7_arcRead_31 : decode cX7_arcRead 31 = .ok (.iadd, 1) := by decide +kernel
theorem dX7_arcRead_32 : decode cX7_arcRead 32 = .ok (.putfield 190, 3) := by decide +kernel
theorem dX7_arcRead_35 : decode cX7_arcRead 35 = .ok (.iload_n 1, 1) := by decide +kernel
theorem dX7_arcRead_36 : decode cX7_arcRead 36 = .ok (.ireturn, 1) := by decide +kernel
theorem dX7_readsCrossing_0 : decode cX7_readsCrossing 0 = .ok (.aload_n 0, 1) := by decide +kernel
theorem dX7_readsCrossing_1 : decode cX7_readsCrossing 1 = .ok (.aload_n 0, 1) := by decide +kernel
theorem dX7_readsCrossing_2 : decode cX7_readsCrossing 2 = .ok (.invokevirtual 196, 3) := by decide +kernel
theorem dX7_readsCrossing_5 : decode cX7_readsCrossing 5 = .ok (.putfield 199, 3) := by decide +kernel
theorem dX7_readsCrossing_8 : decode cX7_readsCrossing 8 = .ok (.aload_n 0, 1) := by decide +kernel
theorem dX7_readsCrossing_9 : decode cX7_readsCrossing 9 = .ok (.getfield 199, 3) := by decide +kernel
theorem dX7_readsCrossing_12 : decode cX7_readsCrossing 12 = .ok (.bipush (-6), 2) := by decide +kernel
theorem dX7_readsCrossing_14 : decode cX7_readsCrossing 14 = .ok (.if_icmp .eq 12, 3) := by decide +kernel
theorem dX7_readsCrossing_17 : decode cX7_readsCrossing 17 = .ok (.aload_n 0, 1) := by decide +kernel
theorem dX7_readsCrossing_18 : decode cX7_readsCrossing 18 = .ok (.bipush 44, 2) := by decide +kernel
theorem dX7_readsCrossing_20 : decode cX7_readsCrossing 20 = .ok (.invokevirtual 202, 3) := by decide +kernel
theorem dX7_readsCrossing_23 : decode cX7_readsCrossing 23 = .ok (.ifCond .ne 5, 3) := by decide +kernel
theorem dX7_readsCrossing_26 : decode cX7_readsCrossing 26 = .ok (.iconst 0, 1) := by decide +kernel
theorem dX7_readsCrossing_27 : decode cX7_readsCrossing 27 = .ok (.ireturn, 1) := by decide +kernel
theorem dX7_readsCrossing_28 : decode cX7_readsCrossing 28 = .ok (.aload_n 0, 1) := by decide +kernel
theorem dX7_readsCrossing_29 : decode cX7_readsCrossing 29 = .ok (.aload_n 0, 1) := by decide +kernel
theorem dX7_readsCrossing_30 : decode cX7_readsCrossing 30 = .ok (.invokevirtual 196, 3) := by decide +kernel
theorem dX7_readsCrossing_33 : decode cX7_readsCrossing 33 = .ok (.putfield 205, 3) := by decide +kernel
theorem dX7_readsCrossing_36 : decode cX7_readsCrossing 36 = .ok (.aload_n 0, 1) := by decide +kernel
theorem dX7_readsCrossing_37 : decode cX7_readsCrossing 37 = .ok (.getfield 205, 3) := by decide +kernel
theorem dX7_readsCrossing_40 : decode cX7_readsCrossing 40 = .ok (.bipush (-6), 2) := by decide +kernel
theorem dX7_readsCrossing_42 : decode cX7_readsCrossing 42 = .ok (.if_icmp .eq 12, 3) := by decide +kernel
theorem dX7_readsCrossing_45 : decode cX7_readsCrossing 45 = .ok (.aload_n 0, 1) := by decide +kernel
theorem dX7_readsCrossing_46 : decode cX7_readsCrossing 46 = .ok (.bipush 44, 2) := by decide +kernel
theorem dX7_readsCrossing_48 : decode cX7_readsCrossing 48 = .ok (.invokevirtual 202, 3) := by decide +kernel
theorem dX7_readsCrossing_51 : decode cX7_readsCrossing 51 = .ok (.ifCond .ne 5, 3) := by decide +kernel
theorem dX7_readsCrossing_54 : decode cX7_readsCrossing 54 = .ok (.iconst 0, 1) := by decide +kernel
theorem dX7_readsCrossing_55 : decode cX7_readsCrossing 55 = .ok (.ireturn, 1) := by decide +kernel
theorem dX7_readsCrossing_56 : decode cX7_readsCrossing 56 = .ok (.aload_n 0, 1) := by decide +kernel
theorem dX7_readsCrossing_57 : decode cX7_readsCrossing 57 = .ok (.aload_n 0, 1) := by decide +kernel
theorem dX7_readsCrossing_58 : decode cX7_readsCrossing 58 = .ok (.invokevirtual 196, 3) := by decide +kernel
theorem dX7_readsCrossing_61 : decode cX7_readsCrossing 61 = .ok (.putfield 208, 3) := by decide +kernel
theorem dX7_readsCrossing_64 : decode cX7_readsCrossing 64 = .ok (.aload_n 0, 1) := by decide +kernel
theorem dX7_readsCrossing_65 : decode cX7_readsCrossing 65 = .ok (.getfield 208, 3) := by decide +kernel
theorem dX7_readsCrossing_68 : decode cX7_readsCrossing 68 = .ok (.bipush (-6), 2) := by decide +kernel
theorem dX7_readsCrossing_70 : decode cX7_readsCrossing 70 = .ok (.if_icmp .ne 5, 3) := by decide +kernel
theorem dX7_readsCrossing_73 : decode cX7_readsCrossing 73 = .ok (.iconst 0, 1) := by decide +kernel
theorem dX7_readsCrossing_74 : decode cX7_readsCrossing 74 = .ok (.ireturn, 1) := by decide +kernel
theorem dX7_readsCrossing_75 : decode cX7_readsCrossing 75 = .ok (.aload_n 0, 1) := by decide +kernel
theorem dX7_readsCrossing_76 : decode cX7_readsCrossing 76 = .ok (.aload_n 0, 1) := by decide +kernel
theorem dX7_readsCrossing_77 : decode cX7_readsCrossing 77 = .ok (.bipush 43, 2) := by decide +kernel
theorem dX7_readsCrossing_79 : decode cX7_readsCrossing 79 = .ok (.invokevirtual 202, 3) := by decide +kernel
theorem dX7_readsCrossing_82 : decode cX7_readsCrossing 82 = .ok (.ifCond .eq 7, 3) := by decide +kernel
theorem dX7_readsCrossing_85 : decode cX7_readsCrossing 85 = .ok (.iconst 1, 1) := by decide +kernel
theorem dX7_readsCrossing_86 : decode cX7_readsCrossing 86 = .ok (.goto 17, 3) := by decide +kernel
theorem dX7_readsCrossing_89 : decode cX7_readsCrossing 89 = .ok (.aload_n 0, 1) := by decide +kernel
theorem dX7_readsCrossing_90 : decode cX7_readsCrossing 90 = .ok (.bipush 45, 2) := by decide +kernel
theorem dX7_readsCrossing_92 : decode cX7_readsCrossing 92 = .ok (.invokevirtual 202, 3) := by decide +kernel
theorem dX7_readsCrossing_95 : decode cX7_readsCrossing 95 = .ok (.ifCond .eq 7, 3) := by decide +kernel
theorem dX7_readsCrossing_98 : decode cX7_readsCrossing 98 = .ok (.iconst (-1), 1) := by decide +kernel
theorem dX7_readsCrossing_99 : decode cX7_readsCrossing 99 = .ok (.goto 4, 3) := by decide +kernel
theorem dX7_readsCrossing_102 : decode cX7_readsCrossing 102 = .ok (.iconst 0, 1) := by decide +kernel
theorem dX7_readsCrossing_103 : decode cX7_readsCrossing 103 = .ok (.putfield 211, 3) := by decide +kernel
theorem dX7_readsCrossing_106 : decode cX7_readsCrossing 106 = .ok (.aload_n 0, 1) := by decide +kernel
theorem dX7_readsCrossing_107 : decode cX7_readsCrossing 107 = .ok (.dup, 1) := by decide +kernel
theorem dX7_readsCrossing_108 : decode cX7_readsCrossing 108 = .ok (.getfield 214, 3) := by decide +kernel
theorem dX7_readsCrossing_111 : decode cX7_readsCrossing 111 = .ok (.iconst 1, 1) := by decide +kernel
theorem dX7_readsCrossing_112 : decode cX7_readsCrossing 112 = .ok (.iadd, 1) := by decide +kernel
theorem dX7_readsCrossing_113 : decode cX7_readsCrossing 113 = .ok (.putfield 214, 3) := by decide +kernel
theorem dX7_readsCrossing_116 : decode cX7_readsCrossing 116 = .ok (.aload_n 0, 1) := by decide +kernel
theorem dX7_readsCrossing_117 : decode cX7_readsCrossing 117 = .ok (.getfield 211, 3) := by decide +kernel
theorem dX7_readsCrossing_120 : decode cX7_readsCrossing 120 = .ok (.ifCond .eq 7, 3) := by decide +kernel
theorem dX7_readsCrossing_123 : decode cX7_readsCrossing 123 = .ok (.iconst 1, 1) := by decide +kernel
theorem dX7_readsCrossing_124 : decode cX7_readsCrossing 124 = .ok (.goto 4, 3) := by decide +kernel
theorem dX7_readsCrossing_127 : decode cX7_readsCrossing 127 = .ok (.iconst 0, 1) := by decide +kernel
theorem dX7_readsCrossing_128 : decode cX7_readsCrossing 128 = .ok (.ireturn, 1) := by decide +kernel
theorem dX7_findError_0 : decode cX7_findError 0 = .ok (.aload_n 0, 1) := by decide +kernel
theorem dX7_findError_1 : decode cX7_findError 1 = .ok (.iconst 0, 1) := by decide +kernel
theorem dX7_findError_2 : decode cX7_findError 2 = .ok (.putfield 190, 3) := by decide +kernel
theorem dX7_findError_5 : decode cX7_findError 5 = .ok (.aload_n 0, 1) := by decide +kernel
theorem dX7_findError_6 : decode cX7_findError 6 = .ok (.iconst 0, 1) := by decide +kernel
theorem dX7_findError_7 : decode cX7_findError 7 = .ok (.putfield 214, 3) := by decide +kernel
theorem dX7_findError_10 : decode cX7_findError 10 = .ok (.aload_n 0, 1) := by decide +kernel
theorem dX7_findError_11 : decode cX7_findError 11 = .ok (.invokevirtual 217, 3) := by decide +kernel
theorem dX7_findError_14 : decode cX7_findError 14 = .ok (.ifCond .ne 8, 3) := by decide +kernel
theorem dX7_findError_17 : decode cX7_findError 17 = .ok (.aload_n 0, 1) := by decide +kernel
theorem dX7_findError_18 : decode cX7_findError 18 = .ok (.getfield 190, 3) := by decide +kernel
theorem dX7_findError_21 : decode cX7_findError 21 = .ok (.ireturn, 1) := by decide +kernel
theorem dX7_findError_22 : decode cX7_findError 22 = .ok (.aload_n 0, 1) := by decide +kernel
theorem dX7_findError_23 : decode cX7_findError 23 = .ok (.getfield 190, 3) := by decide +kernel
theorem dX7_findError_26 : decode cX7_findError 26 = .ok (.aload_n 0, 1) := by decide +kernel
theorem dX7_findError_27 : decode cX7_findError 27 = .ok (.getfield 187, 3) := by decide +kernel
theorem dX7_findError_30 : decode cX7_findError 30 = .ok (.if_icmp .ne 6, 3) := by decide +kernel
theorem dX7_findError_33 : decode cX7_findError 33 = .ok (.bipush (-6), 2) := by decide +kernel
theorem dX7_findError_35 : decode cX7_findError 35 = .ok (.ireturn, 1) := by decide +kernel
theorem dX7_findError_36 : decode cX7_findError 36 = .ok (.aload_n 0, 1) := by decide +kernel
theorem dX7_findError_37 : decode cX7_findError 37 = .ok (.getfield 214, 3) := by decide +kernel
theorem dX7_findError_40 : decode cX7_findError 40 = .ok (.bipush 10, 2) := by decide +kernel
theorem dX7_findError_42 : decode cX7_findError 42 = .ok (.if_icmp .eq 12, 3) := by decide +kernel
theorem dX7_findError_45 : decode cX7_findError 45 = .ok (.aload_n 0, 1) := by decide +kernel
theorem dX7_findError_46 : decode cX7_findError 46 = .ok (.bipush 59, 2) := by decide +kernel
theorem dX7_findError_48 : decode cX7_findError 48 = .ok (.invokevirtual 202, 3) := by decide +kernel
theorem dX7_findError_51 : decode cX7_findError 51 = .ok (.ifCond .ne (-41), 3) := by decide +kernel
theorem dX7_findError_54 : decode cX7_findError 54 = .ok (.aload_n 0, 1) := by decide +kernel
theorem dX7_findError_55 : decode cX7_findError 55 = .ok (.getfield 190, 3) := by decide +kernel
theorem dX7_findError_58 : decode cX7_findError 58 = .ok (.ireturn, 1) := by decide +kernel
theorem dX7_syntaxError_0 : decode cX7_syntaxError 0 = .ok (.aload_n 0, 1) := by decide +kernel
theorem dX7_syntaxError_1 : decode cX7_syntaxError 1 = .ok (.invokevirtual 220, 3) := by decide +kernel
theorem dX7_syntaxError_4 : decode cX7_syntaxError 4 = .ok (.ireturn, 1) := by decide +kernel
theorem dX7_read_0 : decode cX7_read 0 = .ok (.aload_n 0, 1) := by decide +kernel
theorem dX7_read_1 : decode cX7_read 1 = .ok (.invokevirtual 220, 3) := by decide +kernel
theorem dX7_read_4 : decode cX7_read 4 = .ok (.bipush (-6), 2) := by decide +kernel
theorem dX7_read_6 : decode cX7_read 6 = .ok (.if_icmp .eq 6, 3) := by decide +kernel
theorem dX7_read_9 : decode cX7_read 9 = .ok (.bipush (-5), 2) := by decide +kernel
theorem dX7_read_11 : decode cX7_read 11 = .ok (.ireturn, 1) := by decide +kernel
theorem dX7_read_12 : decode cX7_read 12 = .ok (.aload_n 0, 1) := by decide +kernel
theorem dX7_read_13 : decode cX7_read 13 = .ok (.invokevirtual 39, 3) := by decide +kernel
theorem dX7_read_16 : decode cX7_read 16 = .ok (.iconst 0, 1) := by decide +kernel
theorem dX7_read_17 : decode cX7_read 17 = .ok (.istore_n 1, 1) := by decide +kernel
theorem dX7_read_18 : decode cX7_read 18 = .ok (.iconst 0, 1) := by decide +kernel
theorem dX7_read_19 : decode cX7_read 19 = .ok (.istore_n 2, 1) := by decide +kernel
theorem dX7_read_20 : decode cX7_read 20 = .ok (.iload_n 2, 1) := by decide +kernel
theorem dX7_read_21 : decode cX7_read 21 = .ok (.aload_n 0, 1) := by decide +kernel
theorem dX7_read_22 : decode cX7_read 22 = .ok (.getfield 187, 3) := by decide +kernel
theorem dX7_read_25 : decode cX7_read 25 = .ok (.if_icmp .ge 40, 3) := by decide +kernel
theorem dX7_read_28 : decode cX7_read 28 = .ok (.aload_n 0, 1) := by decide +kernel
theorem dX7_read_29 : decode cX7_read 29 = .ok (.getfield 16, 3) := by decide +kernel
theorem dX7_read_32 : decode cX7_read 32 = .ok (.iload_n 2, 1) := by decide +kernel
theorem dX7_read_33 : decode cX7_read 33 = .ok (.iaload, 1) := by decide +kernel
theorem dX7_read_34 : decode cX7_read 34 = .ok (.bipush 48, 2) := by decide +kernel
theorem dX7_read_36 : decode cX7_read 36 = .ok (.isub, 1) := by decide +kernel
theorem dX7_read_37 : decode cX7_read 37 = .ok (.istore_n 3, 1) := by decide +kernel
theorem dX7_read_38 : decode cX7_read 38 = .ok (.iload_n 3, 1) := by decide +kernel
theorem dX7_read_39 : decode cX7_read 39 = .ok (.iconst 0, 1) := by decide +kernel
theorem dX7_read_40 : decode cX7_read 40 = .ok (.bipush 6, 2) := by decide +kernel
theorem dX7_read_42 : decode cX7_read 42 = .ok (.invokestatic 35, 3) := by decide +kernel
theorem dX7_read_45 : decode cX7_read 45 = .ok (.ifCond .eq 12, 3) := by decide +kernel
theorem dX7_read_48 : decode cX7_read 48 = .ok (.iload_n 3, 1) := by decide +kernel
theorem dX7_read_49 : decode cX7_read 49 = .ok (.iload_n 1, 1) := by decide +kernel
theorem dX7_read_50 : decode cX7_read 50 = .ok (.if_icmp .le 7, 3) := by decide +kernel
theorem dX7_read_53 : decode cX7_read 53 = .ok (.iload_n 3, 1) := by decide +kernel
theorem dX7_read_54 : decode cX7_read 54 = .ok (.goto 4, 3) := by decide +kernel
theorem dX7_read_57 : decode cX7_read 57 = .ok (.iload_n 1, 1) := by decide +kernel
theorem dX7_read_58 : decode cX7_read 58 = .ok (.istore_n 1, 1) := by decide +kernel
theorem dX7_read_59 : decode cX7_read 59 = .ok (.iinc 2 1, 3) := by decide +kernel
theorem dX7_read_62 : decode cX7_read 62 = .ok (.goto (-42), 3) := by decide +kernel
theorem dX7_read_65 : decode cX7_read 65 = .ok (.aload_n 0, 1) := by decide +kernel
theorem dX7_read_66 : decode cX7_read 66 = .ok (.iload_n 1, 1) := by decide +kernel
theorem dX7_read_67 : decode cX7_read 67 = .ok (.iconst 1, 1) := by decide +kernel
theorem dX7_read_68 : decode cX7_read 68 = .ok (.iadd, 1) := by decide +kernel
theorem dX7_read_69 : decode cX7_read 69 = .ok (.invokevirtual 137, 3) := by decide +kernel
theorem dX7_read_72 : decode cX7_read 72 = .ok (.aload_n 0, 1) := by decide +kernel
theorem dX7_read_73 : decode cX7_read 73 = .ok (.iconst 0, 1) := by decide +kernel
theorem dX7_read_74 : decode cX7_read 74 = .ok (.putfield 190, 3) := by decide +kernel
theorem dX7_read_77 : decode cX7_read 77 = .ok (.aload_n 0, 1) := by decide +kernel
theorem dX7_read_78 : decode cX7_read 78 = .ok (.getfield 190, 3) := by decide +kernel
theorem dX7_read_81 : decode cX7_read 81 = .ok (.aload_n 0, 1) := by decide +kernel
theorem dX7_read_82 : decode cX7_read 82 = .ok (.getfield 187, 3) := by decide +kernel
theorem dX7_read_85 : decode cX7_read 85 = .ok (.if_icmp .ge 38, 3) := by decide +kernel
theorem dX7_read_88 : decode cX7_read 88 = .ok (.aload_n 0, 1) := by decide +kernel
theorem dX7_read_89 : decode cX7_read 89 = .ok (.invokevirtual 217, 3) := by decide +kernel
theorem dX7_read_92 : decode cX7_read 92 = .ok (.pop, 1) := by decide +kernel
theorem dX7_read_93 : decode cX7_read 93 = .ok (.aload_n 0, 1) := by decide +kernel
theorem dX7_read_94 : decode cX7_read 94 = .ok (.bipush 59, 2) := by decide +kernel
theorem dX7_read_96 : decode cX7_read 96 = .ok (.invokevirtual 202, 3) := by decide +kernel
theorem dX7_read_99 : decode cX7_read 99 = .ok (.pop, 1) := by decide +kernel
theorem dX7_read_100 : decode cX7_read 100 = .ok (.aload_n 0, 1) := by decide +kernel
theorem dX7_read_101 : decode cX7_read 101 = .ok (.aload_n 0, 1) := by decide +kernel
theorem dX7_read_102 : decode cX7_read 102 = .ok (.getfield 199, 3) := by decide +kernel
theorem dX7_read_105 : decode cX7_read 105 = .ok (.aload_n 0, 1) := by decide +kernel
theorem dX7_read_106 : decode cX7_read 106 = .ok (.getfield 205, 3) := by decide +kernel
theorem dX7_read_109 : decode cX7_read 109 = .ok (.aload_n 0, 1) := by decide +kernel
theorem dX7_read_110 : decode cX7_read 110 = .ok (.getfield 208, 3) := by decide +kernel
theorem dX7_read_113 : decode cX7_read 113 = .ok (.aload_n 0, 1) := by decide +kernel
theorem dX7_read_114 : decode cX7_read 114 = .ok (.getfield 211, 3) := by decide +kernel
theorem dX7_read_117 : decode cX7_read 117 = .ok (.invokevirtual 140, 3) := by decide +kernel
theorem dX7_read_120 : decode cX7_read 120 = .ok (.goto (-43), 3) := by decide +kernel
theorem dX7_read_123 : decode cX7_read 123 = .ok (.aload_n 0, 1) := by decide +kernel
theorem dX7_read_124 : decode cX7_read 124 = .ok (.iconst 0, 1) := by decide +kernel
theorem dX7_read_125 : decode cX7_read 125 = .ok (.putfield 187, 3) := by decide +kernel
theorem dX7_read_128 : decode cX7_read 128 = .ok (.aload_n 0, 1) := by decide +kernel
theorem dX7_read_129 : decode cX7_read 129 = .ok (.getfield 7, 3) := by decide +kernel
theorem dX7_read_132 : decode cX7_read 132 = .ok (.bipush 37, 2) := by decide +kernel
theorem dX7_read_134 : decode cX7_read 134 = .ok (.iaload, 1) := by decide +kernel
theorem dX7_read_135 : decode cX7_read 135 = .ok (.ireturn, 1) := by decide +kernel
theorem dX7_undo_0 : decode cX7_undo 0 = .ok (.aload_n 0, 1) := by decide +kernel
theorem dX7_undo_1 : decode cX7_undo 1 = .ok (.getfield 31, 3) := by decide +kernel
theorem dX7_undo_4 : decode cX7_undo 4 = .ok (.ifCond .ne 6, 3) := by decide +kernel
theorem dX7_undo_7 : decode cX7_undo 7 = .ok (.bipush (-3), 2) := by decide +kernel
theorem dX7_undo_9 : decode cX7_undo 9 = .ok (.ireturn, 1) := by decide +kernel
theorem dX7_undo_10 : decode cX7_undo 10 = .ok (.aload_n 0, 1) := by decide +kernel
theorem dX7_undo_11 : decode cX7_undo 11 = .ok (.dup, 1) := by decide +kernel
theorem dX7_undo_12 : decode cX7_undo 12 = .ok (.getfield 31, 3) := by decide +kernel
theorem dX7_undo_15 : decode cX7_undo 15 = .ok (.iconst 1, 1) := by decide +kernel
theorem dX7_undo_16 : decode cX7_undo 16 = .ok (.isub, 1) := by decide +kernel
theorem dX7_undo_17 : decode cX7_undo 17 = .ok (.putfield 31, 3) := by decide +kernel
theorem dX7_undo_20 : decode cX7_undo 20 = .ok (.iconst 0, 1) := by decide +kernel
theorem dX7_undo_21 : decode cX7_undo 21 = .ok (.istore_n 1, 1) := by decide +kernel
theorem dX7_undo_22 : decode cX7_undo 22 = .ok (.iload_n 1, 1) := by decide +kernel
theorem dX7_undo_23 : decode cX7_undo 23 = .ok (.bipush 79, 2) := by decide +kernel
theorem dX7_undo_25 : decode cX7_undo 25 = .ok (.if_icmp .ge 29, 3) := by decide +kernel
theorem dX7_undo_28 : decode cX7_undo 28 = .ok (.aload_n 0, 1) := by decide +kernel
theorem dX7_undo_29 : decode cX7_undo 29 = .ok (.getfield 7, 3) := by decide +kernel
theorem dX7_undo_32 : decode cX7_undo 32 = .ok (.iload_n 1, 1) := by decide +kernel
theorem dX7_undo_33 : decode cX7_undo 33 = .ok (.aload_n 0, 1) := by decide +kernel
theorem dX7_undo_34 : decode cX7_undo 34 = .ok (.getfield 13, 3) := by decide +kernel
theorem dX7_undo_37 : decode cX7_undo 37 = .ok (.aload_n 0, 1) := by decide +kernel
theorem dX7_undo_38 : decode cX7_undo 38 = .ok (.getfield 31, 3) := by decide +kernel
theorem dX7_undo_41 : decode cX7_undo 41 = .ok (.bipush 79, 2) := by decide +kernel
theorem dX7_undo_43 : decode cX7_undo 43 = .ok (.imul, 1) := by decide +kernel
theorem dX7_undo_44 : decode cX7_undo 44 = .ok (.iload_n 1, 1) := by decide +kernel
theorem dX7_undo_45 : decode cX7_undo 45 = .ok (.iadd, 1) := by decide +kernel
theorem dX7_undo_46 : decode cX7_undo 46 = .ok (.iaload, 1) := by decide +kernel
theorem dX7_undo_47 : decode cX7_undo 47 = .ok (.iastore, 1) := by decide +kernel
theorem dX7_undo_48 : decode cX7_undo 48 = .ok (.iinc 1 1, 3) := by decide +kernel
theorem dX7_undo_51 : decode cX7_undo 51 = .ok (.goto (-29), 3) := by decide +kernel
theorem dX7_undo_54 : decode cX7_undo 54 = .ok (.aload_n 0, 1) := by decide +kernel
theorem dX7_undo_55 : decode cX7_undo 55 = .ok (.getfield 31, 3) := by decide +kernel
theorem dX7_undo_58 : decode cX7_undo 58 = .ok (.ireturn, 1) := by decide +kernel
theorem dX7_digest_0 : decode cX7_digest 0 = .ok (.ldc2_w 223, 3) := by decide +kernel
theorem dX7_digest_3 : decode cX7_digest 3 = .ok (.lstore_n 1, 1) := by decide +kernel
theorem dX7_digest_4 : decode cX7_digest 4 = .ok (.ldc2_w 225, 3) := by decide +kernel
theorem dX7_digest_7 : decode cX7_digest 7 = .ok (.lload_n 1, 1) := by decide +kernel
theorem dX7_digest_8 : decode cX7_digest 8 = .ok (.lmul, 1) := by decide +kernel
theorem dX7_digest_9 : decode cX7_digest 9 = .ok (.aload_n 0, 1) := by decide +kernel
theorem dX7_digest_10 : decode cX7_digest 10 = .ok (.getfield 7, 3) := by decide +kernel
theorem dX7_digest_13 : decode cX7_digest 13 = .ok (.iconst 0, 1) := by decide +kernel
theorem dX7_digest_14 : decode cX7_digest 14 = .ok (.iaload, 1) := by decide +kernel
theorem dX7_digest_15 : decode cX7_digest 15 = .ok (.i2l, 1) := by decide +kernel
theorem dX7_digest_16 : decode cX7_digest 16 = .ok (.ladd, 1) := by decide +kernel
theorem dX7_digest_17 : decode cX7_digest 17 = .ok (.lstore_n 1, 1) := by decide +kernel
theorem dX7_digest_18 : decode cX7_digest 18 = .ok (.iconst 0, 1) := by decide +kernel
theorem dX7_digest_19 : decode cX7_digest 19 = .ok (.istore_n 3, 1) := by decide +kernel
theorem dX7_digest_20 : decode cX7_digest 20 = .ok (.iload_n 3, 1) := by decide +kernel
theorem dX7_digest_21 : decode cX7_digest 21 = .ok (.aload_n 0, 1) := by decide +kernel
theorem dX7_digest_22 : decode cX7_digest 22 = .ok (.getfield 7, 3) := by decide +kernel
theorem dX7_digest_25 : decode cX7_digest 25 = .ok (.iconst 0, 1) := by decide +kernel
theorem dX7_digest_26 : decode cX7_digest 26 = .ok (.iaload, 1) := by decide +kernel
theorem dX7_digest_27 : decode cX7_digest 27 = .ok (.if_icmp .ge 44, 3) := by decide +kernel
theorem dX7_digest_30 : decode cX7_digest 30 = .ok (.iconst 0, 1) := by decide +kernel
theorem dX7_digest_31 : decode cX7_digest 31 = .ok (.istore 4, 2) := by decide +kernel
theorem dX7_digest_33 : decode cX7_digest 33 = .ok (.iload 4, 2) := by decide +kernel
theorem dX7_digest_35 : decode cX7_digest 35 = .ok (.aload_n 0, 1) := by decide +kernel
theorem dX7_digest_36 : decode cX7_digest 36 = .ok (.getfield 7, 3) := by decide +kernel
theorem dX7_digest_39 : decode cX7_digest 39 = .ok (.iconst 0, 1) := by decide +kernel
theorem dX7_digest_40 : decode cX7_digest 40 = .ok (.iaload, 1) := by decide +kernel
theorem dX7_digest_41 : decode cX7_digest 41 = .ok (.if_icmp .ge 24, 3) := by decide +kernel
theorem dX7_digest_44 : decode cX7_digest 44 = .ok (.ldc2_w 225, 3) := by decide +kernel
theorem dX7_digest_47 : decode cX7_digest 47 = .ok (.lload_n 1, 1) := by decide +kernel
theorem dX7_digest_48 : decode cX7_digest 48 = .ok (.lmul, 1) := by decide +kernel
theorem dX7_digest_49 : decode cX7_digest 49 = .ok (.aload_n 0, 1) := by decide +kernel
theorem dX7_digest_50 : decode cX7_digest 50 = .ok (.iload_n 3, 1) := by decide +kernel
theorem dX7_digest_51 : decode cX7_digest 51 = .ok (.iload 4, 2) := by decide +kernel
theorem dX7_digest_53 : decode cX7_digest 53 = .ok (.invokevirtual 67, 3) := by decide +kernel
theorem dX7_digest_56 : decode cX7_digest 56 = .ok (.i2l, 1) := by decide +kernel
theorem dX7_digest_57 : decode cX7_digest 57 = .ok (.ladd, 1) := by decide +kernel
theorem dX7_digest_58 : decode cX7_digest 58 = .ok (.lstore_n 1, 1) := by decide +kernel
theorem dX7_digest_59 : decode cX7_digest 59 = .ok (.iinc 4 1, 3) := by decide +kernel
theorem dX7_digest_62 : decode cX7_digest 62 = .ok (.goto (-29), 3) := by decide +kernel
theorem dX7_digest_65 : decode cX7_digest 65 = .ok (.iinc 3 1, 3) := by decide +kernel
theorem dX7_digest_68 : decode cX7_digest 68 = .ok (.goto (-48), 3) := by decide +kernel
theorem dX7_digest_71 : decode cX7_digest 71 = .ok (.iconst 1, 1) := by decide +kernel
theorem dX7_digest_72 : decode cX7_digest 72 = .ok (.istore_n 3, 1) := by decide +kernel
theorem dX7_digest_73 : decode cX7_digest 73 = .ok (.iload_n 3, 1) := by decide +kernel
theorem dX7_digest_74 : decode cX7_digest 74 = .ok (.iconst 3, 1) := by decide +kernel
theorem dX7_digest_75 : decode cX7_digest 75 = .ok (.if_icmp .gt 22, 3) := by decide +kernel
theorem dX7_digest_78 : decode cX7_digest 78 = .ok (.ldc2_w 225, 3) := by decide +kernel
theorem dX7_digest_81 : decode cX7_digest 81 = .ok (.lload_n 1, 1) := by decide +kernel
theorem dX7_digest_82 : decode cX7_digest 82 = .ok (.lmul, 1) := by decide +kernel
theorem dX7_digest_83 : decode cX7_digest 83 = .ok (.aload_n 0, 1) := by decide +kernel
theorem dX7_digest_84 : decode cX7_digest 84 = .ok (.iload_n 3, 1) := by decide +kernel
theorem dX7_digest_85 : decode cX7_digest 85 = .ok (.invokevirtual 90, 3) := by decide +kernel
theorem dX7_digest_88 : decode cX7_digest 88 = .ok (.i2l, 1) := by decide +kernel
theorem dX7_digest_89 : decode cX7_digest 89 = .ok (.ladd, 1) := by decide +kernel
theorem dX7_digest_90 : decode cX7_digest 90 = .ok (.lstore_n 1, 1) := by decide +kernel
theorem dX7_digest_91 : decode cX7_digest 91 = .ok (.iinc 3 1, 3) := by decide +kernel
theorem dX7_digest_94 : decode cX7_digest 94 = .ok (.goto (-21), 3) := by decide +kernel
theorem dX7_digest_97 : decode cX7_digest 97 = .ok (.ldc2_w 225, 3) := by decide +kernel
theorem dX7_digest_100 : decode cX7_digest 100 = .ok (.lload_n 1, 1) := by decide +kernel
theorem dX7_digest_101 : decode cX7_digest 101 = .ok (.lmul, 1) := by decide +kernel
theorem dX7_digest_102 : decode cX7_digest 102 = .ok (.aload_n 0, 1) := by decide +kernel
theorem dX7_digest_103 : decode cX7_digest 103 = .ok (.invokevirtual 103, 3) := by decide +kernel
theorem dX7_digest_106 : decode cX7_digest 106 = .ok (.i2l, 1) := by decide +kernel
theorem dX7_digest_107 : decode cX7_digest 107 = .ok (.ladd, 1) := by decide +kernel
theorem dX7_digest_108 : decode cX7_digest 108 = .ok (.lstore_n 1, 1) := by decide +kernel
theorem dX7_digest_109 : decode cX7_digest 109 = .ok (.ldc2_w 225, 3) := by decide +kernel
theorem dX7_digest_112 : decode cX7_digest 112 = .ok (.lload_n 1, 1) := by decide +kernel
theorem dX7_digest_113 : decode cX7_digest 113 = .ok (.lmul, 1) := by decide +kernel
theorem dX7_digest_114 : decode cX7_digest 114 = .ok (.aload_n 0, 1) := by decide +kernel
theorem dX7_digest_115 : decode cX7_digest 115 = .ok (.invokevirtual 109, 3) := by decide +kernel
theorem dX7_digest_118 : decode cX7_digest 118 = .ok (.i2l, 1) := by decide +kernel
theorem dX7_digest_119 : decode cX7_digest 119 = .ok (.ladd, 1) := by decide +kernel
theorem dX7_digest_120 : decode cX7_digest 120 = .ok (.lstore_n 1, 1) := by decide +kernel
theorem dX7_digest_121 : decode cX7_digest 121 = .ok (.ldc2_w 225, 3) := by decide +kernel
theorem dX7_digest_124 : decode cX7_digest 124 = .ok (.lload_n 1, 1) := by decide +kernel
theorem dX7_digest_125 : decode cX7_digest 125 = .ok (.lmul, 1) := by decide +kernel
theorem dX7_digest_126 : decode cX7_digest 126 = .ok (.aload_n 0, 1) := by decide +kernel
theorem dX7_digest_127 : decode cX7_digest 127 = .ok (.invokevirtual 112, 3) := by decide +kernel
theorem dX7_digest_130 : decode cX7_digest 130 = .ok (.i2l, 1) := by decide +kernel
theorem dX7_digest_131 : decode cX7_digest 131 = .ok (.ladd, 1) := by decide +kernel
theorem dX7_digest_132 : decode cX7_digest 132 = .ok (.lstore_n 1, 1) := by decide +kernel
theorem dX7_digest_133 : decode cX7_digest 133 = .ok (.ldc2_w 225, 3) := by decide +kernel
theorem dX7_digest_136 : decode cX7_digest 136 = .ok (.lload_n 1, 1) := by decide +kernel
theorem dX7_digest_137 : decode cX7_digest 137 = .ok (.lmul, 1) := by decide +kernel
theorem dX7_digest_138 : decode cX7_digest 138 = .ok (.aload_n 0, 1) := by decide +kernel
theorem dX7_digest_139 : decode cX7_digest 139 = .ok (.invokevirtual 127, 3) := by decide +kernel
theorem dX7_digest_142 : decode cX7_digest 142 = .ok (.i2l, 1) := by decide +kernel
theorem dX7_digest_143 : decode cX7_digest 143 = .ok (.ladd, 1) := by decide +kernel
theorem dX7_digest_144 : decode cX7_digest 144 = .ok (.lstore_n 1, 1) := by decide +kernel
theorem dX7_digest_145 : decode cX7_digest 145 = .ok (.ldc2_w 225, 3) := by decide +kernel
theorem dX7_digest_148 : decode cX7_digest 148 = .ok (.lload_n 1, 1) := by decide +kernel
theorem dX7_digest_149 : decode cX7_digest 149 = .ok (.lmul, 1) := by decide +kernel
theorem dX7_digest_150 : decode cX7_digest 150 = .ok (.aload_n 0, 1) := by decide +kernel
theorem dX7_digest_151 : decode cX7_digest 151 = .ok (.invokevirtual 134, 3) := by decide +kernel
theorem dX7_digest_154 : decode cX7_digest 154 = .ok (.i2l, 1) := by decide +kernel
theorem dX7_digest_155 : decode cX7_digest 155 = .ok (.ladd, 1) := by decide +kernel
theorem dX7_digest_156 : decode cX7_digest 156 = .ok (.lstore_n 1, 1) := by decide +kernel
theorem dX7_digest_157 : decode cX7_digest 157 = .ok (.ldc2_w 225, 3) := by decide +kernel
theorem dX7_digest_160 : decode cX7_digest 160 = .ok (.lload_n 1, 1) := by decide +kernel
theorem dX7_digest_161 : decode cX7_digest 161 = .ok (.lmul, 1) := by decide +kernel
theorem dX7_digest_162 : decode cX7_digest 162 = .ok (.aload_n 0, 1) := by decide +kernel
theorem dX7_digest_163 : decode cX7_digest 163 = .ok (.getfield 7, 3) := by decide +kernel
theorem dX7_digest_166 : decode cX7_digest 166 = .ok (.bipush 37, 2) := by decide +kernel
theorem dX7_digest_168 : decode cX7_digest 168 = .ok (.iaload, 1) := by decide +kernel
theorem dX7_digest_169 : decode cX7_digest 169 = .ok (.i2l, 1) := by decide +kernel
theorem dX7_digest_170 : decode cX7_digest 170 = .ok (.ladd, 1) := by decide +kernel
theorem dX7_digest_171 : decode cX7_digest 171 = .ok (.lstore_n 1, 1) := by decide +kernel
theorem dX7_digest_172 : decode cX7_digest 172 = .ok (.ldc2_w 225, 3) := by decide +kernel
theorem dX7_digest_175 : decode cX7_digest 175 = .ok (.lload_n 1, 1) := by decide +kernel
theorem dX7_digest_176 : decode cX7_digest 176 = .ok (.lmul, 1) := by decide +kernel
theorem dX7_digest_177 : decode cX7_digest 177 = .ok (.aload_n 0, 1) := by decide +kernel
theorem dX7_digest_178 : decode cX7_digest 178 = .ok (.getfield 7, 3) := by decide +kernel
theorem dX7_digest_181 : decode cX7_digest 181 = .ok (.bipush 38, 2) := by decide +kernel
theorem dX7_digest_183 : decode cX7_digest 183 = .ok (.iaload, 1) := by decide +kernel
theorem dX7_digest_184 : decode cX7_digest 184 = .ok (.i2l, 1) := by decide +kernel
theorem dX7_digest_185 : decode cX7_digest 185 = .ok (.ladd, 1) := by decide +kernel
theorem dX7_digest_186 : decode cX7_digest 186 = .ok (.lstore_n 1, 1) := by decide +kernel
theorem dX7_digest_187 : decode cX7_digest 187 = .ok (.iconst 0, 1) := by decide +kernel
theorem dX7_digest_188 : decode cX7_digest 188 = .ok (.istore_n 3, 1) := by decide +kernel
theorem dX7_digest_189 : decode cX7_digest 189 = .ok (.iload_n 3, 1) := by decide +kernel
theorem dX7_digest_190 : decode cX7_digest 190 = .ok (.aload_n 0, 1) := by decide +kernel
theorem dX7_digest_191 : decode cX7_digest 191 = .ok (.getfield 7, 3) := by decide +kernel
theorem dX7_digest_194 : decode cX7_digest 194 = .ok (.bipush 38, 2) := by decide +kernel
theorem dX7_digest_196 : decode cX7_digest 196 = .ok (.iaload, 1) := by decide +kernel
theorem dX7_digest_197 : decode cX7_digest 197 = .ok (.if_icmp .ge 39, 3) := by decide +kernel
theorem dX7_digest_200 : decode cX7_digest 200 = .ok (.iconst 0, 1) := by decide +kernel
theorem dX7_digest_201 : decode cX7_digest 201 = .ok (.istore 4, 2) := by decide +kernel
theorem dX7_digest_203 : decode cX7_digest 203 = .ok (.iload 4, 2) := by decide +kernel
theorem dX7_digest_205 : decode cX7_digest 205 = .ok (.iconst 4, 1) := by decide +kernel
theorem dX7_digest_206 : decode cX7_digest 206 = .ok (.if_icmp .ge 24, 3) := by decide +kernel
theorem dX7_digest_209 : decode cX7_digest 209 = .ok (.ldc2_w 225, 3) := by decide +kernel
theorem dX7_digest_212 : decode cX7_digest 212 = .ok (.lload_n 1, 1) := by decide +kernel
theorem dX7_digest_213 : decode cX7_digest 213 = .ok (.lmul, 1) := by decide +kernel
theorem dX7_digest_214 : decode cX7_digest 214 = .ok (.aload_n 0, 1) := by decide +kernel
theorem dX7_digest_215 : decode cX7_digest 215 = .ok (.iload_n 3, 1) := by decide +kernel
theorem dX7_digest_216 : decode cX7_digest 216 = .ok (.iload 4, 2) := by decide +kernel
theorem dX7_digest_218 : decode cX7_digest 218 = .ok (.invokevirtual 153, 3) := by decide +kernel
theorem dX7_digest_221 : decode cX7_digest 221 = .ok (.i2l, 1) := by decide +kernel
theorem dX7_digest_222 : decode cX7_digest 222 = .ok (.ladd, 1) := by decide +kernel
theorem dX7_digest_223 : decode cX7_digest 223 = .ok (.lstore_n 1, 1) := by decide +kernel
theorem dX7_digest_224 : decode cX7_digest 224 = .ok (.iinc 4 1, 3) := by decide +kernel
theorem dX7_digest_227 : decode cX7_digest 227 = .ok (.goto (-24), 3) := by decide +kernel
theorem dX7_digest_230 : decode cX7_digest 230 = .ok (.iinc 3 1, 3) := by decide +kernel
theorem dX7_digest_233 : decode cX7_digest 233 = .ok (.goto (-44), 3) := by decide +kernel
theorem dX7_digest_236 : decode cX7_digest 236 = .ok (.ldc2_w 225, 3) := by decide +kernel
theorem dX7_digest_239 : decode cX7_digest 239 = .ok (.lload_n 1, 1) := by decide +kernel
theorem dX7_digest_240 : decode cX7_digest 240 = .ok (.lmul, 1) := by decide +kernel
theorem dX7_digest_241 : decode cX7_digest 241 = .ok (.aload_n 0, 1) := by decide +kernel
theorem dX7_digest_242 : decode cX7_digest 242 = .ok (.invokevirtual 166, 3) := by decide +kernel
theorem dX7_digest_245 : decode cX7_digest 245 = .ok (.i2l, 1) := by decide +kernel
theorem dX7_digest_246 : decode cX7_digest 246 = .ok (.ladd, 1) := by decide +kernel
theorem dX7_digest_247 : decode cX7_digest 247 = .ok (.lstore_n 1, 1) := by decide +kernel
theorem dX7_digest_248 : decode cX7_digest 248 = .ok (.ldc2_w 225, 3) := by decide +kernel
theorem dX7_digest_251 : decode cX7_digest 251 = .ok (.lload_n 1, 1) := by decide +kernel
theorem dX7_digest_252 : decode cX7_digest 252 = .ok (.lmul, 1) := by decide +kernel
theorem dX7_digest_253 : decode cX7_digest 253 = .ok (.aload_n 0, 1) := by decide +kernel
theorem dX7_digest_254 : decode cX7_digest 254 = .ok (.invokevirtual 169, 3) := by decide +kernel
theorem dX7_digest_257 : decode cX7_digest 257 = .ok (.i2l, 1) := by decide +kernel
theorem dX7_digest_258 : decode cX7_digest 258 = .ok (.ladd, 1) := by decide +kernel
theorem dX7_digest_259 : decode cX7_digest 259 = .ok (.lstore_n 1, 1) := by decide +kernel
theorem dX7_digest_260 : decode cX7_digest 260 = .ok (.ldc2_w 225, 3) := by decide +kernel
theorem dX7_digest_263 : decode cX7_digest 263 = .ok (.lload_n 1, 1) := by decide +kernel
theorem dX7_digest_264 : decode cX7_digest 264 = .ok (.lmul, 1) := by decide +kernel
theorem dX7_digest_265 : decode cX7_digest 265 = .ok (.aload_n 0, 1) := by decide +kernel
theorem dX7_digest_266 : decode cX7_digest 266 = .ok (.iconst 0, 1) := by decide +kernel
theorem dX7_digest_267 : decode cX7_digest 267 = .ok (.iconst 0, 1) := by decide +kernel
theorem dX7_digest_268 : decode cX7_digest 268 = .ok (.iconst 0, 1) := by decide +kernel
theorem dX7_digest_269 : decode cX7_digest 269 = .ok (.invokevirtual 184, 3) := by decide +kernel
theorem dX7_digest_272 : decode cX7_digest 272 = .ok (.i2l, 1) := by decide +kernel
theorem dX7_digest_273 : decode cX7_digest 273 = .ok (.ladd, 1) := by decide +kernel
theorem dX7_digest_274 : decode cX7_digest 274 = .ok (.lstore_n 1, 1) := by decide +kernel
theorem dX7_digest_275 : decode cX7_digest 275 = .ok (.iconst 1, 1) := by decide +kernel
theorem dX7_digest_276 : decode cX7_digest 276 = .ok (.istore_n 3, 1) := by decide +kernel
theorem dX7_digest_277 : decode cX7_digest 277 = .ok (.iload_n 3, 1) := by decide +kernel
theorem dX7_digest_278 : decode cX7_digest 278 = .ok (.bipush 6, 2) := by decide +kernel
theorem dX7_digest_280 : decode cX7_digest 280 = .ok (.if_icmp .gt 24, 3) := by decide +kernel
theorem dX7_digest_283 : decode cX7_digest 283 = .ok (.ldc2_w 225, 3) := by decide +kernel
theorem dX7_digest_286 : decode cX7_digest 286 = .ok (.lload_n 1, 1) := by decide +kernel
theorem dX7_digest_287 : decode cX7_digest 287 = .ok (.lmul, 1) := by decide +kernel
theorem dX7_digest_288 : decode cX7_digest 288 = .ok (.aload_n 0, 1) := by decide +kernel
theorem dX7_digest_289 : decode cX7_digest 289 = .ok (.iconst 3, 1) := by decide +kernel
theorem dX7_digest_290 : decode cX7_digest 290 = .ok (.iload_n 3, 1) := by decide +kernel
theorem dX7_digest_291 : decode cX7_digest 291 = .ok (.iconst 0, 1) := by decide +kernel
theorem dX7_digest_292 : decode cX7_digest 292 = .ok (.invokevirtual 184, 3) := by decide +kernel
theorem dX7_digest_295 : decode cX7_digest 295 = .ok (.i2l, 1) := by decide +kernel
theorem dX7_digest_296 : decode cX7_digest 296 = .ok (.ladd, 1) := by decide +kernel
theorem dX7_digest_297 : decode cX7_digest 297 = .ok (.lstore_n 1, 1) := by decide +kernel
theorem dX7_digest_298 : decode cX7_digest 298 = .ok (.iinc 3 1, 3) := by decide +kernel
theorem dX7_digest_301 : decode cX7_digest 301 = .ok (.goto (-24), 3) := by decide +kernel
theorem dX7_digest_304 : decode cX7_digest 304 = .ok (.lload_n 1, 1) := by decide +kernel
theorem dX7_digest_305 : decode cX7_digest 305 = .ok (.lreturn, 1) := by decide +kernel
end
section
theorem dL_law_0 : decode cL_law 0 = .ok (.new 7, 3) := by decide +kernel
theorem dL_law_3 : decode cL_law 3 = .ok (.dup, 1) := by decide +kernel
theorem dL_law_4 : decode cL_law 4 = .ok (.invokespecial 9, 3) := by decide +kernel
theorem dL_law_7 : decode cL_law 7 = .ok (.astore_n 1, 1) := by decide +kernel
theorem dL_law_8 : decode cL_law 8 = .ok (.new 10, 3) := by decide +kernel
theorem dL_law_11 : decode cL_law 11 = .ok (.dup, 1) := by decide +kernel
theorem dL_law_12 : decode cL_law 12 = .ok (.invokespecial 12, 3) := by decide +kernel
theorem dL_law_15 : decode cL_law 15 = .ok (.astore_n 2, 1) := by decide +kernel
theorem dL_law_16 : decode cL_law 16 = .ok (.iconst 0, 1) := by decide +kernel
theorem dL_law_17 : decode cL_law 17 = .ok (.istore_n 3, 1) := by decide +kernel
theorem dL_law_18 : decode cL_law 18 = .ok (.iload_n 3, 1) := by decide +kernel
theorem dL_law_19 : decode cL_law 19 = .ok (.aload_n 0, 1) := by decide +kernel
theorem dL_law_20 : decode cL_law 20 = .ok (.arraylength, 1) := by decide +kernel
theorem dL_law_21 : decode cL_law 21 = .ok (.iconst 5, 1) := by decide +kernel
theorem dL_law_22 : decode cL_law 22 = .ok (.isub, 1) := by decide +kernel
theorem dL_law_23 : decode cL_law 23 = .ok (.if_icmp .gt 1119, 3) := by decide +kernel
theorem dL_law_26 : decode cL_law 26 = .ok (.aload_n 0, 1) := by decide +kernel
theorem dL_law_27 : decode cL_law 27 = .ok (.iload_n 3, 1) := by decide +kernel
theorem dL_law_28 : decode cL_law 28 = .ok (.iaload, 1) := by decide +kernel
theorem dL_law_29 : decode cL_law 29 = .ok (.bipush 63, 2) := by decide +kernel
theorem dL_law_31 : decode cL_law 31 = .ok (.iand, 1) := by decide +kernel
theorem dL_law_32 : decode cL_law 32 = .ok (.tableswitch 1104 0 40 #[180, 203, 226, 259, 282, 325, 338, 351, 384, 417, 440, 463, 476, 499, 512, 535, 548, 561, 574, 597, 620, 673, 696, 729, 762, 775, 788, 821, 834, 847, 880, 893, 926, 959, 982, 1015, 1038, 1051, 1064, 1077, 1090], 180) := by decide +kernel
theorem dL_law_212 : decode cL_law 212 = .ok (.aload_n 1, 1) := by decide +kernel
theorem dL_law_213 : decode cL_law 213 = .ok (.aload_n 0, 1) := by decide +kernel
theorem dL_law_214 : decode cL_law 214 = .ok (.iload_n 3, 1) := by decide +kernel
theorem dL_law_215 : decode cL_law 215 = .ok (.iconst 1, 1) := by decide +kernel
theorem dL_law_216 : decode cL_law 216 = .ok (.iadd, 1) := by decide +kernel
theorem dL_law_217 : decode cL_law 217 = .ok (.iaload, 1) := by decide +kernel
theorem dL_law_218 : decode cL_law 218 = .ok (.invokevirtual 13, 3) := by decide +kernel
theorem dL_law_221 : decode cL_law 221 = .ok (.aload_n 2, 1) := by decide +kernel
theorem dL_law_222 : decode cL_law 222 = .ok (.aload_n 0, 1) := by decide +kernel
theorem dL_law_223 : decode cL_law 223 = .ok (.iload_n 3, 1) := by decide +kernel
theorem dL_law_224 : decode cL_law 224 = .ok (.iconst 1, 1) := by decide +kernel
theorem dL_law_225 : decode cL_law 225 = .ok (.iadd, 1) := by decide +kernel
theorem dL_law_226 : decode cL_law 226 = .ok (.iaload, 1) := by decide +kernel
theorem dL_law_227 : decode cL_law 227 = .ok (.invokevirtual 17, 3) := by decide +kernel
theorem dL_law_230 : decode cL_law 230 = .ok (.if_icmp .eq 906, 3) := by decide +kernel
theorem dL_law_233 : decode cL_law 233 = .ok (.iconst 0, 1) := by decide +kernel
theorem dL_law_234 : decode cL_law 234 = .ok (.ireturn, 1) := by decide +kernel
theorem dL_law_235 : decode cL_law 235 = .ok (.aload_n 1, 1) := by decide +kernel
theorem dL_law_236 : decode cL_law 236 = .ok (.aload_n 0, 1) := by decide +kernel
theorem dL_law_237 : decode cL_law 237 = .ok (.iload_n 3, 1) := by decide +kernel
theorem dL_law_238 : decode cL_law 238 = .ok (.iconst 1, 1) := by decide +kernel
theorem dL_law_239 : decode cL_law 239 = .ok (.iadd, 1) := by decide +kernel
theorem dL_law_240 : decode cL_law 240 = .ok (.iaload, 1) := by decide +kernel
theorem dL_law_241 : decode cL_law 241 = .ok (.invokevirtual 18, 3) := by decide +kernel
theorem dL_law_244 : decode cL_law 244 = .ok (.aload_n 2, 1) := by decide +kernel
theorem dL_law_245 : decode cL_law 245 = .ok (.aload_n 0, 1) := by decide +kernel
theorem dL_law_246 : decode cL_law 246 = .ok (.iload_n 3, 1) := by decide +kernel
theorem dL_law_247 : decode cL_law 247 = .ok (.iconst 1, 1) := by decide +kernel
theorem dL_law_248 : decode cL_law 248 = .ok (.iadd, 1) := by decide +kernel
theorem dL_law_249 : decode cL_law 249 = .ok (.iaload, 1) := by decide +kernel
theorem dL_law_250 : decode cL_law 250 = .ok (.invokevirtual 21, 3) := by decide +kernel
theorem dL_law_253 : decode cL_law 253 = .ok (.if_icmp .eq 883, 3) := by decide +kernel
theorem dL_law_256 : decode cL_law 256 = .ok (.iconst 0, 1) := by decide +kernel
theorem dL_law_257 : decode cL_law 257 = .ok (.ireturn, 1) := by decide +kernel
theorem dL_law_258 : decode cL_law 258 = .ok (.aload_n 1, 1) := by decide +kernel
theorem dL_law_259 : decode cL_law 259 = .ok (.aload_n 0, 1) := by decide +kernel
theorem dL_law_260 : decode cL_law 260 = .ok (.iload_n 3, 1) := by decide +kernel
theorem dL_law_261 : decode cL_law 261 = .ok (.iconst 1, 1) := by decide +kernel
theorem dL_law_262 : decode cL_law 262 = .ok (.iadd, 1) := by decide +kernel
theorem dL_law_263 : decode cL_law 263 = .ok (.iaload, 1) := by decide +kernel
theorem dL_law_264 : decode cL_law 264 = .ok (.aload_n 0, 1) := by decide +kernel
theorem dL_law_265 : decode cL_law 265 = .ok (.iload_n 3, 1) := by decide +kernel
theorem dL_law_266 : decode cL_law 266 = .ok (.iconst 2, 1) := by decide +kernel
theorem dL_law_267 : decode cL_law 267 = .ok (.iadd, 1) := by decide +kernel
theorem dL_law_268 : decode cL_law 268 = .ok (.iaload, 1) := by decide +kernel
theorem dL_law_269 : decode cL_law 269 = .ok (.invokevirtual 22, 3) := by decide +kernel
theorem dL_law_272 : decode cL_law 272 = .ok (.aload_n 2, 1) := by decide +kernel
theorem dL_law_273 : decode cL_law 273 = .ok (.aload_n 0, 1) := by decide +kernel
theorem dL_law_274 : decode cL_law 274 = .ok (.iload_n 3, 1) := by decide +kernel
theorem dL_law_275 : decode cL_law 275 = .ok (.iconst 1, 1) := by decide +kernel
theorem dL_law_276 : decode cL_law 276 = .ok (.iadd, 1) := by decide +kernel
theorem dL_law_277 : decode cL_law 277 = .ok (.iaload, 1) := by decide +kernel
theorem dL_law_278 : decode cL_law 278 = .ok (.aload_n 0, 1) := by decide +kernel
theorem dL_law_279 : decode cL_law 279 = .ok (.iload_n 3, 1) := by decide +kernel
theorem dL_law_280 : decode cL_law 280 = .ok (.iconst 2, 1) := by decide +kernel
theorem dL_law_281 : decode cL_law 281 = .ok (.iadd, 1) := by decide +kernel
theorem dL_law_282 : decode cL_law 282 = .ok (.iaload, 1) := by decide +kernel
theorem dL_law_283 : decode cL_law 283 = .ok (.invokevirtual 26, 3) := by decide +kernel
theorem dL_law_286 : decode cL_law 286 = .ok (.if_icmp .eq 850, 3) := by decide +kernel
theorem dL_law_289 : decode cL_law 289 = .ok (.iconst 0, 1) := by decide +kernel
theorem dL_law_290 : decode cL_law 290 = .ok (.ireturn, 1) := by decide +kernel
theorem dL_law_291 : decode cL_law 291 = .ok (.aload_n 1, 1) := by decide +kernel
theorem dL_law_292 : decode cL_law 292 = .ok (.aload_n 0, 1) := by decide +kernel
theorem dL_law_293 : decode cL_law 293 = .ok (.iload_n 3, 1) := by decide +kernel
theorem dL_law_294 : decode cL_law 294 = .ok (.iconst 1, 1) := by decide +kernel
theorem dL_law_295 : decode cL_law 295 = .ok (.iadd, 1) := by decide +kernel
theorem dL_law_296 : decode cL_law 296 = .ok (.iaload, 1) := by decide +kernel
theorem dL_law_297 : decode cL_law 297 = .ok (.invokevirtual 27, 3) := by decide +kernel
theorem dL_law_300 : decode cL_law 300 = .ok (.aload_n 2, 1) := by decide +kernel
theorem dL_law_301 : decode cL_law 301 = .ok (.aload_n 0, 1) := by decide +kernel
theorem dL_law_302 : decode cL_law 302 = .ok (.iload_n 3, 1) := by decide +kernel
theorem dL_law_303 : decode cL_law 303 = .ok (.iconst 1, 1) := by decide +kernel
theorem dL_law_304 : decode cL_law 304 = .ok (.iadd, 1) := by decide +kernel
theorem dL_law_305 : decode cL_law 305 = .ok (.iaload, 1) := by decide +kernel
theorem dL_law_306 : decode cL_law 306 = .ok (.invokevirtual 30, 3) := by decide +kernel
theorem dL_law_309 : decode cL_law 309 = .ok (.if_icmp .eq 827, 3) := by decide +kernel
theorem dL_law_312 : decode cL_law 312 = .ok (.iconst 0, 1) := by decide +kernel
theorem dL_law_313 : decode cL_law 313 = .ok (.ireturn, 1) := by decide +kernel
theorem dL_law_314 : decode cL_law 314 = .ok (.aload_n 1, 1) := by decide +kernel
theorem dL_law_315 : decode cL_law 315 = .ok (.aload_n 0, 1) := by decide +kernel
theorem dL_law_316 : decode cL_law 316 = .ok (.iload_n 3, 1) := by decide +kernel
theorem dL_law_317 : decode cL_law 317 = .ok (.iconst 1, 1) := by decide +kernel
theorem dL_law_318 : decode cL_law 318 = .ok (.iadd, 1) := by decide +kernel
theorem dL_law_319 : decode cL_law 319 = .ok (.iaload, 1) := by decide +kernel
theorem dL_law_320 : decode cL_law 320 = .ok (.aload_n 0, 1) := by decide +kernel
theorem dL_law_321 : decode cL_law 321 = .ok (.iload_n 3, 1) := by decide +kernel
theorem dL_law_322 : decode cL_law 322 = .ok (.iconst 2, 1) := by decide +kernel
theorem dL_law_323 : decode cL_law 323 = .ok (.iadd, 1) := by decide +kernel
theorem dL_law_324 : decode cL_law 324 = .ok (.iaload, 1) := by decide +kernel
theorem dL_law_325 : decode cL_law 325 = .ok (.aload_n 0, 1) := by decide +kernel
theorem dL_law_326 : decode cL_law 326 = .ok (.iload_n 3, 1) := by decide +kernel
theorem dL_law_327 : decode cL_law 327 = .ok (.iconst 3, 1) := by decide +kernel
theorem dL_law_328 : decode cL_law 328 = .ok (.iadd, 1) := by decide +kernel
theorem dL_law_329 : decode cL_law 329 = .ok (.iaload, 1) := by decide +kernel
theorem dL_law_330 : decode cL_law 330 = .ok (.invokevirtual 31, 3) := by decide +kernel
theorem dL_law_333 : decode cL_law 333 = .ok (.aload_n 2, 1) := by decide +kernel
theorem dL_law_334 : decode cL_law 334 = .ok (.aload_n 0, 1) := by decide +kernel
theorem dL_law_335 : decode cL_law 335 = .ok (.iload_n 3, 1) := by decide +kernel
theorem dL_law_336 : decode cL_law 336 = .ok (.iconst 1, 1) := by decide +kernel
theorem dL_law_337 : decode cL_law 337 = .ok (.iadd, 1) := by decide +kernel
theorem dL_law_338 : decode cL_law 338 = .ok (.iaload, 1) := by decide +kernel
theorem dL_law_339 : decode cL_law 339 = .ok (.aload_n 0, 1) := by decide +kernel
theorem dL_law_340 : decode cL_law 340 = .ok (.iload_n 3, 1) := by decide +kernel
theorem dL_law_341 : decode cL_law 341 = .ok (.iconst 2, 1) := by decide +kernel
theorem dL_law_342 : decode cL_law 342 = .ok (.iadd, 1) := by decide +kernel
theorem dL_law_343 : decode cL_law 343 = .ok (.iaload, 1) := by decide +kernel
theorem dL_law_344 : decode cL_law 344 = .ok (.aload_n 0, 1) := by decide +kernel
theorem dL_law_345 : decode cL_law 345 = .ok (.iload_n 3, 1) := by decide +kernel
theorem dL_law_346 : decode cL_law 346 = .ok (.iconst 3, 1) := by decide +kernel
theorem dL_law_347 : decode cL_law 347 = .ok (.iadd, 1) := by decide +kernel
theorem dL_law_348 : decode cL_law 348 = .ok (.iaload, 1) := by decide +kernel
theorem dL_law_349 : decode cL_law 349 = .ok (.invokevirtual 35, 3) := by decide +kernel
theorem dL_law_352 : decode cL_law 352 = .ok (.if_icmp .eq 784, 3) := by decide +kernel
theorem dL_law_355 : decode cL_law 355 = .ok (.iconst 0, 1) := by decide +kernel
theorem dL_law_356 : decode cL_law 356 = .ok (.ireturn, 1) := by decide +kernel
theorem dL_law_357 : decode cL_law 357 = .ok (.aload_n 1, 1) := by decide +kernel
theorem dL_law_358 : decode cL_law 358 = .ok (.invokevirtual 36, 3) := by decide +kernel
theorem dL_law_361 : decode cL_law 361 = .ok (.aload_n 2, 1) := by decide +kernel
theorem dL_law_362 : decode cL_law 362 = .ok (.invokevirtual 40, 3) := by decide +kernel
theorem dL_law_365 : decode cL_law 365 = .ok (.if_icmp .eq 771, 3) := by decide +kernel
theorem dL_law_368 : decode cL_law 368 = .ok (.iconst 0, 1) := by decide +kernel
theorem dL_law_369 : decode cL_law 369 = .ok (.ireturn, 1) := by decide +kernel
theorem dL_law_370 : decode cL_law 370 = .ok (.aload_n 1, 1) := by decide +kernel
theorem dL_law_371 : decode cL_law 371 = .ok (.invokevirtual 41, 3) := by decide +kernel
theorem dL_law_374 : decode cL_law 374 = .ok (.aload_n 2, 1) := by decide +kernel
theorem dL_law_375 : decode cL_law 375 = .ok (.invokevirtual 44, 3) := by decide +kernel
theorem dL_law_378 : decode cL_law 378 = .ok (.if_icmp .eq 758, 3) := by decide +kernel
theorem dL_law_381 : decode cL_law 381 = .ok (.iconst 0, 1) := by decide +kernel
theorem dL_law_382 : decode cL_law 382 = .ok (.ireturn, 1) := by decide +kernel
theorem dL_law_383 : decode cL_law 383 = .ok (.aload_n 1, 1) := by decide +kernel
theorem dL_law_384 : decode cL_law 384 = .ok (.aload_n 0, 1) := by decide +kernel
theorem dL_law_385 : decode cL_law 385 = .ok (.iload_n 3, 1) := by decide +kernel
theorem dL_law_386 : decode cL_law 386 = .ok (.iconst 1, 1) := by decide +kernel
theorem dL_law_387 : decode cL_law 387 = .ok (.iadd, 1) := by decide +kernel
theorem dL_law_388 : decode cL_law 388 = .ok (.iaload, 1) := by decide +kernel
theorem dL_law_389 : decode cL_law 389 = .ok (.aload_n 0, 1) := by decide +kernel
theorem dL_law_390 : decode cL_law 390 = .ok (.iload_n 3, 1) := by decide +kernel
theorem dL_law_391 : decode cL_law 391 = .ok (.iconst 2, 1) := by decide +kernel
theorem dL_law_392 : decode cL_law 392 = .ok (.iadd, 1) := by decide +kernel
theorem dL_law_393 : decode cL_law 393 = .ok (.iaload, 1) := by decide +kernel
theorem dL_law_394 : decode cL_law 394 = .ok (.invokevirtual 45, 3) := by decide +kernel
theorem dL_law_397 : decode cL_law 397 = .ok (.aload_n 2, 1) := by decide +kernel
theorem dL_law_398 : decode cL_law 398 = .ok (.aload_n 0, 1) := by decide +kernel
theorem dL_law_399 : decode cL_law 399 = .ok (.iload_n 3, 1) := by decide +kernel
theorem dL_law_400 : decode cL_law 400 = .ok (.iconst 1, 1) := by decide +kernel
theorem dL_law_401 : decode cL_law 401 = .ok (.iadd, 1) := by decide +kernel
theorem dL_law_402 : decode cL_law 402 = .ok (.iaload, 1) := by decide +kernel
theorem dL_law_403 : decode cL_law 403 = .ok (.aload_n 0, 1) := by decide +kernel
theorem dL_law_404 : decode cL_law 404 = .ok (.iload_n 3, 1) := by decide +kernel
theorem dL_law_405 : decode cL_law 405 = .ok (.iconst 2, 1) := by decide +kernel
theorem dL_law_406 : decode cL_law 406 = .ok (.iadd, 1) := by decide +kernel
theorem dL_law_407 : decode cL_law 407 = .ok (.iaload, 1) := by decide +kernel
theorem dL_law_408 : decode cL_law 408 = .ok (.invokevirtual 48, 3) := by decide +kernel
theorem dL_law_411 : decode cL_law 411 = .ok (.if_icmp .eq 725, 3) := by decide +kernel
theorem dL_law_414 : decode cL_law 414 = .ok (.iconst 0, 1) := by decide +kernel
theorem dL_law_415 : decode cL_law 415 = .ok (.ireturn, 1) := by decide +kernel
theorem dL_law_416 : decode cL_law 416 = .ok (.aload_n 1, 1) := by decide +kernel
theorem dL_law_417 : decode cL_law 417 = .ok (.aload_n 0, 1) := by decide +kernel
theorem dL_law_418 : decode cL_law 418 = .ok (.iload_n 3, 1) := by decide +kernel
theorem dL_law_419 : decode cL_law 419 = .ok (.iconst 1, 1) := by decide +kernel
theorem dL_law_420 : decode cL_law 420 = .ok (.iadd, 1) := by decide +kernel
theorem dL_law_421 : decode cL_law 421 = .ok (.iaload, 1) := by decide +kernel
theorem dL_law_422 : decode cL_law 422 = .ok (.aload_n 0, 1) := by decide +kernel
theorem dL_law_423 : decode cL_law 423 = .ok (.iload_n 3, 1) := by decide +kernel
theorem dL_law_424 : decode cL_law 424 = .ok (.iconst 2, 1) := by decide +kernel
theorem dL_law_425 : decode cL_law 425 = .ok (.iadd, 1) := by decide +kernel
theorem dL_law_426 : decode cL_law 426 = .ok (.iaload, 1) := by decide +kernel
theorem dL_law_427 : decode cL_law 427 = .ok (.invokevirtual 49, 3) := by decide +kernel
theorem dL_law_430 : decode cL_law 430 = .ok (.aload_n 2, 1) := by decide +kernel
theorem dL_law_431 : decode cL_law 431 = .ok (.aload_n 0, 1) := by decide +kernel
theorem dL_law_432 : decode cL_law 432 = .ok (.iload_n 3, 1) := by decide +kernel
theorem dL_law_433 : decode cL_law 433 = .ok (.iconst 1, 1) := by decide +kernel
theorem dL_law_434 : decode cL_law 434 = .ok (.iadd, 1) := by decide +kernel
theorem dL_law_435 : decode cL_law 435 = .ok (.iaload, 1) := by decide +kernel
theorem dL_law_436 : decode cL_law 436 = .ok (.aload_n 0, 1) := by decide +kernel
theorem dL_law_437 : decode cL_law 437 = .ok (.iload_n 3, 1) := by decide +kernel
theorem dL_law_438 : decode cL_law 438 = .ok (.iconst 2, 1) := by decide +kernel
theorem dL_law_439 : decode cL_law 439 = .ok (.iadd, 1) := by decide +kernel
theorem dL_law_440 : decode cL_law 440 = .ok (.iaload, 1) := by decide +kernel
theorem dL_law_441 : decode cL_law 441 = .ok (.invokevirtual 52, 3) := by decide +kernel
theorem dL_law_444 : decode cL_law 444 = .ok (.if_icmp .eq 692, 3) := by decide +kernel
theorem dL_law_447 : decode cL_law 447 = .ok (.iconst 0, 1) := by decide +kernel
theorem dL_law_448 : decode cL_law 448 = .ok (.ireturn, 1) := by decide +kernel
theorem dL_law_449 : decode cL_law 449 = .ok (.aload_n 1, 1) := by decide +kernel
theorem dL_law_450 : decode cL_law 450 = .ok (.aload_n 0, 1) := by decide +kernel
theorem dL_law_451 : decode cL_law 451 = .ok (.iload_n 3, 1) := by decide +kernel
theorem dL_law_452 : decode cL_law 452 = .ok (.iconst 1, 1) := by decide +kernel
theorem dL_law_453 : decode cL_law 453 = .ok (.iadd, 1) := by decide +kernel
theorem dL_law_454 : decode cL_law 454 = .ok (.iaload, 1) := by decide +kernel
theorem dL_law_455 : decode cL_law 455 = .ok (.invokevirtual 53, 3) := by decide +kernel
theorem dL_law_458 : decode cL_law 458 = .ok (.aload_n 2, 1) := by decide +kernel
theorem dL_law_459 : decode cL_law 459 = .ok (.aload_n 0, 1) := by decide +kernel
theorem dL_law_460 : decode cL_law 460 = .ok (.iload_n 3, 1) := by decide +kernel
theorem dL_law_461 : decode cL_law 461 = .ok (.iconst 1, 1) := by decide +kernel
theorem dL_law_462 : decode cL_law 462 = .ok (.iadd, 1) := by decide +kernel
theorem dL_law_463 : decode cL_law 463 = .ok (.iaload, 1) := by decide +kernel
theorem dL_law_464 : decode cL_law 464 = .ok (.invokevirtual 56, 3) := by decide +kernel
theorem dL_law_467 : decode cL_law 467 = .ok (.if_icmp .eq 669, 3) := by decide +kernel
theorem dL_law_470 : decode cL_law 470 = .ok (.iconst 0, 1) := by decide +kernel
theorem dL_law_471 : decode cL_law 471 = .ok (.ireturn, 1) := by decide +kernel
theorem dL_law_472 : decode cL_law 472 = .ok (.aload_n 1, 1) := by decide +kernel
theorem dL_law_473 : decode cL_law 473 = .ok (.aload_n 0, 1) := by decide +kernel
theorem dL_law_474 : decode cL_law 474 = .ok (.iload_n 3, 1) := by decide +kernel
theorem dL_law_475 : decode cL_law 475 = .ok (.iconst 1, 1) := by decide +kernel
theorem dL_law_476 : decode cL_law 476 = .ok (.iadd, 1) := by decide +kernel
theorem dL_law_477 : decode cL_law 477 = .ok (.iaload, 1) := by decide +kernel
theorem dL_law_478 : decode cL_law 478 = .ok (.invokevirtual 57, 3) := by decide +kernel
theorem dL_law_481 : decode cL_law 481 = .ok (.aload_n 2, 1) := by decide +kernel
theorem dL_law_482 : decode cL_law 482 = .ok (.aload_n 0, 1) := by decide +kernel
theorem dL_law_483 : decode cL_law 483 = .ok (.iload_n 3, 1) := by decide +kernel
theorem dL_law_484 : decode cL_law 484 = .ok (.iconst 1, 1) := by decide +kernel
theorem dL_law_485 : decode cL_law 485 = .ok (.iadd, 1) := by decide +kernel
theorem dL_law_486 : decode cL_law 486 = .ok (.iaload, 1) := by decide +kernel
theorem dL_law_487 : decode cL_law 487 = .ok (.invokevirtual 60, 3) := by decide +kernel
theorem dL_law_490 : decode cL_law 490 = .ok (.if_icmp .eq 646, 3) := by decide +kernel
theorem dL_law_493 : decode cL_law 493 = .ok (.iconst 0, 1) := by decide +kernel
theorem dL_law_494 : decode cL_law 494 = .ok (.ireturn, 1) := by decide +kernel
theorem dL_law_495 : decode cL_law 495 = .ok (.aload_n 1, 1) := by decide +kernel
theorem dL_law_496 : decode cL_law 496 = .ok (.invokevirtual 61, 3) := by decide +kernel
theorem dL_law_499 : decode cL_law 499 = .ok (.aload_n 2, 1) := by decide +kernel
theorem dL_law_500 : decode cL_law 500 = .ok (.invokevirtual 64, 3) := by decide +kernel
theorem dL_law_503 : decode cL_law 503 = .ok (.if_icmp .eq 633, 3) := by decide +kernel
theorem dL_law_506 : decode cL_law 506 = .ok (.iconst 0, 1) := by decide +kernel
theorem dL_law_507 : decode cL_law 507 = .ok (.ireturn, 1) := by decide +kernel
theorem dL_law_508 : decode cL_law 508 = .ok (.aload_n 1, 1) := by decide +kernel
theorem dL_law_509 : decode cL_law 509 = .ok (.aload_n 0, 1) := by decide +kernel
theorem dL_law_510 : decode cL_law 510 = .ok (.iload_n 3, 1) := by decide +kernel
theorem dL_law_511 : decode cL_law 511 = .ok (.iconst 1, 1) := by decide +kernel
theorem dL_law_512 : decode cL_law 512 = .ok (.iadd, 1) := by decide +kernel
theorem dL_law_513 : decode cL_law 513 = .ok (.iaload, 1) := by decide +kernel
theorem dL_law_514 : decode cL_law 514 = .ok (.invokevirtual 65, 3) := by decide +kernel
theorem dL_law_517 : decode cL_law 517 = .ok (.aload_n 2, 1) := by decide +kernel
theorem dL_law_518 : decode cL_law 518 = .ok (.aload_n 0, 1) := by decide +kernel
theorem dL_law_519 : decode cL_law 519 = .ok (.iload_n 3, 1) := by decide +kernel
theorem dL_law_520 : decode cL_law 520 = .ok (.iconst 1, 1) := by decide +kernel
theorem dL_law_521 : decode cL_law 521 = .ok (.iadd, 1) := by decide +kernel
theorem dL_law_522 : decode cL_law 522 = .ok (.iaload, 1) := by decide +kernel
theorem dL_law_523 : decode cL_law 523 = .ok (.invokevirtual 68, 3) := by decide +kernel
theorem dL_law_526 : decode cL_law 526 = .ok (.if_icmp .eq 610, 3) := by decide +kernel
theorem dL_law_529 : decode cL_law 529 = .ok (.iconst 0, 1) := by decide +kernel
theorem dL_law_530 : decode cL_law 530 = .ok (.ireturn, 1) := by decide +kernel
theorem dL_law_531 : decode cL_law 531 = .ok (.aload_n 1, 1) := by decide +kernel
theorem dL_law_532 : decode cL_law 532 = .ok (.invokevirtual 69, 3) := by decide +kernel
theorem dL_law_535 : decode cL_law 535 = .ok (.aload_n 2, 1) := by decide +kernel
theorem dL_law_536 : decode cL_law 536 = .ok (.invokevirtual 72, 3) := by decide +kernel
theorem dL_law_539 : decode cL_law 539 = .ok (.if_icmp .eq 597, 3) := by decide +kernel
theorem dL_law_542 : decode cL_law 542 = .ok (.iconst 0, 1) := by decide +kernel
theorem dL_law_543 : decode cL_law 543 = .ok (.ireturn, 1) := by decide +kernel
theorem dL_law_544 : decode cL_law 544 = .ok (.aload_n 1, 1) := by decide +kernel
theorem dL_law_545 : decode cL_law 545 = .ok (.aload_n 0, 1) := by decide +kernel
theorem dL_law_546 : decode cL_law 546 = .ok (.iload_n 3, 1) := by decide +kernel
theorem dL_law_547 : decode cL_law 547 = .ok (.iconst 1, 1) := by decide +kernel
theorem dL_law_548 : decode cL_law 548 = .ok (.iadd, 1) := by decide +kernel
theorem dL_law_549 : decode cL_law 549 = .ok (.iaload, 1) := by decide +kernel
theorem dL_law_550 : decode cL_law 550 = .ok (.invokevirtual 73, 3) := by decide +kernel
theorem dL_law_553 : decode cL_law 553 = .ok (.aload_n 2, 1) := by decide +kernel
theorem dL_law_554 : decode cL_law 554 = .ok (.aload_n 0, 1) := by decide +kernel
theorem dL_law_555 : decode cL_law 555 = .ok (.iload_n 3, 1) := by decide +kernel
theorem dL_law_556 : decode cL_law 556 = .ok (.iconst 1, 1) := by decide +kernel
theorem dL_law_557 : decode cL_law 557 = .ok (.iadd, 1) := by decide +kernel
theorem dL_law_558 : decode cL_law 558 = .ok (.iaload, 1) := by decide +kernel
theorem dL_law_559 : decode cL_law 559 = .ok (.invokevirtual 76, 3) := by decide +kernel
theorem dL_law_562 : decode cL_law 562 = .ok (.if_icmp .eq 574, 3) := by decide +kernel
theorem dL_law_565 : decode cL_law 565 = .ok (.iconst 0, 1) := by decide +kernel
theorem dL_law_566 : decode cL_law 566 = .ok (.ireturn, 1) := by decide +kernel
theorem dL_law_567 : decode cL_law 567 = .ok (.aload_n 1, 1) := by decide +kernel
theorem dL_law_568 : decode cL_law 568 = .ok (.invokevirtual 77, 3) := by decide +kernel
theorem dL_law_571 : decode cL_law 571 = .ok (.aload_n 2, 1) := by decide +kernel
theorem dL_law_572 : decode cL_law 572 = .ok (.invokevirtual 80, 3) := by decide +kernel
theorem dL_law_575 : decode cL_law 575 = .ok (.if_icmp .eq 561, 3) := by decide +kernel
theorem dL_law_578 : decode cL_law 578 = .ok (.iconst 0, 1) := by decide +kernel
theorem dL_law_579 : decode cL_law 579 = .ok (.ireturn, 1) := by decide +kernel
theorem dL_law_580 : decode cL_law 580 = .ok (.aload_n 1, 1) := by decide +kernel
theorem dL_law_581 : decode cL_law 581 = .ok (.invokevirtual 81, 3) := by decide +kernel
theorem dL_law_584 : decode cL_law 584 = .ok (.aload_n 2, 1) := by decide +kernel
theorem dL_law_585 : decode cL_law 585 = .ok (.invokevirtual 84, 3) := by decide +kernel
theorem dL_law_588 : decode cL_law 588 = .ok (.if_icmp .eq 548, 3) := by decide +kernel
theorem dL_law_591 : decode cL_law 591 = .ok (.iconst 0, 1) := by decide +kernel
theorem dL_law_592 : decode cL_law 592 = .ok (.ireturn, 1) := by decide +kernel
theorem dL_law_593 : decode cL_law 593 = .ok (.aload_n 1, 1) := by decide +kernel
theorem dL_law_594 : decode cL_law 594 = .ok (.invokevirtual 85, 3) := by decide +kernel
theorem dL_law_597 : decode cL_law 597 = .ok (.aload_n 2, 1) := by decide +kernel
theorem dL_law_598 : decode cL_law 598 = .ok (.invokevirtual 88, 3) := by decide +kernel
theorem dL_law_601 : decode cL_law 601 = .ok (.if_icmp .eq 535, 3) := by decide +kernel
theorem dL_law_604 : decode cL_law 604 = .ok (.iconst 0, 1) := by decide +kernel
theorem dL_law_605 : decode cL_law 605 = .ok (.ireturn, 1) := by decide +kernel
theorem dL_law_606 : decode cL_law 606 = .ok (.aload_n 1, 1) := by decide +kernel
theorem dL_law_607 : decode cL_law 607 = .ok (.aload_n 0, 1) := by decide +kernel
theorem dL_law_608 : decode cL_law 608 = .ok (.iload_n 3, 1) := by decide +kernel
theorem dL_law_609 : decode cL_law 609 = .ok (.iconst 1, 1) := by decide +kernel
theorem dL_law_610 : decode cL_law 610 = .ok (.iadd, 1) := by decide +kernel
theorem dL_law_611 : decode cL_law 611 = .ok (.iaload, 1) := by decide +kernel
theorem dL_law_612 : decode cL_law 612 = .ok (.invokevirtual 89, 3) := by decide +kernel
theorem dL_law_615 : decode cL_law 615 = .ok (.aload_n 2, 1) := by decide +kernel
theorem dL_law_616 : decode cL_law 616 = .ok (.aload_n 0, 1) := by decide +kernel
theorem dL_law_617 : decode cL_law 617 = .ok (.iload_n 3, 1) := by decide +kernel
theorem dL_law_618 : decode cL_law 618 = .ok (.iconst 1, 1) := by decide +kernel
theorem dL_law_619 : decode cL_law 619 = .ok (.iadd, 1) := by decide +kernel
theorem dL_law_620 : decode cL_law 620 = .ok (.iaload, 1) := by decide +kernel
theorem dL_law_621 : decode cL_law 621 = .ok (.invokevirtual 92, 3) := by decide +kernel
theorem dL_law_624 : decode cL_law 624 = .ok (.if_icmp .eq 512, 3) := by decide +kernel
theorem dL_law_627 : decode cL_law 627 = .ok (.iconst 0, 1) := by decide +kernel
theorem dL_law_628 : decode cL_law 628 = .ok (.ireturn, 1) := by decide +kernel
theorem dL_law_629 : decode cL_law 629 = .ok (.aload_n 1, 1) := by decide +kernel
theorem dL_law_630 : decode cL_law 630 = .ok (.aload_n 0, 1) := by decide +kernel
theorem dL_law_631 : decode cL_law 631 = .ok (.iload_n 3, 1) := by decide +kernel
theorem dL_law_632 : decode cL_law 632 = .ok (.iconst 1, 1) := by decide +kernel
theorem dL_law_633 : decode cL_law 633 = .ok (.iadd, 1) := by decide +kernel
theorem dL_law_634 : decode cL_law 634 = .ok (.iaload, 1) := by decide +kernel
theorem dL_law_635 : decode cL_law 635 = .ok (.invokevirtual 93, 3) := by decide +kernel
theorem dL_law_638 : decode cL_law 638 = .ok (.aload_n 2, 1) := by decide +kernel
theorem dL_law_639 : decode cL_law 639 = .ok (.aload_n 0, 1) := by decide +kernel
theorem dL_law_640 : decode cL_law 640 = .ok (.iload_n 3, 1) := by decide +kernel
theorem dL_law_641 : decode cL_law 641 = .ok (.iconst 1, 1) := by decide +kernel
theorem dL_law_642 : decode cL_law 642 = .ok (.iadd, 1) := by decide +kernel
theorem dL_law_643 : decode cL_law 643 = .ok (.iaload, 1) := by decide +kernel
theorem dL_law_644 : decode cL_law 644 = .ok (.invokevirtual 96, 3) := by decide +kernel
theorem dL_law_647 : decode cL_law 647 = .ok (.if_icmp .eq 489, 3) := by decide +kernel
theorem dL_law_650 : decode cL_law 650 = .ok (.iconst 0, 1) := by decide +kernel
theorem dL_law_651 : decode cL_law 651 = .ok (.ireturn, 1) := by decide +kernel
theorem dL_law_652 : decode cL_law 652 = .ok (.aload_n 1, 1) := by decide +kernel
theorem dL_law_653 : decode cL_law 653 = .ok (.aload_n 0, 1) := by decide +kernel
theorem dL_law_654 : decode cL_law 654 = .ok (.iload_n 3, 1) := by decide +kernel
theorem dL_law_655 : decode cL_law 655 = .ok (.iconst 1, 1) := by decide +kernel
theorem dL_law_656 : decode cL_law 656 = .ok (.iadd, 1) := by decide +kernel
theorem dL_law_657 : decode cL_law 657 = .ok (.iaload, 1) := by decide +kernel
theorem dL_law_658 : decode cL_law 658 = .ok (.aload_n 0, 1) := by decide +kernel
theorem dL_law_659 : decode cL_law 659 = .ok (.iload_n 3, 1) := by decide +kernel
theorem dL_law_660 : decode cL_law 660 = .ok (.iconst 2, 1) := by decide +kernel
theorem dL_law_661 : decode cL_law 661 = .ok (.iadd, 1) := by decide +kernel
theorem dL_law_662 : decode cL_law 662 = .ok (.iaload, 1) := by decide +kernel
theorem dL_law_663 : decode cL_law 663 = .ok (.aload_n 0, 1) := by decide +kernel
theorem dL_law_664 : decode cL_law 664 = .ok (.iload_n 3, 1) := by decide +kernel
theorem dL_law_665 : decode cL_law 665 = .ok (.iconst 3, 1) := by decide +kernel
theorem dL_law_666 : decode cL_law 666 = .ok (.iadd, 1) := by decide +kernel
theorem dL_law_667 : decode cL_law 667 = .ok (.iaload, 1) := by decide +kernel
theorem dL_law_668 : decode cL_law 668 = .ok (.aload_n 0, 1) := by decide +kernel
theorem dL_law_669 : decode cL_law 669 = .ok (.iload_n 3, 1) := by decide +kernel
theorem dL_law_670 : decode cL_law 670 = .ok (.iconst 4, 1) := by decide +kernel
theorem dL_law_671 : decode cL_law 671 = .ok (.iadd, 1) := by decide +kernel
theorem dL_law_672 : decode cL_law 672 = .ok (.iaload, 1) := by decide +kernel
theorem dL_law_673 : decode cL_law 673 = .ok (.invokevirtual 97, 3) := by decide +kernel
theorem dL_law_676 : decode cL_law 676 = .ok (.aload_n 2, 1) := by decide +kernel
theorem dL_law_677 : decode cL_law 677 = .ok (.aload_n 0, 1) := by decide +kernel
theorem dL_law_678 : decode cL_law 678 = .ok (.iload_n 3, 1) := by decide +kernel
theorem dL_law_679 : decode cL_law 679 = .ok (.iconst 1, 1) := by decide +kernel
theorem dL_law_680 : decode cL_law 680 = .ok (.iadd, 1) := by decide +kernel
theorem dL_law_681 : decode cL_law 681 = .ok (.iaload, 1) := by decide +kernel
theorem dL_law_682 : decode cL_law 682 = .ok (.aload_n 0, 1) := by decide +kernel
theorem dL_law_683 : decode cL_law 683 = .ok (.iload_n 3, 1) := by decide +kernel
theorem dL_law_684 : decode cL_law 684 = .ok (.iconst 2, 1) := by decide +kernel
theorem dL_law_685 : decode cL_law 685 = .ok (.iadd, 1) := by decide +kernel
theorem dL_law_686 : decode cL_law 686 = .ok (.iaload, 1) := by decide +kernel
theorem dL_law_687 : decode cL_law 687 = .ok (.aload_n 0, 1) := by decide +kernel
theorem dL_law_688 : decode cL_law 688 = .ok (.iload_n 3, 1) := by decide +kernel
theorem dL_law_689 : decode cL_law 689 = .ok (.iconst 3, 1) := by decide +kernel
theorem dL_law_690 : decode cL_law 690 = .ok (.iadd, 1) := by decide +kernel
theorem dL_law_691 : decode cL_law 691 = .ok (.iaload, 1) := by decide +kernel
theorem dL_law_692 : decode cL_law 692 = .ok (.aload_n 0, 1) := by decide +kernel
theorem dL_law_693 : decode cL_law 693 = .ok (.iload_n 3, 1) := by decide +kernel
theorem dL_law_694 : decode cL_law 694 = .ok (.iconst 4, 1) := by decide +kernel
theorem dL_law_695 : decode cL_law 695 = .ok (.iadd, 1) := by decide +kernel
theorem dL_law_696 : decode cL_law 696 = .ok (.iaload, 1) := by decide +kernel
theorem dL_law_697 : decode cL_law 697 = .ok (.invokevirtual 101, 3) := by decide +kernel
theorem dL_law_700 : decode cL_law 700 = .ok (.if_icmp .eq 436, 3) := by decide +kernel
theorem dL_law_703 : decode cL_law 703 = .ok (.iconst 0, 1) := by decide +kernel
theorem dL_law_704 : decode cL_law 704 = .ok (.ireturn, 1) := by decide +kernel
theorem dL_law_705 : decode cL_law 705 = .ok (.aload_n 1, 1) := by decide +kernel
theorem dL_law_706 : decode cL_law 706 = .ok (.aload_n 0, 1) := by decide +kernel
theorem dL_law_707 : decode cL_law 707 = .ok (.iload_n 3, 1) := by decide +kernel
theorem dL_law_708 : decode cL_law 708 = .ok (.iconst 1, 1) := by decide +kernel
theorem dL_law_709 : decode cL_law 709 = .ok (.iadd, 1) := by decide +kernel
theorem dL_law_710 : decode cL_law 710 = .ok (.iaload, 1) := by decide +kernel
theorem dL_law_711 : decode cL_law 711 = .ok (.invokevirtual 102, 3) := by decide +kernel
theorem dL_law_714 : decode cL_law 714 = .ok (.aload_n 2, 1) := by decide +kernel
theorem dL_law_715 : decode cL_law 715 = .ok (.aload_n 0, 1) := by decide +kernel
theorem dL_law_716 : decode cL_law 716 = .ok (.iload_n 3, 1) := by decide +kernel
theorem dL_law_717 : decode cL_law 717 = .ok (.iconst 1, 1) := by decide +kernel
theorem dL_law_718 : decode cL_law 718 = .ok (.iadd, 1) := by decide +kernel
theorem dL_law_719 : decode cL_law 719 = .ok (.iaload, 1) := by decide +kernel
theorem dL_law_720 : decode cL_law 720 = .ok (.invokevirtual 105, 3) := by decide +kernel
theorem dL_law_723 : decode cL_law 723 = .ok (.if_icmp .eq 413, 3) := by decide +kernel
theorem dL_law_726 : decode cL_law 726 = .ok (.iconst 0, 1) := by decide +kernel
theorem dL_law_727 : decode cL_law 727 = .ok (.ireturn, 1) := by decide +kernel
theorem dL_law_728 : decode cL_law 728 = .ok (.aload_n 1, 1) := by decide +kernel
theorem dL_law_729 : decode cL_law 729 = .ok (.aload_n 0, 1) := by decide +kernel
theorem dL_law_730 : decode cL_law 730 = .ok (.iload_n 3, 1) := by decide +kernel
theorem dL_law_731 : decode cL_law 731 = .ok (.iconst 1, 1) := by decide +kernel
theorem dL_law_732 : decode cL_law 732 = .ok (.iadd, 1) := by decide +kernel
theorem dL_law_733 : decode cL_law 733 = .ok (.iaload, 1) := by decide +kernel
theorem dL_law_734 : decode cL_law 734 = .ok (.aload_n 0, 1) := by decide +kernel
theorem dL_law_735 : decode cL_law 735 = .ok (.iload_n 3, 1) := by decide +kernel
theorem dL_law_736 : decode cL_law 736 = .ok (.iconst 2, 1) := by decide +kernel
theorem dL_law_737 : decode cL_law 737 = .ok (.iadd, 1) := by decide +kernel
theorem dL_law_738 : decode cL_law 738 = .ok (.iaload, 1) := by decide +kernel
theorem dL_law_739 : decode cL_law 739 = .ok (.invokevirtual 106, 3) := by decide +kernel
theorem dL_law_742 : decode cL_law 742 = .ok (.aload_n 2, 1) := by decide +kernel
theorem dL_law_743 : decode cL_law 743 = .ok (.aload_n 0, 1) := by decide +kernel
theorem dL_law_744 : decode cL_law 744 = .ok (.iload_n 3, 1) := by decide +kernel
theorem dL_law_745 : decode cL_law 745 = .ok (.iconst 1, 1) := by decide +kernel
theorem dL_law_746 : decode cL_law 746 = .ok (.iadd, 1) := by decide +kernel
theorem dL_law_747 : decode cL_law 747 = .ok (.iaload, 1) := by decide +kernel
theorem dL_law_748 : decode cL_law 748 = .ok (.aload_n 0, 1) := by decide +kernel
theorem dL_law_749 : decode cL_law 749 = .ok (.iload_n 3, 1) := by decide +kernel
theorem dL_law_750 : decode cL_law 750 = .ok (.iconst 2, 1) := by decide +kernel
theorem dL_law_751 : decode cL_law 751 = .ok (.iadd, 1) := by decide +kernel
theorem dL_law_752 : decode cL_law 752 = .ok (.iaload, 1) := by decide +kernel
theorem dL_law_753 : decode cL_law 753 = .ok (.invokevirtual 109, 3) := by decide +kernel
theorem dL_law_756 : decode cL_law 756 = .ok (.if_icmp .eq 380, 3) := by decide +kernel
theorem dL_law_759 : decode cL_law 759 = .ok (.iconst 0, 1) := by decide +kernel
theorem dL_law_760 : decode cL_law 760 = .ok (.ireturn, 1) := by decide +kernel
theorem dL_law_761 : decode cL_law 761 = .ok (.aload_n 1, 1) := by decide +kernel
theorem dL_law_762 : decode cL_law 762 = .ok (.aload_n 0, 1) := by decide +kernel
theorem dL_law_763 : decode cL_law 763 = .ok (.iload_n 3, 1) := by decide +kernel
theorem dL_law_764 : decode cL_law 764 = .ok (.iconst 1, 1) := by decide +kernel
theorem dL_law_765 : decode cL_law 765 = .ok (.iadd, 1) := by decide +kernel
theorem dL_law_766 : decode cL_law 766 = .ok (.iaload, 1) := by decide +kernel
theorem dL_law_767 : decode cL_law 767 = .ok (.aload_n 0, 1) := by decide +kernel
theorem dL_law_768 : decode cL_law 768 = .ok (.iload_n 3, 1) := by decide +kernel
theorem dL_law_769 : decode cL_law 769 = .ok (.iconst 2, 1) := by decide +kernel
theorem dL_law_770 : decode cL_law 770 = .ok (.iadd, 1) := by decide +kernel
theorem dL_law_771 : decode cL_law 771 = .ok (.iaload, 1) := by decide +kernel
theorem dL_law_772 : decode cL_law 772 = .ok (.invokevirtual 110, 3) := by decide +kernel
theorem dL_law_775 : decode cL_law 775 = .ok (.aload_n 2, 1) := by decide +kernel
theorem dL_law_776 : decode cL_law 776 = .ok (.aload_n 0, 1) := by decide +kernel
theorem dL_law_777 : decode cL_law 777 = .ok (.iload_n 3, 1) := by decide +kernel
theorem dL_law_778 : decode cL_law 778 = .ok (.iconst 1, 1) := by decide +kernel
theorem dL_law_779 : decode cL_law 779 = .ok (.iadd, 1) := by decide +kernel
theorem dL_law_780 : decode cL_law 780 = .ok (.iaload, 1) := by decide +kernel
theorem dL_law_781 : decode cL_law 781 = .ok (.aload_n 0, 1) := by decide +kernel
theorem dL_law_782 : decode cL_law 782 = .ok (.iload_n 3, 1) := by decide +kernel
theorem dL_law_783 : decode cL_law 783 = .ok (.iconst 2, 1) := by decide +kernel
theorem dL_law_784 : decode cL_law 784 = .ok (.iadd, 1) := by decide +kernel
theorem dL_law_785 : decode cL_law 785 = .ok (.iaload, 1) := by decide +kernel
theorem dL_law_786 : decode cL_law 786 = .ok (.invokevirtual 113, 3) := by decide +kernel
theorem dL_law_789 : decode cL_law 789 = .ok (.if_icmp .eq 347, 3) := by decide +kernel
theorem dL_law_792 : decode cL_law 792 = .ok (.iconst 0, 1) := by decide +kernel
theorem dL_law_793 : decode cL_law 793 = .ok (.ireturn, 1) := by decide +kernel
theorem dL_law_794 : decode cL_law 794 = .ok (.aload_n 1, 1) := by decide +kernel
theorem dL_law_795 : decode cL_law 795 = .ok (.invokevirtual 114, 3) := by decide +kernel
theorem dL_law_798 : decode cL_law 798 = .ok (.aload_n 2, 1) := by decide +kernel
theorem dL_law_799 : decode cL_law 799 = .ok (.invokevirtual 117, 3) := by decide +kernel
theorem dL_law_802 : decode cL_law 802 = .ok (.if_icmp .eq 334, 3) := by decide +kernel
theorem dL_law_805 : decode cL_law 805 = .ok (.iconst 0, 1) := by decide +kernel
theorem dL_law_806 : decode cL_law 806 = .ok (.ireturn, 1) := by decide +kernel
theorem dL_law_807 : decode cL_law 807 = .ok (.aload_n 1, 1) := by decide +kernel
theorem dL_law_808 : decode cL_law 808 = .ok (.invokevirtual 118, 3) := by decide +kernel
theorem dL_law_811 : decode cL_law 811 = .ok (.aload_n 2, 1) := by decide +kernel
theorem dL_law_812 : decode cL_law 812 = .ok (.invokevirtual 121, 3) := by decide +kernel
theorem dL_law_815 : decode cL_law 815 = .ok (.if_icmp .eq 321, 3) := by decide +kernel
theorem dL_law_818 : decode cL_law 818 = .ok (.iconst 0, 1) := by decide +kernel
theorem dL_law_819 : decode cL_law 819 = .ok (.ireturn, 1) := by decide +kernel
theorem dL_law_820 : decode cL_law 820 = .ok (.aload_n 1, 1) := by decide +kernel
theorem dL_law_821 : decode cL_law 821 = .ok (.aload_n 0, 1) := by decide +kernel
theorem dL_law_822 : decode cL_law 822 = .ok (.iload_n 3, 1) := by decide +kernel
theorem dL_law_823 : decode cL_law 823 = .ok (.iconst 1, 1) := by decide +kernel
theorem dL_law_824 : decode cL_law 824 = .ok (.iadd, 1) := by decide +kernel
theorem dL_law_825 : decode cL_law 825 = .ok (.iaload, 1) := by decide +kernel
theorem dL_law_826 : decode cL_law 826 = .ok (.aload_n 0, 1) := by decide +kernel
theorem dL_law_827 : decode cL_law 827 = .ok (.iload_n 3, 1) := by decide +kernel
theorem dL_law_828 : decode cL_law 828 = .ok (.iconst 2, 1) := by decide +kernel
theorem dL_law_829 : decode cL_law 829 = .ok (.iadd, 1) := by decide +kernel
theorem dL_law_830 : decode cL_law 830 = .ok (.iaload, 1) := by decide +kernel
theorem dL_law_831 : decode cL_law 831 = .ok (.invokevirtual 122, 3) := by decide +kernel
theorem dL_law_834 : decode cL_law 834 = .ok (.aload_n 2, 1) := by decide +kernel
theorem dL_law_835 : decode cL_law 835 = .ok (.aload_n 0, 1) := by decide +kernel
theorem dL_law_836 : decode cL_law 836 = .ok (.iload_n 3, 1) := by decide +kernel
theorem dL_law_837 : decode cL_law 837 = .ok (.iconst 1, 1) := by decide +kernel
theorem dL_law_838 : decode cL_law 838 = .ok (.iadd, 1) := by decide +kernel
theorem dL_law_839 : decode cL_law 839 = .ok (.iaload, 1) := by decide +kernel
theorem dL_law_840 : decode cL_law 840 = .ok (.aload_n 0, 1) := by decide +kernel
theorem dL_law_841 : decode cL_law 841 = .ok (.iload_n 3, 1) := by decide +kernel
theorem dL_law_842 : decode cL_law 842 = .ok (.iconst 2, 1) := by decide +kernel
theorem dL_law_843 : decode cL_law 843 = .ok (.iadd, 1) := by decide +kernel
theorem dL_law_844 : decode cL_law 844 = .ok (.iaload, 1) := by decide +kernel
theorem dL_law_845 : decode cL_law 845 = .ok (.invokevirtual 125, 3) := by decide +kernel
theorem dL_law_848 : decode cL_law 848 = .ok (.if_icmp .eq 288, 3) := by decide +kernel
theorem dL_law_851 : decode cL_law 851 = .ok (.iconst 0, 1) := by decide +kernel
theorem dL_law_852 : decode cL_law 852 = .ok (.ireturn, 1) := by decide +kernel
theorem dL_law_853 : decode cL_law 853 = .ok (.aload_n 1, 1) := by decide +kernel
theorem dL_law_854 : decode cL_law 854 = .ok (.invokevirtual 126, 3) := by decide +kernel
theorem dL_law_857 : decode cL_law 857 = .ok (.aload_n 2, 1) := by decide +kernel
theorem dL_law_858 : decode cL_law 858 = .ok (.invokevirtual 129, 3) := by decide +kernel
theorem dL_law_861 : decode cL_law 861 = .ok (.if_icmp .eq 275, 3) := by decide +kernel
theorem dL_law_864 : decode cL_law 864 = .ok (.iconst 0, 1) := by decide +kernel
theorem dL_law_865 : decode cL_law 865 = .ok (.ireturn, 1) := by decide +kernel
theorem dL_law_866 : decode cL_law 866 = .ok (.aload_n 1, 1) := by decide +kernel
theorem dL_law_867 : decode cL_law 867 = .ok (.invokevirtual 130, 3) := by decide +kernel
theorem dL_law_870 : decode cL_law 870 = .ok (.aload_n 2, 1) := by decide +kernel
theorem dL_law_871 : decode cL_law 871 = .ok (.invokevirtual 133, 3) := by decide +kernel
theorem dL_law_874 : decode cL_law 874 = .ok (.if_icmp .eq 262, 3) := by decide +kernel
theorem dL_law_877 : decode cL_law 877 = .ok (.iconst 0, 1) := by decide +kernel
theorem dL_law_878 : decode cL_law 878 = .ok (.ireturn, 1) := by decide +kernel
theorem dL_law_879 : decode cL_law 879 = .ok (.aload_n 1, 1) := by decide +kernel
theorem dL_law_880 : decode cL_law 880 = .ok (.aload_n 0, 1) := by decide +kernel
theorem dL_law_881 : decode cL_law 881 = .ok (.iload_n 3, 1) := by decide +kernel
theorem dL_law_882 : decode cL_law 882 = .ok (.iconst 1, 1) := by decide +kernel
theorem dL_law_883 : decode cL_law 883 = .ok (.iadd, 1) := by decide +kernel
theorem dL_law_884 : decode cL_law 884 = .ok (.iaload, 1) := by decide +kernel
theorem dL_law_885 : decode cL_law 885 = .ok (.aload_n 0, 1) := by decide +kernel
theorem dL_law_886 : decode cL_law 886 = .ok (.iload_n 3, 1) := by decide +kernel
theorem dL_law_887 : decode cL_law 887 = .ok (.iconst 2, 1) := by decide +kernel
theorem dL_law_888 : decode cL_law 888 = .ok (.iadd, 1) := by decide +kernel
theorem dL_law_889 : decode cL_law 889 = .ok (.iaload, 1) := by decide +kernel
theorem dL_law_890 : decode cL_law 890 = .ok (.invokevirtual 134, 3) := by decide +kernel
theorem dL_law_893 : decode cL_law 893 = .ok (.aload_n 2, 1) := by decide +kernel
theorem dL_law_894 : decode cL_law 894 = .ok (.aload_n 0, 1) := by decide +kernel
theorem dL_law_895 : decode cL_law 895 = .ok (.iload_n 3, 1) := by decide +kernel
theorem dL_law_896 : decode cL_law 896 = .ok (.iconst 1, 1) := by decide +kernel
theorem dL_law_897 : decode cL_law 897 = .ok (.iadd, 1) := by decide +kernel
theorem dL_law_898 : decode cL_law 898 = .ok (.iaload, 1) := by decide +kernel
theorem dL_law_899 : decode cL_law 899 = .ok (.aload_n 0, 1) := by decide +kernel
theorem dL_law_900 : decode cL_law 900 = .ok (.iload_n 3, 1) := by decide +kernel
theorem dL_law_901 : decode cL_law 901 = .ok (.iconst 2, 1) := by decide +kernel
theorem dL_law_902 : decode cL_law 902 = .ok (.iadd, 1) := by decide +kernel
theorem dL_law_903 : decode cL_law 903 = .ok (.iaload, 1) := by decide +kernel
theorem dL_law_904 : decode cL_law 904 = .ok (.invokevirtual 137, 3) := by decide +kernel
theorem dL_law_907 : decode cL_law 907 = .ok (.if_icmp .eq 229, 3) := by decide +kernel
theorem dL_law_910 : decode cL_law 910 = .ok (.iconst 0, 1) := by decide +kernel
theorem dL_law_911 : decode cL_law 911 = .ok (.ireturn, 1) := by decide +kernel
theorem dL_law_912 : decode cL_law 912 = .ok (.aload_n 1, 1) := by decide +kernel
theorem dL_law_913 : decode cL_law 913 = .ok (.invokevirtual 138, 3) := by decide +kernel
theorem dL_law_916 : decode cL_law 916 = .ok (.aload_n 2, 1) := by decide +kernel
theorem dL_law_917 : decode cL_law 917 = .ok (.invokevirtual 141, 3) := by decide +kernel
theorem dL_law_920 : decode cL_law 920 = .ok (.if_icmp .eq 216, 3) := by decide +kernel
theorem dL_law_923 : decode cL_law 923 = .ok (.iconst 0, 1) := by decide +kernel
theorem dL_law_924 : decode cL_law 924 = .ok (.ireturn, 1) := by decide +kernel
theorem dL_law_925 : decode cL_law 925 = .ok (.aload_n 1, 1) := by decide +kernel
theorem dL_law_926 : decode cL_law 926 = .ok (.aload_n 0, 1) := by decide +kernel
theorem dL_law_927 : decode cL_law 927 = .ok (.iload_n 3, 1) := by decide +kernel
theorem dL_law_928 : decode cL_law 928 = .ok (.iconst 1, 1) := by decide +kernel
theorem dL_law_929 : decode cL_law 929 = .ok (.iadd, 1) := by decide +kernel
theorem dL_law_930 : decode cL_law 930 = .ok (.iaload, 1) := by decide +kernel
theorem dL_law_931 : decode cL_law 931 = .ok (.aload_n 0, 1) := by decide +kernel
theorem dL_law_932 : decode cL_law 932 = .ok (.iload_n 3, 1) := by decide +kernel
theorem dL_law_933 : decode cL_law 933 = .ok (.iconst 2, 1) := by decide +kernel
theorem dL_law_934 : decode cL_law 934 = .ok (.iadd, 1) := by decide +kernel
theorem dL_law_935 : decode cL_law 935 = .ok (.iaload, 1) := by decide +kernel
theorem dL_law_936 : decode cL_law 936 = .ok (.invokevirtual 142, 3) := by decide +kernel
theorem dL_law_939 : decode cL_law 939 = .ok (.aload_n 2, 1) := by decide +kernel
theorem dL_law_940 : decode cL_law 940 = .ok (.aload_n 0, 1) := by decide +kernel
theorem dL_law_941 : decode cL_law 941 = .ok (.iload_n 3, 1) := by decide +kernel
theorem dL_law_942 : decode cL_law 942 = .ok (.iconst 1, 1) := by decide +kernel
theorem dL_law_943 : decode cL_law 943 = .ok (.iadd, 1) := by decide +kernel
theorem dL_law_944 : decode cL_law 944 = .ok (.iaload, 1) := by decide +kernel
theorem dL_law_945 : decode cL_law 945 = .ok (.aload_n 0, 1) := by decide +kernel
theorem dL_law_946 : decode cL_law 946 = .ok (.iload_n 3, 1) := by decide +kernel
theorem dL_law_947 : decode cL_law 947 = .ok (.iconst 2, 1) := by decide +kernel
theorem dL_law_948 : decode cL_law 948 = .ok (.iadd, 1) := by decide +kernel
theorem dL_law_949 : decode cL_law 949 = .ok (.iaload, 1) := by decide +kernel
theorem dL_law_950 : decode cL_law 950 = .ok (.invokevirtual 145, 3) := by decide +kernel
theorem dL_law_953 : decode cL_law 953 = .ok (.if_icmp .eq 183, 3) := by decide +kernel
theorem dL_law_956 : decode cL_law 956 = .ok (.iconst 0, 1) := by decide +kernel
theorem dL_law_957 : decode cL_law 957 = .ok (.ireturn, 1) := by decide +kernel
theorem dL_law_958 : decode cL_law 958 = .ok (.aload_n 1, 1) := by decide +kernel
theorem dL_law_959 : decode cL_law 959 = .ok (.aload_n 0, 1) := by decide +kernel
theorem dL_law_960 : decode cL_law 960 = .ok (.iload_n 3, 1) := by decide +kernel
theorem dL_law_961 : decode cL_law 961 = .ok (.iconst 1, 1) := by decide +kernel
theorem dL_law_962 : decode cL_law 962 = .ok (.iadd, 1) := by decide +kernel
theorem dL_law_963 : decode cL_law 963 = .ok (.iaload, 1) := by decide +kernel
theorem dL_law_964 : decode cL_law 964 = .ok (.aload_n 0, 1) := by decide +kernel
theorem dL_law_965 : decode cL_law 965 = .ok (.iload_n 3, 1) := by decide +kernel
theorem dL_law_966 : decode cL_law 966 = .ok (.iconst 2, 1) := by decide +kernel
theorem dL_law_967 : decode cL_law 967 = .ok (.iadd, 1) := by decide +kernel
theorem dL_law_968 : decode cL_law 968 = .ok (.iaload, 1) := by decide +kernel
theorem dL_law_969 : decode cL_law 969 = .ok (.invokevirtual 146, 3) := by decide +kernel
theorem dL_law_972 : decode cL_law 972 = .ok (.aload_n 2, 1) := by decide +kernel
theorem dL_law_973 : decode cL_law 973 = .ok (.aload_n 0, 1) := by decide +kernel
theorem dL_law_974 : decode cL_law 974 = .ok (.iload_n 3, 1) := by decide +kernel
theorem dL_law_975 : decode cL_law 975 = .ok (.iconst 1, 1) := by decide +kernel
theorem dL_law_976 : decode cL_law 976 = .ok (.iadd, 1) := by decide +kernel
theorem dL_law_977 : decode cL_law 977 = .ok (.iaload, 1) := by decide +kernel
theorem dL_law_978 : decode cL_law 978 = .ok (.aload_n 0, 1) := by decide +kernel
theorem dL_law_979 : decode cL_law 979 = .ok (.iload_n 3, 1) := by decide +kernel
theorem dL_law_980 : decode cL_law 980 = .ok (.iconst 2, 1) := by decide +kernel
theorem dL_law_981 : decode cL_law 981 = .ok (.iadd, 1) := by decide +kernel
theorem dL_law_982 : decode cL_law 982 = .ok (.iaload, 1) := by decide +kernel
theorem dL_law_983 : decode cL_law 983 = .ok (.invokevirtual 149, 3) := by decide +kernel
theorem dL_law_986 : decode cL_law 986 = .ok (.if_icmp .eq 150, 3) := by decide +kernel
theorem dL_law_989 : decode cL_law 989 = .ok (.iconst 0, 1) := by decide +kernel
theorem dL_law_990 : decode cL_law 990 = .ok (.ireturn, 1) := by decide +kernel
theorem dL_law_991 : decode cL_law 991 = .ok (.aload_n 1, 1) := by decide +kernel
theorem dL_law_992 : decode cL_law 992 = .ok (.aload_n 0, 1) := by decide +kernel
theorem dL_law_993 : decode cL_law 993 = .ok (.iload_n 3, 1) := by decide +kernel
theorem dL_law_994 : decode cL_law 994 = .ok (.iconst 1, 1) := by decide +kernel
theorem dL_law_995 : decode cL_law 995 = .ok (.iadd, 1) := by decide +kernel
theorem dL_law_996 : decode cL_law 996 = .ok (.iaload, 1) := by decide +kernel
theorem dL_law_997 : decode cL_law 997 = .ok (.invokevirtual 150, 3) := by decide +kernel
theorem dL_law_1000 : decode cL_law 1000 = .ok (.aload_n 2, 1) := by decide +kernel
theorem dL_law_1001 : decode cL_law 1001 = .ok (.aload_n 0, 1) := by decide +kernel
theorem dL_law_1002 : decode cL_law 1002 = .ok (.iload_n 3, 1) := by decide +kernel
theorem dL_law_1003 : decode cL_law 1003 = .ok (.iconst 1, 1) := by decide +kernel
theorem dL_law_1004 : decode cL_law 1004 = .ok (.iadd, 1) := by decide +kernel
theorem dL_law_1005 : decode cL_law 1005 = .ok (.iaload, 1) := by decide +kernel
theorem dL_law_1006 : decode cL_law 1006 = .ok (.invokevirtual 153, 3) := by decide +kernel
theorem dL_law_1009 : decode cL_law 1009 = .ok (.if_icmp .eq 127, 3) := by decide +kernel
theorem dL_law_1012 : decode cL_law 1012 = .ok (.iconst 0, 1) := by decide +kernel
theorem dL_law_1013 : decode cL_law 1013 = .ok (.ireturn, 1) := by decide +kernel
theorem dL_law_1014 : decode cL_law 1014 = .ok (.aload_n 1, 1) := by decide +kernel
theorem dL_law_1015 : decode cL_law 1015 = .ok (.aload_n 0, 1) := by decide +kernel
theorem dL_law_1016 : decode cL_law 1016 = .ok (.iload_n 3, 1) := by decide +kernel
theorem dL_law_1017 : decode cL_law 1017 = .ok (.iconst 1, 1) := by decide +kernel
theorem dL_law_1018 : decode cL_law 1018 = .ok (.iadd, 1) := by decide +kernel
theorem dL_law_1019 : decode cL_law 1019 = .ok (.iaload, 1) := by decide +kernel
theorem dL_law_1020 : decode cL_law 1020 = .ok (.aload_n 0, 1) := by decide +kernel
theorem dL_law_1021 : decode cL_law 1021 = .ok (.iload_n 3, 1) := by decide +kernel
theorem dL_law_1022 : decode cL_law 1022 = .ok (.iconst 2, 1) := by decide +kernel
theorem dL_law_1023 : decode cL_law 1023 = .ok (.iadd, 1) := by decide +kernel
theorem dL_law_1024 : decode cL_law 1024 = .ok (.iaload, 1) := by decide +kernel
theorem dL_law_1025 : decode cL_law 1025 = .ok (.invokevirtual 154, 3) := by decide +kernel
theorem dL_law_1028 : decode cL_law 1028 = .ok (.aload_n 2, 1) := by decide +kernel
theorem dL_law_1029 : decode cL_law 1029 = .ok (.aload_n 0, 1) := by decide +kernel
theorem dL_law_1030 : decode cL_law 1030 = .ok (.iload_n 3, 1) := by decide +kernel
theorem dL_law_1031 : decode cL_law 1031 = .ok (.iconst 1, 1) := by decide +kernel
theorem dL_law_1032 : decode cL_law 1032 = .ok (.iadd, 1) := by decide +kernel
theorem dL_law_1033 : decode cL_law 1033 = .ok (.iaload, 1) := by decide +kernel
theorem dL_law_1034 : decode cL_law 1034 = .ok (.aload_n 0, 1) := by decide +kernel
theorem dL_law_1035 : decode cL_law 1035 = .ok (.iload_n 3, 1) := by decide +kernel
theorem dL_law_1036 : decode cL_law 1036 = .ok (.iconst 2, 1) := by decide +kernel
theorem dL_law_1037 : decode cL_law 1037 = .ok (.iadd, 1) := by decide +kernel
theorem dL_law_1038 : decode cL_law 1038 = .ok (.iaload, 1) := by decide +kernel
theorem dL_law_1039 : decode cL_law 1039 = .ok (.invokevirtual 157, 3) := by decide +kernel
theorem dL_law_1042 : decode cL_law 1042 = .ok (.if_icmp .eq 94, 3) := by decide +kernel
theorem dL_law_1045 : decode cL_law 1045 = .ok (.iconst 0, 1) := by decide +kernel
theorem dL_law_1046 : decode cL_law 1046 = .ok (.ireturn, 1) := by decide +kernel
theorem dL_law_1047 : decode cL_law 1047 = .ok (.aload_n 1, 1) := by decide +kernel
theorem dL_law_1048 : decode cL_law 1048 = .ok (.aload_n 0, 1) := by decide +kernel
theorem dL_law_1049 : decode cL_law 1049 = .ok (.iload_n 3, 1) := by decide +kernel
theorem dL_law_1050 : decode cL_law 1050 = .ok (.iconst 1, 1) := by decide +kernel
theorem dL_law_1051 : decode cL_law 1051 = .ok (.iadd, 1) := by decide +kernel
theorem dL_law_1052 : decode cL_law 1052 = .ok (.iaload, 1) := by decide +kernel
theorem dL_law_1053 : decode cL_law 1053 = .ok (.invokevirtual 158, 3) := by decide +kernel
theorem dL_law_1056 : decode cL_law 1056 = .ok (.aload_n 2, 1) := by decide +kernel
theorem dL_law_1057 : decode cL_law 1057 = .ok (.aload_n 0, 1) := by decide +kernel
theorem dL_law_1058 : decode cL_law 1058 = .ok (.iload_n 3, 1) := by decide +kernel
theorem dL_law_1059 : decode cL_law 1059 = .ok (.iconst 1, 1) := by decide +kernel
theorem dL_law_1060 : decode cL_law 1060 = .ok (.iadd, 1) := by decide +kernel
theorem dL_law_1061 : decode cL_law 1061 = .ok (.iaload, 1) := by decide +kernel
theorem dL_law_1062 : decode cL_law 1062 = .ok (.invokevirtual 161, 3) := by decide +kernel
theorem dL_law_1065 : decode cL_law 1065 = .ok (.if_icmp .eq 71, 3) := by decide +kernel
theorem dL_law_1068 : decode cL_law 1068 = .ok (.iconst 0, 1) := by decide +kernel
theorem dL_law_1069 : decode cL_law 1069 = .ok (.ireturn, 1) := by decide +kernel
theorem dL_law_1070 : decode cL_law 1070 = .ok (.aload_n 1, 1) := by decide +kernel
theorem dL_law_1071 : decode cL_law 1071 = .ok (.invokevirtual 162, 3) := by decide +kernel
theorem dL_law_1074 : decode cL_law 1074 = .ok (.aload_n 2, 1) := by decide +kernel
theorem dL_law_1075 : decode cL_law 1075 = .ok (.invokevirtual 165, 3) := by decide +kernel
theorem dL_law_1078 : decode cL_law 1078 = .ok (.if_icmp .eq 58, 3) := by decide +kernel
theorem dL_law_1081 : decode cL_law 1081 = .ok (.iconst 0, 1) := by decide +kernel
theorem dL_law_1082 : decode cL_law 1082 = .ok (.ireturn, 1) := by decide +kernel
theorem dL_law_1083 : decode cL_law 1083 = .ok (.aload_n 1, 1) := by decide +kernel
theorem dL_law_1084 : decode cL_law 1084 = .ok (.invokevirtual 166, 3) := by decide +kernel
theorem dL_law_1087 : decode cL_law 1087 = .ok (.aload_n 2, 1) := by decide +kernel
theorem dL_law_1088 : decode cL_law 1088 = .ok (.invokevirtual 169, 3) := by decide +kernel
theorem dL_law_1091 : decode cL_law 1091 = .ok (.if_icmp .eq 45, 3) := by decide +kernel
theorem dL_law_1094 : decode cL_law 1094 = .ok (.iconst 0, 1) := by decide +kernel
theorem dL_law_1095 : decode cL_law 1095 = .ok (.ireturn, 1) := by decide +kernel
theorem dL_law_1096 : decode cL_law 1096 = .ok (.aload_n 1, 1) := by decide +kernel
theorem dL_law_1097 : decode cL_law 1097 = .ok (.invokevirtual 170, 3) := by decide +kernel
theorem dL_law_1100 : decode cL_law 1100 = .ok (.aload_n 2, 1) := by decide +kernel
theorem dL_law_1101 : decode cL_law 1101 = .ok (.invokevirtual 173, 3) := by decide +kernel
theorem dL_law_1104 : decode cL_law 1104 = .ok (.if_icmp .eq 32, 3) := by decide +kernel
theorem dL_law_1107 : decode cL_law 1107 = .ok (.iconst 0, 1) := by decide +kernel
theorem dL_law_1108 : decode cL_law 1108 = .ok (.ireturn, 1) := by decide +kernel
theorem dL_law_1109 : decode cL_law 1109 = .ok (.aload_n 1, 1) := by decide +kernel
theorem dL_law_1110 : decode cL_law 1110 = .ok (.invokevirtual 174, 3) := by decide +kernel
theorem dL_law_1113 : decode cL_law 1113 = .ok (.aload_n 2, 1) := by decide +kernel
theorem dL_law_1114 : decode cL_law 1114 = .ok (.invokevirtual 177, 3) := by decide +kernel
theorem dL_law_1117 : decode cL_law 1117 = .ok (.if_icmp .eq 19, 3) := by decide +kernel
theorem dL_law_1120 : decode cL_law 1120 = .ok (.iconst 0, 1) := by decide +kernel
theorem dL_law_1121 : decode cL_law 1121 = .ok (.ireturn, 1) := by decide +kernel
theorem dL_law_1122 : decode cL_law 1122 = .ok (.aload_n 1, 1) := by decide +kernel
theorem dL_law_1123 : decode cL_law 1123 = .ok (.invokevirtual 178, 3) := by decide +kernel
theorem dL_law_1126 : decode cL_law 1126 = .ok (.aload_n 2, 1) := by decide +kernel
theorem dL_law_1127 : decode cL_law 1127 = .ok (.invokevirtual 182, 3) := by decide +kernel
theorem dL_law_1130 : decode cL_law 1130 = .ok (.lcmp, 1) := by decide +kernel
theorem dL_law_1131 : decode cL_law 1131 = .ok (.ifCond .eq 5, 3) := by decide +kernel
theorem dL_law_1134 : decode cL_law 1134 = .ok (.iconst 0, 1) := by decide +kernel
theorem dL_law_1135 : decode cL_law 1135 = .ok (.ireturn, 1) := by decide +kernel
theorem dL_law_1136 : decode cL_law 1136 = .ok (.iinc 3 5, 3) := by decide +kernel
theorem dL_law_1139 : decode cL_law 1139 = .ok (.goto (-1121), 3) := by decide +kernel
theorem dL_law_1142 : decode cL_law 1142 = .ok (.iconst 1, 1) := by decide +kernel
theorem dL_law_1143 : decode cL_law 1143 = .ok (.ireturn, 1) := by decide +kernel
end
section
/-! values, memory, shapes -/
abbrev MV : Type := Int ⊕ (Int ⊕ Nat)
abbrev vI (x : Int) : MV := .inl x
abbrev vL (x : Int) : MV := .inr (.inl x)
abbrev vR (k : Nat) : MV := .inr (.inr k)
def mval (ad : Nat → Nat) : MV → Value
  | .inl x => .int (Int32.ofInt x)
  | .inr (.inl x) => .long (Int64.ofInt x)
  | .inr (.inr k) => .ref (ad k)
abbrev Mem : Type := Nat → Nat → Int
def mup (w : Mem) (c k : Nat) (v : Int) : Mem := fun c' k' => if c' = c ∧ k' = k then v else w c' k'
abbrev Shp : Type := (Nat × List (Option Nat)) ⊕ ((Nat × Nat) ⊕ (Nat × List Nat))
def fldv (ad : Nat → Nat) (r : Option Nat) (x : Int) : Value := match r with
  | none => .int (Int32.ofInt x)
  | some q => .ref (ad q)
def celE (ck : Nat → ClassId) (ad : Nat → Nat) (w : Nat → Int) : Shp → va_E
  | .inl (ci, rs) => .inr (ci, rs.mapIdx (fun k r => fldv ad r (w k)))
  | .inr (.inl (tc, n)) => .inl (ck tc, n, .inl (fun k => Int32.ofInt (w k)))
  | .inr (.inr (tc, rs)) => .inl (ck tc, rs.length, .inr (.inr (.inr (.inr (fun k => (rs[k]?).map ad)))))
def wld (ck : Nat → ClassId) (ad : Nat → Nat) (sh : List Shp) (w : Mem) : va_W := sh.mapIdx (fun c s => (ad c, celE ck ad (w c) s))
abbrev tysOf (ck : Nat → ClassId) : List (ClassId × FieldType) := [(ck 0, .int), (ck 1, .boolean), (ck 2, .char), (ck 3, .object RX5), (ck 4, .object RX1)]
def ainj (ad : Nat → Nat) (n : Nat) : Prop := ∀ i j, i < n → j < n → ad i = ad j → i = j
theorem wld_at {ck : Nat → ClassId} {ad : Nat → Nat} {sh : List Shp} {w : Mem} {q : Nat} {x : Shp} (h : sh[q]? = some x) : (wld ck ad sh w)[q]? = some (ad q, celE ck ad (w q) x) := by
  simp [wld, h]
theorem wld_D {ck : Nat → ClassId} {ad : Nat → Nat} {sh : List Shp} {w : Mem} {A : Nat → Prop} (hi : ainj ad sh.length) (hA : ∀ k, k < sh.length → A (ad k)) : va_D A (wld ck ad sh w) := by
  have key : ∀ (k : Nat) (q : Nat × va_E), (wld ck ad sh w)[k]? = some q → k < sh.length ∧ q.1 = ad k := by
    intro k q hq
    simp only [wld, List.getElem?_mapIdx, Option.map_eq_some_iff] at hq
    obtain ⟨a, h1, rfl⟩ := hq
    exact ⟨(List.getElem?_eq_some_iff.mp h1).1, rfl⟩
  refine ⟨fun i j p q hp hq he => ?_, fun k q hq => ?_⟩
  · obtain ⟨h1, h2⟩ := key i p hp
    obtain ⟨h3, h4⟩ := key j q hq
    exact hi i j h1 h3 (by rw [← h2, ← h4]; exact he)
  · obtain ⟨h1, h2⟩ := key k q hq
    rw [h2]; exact hA k h1
theorem wld_set {ck : Nat → ClassId} {ad : Nat → Nat} {sh : List Shp} {w : Mem} {q k : Nat} {v : Int} {x : Shp} {E : va_E} (h : sh[q]? = some x) (hE : E = celE ck ad (mup w q k v q) x) : (wld ck ad sh w).set q (ad q, E) = wld ck ad sh (mup w q k v) := by
  subst hE
  apply List.ext_getElem?
  intro i
  have hl := (List.getElem?_eq_some_iff.mp h).1
  by_cases hi : q = i
  · subst hi
    rw [wld_at h, List.getElem?_set_self (by simpa [wld] using hl)]
  · rw [List.getElem?_set_ne hi]
    simp only [wld, List.getElem?_mapIdx]
    have e : mup w q k v i = w i := by
      funext k'
      have : ¬ i = q := fun e => hi e.symm
      simp [mup, this]
    rw [e]
theorem mup_fn (w : Mem) (q k : Nat) (v : Int) (g : Int → Int32) : (fun j => g (mup w q k v q j)) = upd (fun j => g (w q j)) k (g v) := by
  funext j
  by_cases hj : j = k <;> simp [mup, upd, hj]
/-! numbers -/
def wr (x : Int) : Int := x.bmod 4294967296
theorem wr_of {x : Int} (h1 : -2147483648 ≤ x) (h2 : x < 2147483648) : wr x = x := by
  unfold wr; rw [Int.bmod_def]; split <;> omega
theorem wr_lo (x : Int) : -2147483648 ≤ wr x := by unfold wr; have := Int.le_bmod (x := x) (m := 4294967296) (by decide); omega
theorem wr_hi (x : Int) : wr x < 2147483648 := by unfold wr; have := Int.bmod_lt (x := x) (m := 4294967296) (by decide); omega
theorem wr_wr (x : Int) : wr (wr x) = wr x := wr_of (wr_lo x) (wr_hi x)
theorem toInt_oi (x : Int) : (Int32.ofInt x).toInt = wr x := by
  rw [Int32.toInt_ofInt]; rfl
theorem oi_wr (x : Int) : Int32.ofInt (wr x) = Int32.ofInt x := by
  rw [← Int32.toInt_inj, toInt_oi, toInt_oi, wr_wr]
theorem oi_inj {x y : Int} : Int32.ofInt x = Int32.ofInt y ↔ wr x = wr y := by
  rw [← Int32.toInt_inj, toInt_oi, toInt_oi]
theorem oi_lt {x y : Int} : Int32.ofInt x < Int32.ofInt y ↔ wr x < wr y := by
  rw [Int32.lt_iff_toInt_lt, toInt_oi, toInt_oi]
theorem oi_le {x y : Int} : Int32.ofInt x ≤ Int32.ofInt y ↔ wr x ≤ wr y := by
  rw [Int32.le_iff_toInt_le, toInt_oi, toInt_oi]
theorem oi_0 : (0 : Int32) = Int32.ofInt 0 := rfl
theorem wr_0 : wr 0 = 0 := by decide
theorem oi_nat {x : Int} {k : Nat} (h : wr x = k) : (Int32.ofInt x).toNatClampNeg = k := by
  rw [Int32.toNatClampNeg, toInt_oi, h]; simp
theorem vp_in_oi {x : Int} {k n : Nat} (h : wr x = k) (hk : k < n) : vp_in (Int32.ofInt x) n := by
  unfold vp_in
  rw [oi_nat h, oi_0, oi_lt, h, wr_0]
  omega
def shlZ (x y : Int) : Int := (Int32.ofInt x <<< (Int32.ofInt y &&& 31)).toInt
def shrZ (x y : Int) : Int := (Int32.ofInt x >>> (Int32.ofInt y &&& 31)).toInt
def ushrZ (x y : Int) : Int := ((Int32.ofInt x).toUInt32 >>> ((Int32.ofInt y).toUInt32 &&& Int32.toUInt32 31)).toInt32.toInt
def andZ (x y : Int) : Int := (Int32.ofInt x &&& Int32.ofInt y).toInt
def orZ (x y : Int) : Int := (Int32.ofInt x ||| Int32.ofInt y).toInt
def xorZ (x y : Int) : Int := (Int32.ofInt x ^^^ Int32.ofInt y).toInt
def i2cZ (x : Int) : Int := (((Int32.ofInt x).toUInt32 % 65536).toInt32).toInt
def narZ (ty : FieldType) (x : Int) : Int := (vp_nar ty (Int32.ofInt x)).toInt
theorem oi_ti (a : Int32) : Int32.ofInt a.toInt = a := Int32.ofInt_toInt a
theorem oi_div {x y : Int} : Int32.ofInt x / Int32.ofInt y = Int32.ofInt ((wr x).tdiv (wr y)) := by
  rw [← Int32.toInt_inj, Int32.toInt_div, toInt_oi, toInt_oi, toInt_oi]; rfl
theorem oi_rem {x y : Int} : Int32.ofInt x - Int32.ofInt x / Int32.ofInt y * Int32.ofInt y = Int32.ofInt ((wr x).tmod (wr y)) := by
  rw [oi_div, ← oi_wr x, ← oi_wr y, ← Int32.ofInt_mul, ← Int32.ofInt_sub]
  congr 1
  have := Int.tmod_add_mul_tdiv (wr x) (wr y)
  rw [Int.mul_comm] at this
  omega
/-! locals -/
def LR (ad : Nat → Nat) (nL : Nat) (lsR : Array Slot) (ls : List (Option MV)) : Prop := lsR.size = nL ∧ lv_wf lsR ∧ ∀ (i : Nat) (v : MV), ls[i]? = some (some v) → lsR[i]? = some (.val (mval ad v))
def encl (ad : Nat → Nat) (ls : List (Option MV)) : List (Nat × Value) := (List.range ls.length).filterMap (fun j => (ls[j]?.join).map (fun v => (j, mval ad v)))
theorem encl_mem {ad : Nat → Nat} {ls : List (Option MV)} {i : Nat} {v : MV} (h : ls[i]? = some (some v)) : (i, mval ad v) ∈ encl ad ls := by
  refine List.mem_filterMap.mpr ⟨i, List.mem_range.mpr (List.getElem?_eq_some_iff.mp h).1, ?_⟩
  rw [h]; rfl
theorem encl_of {ad : Nat → Nat} {ls : List (Option MV)} {q : Nat × Value} (h : q ∈ encl ad ls) : ∃ v, ls[q.1]? = some (some v) ∧ q.2 = mval ad v := by
  obtain ⟨j, -, hj⟩ := List.mem_filterMap.mp h
  cases hx : ls[j]? with
  | none => rw [hx] at hj; cases hj
  | some o =>
    cases o with
    | none => rw [hx] at hj; cases hj
    | some v => rw [hx] at hj; cases hj; exact ⟨v, hx, rfl⟩
theorem LR.has {ad : Nat → Nat} {nL : Nat} {lsR : Array Slot} {ls : List (Option MV)} (h : LR ad nL lsR ls) : lv_has lsR nL (encl ad ls) := ⟨h.1, h.2.1, fun q hq => by
  obtain ⟨v, h1, h2⟩ := encl_of hq
  rw [h2]; exact h.2.2 _ _ h1⟩
def okst (ls : List (Option MV)) (i : Nat) : Bool := match i with
  | 0 => true
  | j + 1 => match ls[j]? with
    | some (some (.inr (.inl _))) => false
    | _ => true
theorem mval_cat {ad : Nat → Nat} {v : MV} (h : (mval ad v).category = 2) : ∃ x, v = vL x := by
  rcases v with x | x | x
  · simp [mval, Value.category] at h
  · exact ⟨x, rfl⟩
  · simp [mval, Value.category] at h
theorem LR.st1 {ad : Nat → Nat} {nL i : Nat} {lsR' : Array Slot} {ls : List (Option MV)} {v : MV} (ho : okst ls i = true)
    (h : lv_has lsR' nL ((i, mval ad v) :: (encl ad ls).filter (fun q => !(q.1 == i) && !(q.1 + 1 == i && q.2.category == 2)))) : LR ad nL lsR' (ls.set i (some v)) := by
  refine ⟨h.1, h.2.1, fun j u hj => ?_⟩
  by_cases e : i = j
  · subst e
    rw [List.getElem?_set] at hj
    split at hj
    · split at hj
      · cases hj; exact h.2.2 _ List.mem_cons_self
      · cases hj
    · contradiction
  · rw [List.getElem?_set_ne e] at hj
    refine h.2.2 (j, mval ad u) (List.mem_cons_of_mem _ (List.mem_filter.mpr ⟨encl_mem hj, ?_⟩))
    have n1 : ¬ j = i := fun z => e z.symm
    simp only [Bool.and_eq_true, Bool.not_eq_true', beq_eq_false_iff_ne, ne_eq, n1, not_false_eq_true, true_and, Bool.and_eq_false_iff]
    by_cases n2 : j + 1 = i
    · right
      intro hc
      obtain ⟨x, rfl⟩ := mval_cat hc
      subst n2
      simp [okst, hj] at ho
    · left; exact n2
theorem LR.st2 {ad : Nat → Nat} {nL i : Nat} {lsR' : Array Slot} {ls : List (Option MV)} {x : Int} (ho : okst ls i = true)
    (h : lv_has lsR' nL ((i, .long (Int64.ofInt x)) :: (encl ad ls).filter (fun q => !(q.1 == i) && (!(q.1 == i + 1) && !(q.1 + 1 == i && q.2.category == 2))))) : LR ad nL lsR' ((ls.set i (some (vL x))).set (i + 1) none) := by
  refine ⟨h.1, h.2.1, fun j u hj => ?_⟩
  have e2 : ¬ i + 1 = j := by
    intro e
    subst e
    rw [List.getElem?_set] at hj
    split at hj
    · split at hj <;> cases hj
    · contradiction
  rw [List.getElem?_set_ne e2] at hj
  by_cases e : i = j
  · subst e
    rw [List.getElem?_set] at hj
    split at hj
    · split at hj
      · cases hj; exact h.2.2 _ List.mem_cons_self
      · cases hj
    · contradiction
  · rw [List.getElem?_set_ne e] at hj
    refine h.2.2 (j, mval ad u) (List.mem_cons_of_mem _ (List.mem_filter.mpr ⟨encl_mem hj, ?_⟩))
    have n1 : ¬ j = i := fun z => e z.symm
    have n3 : ¬ j = i + 1 := fun z => e2 z.symm
    simp only [Bool.and_eq_true, Bool.not_eq_true', beq_eq_false_iff_ne, ne_eq, n1, n3, not_false_eq_true, true_and, Bool.and_eq_false_iff]
    by_cases n2 : j + 1 = i
    · right
      intro hc
      obtain ⟨x, rfl⟩ := mval_cat hc
      subst n2
      simp [okst, hj] at ho
    · left; exact n2
/-! the static rows of numbers -/
def srow (L : List Int) : Nat → Value := fun j => .int (Int32.ofInt (L.getD j 0))
def L_arcs : List Int := [1, 3, 4, 5, 2, 2]
def L_starts : List Int := [0, 0, 3, 7, 12, 14, 14]
def L_cross : List Int := [0, 1, 2, 1, 1, 2, 0, 1, 2, 0, 1, 1, 0, 2, 3, 1, 1, 3, 0, -1, 2, 0, 1, 1, 3, 1, 2, -1, 0, 2, 3, 1, 3, 0, 1, 1, 1, 3, 4, 1, 4, 1, 2, 1, 2, 4, 0, 1, 0, 1, 1, 1, 1, 0, 0, 1]
def Stt (ad : Nat → Nat) (A : Nat → Prop) (U : State) (H : Heap) : Prop :=
  (va_Z RX6 "STANDARD_ARCS" "[I" (.ref (ad 1000)) A U H ∧ va_T .int (ad 1000) 6 (srow L_arcs) A U H) ∧
  (va_Z RX6 "STANDARD_STARTS" "[I" (.ref (ad 1001)) A U H ∧ va_T .int (ad 1001) 7 (srow L_starts) A U H) ∧
  (va_Z RX6 "STANDARD_CROSSINGS" "[I" (.ref (ad 1002)) A U H ∧ va_T .int (ad 1002) 56 (srow L_cross) A U H)
theorem Stt.moved {ad : Nat → Nat} {A : Nat → Prop} {u U : State} {H : Heap} (hvm : u.vm.Alike U.vm) (h : Stt ad A u H) : Stt ad A U H :=
  ⟨⟨h.1.1.moved hvm, h.1.2.moved hvm⟩, ⟨h.2.1.1.moved hvm, h.2.1.2.moved hvm⟩, ⟨h.2.2.1.moved hvm, h.2.2.2.moved hvm⟩⟩
theorem Stt.kept {ad : Nat → Nat} {A : Nat → Prop} {U : State} {H H1 : Heap} (h : Stt ad A U H) (hq : ∀ a : Nat, a < H.size → ¬ A a → H1[a]? = H[a]?) : Stt ad A U H1 :=
  ⟨⟨h.1.1.kept hq, h.1.2.kept hq⟩, ⟨h.2.1.1.kept hq, h.2.1.2.kept hq⟩, ⟨h.2.2.1.kept hq, h.2.2.2.kept hq⟩⟩
theorem Stt.narrow {ad : Nat → Nat} {A B : Nat → Prop} {U : State} {H : Heap} (h : Stt ad A U H) (hAB : ∀ q, B q → A q) : Stt ad B U H :=
  ⟨⟨h.1.1.narrow hAB, h.1.2.narrow hAB⟩, ⟨h.2.1.1.narrow hAB, h.2.1.2.narrow hAB⟩, ⟨h.2.2.1.narrow hAB, h.2.2.2.narrow hAB⟩⟩
/-! the judgement -/
def AW (ad : Nat → Nat) (n : Nat) : Nat → Prop := fun q => ∃ k, k < n ∧ q = ad k
def RetAt (cc : ByteArray) (pc : Nat) : Option MV → Prop
  | none => decode cc pc = .ok (.return_, 1)
  | some (.inl _) => decode cc pc = .ok (.ireturn, 1)
  | some (.inr (.inl _)) => decode cc pc = .ok (.lreturn, 1)
  | some (.inr (.inr _)) => False
def Cx (D : va_G) (ck : Nat → ClassId) (ad : Nat → Nat) (sh : List Shp) (own : String) (cc : ByteArray) (nL : Nat) (R : Room) (p : Program) (s : State) (m : MethodId) (args : Array Value) (c : Code) (A : Nat → Prop) (cells slots : Nat) : Prop :=
  p.tables.exec = Jvm.exec ∧ c.code = cc ∧ c.maxLocals = nL ∧ s.vm.findClass own = some m.cls ∧ (∀ w ∈ lw_gw, w.before args s = true) ∧ va_K D vwCl (tysOf ck) s ∧ (∀ k, k < sh.length → A (ad k)) ∧ (cells ≤ R.cells ∧ slots ≤ R.slots) ∧ Stt ad A s s.heap ∧ ainj ad sh.length
abbrev Post : Type := Option MV → Mem → Prop
def Exi (l : Launch) (D : va_G) (ck : Nat → ClassId) (ad : Nat → Nat) (sh : List Shp) (cc : ByteArray) (R : Room) (K : Post) (p : Program) (e : Env) (s : State) (m : MethodId) (args : Array Value) (below : List Frame) (meth : Method) (c : Code) (A : Nat → Prop) (cells slots : Nat) (Q : State → Prop) : Prop :=
  ∀ (r : Option MV) (w : Mem) (pc : Nat) (lsR : Array Slot) (H : Heap) (locs : List Loc), K r w → RetAt cc pc r → va_P D vwCl (wld ck ad sh w) H → va_S A s.heap H locs → W p l e R s m args below meth c H locs cells slots Q (F0 m pc lsR (r.toList.map (mval ad)))
def Go (l : Launch) (D : va_G) (ck : Nat → ClassId) (ad : Nat → Nat) (sh : List Shp) (own : String) (cc : ByteArray) (nL : Nat) (R : Room) (pc : Nat) (ls : List (Option MV)) (st : List MV) (w : Mem) (K : Post) : Prop :=
  ∀ (p : Program) (e : Env) (s : State) (m : MethodId) (args : Array Value) (below : List Frame) (meth : Method) (c : Code) (A : Nat → Prop) (cells slots : Nat) (Q : State → Prop) (H : Heap) (locs : List Loc) (lsR : Array Slot),
    Cx D ck ad sh own cc nL R p s m args c A cells slots → va_P D vwCl (wld ck ad sh w) H → va_S A s.heap H locs → LR ad nL lsR ls → Exi l D ck ad sh cc R K p e s m args below meth c A cells slots Q →
    W p l e R s m args below meth c H locs cells slots Q (F0 m pc lsR (st.map (mval ad)))
def evP (D : va_G) (ck : Nat → ClassId) (ad : Nat → Nat) (sh : List Shp) (w : Mem) (U : State) : Prop := va_P D vwCl (wld ck ad sh w) U.heap ∧ va_K D vwCl (tysOf ck) U ∧ Stt ad (AW ad sh.length) U U.heap ∧ ainj ad sh.length
def evQ (D : va_G) (ck : Nat → ClassId) (ad : Nat → Nat) (sh : List Shp) (K : Post) : Array Value → State → Outcome → State → Prop := fun _ st o t =>
  (∃ (r : Option MV) (w : Mem), o = .returned (r.map (mval ad)) ∧ K r w ∧ va_P D vwCl (wld ck ad sh w) t.heap) ∧ va_F (AW ad sh.length) st t
def Ev (l : Launch) (D : va_G) (ck : Nat → ClassId) (ad : Nat → Nat) (sh : List Shp) (y : MethodName) (cc : ByteArray) (nL : Nat) (ret : Option FieldType) (R : Room) (as : List MV) (w : Mem) (K : Post) : Prop :=
  Met l y (.code y cc nL ret :: lw_gw) R (va_Pc (as.map (mval ad)) (evP D ck ad sh w)) (evQ D ck ad sh K) 0 0 (AW ad sh.length)
theorem cat1 {ad : Nat → Nat} {v : MV} (h : ∀ x, v ≠ vL x) : (mval ad v).category = 1 := by
  rcases v with x | x | x
  · rfl
  · exact absurd rfl (h x)
  · rfl
theorem oi_eq0 {x : Int} : Int32.ofInt x = 0 ↔ wr x = 0 := by rw [oi_0, oi_inj, wr_0]
theorem oi_lt0 {x : Int} : Int32.ofInt x < 0 ↔ wr x < 0 := by rw [oi_0, oi_lt, wr_0]
theorem oi_ge0 {x : Int} : 0 ≤ Int32.ofInt x ↔ 0 ≤ wr x := by rw [oi_0, oi_le, wr_0]
theorem oi_gt0 {x : Int} : 0 < Int32.ofInt x ↔ 0 < wr x := by rw [oi_0, oi_lt, wr_0]
theorem oi_le0 {x : Int} : Int32.ofInt x ≤ 0 ↔ wr x ≤ 0 := by rw [oi_0, oi_le, wr_0]
theorem celE_st {ck : Nat → ClassId} {ad : Nat → Nat} {w : Mem} {b j tc n : Nat} {v : Int} {z : Int32} (hz : Int32.ofInt v = z) : (.inl (ck tc, n, .inl (upd (fun k => Int32.ofInt (w b k)) j z)) : va_E) = celE ck ad (mup w b j v b) (.inr (.inl (tc, n))) := by
  subst hz
  simp only [celE]
  rw [mup_fn w b j v Int32.ofInt]
theorem celE_put {ck : Nat → ClassId} {ad : Nat → Nat} {w : Mem} {b i ci : Nat} {rs : List (Option Nat)} {v : Int} (hr : rs[i]? = some none) : (.inr (ci, (rs.mapIdx (fun k r => fldv ad r (w b k))).set i (mval ad (vI v))) : va_E) = celE ck ad (mup w b i v b) (.inl (ci, rs)) := by
  simp only [celE]
  congr 2
  apply List.ext_getElem?
  intro j
  have hil : i < rs.length := (List.getElem?_eq_some_iff.mp hr).1
  by_cases hj : i = j
  · subst hj
    rw [List.getElem?_set_self (by simpa using hil)]
    simp [hr, fldv, mup, mval]
  · have hj2 : ¬ j = i := fun e => hj e.symm
    rw [List.getElem?_set_ne hj]
    simp [mup, hj2]
theorem oi_ofNat (n : Nat) : Int32.ofNat n = Int32.ofInt (n : Int) := by
  first | exact Int32.ofInt_eq_ofNat.symm | rfl | (rw [← Int32.toInt_inj]; simp)
section GO
variable {l : Launch} {D : va_G} {ck : Nat → ClassId} {ad : Nat → Nat} {sh : List Shp} {own : String} {cc : ByteArray} {nL : Nat} {R : Room} {pc q : Nat} {ls : List (Option MV)} {st : List MV} {w : Mem} {K : Post}

theorem go_iconst {n : Int} (hd : decode cc pc = .ok (.iconst n, 1)) (hq : pc + 1 = q) (k : Go l D ck ad sh own cc nL R q ls (vI n :: st) w K) : Go l D ck ad sh own cc nL R pc ls st w K := by
  subst hq
  intro p e s m args below meth c A cells slots Q H locs lsR C hP hS hl hex
  exact lv_iconst C.1 C.2.1 hd rfl (k p e s m args below meth c A cells slots Q H locs _ C hP hS hl hex)
theorem go_bipush {n : Int} (hn : (Int8.ofInt n).toInt32 = Int32.ofInt n) (hd : decode cc pc = .ok (.bipush n, 2)) (hq : pc + 2 = q) (k : Go l D ck ad sh own cc nL R q ls (vI n :: st) w K) : Go l D ck ad sh own cc nL R pc ls st w K := by
  subst hq
  intro p e s m args below meth c A cells slots Q H locs lsR C hP hS hl hex
  exact lv_bipush C.1 C.2.1 hd hn (k p e s m args below meth c A cells slots Q H locs _ C hP hS hl hex)
theorem go_sipush {n : Int} (hn : (Int16.ofInt n).toInt32 = Int32.ofInt n) (hd : decode cc pc = .ok (.sipush n, 3)) (hq : pc + 3 = q) (k : Go l D ck ad sh own cc nL R q ls (vI n :: st) w K) : Go l D ck ad sh own cc nL R pc ls st w K := by
  subst hq
  intro p e s m args below meth c A cells slots Q H locs lsR C hP hS hl hex
  exact lv_sipush C.1 C.2.1 hd hn (k p e s m args below meth c A cells slots Q H locs _ C hP hS hl hex)
theorem go_ldc {n : Int} {idx : Nat} {v : Int32} (hc : Cond.constant own idx v ∈ lw_gw) (hv : v = Int32.ofInt n) (hd : decode cc pc = .ok (.ldc idx, 2)) (hq : pc + 2 = q) (k : Go l D ck ad sh own cc nL R q ls (vI n :: st) w K) : Go l D ck ad sh own cc nL R pc ls st w K := by
  subst hq
  intro p e s m args below meth c A cells slots Q H locs lsR C hP hS hl hex
  subst hv; exact lv_ldc C.1 C.2.1 C.2.2.2.1 (C.2.2.2.2.1 _ hc) hd (k p e s m args below meth c A cells slots Q H locs _ C hP hS hl hex)
theorem go_ldcw {n : Int} {idx : Nat} {v : Int32} (hc : Cond.constant own idx v ∈ lw_gw) (hv : v = Int32.ofInt n) (hd : decode cc pc = .ok (.ldc_w idx, 3)) (hq : pc + 3 = q) (k : Go l D ck ad sh own cc nL R q ls (vI n :: st) w K) : Go l D ck ad sh own cc nL R pc ls st w K := by
  subst hq
  intro p e s m args below meth c A cells slots Q H locs lsR C hP hS hl hex
  subst hv; exact lv_ldcw C.1 C.2.1 C.2.2.2.1 (C.2.2.2.2.1 _ hc) hd (k p e s m args below meth c A cells slots Q H locs _ C hP hS hl hex)
theorem go_ldc2 {n : Int} {idx : Nat} {v : Int64} (hc : Cond.constantLong own idx v ∈ lw_gw) (hv : v = Int64.ofInt n) (hd : decode cc pc = .ok (.ldc2_w idx, 3)) (hq : pc + 3 = q) (k : Go l D ck ad sh own cc nL R q ls (vL n :: st) w K) : Go l D ck ad sh own cc nL R pc ls st w K := by
  subst hq
  intro p e s m args below meth c A cells slots Q H locs lsR C hP hS hl hex
  subst hv; exact lv_ldc2 C.1 C.2.1 C.2.2.2.1 (C.2.2.2.2.1 _ hc) hd (k p e s m args below meth c A cells slots Q H locs _ C hP hS hl hex)
theorem go_iload_n {i : Fin 4} {j : Nat} {x : Int} (hj : (i : Nat) = j) (h : ls[j]? = some (some (vI x))) (hd : decode cc pc = .ok (.iload_n i, 1)) (hq : pc + 1 = q) (k : Go l D ck ad sh own cc nL R q ls (vI x :: st) w K) : Go l D ck ad sh own cc nL R pc ls st w K := by
  subst hq
  intro p e s m args below meth c A cells slots Q H locs lsR C hP hS hl hex
  exact lv_iload_n C.1 C.2.1 hd hj (hl.2.2 _ _ h) (k p e s m args below meth c A cells slots Q H locs _ C hP hS hl hex)
theorem go_iload {j : Nat} {x : Int} (h : ls[j]? = some (some (vI x))) (hd : decode cc pc = .ok (.iload j, 2)) (hq : pc + 2 = q) (k : Go l D ck ad sh own cc nL R q ls (vI x :: st) w K) : Go l D ck ad sh own cc nL R pc ls st w K := by
  subst hq
  intro p e s m args below meth c A cells slots Q H locs lsR C hP hS hl hex
  exact lv_iload C.1 C.2.1 hd (hl.2.2 _ _ h) (k p e s m args below meth c A cells slots Q H locs _ C hP hS hl hex)
theorem go_lload_n {i : Fin 4} {j : Nat} {x : Int} (hj : (i : Nat) = j) (h : ls[j]? = some (some (vL x))) (hd : decode cc pc = .ok (.lload_n i, 1)) (hq : pc + 1 = q) (k : Go l D ck ad sh own cc nL R q ls (vL x :: st) w K) : Go l D ck ad sh own cc nL R pc ls st w K := by
  subst hq
  intro p e s m args below meth c A cells slots Q H locs lsR C hP hS hl hex
  exact lv_lload_n C.1 C.2.1 hd hj (hl.2.2 _ _ h) (k p e s m args below meth c A cells slots Q H locs _ C hP hS hl hex)
theorem go_lload {j : Nat} {x : Int} (h : ls[j]? = some (some (vL x))) (hd : decode cc pc = .ok (.lload j, 2)) (hq : pc + 2 = q) (k : Go l D ck ad sh own cc nL R q ls (vL x :: st) w K) : Go l D ck ad sh own cc nL R pc ls st w K := by
  subst hq
  intro p e s m args below meth c A cells slots Q H locs lsR C hP hS hl hex
  exact lv_lload C.1 C.2.1 hd (hl.2.2 _ _ h) (k p e s m args below meth c A cells slots Q H locs _ C hP hS hl hex)
theorem go_aload_n {i : Fin 4} {j : Nat} {x : Nat} (hj : (i : Nat) = j) (h : ls[j]? = some (some (vR x))) (hd : decode cc pc = .ok (.aload_n i, 1)) (hq : pc + 1 = q) (k : Go l D ck ad sh own cc nL R q ls (vR x :: st) w K) : Go l D ck ad sh own cc nL R pc ls st w K := by
  subst hq
  intro p e s m args below meth c A cells slots Q H locs lsR C hP hS hl hex
  exact lv_aload_n C.1 C.2.1 hd hj (hl.2.2 _ _ h) (k p e s m args below meth c A cells slots Q H locs _ C hP hS hl hex)
theorem go_aload {j : Nat} {x : Nat} (h : ls[j]? = some (some (vR x))) (hd : decode cc pc = .ok (.aload j, 2)) (hq : pc + 2 = q) (k : Go l D ck ad sh own cc nL R q ls (vR x :: st) w K) : Go l D ck ad sh own cc nL R pc ls st w K := by
  subst hq
  intro p e s m args below meth c A cells slots Q H locs lsR C hP hS hl hex
  exact lv_aload C.1 C.2.1 hd (hl.2.2 _ _ h) (k p e s m args below meth c A cells slots Q H locs _ C hP hS hl hex)
theorem go_istore_n {i : Fin 4} {j : Nat} {x : Int} (hj : (i : Nat) = j) (hn : j < nL) (ho : okst ls j = true) {ls2 : List (Option MV)} (hls : ls.set j (some (vI x)) = ls2) (hd : decode cc pc = .ok (.istore_n i, 1)) (hq : pc + 1 = q) (k : Go l D ck ad sh own cc nL R q ls2 st w K) : Go l D ck ad sh own cc nL R pc ls (vI x :: st) w K := by
  subst hq
  intro p e s m args below meth c A cells slots Q H locs lsR C hP hS hl hex
  subst hls; exact lv_istore_n C.1 C.2.1 hd hj hl.has hn rfl (fun ls9 hl2 => k p e s m args below meth c A cells slots Q H locs _ C hP hS (LR.st1 ho hl2) hex)
theorem go_istore {j : Nat} {x : Int} (hn : j < nL) (ho : okst ls j = true) {ls2 : List (Option MV)} (hls : ls.set j (some (vI x)) = ls2) (hd : decode cc pc = .ok (.istore j, 2)) (hq : pc + 2 = q) (k : Go l D ck ad sh own cc nL R q ls2 st w K) : Go l D ck ad sh own cc nL R pc ls (vI x :: st) w K := by
  subst hq
  intro p e s m args below meth c A cells slots Q H locs lsR C hP hS hl hex
  subst hls; exact lv_istore C.1 C.2.1 hd hl.has hn rfl (fun ls9 hl2 => k p e s m args below meth c A cells slots Q H locs _ C hP hS (LR.st1 ho hl2) hex)
theorem go_astore_n {i : Fin 4} {j : Nat} {x : Nat} (hj : (i : Nat) = j) (hn : j < nL) (ho : okst ls j = true) {ls2 : List (Option MV)} (hls : ls.set j (some (vR x)) = ls2) (hd : decode cc pc = .ok (.astore_n i, 1)) (hq : pc + 1 = q) (k : Go l D ck ad sh own cc nL R q ls2 st w K) : Go l D ck ad sh own cc nL R pc ls (vR x :: st) w K := by
  subst hq
  intro p e s m args below meth c A cells slots Q H locs lsR C hP hS hl hex
  subst hls; exact lv_astore_n C.1 C.2.1 hd hj hl.has hn rfl (fun ls9 hl2 => k p e s m args below meth c A cells slots Q H locs _ C hP hS (LR.st1 ho hl2) hex)
theorem go_lstore_n {i : Fin 4} {j : Nat} {x : Int} (hj : (i : Nat) = j) (hn : j + 1 < nL) (ho : okst ls j = true) {ls2 : List (Option MV)} (hls : (ls.set j (some (vL x))).set (j + 1) none = ls2) (hd : decode cc pc = .ok (.lstore_n i, 1)) (hq : pc + 1 = q) (k : Go l D ck ad sh own cc nL R q ls2 st w K) : Go l D ck ad sh own cc nL R pc ls (vL x :: st) w K := by
  subst hq
  intro p e s m args below meth c A cells slots Q H locs lsR C hP hS hl hex
  subst hls; exact lv_lstore_n C.1 C.2.1 hd hj hl.has hn rfl (fun ls9 hl2 => k p e s m args below meth c A cells slots Q H locs _ C hP hS (LR.st2 ho hl2) hex)
theorem go_lstore {j : Nat} {x : Int} (hn : j + 1 < nL) (ho : okst ls j = true) {ls2 : List (Option MV)} (hls : (ls.set j (some (vL x))).set (j + 1) none = ls2) (hd : decode cc pc = .ok (.lstore j, 2)) (hq : pc + 2 = q) (k : Go l D ck ad sh own cc nL R q ls2 st w K) : Go l D ck ad sh own cc nL R pc ls (vL x :: st) w K := by
  subst hq
  intro p e s m args below meth c A cells slots Q H locs lsR C hP hS hl hex
  subst hls; exact lv_lstore C.1 C.2.1 hd hl.has hn rfl (fun ls9 hl2 => k p e s m args below meth c A cells slots Q H locs _ C hP hS (LR.st2 ho hl2) hex)
theorem go_iinc {j : Nat} {n x : Int} (h : ls[j]? = some (some (vI x))) (hn : j < nL) (ho : okst ls j = true) {ls2 : List (Option MV)} (hls : ls.set j (some (vI (x + n))) = ls2) (hd : decode cc pc = .ok (.iinc j n, 3)) (hq : pc + 3 = q) (k : Go l D ck ad sh own cc nL R q ls2 st w K) : Go l D ck ad sh own cc nL R pc ls st w K := by
  subst hq
  intro p e s m args below meth c A cells slots Q H locs lsR C hP hS hl hex
  subst hls
  obtain ⟨kk, hkk⟩ := List.mem_iff_getElem?.mp (encl_mem (ad := ad) h)
  exact lv_iinc (v := Int32.ofInt (x + n)) C.1 C.2.1 hd hl.has hkk (by rw [Int32.ofInt_add]) hn rfl (fun ls9 hl2 => k p e s m args below meth c A cells slots Q H locs _ C hP hS (LR.st1 ho hl2) hex)
theorem go_iadd {x y : Int} (hd : decode cc pc = .ok (.iadd, 1)) (hq : pc + 1 = q) (k : Go l D ck ad sh own cc nL R q ls (vI (x + y) :: st) w K) : Go l D ck ad sh own cc nL R pc ls (vI y :: vI x :: st) w K := by
  subst hq
  intro p e s m args below meth c A cells slots Q H locs lsR C hP hS hl hex
  have z := (k p e s m args below meth c A cells slots Q H locs _ C hP hS hl hex)
  have ez : Int32.ofInt (x + y) = Int32.ofInt x + Int32.ofInt y := Int32.ofInt_add ..
  simp only [List.map_cons, mval, ez] at z
  exact lv_iadd C.1 C.2.1 hd z
theorem go_isub {x y : Int} (hd : decode cc pc = .ok (.isub, 1)) (hq : pc + 1 = q) (k : Go l D ck ad sh own cc nL R q ls (vI (x - y) :: st) w K) : Go l D ck ad sh own cc nL R pc ls (vI y :: vI x :: st) w K := by
  subst hq
  intro p e s m args below meth c A cells slots Q H locs lsR C hP hS hl hex
  have z := (k p e s m args below meth c A cells slots Q H locs _ C hP hS hl hex)
  have ez : Int32.ofInt (x - y) = Int32.ofInt x - Int32.ofInt y := Int32.ofInt_sub ..
  simp only [List.map_cons, mval, ez] at z
  exact lv_isub C.1 C.2.1 hd z
theorem go_imul {x y : Int} (hd : decode cc pc = .ok (.imul, 1)) (hq : pc + 1 = q) (k : Go l D ck ad sh own cc nL R q ls (vI (x * y) :: st) w K) : Go l D ck ad sh own cc nL R pc ls (vI y :: vI x :: st) w K := by
  subst hq
  intro p e s m args below meth c A cells slots Q H locs lsR C hP hS hl hex
  have z := (k p e s m args below meth c A cells slots Q H locs _ C hP hS hl hex)
  have ez : Int32.ofInt (x * y) = Int32.ofInt x * Int32.ofInt y := Int32.ofInt_mul ..
  simp only [List.map_cons, mval, ez] at z
  exact lv_imul C.1 C.2.1 hd z
theorem go_ishl {x y : Int} (hd : decode cc pc = .ok (.ishl, 1)) (hq : pc + 1 = q) (k : Go l D ck ad sh own cc nL R q ls (vI (shlZ x y) :: st) w K) : Go l D ck ad sh own cc nL R pc ls (vI y :: vI x :: st) w K := by
  subst hq
  intro p e s m args below meth c A cells slots Q H locs lsR C hP hS hl hex
  have z := (k p e s m args below meth c A cells slots Q H locs _ C hP hS hl hex)
  have ez : Int32.ofInt (shlZ x y) = Int32.ofInt x <<< (Int32.ofInt y &&& 31) := oi_ti _
  simp only [List.map_cons, mval, ez] at z
  exact lv_ishl C.1 C.2.1 hd z
theorem go_ishr {x y : Int} (hd : decode cc pc = .ok (.ishr, 1)) (hq : pc + 1 = q) (k : Go l D ck ad sh own cc nL R q ls (vI (shrZ x y) :: st) w K) : Go l D ck ad sh own cc nL R pc ls (vI y :: vI x :: st) w K := by
  subst hq
  intro p e s m args below meth c A cells slots Q H locs lsR C hP hS hl hex
  have z := (k p e s m args below meth c A cells slots Q H locs _ C hP hS hl hex)
  have ez : Int32.ofInt (shrZ x y) = Int32.ofInt x >>> (Int32.ofInt y &&& 31) := oi_ti _
  simp only [List.map_cons, mval, ez] at z
  exact lv_ishr C.1 C.2.1 hd z
theorem go_iand {x y : Int} (hd : decode cc pc = .ok (.iand, 1)) (hq : pc + 1 = q) (k : Go l D ck ad sh own cc nL R q ls (vI (andZ x y) :: st) w K) : Go l D ck ad sh own cc nL R pc ls (vI y :: vI x :: st) w K := by
  subst hq
  intro p e s m args below meth c A cells slots Q H locs lsR C hP hS hl hex
  have z := (k p e s m args below meth c A cells slots Q H locs _ C hP hS hl hex)
  have ez : Int32.ofInt (andZ x y) = Int32.ofInt x &&& Int32.ofInt y := oi_ti _
  simp only [List.map_cons, mval, ez] at z
  exact lv_iand C.1 C.2.1 hd z
theorem go_ior {x y : Int} (hd : decode cc pc = .ok (.ior, 1)) (hq : pc + 1 = q) (k : Go l D ck ad sh own cc nL R q ls (vI (orZ x y) :: st) w K) : Go l D ck ad sh own cc nL R pc ls (vI y :: vI x :: st) w K := by
  subst hq
  intro p e s m args below meth c A cells slots Q H locs lsR C hP hS hl hex
  have z := (k p e s m args below meth c A cells slots Q H locs _ C hP hS hl hex)
  have ez : Int32.ofInt (orZ x y) = Int32.ofInt x ||| Int32.ofInt y := oi_ti _
  simp only [List.map_cons, mval, ez] at z
  exact lv_ior C.1 C.2.1 hd z
theorem go_ixor {x y : Int} (hd : decode cc pc = .ok (.ixor, 1)) (hq : pc + 1 = q) (k : Go l D ck ad sh own cc nL R q ls (vI (xorZ x y) :: st) w K) : Go l D ck ad sh own cc nL R pc ls (vI y :: vI x :: st) w K := by
  subst hq
  intro p e s m args below meth c A cells slots Q H locs lsR C hP hS hl hex
  have z := (k p e s m args below meth c A cells slots Q H locs _ C hP hS hl hex)
  have ez : Int32.ofInt (xorZ x y) = Int32.ofInt x ^^^ Int32.ofInt y := oi_ti _
  simp only [List.map_cons, mval, ez] at z
  exact lv_ixor C.1 C.2.1 hd z
theorem go_iushr {x y : Int} (hd : decode cc pc = .ok (.iushr, 1)) (hq : pc + 1 = q) (k : Go l D ck ad sh own cc nL R q ls (vI (ushrZ x y) :: st) w K) : Go l D ck ad sh own cc nL R pc ls (vI y :: vI x :: st) w K := by
  subst hq
  intro p e s m args below meth c A cells slots Q H locs lsR C hP hS hl hex
  exact lv_iushr (v := Int32.ofInt (ushrZ x y)) C.1 C.2.1 hd (oi_ti _).symm (k p e s m args below meth c A cells slots Q H locs _ C hP hS hl hex)
theorem go_ineg {x : Int} (hd : decode cc pc = .ok (.ineg, 1)) (hq : pc + 1 = q) (k : Go l D ck ad sh own cc nL R q ls (vI (-x) :: st) w K) : Go l D ck ad sh own cc nL R pc ls (vI x :: st) w K := by
  subst hq
  intro p e s m args below meth c A cells slots Q H locs lsR C hP hS hl hex
  have z := (k p e s m args below meth c A cells slots Q H locs _ C hP hS hl hex)
  simp only [List.map_cons, mval, Int32.ofInt_neg] at z
  exact lv_ineg C.1 C.2.1 hd z
theorem go_idiv {x y : Int} (hne : ¬ wr y = 0) (hd : decode cc pc = .ok (.idiv, 1)) (hq : pc + 1 = q) (k : Go l D ck ad sh own cc nL R q ls (vI ((wr x).tdiv (wr y)) :: st) w K) : Go l D ck ad sh own cc nL R pc ls (vI y :: vI x :: st) w K := by
  subst hq
  intro p e s m args below meth c A cells slots Q H locs lsR C hP hS hl hex
  have z := (k p e s m args below meth c A cells slots Q H locs _ C hP hS hl hex)
  simp only [List.map_cons, mval, ← oi_div] at z
  exact lv_idiv C.1 C.2.1 hd (fun z0 => hne (by have := oi_inj.mp (z0.trans oi_0); rwa [wr_0] at this)) z
theorem go_irem {x y : Int} (hne : ¬ wr y = 0) (hd : decode cc pc = .ok (.irem, 1)) (hq : pc + 1 = q) (k : Go l D ck ad sh own cc nL R q ls (vI ((wr x).tmod (wr y)) :: st) w K) : Go l D ck ad sh own cc nL R pc ls (vI y :: vI x :: st) w K := by
  subst hq
  intro p e s m args below meth c A cells slots Q H locs lsR C hP hS hl hex
  have z := (k p e s m args below meth c A cells slots Q H locs _ C hP hS hl hex)
  simp only [List.map_cons, mval, ← oi_rem] at z
  exact lv_irem C.1 C.2.1 hd (fun z0 => hne (by have := oi_inj.mp (z0.trans oi_0); rwa [wr_0] at this)) z
theorem go_ladd {x y : Int} (hd : decode cc pc = .ok (.ladd, 1)) (hq : pc + 1 = q) (k : Go l D ck ad sh own cc nL R q ls (vL (x + y) :: st) w K) : Go l D ck ad sh own cc nL R pc ls (vL y :: vL x :: st) w K := by
  subst hq
  intro p e s m args below meth c A cells slots Q H locs lsR C hP hS hl hex
  have z := (k p e s m args below meth c A cells slots Q H locs _ C hP hS hl hex)
  simp only [List.map_cons, mval, Int64.ofInt_add] at z
  exact lv_ladd C.1 C.2.1 hd z
theorem go_lmul {x y : Int} (hd : decode cc pc = .ok (.lmul, 1)) (hq : pc + 1 = q) (k : Go l D ck ad sh own cc nL R q ls (vL (x * y) :: st) w K) : Go l D ck ad sh own cc nL R pc ls (vL y :: vL x :: st) w K := by
  subst hq
  intro p e s m args below meth c A cells slots Q H locs lsR C hP hS hl hex
  have z := (k p e s m args below meth c A cells slots Q H locs _ C hP hS hl hex)
  simp only [List.map_cons, mval, Int64.ofInt_mul] at z
  exact lv_lmul C.1 C.2.1 hd z
theorem go_i2l {x : Int} (hd : decode cc pc = .ok (.i2l, 1)) (hq : pc + 1 = q) (k : Go l D ck ad sh own cc nL R q ls (vL (wr x) :: st) w K) : Go l D ck ad sh own cc nL R pc ls (vI x :: st) w K := by
  subst hq
  intro p e s m args below meth c A cells slots Q H locs lsR C hP hS hl hex
  exact lv_i2l (v := Int64.ofInt (wr x)) C.1 C.2.1 hd (by rw [← toInt_oi]; rfl) (k p e s m args below meth c A cells slots Q H locs _ C hP hS hl hex)
theorem go_i2c {x : Int} (hd : decode cc pc = .ok (.i2c, 1)) (hq : pc + 1 = q) (k : Go l D ck ad sh own cc nL R q ls (vI (i2cZ x) :: st) w K) : Go l D ck ad sh own cc nL R pc ls (vI x :: st) w K := by
  subst hq
  intro p e s m args below meth c A cells slots Q H locs lsR C hP hS hl hex
  exact lv_i2c (v := Int32.ofInt (i2cZ x)) C.1 C.2.1 hd (oi_ti _).symm (k p e s m args below meth c A cells slots Q H locs _ C hP hS hl hex)
theorem go_dup {v : MV} (hv : ∀ x, v ≠ vL x) (hd : decode cc pc = .ok (.dup, 1)) (hq : pc + 1 = q) (k : Go l D ck ad sh own cc nL R q ls (v :: v :: st) w K) : Go l D ck ad sh own cc nL R pc ls (v :: st) w K := by
  subst hq
  intro p e s m args below meth c A cells slots Q H locs lsR C hP hS hl hex
  exact lv_dup C.1 C.2.1 hd (cat1 hv) (k p e s m args below meth c A cells slots Q H locs _ C hP hS hl hex)
theorem go_pop {v : MV} (hv : ∀ x, v ≠ vL x) (hd : decode cc pc = .ok (.pop, 1)) (hq : pc + 1 = q) (k : Go l D ck ad sh own cc nL R q ls st w K) : Go l D ck ad sh own cc nL R pc ls (v :: st) w K := by
  subst hq
  intro p e s m args below meth c A cells slots Q H locs lsR C hP hS hl hex
  exact lv_pop C.1 C.2.1 hd (cat1 hv) (k p e s m args below meth c A cells slots Q H locs _ C hP hS hl hex)
theorem go_dup_x1 {v u : MV} (hv : ∀ x, v ≠ vL x) (hu : ∀ x, u ≠ vL x) (hd : decode cc pc = .ok (.dup_x1, 1)) (hq : pc + 1 = q) (k : Go l D ck ad sh own cc nL R q ls (v :: u :: v :: st) w K) : Go l D ck ad sh own cc nL R pc ls (v :: u :: st) w K := by
  subst hq
  intro p e s m args below meth c A cells slots Q H locs lsR C hP hS hl hex
  exact lv_dup_x1 C.1 C.2.1 hd (cat1 hv) (cat1 hu) (k p e s m args below meth c A cells slots Q H locs _ C hP hS hl hex)
theorem go_dup2 {v u : MV} (hv : ∀ x, v ≠ vL x) (hu : ∀ x, u ≠ vL x) (hd : decode cc pc = .ok (.dup2, 1)) (hq : pc + 1 = q) (k : Go l D ck ad sh own cc nL R q ls (v :: u :: v :: u :: st) w K) : Go l D ck ad sh own cc nL R pc ls (v :: u :: st) w K := by
  subst hq
  intro p e s m args below meth c A cells slots Q H locs lsR C hP hS hl hex
  exact lv_dup2_11 C.1 C.2.1 hd (cat1 hv) (cat1 hu) (k p e s m args below meth c A cells slots Q H locs _ C hP hS hl hex)
theorem go_goto {off : Int} (hd : decode cc pc = .ok (.goto off, 3)) (hq : (pc : Int) + off = (q : Int)) (k : Go l D ck ad sh own cc nL R q ls st w K) : Go l D ck ad sh own cc nL R pc ls st w K := by
  intro p e s m args below meth c A cells slots Q H locs lsR C hP hS hl hex
  exact lv_goto C.1 C.2.1 hd hq (k p e s m args below meth c A cells slots Q H locs _ C hP hS hl hex)
theorem go_icmp_eq {x y off : Int} {t : Nat} (hd : decode cc pc = .ok (.if_icmp .eq off, 3)) (ht : (pc : Int) + off = (t : Int)) (hq : pc + 3 = q) (kt : wr x = wr y → Go l D ck ad sh own cc nL R t ls st w K) (kf : ¬ (wr x = wr y) → Go l D ck ad sh own cc nL R q ls st w K) : Go l D ck ad sh own cc nL R pc ls (vI y :: vI x :: st) w K := by
  subst hq
  intro p e s m args below meth c A cells slots Q H locs lsR C hP hS hl hex
  exact lv_icmp_eq C.1 C.2.1 hd ht (fun z => kt (oi_inj.mp z) p e s m args below meth c A cells slots Q H locs _ C hP hS hl hex) (fun z => kf (fun e2 => z (oi_inj.mpr e2)) p e s m args below meth c A cells slots Q H locs _ C hP hS hl hex)
theorem go_if_eq {x off : Int} {t : Nat} (hd : decode cc pc = .ok (.ifCond .eq off, 3)) (ht : (pc : Int) + off = (t : Int)) (hq : pc + 3 = q) (kt : wr x = 0 → Go l D ck ad sh own cc nL R t ls st w K) (kf : ¬ (wr x = 0) → Go l D ck ad sh own cc nL R q ls st w K) : Go l D ck ad sh own cc nL R pc ls (vI x :: st) w K := by
  subst hq
  intro p e s m args below meth c A cells slots Q H locs lsR C hP hS hl hex
  exact lv_if_eq C.1 C.2.1 hd ht (fun z => kt (oi_eq0.mp z) p e s m args below meth c A cells slots Q H locs _ C hP hS hl hex) (fun z => kf (fun e2 => z (oi_eq0.mpr e2)) p e s m args below meth c A cells slots Q H locs _ C hP hS hl hex)
theorem go_icmp_ne {x y off : Int} {t : Nat} (hd : decode cc pc = .ok (.if_icmp .ne off, 3)) (ht : (pc : Int) + off = (t : Int)) (hq : pc + 3 = q) (kt : ¬ wr x = wr y → Go l D ck ad sh own cc nL R t ls st w K) (kf : ¬ (¬ wr x = wr y) → Go l D ck ad sh own cc nL R q ls st w K) : Go l D ck ad sh own cc nL R pc ls (vI y :: vI x :: st) w K := by
  subst hq
  intro p e s m args below meth c A cells slots Q H locs lsR C hP hS hl hex
  exact lv_icmp_ne C.1 C.2.1 hd ht (fun z => kt (fun e2 => z (oi_inj.mpr e2)) p e s m args below meth c A cells slots Q H locs _ C hP hS hl hex) (fun z => kf (fun e2 => e2 (oi_inj.mp z)) p e s m args below meth c A cells slots Q H locs _ C hP hS hl hex)
theorem go_if_ne {x off : Int} {t : Nat} (hd : decode cc pc = .ok (.ifCond .ne off, 3)) (ht : (pc : Int) + off = (t : Int)) (hq : pc + 3 = q) (kt : ¬ wr x = 0 → Go l D ck ad sh own cc nL R t ls st w K) (kf : ¬ (¬ wr x = 0) → Go l D ck ad sh own cc nL R q ls st w K) : Go l D ck ad sh own cc nL R pc ls (vI x :: st) w K := by
  subst hq
  intro p e s m args below meth c A cells slots Q H locs lsR C hP hS hl hex
  exact lv_if_ne C.1 C.2.1 hd ht (fun z => kt (fun e2 => z (oi_eq0.mpr e2)) p e s m args below meth c A cells slots Q H locs _ C hP hS hl hex) (fun z => kf (fun e2 => e2 (oi_eq0.mp z)) p e s m args below meth c A cells slots Q H locs _ C hP hS hl hex)
theorem go_icmp_lt {x y off : Int} {t : Nat} (hd : decode cc pc = .ok (.if_icmp .lt off, 3)) (ht : (pc : Int) + off = (t : Int)) (hq : pc + 3 = q) (kt : wr x < wr y → Go l D ck ad sh own cc nL R t ls st w K) (kf : ¬ (wr x < wr y) → Go l D ck ad sh own cc nL R q ls st w K) : Go l D ck ad sh own cc nL R pc ls (vI y :: vI x :: st) w K := by
  subst hq
  intro p e s m args below meth c A cells slots Q H locs lsR C hP hS hl hex
  exact lv_icmp_lt C.1 C.2.1 hd ht (fun z => kt (oi_lt.mp z) p e s m args below meth c A cells slots Q H locs _ C hP hS hl hex) (fun z => kf (fun e2 => z (oi_lt.mpr e2)) p e s m args below meth c A cells slots Q H locs _ C hP hS hl hex)
theorem go_if_lt {x off : Int} {t : Nat} (hd : decode cc pc = .ok (.ifCond .lt off, 3)) (ht : (pc : Int) + off = (t : Int)) (hq : pc + 3 = q) (kt : wr x < 0 → Go l D ck ad sh own cc nL R t ls st w K) (kf : ¬ (wr x < 0) → Go l D ck ad sh own cc nL R q ls st w K) : Go l D ck ad sh own cc nL R pc ls (vI x :: st) w K := by
  subst hq
  intro p e s m args below meth c A cells slots Q H locs lsR C hP hS hl hex
  exact lv_if_lt C.1 C.2.1 hd ht (fun z => kt (oi_lt0.mp z) p e s m args below meth c A cells slots Q H locs _ C hP hS hl hex) (fun z => kf (fun e2 => z (oi_lt0.mpr e2)) p e s m args below meth c A cells slots Q H locs _ C hP hS hl hex)
theorem go_icmp_ge {x y off : Int} {t : Nat} (hd : decode cc pc = .ok (.if_icmp .ge off, 3)) (ht : (pc : Int) + off = (t : Int)) (hq : pc + 3 = q) (kt : wr y ≤ wr x → Go l D ck ad sh own cc nL R t ls st w K) (kf : ¬ (wr y ≤ wr x) → Go l D ck ad sh own cc nL R q ls st w K) : Go l D ck ad sh own cc nL R pc ls (vI y :: vI x :: st) w K := by
  subst hq
  intro p e s m args below meth c A cells slots Q H locs lsR C hP hS hl hex
  exact lv_icmp_ge C.1 C.2.1 hd ht (fun z => kt (oi_le.mp z) p e s m args below meth c A cells slots Q H locs _ C hP hS hl hex) (fun z => kf (fun e2 => z (oi_le.mpr e2)) p e s m args below meth c A cells slots Q H locs _ C hP hS hl hex)
theorem go_if_ge {x off : Int} {t : Nat} (hd : decode cc pc = .ok (.ifCond .ge off, 3)) (ht : (pc : Int) + off = (t : Int)) (hq : pc + 3 = q) (kt : 0 ≤ wr x → Go l D ck ad sh own cc nL R t ls st w K) (kf : ¬ (0 ≤ wr x) → Go l D ck ad sh own cc nL R q ls st w K) : Go l D ck ad sh own cc nL R pc ls (vI x :: st) w K := by
  subst hq
  intro p e s m args below meth c A cells slots Q H locs lsR C hP hS hl hex
  exact lv_if_ge C.1 C.2.1 hd ht (fun z => kt (oi_ge0.mp z) p e s m args below meth c A cells slots Q H locs _ C hP hS hl hex) (fun z => kf (fun e2 => z (oi_ge0.mpr e2)) p e s m args below meth c A cells slots Q H locs _ C hP hS hl hex)
theorem go_icmp_gt {x y off : Int} {t : Nat} (hd : decode cc pc = .ok (.if_icmp .gt off, 3)) (ht : (pc : Int) + off = (t : Int)) (hq : pc + 3 = q) (kt : wr y < wr x → Go l D ck ad sh own cc nL R t ls st w K) (kf : ¬ (wr y < wr x) → Go l D ck ad sh own cc nL R q ls st w K) : Go l D ck ad sh own cc nL R pc ls (vI y :: vI x :: st) w K := by
  subst hq
  intro p e s m args below meth c A cells slots Q H locs lsR C hP hS hl hex
  exact lv_icmp_gt C.1 C.2.1 hd ht (fun z => kt (oi_lt.mp z) p e s m args below meth c A cells slots Q H locs _ C hP hS hl hex) (fun z => kf (fun e2 => z (oi_lt.mpr e2)) p e s m args below meth c A cells slots Q H locs _ C hP hS hl hex)
theorem go_if_gt {x off : Int} {t : Nat} (hd : decode cc pc = .ok (.ifCond .gt off, 3)) (ht : (pc : Int) + off = (t : Int)) (hq : pc + 3 = q) (kt : 0 < wr x → Go l D ck ad sh own cc nL R t ls st w K) (kf : ¬ (0 < wr x) → Go l D ck ad sh own cc nL R q ls st w K) : Go l D ck ad sh own cc nL R pc ls (vI x :: st) w K := by
  subst hq
  intro p e s m args below meth c A cells slots Q H locs lsR C hP hS hl hex
  exact lv_if_gt C.1 C.2.1 hd ht (fun z => kt (oi_gt0.mp z) p e s m args below meth c A cells slots Q H locs _ C hP hS hl hex) (fun z => kf (fun e2 => z (oi_gt0.mpr e2)) p e s m args below meth c A cells slots Q H locs _ C hP hS hl hex)
theorem go_icmp_le {x y off : Int} {t : Nat} (hd : decode cc pc = .ok (.if_icmp .le off, 3)) (ht : (pc : Int) + off = (t : Int)) (hq : pc + 3 = q) (kt : wr x ≤ wr y → Go l D ck ad sh own cc nL R t ls st w K) (kf : ¬ (wr x ≤ wr y) → Go l D ck ad sh own cc nL R q ls st w K) : Go l D ck ad sh own cc nL R pc ls (vI y :: vI x :: st) w K := by
  subst hq
  intro p e s m args below meth c A cells slots Q H locs lsR C hP hS hl hex
  exact lv_icmp_le C.1 C.2.1 hd ht (fun z => kt (oi_le.mp z) p e s m args below meth c A cells slots Q H locs _ C hP hS hl hex) (fun z => kf (fun e2 => z (oi_le.mpr e2)) p e s m args below meth c A cells slots Q H locs _ C hP hS hl hex)
theorem go_if_le {x off : Int} {t : Nat} (hd : decode cc pc = .ok (.ifCond .le off, 3)) (ht : (pc : Int) + off = (t : Int)) (hq : pc + 3 = q) (kt : wr x ≤ 0 → Go l D ck ad sh own cc nL R t ls st w K) (kf : ¬ (wr x ≤ 0) → Go l D ck ad sh own cc nL R q ls st w K) : Go l D ck ad sh own cc nL R pc ls (vI x :: st) w K := by
  subst hq
  intro p e s m args below meth c A cells slots Q H locs lsR C hP hS hl hex
  exact lv_if_le C.1 C.2.1 hd ht (fun z => kt (oi_le0.mp z) p e s m args below meth c A cells slots Q H locs _ C hP hS hl hex) (fun z => kf (fun e2 => z (oi_le0.mpr e2)) p e s m args below meth c A cells slots Q H locs _ C hP hS hl hex)
theorem go_tsIn {x dflt lo hi off : Int} {offs : Array Int} {len t : Nat} (hd : decode cc pc = .ok (.tableswitch dflt lo hi offs, len)) (h1 : ¬ wr x < lo) (h2 : ¬ hi < wr x) (ho : offs[(wr x - lo).toNat]? = some off) (ht : (pc : Int) + off = (t : Int)) (k : Go l D ck ad sh own cc nL R t ls st w K) : Go l D ck ad sh own cc nL R pc ls (vI x :: st) w K := by
  intro p e s m args below meth c A cells slots Q H locs lsR C hP hS hl hex
  exact lv_tableIn C.1 C.2.1 hd (by rw [toInt_oi]; exact h1) (by rw [toInt_oi]; exact h2) (by rw [toInt_oi]; exact ho) ht (k p e s m args below meth c A cells slots Q H locs _ C hP hS hl hex)
theorem go_tsOut {x dflt lo hi : Int} {offs : Array Int} {len t : Nat} (hd : decode cc pc = .ok (.tableswitch dflt lo hi offs, len)) (h : wr x < lo ∨ hi < wr x) (ht : (pc : Int) + dflt = (t : Int)) (k : Go l D ck ad sh own cc nL R t ls st w K) : Go l D ck ad sh own cc nL R pc ls (vI x :: st) w K := by
  intro p e s m args below meth c A cells slots Q H locs lsR C hP hS hl hex
  exact lv_tableOut C.1 C.2.1 hd (by rw [toInt_oi]; exact h) ht (k p e s m args below meth c A cells slots Q H locs _ C hP hS hl hex)
theorem go_getI {C0 : String} {T : u_T} {N ci : Nat} {rs : List (Option Nat)} {b i idx : Nat} (hcl : vwCl[ci]? = some (C0, T, N)) (hin : ∀ w ∈ u_ws C0 T N, w ∈ lw_gw) (hs : sh[b]? = some (.inl (ci, rs))) (hiN : i < N) (hlk : Cond.fieldLink own idx (T i).1 (T i).2.1 (T i).2.2.1 ∈ lw_gw) (hr : rs[i]? = some none) (hd : decode cc pc = .ok (.getfield idx, 3)) (hq : pc + 3 = q) (k : Go l D ck ad sh own cc nL R q ls (vI (w b i) :: st) w K) : Go l D ck ad sh own cc nL R pc ls (vR b :: st) w K := by
  subst hq
  intro p e s m args below meth c A cells slots Q H locs lsR C hP hS hl hex
  exact va_get C.1 C.2.1 C.2.2.2.2.1 hin C.2.2.2.1 C.2.2.2.2.2.1 hP b (wld_at hs) hcl i hiN (C.2.2.2.2.1 _ hlk) (fun _ h9 => h9) (by simp [hr, fldv, mval]) hd (k p e s m args below meth c A cells slots Q H locs _ C hP hS hl hex)
theorem go_getR {C0 : String} {T : u_T} {N ci : Nat} {rs : List (Option Nat)} {b i idx : Nat} {r : Nat} (hcl : vwCl[ci]? = some (C0, T, N)) (hin : ∀ w ∈ u_ws C0 T N, w ∈ lw_gw) (hs : sh[b]? = some (.inl (ci, rs))) (hiN : i < N) (hlk : Cond.fieldLink own idx (T i).1 (T i).2.1 (T i).2.2.1 ∈ lw_gw) (hr : rs[i]? = some (some r)) (hd : decode cc pc = .ok (.getfield idx, 3)) (hq : pc + 3 = q) (k : Go l D ck ad sh own cc nL R q ls (vR r :: st) w K) : Go l D ck ad sh own cc nL R pc ls (vR b :: st) w K := by
  subst hq
  intro p e s m args below meth c A cells slots Q H locs lsR C hP hS hl hex
  exact va_get C.1 C.2.1 C.2.2.2.2.1 hin C.2.2.2.1 C.2.2.2.2.2.1 hP b (wld_at hs) hcl i hiN (C.2.2.2.2.1 _ hlk) (fun _ h9 => h9) (by simp [hr, fldv, mval]) hd (k p e s m args below meth c A cells slots Q H locs _ C hP hS hl hex)
theorem go_putI {C0 : String} {T : u_T} {N ci : Nat} {rs : List (Option Nat)} {b i idx : Nat} {x : Int} (hcl : vwCl[ci]? = some (C0, T, N)) (hin : ∀ w ∈ u_ws C0 T N, w ∈ lw_gw) (hs : sh[b]? = some (.inl (ci, rs))) (hiN : i < N) (hlk : Cond.fieldLink own idx (T i).1 (T i).2.1 (T i).2.2.1 ∈ lw_gw) (hr : rs[i]? = some none) (ty0 : Nat → FieldType) (hty : ∀ k, k < N → parseFieldDescriptor (T k).2.2.1 = some (ty0 k)) (hnm : ∀ a, a < N → ∀ b, b < N → a ≠ b → (T a).2.1 ≠ (T b).2.1) (hfin : (T i).2.2.2 = false) (hdt : parseFieldDescriptor (T i).2.2.1 = some .int) (hd : decode cc pc = .ok (.putfield idx, 3)) (hq : pc + 3 = q) (k : Go l D ck ad sh own cc nL R q ls st (mup w b i x) K) : Go l D ck ad sh own cc nL R pc ls (vI x :: vR b :: st) w K := by
  subst hq
  intro p e s m args below meth c A cells slots Q H locs lsR C hP hS hl hex
  have hil : i < rs.length := (List.getElem?_eq_some_iff.mp hr).1
  refine va_put (ty := .int) C.1 C.2.1 C.2.2.2.2.1 hin ty0 hty hnm C.2.2.2.1 C.2.2.2.2.2.1 hP (wld_D C.2.2.2.2.2.2.2.2.2 C.2.2.2.2.2.2.1) hS b (wld_at hs) hcl i hiN (C.2.2.2.2.1 _ hlk) (fun _ h9 => h9) hfin hdt rfl rfl (by simpa using hil) hd (fun H1 locs1 hP1 hD1 hS1 => ?_)
  rw [wld_set (k := i) (v := x) hs (celE_put hr)] at hP1
  exact k p e s m args below meth c A cells slots Q H1 locs1 _ C hP1 hS1 hl hex
theorem go_iald {b n j : Nat} {x : Int} (hs : sh[b]? = some (.inr (.inl (0, n)))) (hx : wr x = (j : Int)) (hj : j < n) (hd : decode cc pc = .ok (.iaload, 1)) (hq : pc + 1 = q) (k : Go l D ck ad sh own cc nL R q ls (vI (w b j) :: st) w K) : Go l D ck ad sh own cc nL R pc ls (vI x :: vR b :: st) w K := by
  subst hq
  intro p e s m args below meth c A cells slots Q H locs lsR C hP hS hl hex
  have z := (k p e s m args below meth c A cells slots Q H locs _ C hP hS hl hex)
  rw [← oi_nat hx] at z
  exact va_iald C.1 C.2.1 C.2.2.2.2.2.1 hP b 0 (wld_at hs) rfl (vp_in_oi hx hj) hd z
theorem go_zald {b n j : Nat} {x : Int} (hs : sh[b]? = some (.inr (.inl (1, n)))) (hx : wr x = (j : Int)) (hj : j < n) (hd : decode cc pc = .ok (.baload, 1)) (hq : pc + 1 = q) (k : Go l D ck ad sh own cc nL R q ls (vI (w b j) :: st) w K) : Go l D ck ad sh own cc nL R pc ls (vI x :: vR b :: st) w K := by
  subst hq
  intro p e s m args below meth c A cells slots Q H locs lsR C hP hS hl hex
  have z := (k p e s m args below meth c A cells slots Q H locs _ C hP hS hl hex)
  rw [← oi_nat hx] at z
  exact va_zald C.1 C.2.1 C.2.2.2.2.2.1 hP b 1 (wld_at hs) rfl (vp_in_oi hx hj) hd z
theorem go_cald {b n j : Nat} {x : Int} (hs : sh[b]? = some (.inr (.inl (2, n)))) (hx : wr x = (j : Int)) (hj : j < n) (hd : decode cc pc = .ok (.caload, 1)) (hq : pc + 1 = q) (k : Go l D ck ad sh own cc nL R q ls (vI (w b j) :: st) w K) : Go l D ck ad sh own cc nL R pc ls (vI x :: vR b :: st) w K := by
  subst hq
  intro p e s m args below meth c A cells slots Q H locs lsR C hP hS hl hex
  have z := (k p e s m args below meth c A cells slots Q H locs _ C hP hS hl hex)
  rw [← oi_nat hx] at z
  exact va_cald C.1 C.2.1 C.2.2.2.2.2.1 hP b 2 (wld_at hs) rfl (vp_in_oi hx hj) hd z
theorem go_iast {b n j : Nat} {x v : Int} (hs : sh[b]? = some (.inr (.inl (0, n)))) (hx : wr x = (j : Int)) (hj : j < n) (hd : decode cc pc = .ok (.iastore, 1)) (hq : pc + 1 = q) (k : Go l D ck ad sh own cc nL R q ls st (mup w b j v) K) : Go l D ck ad sh own cc nL R pc ls (vI v :: vI x :: vR b :: st) w K := by
  subst hq
  intro p e s m args below meth c A cells slots Q H locs lsR C hP hS hl hex
  refine va_iast C.1 C.2.1 C.2.2.2.2.2.1 hP (wld_D C.2.2.2.2.2.2.2.2.2 C.2.2.2.2.2.2.1) hS b 0 (wld_at hs) rfl (vp_in_oi hx hj) hd (fun H1 locs1 hP1 hD1 hS1 => ?_)
  rw [oi_nat hx, wld_set (k := j) (v := v) hs (celE_st rfl)] at hP1
  exact k p e s m args below meth c A cells slots Q H1 locs1 _ C hP1 hS1 hl hex
theorem go_zast {b n j : Nat} {x v : Int} (hs : sh[b]? = some (.inr (.inl (1, n)))) (hx : wr x = (j : Int)) (hj : j < n) (hd : decode cc pc = .ok (.bastore, 1)) (hq : pc + 1 = q) (k : Go l D ck ad sh own cc nL R q ls st (mup w b j (narZ .boolean v)) K) : Go l D ck ad sh own cc nL R pc ls (vI v :: vI x :: vR b :: st) w K := by
  subst hq
  intro p e s m args below meth c A cells slots Q H locs lsR C hP hS hl hex
  refine va_zast C.1 C.2.1 C.2.2.2.2.2.1 hP (wld_D C.2.2.2.2.2.2.2.2.2 C.2.2.2.2.2.2.1) hS b 1 (wld_at hs) rfl (vp_in_oi hx hj) hd (fun H1 locs1 hP1 hD1 hS1 => ?_)
  rw [oi_nat hx, wld_set (k := j) (v := (narZ .boolean v)) hs (celE_st (oi_ti _))] at hP1
  exact k p e s m args below meth c A cells slots Q H1 locs1 _ C hP1 hS1 hl hex
theorem go_cast {b n j : Nat} {x v : Int} (hs : sh[b]? = some (.inr (.inl (2, n)))) (hx : wr x = (j : Int)) (hj : j < n) (hd : decode cc pc = .ok (.castore, 1)) (hq : pc + 1 = q) (k : Go l D ck ad sh own cc nL R q ls st (mup w b j (narZ .char v)) K) : Go l D ck ad sh own cc nL R pc ls (vI v :: vI x :: vR b :: st) w K := by
  subst hq
  intro p e s m args below meth c A cells slots Q H locs lsR C hP hS hl hex
  refine va_cast C.1 C.2.1 C.2.2.2.2.2.1 hP (wld_D C.2.2.2.2.2.2.2.2.2 C.2.2.2.2.2.2.1) hS b 2 (wld_at hs) rfl (vp_in_oi hx hj) hd (fun H1 locs1 hP1 hD1 hS1 => ?_)
  rw [oi_nat hx, wld_set (k := j) (v := (narZ .char v)) hs (celE_st (oi_ti _))] at hP1
  exact k p e s m args below meth c A cells slots Q H1 locs1 _ C hP1 hS1 hl hex
theorem go_alen {b n tc : Nat} (hs : sh[b]? = some (.inr (.inl (tc, n)))) (ht : tc = 0) (hd : decode cc pc = .ok (.arraylength, 1)) (hq : pc + 1 = q) (k : Go l D ck ad sh own cc nL R q ls (vI (n : Int) :: st) w K) : Go l D ck ad sh own cc nL R pc ls (vR b :: st) w K := by
  subst hq
  intro p e s m args below meth c A cells slots Q H locs lsR C hP hS hl hex
  subst ht
  exact va_alen (x := (n, .inl _)) (v := Int32.ofInt (n : Int)) C.1 C.2.1 C.2.2.2.2.2.1 hP b 0 (wld_at hs) (ty := .int) rfl (oi_ofNat n) hd (k p e s m args below meth c A cells slots Q H locs _ C hP hS hl hex)
theorem go_aald3 {b j r : Nat} {rs : List Nat} {x : Int} (hs : sh[b]? = some (.inr (.inr (3, rs)))) (hx : wr x = (j : Int)) (hr : rs[j]? = some r) (hd : decode cc pc = .ok (.aaload, 1)) (hq : pc + 1 = q) (k : Go l D ck ad sh own cc nL R q ls (vR r :: st) w K) : Go l D ck ad sh own cc nL R pc ls (vI x :: vR b :: st) w K := by
  subst hq
  intro p e s m args below meth c A cells slots Q H locs lsR C hP hS hl hex
  have z := (k p e s m args below meth c A cells slots Q H locs _ C hP hS hl hex)
  have hj := (List.getElem?_eq_some_iff.mp hr).1
  refine va_aldq (C := RX5) C.1 C.2.1 C.2.2.2.2.2.1 hP b 3 (wld_at hs) rfl (vp_in_oi hx hj) hd ?_
  rw [oi_nat hx]
  simp only [hr, Option.map_some]
  exact z
theorem go_aald4 {b j r : Nat} {rs : List Nat} {x : Int} (hs : sh[b]? = some (.inr (.inr (4, rs)))) (hx : wr x = (j : Int)) (hr : rs[j]? = some r) (hd : decode cc pc = .ok (.aaload, 1)) (hq : pc + 1 = q) (k : Go l D ck ad sh own cc nL R q ls (vR r :: st) w K) : Go l D ck ad sh own cc nL R pc ls (vI x :: vR b :: st) w K := by
  subst hq
  intro p e s m args below meth c A cells slots Q H locs lsR C hP hS hl hex
  have z := (k p e s m args below meth c A cells slots Q H locs _ C hP hS hl hex)
  have hj := (List.getElem?_eq_some_iff.mp hr).1
  refine va_aldq (C := RX1) C.1 C.2.1 C.2.2.2.2.2.1 hP b 4 (wld_at hs) rfl (vp_in_oi hx hj) hd ?_
  rw [oi_nat hx]
  simp only [hr, Option.map_some]
  exact z
theorem go_gets0 {idx : Nat} (hlk : Cond.fieldLink own idx RX6 "STANDARD_ARCS" "[I" ∈ lw_gw) (hd : decode cc pc = .ok (.getstatic idx, 3)) (hq : pc + 3 = q) (k : Go l D ck ad sh own cc nL R q ls (vR 1000 :: st) w K) : Go l D ck ad sh own cc nL R pc ls st w K := by
  subst hq
  intro p e s m args below meth c A cells slots Q H locs lsR C hP hS hl hex
  exact va_gets C.1 C.2.1 C.2.2.2.2.2.2.2.2.1.1.1 hS C.2.2.2.1 (C.2.2.2.2.1 _ hlk) (fun _ h9 => h9) hd (k p e s m args below meth c A cells slots Q H locs _ C hP hS hl hex)
theorem go_tald0 {j : Nat} {x : Int} (hx : wr x = (j : Int)) (hj : j < 6) (hd : decode cc pc = .ok (.iaload, 1)) (hq : pc + 1 = q) (k : Go l D ck ad sh own cc nL R q ls (vI (L_arcs.getD j 0) :: st) w K) : Go l D ck ad sh own cc nL R pc ls (vI x :: vR 1000 :: st) w K := by
  subst hq
  intro p e s m args below meth c A cells slots Q H locs lsR C hP hS hl hex
  have z := (k p e s m args below meth c A cells slots Q H locs _ C hP hS hl hex)
  exact va_ti C.1 C.2.1 C.2.2.2.2.2.2.2.2.1.1.2 hS (vp_in_oi hx hj) (by rw [oi_nat hx]; rfl) hd z
theorem go_gets1 {idx : Nat} (hlk : Cond.fieldLink own idx RX6 "STANDARD_STARTS" "[I" ∈ lw_gw) (hd : decode cc pc = .ok (.getstatic idx, 3)) (hq : pc + 3 = q) (k : Go l D ck ad sh own cc nL R q ls (vR 1001 :: st) w K) : Go l D ck ad sh own cc nL R pc ls st w K := by
  subst hq
  intro p e s m args below meth c A cells slots Q H locs lsR C hP hS hl hex
  exact va_gets C.1 C.2.1 C.2.2.2.2.2.2.2.2.1.2.1.1 hS C.2.2.2.1 (C.2.2.2.2.1 _ hlk) (fun _ h9 => h9) hd (k p e s m args below meth c A cells slots Q H locs _ C hP hS hl hex)
theorem go_tald1 {j : Nat} {x : Int} (hx : wr x = (j : Int)) (hj : j < 7) (hd : decode cc pc = .ok (.iaload, 1)) (hq : pc + 1 = q) (k : Go l D ck ad sh own cc nL R q ls (vI (L_starts.getD j 0) :: st) w K) : Go l D ck ad sh own cc nL R pc ls (vI x :: vR 1001 :: st) w K := by
  subst hq
  intro p e s m args below meth c A cells slots Q H locs lsR C hP hS hl hex
  have z := (k p e s m args below meth c A cells slots Q H locs _ C hP hS hl hex)
  exact va_ti C.1 C.2.1 C.2.2.2.2.2.2.2.2.1.2.1.2 hS (vp_in_oi hx hj) (by rw [oi_nat hx]; rfl) hd z
theorem go_gets2 {idx : Nat} (hlk : Cond.fieldLink own idx RX6 "STANDARD_CROSSINGS" "[I" ∈ lw_gw) (hd : decode cc pc = .ok (.getstatic idx, 3)) (hq : pc + 3 = q) (k : Go l D ck ad sh own cc nL R q ls (vR 1002 :: st) w K) : Go l D ck ad sh own cc nL R pc ls st w K := by
  subst hq
  intro p e s m args below meth c A cells slots Q H locs lsR C hP hS hl hex
  exact va_gets C.1 C.2.1 C.2.2.2.2.2.2.2.2.1.2.2.1 hS C.2.2.2.1 (C.2.2.2.2.1 _ hlk) (fun _ h9 => h9) hd (k p e s m args below meth c A cells slots Q H locs _ C hP hS hl hex)
theorem go_tald2 {j : Nat} {x : Int} (hx : wr x = (j : Int)) (hj : j < 56) (hd : decode cc pc = .ok (.iaload, 1)) (hq : pc + 1 = q) (k : Go l D ck ad sh own cc nL R q ls (vI (L_cross.getD j 0) :: st) w K) : Go l D ck ad sh own cc nL R pc ls (vI x :: vR 1002 :: st) w K := by
  subst hq
  intro p e s m args below meth c A cells slots Q H locs lsR C hP hS hl hex
  have z := (k p e s m args below meth c A cells slots Q H locs _ C hP hS hl hex)
  exact va_ti C.1 C.2.1 C.2.2.2.2.2.2.2.2.1.2.2.2 hS (vp_in_oi hx hj) (by rw [oi_nat hx]; rfl) hd z
theorem go_iret {x : Int} (hd : decode cc pc = .ok (.ireturn, 1)) (hk : K (some (vI x)) w) : Go l D ck ad sh own cc nL R pc ls [vI x] w K := by
  intro p e s m args below meth c A cells slots Q H locs lsR C hP hS hl hex
  exact hex (some (vI x)) w pc lsR H locs hk hd hP hS
theorem go_lret {x : Int} (hd : decode cc pc = .ok (.lreturn, 1)) (hk : K (some (vL x)) w) : Go l D ck ad sh own cc nL R pc ls [vL x] w K := by
  intro p e s m args below meth c A cells slots Q H locs lsR C hP hS hl hex
  exact hex (some (vL x)) w pc lsR H locs hk hd hP hS
theorem go_vret (hd : decode cc pc = .ok (.return_, 1)) (hk : K none w) : Go l D ck ad sh own cc nL R pc ls [] w K := by
  intro p e s m args below meth c A cells slots Q H locs lsR C hP hS hl hex
  exact hex none w pc lsR H locs hk hd hP hS
theorem Go.mono {K2 : Post} (h : ∀ r w, K r w → K2 r w) (k : Go l D ck ad sh own cc nL R pc ls st w K) : Go l D ck ad sh own cc nL R pc ls st w K2 := by
  intro p e s m args below meth c A cells slots Q H locs lsR C hP hS hl hex
  exact k p e s m args below meth c A cells slots Q H locs lsR C hP hS hl (fun r w2 pc2 ls2 H2 locs2 hk => hex r w2 pc2 ls2 H2 locs2 (h r w2 hk))
theorem go_icmp_eq2 {x y off : Int} {t : Nat} (hd : decode cc pc = .ok (.if_icmp .eq off, 3)) (ht : (pc : Int) + off = (t : Int)) (hq : pc + 3 = q) (hr : (-2147483648 ≤ x ∧ x < 2147483648) ∧ (-2147483648 ≤ y ∧ y < 2147483648)) (kt : x = y → Go l D ck ad sh own cc nL R t ls st w K) (kf : ¬ x = y → Go l D ck ad sh own cc nL R q ls st w K) : Go l D ck ad sh own cc nL R pc ls (vI y :: vI x :: st) w K := by
  have ex := wr_of hr.1.1 hr.1.2
  have ey := wr_of hr.2.1 hr.2.2
  refine go_icmp_eq hd ht hq (fun z => kt ?_) (fun z => kf ?_) <;> (rw [ex, ey] at z; omega)
theorem go_if_eq2 {x off : Int} {t : Nat} (hd : decode cc pc = .ok (.ifCond .eq off, 3)) (ht : (pc : Int) + off = (t : Int)) (hq : pc + 3 = q) (hr : (-2147483648 ≤ x ∧ x < 2147483648)) (kt : x = 0 → Go l D ck ad sh own cc nL R t ls st w K) (kf : ¬ x = 0 → Go l D ck ad sh own cc nL R q ls st w K) : Go l D ck ad sh own cc nL R pc ls (vI x :: st) w K := by
  have ex := wr_of hr.1 hr.2
  refine go_if_eq hd ht hq (fun z => kt ?_) (fun z => kf ?_) <;> (rw [ex] at z; omega)
theorem go_if_eqT {x off : Int} {t : Nat} (hd : decode cc pc = .ok (.ifCond .eq off, 3)) (ht : (pc : Int) + off = (t : Int)) (h : wr x = 0) (kt : Go l D ck ad sh own cc nL R t ls st w K) : Go l D ck ad sh own cc nL R pc ls (vI x :: st) w K := go_if_eq hd ht rfl (fun _ => kt) (fun z => absurd (by omega) z)
theorem go_if_eqF {x off : Int} {t : Nat} (hd : decode cc pc = .ok (.ifCond .eq off, 3)) (hq : pc + 3 = q) (ht : (pc : Int) + off = (t : Int)) (h : ¬ (wr x = 0)) (kf : Go l D ck ad sh own cc nL R q ls st w K) : Go l D ck ad sh own cc nL R pc ls (vI x :: st) w K := go_if_eq hd ht hq (fun z => absurd (by omega) h) (fun _ => kf)
theorem go_icmp_ne2 {x y off : Int} {t : Nat} (hd : decode cc pc = .ok (.if_icmp .ne off, 3)) (ht : (pc : Int) + off = (t : Int)) (hq : pc + 3 = q) (hr : (-2147483648 ≤ x ∧ x < 2147483648) ∧ (-2147483648 ≤ y ∧ y < 2147483648)) (kt : ¬ x = y → Go l D ck ad sh own cc nL R t ls st w K) (kf : x = y → Go l D ck ad sh own cc nL R q ls st w K) : Go l D ck ad sh own cc nL R pc ls (vI y :: vI x :: st) w K := by
  have ex := wr_of hr.1.1 hr.1.2
  have ey := wr_of hr.2.1 hr.2.2
  refine go_icmp_ne hd ht hq (fun z => kt ?_) (fun z => kf ?_) <;> (rw [ex, ey] at z; omega)
theorem go_if_ne2 {x off : Int} {t : Nat} (hd : decode cc pc = .ok (.ifCond .ne off, 3)) (ht : (pc : Int) + off = (t : Int)) (hq : pc + 3 = q) (hr : (-2147483648 ≤ x ∧ x < 2147483648)) (kt : ¬ x = 0 → Go l D ck ad sh own cc nL R t ls st w K) (kf : x = 0 → Go l D ck ad sh own cc nL R q ls st w K) : Go l D ck ad sh own cc nL R pc ls (vI x :: st) w K := by
  have ex := wr_of hr.1 hr.2
  refine go_if_ne hd ht hq (fun z => kt ?_) (fun z => kf ?_) <;> (rw [ex] at z; omega)
theorem go_if_neT {x off : Int} {t : Nat} (hd : decode cc pc = .ok (.ifCond .ne off, 3)) (ht : (pc : Int) + off = (t : Int)) (h : ¬ wr x = 0) (kt : Go l D ck ad sh own cc nL R t ls st w K) : Go l D ck ad sh own cc nL R pc ls (vI x :: st) w K := go_if_ne hd ht rfl (fun _ => kt) (fun z => absurd (by omega) z)
theorem go_if_neF {x off : Int} {t : Nat} (hd : decode cc pc = .ok (.ifCond .ne off, 3)) (hq : pc + 3 = q) (ht : (pc : Int) + off = (t : Int)) (h : ¬ (¬ wr x = 0)) (kf : Go l D ck ad sh own cc nL R q ls st w K) : Go l D ck ad sh own cc nL R pc ls (vI x :: st) w K := go_if_ne hd ht hq (fun z => absurd (by omega) h) (fun _ => kf)
theorem go_icmp_lt2 {x y off : Int} {t : Nat} (hd : decode cc pc = .ok (.if_icmp .lt off, 3)) (ht : (pc : Int) + off = (t : Int)) (hq : pc + 3 = q) (hr : (-2147483648 ≤ x ∧ x < 2147483648) ∧ (-2147483648 ≤ y ∧ y < 2147483648)) (kt : x < y → Go l D ck ad sh own cc nL R t ls st w K) (kf : y ≤ x → Go l D ck ad sh own cc nL R q ls st w K) : Go l D ck ad sh own cc nL R pc ls (vI y :: vI x :: st) w K := by
  have ex := wr_of hr.1.1 hr.1.2
  have ey := wr_of hr.2.1 hr.2.2
  refine go_icmp_lt hd ht hq (fun z => kt ?_) (fun z => kf ?_) <;> (rw [ex, ey] at z; omega)
theorem go_if_lt2 {x off : Int} {t : Nat} (hd : decode cc pc = .ok (.ifCond .lt off, 3)) (ht : (pc : Int) + off = (t : Int)) (hq : pc + 3 = q) (hr : (-2147483648 ≤ x ∧ x < 2147483648)) (kt : x < 0 → Go l D ck ad sh own cc nL R t ls st w K) (kf : 0 ≤ x → Go l D ck ad sh own cc nL R q ls st w K) : Go l D ck ad sh own cc nL R pc ls (vI x :: st) w K := by
  have ex := wr_of hr.1 hr.2
  refine go_if_lt hd ht hq (fun z => kt ?_) (fun z => kf ?_) <;> (rw [ex] at z; omega)
theorem go_if_ltT {x off : Int} {t : Nat} (hd : decode cc pc = .ok (.ifCond .lt off, 3)) (ht : (pc : Int) + off = (t : Int)) (h : wr x < 0) (kt : Go l D ck ad sh own cc nL R t ls st w K) : Go l D ck ad sh own cc nL R pc ls (vI x :: st) w K := go_if_lt hd ht rfl (fun _ => kt) (fun z => absurd (by omega) z)
theorem go_if_ltF {x off : Int} {t : Nat} (hd : decode cc pc = .ok (.ifCond .lt off, 3)) (hq : pc + 3 = q) (ht : (pc : Int) + off = (t : Int)) (h : ¬ (wr x < 0)) (kf : Go l D ck ad sh own cc nL R q ls st w K) : Go l D ck ad sh own cc nL R pc ls (vI x :: st) w K := go_if_lt hd ht hq (fun z => absurd (by omega) h) (fun _ => kf)
theorem go_icmp_ge2 {x y off : Int} {t : Nat} (hd : decode cc pc = .ok (.if_icmp .ge off, 3)) (ht : (pc : Int) + off = (t : Int)) (hq : pc + 3 = q) (hr : (-2147483648 ≤ x ∧ x < 2147483648) ∧ (-2147483648 ≤ y ∧ y < 2147483648)) (kt : y ≤ x → Go l D ck ad sh own cc nL R t ls st w K) (kf : x < y → Go l D ck ad sh own cc nL R q ls st w K) : Go l D ck ad sh own cc nL R pc ls (vI y :: vI x :: st) w K := by
  have ex := wr_of hr.1.1 hr.1.2
  have ey := wr_of hr.2.1 hr.2.2
  refine go_icmp_ge hd ht hq (fun z => kt ?_) (fun z => kf ?_) <;> (rw [ex, ey] at z; omega)
theorem go_if_ge2 {x off : Int} {t : Nat} (hd : decode cc pc = .ok (.ifCond .ge off, 3)) (ht : (pc : Int) + off = (t : Int)) (hq : pc + 3 = q) (hr : (-2147483648 ≤ x ∧ x < 2147483648)) (kt : 0 ≤ x → Go l D ck ad sh own cc nL R t ls st w K) (kf : x < 0 → Go l D ck ad sh own cc nL R q ls st w K) : Go l D ck ad sh own cc nL R pc ls (vI x :: st) w K := by
  have ex := wr_of hr.1 hr.2
  refine go_if_ge hd ht hq (fun z => kt ?_) (fun z => kf ?_) <;> (rw [ex] at z; omega)
theorem go_if_geT {x off : Int} {t : Nat} (hd : decode cc pc = .ok (.ifCond .ge off, 3)) (ht : (pc : Int) + off = (t : Int)) (h : 0 ≤ wr x) (kt : Go l D ck ad sh own cc nL R t ls st w K) : Go l D ck ad sh own cc nL R pc ls (vI x :: st) w K := go_if_ge hd ht rfl (fun _ => kt) (fun z => absurd (by omega) z)
theorem go_if_geF {x off : Int} {t : Nat} (hd : decode cc pc = .ok (.ifCond .ge off, 3)) (hq : pc + 3 = q) (ht : (pc : Int) + off = (t : Int)) (h : ¬ (0 ≤ wr x)) (kf : Go l D ck ad sh own cc nL R q ls st w K) : Go l D ck ad sh own cc nL R pc ls (vI x :: st) w K := go_if_ge hd ht hq (fun z => absurd (by omega) h) (fun _ => kf)
theorem go_icmp_gt2 {x y off : Int} {t : Nat} (hd : decode cc pc = .ok (.if_icmp .gt off, 3)) (ht : (pc : Int) + off = (t : Int)) (hq : pc + 3 = q) (hr : (-2147483648 ≤ x ∧ x < 2147483648) ∧ (-2147483648 ≤ y ∧ y < 2147483648)) (kt : y < x → Go l D ck ad sh own cc nL R t ls st w K) (kf : x ≤ y → Go l D ck ad sh own cc nL R q ls st w K) : Go l D ck ad sh own cc nL R pc ls (vI y :: vI x :: st) w K := by
  have ex := wr_of hr.1.1 hr.1.2
  have ey := wr_of hr.2.1 hr.2.2
  refine go_icmp_gt hd ht hq (fun z => kt ?_) (fun z => kf ?_) <;> (rw [ex, ey] at z; omega)
theorem go_if_gt2 {x off : Int} {t : Nat} (hd : decode cc pc = .ok (.ifCond .gt off, 3)) (ht : (pc : Int) + off = (t : Int)) (hq : pc + 3 = q) (hr : (-2147483648 ≤ x ∧ x < 2147483648)) (kt : 0 < x → Go l D ck ad sh own cc nL R t ls st w K) (kf : x ≤ 0 → Go l D ck ad sh own cc nL R q ls st w K) : Go l D ck ad sh own cc nL R pc ls (vI x :: st) w K := by
  have ex := wr_of hr.1 hr.2
  refine go_if_gt hd ht hq (fun z => kt ?_) (fun z => kf ?_) <;> (rw [ex] at z; omega)
theorem go_if_gtT {x off : Int} {t : Nat} (hd : decode cc pc = .ok (.ifCond .gt off, 3)) (ht : (pc : Int) + off = (t : Int)) (h : 0 < wr x) (kt : Go l D ck ad sh own cc nL R t ls st w K) : Go l D ck ad sh own cc nL R pc ls (vI x :: st) w K := go_if_gt hd ht rfl (fun _ => kt) (fun z => absurd (by omega) z)
theorem go_if_gtF {x off : Int} {t : Nat} (hd : decode cc pc = .ok (.ifCond .gt off, 3)) (hq : pc + 3 = q) (ht : (pc : Int) + off = (t : Int)) (h : ¬ (0 < wr x)) (kf : Go l D ck ad sh own cc nL R q ls st w K) : Go l D ck ad sh own cc nL R pc ls (vI x :: st) w K := go_if_gt hd ht hq (fun z => absurd (by omega) h) (fun _ => kf)
theorem go_icmp_le2 {x y off : Int} {t : Nat} (hd : decode cc pc = .ok (.if_icmp .le off, 3)) (ht : (pc : Int) + off = (t : Int)) (hq : pc + 3 = q) (hr : (-2147483648 ≤ x ∧ x < 2147483648) ∧ (-2147483648 ≤ y ∧ y < 2147483648)) (kt : x ≤ y → Go l D ck ad sh own cc nL R t ls st w K) (kf : y < x → Go l D ck ad sh own cc nL R q ls st w K) : Go l D ck ad sh own cc nL R pc ls (vI y :: vI x :: st) w K := by
  have ex := wr_of hr.1.1 hr.1.2
  have ey := wr_of hr.2.1 hr.2.2
  refine go_icmp_le hd ht hq (fun z => kt ?_) (fun z => kf ?_) <;> (rw [ex, ey] at z; omega)
theorem go_if_le2 {x off : Int} {t : Nat} (hd : decode cc pc = .ok (.ifCond .le off, 3)) (ht : (pc : Int) + off = (t : Int)) (hq : pc + 3 = q) (hr : (-2147483648 ≤ x ∧ x < 2147483648)) (kt : x ≤ 0 → Go l D ck ad sh own cc nL R t ls st w K) (kf : 0 < x → Go l D ck ad sh own cc nL R q ls st w K) : Go l D ck ad sh own cc nL R pc ls (vI x :: st) w K := by
  have ex := wr_of hr.1 hr.2
  refine go_if_le hd ht hq (fun z => kt ?_) (fun z => kf ?_) <;> (rw [ex] at z; omega)
theorem go_if_leT {x off : Int} {t : Nat} (hd : decode cc pc = .ok (.ifCond .le off, 3)) (ht : (pc : Int) + off = (t : Int)) (h : wr x ≤ 0) (kt : Go l D ck ad sh own cc nL R t ls st w K) : Go l D ck ad sh own cc nL R pc ls (vI x :: st) w K := go_if_le hd ht rfl (fun _ => kt) (fun z => absurd (by omega) z)
theorem go_if_leF {x off : Int} {t : Nat} (hd : decode cc pc = .ok (.ifCond .le off, 3)) (hq : pc + 3 = q) (ht : (pc : Int) + off = (t : Int)) (h : ¬ (wr x ≤ 0)) (kf : Go l D ck ad sh own cc nL R q ls st w K) : Go l D ck ad sh own cc nL R pc ls (vI x :: st) w K := go_if_le hd ht hq (fun z => absurd (by omega) h) (fun _ => kf)
theorem go_irem2 {x y : Int} (hr : (-2147483648 ≤ x ∧ x < 2147483648) ∧ (-2147483648 ≤ y ∧ y < 2147483648)) (hne : ¬ y = 0) (hd : decode cc pc = .ok (.irem, 1)) (hq : pc + 1 = q) (k : Go l D ck ad sh own cc nL R q ls (vI (x.tmod y) :: st) w K) : Go l D ck ad sh own cc nL R pc ls (vI y :: vI x :: st) w K := by
  have ex := wr_of hr.1.1 hr.1.2
  have ey := wr_of hr.2.1 hr.2.2
  refine go_irem (by rw [ey]; exact hne) hd hq ?_
  rw [ex, ey]; exact k
theorem go_idiv2 {x y : Int} (hr : (-2147483648 ≤ x ∧ x < 2147483648) ∧ (-2147483648 ≤ y ∧ y < 2147483648)) (hne : ¬ y = 0) (hd : decode cc pc = .ok (.idiv, 1)) (hq : pc + 1 = q) (k : Go l D ck ad sh own cc nL R q ls (vI (x.tdiv y) :: st) w K) : Go l D ck ad sh own cc nL R pc ls (vI y :: vI x :: st) w K := by
  have ex := wr_of hr.1.1 hr.1.2
  have ey := wr_of hr.2.1 hr.2.2
  refine go_idiv (by rw [ey]; exact hne) hd hq ?_
  rw [ex, ey]; exact k
theorem go_i2l2 {x : Int} (hr : (-2147483648 ≤ x ∧ x < 2147483648)) (hd : decode cc pc = .ok (.i2l, 1)) (hq : pc + 1 = q) (k : Go l D ck ad sh own cc nL R q ls (vL x :: st) w K) : Go l D ck ad sh own cc nL R pc ls (vI x :: st) w K := by
  refine go_i2l hd hq ?_
  rw [wr_of hr.1 hr.2]; exact k
end GO
/-! a method's contract out of the walk of its body -/
def ils : List MV → List (Option MV)
  | [] => []
  | .inr (.inl x) :: r => some (vL x) :: none :: ils r
  | .inl x :: r => some (vI x) :: ils r
  | .inr (.inr k) :: r => some (vR k) :: ils r
theorem ils_at {ad : Nat → Nat} : ∀ (as : List MV) (b i : Nat) (v : MV), (ils as)[i]? = some (some v) → (b + i, mval ad v) ∈ lv_args b (as.map (mval ad))
  | [], _, _, _, h => by simp [ils] at h
  | .inl x :: r, b, i, v, h => by
    cases i with
    | zero => simp only [ils, List.getElem?_cons_zero, Option.some.injEq] at h; subst h; exact List.mem_cons_self
    | succ i =>
      simp only [ils, List.getElem?_cons_succ] at h
      have := ils_at (ad := ad) r (b + 1) i v h
      rw [show b + (i + 1) = b + 1 + i by omega]
      exact List.mem_cons_of_mem _ this
  | .inr (.inr x) :: r, b, i, v, h => by
    cases i with
    | zero => simp only [ils, List.getElem?_cons_zero, Option.some.injEq] at h; subst h; exact List.mem_cons_self
    | succ i =>
      simp only [ils, List.getElem?_cons_succ] at h
      have := ils_at (ad := ad) r (b + 1) i v h
      rw [show b + (i + 1) = b + 1 + i by omega]
      exact List.mem_cons_of_mem _ this
  | .inr (.inl x) :: r, b, i, v, h => by
    cases i with
    | zero => simp only [ils, List.getElem?_cons_zero, Option.some.injEq] at h; subst h; exact List.mem_cons_self
    | succ i =>
      cases i with
      | zero => simp [ils] at h
      | succ i =>
        simp only [ils, List.getElem?_cons_succ] at h
        have := ils_at (ad := ad) r (b + 2) i v h
        rw [show b + (i + 1 + 1) = b + 2 + i by omega]
        exact List.mem_cons_of_mem _ this
def retOk : Option FieldType → Option MV → Prop
  | none, r => r = none
  | some .int, r => ∃ x, r = some (vI x)
  | some .long, r => ∃ x, r = some (vL x)
  | some .boolean, r => r = some (vI 0) ∨ r = some (vI 1)
  | _, _ => False
theorem narB0 : narrow .boolean (.int (Int32.ofInt 0)) = .int (Int32.ofInt 0) := by decide +kernel
theorem narB1 : narrow .boolean (.int (Int32.ofInt 1)) = .int (Int32.ofInt 1) := by decide +kernel
theorem lg_len {ad : Nat → Nat} : ∀ (as : List MV), (lg_sl (as.map (mval ad))).length = (ils as).length
  | [] => rfl
  | .inl x :: r => by
    have h := lg_len (ad := ad) r
    have e : lg_sl (mval ad (.inl x) :: r.map (mval ad)) = Slot.val (mval ad (.inl x)) :: lg_sl (r.map (mval ad)) := by simp [lg_sl, mval, Value.category]
    rw [List.map_cons, e, List.length_cons, h]; rfl
  | .inr (.inr x) :: r => by
    have h := lg_len (ad := ad) r
    have e : lg_sl (mval ad (.inr (.inr x)) :: r.map (mval ad)) = Slot.val (mval ad (.inr (.inr x))) :: lg_sl (r.map (mval ad)) := by simp [lg_sl, mval, Value.category]
    rw [List.map_cons, e, List.length_cons, h]; rfl
  | .inr (.inl x) :: r => by
    have h := lg_len (ad := ad) r
    have e : lg_sl (mval ad (.inr (.inl x)) :: r.map (mval ad)) = Slot.val (mval ad (.inr (.inl x))) :: Slot.second :: lg_sl (r.map (mval ad)) := by simp [lg_sl, mval, Value.category]
    rw [List.map_cons, e, List.length_cons, List.length_cons, h]; rfl
theorem wr_eq {x : Int} {j : Nat} (h : x = (j : Int) ∧ j < 2147483648) : wr x = (j : Int) := by rw [wr_of (by omega) (by omega)]; exact h.1
def Pi (P : Int → Mem → Prop) : Post := fun r w => ∃ x, r = some (vI x) ∧ P x w
def Pl (P : Int → Mem → Prop) : Post := fun r w => ∃ x, r = some (vL x) ∧ P x w
def Pv (P : Mem → Prop) : Post := fun r w => r = none ∧ P w
def Pz (P1 P0 : Mem → Prop) : Post := fun r w => (r = some (vI 1) ∧ P1 w) ∨ (r = some (vI 0) ∧ P0 w)
section CALLS
variable {l : Launch} {D : va_G} {ck : Nat → ClassId} {ad : Nat → Nat} {sh : List Shp}
theorem ev_of_go {y : MethodName} {own : String} {cc : ByteArray} {nL : Nat} {ret : Option FieldType} {R : Room} {as : List MV} {ls : List (Option MV)} {w : Mem} {K : Post} (hy : plainName y.cls = true) (ho : y.cls = own)
    (hls : ls = ils as ++ List.replicate (nL - (ils as).length) none) (hn : (ils as).length ≤ nL) (hret : ∀ r w2, K r w2 → retOk ret r) (h : Go l D ck ad sh own cc nL R 0 ls [] w K) : Ev l D ck ad sh y cc nL ret R as w K := by
  subst ho
  refine Met.ofW (cc := cc) (maxL := nL) (ret := ret) hy rfl ?_
  intro p e s m args below meth c s₁ B hml hv
  obtain ⟨rfl, hP, hK, hSt, hi⟩ := hv
  have hx := B.exec
  have hb := B.bytes
  have hr := B.returns
  have hts := atoms_spec (ws := .code y cc nL ret :: lw_gw) B.pre
  have hown : s.vm.findClass y.cls = some m.cls := findClass_of_methodNamed B.named
  have hlocks := B.notSynchronized
  have hl := lv_entry (as.map (mval ad)) (n := nL) (by rw [lg_len]; exact hn)
  rw [lg_entry_eq]
  refine h p e s m _ below meth c (AW ad sh.length) 0 0 _ s.heap [] _ ⟨hx, hb, hml, hown, fun w hw => hts w (List.mem_cons_of_mem _ hw), hK, fun k hk => ⟨k, hk, rfl⟩, ⟨Nat.zero_le _, Nat.zero_le _⟩, hSt, hi⟩ hP va_S.rf ⟨hl.1, hl.2.1, fun i v hv => ?_⟩ ?_
  · subst hls
    rw [List.getElem?_append] at hv
    split at hv
    · have := ils_at (ad := ad) as 0 i v hv
      rw [Nat.zero_add] at this
      exact hl.2.2 _ this
    · rw [List.getElem?_replicate] at hv
      split at hv <;> cases hv
  · intro r w2 pc2 ls2 H2 locs2 hk hd hP2 hS2
    have ho := hret r w2 hk
    cases ret with
    | none =>
      subst ho
      exact W.vret hx hb hr (fun t ht hW => ⟨⟨none, w2, rfl, hk, by rw [ht]; exact hP2⟩, hS2.F ht⟩) hS2.2.2 hd
    | some ty =>
      cases ty <;> first
        | exact absurd ho (fun z => z)
        | (obtain ⟨x, rfl⟩ := ho
           first
            | exact W.iret hx hb hr (fun t ht hW => ⟨⟨some (vI x), w2, rfl, hk, by rw [ht]; exact hP2⟩, hS2.F ht⟩) hS2.2.2 hd
            | exact W.lret hx hb hr (fun t ht hW => ⟨⟨some (vL x), w2, rfl, hk, by rw [ht]; exact hP2⟩, hS2.F ht⟩) hS2.2.2 hd)
        | (rcases ho with rfl | rfl
           · exact W.zret hx hb hr narB0 (fun t ht hW => ⟨⟨some (vI 0), w2, rfl, hk, by rw [ht]; exact hP2⟩, hS2.F ht⟩) hS2.2.2 hd
           · exact W.zret hx hb hr narB1 (fun t ht hW => ⟨⟨some (vI 1), w2, rfl, hk, by rw [ht]; exact hP2⟩, hS2.F ht⟩) hS2.2.2 hd)
theorem evP_blind {w : Mem} {as : List MV} : FrameBlind (va_Pc (as.map (mval ad)) (evP D ck ad sh w)) := by
  intro a U g mk h
  obtain ⟨ha, hP, hK, hSt, hi⟩ := h
  exact ⟨ha, hP, va_K.moved (u := U) (U := U.calling g mk a) (Vm.Alike.refl U.vm) hK, Stt.moved (u := U) (U := U.calling g mk a) (Vm.Alike.refl U.vm) hSt, hi⟩
/-- the words of a call -/
def LkV (own : String) (idx : Nat) (y : MethodName) (bytes : ByteArray) (maxL : Nat) (ret : Option FieldType) (C0 : String) : Prop :=
  (Cond.methodLink own idx y ∈ lw_gw ∧ Cond.instanceMethod y ∈ lw_gw ∧ Cond.selects C0 y y ∈ lw_gw ∧ Cond.initialized C0 ∈ lw_gw ∧ Cond.code y bytes maxL ret ∈ lw_gw) ∧ y.cls = C0 ∧ y.cls ≠ "java/lang/invoke/MethodHandle" ∧ y.cls ≠ "java/lang/invoke/VarHandle"
def LkS (own : String) (idx : Nat) (y : MethodName) (bytes : ByteArray) (maxL : Nat) (ret : Option FieldType) : Prop :=
  (Cond.methodLink own idx y ∈ lw_gw ∧ Cond.static y ∈ lw_gw ∧ Cond.initialized y.cls ∈ lw_gw ∧ Cond.code y bytes maxL ret ∈ lw_gw) ∧ y.cls ≠ "java/lang/invoke/MethodHandle" ∧ y.cls ≠ "java/lang/invoke/VarHandle"
theorem good_gw {ws : List Cond} (h : ∀ w ∈ ws, w ∈ lw_gw) : GoodIn lw_gw ws := fun w hw => ⟨h w hw, good_of_word (gwg (h w hw))⟩
theorem LkV.good {own C0 : String} {idx maxL : Nat} {y : MethodName} {bytes : ByteArray} {ret : Option FieldType} (k : LkV own idx y bytes maxL ret C0) : GoodIn lw_gw (wsV own idx C0 y (.code y bytes maxL ret :: lw_gw)) := by
  obtain ⟨⟨h1, h2, h3, h4, h5⟩, -⟩ := k
  refine good_gw fun w hw => ?_
  rcases List.mem_append.mp hw with hw | hw
  · simp only [List.mem_cons, List.not_mem_nil, or_false] at hw
    rcases hw with rfl | rfl | rfl | rfl <;> assumption
  · rcases List.mem_cons.mp hw with rfl | hw
    · exact h5
    · exact hw
theorem LkS.good {own : String} {idx maxL : Nat} {y : MethodName} {bytes : ByteArray} {ret : Option FieldType} (k : LkS own idx y bytes maxL ret) : GoodIn lw_gw (va_wsS own idx y (.code y bytes maxL ret :: lw_gw)) := by
  obtain ⟨⟨h1, h2, h3, h4⟩, -⟩ := k
  refine good_gw fun w hw => ?_
  rcases List.mem_append.mp hw with hw | hw
  · simp only [List.mem_cons, List.not_mem_nil, or_false] at hw
    rcases hw with rfl | rfl | rfl <;> assumption
  · rcases List.mem_cons.mp hw with rfl | hw
    · exact h4
    · exact hw
variable {own : String} {cc : ByteArray} {nL : Nat} {R : Room} {pc q : Nat} {ls : List (Option MV)} {st : List MV} {w : Mem} {K : Post}
theorem go_run {p : Program} {e : Env} {s : State} {m : MethodId} {args : Array Value} {below : List Frame} {meth : Method} {c : Code} {A : Nat → Prop} {cells slots : Nat} {Q : State → Prop} {H : Heap} {locs : List Loc} {lsR : Array Slot} {a : Array Value} {st0 : List Value} {rest : List MV} {K1 : Post}
    (hr : va_Run p l e R s m args below meth c H locs cells slots 0 0 (F0 m pc lsR st0) (rest.map (mval ad)) (evQ D ck ad sh K1 a) (AW ad sh.length)) (C : Cx D ck ad sh own cc nL R p s m args c A cells slots) (hS : va_S A s.heap H locs) (hl : LR ad nL lsR ls) (hex : Exi l D ck ad sh cc R K p e s m args below meth c A cells slots Q)
    (k : ∀ r w1, K1 r w1 → Go l D ck ad sh own cc nL R (pc + 3) ls (r.toList ++ rest) w1 K) : W p l e R s m args below meth c H locs cells slots Q (F0 m pc lsR st0) := by
  have hA : ∀ z, AW ad sh.length z → A z := fun z ⟨i, h1, h2⟩ => by rw [h2]; exact C.2.2.2.2.2.2.1 i h1
  intro T hT X
  obtain ⟨v, st₀, t, T', L, h0, X', hL, e1, e2, ⟨⟨r, w1, hv, hk, hP1⟩, hz, hk2⟩, sx⟩ := hr T hT X
  cases hv
  rw [h0] at hz hk2
  have hS1 : va_S A s.heap T'.heap (locs ++ L) := ⟨Nat.le_trans hS.1 (by rw [e1]; exact hz), fun q h1 h2 => by rw [e1, hk2 q (Nat.lt_of_lt_of_le h1 hS.1) (fun z => h2 (hA q z))]; exact hS.2.1 q h1 h2, fun q hq => by
    rcases List.mem_append.mp hq with h | h
    · exact hS.2.2 q h
    · exact hA _ (hL q h)⟩
  obtain ⟨t2, a1, b1⟩ := k r w1 hk p e s m args below meth c A cells slots Q T'.heap (locs ++ L) lsR C (by rw [e1]; exact hP1) hS1 hl hex T' rfl X'
  refine ⟨t2, sx t2 ?_, b1⟩
  have : (r.map (mval ad)).toList ++ rest.map (mval ad) = (r.toList ++ rest).map (mval ad) := by
    cases r <;> simp
  rw [this]
  exact a1
theorem ev_pre {p : Program} {s : State} {m : MethodId} {args : Array Value} {c : Code} {A : Nat → Prop} {cells slots : Nat} {H : Heap} {locs : List Loc} (C : Cx D ck ad sh own cc nL R p s m args c A cells slots) (hP : va_P D vwCl (wld ck ad sh w) H) (hS : va_S A s.heap H locs) (as : List MV) :
    ∀ U : State, U.heap = H → s.WarmedH U.vm → va_Pc (as.map (mval ad)) (evP D ck ad sh w) (as.map (mval ad)).toArray U := fun U hU hW =>
  ⟨rfl, by rw [hU]; exact hP, va_K.moved hW.alike C.2.2.2.2.2.1, by
    rw [hU]
    exact ((C.2.2.2.2.2.2.2.2.1.kept hS.2.1).moved hW.alike).narrow (fun z ⟨i, h1, h2⟩ => by rw [h2]; exact C.2.2.2.2.2.2.1 i h1), C.2.2.2.2.2.2.2.2.2⟩
theorem go_callV {y : MethodName} {bytes : ByteArray} {maxL idx b ci N n : Nat} {C0 : String} {T : u_T} {ret : Option FieldType} {Ry : Room} {rs : List (Option Nat)} {as As rest : List MV} {K1 : Post}
    (hd : decode cc pc = .ok (.invokevirtual idx, 3)) (lk : LkV own idx y bytes maxL ret C0) (hcl : vwCl[ci]? = some (C0, T, N)) (hs : sh[b]? = some (.inl (ci, rs))) (has : as = vR b :: As) (hst : st = as.reverse ++ rest)
    (hn : (parseMethodDescriptor y.desc).map (fun d => d.parameters.length) = some n) (hAs : As.length = n) (hR : Ry.frames + 1 ≤ R.frames ∧ 8 + (maxL + 11) + Ry.locals ≤ R.locals) (hR0 : Ry.cells = 0 ∧ Ry.slots = 0) (hcat : ((rest.map (mval ad)).map fun v => v.category).sum ≤ 8)
    (hev : Ev l D ck ad sh y bytes maxL ret Ry as w K1) (hq : pc + 3 = q) (k : ∀ r w1, K1 r w1 → Go l D ck ad sh own cc nL R q ls (r.toList ++ rest) w1 K) : Go l D ck ad sh own cc nL R pc ls st w K := by
  subst hq has hst
  intro p e s m args below meth c A cells slots Q H locs lsR C hP hS hl hex
  refine go_run (a := (Value.ref (ad b) :: As.map (mval ad)).toArray) (rest := rest) (K1 := K1) ?_ C hS hl hex k
  refine va_runV (As := As.map (mval ad)) (b := ad b) (C := C0) ⟨C.1, C.2.1, C.2.2.1, C.2.2.2.1, C.2.2.2.2.1⟩ hev (cwV n C.2.2.2.2.1 lk.good rfl hR0.1 hR0.2 ⟨lk.2.1, lk.2.2.1, lk.2.2.2, hn⟩ hR) ⟨evP_blind, va_recv C.2.2.2.2.2.1 hP hcl (wld_at hs), ev_pre C hP hS (vR b :: As)⟩ rfl (by simpa using hAs) hl.1 ?_ (lv_room hcat) hd C.2.2.2.2.2.2.2.1
  simp [mval]
theorem go_callS {y : MethodName} {bytes : ByteArray} {maxL idx n : Nat} {ret : Option FieldType} {Ry : Room} {as rest : List MV} {K1 : Post}
    (hd : decode cc pc = .ok (.invokestatic idx, 3)) (lk : LkS own idx y bytes maxL ret) (hst : st = as.reverse ++ rest)
    (hn : (parseMethodDescriptor y.desc).map (fun d => d.parameters.length) = some n) (hAs : as.length = n) (hR : Ry.frames + 1 ≤ R.frames ∧ 8 + (maxL + 11) + Ry.locals ≤ R.locals) (hR0 : Ry.cells = 0 ∧ Ry.slots = 0) (hcat : ((rest.map (mval ad)).map fun v => v.category).sum ≤ 8)
    (hev : Ev l D ck ad sh y bytes maxL ret Ry as w K1) (hq : pc + 3 = q) (k : ∀ r w1, K1 r w1 → Go l D ck ad sh own cc nL R q ls (r.toList ++ rest) w1 K) : Go l D ck ad sh own cc nL R pc ls st w K := by
  subst hq hst
  intro p e s m args below meth c A cells slots Q H locs lsR C hP hS hl hex
  refine go_run (a := (as.map (mval ad)).toArray) (rest := rest) (K1 := K1) ?_ C hS hl hex k
  refine va_runS (As := as.map (mval ad)) ⟨C.1, C.2.1, C.2.2.1, C.2.2.2.1, C.2.2.2.2.1⟩ hev (va_cwS n C.2.2.2.2.1 lk.good rfl hR0.1 hR0.2 ⟨lk.2.1, lk.2.2, hn⟩ hR) ⟨evP_blind, ev_pre C hP hS as⟩ rfl (by simpa using hAs) hl.1 ?_ (lv_room hcat) hd C.2.2.2.2.2.2.2.1
  simp [mval]
theorem go_callVi {y : MethodName} {bytes : ByteArray} {maxL idx b ci N n : Nat} {C0 : String} {T : u_T} {ret : Option FieldType} {Ry : Room} {rs : List (Option Nat)} {as As rest : List MV} {P : Int → Mem → Prop}
    (hd : decode cc pc = .ok (.invokevirtual idx, 3)) (lk : LkV own idx y bytes maxL ret C0) (hcl : vwCl[ci]? = some (C0, T, N)) (hs : sh[b]? = some (.inl (ci, rs))) (has : as = vR b :: As) (hst : st = as.reverse ++ rest)
    (hn : (parseMethodDescriptor y.desc).map (fun d => d.parameters.length) = some n) (hAs : As.length = n) (hR : Ry.frames + 1 ≤ R.frames ∧ 8 + (maxL + 11) + Ry.locals ≤ R.locals) (hR0 : Ry.cells = 0 ∧ Ry.slots = 0) (hcat : ((rest.map (mval ad)).map fun v => v.category).sum ≤ 8)
    (hev : Ev l D ck ad sh y bytes maxL ret Ry as w (Pi P)) (hq : pc + 3 = q) (k : ∀ x w1, P x w1 → Go l D ck ad sh own cc nL R q ls (vI x :: rest) w1 K) : Go l D ck ad sh own cc nL R pc ls st w K := by
  refine go_callV hd lk hcl hs has hst hn hAs hR hR0 hcat hev hq ?_
  intro r w1 ⟨x, e, h⟩; subst e; exact k x w1 h
theorem go_callSi {y : MethodName} {bytes : ByteArray} {maxL idx n : Nat} {ret : Option FieldType} {Ry : Room} {as rest : List MV} {P : Int → Mem → Prop}
    (hd : decode cc pc = .ok (.invokestatic idx, 3)) (lk : LkS own idx y bytes maxL ret) (hst : st = as.reverse ++ rest)
    (hn : (parseMethodDescriptor y.desc).map (fun d => d.parameters.length) = some n) (hAs : as.length = n) (hR : Ry.frames + 1 ≤ R.frames ∧ 8 + (maxL + 11) + Ry.locals ≤ R.locals) (hR0 : Ry.cells = 0 ∧ Ry.slots = 0) (hcat : ((rest.map (mval ad)).map fun v => v.category).sum ≤ 8)
    (hev : Ev l D ck ad sh y bytes maxL ret Ry as w (Pi P)) (hq : pc + 3 = q) (k : ∀ x w1, P x w1 → Go l D ck ad sh own cc nL R q ls (vI x :: rest) w1 K) : Go l D ck ad sh own cc nL R pc ls st w K := by
  refine go_callS hd lk hst hn hAs hR hR0 hcat hev hq ?_
  intro r w1 ⟨x, e, h⟩; subst e; exact k x w1 h
theorem go_callVl {y : MethodName} {bytes : ByteArray} {maxL idx b ci N n : Nat} {C0 : String} {T : u_T} {ret : Option FieldType} {Ry : Room} {rs : List (Option Nat)} {as As rest : List MV} {P : Int → Mem → Prop}
    (hd : decode cc pc = .ok (.invokevirtual idx, 3)) (lk : LkV own idx y bytes maxL ret C0) (hcl : vwCl[ci]? = some (C0, T, N)) (hs : sh[b]? = some (.inl (ci, rs))) (has : as = vR b :: As) (hst : st = as.reverse ++ rest)
    (hn : (parseMethodDescriptor y.desc).map (fun d => d.parameters.length) = some n) (hAs : As.length = n) (hR : Ry.frames + 1 ≤ R.frames ∧ 8 + (maxL + 11) + Ry.locals ≤ R.locals) (hR0 : Ry.cells = 0 ∧ Ry.slots = 0) (hcat : ((rest.map (mval ad)).map fun v => v.category).sum ≤ 8)
    (hev : Ev l D ck ad sh y bytes maxL ret Ry as w (Pl P)) (hq : pc + 3 = q) (k : ∀ x w1, P x w1 → Go l D ck ad sh own cc nL R q ls (vL x :: rest) w1 K) : Go l D ck ad sh own cc nL R pc ls st w K := by
  refine go_callV hd lk hcl hs has hst hn hAs hR hR0 hcat hev hq ?_
  intro r w1 ⟨x, e, h⟩; subst e; exact k x w1 h
theorem go_callSl {y : MethodName} {bytes : ByteArray} {maxL idx n : Nat} {ret : Option FieldType} {Ry : Room} {as rest : List MV} {P : Int → Mem → Prop}
    (hd : decode cc pc = .ok (.invokestatic idx, 3)) (lk : LkS own idx y bytes maxL ret) (hst : st = as.reverse ++ rest)
    (hn : (parseMethodDescriptor y.desc).map (fun d => d.parameters.length) = some n) (hAs : as.length = n) (hR : Ry.frames + 1 ≤ R.frames ∧ 8 + (maxL + 11) + Ry.locals ≤ R.locals) (hR0 : Ry.cells = 0 ∧ Ry.slots = 0) (hcat : ((rest.map (mval ad)).map fun v => v.category).sum ≤ 8)
    (hev : Ev l D ck ad sh y bytes maxL ret Ry as w (Pl P)) (hq : pc + 3 = q) (k : ∀ x w1, P x w1 → Go l D ck ad sh own cc nL R q ls (vL x :: rest) w1 K) : Go l D ck ad sh own cc nL R pc ls st w K := by
  refine go_callS hd lk hst hn hAs hR hR0 hcat hev hq ?_
  intro r w1 ⟨x, e, h⟩; subst e; exact k x w1 h
theorem go_callVv {y : MethodName} {bytes : ByteArray} {maxL idx b ci N n : Nat} {C0 : String} {T : u_T} {ret : Option FieldType} {Ry : Room} {rs : List (Option Nat)} {as As rest : List MV} {P : Mem → Prop}
    (hd : decode cc pc = .ok (.invokevirtual idx, 3)) (lk : LkV own idx y bytes maxL ret C0) (hcl : vwCl[ci]? = some (C0, T, N)) (hs : sh[b]? = some (.inl (ci, rs))) (has : as = vR b :: As) (hst : st = as.reverse ++ rest)
    (hn : (parseMethodDescriptor y.desc).map (fun d => d.parameters.length) = some n) (hAs : As.length = n) (hR : Ry.frames + 1 ≤ R.frames ∧ 8 + (maxL + 11) + Ry.locals ≤ R.locals) (hR0 : Ry.cells = 0 ∧ Ry.slots = 0) (hcat : ((rest.map (mval ad)).map fun v => v.category).sum ≤ 8)
    (hev : Ev l D ck ad sh y bytes maxL ret Ry as w (Pv P)) (hq : pc + 3 = q) (k : ∀ w1, P w1 → Go l D ck ad sh own cc nL R q ls (rest) w1 K) : Go l D ck ad sh own cc nL R pc ls st w K := by
  refine go_callV hd lk hcl hs has hst hn hAs hR hR0 hcat hev hq ?_
  intro r w1 ⟨e, h⟩; subst e; exact k w1 h
theorem go_callSv {y : MethodName} {bytes : ByteArray} {maxL idx n : Nat} {ret : Option FieldType} {Ry : Room} {as rest : List MV} {P : Mem → Prop}
    (hd : decode cc pc = .ok (.invokestatic idx, 3)) (lk : LkS own idx y bytes maxL ret) (hst : st = as.reverse ++ rest)
    (hn : (parseMethodDescriptor y.desc).map (fun d => d.parameters.length) = some n) (hAs : as.length = n) (hR : Ry.frames + 1 ≤ R.frames ∧ 8 + (maxL + 11) + Ry.locals ≤ R.locals) (hR0 : Ry.cells = 0 ∧ Ry.slots = 0) (hcat : ((rest.map (mval ad)).map fun v => v.category).sum ≤ 8)
    (hev : Ev l D ck ad sh y bytes maxL ret Ry as w (Pv P)) (hq : pc + 3 = q) (k : ∀ w1, P w1 → Go l D ck ad sh own cc nL R q ls (rest) w1 K) : Go l D ck ad sh own cc nL R pc ls st w K := by
  refine go_callS hd lk hst hn hAs hR hR0 hcat hev hq ?_
  intro r w1 ⟨e, h⟩; subst e; exact k w1 h
theorem go_callVz {y : MethodName} {bytes : ByteArray} {maxL idx b ci N n : Nat} {C0 : String} {T : u_T} {ret : Option FieldType} {Ry : Room} {rs : List (Option Nat)} {as As rest : List MV} {P1 P0 : Mem → Prop}
    (hd : decode cc pc = .ok (.invokevirtual idx, 3)) (lk : LkV own idx y bytes maxL ret C0) (hcl : vwCl[ci]? = some (C0, T, N)) (hs : sh[b]? = some (.inl (ci, rs))) (has : as = vR b :: As) (hst : st = as.reverse ++ rest)
    (hn : (parseMethodDescriptor y.desc).map (fun d => d.parameters.length) = some n) (hAs : As.length = n) (hR : Ry.frames + 1 ≤ R.frames ∧ 8 + (maxL + 11) + Ry.locals ≤ R.locals) (hR0 : Ry.cells = 0 ∧ Ry.slots = 0) (hcat : ((rest.map (mval ad)).map fun v => v.category).sum ≤ 8)
    (hev : Ev l D ck ad sh y bytes maxL ret Ry as w (Pz P1 P0)) (hq : pc + 3 = q) (k1 : ∀ w1, P1 w1 → Go l D ck ad sh own cc nL R q ls (vI 1 :: rest) w1 K) (k0 : ∀ w1, P0 w1 → Go l D ck ad sh own cc nL R q ls (vI 0 :: rest) w1 K) : Go l D ck ad sh own cc nL R pc ls st w K := by
  refine go_callV hd lk hcl hs has hst hn hAs hR hR0 hcat hev hq ?_
  intro r w1 h; rcases h with ⟨e, h⟩ | ⟨e, h⟩ <;> subst e
  · exact k1 w1 h
  · exact k0 w1 h
theorem go_callSz {y : MethodName} {bytes : ByteArray} {maxL idx n : Nat} {ret : Option FieldType} {Ry : Room} {as rest : List MV} {P1 P0 : Mem → Prop}
    (hd : decode cc pc = .ok (.invokestatic idx, 3)) (lk : LkS own idx y bytes maxL ret) (hst : st = as.reverse ++ rest)
    (hn : (parseMethodDescriptor y.desc).map (fun d => d.parameters.length) = some n) (hAs : as.length = n) (hR : Ry.frames + 1 ≤ R.frames ∧ 8 + (maxL + 11) + Ry.locals ≤ R.locals) (hR0 : Ry.cells = 0 ∧ Ry.slots = 0) (hcat : ((rest.map (mval ad)).map fun v => v.category).sum ≤ 8)
    (hev : Ev l D ck ad sh y bytes maxL ret Ry as w (Pz P1 P0)) (hq : pc + 3 = q) (k1 : ∀ w1, P1 w1 → Go l D ck ad sh own cc nL R q ls (vI 1 :: rest) w1 K) (k0 : ∀ w1, P0 w1 → Go l D ck ad sh own cc nL R q ls (vI 0 :: rest) w1 K) : Go l D ck ad sh own cc nL R pc ls st w K := by
  refine go_callS hd lk hst hn hAs hR hR0 hcat hev hq ?_
  intro r w1 h; rcases h with ⟨e, h⟩ | ⟨e, h⟩ <;> subst e
  · exact k1 w1 h
  · exact k0 w1 h
end CALLS
section COPY
variable {l : Launch} {D : va_G} {ck : Nat → ClassId} {ad : Nat → Nat} {sh : List Shp} {own : String} {cc : ByteArray} {nL : Nat} {R : Room} {pc q : Nat} {ls : List (Option MV)} {st : List MV} {w : Mem} {K : Post}
def mcpy (w : Mem) (b0 sp b1 dp n : Nat) : Mem := fun c k => if c = b1 ∧ dp ≤ k ∧ k < dp + n then w b0 (sp + (k - dp)) else w c k
theorem wld_cpy {b0 b1 sp dp n tc n1 : Nat} (h : sh[b1]? = some (.inr (.inl (tc, n1)))) : (wld ck ad sh w).set b1 (ad b1, .inl (ck tc, n1, .inl (va_cpy (fun k => Int32.ofInt (w b0 k)) (fun k => Int32.ofInt (w b1 k)) sp dp n))) = wld ck ad sh (mcpy w b0 sp b1 dp n) := by
  apply List.ext_getElem?
  intro i
  have hl := (List.getElem?_eq_some_iff.mp h).1
  by_cases hi : b1 = i
  · subst hi
    rw [wld_at h, List.getElem?_set_self (by simpa [wld] using hl)]
    have e : (va_cpy (fun k => Int32.ofInt (w b0 k)) (fun k => Int32.ofInt (w b1 k)) sp dp n) = fun k => Int32.ofInt (mcpy w b0 sp b1 dp n b1 k) := by
      funext k
      unfold va_cpy mcpy
      by_cases hk : dp ≤ k ∧ k < dp + n <;> simp [hk]
    rw [e]; rfl
  · rw [List.getElem?_set_ne hi]
    simp only [wld, List.getElem?_mapIdx]
    have e : mcpy w b0 sp b1 dp n i = w i := by
      funext k'
      have : ¬ i = b1 := fun e => hi e.symm
      simp [mcpy, this]
    rw [e]
theorem go_acopy {idx b0 b1 n0 n1 sp dp n : Nat} {xs xd xn : Int} {rest : List MV} (hlk : (Cond.methodLink own idx arraycopyName ∈ lw_gw ∧ Cond.native arraycopyName ∈ lw_gw) ∧ Cond.static arraycopyName ∈ lw_gw ∧ Cond.initialized "java/lang/System" ∈ lw_gw)
    (h0 : sh[b0]? = some (.inr (.inl (0, n0)))) (h1 : sh[b1]? = some (.inr (.inl (0, n1)))) (hxs : wr xs = (sp : Int)) (hxd : wr xd = (dp : Int)) (hxn : wr xn = (n : Int)) (hs : sp + n ≤ n0) (hdn : dp + n ≤ n1) (hfr : 1 ≤ R.frames) (hlo : ((rest.map (mval ad)).map fun v => v.category).sum + (nativeFrameWords "java/lang/System" "arraycopy" 5 + 11) ≤ R.locals)
    (hd : decode cc pc = .ok (.invokestatic idx, 3)) (hq : pc + 3 = q) (k : Go l D ck ad sh own cc nL R q ls rest (mcpy w b0 sp b1 dp n) K) : Go l D ck ad sh own cc nL R pc ls (vI xn :: vI xd :: vR b1 :: vI xs :: vR b0 :: rest) w K := by
  subst hq
  intro p e s m args below meth c A cells slots Q H locs lsR C hP hS hl hex
  have nn : ∀ {x : Int} {j : Nat}, wr x = (j : Int) → ¬ Int32.ofInt x < 0 := fun {x j} h => by rw [oi_lt0, h]; omega
  refine va_copyi (ty := .int) C.1 C.2.1 (C.2.2.1.trans hl.1.symm) C.2.2.2.1 (C.2.2.2.2.1 _ hlk.1.1) (C.2.2.2.2.1 _ hlk.1.2) (C.2.2.2.2.1 _ hlk.2.1) (C.2.2.2.2.1 _ hlk.2.2) C.2.2.2.2.2.1 hP (wld_D C.2.2.2.2.2.2.2.2.2 C.2.2.2.2.2.2.1) hS b0 b1 0 0 (wld_at h0) (wld_at h1) rfl rfl rfl (nn hxs) (nn hxd) (nn hxn) (by rw [oi_nat hxs, oi_nat hxn]; exact hs) (by rw [oi_nat hxd, oi_nat hxn]; exact hdn) (fun _ _ => rfl) hfr hlo hd (fun H1 locs1 hP1 hD1 hS1 => ?_)
  rw [oi_nat hxs, oi_nat hxd, oi_nat hxn, wld_cpy h1] at hP1
  exact k p e s m args below meth c A cells slots Q H1 locs1 _ C hP1 hS1 hl hex
end COPY
end
section
theorem tin1 {w : Cond} (h : w ∈ tables_1_1) : w ∈ lw_tbl := List.mem_append_right _ (show w ∈ tables_1 from List.mem_append_left _ h)
theorem tin2 {w : Cond} (h : w ∈ tables_1_2) : w ∈ lw_tbl := List.mem_append_right _ (show w ∈ tables_1 from List.mem_append_right _ (List.mem_append_left _ h))
theorem tin3 {w : Cond} (h : w ∈ tables_1_3) : w ∈ lw_tbl := List.mem_append_right _ (show w ∈ tables_1 from List.mem_append_right _ (List.mem_append_right _ (List.mem_append_left _ h)))
theorem tin4 {w : Cond} (h : w ∈ tables_1_4) : w ∈ lw_tbl := List.mem_append_right _ (show w ∈ tables_1 from List.mem_append_right _ (List.mem_append_right _ (List.mem_append_right _ (List.mem_append_left _ h))))
theorem tin5 {w : Cond} (h : w ∈ tables_1_5) : w ∈ lw_tbl := List.mem_append_right _ (show w ∈ tables_1 from List.mem_append_right _ (List.mem_append_right _ (List.mem_append_right _ (List.mem_append_right _ (h)))))
abbrev rmX0_init : Room := { frames := 1, cells := 0, slots := 0, locals := 12 }
abbrev gX0_init (l : Launch) (D : va_G) (ck : Nat → ClassId) (ad : Nat → Nat) (sh : List Shp) := Go l D ck ad sh RX0 cX0_init 3 rmX0_init
abbrev eX0_init (l : Launch) (D : va_G) (ck : Nat → ClassId) (ad : Nat → Nat) (sh : List Shp) := Ev l D ck ad sh yX0_init cX0_init 3 none rmX0_init
abbrev rmX0_tally : Room := { frames := 4, cells := 0, slots := 0, locals := 88 }
abbrev gX0_tally (l : Launch) (D : va_G) (ck : Nat → ClassId) (ad : Nat → Nat) (sh : List Shp) := Go l D ck ad sh RX0 cX0_tally 2 rmX0_tally
abbrev eX0_tally (l : Launch) (D : va_G) (ck : Nat → ClassId) (ad : Nat → Nat) (sh : List Shp) := Ev l D ck ad sh yX0_tally cX0_tally 2 (some .int) rmX0_tally
abbrev rmX0_talliedUsing : Room := { frames := 0, cells := 0, slots := 0, locals := 0 }
abbrev gX0_talliedUsing (l : Launch) (D : va_G) (ck : Nat → ClassId) (ad : Nat → Nat) (sh : List Shp) := Go l D ck ad sh RX0 cX0_talliedUsing 2 rmX0_talliedUsing
abbrev eX0_talliedUsing (l : Launch) (D : va_G) (ck : Nat → ClassId) (ad : Nat → Nat) (sh : List Shp) := Ev l D ck ad sh yX0_talliedUsing cX0_talliedUsing 2 (some .int) rmX0_talliedUsing
abbrev rmX0_coloursUsed : Room := { frames := 1, cells := 0, slots := 0, locals := 20 }
abbrev gX0_coloursUsed (l : Launch) (D : va_G) (ck : Nat → ClassId) (ad : Nat → Nat) (sh : List Shp) := Go l D ck ad sh RX0 cX0_coloursUsed 3 rmX0_coloursUsed
abbrev eX0_coloursUsed (l : Launch) (D : va_G) (ck : Nat → ClassId) (ad : Nat → Nat) (sh : List Shp) := Ev l D ck ad sh yX0_coloursUsed cX0_coloursUsed 3 (some .int) rmX0_coloursUsed
abbrev rmX0_countWith : Room := { frames := 4, cells := 0, slots := 0, locals := 88 }
abbrev gX0_countWith (l : Launch) (D : va_G) (ck : Nat → ClassId) (ad : Nat → Nat) (sh : List Shp) := Go l D ck ad sh RX0 cX0_countWith 5 rmX0_countWith
abbrev eX0_countWith (l : Launch) (D : va_G) (ck : Nat → ClassId) (ad : Nat → Nat) (sh : List Shp) := Ev l D ck ad sh yX0_countWith cX0_countWith 5 (some .int) rmX0_countWith
abbrev rmX0_countAlike : Room := { frames := 4, cells := 0, slots := 0, locals := 88 }
abbrev gX0_countAlike (l : Launch) (D : va_G) (ck : Nat → ClassId) (ad : Nat → Nat) (sh : List Shp) := Go l D ck ad sh RX0 cX0_countAlike 5 rmX0_countAlike
abbrev eX0_countAlike (l : Launch) (D : va_G) (ck : Nat → ClassId) (ad : Nat → Nat) (sh : List Shp) := Ev l D ck ad sh yX0_countAlike cX0_countAlike 5 (some .int) rmX0_countAlike
abbrev rmX0_colourAt : Room := { frames := 4, cells := 0, slots := 0, locals := 88 }
abbrev gX0_colourAt (l : Launch) (D : va_G) (ck : Nat → ClassId) (ad : Nat → Nat) (sh : List Shp) := Go l D ck ad sh RX0 cX0_colourAt 4 rmX0_colourAt
abbrev eX0_colourAt (l : Launch) (D : va_G) (ck : Nat → ClassId) (ad : Nat → Nat) (sh : List Shp) := Ev l D ck ad sh yX0_colourAt cX0_colourAt 4 (some .int) rmX0_colourAt
abbrev rmX0_start : Room := { frames := 1, cells := 0, slots := 0, locals := 22 }
abbrev gX0_start (l : Launch) (D : va_G) (ck : Nat → ClassId) (ad : Nat → Nat) (sh : List Shp) := Go l D ck ad sh RX0 cX0_start 3 rmX0_start
abbrev eX0_start (l : Launch) (D : va_G) (ck : Nat → ClassId) (ad : Nat → Nat) (sh : List Shp) := Ev l D ck ad sh yX0_start cX0_start 3 none rmX0_start
abbrev rmX0_advance : Room := { frames := 3, cells := 0, slots := 0, locals := 67 }
abbrev gX0_advance (l : Launch) (D : va_G) (ck : Nat → ClassId) (ad : Nat → Nat) (sh : List Shp) := Go l D ck ad sh RX0 cX0_advance 2 rmX0_advance
abbrev eX0_advance (l : Launch) (D : va_G) (ck : Nat → ClassId) (ad : Nat → Nat) (sh : List Shp) := Ev l D ck ad sh yX0_advance cX0_advance 2 (some .boolean) rmX0_advance
abbrev rmX0_fits : Room := { frames := 2, cells := 0, slots := 0, locals := 46 }
abbrev gX0_fits (l : Launch) (D : va_G) (ck : Nat → ClassId) (ad : Nat → Nat) (sh : List Shp) := Go l D ck ad sh RX0 cX0_fits 2 rmX0_fits
abbrev eX0_fits (l : Launch) (D : va_G) (ck : Nat → ClassId) (ad : Nat → Nat) (sh : List Shp) := Ev l D ck ad sh yX0_fits cX0_fits 2 (some .boolean) rmX0_fits
abbrev rmX0_isMet : Room := { frames := 1, cells := 0, slots := 0, locals := 22 }
abbrev gX0_isMet (l : Launch) (D : va_G) (ck : Nat → ClassId) (ad : Nat → Nat) (sh : List Shp) := Go l D ck ad sh RX0 cX0_isMet 5 rmX0_isMet
abbrev eX0_isMet (l : Launch) (D : va_G) (ck : Nat → ClassId) (ad : Nat → Nat) (sh : List Shp) := Ev l D ck ad sh yX0_isMet cX0_isMet 5 (some .boolean) rmX0_isMet
abbrev rmX1_init : Room := { frames := 1, cells := 0, slots := 0, locals := 12 }
abbrev gX1_init (l : Launch) (D : va_G) (ck : Nat → ClassId) (ad : Nat → Nat) (sh : List Shp) := Go l D ck ad sh RX1 cX1_init 1 rmX1_init
abbrev eX1_init (l : Launch) (D : va_G) (ck : Nat → ClassId) (ad : Nat → Nat) (sh : List Shp) := Ev l D ck ad sh yX1_init cX1_init 1 none rmX1_init
abbrev rmX1_hasArc : Room := { frames := 0, cells := 0, slots := 0, locals := 0 }
abbrev gX1_hasArc (l : Launch) (D : va_G) (ck : Nat → ClassId) (ad : Nat → Nat) (sh : List Shp) := Go l D ck ad sh RX1 cX1_hasArc 2 rmX1_hasArc
abbrev eX1_hasArc (l : Launch) (D : va_G) (ck : Nat → ClassId) (ad : Nat → Nat) (sh : List Shp) := Ev l D ck ad sh yX1_hasArc cX1_hasArc 2 (some .boolean) rmX1_hasArc
abbrev rmX1_hasCrossing : Room := { frames := 0, cells := 0, slots := 0, locals := 0 }
abbrev gX1_hasCrossing (l : Launch) (D : va_G) (ck : Nat → ClassId) (ad : Nat → Nat) (sh : List Shp) := Go l D ck ad sh RX1 cX1_hasCrossing 2 rmX1_hasCrossing
abbrev eX1_hasCrossing (l : Launch) (D : va_G) (ck : Nat → ClassId) (ad : Nat → Nat) (sh : List Shp) := Ev l D ck ad sh yX1_hasCrossing cX1_hasCrossing 2 (some .boolean) rmX1_hasCrossing
abbrev rmX1_hasRoom : Room := { frames := 0, cells := 0, slots := 0, locals := 0 }
abbrev gX1_hasRoom (l : Launch) (D : va_G) (ck : Nat → ClassId) (ad : Nat → Nat) (sh : List Shp) := Go l D ck ad sh RX1 cX1_hasRoom 3 rmX1_hasRoom
abbrev eX1_hasRoom (l : Launch) (D : va_G) (ck : Nat → ClassId) (ad : Nat → Nat) (sh : List Shp) := Ev l D ck ad sh yX1_hasRoom cX1_hasRoom 3 (some .boolean) rmX1_hasRoom
abbrev rmX1_part : Room := { frames := 0, cells := 0, slots := 0, locals := 0 }
abbrev gX1_part (l : Launch) (D : va_G) (ck : Nat → ClassId) (ad : Nat → Nat) (sh : List Shp) := Go l D ck ad sh RX1 cX1_part 3 rmX1_part
abbrev eX1_part (l : Launch) (D : va_G) (ck : Nat → ClassId) (ad : Nat → Nat) (sh : List Shp) := Ev l D ck ad sh yX1_part cX1_part 3 (some .int) rmX1_part
abbrev rmX1_copyFrom : Room := { frames := 1, cells := 0, slots := 0, locals := 26 }
abbrev gX1_copyFrom (l : Launch) (D : va_G) (ck : Nat → ClassId) (ad : Nat → Nat) (sh : List Shp) := Go l D ck ad sh RX1 cX1_copyFrom 2 rmX1_copyFrom
abbrev eX1_copyFrom (l : Launch) (D : va_G) (ck : Nat → ClassId) (ad : Nat → Nat) (sh : List Shp) := Ev l D ck ad sh yX1_copyFrom cX1_copyFrom 2 none rmX1_copyFrom
abbrev rmX1_clear : Room := { frames := 0, cells := 0, slots := 0, locals := 0 }
abbrev gX1_clear (l : Launch) (D : va_G) (ck : Nat → ClassId) (ad : Nat → Nat) (sh : List Shp) := Go l D ck ad sh RX1 cX1_clear 2 rmX1_clear
abbrev eX1_clear (l : Launch) (D : va_G) (ck : Nat → ClassId) (ad : Nat → Nat) (sh : List Shp) := Ev l D ck ad sh yX1_clear cX1_clear 2 none rmX1_clear
abbrev rmX1_addArc : Room := { frames := 0, cells := 0, slots := 0, locals := 0 }
abbrev gX1_addArc (l : Launch) (D : va_G) (ck : Nat → ClassId) (ad : Nat → Nat) (sh : List Shp) := Go l D ck ad sh RX1 cX1_addArc 1 rmX1_addArc
abbrev eX1_addArc (l : Launch) (D : va_G) (ck : Nat → ClassId) (ad : Nat → Nat) (sh : List Shp) := Ev l D ck ad sh yX1_addArc cX1_addArc 1 (some .int) rmX1_addArc
abbrev rmX1_append : Room := { frames := 0, cells := 0, slots := 0, locals := 0 }
abbrev gX1_append (l : Launch) (D : va_G) (ck : Nat → ClassId) (ad : Nat → Nat) (sh : List Shp) := Go l D ck ad sh RX1 cX1_append 6 rmX1_append
abbrev eX1_append (l : Launch) (D : va_G) (ck : Nat → ClassId) (ad : Nat → Nat) (sh : List Shp) := Ev l D ck ad sh yX1_append cX1_append 6 none rmX1_append
abbrev rmX1_remove : Room := { frames := 1, cells := 0, slots := 0, locals := 26 }
abbrev gX1_remove (l : Launch) (D : va_G) (ck : Nat → ClassId) (ad : Nat → Nat) (sh : List Shp) := Go l D ck ad sh RX1 cX1_remove 3 rmX1_remove
abbrev eX1_remove (l : Launch) (D : va_G) (ck : Nat → ClassId) (ad : Nat → Nat) (sh : List Shp) := Ev l D ck ad sh yX1_remove cX1_remove 3 none rmX1_remove
abbrev rmX1_moveIn : Room := { frames := 1, cells := 0, slots := 0, locals := 22 }
abbrev gX1_moveIn (l : Launch) (D : va_G) (ck : Nat → ClassId) (ad : Nat → Nat) (sh : List Shp) := Go l D ck ad sh RX1 cX1_moveIn 4 rmX1_moveIn
abbrev eX1_moveIn (l : Launch) (D : va_G) (ck : Nat → ClassId) (ad : Nat → Nat) (sh : List Shp) := Ev l D ck ad sh yX1_moveIn cX1_moveIn 4 none rmX1_moveIn
abbrev rmX1_isClosed : Room := { frames := 2, cells := 0, slots := 0, locals := 46 }
abbrev gX1_isClosed (l : Launch) (D : va_G) (ck : Nat → ClassId) (ad : Nat → Nat) (sh : List Shp) := Go l D ck ad sh RX1 cX1_isClosed 3 rmX1_isClosed
abbrev eX1_isClosed (l : Launch) (D : va_G) (ck : Nat → ClassId) (ad : Nat → Nat) (sh : List Shp) := Ev l D ck ad sh yX1_isClosed cX1_isClosed 3 (some .boolean) rmX1_isClosed
abbrev rmX1_countAs : Room := { frames := 1, cells := 0, slots := 0, locals := 22 }
abbrev gX1_countAs (l : Launch) (D : va_G) (ck : Nat → ClassId) (ad : Nat → Nat) (sh : List Shp) := Go l D ck ad sh RX1 cX1_countAs 5 rmX1_countAs
abbrev eX1_countAs (l : Launch) (D : va_G) (ck : Nat → ClassId) (ad : Nat → Nat) (sh : List Shp) := Ev l D ck ad sh yX1_countAs cX1_countAs 5 (some .int) rmX1_countAs
abbrev rmX1_countComponents : Room := { frames := 2, cells := 0, slots := 0, locals := 47 }
abbrev gX1_countComponents (l : Launch) (D : va_G) (ck : Nat → ClassId) (ad : Nat → Nat) (sh : List Shp) := Go l D ck ad sh RX1 cX1_countComponents 4 rmX1_countComponents
abbrev eX1_countComponents (l : Launch) (D : va_G) (ck : Nat → ClassId) (ad : Nat → Nat) (sh : List Shp) := Ev l D ck ad sh yX1_countComponents cX1_countComponents 4 (some .int) rmX1_countComponents
abbrev rmX1_componentOf : Room := { frames := 1, cells := 0, slots := 0, locals := 22 }
abbrev gX1_componentOf (l : Launch) (D : va_G) (ck : Nat → ClassId) (ad : Nat → Nat) (sh : List Shp) := Go l D ck ad sh RX1 cX1_componentOf 6 rmX1_componentOf
abbrev eX1_componentOf (l : Launch) (D : va_G) (ck : Nat → ClassId) (ad : Nat → Nat) (sh : List Shp) := Ev l D ck ad sh yX1_componentOf cX1_componentOf 6 (some .int) rmX1_componentOf
abbrev rmX1_signSum : Room := { frames := 1, cells := 0, slots := 0, locals := 22 }
abbrev gX1_signSum (l : Launch) (D : va_G) (ck : Nat → ClassId) (ad : Nat → Nat) (sh : List Shp) := Go l D ck ad sh RX1 cX1_signSum 3 rmX1_signSum
abbrev eX1_signSum (l : Launch) (D : va_G) (ck : Nat → ClassId) (ad : Nat → Nat) (sh : List Shp) := Ev l D ck ad sh yX1_signSum cX1_signSum 3 (some .int) rmX1_signSum
abbrev rmX1_linkingSum : Room := { frames := 2, cells := 0, slots := 0, locals := 47 }
abbrev gX1_linkingSum (l : Launch) (D : va_G) (ck : Nat → ClassId) (ad : Nat → Nat) (sh : List Shp) := Go l D ck ad sh RX1 cX1_linkingSum 7 rmX1_linkingSum
abbrev eX1_linkingSum (l : Launch) (D : va_G) (ck : Nat → ClassId) (ad : Nat → Nat) (sh : List Shp) := Ev l D ck ad sh yX1_linkingSum cX1_linkingSum 7 (some .int) rmX1_linkingSum
abbrev rmX2_init : Room := { frames := 1, cells := 0, slots := 0, locals := 12 }
abbrev gX2_init (l : Launch) (D : va_G) (ck : Nat → ClassId) (ad : Nat → Nat) (sh : List Shp) := Go l D ck ad sh RX2 cX2_init 1 rmX2_init
abbrev eX2_init (l : Launch) (D : va_G) (ck : Nat → ClassId) (ad : Nat → Nat) (sh : List Shp) := Ev l D ck ad sh yX2_init cX2_init 1 none rmX2_init
abbrev rmX2_append : Room := { frames := 0, cells := 0, slots := 0, locals := 0 }
abbrev gX2_append (l : Launch) (D : va_G) (ck : Nat → ClassId) (ad : Nat → Nat) (sh : List Shp) := Go l D ck ad sh RX2 cX2_append 2 rmX2_append
abbrev eX2_append (l : Launch) (D : va_G) (ck : Nat → ClassId) (ad : Nat → Nat) (sh : List Shp) := Ev l D ck ad sh yX2_append cX2_append 2 none rmX2_append
abbrev rmX2_clear : Room := { frames := 0, cells := 0, slots := 0, locals := 0 }
abbrev gX2_clear (l : Launch) (D : va_G) (ck : Nat → ClassId) (ad : Nat → Nat) (sh : List Shp) := Go l D ck ad sh RX2 cX2_clear 1 rmX2_clear
abbrev eX2_clear (l : Launch) (D : va_G) (ck : Nat → ClassId) (ad : Nat → Nat) (sh : List Shp) := Ev l D ck ad sh yX2_clear cX2_clear 1 none rmX2_clear
abbrev rmX2_firstError : Room := { frames := 1, cells := 0, slots := 0, locals := 22 }
abbrev gX2_firstError (l : Launch) (D : va_G) (ck : Nat → ClassId) (ad : Nat → Nat) (sh : List Shp) := Go l D ck ad sh RX2 cX2_firstError 2 rmX2_firstError
abbrev eX2_firstError (l : Launch) (D : va_G) (ck : Nat → ClassId) (ad : Nat → Nat) (sh : List Shp) := Ev l D ck ad sh yX2_firstError cX2_firstError 2 (some .int) rmX2_firstError
abbrev rmX2_mayStandAt : Room := { frames := 0, cells := 0, slots := 0, locals := 0 }
abbrev gX2_mayStandAt (l : Launch) (D : va_G) (ck : Nat → ClassId) (ad : Nat → Nat) (sh : List Shp) := Go l D ck ad sh RX2 cX2_mayStandAt 3 rmX2_mayStandAt
abbrev eX2_mayStandAt (l : Launch) (D : va_G) (ck : Nat → ClassId) (ad : Nat → Nat) (sh : List Shp) := Ev l D ck ad sh yX2_mayStandAt cX2_mayStandAt 3 (some .boolean) rmX2_mayStandAt
abbrev rmX2_drawInto : Room := { frames := 1, cells := 0, slots := 0, locals := 25 }
abbrev gX2_drawInto (l : Launch) (D : va_G) (ck : Nat → ClassId) (ad : Nat → Nat) (sh : List Shp) := Go l D ck ad sh RX2 cX2_drawInto 5 rmX2_drawInto
abbrev eX2_drawInto (l : Launch) (D : va_G) (ck : Nat → ClassId) (ad : Nat → Nat) (sh : List Shp) := Ev l D ck ad sh yX2_drawInto cX2_drawInto 5 none rmX2_drawInto
abbrev rmX2_arcAt : Room := { frames := 0, cells := 0, slots := 0, locals := 0 }
abbrev gX2_arcAt (l : Launch) (D : va_G) (ck : Nat → ClassId) (ad : Nat → Nat) (sh : List Shp) := Go l D ck ad sh RX2 cX2_arcAt 2 rmX2_arcAt
abbrev eX2_arcAt (l : Launch) (D : va_G) (ck : Nat → ClassId) (ad : Nat → Nat) (sh : List Shp) := Ev l D ck ad sh yX2_arcAt cX2_arcAt 2 (some .int) rmX2_arcAt
abbrev rmX3_init : Room := { frames := 2, cells := 0, slots := 0, locals := 32 }
abbrev gX3_init (l : Launch) (D : va_G) (ck : Nat → ClassId) (ad : Nat → Nat) (sh : List Shp) := Go l D ck ad sh RX3 cX3_init 2 rmX3_init
abbrev eX3_init (l : Launch) (D : va_G) (ck : Nat → ClassId) (ad : Nat → Nat) (sh : List Shp) := Ev l D ck ad sh yX3_init cX3_init 2 none rmX3_init
abbrev rmX3_save : Room := { frames := 2, cells := 0, slots := 0, locals := 47 }
abbrev gX3_save (l : Launch) (D : va_G) (ck : Nat → ClassId) (ad : Nat → Nat) (sh : List Shp) := Go l D ck ad sh RX3 cX3_save 3 rmX3_save
abbrev eX3_save (l : Launch) (D : va_G) (ck : Nat → ClassId) (ad : Nat → Nat) (sh : List Shp) := Ev l D ck ad sh yX3_save cX3_save 3 none rmX3_save
abbrev rmX3_restore : Room := { frames := 2, cells := 0, slots := 0, locals := 47 }
abbrev gX3_restore (l : Launch) (D : va_G) (ck : Nat → ClassId) (ad : Nat → Nat) (sh : List Shp) := Go l D ck ad sh RX3 cX3_restore 3 rmX3_restore
abbrev eX3_restore (l : Launch) (D : va_G) (ck : Nat → ClassId) (ad : Nat → Nat) (sh : List Shp) := Ev l D ck ad sh yX3_restore cX3_restore 3 none rmX3_restore
abbrev rmX4_init : Room := { frames := 1, cells := 0, slots := 0, locals := 12 }
abbrev gX4_init (l : Launch) (D : va_G) (ck : Nat → ClassId) (ad : Nat → Nat) (sh : List Shp) := Go l D ck ad sh RX4 cX4_init 1 rmX4_init
abbrev eX4_init (l : Launch) (D : va_G) (ck : Nat → ClassId) (ad : Nat → Nat) (sh : List Shp) := Ev l D ck ad sh yX4_init cX4_init 1 none rmX4_init
abbrev rmX4_countCompositions : Room := { frames := 2, cells := 0, slots := 0, locals := 48 }
abbrev gX4_countCompositions (l : Launch) (D : va_G) (ck : Nat → ClassId) (ad : Nat → Nat) (sh : List Shp) := Go l D ck ad sh RX4 cX4_countCompositions 6 rmX4_countCompositions
abbrev eX4_countCompositions (l : Launch) (D : va_G) (ck : Nat → ClassId) (ad : Nat → Nat) (sh : List Shp) := Ev l D ck ad sh yX4_countCompositions cX4_countCompositions 6 (some .int) rmX4_countCompositions
abbrev rmX4_startAtIdentity : Room := { frames := 0, cells := 0, slots := 0, locals := 0 }
abbrev gX4_startAtIdentity (l : Launch) (D : va_G) (ck : Nat → ClassId) (ad : Nat → Nat) (sh : List Shp) := Go l D ck ad sh RX4 cX4_startAtIdentity 2 rmX4_startAtIdentity
abbrev eX4_startAtIdentity (l : Launch) (D : va_G) (ck : Nat → ClassId) (ad : Nat → Nat) (sh : List Shp) := Ev l D ck ad sh yX4_startAtIdentity cX4_startAtIdentity 2 none rmX4_startAtIdentity
abbrev rmX4_rankBehind : Room := { frames := 1, cells := 0, slots := 0, locals := 22 }
abbrev gX4_rankBehind (l : Launch) (D : va_G) (ck : Nat → ClassId) (ad : Nat → Nat) (sh : List Shp) := Go l D ck ad sh RX4 cX4_rankBehind 7 rmX4_rankBehind
abbrev eX4_rankBehind (l : Launch) (D : va_G) (ck : Nat → ClassId) (ad : Nat → Nat) (sh : List Shp) := Ev l D ck ad sh yX4_rankBehind cX4_rankBehind 7 (some .int) rmX4_rankBehind
abbrev rmX4_unrank : Room := { frames := 0, cells := 0, slots := 0, locals := 0 }
abbrev gX4_unrank (l : Launch) (D : va_G) (ck : Nat → ClassId) (ad : Nat → Nat) (sh : List Shp) := Go l D ck ad sh RX4 cX4_unrank 8 rmX4_unrank
abbrev eX4_unrank (l : Launch) (D : va_G) (ck : Nat → ClassId) (ad : Nat → Nat) (sh : List Shp) := Ev l D ck ad sh yX4_unrank cX4_unrank 8 none rmX4_unrank
abbrev rmX4_countAutomorphisms : Room := { frames := 2, cells := 0, slots := 0, locals := 45 }
abbrev gX4_countAutomorphisms (l : Launch) (D : va_G) (ck : Nat → ClassId) (ad : Nat → Nat) (sh : List Shp) := Go l D ck ad sh RX4 cX4_countAutomorphisms 5 rmX4_countAutomorphisms
abbrev eX4_countAutomorphisms (l : Launch) (D : va_G) (ck : Nat → ClassId) (ad : Nat → Nat) (sh : List Shp) := Ev l D ck ad sh yX4_countAutomorphisms cX4_countAutomorphisms 5 (some .int) rmX4_countAutomorphisms
abbrev rmX4_keepsProducts : Room := { frames := 1, cells := 0, slots := 0, locals := 22 }
abbrev gX4_keepsProducts (l : Launch) (D : va_G) (ck : Nat → ClassId) (ad : Nat → Nat) (sh : List Shp) := Go l D ck ad sh RX4 cX4_keepsProducts 4 rmX4_keepsProducts
abbrev eX4_keepsProducts (l : Launch) (D : va_G) (ck : Nat → ClassId) (ad : Nat → Nat) (sh : List Shp) := Ev l D ck ad sh yX4_keepsProducts cX4_keepsProducts 4 (some .boolean) rmX4_keepsProducts
abbrev rmX5_init : Room := { frames := 1, cells := 0, slots := 0, locals := 12 }
abbrev gX5_init (l : Launch) (D : va_G) (ck : Nat → ClassId) (ad : Nat → Nat) (sh : List Shp) := Go l D ck ad sh RX5 cX5_init 1 rmX5_init
abbrev eX5_init (l : Launch) (D : va_G) (ck : Nat → ClassId) (ad : Nat → Nat) (sh : List Shp) := Ev l D ck ad sh yX5_init cX5_init 1 none rmX5_init
abbrev rmX5_has : Room := { frames := 0, cells := 0, slots := 0, locals := 0 }
abbrev gX5_has (l : Launch) (D : va_G) (ck : Nat → ClassId) (ad : Nat → Nat) (sh : List Shp) := Go l D ck ad sh RX5 cX5_has 2 rmX5_has
abbrev eX5_has (l : Launch) (D : va_G) (ck : Nat → ClassId) (ad : Nat → Nat) (sh : List Shp) := Ev l D ck ad sh yX5_has cX5_has 2 (some .boolean) rmX5_has
abbrev rmX5_times : Room := { frames := 0, cells := 0, slots := 0, locals := 0 }
abbrev gX5_times (l : Launch) (D : va_G) (ck : Nat → ClassId) (ad : Nat → Nat) (sh : List Shp) := Go l D ck ad sh RX5 cX5_times 3 rmX5_times
abbrev eX5_times (l : Launch) (D : va_G) (ck : Nat → ClassId) (ad : Nat → Nat) (sh : List Shp) := Ev l D ck ad sh yX5_times cX5_times 3 (some .int) rmX5_times
abbrev rmX5_put : Room := { frames := 0, cells := 0, slots := 0, locals := 0 }
abbrev gX5_put (l : Launch) (D : va_G) (ck : Nat → ClassId) (ad : Nat → Nat) (sh : List Shp) := Go l D ck ad sh RX5 cX5_put 4 rmX5_put
abbrev eX5_put (l : Launch) (D : va_G) (ck : Nat → ClassId) (ad : Nat → Nat) (sh : List Shp) := Ev l D ck ad sh yX5_put cX5_put 4 none rmX5_put
abbrev rmX5_copyFrom : Room := { frames := 1, cells := 0, slots := 0, locals := 26 }
abbrev gX5_copyFrom (l : Launch) (D : va_G) (ck : Nat → ClassId) (ad : Nat → Nat) (sh : List Shp) := Go l D ck ad sh RX5 cX5_copyFrom 2 rmX5_copyFrom
abbrev eX5_copyFrom (l : Launch) (D : va_G) (ck : Nat → ClassId) (ad : Nat → Nat) (sh : List Shp) := Ev l D ck ad sh yX5_copyFrom cX5_copyFrom 2 none rmX5_copyFrom
abbrev rmX5_fillLinear : Room := { frames := 1, cells := 0, slots := 0, locals := 23 }
abbrev gX5_fillLinear (l : Launch) (D : va_G) (ck : Nat → ClassId) (ad : Nat → Nat) (sh : List Shp) := Go l D ck ad sh RX5 cX5_fillLinear 5 rmX5_fillLinear
abbrev eX5_fillLinear (l : Launch) (D : va_G) (ck : Nat → ClassId) (ad : Nat → Nat) (sh : List Shp) := Ev l D ck ad sh yX5_fillLinear cX5_fillLinear 5 none rmX5_fillLinear
abbrev rmX5_fillTranspositions : Room := { frames := 2, cells := 0, slots := 0, locals := 51 }
abbrev gX5_fillTranspositions (l : Launch) (D : va_G) (ck : Nat → ClassId) (ad : Nat → Nat) (sh : List Shp) := Go l D ck ad sh RX5 cX5_fillTranspositions 4 rmX5_fillTranspositions
abbrev eX5_fillTranspositions (l : Launch) (D : va_G) (ck : Nat → ClassId) (ad : Nat → Nat) (sh : List Shp) := Ev l D ck ad sh yX5_fillTranspositions cX5_fillTranspositions 4 none rmX5_fillTranspositions
abbrev rmX5_fillTranslation : Room := { frames := 1, cells := 0, slots := 0, locals := 23 }
abbrev gX5_fillTranslation (l : Launch) (D : va_G) (ck : Nat → ClassId) (ad : Nat → Nat) (sh : List Shp) := Go l D ck ad sh RX5 cX5_fillTranslation 9 rmX5_fillTranslation
abbrev eX5_fillTranslation (l : Launch) (D : va_G) (ck : Nat → ClassId) (ad : Nat → Nat) (sh : List Shp) := Ev l D ck ad sh yX5_fillTranslation cX5_fillTranslation 9 none rmX5_fillTranslation
abbrev rmX5_pairNumber : Room := { frames := 0, cells := 0, slots := 0, locals := 0 }
abbrev gX5_pairNumber (l : Launch) (D : va_G) (ck : Nat → ClassId) (ad : Nat → Nat) (sh : List Shp) := Go l D ck ad sh RX5 cX5_pairNumber 3 rmX5_pairNumber
abbrev eX5_pairNumber (l : Launch) (D : va_G) (ck : Nat → ClassId) (ad : Nat → Nat) (sh : List Shp) := Ev l D ck ad sh yX5_pairNumber cX5_pairNumber 3 (some .int) rmX5_pairNumber
abbrev rmX5_swapped : Room := { frames := 0, cells := 0, slots := 0, locals := 0 }
abbrev gX5_swapped (l : Launch) (D : va_G) (ck : Nat → ClassId) (ad : Nat → Nat) (sh : List Shp) := Go l D ck ad sh RX5 cX5_swapped 3 rmX5_swapped
abbrev eX5_swapped (l : Launch) (D : va_G) (ck : Nat → ClassId) (ad : Nat → Nat) (sh : List Shp) := Ev l D ck ad sh yX5_swapped cX5_swapped 3 (some .int) rmX5_swapped
abbrev rmX5_fillInverse : Room := { frames := 2, cells := 0, slots := 0, locals := 45 }
abbrev gX5_fillInverse (l : Launch) (D : va_G) (ck : Nat → ClassId) (ad : Nat → Nat) (sh : List Shp) := Go l D ck ad sh RX5 cX5_fillInverse 6 rmX5_fillInverse
abbrev eX5_fillInverse (l : Launch) (D : va_G) (ck : Nat → ClassId) (ad : Nat → Nat) (sh : List Shp) := Ev l D ck ad sh yX5_fillInverse cX5_fillInverse 6 (some .int) rmX5_fillInverse
abbrev rmX5_lowestFactor : Room := { frames := 1, cells := 0, slots := 0, locals := 22 }
abbrev gX5_lowestFactor (l : Launch) (D : va_G) (ck : Nat → ClassId) (ad : Nat → Nat) (sh : List Shp) := Go l D ck ad sh RX5 cX5_lowestFactor 4 rmX5_lowestFactor
abbrev eX5_lowestFactor (l : Launch) (D : va_G) (ck : Nat → ClassId) (ad : Nat → Nat) (sh : List Shp) := Ev l D ck ad sh yX5_lowestFactor cX5_lowestFactor 4 (some .int) rmX5_lowestFactor
abbrev rmX5_firstNotIdempotent : Room := { frames := 1, cells := 0, slots := 0, locals := 22 }
abbrev gX5_firstNotIdempotent (l : Launch) (D : va_G) (ck : Nat → ClassId) (ad : Nat → Nat) (sh : List Shp) := Go l D ck ad sh RX5 cX5_firstNotIdempotent 2 rmX5_firstNotIdempotent
abbrev eX5_firstNotIdempotent (l : Launch) (D : va_G) (ck : Nat → ClassId) (ad : Nat → Nat) (sh : List Shp) := Ev l D ck ad sh yX5_firstNotIdempotent cX5_firstNotIdempotent 2 (some .int) rmX5_firstNotIdempotent
abbrev rmX5_firstNoPermutation : Room := { frames := 2, cells := 0, slots := 0, locals := 45 }
abbrev gX5_firstNoPermutation (l : Launch) (D : va_G) (ck : Nat → ClassId) (ad : Nat → Nat) (sh : List Shp) := Go l D ck ad sh RX5 cX5_firstNoPermutation 2 rmX5_firstNoPermutation
abbrev eX5_firstNoPermutation (l : Launch) (D : va_G) (ck : Nat → ClassId) (ad : Nat → Nat) (sh : List Shp) := Ev l D ck ad sh yX5_firstNoPermutation cX5_firstNoPermutation 2 (some .int) rmX5_firstNoPermutation
abbrev rmX5_isPermutation : Room := { frames := 1, cells := 0, slots := 0, locals := 22 }
abbrev gX5_isPermutation (l : Launch) (D : va_G) (ck : Nat → ClassId) (ad : Nat → Nat) (sh : List Shp) := Go l D ck ad sh RX5 cX5_isPermutation 4 rmX5_isPermutation
abbrev eX5_isPermutation (l : Launch) (D : va_G) (ck : Nat → ClassId) (ad : Nat → Nat) (sh : List Shp) := Ev l D ck ad sh yX5_isPermutation cX5_isPermutation 4 (some .boolean) rmX5_isPermutation
abbrev rmX5_firstNotDistributive : Room := { frames := 1, cells := 0, slots := 0, locals := 22 }
abbrev gX5_firstNotDistributive (l : Launch) (D : va_G) (ck : Nat → ClassId) (ad : Nat → Nat) (sh : List Shp) := Go l D ck ad sh RX5 cX5_firstNotDistributive 4 rmX5_firstNotDistributive
abbrev eX5_firstNotDistributive (l : Launch) (D : va_G) (ck : Nat → ClassId) (ad : Nat → Nat) (sh : List Shp) := Ev l D ck ad sh yX5_firstNotDistributive cX5_firstNotDistributive 4 (some .int) rmX5_firstNotDistributive
abbrev rmX5_allElements : Room := { frames := 0, cells := 0, slots := 0, locals := 0 }
abbrev gX5_allElements (l : Launch) (D : va_G) (ck : Nat → ClassId) (ad : Nat → Nat) (sh : List Shp) := Go l D ck ad sh RX5 cX5_allElements 1 rmX5_allElements
abbrev eX5_allElements (l : Launch) (D : va_G) (ck : Nat → ClassId) (ad : Nat → Nat) (sh : List Shp) := Ev l D ck ad sh yX5_allElements cX5_allElements 1 (some .int) rmX5_allElements
abbrev rmX5_reachedFrom : Room := { frames := 1, cells := 0, slots := 0, locals := 22 }
abbrev gX5_reachedFrom (l : Launch) (D : va_G) (ck : Nat → ClassId) (ad : Nat → Nat) (sh : List Shp) := Go l D ck ad sh RX5 cX5_reachedFrom 6 rmX5_reachedFrom
abbrev eX5_reachedFrom (l : Launch) (D : va_G) (ck : Nat → ClassId) (ad : Nat → Nat) (sh : List Shp) := Ev l D ck ad sh yX5_reachedFrom cX5_reachedFrom 6 (some .int) rmX5_reachedFrom
abbrev rmX5_countComponents : Room := { frames := 2, cells := 0, slots := 0, locals := 48 }
abbrev gX5_countComponents (l : Launch) (D : va_G) (ck : Nat → ClassId) (ad : Nat → Nat) (sh : List Shp) := Go l D ck ad sh RX5 cX5_countComponents 4 rmX5_countComponents
abbrev eX5_countComponents (l : Launch) (D : va_G) (ck : Nat → ClassId) (ad : Nat → Nat) (sh : List Shp) := Ev l D ck ad sh yX5_countComponents cX5_countComponents 4 (some .int) rmX5_countComponents
abbrev rmX5_componentOf : Room := { frames := 1, cells := 0, slots := 0, locals := 22 }
abbrev gX5_componentOf (l : Launch) (D : va_G) (ck : Nat → ClassId) (ad : Nat → Nat) (sh : List Shp) := Go l D ck ad sh RX5 cX5_componentOf 7 rmX5_componentOf
abbrev eX5_componentOf (l : Launch) (D : va_G) (ck : Nat → ClassId) (ad : Nat → Nat) (sh : List Shp) := Ev l D ck ad sh yX5_componentOf cX5_componentOf 7 (some .int) rmX5_componentOf
abbrev rmX5_closureOf : Room := { frames := 1, cells := 0, slots := 0, locals := 22 }
abbrev gX5_closureOf (l : Launch) (D : va_G) (ck : Nat → ClassId) (ad : Nat → Nat) (sh : List Shp) := Go l D ck ad sh RX5 cX5_closureOf 6 rmX5_closureOf
abbrev eX5_closureOf (l : Launch) (D : va_G) (ck : Nat → ClassId) (ad : Nat → Nat) (sh : List Shp) := Ev l D ck ad sh yX5_closureOf cX5_closureOf 6 (some .int) rmX5_closureOf
abbrev rmX5_leastGenerators : Room := { frames := 2, cells := 0, slots := 0, locals := 47 }
abbrev gX5_leastGenerators (l : Launch) (D : va_G) (ck : Nat → ClassId) (ad : Nat → Nat) (sh : List Shp) := Go l D ck ad sh RX5 cX5_leastGenerators 3 rmX5_leastGenerators
abbrev eX5_leastGenerators (l : Launch) (D : va_G) (ck : Nat → ClassId) (ad : Nat → Nat) (sh : List Shp) := Ev l D ck ad sh yX5_leastGenerators cX5_leastGenerators 3 (some .int) rmX5_leastGenerators
abbrev rmX5_orderOfTranslation : Room := { frames := 2, cells := 0, slots := 0, locals := 47 }
abbrev gX5_orderOfTranslation (l : Launch) (D : va_G) (ck : Nat → ClassId) (ad : Nat → Nat) (sh : List Shp) := Go l D ck ad sh RX5 cX5_orderOfTranslation 3 rmX5_orderOfTranslation
abbrev eX5_orderOfTranslation (l : Launch) (D : va_G) (ck : Nat → ClassId) (ad : Nat → Nat) (sh : List Shp) := Ev l D ck ad sh yX5_orderOfTranslation cX5_orderOfTranslation 3 (some .int) rmX5_orderOfTranslation
abbrev rmX5_isIdentityAfter : Room := { frames := 1, cells := 0, slots := 0, locals := 22 }
abbrev gX5_isIdentityAfter (l : Launch) (D : va_G) (ck : Nat → ClassId) (ad : Nat → Nat) (sh : List Shp) := Go l D ck ad sh RX5 cX5_isIdentityAfter 6 rmX5_isIdentityAfter
abbrev eX5_isIdentityAfter (l : Launch) (D : va_G) (ck : Nat → ClassId) (ad : Nat → Nat) (sh : List Shp) := Ev l D ck ad sh yX5_isIdentityAfter cX5_isIdentityAfter 6 (some .boolean) rmX5_isIdentityAfter
abbrev rmX5_countTranslations : Room := { frames := 3, cells := 0, slots := 0, locals := 67 }
abbrev gX5_countTranslations (l : Launch) (D : va_G) (ck : Nat → ClassId) (ad : Nat → Nat) (sh : List Shp) := Go l D ck ad sh RX5 cX5_countTranslations 3 rmX5_countTranslations
abbrev eX5_countTranslations (l : Launch) (D : va_G) (ck : Nat → ClassId) (ad : Nat → Nat) (sh : List Shp) := Ev l D ck ad sh yX5_countTranslations cX5_countTranslations 3 (some .int) rmX5_countTranslations
abbrev rmX5_isNewTranslation : Room := { frames := 2, cells := 0, slots := 0, locals := 45 }
abbrev gX5_isNewTranslation (l : Launch) (D : va_G) (ck : Nat → ClassId) (ad : Nat → Nat) (sh : List Shp) := Go l D ck ad sh RX5 cX5_isNewTranslation 3 rmX5_isNewTranslation
abbrev eX5_isNewTranslation (l : Launch) (D : va_G) (ck : Nat → ClassId) (ad : Nat → Nat) (sh : List Shp) := Ev l D ck ad sh yX5_isNewTranslation cX5_isNewTranslation 3 (some .boolean) rmX5_isNewTranslation
abbrev rmX5_sameTranslation : Room := { frames := 1, cells := 0, slots := 0, locals := 22 }
abbrev gX5_sameTranslation (l : Launch) (D : va_G) (ck : Nat → ClassId) (ad : Nat → Nat) (sh : List Shp) := Go l D ck ad sh RX5 cX5_sameTranslation 4 rmX5_sameTranslation
abbrev eX5_sameTranslation (l : Launch) (D : va_G) (ck : Nat → ClassId) (ad : Nat → Nat) (sh : List Shp) := Ev l D ck ad sh yX5_sameTranslation cX5_sameTranslation 4 (some .boolean) rmX5_sameTranslation
abbrev rmX6_init : Room := { frames := 3, cells := 0, slots := 0, locals := 53 }
abbrev gX6_init (l : Launch) (D : va_G) (ck : Nat → ClassId) (ad : Nat → Nat) (sh : List Shp) := Go l D ck ad sh RX6 cX6_init 1 rmX6_init
abbrev eX6_init (l : Launch) (D : va_G) (ck : Nat → ClassId) (ad : Nat → Nat) (sh : List Shp) := Ev l D ck ad sh yX6_init cX6_init 1 none rmX6_init
abbrev rmX6_trivial : Room := { frames := 5, cells := 0, slots := 0, locals := 112 }
abbrev gX6_trivial (l : Launch) (D : va_G) (ck : Nat → ClassId) (ad : Nat → Nat) (sh : List Shp) := Go l D ck ad sh RX6 cX6_trivial 2 rmX6_trivial
abbrev eX6_trivial (l : Launch) (D : va_G) (ck : Nat → ClassId) (ad : Nat → Nat) (sh : List Shp) := Ev l D ck ad sh yX6_trivial cX6_trivial 2 (some .int) rmX6_trivial
abbrev rmX6_dihedral : Room := { frames := 5, cells := 0, slots := 0, locals := 112 }
abbrev gX6_dihedral (l : Launch) (D : va_G) (ck : Nat → ClassId) (ad : Nat → Nat) (sh : List Shp) := Go l D ck ad sh RX6 cX6_dihedral 2 rmX6_dihedral
abbrev eX6_dihedral (l : Launch) (D : va_G) (ck : Nat → ClassId) (ad : Nat → Nat) (sh : List Shp) := Ev l D ck ad sh yX6_dihedral cX6_dihedral 2 (some .int) rmX6_dihedral
abbrev rmX6_linear : Room := { frames := 5, cells := 0, slots := 0, locals := 112 }
abbrev gX6_linear (l : Launch) (D : va_G) (ck : Nat → ClassId) (ad : Nat → Nat) (sh : List Shp) := Go l D ck ad sh RX6 cX6_linear 3 rmX6_linear
abbrev eX6_linear (l : Launch) (D : va_G) (ck : Nat → ClassId) (ad : Nat → Nat) (sh : List Shp) := Ev l D ck ad sh yX6_linear cX6_linear 3 (some .int) rmX6_linear
abbrev rmX6_transpositions : Room := { frames := 4, cells := 0, slots := 0, locals := 89 }
abbrev gX6_transpositions (l : Launch) (D : va_G) (ck : Nat → ClassId) (ad : Nat → Nat) (sh : List Shp) := Go l D ck ad sh RX6 cX6_transpositions 2 rmX6_transpositions
abbrev eX6_transpositions (l : Launch) (D : va_G) (ck : Nat → ClassId) (ad : Nat → Nat) (sh : List Shp) := Ev l D ck ad sh yX6_transpositions cX6_transpositions 2 (some .int) rmX6_transpositions
abbrev rmX6_setProduct : Room := { frames := 4, cells := 0, slots := 0, locals := 89 }
abbrev gX6_setProduct (l : Launch) (D : va_G) (ck : Nat → ClassId) (ad : Nat → Nat) (sh : List Shp) := Go l D ck ad sh RX6 cX6_setProduct 5 rmX6_setProduct
abbrev eX6_setProduct (l : Launch) (D : va_G) (ck : Nat → ClassId) (ad : Nat → Nat) (sh : List Shp) := Ev l D ck ad sh yX6_setProduct cX6_setProduct 5 (some .int) rmX6_setProduct
abbrev rmX6_invert : Room := { frames := 4, cells := 0, slots := 0, locals := 89 }
abbrev gX6_invert (l : Launch) (D : va_G) (ck : Nat → ClassId) (ad : Nat → Nat) (sh : List Shp) := Go l D ck ad sh RX6 cX6_invert 1 rmX6_invert
abbrev eX6_invert (l : Launch) (D : va_G) (ck : Nat → ClassId) (ad : Nat → Nat) (sh : List Shp) := Ev l D ck ad sh yX6_invert cX6_invert 1 (some .int) rmX6_invert
abbrev rmX6_size : Room := { frames := 0, cells := 0, slots := 0, locals := 0 }
abbrev gX6_size (l : Launch) (D : va_G) (ck : Nat → ClassId) (ad : Nat → Nat) (sh : List Shp) := Go l D ck ad sh RX6 cX6_size 1 rmX6_size
abbrev eX6_size (l : Launch) (D : va_G) (ck : Nat → ClassId) (ad : Nat → Nat) (sh : List Shp) := Ev l D ck ad sh yX6_size cX6_size 1 (some .int) rmX6_size
abbrev rmX6_product : Room := { frames := 1, cells := 0, slots := 0, locals := 22 }
abbrev gX6_product (l : Launch) (D : va_G) (ck : Nat → ClassId) (ad : Nat → Nat) (sh : List Shp) := Go l D ck ad sh RX6 cX6_product 3 rmX6_product
abbrev eX6_product (l : Launch) (D : va_G) (ck : Nat → ClassId) (ad : Nat → Nat) (sh : List Shp) := Ev l D ck ad sh yX6_product cX6_product 3 (some .int) rmX6_product
abbrev rmX6_quotient : Room := { frames := 2, cells := 0, slots := 0, locals := 45 }
abbrev gX6_quotient (l : Launch) (D : va_G) (ck : Nat → ClassId) (ad : Nat → Nat) (sh : List Shp) := Go l D ck ad sh RX6 cX6_quotient 3 rmX6_quotient
abbrev eX6_quotient (l : Launch) (D : va_G) (ck : Nat → ClassId) (ad : Nat → Nat) (sh : List Shp) := Ev l D ck ad sh yX6_quotient cX6_quotient 3 (some .int) rmX6_quotient
abbrev rmX6_violation : Room := { frames := 3, cells := 0, slots := 0, locals := 66 }
abbrev gX6_violation (l : Launch) (D : va_G) (ck : Nat → ClassId) (ad : Nat → Nat) (sh : List Shp) := Go l D ck ad sh RX6 cX6_violation 2 rmX6_violation
abbrev eX6_violation (l : Launch) (D : va_G) (ck : Nat → ClassId) (ad : Nat → Nat) (sh : List Shp) := Ev l D ck ad sh yX6_violation cX6_violation 2 (some .int) rmX6_violation
abbrev rmX6_reach : Room := { frames := 2, cells := 0, slots := 0, locals := 47 }
abbrev gX6_reach (l : Launch) (D : va_G) (ck : Nat → ClassId) (ad : Nat → Nat) (sh : List Shp) := Go l D ck ad sh RX6 cX6_reach 2 rmX6_reach
abbrev eX6_reach (l : Launch) (D : va_G) (ck : Nat → ClassId) (ad : Nat → Nat) (sh : List Shp) := Ev l D ck ad sh yX6_reach cX6_reach 2 (some .int) rmX6_reach
abbrev rmX6_tableComponents : Room := { frames := 3, cells := 0, slots := 0, locals := 71 }
abbrev gX6_tableComponents (l : Launch) (D : va_G) (ck : Nat → ClassId) (ad : Nat → Nat) (sh : List Shp) := Go l D ck ad sh RX6 cX6_tableComponents 1 rmX6_tableComponents
abbrev eX6_tableComponents (l : Launch) (D : va_G) (ck : Nat → ClassId) (ad : Nat → Nat) (sh : List Shp) := Ev l D ck ad sh yX6_tableComponents cX6_tableComponents 1 (some .int) rmX6_tableComponents
abbrev rmX6_closure : Room := { frames := 2, cells := 0, slots := 0, locals := 47 }
abbrev gX6_closure (l : Launch) (D : va_G) (ck : Nat → ClassId) (ad : Nat → Nat) (sh : List Shp) := Go l D ck ad sh RX6 cX6_closure 2 rmX6_closure
abbrev eX6_closure (l : Launch) (D : va_G) (ck : Nat → ClassId) (ad : Nat → Nat) (sh : List Shp) := Ev l D ck ad sh yX6_closure cX6_closure 2 (some .int) rmX6_closure
abbrev rmX6_generators : Room := { frames := 3, cells := 0, slots := 0, locals := 69 }
abbrev gX6_generators (l : Launch) (D : va_G) (ck : Nat → ClassId) (ad : Nat → Nat) (sh : List Shp) := Go l D ck ad sh RX6 cX6_generators 1 rmX6_generators
abbrev eX6_generators (l : Launch) (D : va_G) (ck : Nat → ClassId) (ad : Nat → Nat) (sh : List Shp) := Ev l D ck ad sh yX6_generators cX6_generators 1 (some .int) rmX6_generators
abbrev rmX6_translationOrder : Room := { frames := 3, cells := 0, slots := 0, locals := 69 }
abbrev gX6_translationOrder (l : Launch) (D : va_G) (ck : Nat → ClassId) (ad : Nat → Nat) (sh : List Shp) := Go l D ck ad sh RX6 cX6_translationOrder 2 rmX6_translationOrder
abbrev eX6_translationOrder (l : Launch) (D : va_G) (ck : Nat → ClassId) (ad : Nat → Nat) (sh : List Shp) := Ev l D ck ad sh yX6_translationOrder cX6_translationOrder 2 (some .int) rmX6_translationOrder
abbrev rmX6_translations : Room := { frames := 4, cells := 0, slots := 0, locals := 89 }
abbrev gX6_translations (l : Launch) (D : va_G) (ck : Nat → ClassId) (ad : Nat → Nat) (sh : List Shp) := Go l D ck ad sh RX6 cX6_translations 1 rmX6_translations
abbrev eX6_translations (l : Launch) (D : va_G) (ck : Nat → ClassId) (ad : Nat → Nat) (sh : List Shp) := Ev l D ck ad sh yX6_translations cX6_translations 1 (some .int) rmX6_translations
abbrev rmX6_innerGroup : Room := { frames := 3, cells := 0, slots := 0, locals := 73 }
abbrev gX6_innerGroup (l : Launch) (D : va_G) (ck : Nat → ClassId) (ad : Nat → Nat) (sh : List Shp) := Go l D ck ad sh RX6 cX6_innerGroup 1 rmX6_innerGroup
abbrev eX6_innerGroup (l : Launch) (D : va_G) (ck : Nat → ClassId) (ad : Nat → Nat) (sh : List Shp) := Ev l D ck ad sh yX6_innerGroup cX6_innerGroup 1 (some .int) rmX6_innerGroup
abbrev rmX6_automorphisms : Room := { frames := 3, cells := 0, slots := 0, locals := 69 }
abbrev gX6_automorphisms (l : Launch) (D : va_G) (ck : Nat → ClassId) (ad : Nat → Nat) (sh : List Shp) := Go l D ck ad sh RX6 cX6_automorphisms 1 rmX6_automorphisms
abbrev eX6_automorphisms (l : Launch) (D : va_G) (ck : Nat → ClassId) (ad : Nat → Nat) (sh : List Shp) := Ev l D ck ad sh yX6_automorphisms cX6_automorphisms 1 (some .int) rmX6_automorphisms
abbrev rmX6_newDiagram : Room := { frames := 4, cells := 0, slots := 0, locals := 89 }
abbrev gX6_newDiagram (l : Launch) (D : va_G) (ck : Nat → ClassId) (ad : Nat → Nat) (sh : List Shp) := Go l D ck ad sh RX6 cX6_newDiagram 3 rmX6_newDiagram
abbrev eX6_newDiagram (l : Launch) (D : va_G) (ck : Nat → ClassId) (ad : Nat → Nat) (sh : List Shp) := Ev l D ck ad sh yX6_newDiagram cX6_newDiagram 3 (some .int) rmX6_newDiagram
abbrev rmX6_standard : Room := { frames := 4, cells := 0, slots := 0, locals := 89 }
abbrev gX6_standard (l : Launch) (D : va_G) (ck : Nat → ClassId) (ad : Nat → Nat) (sh : List Shp) := Go l D ck ad sh RX6 cX6_standard 4 rmX6_standard
abbrev eX6_standard (l : Launch) (D : va_G) (ck : Nat → ClassId) (ad : Nat → Nat) (sh : List Shp) := Ev l D ck ad sh yX6_standard cX6_standard 4 (some .int) rmX6_standard
abbrev rmX6_addCrossing : Room := { frames := 4, cells := 0, slots := 0, locals := 89 }
abbrev gX6_addCrossing (l : Launch) (D : va_G) (ck : Nat → ClassId) (ad : Nat → Nat) (sh : List Shp) := Go l D ck ad sh RX6 cX6_addCrossing 5 rmX6_addCrossing
abbrev eX6_addCrossing (l : Launch) (D : va_G) (ck : Nat → ClassId) (ad : Nat → Nat) (sh : List Shp) := Ev l D ck ad sh yX6_addCrossing cX6_addCrossing 5 (some .int) rmX6_addCrossing
abbrev rmX6_removeCrossing : Room := { frames := 4, cells := 0, slots := 0, locals := 89 }
abbrev gX6_removeCrossing (l : Launch) (D : va_G) (ck : Nat → ClassId) (ad : Nat → Nat) (sh : List Shp) := Go l D ck ad sh RX6 cX6_removeCrossing 2 rmX6_removeCrossing
abbrev eX6_removeCrossing (l : Launch) (D : va_G) (ck : Nat → ClassId) (ad : Nat → Nat) (sh : List Shp) := Ev l D ck ad sh yX6_removeCrossing cX6_removeCrossing 2 (some .int) rmX6_removeCrossing
abbrev rmX6_kink : Room := { frames := 4, cells := 0, slots := 0, locals := 89 }
abbrev gX6_kink (l : Launch) (D : va_G) (ck : Nat → ClassId) (ad : Nat → Nat) (sh : List Shp) := Go l D ck ad sh RX6 cX6_kink 4 rmX6_kink
abbrev eX6_kink (l : Launch) (D : va_G) (ck : Nat → ClassId) (ad : Nat → Nat) (sh : List Shp) := Ev l D ck ad sh yX6_kink cX6_kink 4 (some .int) rmX6_kink
abbrev rmX6_poke : Room := { frames := 4, cells := 0, slots := 0, locals := 89 }
abbrev gX6_poke (l : Launch) (D : va_G) (ck : Nat → ClassId) (ad : Nat → Nat) (sh : List Shp) := Go l D ck ad sh RX6 cX6_poke 5 rmX6_poke
abbrev eX6_poke (l : Launch) (D : va_G) (ck : Nat → ClassId) (ad : Nat → Nat) (sh : List Shp) := Ev l D ck ad sh yX6_poke cX6_poke 5 (some .int) rmX6_poke
abbrev rmX6_arcs : Room := { frames := 0, cells := 0, slots := 0, locals := 0 }
abbrev gX6_arcs (l : Launch) (D : va_G) (ck : Nat → ClassId) (ad : Nat → Nat) (sh : List Shp) := Go l D ck ad sh RX6 cX6_arcs 1 rmX6_arcs
abbrev eX6_arcs (l : Launch) (D : va_G) (ck : Nat → ClassId) (ad : Nat → Nat) (sh : List Shp) := Ev l D ck ad sh yX6_arcs cX6_arcs 1 (some .int) rmX6_arcs
abbrev rmX6_crossings : Room := { frames := 0, cells := 0, slots := 0, locals := 0 }
abbrev gX6_crossings (l : Launch) (D : va_G) (ck : Nat → ClassId) (ad : Nat → Nat) (sh : List Shp) := Go l D ck ad sh RX6 cX6_crossings 1 rmX6_crossings
abbrev eX6_crossings (l : Launch) (D : va_G) (ck : Nat → ClassId) (ad : Nat → Nat) (sh : List Shp) := Ev l D ck ad sh yX6_crossings cX6_crossings 1 (some .int) rmX6_crossings
abbrev rmX6_crossing : Room := { frames := 1, cells := 0, slots := 0, locals := 22 }
abbrev gX6_crossing (l : Launch) (D : va_G) (ck : Nat → ClassId) (ad : Nat → Nat) (sh : List Shp) := Go l D ck ad sh RX6 cX6_crossing 3 rmX6_crossing
abbrev eX6_crossing (l : Launch) (D : va_G) (ck : Nat → ClassId) (ad : Nat → Nat) (sh : List Shp) := Ev l D ck ad sh yX6_crossing cX6_crossing 3 (some .int) rmX6_crossing
abbrev rmX6_components : Room := { frames := 3, cells := 0, slots := 0, locals := 70 }
abbrev gX6_components (l : Launch) (D : va_G) (ck : Nat → ClassId) (ad : Nat → Nat) (sh : List Shp) := Go l D ck ad sh RX6 cX6_components 1 rmX6_components
abbrev eX6_components (l : Launch) (D : va_G) (ck : Nat → ClassId) (ad : Nat → Nat) (sh : List Shp) := Ev l D ck ad sh yX6_components cX6_components 1 (some .int) rmX6_components
abbrev rmX6_writhe : Room := { frames := 2, cells := 0, slots := 0, locals := 44 }
abbrev gX6_writhe (l : Launch) (D : va_G) (ck : Nat → ClassId) (ad : Nat → Nat) (sh : List Shp) := Go l D ck ad sh RX6 cX6_writhe 1 rmX6_writhe
abbrev eX6_writhe (l : Launch) (D : va_G) (ck : Nat → ClassId) (ad : Nat → Nat) (sh : List Shp) := Ev l D ck ad sh yX6_writhe cX6_writhe 1 (some .int) rmX6_writhe
abbrev rmX6_linking : Room := { frames := 3, cells := 0, slots := 0, locals := 73 }
abbrev gX6_linking (l : Launch) (D : va_G) (ck : Nat → ClassId) (ad : Nat → Nat) (sh : List Shp) := Go l D ck ad sh RX6 cX6_linking 3 rmX6_linking
abbrev eX6_linking (l : Launch) (D : va_G) (ck : Nat → ClassId) (ad : Nat → Nat) (sh : List Shp) := Ev l D ck ad sh yX6_linking cX6_linking 3 (some .int) rmX6_linking
abbrev rmX6_colourings : Room := { frames := 5, cells := 0, slots := 0, locals := 109 }
abbrev gX6_colourings (l : Launch) (D : va_G) (ck : Nat → ClassId) (ad : Nat → Nat) (sh : List Shp) := Go l D ck ad sh RX6 cX6_colourings 1 rmX6_colourings
abbrev eX6_colourings (l : Launch) (D : va_G) (ck : Nat → ClassId) (ad : Nat → Nat) (sh : List Shp) := Ev l D ck ad sh yX6_colourings cX6_colourings 1 (some .int) rmX6_colourings
abbrev rmX6_colouringsWith : Room := { frames := 5, cells := 0, slots := 0, locals := 112 }
abbrev gX6_colouringsWith (l : Launch) (D : va_G) (ck : Nat → ClassId) (ad : Nat → Nat) (sh : List Shp) := Go l D ck ad sh RX6 cX6_colouringsWith 3 rmX6_colouringsWith
abbrev eX6_colouringsWith (l : Launch) (D : va_G) (ck : Nat → ClassId) (ad : Nat → Nat) (sh : List Shp) := Ev l D ck ad sh yX6_colouringsWith cX6_colouringsWith 3 (some .int) rmX6_colouringsWith
abbrev rmX6_colouringsAlike : Room := { frames := 5, cells := 0, slots := 0, locals := 112 }
abbrev gX6_colouringsAlike (l : Launch) (D : va_G) (ck : Nat → ClassId) (ad : Nat → Nat) (sh : List Shp) := Go l D ck ad sh RX6 cX6_colouringsAlike 3 rmX6_colouringsAlike
abbrev eX6_colouringsAlike (l : Launch) (D : va_G) (ck : Nat → ClassId) (ad : Nat → Nat) (sh : List Shp) := Ev l D ck ad sh yX6_colouringsAlike cX6_colouringsAlike 3 (some .int) rmX6_colouringsAlike
abbrev rmX6_colouringsUsing : Room := { frames := 5, cells := 0, slots := 0, locals := 109 }
abbrev gX6_colouringsUsing (l : Launch) (D : va_G) (ck : Nat → ClassId) (ad : Nat → Nat) (sh : List Shp) := Go l D ck ad sh RX6 cX6_colouringsUsing 2 rmX6_colouringsUsing
abbrev eX6_colouringsUsing (l : Launch) (D : va_G) (ck : Nat → ClassId) (ad : Nat → Nat) (sh : List Shp) := Ev l D ck ad sh yX6_colouringsUsing cX6_colouringsUsing 2 (some .int) rmX6_colouringsUsing
abbrev rmX6_colour : Room := { frames := 5, cells := 0, slots := 0, locals := 111 }
abbrev gX6_colour (l : Launch) (D : va_G) (ck : Nat → ClassId) (ad : Nat → Nat) (sh : List Shp) := Go l D ck ad sh RX6 cX6_colour 3 rmX6_colour
abbrev eX6_colour (l : Launch) (D : va_G) (ck : Nat → ClassId) (ad : Nat → Nat) (sh : List Shp) := Ev l D ck ad sh yX6_colour cX6_colour 3 (some .int) rmX6_colour
abbrev rmX6_type : Room := { frames := 1, cells := 0, slots := 0, locals := 21 }
abbrev gX6_type (l : Launch) (D : va_G) (ck : Nat → ClassId) (ad : Nat → Nat) (sh : List Shp) := Go l D ck ad sh RX6 cX6_type 2 rmX6_type
abbrev eX6_type (l : Launch) (D : va_G) (ck : Nat → ClassId) (ad : Nat → Nat) (sh : List Shp) := Ev l D ck ad sh yX6_type cX6_type 2 (some .int) rmX6_type
abbrev rmX6_clearText : Room := { frames := 1, cells := 0, slots := 0, locals := 20 }
abbrev gX6_clearText (l : Launch) (D : va_G) (ck : Nat → ClassId) (ad : Nat → Nat) (sh : List Shp) := Go l D ck ad sh RX6 cX6_clearText 2 rmX6_clearText
abbrev eX6_clearText (l : Launch) (D : va_G) (ck : Nat → ClassId) (ad : Nat → Nat) (sh : List Shp) := Ev l D ck ad sh yX6_clearText cX6_clearText 2 (some .int) rmX6_clearText
abbrev rmX6_syntaxError : Room := { frames := 2, cells := 0, slots := 0, locals := 43 }
abbrev gX6_syntaxError (l : Launch) (D : va_G) (ck : Nat → ClassId) (ad : Nat → Nat) (sh : List Shp) := Go l D ck ad sh RX6 cX6_syntaxError 1 rmX6_syntaxError
abbrev eX6_syntaxError (l : Launch) (D : va_G) (ck : Nat → ClassId) (ad : Nat → Nat) (sh : List Shp) := Ev l D ck ad sh yX6_syntaxError cX6_syntaxError 1 (some .int) rmX6_syntaxError
abbrev rmX6_read : Room := { frames := 4, cells := 0, slots := 0, locals := 89 }
abbrev gX6_read (l : Launch) (D : va_G) (ck : Nat → ClassId) (ad : Nat → Nat) (sh : List Shp) := Go l D ck ad sh RX6 cX6_read 1 rmX6_read
abbrev eX6_read (l : Launch) (D : va_G) (ck : Nat → ClassId) (ad : Nat → Nat) (sh : List Shp) := Ev l D ck ad sh yX6_read cX6_read 1 (some .int) rmX6_read
abbrev rmX6_undo : Room := { frames := 3, cells := 0, slots := 0, locals := 69 }
abbrev gX6_undo (l : Launch) (D : va_G) (ck : Nat → ClassId) (ad : Nat → Nat) (sh : List Shp) := Go l D ck ad sh RX6 cX6_undo 1 rmX6_undo
abbrev eX6_undo (l : Launch) (D : va_G) (ck : Nat → ClassId) (ad : Nat → Nat) (sh : List Shp) := Ev l D ck ad sh yX6_undo cX6_undo 1 (some .int) rmX6_undo
abbrev rmX6_digest : Room := { frames := 6, cells := 0, slots := 0, locals := 135 }
abbrev gX6_digest (l : Launch) (D : va_G) (ck : Nat → ClassId) (ad : Nat → Nat) (sh : List Shp) := Go l D ck ad sh RX6 cX6_digest 3 rmX6_digest
abbrev eX6_digest (l : Launch) (D : va_G) (ck : Nat → ClassId) (ad : Nat → Nat) (sh : List Shp) := Ev l D ck ad sh yX6_digest cX6_digest 3 (some .long) rmX6_digest
abbrev rmX6_isSize : Room := { frames := 0, cells := 0, slots := 0, locals := 0 }
abbrev gX6_isSize (l : Launch) (D : va_G) (ck : Nat → ClassId) (ad : Nat → Nat) (sh : List Shp) := Go l D ck ad sh RX6 cX6_isSize 1 rmX6_isSize
abbrev eX6_isSize (l : Launch) (D : va_G) (ck : Nat → ClassId) (ad : Nat → Nat) (sh : List Shp) := Ev l D ck ad sh yX6_isSize cX6_isSize 1 (some .boolean) rmX6_isSize
abbrev rmX6_makeLinear : Room := { frames := 4, cells := 0, slots := 0, locals := 89 }
abbrev gX6_makeLinear (l : Launch) (D : va_G) (ck : Nat → ClassId) (ad : Nat → Nat) (sh : List Shp) := Go l D ck ad sh RX6 cX6_makeLinear 4 rmX6_makeLinear
abbrev eX6_makeLinear (l : Launch) (D : va_G) (ck : Nat → ClassId) (ad : Nat → Nat) (sh : List Shp) := Ev l D ck ad sh yX6_makeLinear cX6_makeLinear 4 (some .int) rmX6_makeLinear
abbrev rmX6_saveState : Room := { frames := 3, cells := 0, slots := 0, locals := 69 }
abbrev gX6_saveState (l : Launch) (D : va_G) (ck : Nat → ClassId) (ad : Nat → Nat) (sh : List Shp) := Go l D ck ad sh RX6 cX6_saveState 1 rmX6_saveState
abbrev eX6_saveState (l : Launch) (D : va_G) (ck : Nat → ClassId) (ad : Nat → Nat) (sh : List Shp) := Ev l D ck ad sh yX6_saveState cX6_saveState 1 none rmX6_saveState
abbrev rmX6_hashTable : Room := { frames := 5, cells := 0, slots := 0, locals := 109 }
abbrev gX6_hashTable (l : Launch) (D : va_G) (ck : Nat → ClassId) (ad : Nat → Nat) (sh : List Shp) := Go l D ck ad sh RX6 cX6_hashTable 7 rmX6_hashTable
abbrev eX6_hashTable (l : Launch) (D : va_G) (ck : Nat → ClassId) (ad : Nat → Nat) (sh : List Shp) := Ev l D ck ad sh yX6_hashTable cX6_hashTable 7 (some .long) rmX6_hashTable
abbrev rmX6_hashDiagram : Room := { frames := 4, cells := 0, slots := 0, locals := 90 }
abbrev gX6_hashDiagram (l : Launch) (D : va_G) (ck : Nat → ClassId) (ad : Nat → Nat) (sh : List Shp) := Go l D ck ad sh RX6 cX6_hashDiagram 7 rmX6_hashDiagram
abbrev eX6_hashDiagram (l : Launch) (D : va_G) (ck : Nat → ClassId) (ad : Nat → Nat) (sh : List Shp) := Ev l D ck ad sh yX6_hashDiagram cX6_hashDiagram 7 (some .long) rmX6_hashDiagram
abbrev rmX6_hashColourings : Room := { frames := 5, cells := 0, slots := 0, locals := 109 }
abbrev gX6_hashColourings (l : Launch) (D : va_G) (ck : Nat → ClassId) (ad : Nat → Nat) (sh : List Shp) := Go l D ck ad sh RX6 cX6_hashColourings 6 rmX6_hashColourings
abbrev eX6_hashColourings (l : Launch) (D : va_G) (ck : Nat → ClassId) (ad : Nat → Nat) (sh : List Shp) := Ev l D ck ad sh yX6_hashColourings cX6_hashColourings 6 (some .long) rmX6_hashColourings
abbrev rmX6_mix : Room := { frames := 0, cells := 0, slots := 0, locals := 0 }
abbrev gX6_mix (l : Launch) (D : va_G) (ck : Nat → ClassId) (ad : Nat → Nat) (sh : List Shp) := Go l D ck ad sh RX6 cX6_mix 3 rmX6_mix
abbrev eX6_mix (l : Launch) (D : va_G) (ck : Nat → ClassId) (ad : Nat → Nat) (sh : List Shp) := Ev l D ck ad sh yX6_mix cX6_mix 3 (some .long) rmX6_mix
abbrev rmX7_init : Room := { frames := 1, cells := 0, slots := 0, locals := 12 }
abbrev gX7_init (l : Launch) (D : va_G) (ck : Nat → ClassId) (ad : Nat → Nat) (sh : List Shp) := Go l D ck ad sh RX7 cX7_init 1 rmX7_init
abbrev eX7_init (l : Launch) (D : va_G) (ck : Nat → ClassId) (ad : Nat → Nat) (sh : List Shp) := Ev l D ck ad sh yX7_init cX7_init 1 none rmX7_init
abbrev rmX7_within : Room := { frames := 0, cells := 0, slots := 0, locals := 0 }
abbrev gX7_within (l : Launch) (D : va_G) (ck : Nat → ClassId) (ad : Nat → Nat) (sh : List Shp) := Go l D ck ad sh RX7 cX7_within 3 rmX7_within
abbrev eX7_within (l : Launch) (D : va_G) (ck : Nat → ClassId) (ad : Nat → Nat) (sh : List Shp) := Ev l D ck ad sh yX7_within cX7_within 3 (some .boolean) rmX7_within
abbrev rmX7_bits : Room := { frames := 0, cells := 0, slots := 0, locals := 0 }
abbrev gX7_bits (l : Launch) (D : va_G) (ck : Nat → ClassId) (ad : Nat → Nat) (sh : List Shp) := Go l D ck ad sh RX7 cX7_bits 3 rmX7_bits
abbrev eX7_bits (l : Launch) (D : va_G) (ck : Nat → ClassId) (ad : Nat → Nat) (sh : List Shp) := Ev l D ck ad sh yX7_bits cX7_bits 3 (some .int) rmX7_bits
abbrev rmX7_record : Room := { frames := 0, cells := 0, slots := 0, locals := 0 }
abbrev gX7_record (l : Launch) (D : va_G) (ck : Nat → ClassId) (ad : Nat → Nat) (sh : List Shp) := Go l D ck ad sh RX7 cX7_record 2 rmX7_record
abbrev eX7_record (l : Launch) (D : va_G) (ck : Nat → ClassId) (ad : Nat → Nat) (sh : List Shp) := Ev l D ck ad sh yX7_record cX7_record 2 none rmX7_record
abbrev rmX7_isElement : Room := { frames := 1, cells := 0, slots := 0, locals := 22 }
abbrev gX7_isElement (l : Launch) (D : va_G) (ck : Nat → ClassId) (ad : Nat → Nat) (sh : List Shp) := Go l D ck ad sh RX7 cX7_isElement 2 rmX7_isElement
abbrev eX7_isElement (l : Launch) (D : va_G) (ck : Nat → ClassId) (ad : Nat → Nat) (sh : List Shp) := Ev l D ck ad sh yX7_isElement cX7_isElement 2 (some .boolean) rmX7_isElement
abbrev rmX7_times : Room := { frames := 0, cells := 0, slots := 0, locals := 0 }
abbrev gX7_times (l : Launch) (D : va_G) (ck : Nat → ClassId) (ad : Nat → Nat) (sh : List Shp) := Go l D ck ad sh RX7 cX7_times 3 rmX7_times
abbrev eX7_times (l : Launch) (D : va_G) (ck : Nat → ClassId) (ad : Nat → Nat) (sh : List Shp) := Ev l D ck ad sh yX7_times cX7_times 3 (some .int) rmX7_times
abbrev rmX7_setTimes : Room := { frames := 0, cells := 0, slots := 0, locals := 0 }
abbrev gX7_setTimes (l : Launch) (D : va_G) (ck : Nat → ClassId) (ad : Nat → Nat) (sh : List Shp) := Go l D ck ad sh RX7 cX7_setTimes 4 rmX7_setTimes
abbrev eX7_setTimes (l : Launch) (D : va_G) (ck : Nat → ClassId) (ad : Nat → Nat) (sh : List Shp) := Ev l D ck ad sh yX7_setTimes cX7_setTimes 4 none rmX7_setTimes
abbrev rmX7_makes : Room := { frames := 1, cells := 0, slots := 0, locals := 23 }
abbrev gX7_makes (l : Launch) (D : va_G) (ck : Nat → ClassId) (ad : Nat → Nat) (sh : List Shp) := Go l D ck ad sh RX7 cX7_makes 8 rmX7_makes
abbrev eX7_makes (l : Launch) (D : va_G) (ck : Nat → ClassId) (ad : Nat → Nat) (sh : List Shp) := Ev l D ck ad sh yX7_makes cX7_makes 8 (some .int) rmX7_makes
abbrev rmX7_makesTrivial : Room := { frames := 2, cells := 0, slots := 0, locals := 50 }
abbrev gX7_makesTrivial (l : Launch) (D : va_G) (ck : Nat → ClassId) (ad : Nat → Nat) (sh : List Shp) := Go l D ck ad sh RX7 cX7_makesTrivial 2 rmX7_makesTrivial
abbrev eX7_makesTrivial (l : Launch) (D : va_G) (ck : Nat → ClassId) (ad : Nat → Nat) (sh : List Shp) := Ev l D ck ad sh yX7_makesTrivial cX7_makesTrivial 2 (some .int) rmX7_makesTrivial
abbrev rmX7_trivial : Room := { frames := 3, cells := 0, slots := 0, locals := 71 }
abbrev gX7_trivial (l : Launch) (D : va_G) (ck : Nat → ClassId) (ad : Nat → Nat) (sh : List Shp) := Go l D ck ad sh RX7 cX7_trivial 2 rmX7_trivial
abbrev eX7_trivial (l : Launch) (D : va_G) (ck : Nat → ClassId) (ad : Nat → Nat) (sh : List Shp) := Ev l D ck ad sh yX7_trivial cX7_trivial 2 (some .int) rmX7_trivial
abbrev rmX7_dihedral : Room := { frames := 2, cells := 0, slots := 0, locals := 50 }
abbrev gX7_dihedral (l : Launch) (D : va_G) (ck : Nat → ClassId) (ad : Nat → Nat) (sh : List Shp) := Go l D ck ad sh RX7 cX7_dihedral 2 rmX7_dihedral
abbrev eX7_dihedral (l : Launch) (D : va_G) (ck : Nat → ClassId) (ad : Nat → Nat) (sh : List Shp) := Ev l D ck ad sh yX7_dihedral cX7_dihedral 2 (some .int) rmX7_dihedral
abbrev rmX7_linear : Room := { frames := 2, cells := 0, slots := 0, locals := 50 }
abbrev gX7_linear (l : Launch) (D : va_G) (ck : Nat → ClassId) (ad : Nat → Nat) (sh : List Shp) := Go l D ck ad sh RX7 cX7_linear 3 rmX7_linear
abbrev eX7_linear (l : Launch) (D : va_G) (ck : Nat → ClassId) (ad : Nat → Nat) (sh : List Shp) := Ev l D ck ad sh yX7_linear cX7_linear 3 (some .int) rmX7_linear
abbrev rmX7_pairOf : Room := { frames := 0, cells := 0, slots := 0, locals := 0 }
abbrev gX7_pairOf (l : Launch) (D : va_G) (ck : Nat → ClassId) (ad : Nat → Nat) (sh : List Shp) := Go l D ck ad sh RX7 cX7_pairOf 7 rmX7_pairOf
abbrev eX7_pairOf (l : Launch) (D : va_G) (ck : Nat → ClassId) (ad : Nat → Nat) (sh : List Shp) := Ev l D ck ad sh yX7_pairOf cX7_pairOf 7 (some .int) rmX7_pairOf
abbrev rmX7_replaced : Room := { frames := 0, cells := 0, slots := 0, locals := 0 }
abbrev gX7_replaced (l : Launch) (D : va_G) (ck : Nat → ClassId) (ad : Nat → Nat) (sh : List Shp) := Go l D ck ad sh RX7 cX7_replaced 3 rmX7_replaced
abbrev eX7_replaced (l : Launch) (D : va_G) (ck : Nat → ClassId) (ad : Nat → Nat) (sh : List Shp) := Ev l D ck ad sh yX7_replaced cX7_replaced 3 (some .int) rmX7_replaced
abbrev rmX7_laysPair : Room := { frames := 1, cells := 0, slots := 0, locals := 26 }
abbrev gX7_laysPair (l : Launch) (D : va_G) (ck : Nat → ClassId) (ad : Nat → Nat) (sh : List Shp) := Go l D ck ad sh RX7 cX7_laysPair 7 rmX7_laysPair
abbrev eX7_laysPair (l : Launch) (D : va_G) (ck : Nat → ClassId) (ad : Nat → Nat) (sh : List Shp) := Ev l D ck ad sh yX7_laysPair cX7_laysPair 7 none rmX7_laysPair
abbrev rmX7_transpositions : Room := { frames := 3, cells := 0, slots := 0, locals := 71 }
abbrev gX7_transpositions (l : Launch) (D : va_G) (ck : Nat → ClassId) (ad : Nat → Nat) (sh : List Shp) := Go l D ck ad sh RX7 cX7_transpositions 4 rmX7_transpositions
abbrev eX7_transpositions (l : Launch) (D : va_G) (ck : Nat → ClassId) (ad : Nat → Nat) (sh : List Shp) := Ev l D ck ad sh yX7_transpositions cX7_transpositions 4 (some .int) rmX7_transpositions
abbrev rmX7_setProduct : Room := { frames := 2, cells := 0, slots := 0, locals := 43 }
abbrev gX7_setProduct (l : Launch) (D : va_G) (ck : Nat → ClassId) (ad : Nat → Nat) (sh : List Shp) := Go l D ck ad sh RX7 cX7_setProduct 5 rmX7_setProduct
abbrev eX7_setProduct (l : Launch) (D : va_G) (ck : Nat → ClassId) (ad : Nat → Nat) (sh : List Shp) := Ev l D ck ad sh yX7_setProduct cX7_setProduct 5 (some .int) rmX7_setProduct
abbrev rmX7_dividedBy : Room := { frames := 1, cells := 0, slots := 0, locals := 22 }
abbrev gX7_dividedBy (l : Launch) (D : va_G) (ck : Nat → ClassId) (ad : Nat → Nat) (sh : List Shp) := Go l D ck ad sh RX7 cX7_dividedBy 5 rmX7_dividedBy
abbrev eX7_dividedBy (l : Launch) (D : va_G) (ck : Nat → ClassId) (ad : Nat → Nat) (sh : List Shp) := Ev l D ck ad sh yX7_dividedBy cX7_dividedBy 5 (some .int) rmX7_dividedBy
abbrev rmX7_isPermutation : Room := { frames := 1, cells := 0, slots := 0, locals := 22 }
abbrev gX7_isPermutation (l : Launch) (D : va_G) (ck : Nat → ClassId) (ad : Nat → Nat) (sh : List Shp) := Go l D ck ad sh RX7 cX7_isPermutation 4 rmX7_isPermutation
abbrev eX7_isPermutation (l : Launch) (D : va_G) (ck : Nat → ClassId) (ad : Nat → Nat) (sh : List Shp) := Ev l D ck ad sh yX7_isPermutation cX7_isPermutation 4 (some .boolean) rmX7_isPermutation
abbrev rmX7_violatesFirst : Room := { frames := 1, cells := 0, slots := 0, locals := 22 }
abbrev gX7_violatesFirst (l : Launch) (D : va_G) (ck : Nat → ClassId) (ad : Nat → Nat) (sh : List Shp) := Go l D ck ad sh RX7 cX7_violatesFirst 3 rmX7_violatesFirst
abbrev eX7_violatesFirst (l : Launch) (D : va_G) (ck : Nat → ClassId) (ad : Nat → Nat) (sh : List Shp) := Ev l D ck ad sh yX7_violatesFirst cX7_violatesFirst 3 (some .int) rmX7_violatesFirst
abbrev rmX7_violatesSecond : Room := { frames := 2, cells := 0, slots := 0, locals := 45 }
abbrev gX7_violatesSecond (l : Launch) (D : va_G) (ck : Nat → ClassId) (ad : Nat → Nat) (sh : List Shp) := Go l D ck ad sh RX7 cX7_violatesSecond 3 rmX7_violatesSecond
abbrev eX7_violatesSecond (l : Launch) (D : va_G) (ck : Nat → ClassId) (ad : Nat → Nat) (sh : List Shp) := Ev l D ck ad sh yX7_violatesSecond cX7_violatesSecond 3 (some .int) rmX7_violatesSecond
abbrev rmX7_violatesThird : Room := { frames := 1, cells := 0, slots := 0, locals := 22 }
abbrev gX7_violatesThird (l : Launch) (D : va_G) (ck : Nat → ClassId) (ad : Nat → Nat) (sh : List Shp) := Go l D ck ad sh RX7 cX7_violatesThird 4 rmX7_violatesThird
abbrev eX7_violatesThird (l : Launch) (D : va_G) (ck : Nat → ClassId) (ad : Nat → Nat) (sh : List Shp) := Ev l D ck ad sh yX7_violatesThird cX7_violatesThird 4 (some .int) rmX7_violatesThird
abbrev rmX7_violates : Room := { frames := 3, cells := 0, slots := 0, locals := 67 }
abbrev gX7_violates (l : Launch) (D : va_G) (ck : Nat → ClassId) (ad : Nat → Nat) (sh : List Shp) := Go l D ck ad sh RX7 cX7_violates 2 rmX7_violates
abbrev eX7_violates (l : Launch) (D : va_G) (ck : Nat → ClassId) (ad : Nat → Nat) (sh : List Shp) := Ev l D ck ad sh yX7_violates cX7_violates 2 (some .int) rmX7_violates
abbrev rmX7_invert : Room := { frames := 3, cells := 0, slots := 0, locals := 67 }
abbrev gX7_invert (l : Launch) (D : va_G) (ck : Nat → ClassId) (ad : Nat → Nat) (sh : List Shp) := Go l D ck ad sh RX7 cX7_invert 4 rmX7_invert
abbrev eX7_invert (l : Launch) (D : va_G) (ck : Nat → ClassId) (ad : Nat → Nat) (sh : List Shp) := Ev l D ck ad sh yX7_invert cX7_invert 4 (some .int) rmX7_invert
abbrev rmX7_size : Room := { frames := 0, cells := 0, slots := 0, locals := 0 }
abbrev gX7_size (l : Launch) (D : va_G) (ck : Nat → ClassId) (ad : Nat → Nat) (sh : List Shp) := Go l D ck ad sh RX7 cX7_size 1 rmX7_size
abbrev eX7_size (l : Launch) (D : va_G) (ck : Nat → ClassId) (ad : Nat → Nat) (sh : List Shp) := Ev l D ck ad sh yX7_size cX7_size 1 (some .int) rmX7_size
abbrev rmX7_product : Room := { frames := 2, cells := 0, slots := 0, locals := 43 }
abbrev gX7_product (l : Launch) (D : va_G) (ck : Nat → ClassId) (ad : Nat → Nat) (sh : List Shp) := Go l D ck ad sh RX7 cX7_product 3 rmX7_product
abbrev eX7_product (l : Launch) (D : va_G) (ck : Nat → ClassId) (ad : Nat → Nat) (sh : List Shp) := Ev l D ck ad sh yX7_product cX7_product 3 (some .int) rmX7_product
abbrev rmX7_quotient : Room := { frames := 2, cells := 0, slots := 0, locals := 46 }
abbrev gX7_quotient (l : Launch) (D : va_G) (ck : Nat → ClassId) (ad : Nat → Nat) (sh : List Shp) := Go l D ck ad sh RX7 cX7_quotient 3 rmX7_quotient
abbrev eX7_quotient (l : Launch) (D : va_G) (ck : Nat → ClassId) (ad : Nat → Nat) (sh : List Shp) := Ev l D ck ad sh yX7_quotient cX7_quotient 3 (some .int) rmX7_quotient
abbrev rmX7_violation : Room := { frames := 4, cells := 0, slots := 0, locals := 88 }
abbrev gX7_violation (l : Launch) (D : va_G) (ck : Nat → ClassId) (ad : Nat → Nat) (sh : List Shp) := Go l D ck ad sh RX7 cX7_violation 2 rmX7_violation
abbrev eX7_violation (l : Launch) (D : va_G) (ck : Nat → ClassId) (ad : Nat → Nat) (sh : List Shp) := Ev l D ck ad sh yX7_violation cX7_violation 2 (some .int) rmX7_violation
abbrev rmX7_reach : Room := { frames := 2, cells := 0, slots := 0, locals := 43 }
abbrev gX7_reach (l : Launch) (D : va_G) (ck : Nat → ClassId) (ad : Nat → Nat) (sh : List Shp) := Go l D ck ad sh RX7 cX7_reach 6 rmX7_reach
abbrev eX7_reach (l : Launch) (D : va_G) (ck : Nat → ClassId) (ad : Nat → Nat) (sh : List Shp) := Ev l D ck ad sh yX7_reach cX7_reach 6 (some .int) rmX7_reach
abbrev rmX7_joins : Room := { frames := 0, cells := 0, slots := 0, locals := 0 }
abbrev gX7_joins (l : Launch) (D : va_G) (ck : Nat → ClassId) (ad : Nat → Nat) (sh : List Shp) := Go l D ck ad sh RX7 cX7_joins 7 rmX7_joins
abbrev eX7_joins (l : Launch) (D : va_G) (ck : Nat → ClassId) (ad : Nat → Nat) (sh : List Shp) := Ev l D ck ad sh yX7_joins cX7_joins 7 none rmX7_joins
abbrev rmX7_aloneAll : Room := { frames := 0, cells := 0, slots := 0, locals := 0 }
abbrev gX7_aloneAll (l : Launch) (D : va_G) (ck : Nat → ClassId) (ad : Nat → Nat) (sh : List Shp) := Go l D ck ad sh RX7 cX7_aloneAll 3 rmX7_aloneAll
abbrev eX7_aloneAll (l : Launch) (D : va_G) (ck : Nat → ClassId) (ad : Nat → Nat) (sh : List Shp) := Ev l D ck ad sh yX7_aloneAll cX7_aloneAll 3 none rmX7_aloneAll
abbrev rmX7_partsMany : Room := { frames := 0, cells := 0, slots := 0, locals := 0 }
abbrev gX7_partsMany (l : Launch) (D : va_G) (ck : Nat → ClassId) (ad : Nat → Nat) (sh : List Shp) := Go l D ck ad sh RX7 cX7_partsMany 4 rmX7_partsMany
abbrev eX7_partsMany (l : Launch) (D : va_G) (ck : Nat → ClassId) (ad : Nat → Nat) (sh : List Shp) := Ev l D ck ad sh yX7_partsMany cX7_partsMany 4 (some .int) rmX7_partsMany
abbrev rmX7_componentsOfTable : Room := { frames := 1, cells := 0, slots := 0, locals := 26 }
abbrev gX7_componentsOfTable (l : Launch) (D : va_G) (ck : Nat → ClassId) (ad : Nat → Nat) (sh : List Shp) := Go l D ck ad sh RX7 cX7_componentsOfTable 3 rmX7_componentsOfTable
abbrev eX7_componentsOfTable (l : Launch) (D : va_G) (ck : Nat → ClassId) (ad : Nat → Nat) (sh : List Shp) := Ev l D ck ad sh yX7_componentsOfTable cX7_componentsOfTable 3 (some .int) rmX7_componentsOfTable
abbrev rmX7_tableComponents : Room := { frames := 2, cells := 0, slots := 0, locals := 48 }
abbrev gX7_tableComponents (l : Launch) (D : va_G) (ck : Nat → ClassId) (ad : Nat → Nat) (sh : List Shp) := Go l D ck ad sh RX7 cX7_tableComponents 1 rmX7_tableComponents
abbrev eX7_tableComponents (l : Launch) (D : va_G) (ck : Nat → ClassId) (ad : Nat → Nat) (sh : List Shp) := Ev l D ck ad sh yX7_tableComponents cX7_tableComponents 1 (some .int) rmX7_tableComponents
abbrev rmX7_closureOf : Room := { frames := 1, cells := 0, slots := 0, locals := 22 }
abbrev gX7_closureOf (l : Launch) (D : va_G) (ck : Nat → ClassId) (ad : Nat → Nat) (sh : List Shp) := Go l D ck ad sh RX7 cX7_closureOf 6 rmX7_closureOf
abbrev eX7_closureOf (l : Launch) (D : va_G) (ck : Nat → ClassId) (ad : Nat → Nat) (sh : List Shp) := Ev l D ck ad sh yX7_closureOf cX7_closureOf 6 (some .int) rmX7_closureOf
abbrev rmX7_closure : Room := { frames := 2, cells := 0, slots := 0, locals := 47 }
abbrev gX7_closure (l : Launch) (D : va_G) (ck : Nat → ClassId) (ad : Nat → Nat) (sh : List Shp) := Go l D ck ad sh RX7 cX7_closure 2 rmX7_closure
abbrev eX7_closure (l : Launch) (D : va_G) (ck : Nat → ClassId) (ad : Nat → Nat) (sh : List Shp) := Ev l D ck ad sh yX7_closure cX7_closure 2 (some .int) rmX7_closure
abbrev rmX7_fewestGenerators : Room := { frames := 2, cells := 0, slots := 0, locals := 47 }
abbrev gX7_fewestGenerators (l : Launch) (D : va_G) (ck : Nat → ClassId) (ad : Nat → Nat) (sh : List Shp) := Go l D ck ad sh RX7 cX7_fewestGenerators 4 rmX7_fewestGenerators
abbrev eX7_fewestGenerators (l : Launch) (D : va_G) (ck : Nat → ClassId) (ad : Nat → Nat) (sh : List Shp) := Ev l D ck ad sh yX7_fewestGenerators cX7_fewestGenerators 4 (some .int) rmX7_fewestGenerators
abbrev rmX7_generators : Room := { frames := 3, cells := 0, slots := 0, locals := 70 }
abbrev gX7_generators (l : Launch) (D : va_G) (ck : Nat → ClassId) (ad : Nat → Nat) (sh : List Shp) := Go l D ck ad sh RX7 cX7_generators 1 rmX7_generators
abbrev eX7_generators (l : Launch) (D : va_G) (ck : Nat → ClassId) (ad : Nat → Nat) (sh : List Shp) := Ev l D ck ad sh yX7_generators cX7_generators 1 (some .int) rmX7_generators
abbrev rmX7_translationOrder : Room := { frames := 2, cells := 0, slots := 0, locals := 45 }
abbrev gX7_translationOrder (l : Launch) (D : va_G) (ck : Nat → ClassId) (ad : Nat → Nat) (sh : List Shp) := Go l D ck ad sh RX7 cX7_translationOrder 5 rmX7_translationOrder
abbrev eX7_translationOrder (l : Launch) (D : va_G) (ck : Nat → ClassId) (ad : Nat → Nat) (sh : List Shp) := Ev l D ck ad sh yX7_translationOrder cX7_translationOrder 5 (some .int) rmX7_translationOrder
abbrev rmX7_differentTranslations : Room := { frames := 1, cells := 0, slots := 0, locals := 22 }
abbrev gX7_differentTranslations (l : Launch) (D : va_G) (ck : Nat → ClassId) (ad : Nat → Nat) (sh : List Shp) := Go l D ck ad sh RX7 cX7_differentTranslations 7 rmX7_differentTranslations
abbrev eX7_differentTranslations (l : Launch) (D : va_G) (ck : Nat → ClassId) (ad : Nat → Nat) (sh : List Shp) := Ev l D ck ad sh yX7_differentTranslations cX7_differentTranslations 7 (some .int) rmX7_differentTranslations
abbrev rmX7_translations : Room := { frames := 2, cells := 0, slots := 0, locals := 48 }
abbrev gX7_translations (l : Launch) (D : va_G) (ck : Nat → ClassId) (ad : Nat → Nat) (sh : List Shp) := Go l D ck ad sh RX7 cX7_translations 1 rmX7_translations
abbrev eX7_translations (l : Launch) (D : va_G) (ck : Nat → ClassId) (ad : Nat → Nat) (sh : List Shp) := Ev l D ck ad sh yX7_translations cX7_translations 1 (some .int) rmX7_translations
abbrev rmX7_unpacks : Room := { frames := 0, cells := 0, slots := 0, locals := 0 }
abbrev gX7_unpacks (l : Launch) (D : va_G) (ck : Nat → ClassId) (ad : Nat → Nat) (sh : List Shp) := Go l D ck ad sh RX7 cX7_unpacks 4 rmX7_unpacks
abbrev eX7_unpacks (l : Launch) (D : va_G) (ck : Nat → ClassId) (ad : Nat → Nat) (sh : List Shp) := Ev l D ck ad sh yX7_unpacks cX7_unpacks 4 none rmX7_unpacks
abbrev rmX7_packed : Room := { frames := 1, cells := 0, slots := 0, locals := 22 }
abbrev gX7_packed (l : Launch) (D : va_G) (ck : Nat → ClassId) (ad : Nat → Nat) (sh : List Shp) := Go l D ck ad sh RX7 cX7_packed 4 rmX7_packed
abbrev eX7_packed (l : Launch) (D : va_G) (ck : Nat → ClassId) (ad : Nat → Nat) (sh : List Shp) := Ev l D ck ad sh yX7_packed cX7_packed 4 (some .int) rmX7_packed
abbrev rmX7_keepsFound : Room := { frames := 0, cells := 0, slots := 0, locals := 0 }
abbrev gX7_keepsFound (l : Launch) (D : va_G) (ck : Nat → ClassId) (ad : Nat → Nat) (sh : List Shp) := Go l D ck ad sh RX7 cX7_keepsFound 4 rmX7_keepsFound
abbrev eX7_keepsFound (l : Launch) (D : va_G) (ck : Nat → ClassId) (ad : Nat → Nat) (sh : List Shp) := Ev l D ck ad sh yX7_keepsFound cX7_keepsFound 4 none rmX7_keepsFound
abbrev rmX7_groupSize : Room := { frames := 3, cells := 0, slots := 0, locals := 67 }
abbrev gX7_groupSize (l : Launch) (D : va_G) (ck : Nat → ClassId) (ad : Nat → Nat) (sh : List Shp) := Go l D ck ad sh RX7 cX7_groupSize 4 rmX7_groupSize
abbrev eX7_groupSize (l : Launch) (D : va_G) (ck : Nat → ClassId) (ad : Nat → Nat) (sh : List Shp) := Ev l D ck ad sh yX7_groupSize cX7_groupSize 4 (some .int) rmX7_groupSize
abbrev rmX7_innerGroup : Room := { frames := 4, cells := 0, slots := 0, locals := 90 }
abbrev gX7_innerGroup (l : Launch) (D : va_G) (ck : Nat → ClassId) (ad : Nat → Nat) (sh : List Shp) := Go l D ck ad sh RX7 cX7_innerGroup 1 rmX7_innerGroup
abbrev eX7_innerGroup (l : Launch) (D : va_G) (ck : Nat → ClassId) (ad : Nat → Nat) (sh : List Shp) := Ev l D ck ad sh yX7_innerGroup cX7_innerGroup 1 (some .int) rmX7_innerGroup
abbrev rmX7_isAutomorphism : Room := { frames := 1, cells := 0, slots := 0, locals := 22 }
abbrev gX7_isAutomorphism (l : Launch) (D : va_G) (ck : Nat → ClassId) (ad : Nat → Nat) (sh : List Shp) := Go l D ck ad sh RX7 cX7_isAutomorphism 5 rmX7_isAutomorphism
abbrev eX7_isAutomorphism (l : Launch) (D : va_G) (ck : Nat → ClassId) (ad : Nat → Nat) (sh : List Shp) := Ev l D ck ad sh yX7_isAutomorphism cX7_isAutomorphism 5 (some .boolean) rmX7_isAutomorphism
abbrev rmX7_automorphismsMany : Room := { frames := 2, cells := 0, slots := 0, locals := 46 }
abbrev gX7_automorphismsMany (l : Launch) (D : va_G) (ck : Nat → ClassId) (ad : Nat → Nat) (sh : List Shp) := Go l D ck ad sh RX7 cX7_automorphismsMany 4 rmX7_automorphismsMany
abbrev eX7_automorphismsMany (l : Launch) (D : va_G) (ck : Nat → ClassId) (ad : Nat → Nat) (sh : List Shp) := Ev l D ck ad sh yX7_automorphismsMany cX7_automorphismsMany 4 (some .int) rmX7_automorphismsMany
abbrev rmX7_automorphisms : Room := { frames := 3, cells := 0, slots := 0, locals := 69 }
abbrev gX7_automorphisms (l : Launch) (D : va_G) (ck : Nat → ClassId) (ad : Nat → Nat) (sh : List Shp) := Go l D ck ad sh RX7 cX7_automorphisms 1 rmX7_automorphisms
abbrev eX7_automorphisms (l : Launch) (D : va_G) (ck : Nat → ClassId) (ad : Nat → Nat) (sh : List Shp) := Ev l D ck ad sh yX7_automorphisms cX7_automorphisms 1 (some .int) rmX7_automorphisms
abbrev rmX7_isArc : Room := { frames := 1, cells := 0, slots := 0, locals := 22 }
abbrev gX7_isArc (l : Launch) (D : va_G) (ck : Nat → ClassId) (ad : Nat → Nat) (sh : List Shp) := Go l D ck ad sh RX7 cX7_isArc 2 rmX7_isArc
abbrev eX7_isArc (l : Launch) (D : va_G) (ck : Nat → ClassId) (ad : Nat → Nat) (sh : List Shp) := Ev l D ck ad sh yX7_isArc cX7_isArc 2 (some .boolean) rmX7_isArc
abbrev rmX7_isCrossing : Room := { frames := 1, cells := 0, slots := 0, locals := 22 }
abbrev gX7_isCrossing (l : Launch) (D : va_G) (ck : Nat → ClassId) (ad : Nat → Nat) (sh : List Shp) := Go l D ck ad sh RX7 cX7_isCrossing 2 rmX7_isCrossing
abbrev eX7_isCrossing (l : Launch) (D : va_G) (ck : Nat → ClassId) (ad : Nat → Nat) (sh : List Shp) := Ev l D ck ad sh yX7_isCrossing cX7_isCrossing 2 (some .boolean) rmX7_isCrossing
abbrev rmX7_crossingPart : Room := { frames := 0, cells := 0, slots := 0, locals := 0 }
abbrev gX7_crossingPart (l : Launch) (D : va_G) (ck : Nat → ClassId) (ad : Nat → Nat) (sh : List Shp) := Go l D ck ad sh RX7 cX7_crossingPart 3 rmX7_crossingPart
abbrev eX7_crossingPart (l : Launch) (D : va_G) (ck : Nat → ClassId) (ad : Nat → Nat) (sh : List Shp) := Ev l D ck ad sh yX7_crossingPart cX7_crossingPart 3 (some .int) rmX7_crossingPart
abbrev rmX7_adds : Room := { frames := 0, cells := 0, slots := 0, locals := 0 }
abbrev gX7_adds (l : Launch) (D : va_G) (ck : Nat → ClassId) (ad : Nat → Nat) (sh : List Shp) := Go l D ck ad sh RX7 cX7_adds 6 rmX7_adds
abbrev eX7_adds (l : Launch) (D : va_G) (ck : Nat → ClassId) (ad : Nat → Nat) (sh : List Shp) := Ev l D ck ad sh yX7_adds cX7_adds 6 none rmX7_adds
abbrev rmX7_clears : Room := { frames := 0, cells := 0, slots := 0, locals := 0 }
abbrev gX7_clears (l : Launch) (D : va_G) (ck : Nat → ClassId) (ad : Nat → Nat) (sh : List Shp) := Go l D ck ad sh RX7 cX7_clears 3 rmX7_clears
abbrev eX7_clears (l : Launch) (D : va_G) (ck : Nat → ClassId) (ad : Nat → Nat) (sh : List Shp) := Ev l D ck ad sh yX7_clears cX7_clears 3 none rmX7_clears
abbrev rmX7_newDiagram : Room := { frames := 1, cells := 0, slots := 0, locals := 22 }
abbrev gX7_newDiagram (l : Launch) (D : va_G) (ck : Nat → ClassId) (ad : Nat → Nat) (sh : List Shp) := Go l D ck ad sh RX7 cX7_newDiagram 3 rmX7_newDiagram
abbrev eX7_newDiagram (l : Launch) (D : va_G) (ck : Nat → ClassId) (ad : Nat → Nat) (sh : List Shp) := Ev l D ck ad sh yX7_newDiagram cX7_newDiagram 3 (some .int) rmX7_newDiagram
abbrev rmX7_standard : Room := { frames := 1, cells := 0, slots := 0, locals := 25 }
abbrev gX7_standard (l : Launch) (D : va_G) (ck : Nat → ClassId) (ad : Nat → Nat) (sh : List Shp) := Go l D ck ad sh RX7 cX7_standard 2 rmX7_standard
abbrev eX7_standard (l : Launch) (D : va_G) (ck : Nat → ClassId) (ad : Nat → Nat) (sh : List Shp) := Ev l D ck ad sh yX7_standard cX7_standard 2 (some .int) rmX7_standard
abbrev rmX7_isSign : Room := { frames := 0, cells := 0, slots := 0, locals := 0 }
abbrev gX7_isSign (l : Launch) (D : va_G) (ck : Nat → ClassId) (ad : Nat → Nat) (sh : List Shp) := Go l D ck ad sh RX7 cX7_isSign 1 rmX7_isSign
abbrev eX7_isSign (l : Launch) (D : va_G) (ck : Nat → ClassId) (ad : Nat → Nat) (sh : List Shp) := Ev l D ck ad sh yX7_isSign cX7_isSign 1 (some .boolean) rmX7_isSign
abbrev rmX7_addCrossing : Room := { frames := 2, cells := 0, slots := 0, locals := 43 }
abbrev gX7_addCrossing (l : Launch) (D : va_G) (ck : Nat → ClassId) (ad : Nat → Nat) (sh : List Shp) := Go l D ck ad sh RX7 cX7_addCrossing 5 rmX7_addCrossing
abbrev eX7_addCrossing (l : Launch) (D : va_G) (ck : Nat → ClassId) (ad : Nat → Nat) (sh : List Shp) := Ev l D ck ad sh yX7_addCrossing cX7_addCrossing 5 (some .int) rmX7_addCrossing
abbrev rmX7_removeCrossing : Room := { frames := 2, cells := 0, slots := 0, locals := 43 }
abbrev gX7_removeCrossing (l : Launch) (D : va_G) (ck : Nat → ClassId) (ad : Nat → Nat) (sh : List Shp) := Go l D ck ad sh RX7 cX7_removeCrossing 3 rmX7_removeCrossing
abbrev eX7_removeCrossing (l : Launch) (D : va_G) (ck : Nat → ClassId) (ad : Nat → Nat) (sh : List Shp) := Ev l D ck ad sh yX7_removeCrossing cX7_removeCrossing 3 (some .int) rmX7_removeCrossing
abbrev rmX7_moves : Room := { frames := 1, cells := 0, slots := 0, locals := 22 }
abbrev gX7_moves (l : Launch) (D : va_G) (ck : Nat → ClassId) (ad : Nat → Nat) (sh : List Shp) := Go l D ck ad sh RX7 cX7_moves 4 rmX7_moves
abbrev eX7_moves (l : Launch) (D : va_G) (ck : Nat → ClassId) (ad : Nat → Nat) (sh : List Shp) := Ev l D ck ad sh yX7_moves cX7_moves 4 none rmX7_moves
abbrev rmX7_kink : Room := { frames := 2, cells := 0, slots := 0, locals := 45 }
abbrev gX7_kink (l : Launch) (D : va_G) (ck : Nat → ClassId) (ad : Nat → Nat) (sh : List Shp) := Go l D ck ad sh RX7 cX7_kink 4 rmX7_kink
abbrev eX7_kink (l : Launch) (D : va_G) (ck : Nat → ClassId) (ad : Nat → Nat) (sh : List Shp) := Ev l D ck ad sh yX7_kink cX7_kink 4 (some .int) rmX7_kink
abbrev rmX7_poke : Room := { frames := 2, cells := 0, slots := 0, locals := 45 }
abbrev gX7_poke (l : Launch) (D : va_G) (ck : Nat → ClassId) (ad : Nat → Nat) (sh : List Shp) := Go l D ck ad sh RX7 cX7_poke 4 rmX7_poke
abbrev eX7_poke (l : Launch) (D : va_G) (ck : Nat → ClassId) (ad : Nat → Nat) (sh : List Shp) := Ev l D ck ad sh yX7_poke cX7_poke 4 (some .int) rmX7_poke
abbrev rmX7_arcs : Room := { frames := 0, cells := 0, slots := 0, locals := 0 }
abbrev gX7_arcs (l : Launch) (D : va_G) (ck : Nat → ClassId) (ad : Nat → Nat) (sh : List Shp) := Go l D ck ad sh RX7 cX7_arcs 1 rmX7_arcs
abbrev eX7_arcs (l : Launch) (D : va_G) (ck : Nat → ClassId) (ad : Nat → Nat) (sh : List Shp) := Ev l D ck ad sh yX7_arcs cX7_arcs 1 (some .int) rmX7_arcs
abbrev rmX7_crossings : Room := { frames := 0, cells := 0, slots := 0, locals := 0 }
abbrev gX7_crossings (l : Launch) (D : va_G) (ck : Nat → ClassId) (ad : Nat → Nat) (sh : List Shp) := Go l D ck ad sh RX7 cX7_crossings 1 rmX7_crossings
abbrev eX7_crossings (l : Launch) (D : va_G) (ck : Nat → ClassId) (ad : Nat → Nat) (sh : List Shp) := Ev l D ck ad sh yX7_crossings cX7_crossings 1 (some .int) rmX7_crossings
abbrev rmX7_crossing : Room := { frames := 2, cells := 0, slots := 0, locals := 43 }
abbrev gX7_crossing (l : Launch) (D : va_G) (ck : Nat → ClassId) (ad : Nat → Nat) (sh : List Shp) := Go l D ck ad sh RX7 cX7_crossing 3 rmX7_crossing
abbrev eX7_crossing (l : Launch) (D : va_G) (ck : Nat → ClassId) (ad : Nat → Nat) (sh : List Shp) := Ev l D ck ad sh yX7_crossing cX7_crossing 3 (some .int) rmX7_crossing
abbrev rmX7_isClosed : Room := { frames := 1, cells := 0, slots := 0, locals := 22 }
abbrev gX7_isClosed (l : Launch) (D : va_G) (ck : Nat → ClassId) (ad : Nat → Nat) (sh : List Shp) := Go l D ck ad sh RX7 cX7_isClosed 6 rmX7_isClosed
abbrev eX7_isClosed (l : Launch) (D : va_G) (ck : Nat → ClassId) (ad : Nat → Nat) (sh : List Shp) := Ev l D ck ad sh yX7_isClosed cX7_isClosed 6 (some .boolean) rmX7_isClosed
abbrev rmX7_findParts : Room := { frames := 1, cells := 0, slots := 0, locals := 26 }
abbrev gX7_findParts (l : Launch) (D : va_G) (ck : Nat → ClassId) (ad : Nat → Nat) (sh : List Shp) := Go l D ck ad sh RX7 cX7_findParts 2 rmX7_findParts
abbrev eX7_findParts (l : Launch) (D : va_G) (ck : Nat → ClassId) (ad : Nat → Nat) (sh : List Shp) := Ev l D ck ad sh yX7_findParts cX7_findParts 2 none rmX7_findParts
abbrev rmX7_componentsNow : Room := { frames := 2, cells := 0, slots := 0, locals := 47 }
abbrev gX7_componentsNow (l : Launch) (D : va_G) (ck : Nat → ClassId) (ad : Nat → Nat) (sh : List Shp) := Go l D ck ad sh RX7 cX7_componentsNow 1 rmX7_componentsNow
abbrev eX7_componentsNow (l : Launch) (D : va_G) (ck : Nat → ClassId) (ad : Nat → Nat) (sh : List Shp) := Ev l D ck ad sh yX7_componentsNow cX7_componentsNow 1 (some .int) rmX7_componentsNow
abbrev rmX7_components : Room := { frames := 3, cells := 0, slots := 0, locals := 67 }
abbrev gX7_components (l : Launch) (D : va_G) (ck : Nat → ClassId) (ad : Nat → Nat) (sh : List Shp) := Go l D ck ad sh RX7 cX7_components 1 rmX7_components
abbrev eX7_components (l : Launch) (D : va_G) (ck : Nat → ClassId) (ad : Nat → Nat) (sh : List Shp) := Ev l D ck ad sh yX7_components cX7_components 1 (some .int) rmX7_components
abbrev rmX7_writheNow : Room := { frames := 1, cells := 0, slots := 0, locals := 22 }
abbrev gX7_writheNow (l : Launch) (D : va_G) (ck : Nat → ClassId) (ad : Nat → Nat) (sh : List Shp) := Go l D ck ad sh RX7 cX7_writheNow 3 rmX7_writheNow
abbrev eX7_writheNow (l : Launch) (D : va_G) (ck : Nat → ClassId) (ad : Nat → Nat) (sh : List Shp) := Ev l D ck ad sh yX7_writheNow cX7_writheNow 3 (some .int) rmX7_writheNow
abbrev rmX7_writhe : Room := { frames := 2, cells := 0, slots := 0, locals := 44 }
abbrev gX7_writhe (l : Launch) (D : va_G) (ck : Nat → ClassId) (ad : Nat → Nat) (sh : List Shp) := Go l D ck ad sh RX7 cX7_writhe 1 rmX7_writhe
abbrev eX7_writhe (l : Launch) (D : va_G) (ck : Nat → ClassId) (ad : Nat → Nat) (sh : List Shp) := Ev l D ck ad sh yX7_writhe cX7_writhe 1 (some .int) rmX7_writhe
abbrev rmX7_linking : Room := { frames := 2, cells := 0, slots := 0, locals := 47 }
abbrev gX7_linking (l : Launch) (D : va_G) (ck : Nat → ClassId) (ad : Nat → Nat) (sh : List Shp) := Go l D ck ad sh RX7 cX7_linking 6 rmX7_linking
abbrev eX7_linking (l : Launch) (D : va_G) (ck : Nat → ClassId) (ad : Nat → Nat) (sh : List Shp) := Ev l D ck ad sh yX7_linking cX7_linking 6 (some .int) rmX7_linking
abbrev rmX7_isColouring : Room := { frames := 1, cells := 0, slots := 0, locals := 22 }
abbrev gX7_isColouring (l : Launch) (D : va_G) (ck : Nat → ClassId) (ad : Nat → Nat) (sh : List Shp) := Go l D ck ad sh RX7 cX7_isColouring 6 rmX7_isColouring
abbrev eX7_isColouring (l : Launch) (D : va_G) (ck : Nat → ClassId) (ad : Nat → Nat) (sh : List Shp) := Ev l D ck ad sh yX7_isColouring cX7_isColouring 6 (some .boolean) rmX7_isColouring
abbrev rmX7_usedColours : Room := { frames := 1, cells := 0, slots := 0, locals := 22 }
abbrev gX7_usedColours (l : Launch) (D : va_G) (ck : Nat → ClassId) (ad : Nat → Nat) (sh : List Shp) := Go l D ck ad sh RX7 cX7_usedColours 3 rmX7_usedColours
abbrev eX7_usedColours (l : Launch) (D : va_G) (ck : Nat → ClassId) (ad : Nat → Nat) (sh : List Shp) := Ev l D ck ad sh yX7_usedColours cX7_usedColours 3 (some .int) rmX7_usedColours
abbrev rmX7_beginsColours : Room := { frames := 0, cells := 0, slots := 0, locals := 0 }
abbrev gX7_beginsColours (l : Launch) (D : va_G) (ck : Nat → ClassId) (ad : Nat → Nat) (sh : List Shp) := Go l D ck ad sh RX7 cX7_beginsColours 2 rmX7_beginsColours
abbrev eX7_beginsColours (l : Launch) (D : va_G) (ck : Nat → ClassId) (ad : Nat → Nat) (sh : List Shp) := Ev l D ck ad sh yX7_beginsColours cX7_beginsColours 2 none rmX7_beginsColours
abbrev rmX7_goesOnColours : Room := { frames := 0, cells := 0, slots := 0, locals := 0 }
abbrev gX7_goesOnColours (l : Launch) (D : va_G) (ck : Nat → ClassId) (ad : Nat → Nat) (sh : List Shp) := Go l D ck ad sh RX7 cX7_goesOnColours 2 rmX7_goesOnColours
abbrev eX7_goesOnColours (l : Launch) (D : va_G) (ck : Nat → ClassId) (ad : Nat → Nat) (sh : List Shp) := Ev l D ck ad sh yX7_goesOnColours cX7_goesOnColours 2 (some .boolean) rmX7_goesOnColours
abbrev rmX7_counts : Room := { frames := 2, cells := 0, slots := 0, locals := 47 }
abbrev gX7_counts (l : Launch) (D : va_G) (ck : Nat → ClassId) (ad : Nat → Nat) (sh : List Shp) := Go l D ck ad sh RX7 cX7_counts 7 rmX7_counts
abbrev eX7_counts (l : Launch) (D : va_G) (ck : Nat → ClassId) (ad : Nat → Nat) (sh : List Shp) := Ev l D ck ad sh yX7_counts cX7_counts 7 (some .int) rmX7_counts
abbrev rmX7_colourings : Room := { frames := 3, cells := 0, slots := 0, locals := 73 }
abbrev gX7_colourings (l : Launch) (D : va_G) (ck : Nat → ClassId) (ad : Nat → Nat) (sh : List Shp) := Go l D ck ad sh RX7 cX7_colourings 1 rmX7_colourings
abbrev eX7_colourings (l : Launch) (D : va_G) (ck : Nat → ClassId) (ad : Nat → Nat) (sh : List Shp) := Ev l D ck ad sh yX7_colourings cX7_colourings 1 (some .int) rmX7_colourings
abbrev rmX7_colouringsWith : Room := { frames := 3, cells := 0, slots := 0, locals := 73 }
abbrev gX7_colouringsWith (l : Launch) (D : va_G) (ck : Nat → ClassId) (ad : Nat → Nat) (sh : List Shp) := Go l D ck ad sh RX7 cX7_colouringsWith 3 rmX7_colouringsWith
abbrev eX7_colouringsWith (l : Launch) (D : va_G) (ck : Nat → ClassId) (ad : Nat → Nat) (sh : List Shp) := Ev l D ck ad sh yX7_colouringsWith cX7_colouringsWith 3 (some .int) rmX7_colouringsWith
abbrev rmX7_colouringsAlike : Room := { frames := 3, cells := 0, slots := 0, locals := 73 }
abbrev gX7_colouringsAlike (l : Launch) (D : va_G) (ck : Nat → ClassId) (ad : Nat → Nat) (sh : List Shp) := Go l D ck ad sh RX7 cX7_colouringsAlike 3 rmX7_colouringsAlike
abbrev eX7_colouringsAlike (l : Launch) (D : va_G) (ck : Nat → ClassId) (ad : Nat → Nat) (sh : List Shp) := Ev l D ck ad sh yX7_colouringsAlike cX7_colouringsAlike 3 (some .int) rmX7_colouringsAlike
abbrev rmX7_colouringsUsing : Room := { frames := 3, cells := 0, slots := 0, locals := 73 }
abbrev gX7_colouringsUsing (l : Launch) (D : va_G) (ck : Nat → ClassId) (ad : Nat → Nat) (sh : List Shp) := Go l D ck ad sh RX7 cX7_colouringsUsing 2 rmX7_colouringsUsing
abbrev eX7_colouringsUsing (l : Launch) (D : va_G) (ck : Nat → ClassId) (ad : Nat → Nat) (sh : List Shp) := Ev l D ck ad sh yX7_colouringsUsing cX7_colouringsUsing 2 (some .int) rmX7_colouringsUsing
abbrev rmX7_colour : Room := { frames := 2, cells := 0, slots := 0, locals := 47 }
abbrev gX7_colour (l : Launch) (D : va_G) (ck : Nat → ClassId) (ad : Nat → Nat) (sh : List Shp) := Go l D ck ad sh RX7 cX7_colour 5 rmX7_colour
abbrev eX7_colour (l : Launch) (D : va_G) (ck : Nat → ClassId) (ad : Nat → Nat) (sh : List Shp) := Ev l D ck ad sh yX7_colour cX7_colour 5 (some .int) rmX7_colour
abbrev rmX7_type : Room := { frames := 1, cells := 0, slots := 0, locals := 22 }
abbrev gX7_type (l : Launch) (D : va_G) (ck : Nat → ClassId) (ad : Nat → Nat) (sh : List Shp) := Go l D ck ad sh RX7 cX7_type 2 rmX7_type
abbrev eX7_type (l : Launch) (D : va_G) (ck : Nat → ClassId) (ad : Nat → Nat) (sh : List Shp) := Ev l D ck ad sh yX7_type cX7_type 2 (some .int) rmX7_type
abbrev rmX7_clearText : Room := { frames := 0, cells := 0, slots := 0, locals := 0 }
abbrev gX7_clearText (l : Launch) (D : va_G) (ck : Nat → ClassId) (ad : Nat → Nat) (sh : List Shp) := Go l D ck ad sh RX7 cX7_clearText 2 rmX7_clearText
abbrev eX7_clearText (l : Launch) (D : va_G) (ck : Nat → ClassId) (ad : Nat → Nat) (sh : List Shp) := Ev l D ck ad sh yX7_clearText cX7_clearText 2 (some .int) rmX7_clearText
abbrev rmX7_character : Room := { frames := 0, cells := 0, slots := 0, locals := 0 }
abbrev gX7_character (l : Launch) (D : va_G) (ck : Nat → ClassId) (ad : Nat → Nat) (sh : List Shp) := Go l D ck ad sh RX7 cX7_character 2 rmX7_character
abbrev eX7_character (l : Launch) (D : va_G) (ck : Nat → ClassId) (ad : Nat → Nat) (sh : List Shp) := Ev l D ck ad sh yX7_character cX7_character 2 (some .int) rmX7_character
abbrev rmX7_isNext : Room := { frames := 1, cells := 0, slots := 0, locals := 21 }
abbrev gX7_isNext (l : Launch) (D : va_G) (ck : Nat → ClassId) (ad : Nat → Nat) (sh : List Shp) := Go l D ck ad sh RX7 cX7_isNext 3 rmX7_isNext
abbrev eX7_isNext (l : Launch) (D : va_G) (ck : Nat → ClassId) (ad : Nat → Nat) (sh : List Shp) := Ev l D ck ad sh yX7_isNext cX7_isNext 3 (some .boolean) rmX7_isNext
abbrev rmX7_arcRead : Room := { frames := 1, cells := 0, slots := 0, locals := 22 }
abbrev gX7_arcRead (l : Launch) (D : va_G) (ck : Nat → ClassId) (ad : Nat → Nat) (sh : List Shp) := Go l D ck ad sh RX7 cX7_arcRead 2 rmX7_arcRead
abbrev eX7_arcRead (l : Launch) (D : va_G) (ck : Nat → ClassId) (ad : Nat → Nat) (sh : List Shp) := Ev l D ck ad sh yX7_arcRead cX7_arcRead 2 (some .int) rmX7_arcRead
abbrev rmX7_readsCrossing : Room := { frames := 2, cells := 0, slots := 0, locals := 43 }
abbrev gX7_readsCrossing (l : Launch) (D : va_G) (ck : Nat → ClassId) (ad : Nat → Nat) (sh : List Shp) := Go l D ck ad sh RX7 cX7_readsCrossing 1 rmX7_readsCrossing
abbrev eX7_readsCrossing (l : Launch) (D : va_G) (ck : Nat → ClassId) (ad : Nat → Nat) (sh : List Shp) := Ev l D ck ad sh yX7_readsCrossing cX7_readsCrossing 1 (some .boolean) rmX7_readsCrossing
abbrev rmX7_findError : Room := { frames := 3, cells := 0, slots := 0, locals := 63 }
abbrev gX7_findError (l : Launch) (D : va_G) (ck : Nat → ClassId) (ad : Nat → Nat) (sh : List Shp) := Go l D ck ad sh RX7 cX7_findError 1 rmX7_findError
abbrev eX7_findError (l : Launch) (D : va_G) (ck : Nat → ClassId) (ad : Nat → Nat) (sh : List Shp) := Ev l D ck ad sh yX7_findError cX7_findError 1 (some .int) rmX7_findError
abbrev rmX7_syntaxError : Room := { frames := 4, cells := 0, slots := 0, locals := 83 }
abbrev gX7_syntaxError (l : Launch) (D : va_G) (ck : Nat → ClassId) (ad : Nat → Nat) (sh : List Shp) := Go l D ck ad sh RX7 cX7_syntaxError 1 rmX7_syntaxError
abbrev eX7_syntaxError (l : Launch) (D : va_G) (ck : Nat → ClassId) (ad : Nat → Nat) (sh : List Shp) := Ev l D ck ad sh yX7_syntaxError cX7_syntaxError 1 (some .int) rmX7_syntaxError
abbrev rmX7_read : Room := { frames := 4, cells := 0, slots := 0, locals := 83 }
abbrev gX7_read (l : Launch) (D : va_G) (ck : Nat → ClassId) (ad : Nat → Nat) (sh : List Shp) := Go l D ck ad sh RX7 cX7_read 4 rmX7_read
abbrev eX7_read (l : Launch) (D : va_G) (ck : Nat → ClassId) (ad : Nat → Nat) (sh : List Shp) := Ev l D ck ad sh yX7_read cX7_read 4 (some .int) rmX7_read
abbrev rmX7_undo : Room := { frames := 0, cells := 0, slots := 0, locals := 0 }
abbrev gX7_undo (l : Launch) (D : va_G) (ck : Nat → ClassId) (ad : Nat → Nat) (sh : List Shp) := Go l D ck ad sh RX7 cX7_undo 2 rmX7_undo
abbrev eX7_undo (l : Launch) (D : va_G) (ck : Nat → ClassId) (ad : Nat → Nat) (sh : List Shp) := Ev l D ck ad sh yX7_undo cX7_undo 2 (some .int) rmX7_undo
abbrev rmX7_digest : Room := { frames := 4, cells := 0, slots := 0, locals := 90 }
abbrev gX7_digest (l : Launch) (D : va_G) (ck : Nat → ClassId) (ad : Nat → Nat) (sh : List Shp) := Go l D ck ad sh RX7 cX7_digest 5 rmX7_digest
abbrev eX7_digest (l : Launch) (D : va_G) (ck : Nat → ClassId) (ad : Nat → Nat) (sh : List Shp) := Ev l D ck ad sh yX7_digest cX7_digest 5 (some .long) rmX7_digest
abbrev rmJ6_bitCount_0f7a4 : Room := { frames := 0, cells := 0, slots := 0, locals := 0 }
abbrev gJ6_bitCount_0f7a4 (l : Launch) (D : va_G) (ck : Nat → ClassId) (ad : Nat → Nat) (sh : List Shp) := Go l D ck ad sh RJ6 cJ6_bitCount_0f7a4 1 rmJ6_bitCount_0f7a4
abbrev eJ6_bitCount_0f7a4 (l : Launch) (D : va_G) (ck : Nat → ClassId) (ad : Nat → Nat) (sh : List Shp) := Ev l D ck ad sh yJ6_bitCount_0f7a4 cJ6_bitCount_0f7a4 1 (some .int) rmJ6_bitCount_0f7a4
abbrev rmJ9_floorMod_7cf53 : Room := { frames := 0, cells := 0, slots := 0, locals := 0 }
abbrev gJ9_floorMod_7cf53 (l : Launch) (D : va_G) (ck : Nat → ClassId) (ad : Nat → Nat) (sh : List Shp) := Go l D ck ad sh RJ9 cJ9_floorMod_7cf53 3 rmJ9_floorMod_7cf53
abbrev eJ9_floorMod_7cf53 (l : Launch) (D : va_G) (ck : Nat → ClassId) (ad : Nat → Nat) (sh : List Shp) := Ev l D ck ad sh yJ9_floorMod_7cf53 cJ9_floorMod_7cf53 3 (some .int) rmJ9_floorMod_7cf53
abbrev rmJ9_max_7cf53 : Room := { frames := 0, cells := 0, slots := 0, locals := 0 }
abbrev gJ9_max_7cf53 (l : Launch) (D : va_G) (ck : Nat → ClassId) (ad : Nat → Nat) (sh : List Shp) := Go l D ck ad sh RJ9 cJ9_max_7cf53 2 rmJ9_max_7cf53
abbrev eJ9_max_7cf53 (l : Launch) (D : va_G) (ck : Nat → ClassId) (ad : Nat → Nat) (sh : List Shp) := Ev l D ck ad sh yJ9_max_7cf53 cJ9_max_7cf53 2 (some .int) rmJ9_max_7cf53
abbrev rmJ9_min_7cf53 : Room := { frames := 0, cells := 0, slots := 0, locals := 0 }
abbrev gJ9_min_7cf53 (l : Launch) (D : va_G) (ck : Nat → ClassId) (ad : Nat → Nat) (sh : List Shp) := Go l D ck ad sh RJ9 cJ9_min_7cf53 2 rmJ9_min_7cf53
abbrev eJ9_min_7cf53 (l : Launch) (D : va_G) (ck : Nat → ClassId) (ad : Nat → Nat) (sh : List Shp) := Ev l D ck ad sh yJ9_min_7cf53 cJ9_min_7cf53 2 (some .int) rmJ9_min_7cf53
theorem fl_X0_9 : Cond.fieldLink RX0 9 "KnotColours$ColouringWalk" "colours" "[I" ∈ lw_gw := gw (tin1 (List.mem_of_getElem? (i := 85) (by decide +kernel))) rfl
theorem fl_X0_15 : Cond.fieldLink RX0 15 "KnotColours$ColouringWalk" "lastArcs" "[I" ∈ lw_gw := gw (tin1 (List.mem_of_getElem? (i := 86) (by decide +kernel))) rfl
theorem fl_X0_18 : Cond.fieldLink RX0 18 "KnotColours$ColouringWalk" "tallies" "[I" ∈ lw_gw := gw (tin1 (List.mem_of_getElem? (i := 87) (by decide +kernel))) rfl
theorem fl_X0_21 : Cond.fieldLink RX0 21 "KnotColours$ColouringWalk" "table" "LKnotColours$Table;" ∈ lw_gw := gw (tin1 (List.mem_of_getElem? (i := 83) (by decide +kernel))) rfl
theorem fl_X0_25 : Cond.fieldLink RX0 25 "KnotColours$ColouringWalk" "diagram" "LKnotColours$Diagram;" ∈ lw_gw := gw (tin1 (List.mem_of_getElem? (i := 84) (by decide +kernel))) rfl
theorem lk_X0_29 : LkV RX0 29 yX0_start cX0_start 3 none RX0 := ⟨⟨gw (tin3 (List.mem_of_getElem? (i := 52) (by decide +kernel))) rfl, gw (tin3 (List.mem_of_getElem? (i := 54) (by decide +kernel))) rfl, gw (List.mem_append_left _ (by decide +kernel)) rfl, gw (tin1 (List.mem_of_getElem? (i := 5) (by decide +kernel))) rfl, gw (tin3 (List.mem_of_getElem? (i := 55) (by decide +kernel))) rfl⟩, rfl, by decide +kernel, by decide +kernel⟩
theorem cn_X0_32 : Cond.constant RX0 32 279936 ∈ lw_gw := gw (tin3 (List.mem_of_getElem? (i := 58) (by decide +kernel))) rfl
theorem lk_X0_33 : LkV RX0 33 yX0_advance cX0_advance 2 (some .boolean) RX0 := ⟨⟨gw (tin3 (List.mem_of_getElem? (i := 59) (by decide +kernel))) rfl, gw (tin3 (List.mem_of_getElem? (i := 61) (by decide +kernel))) rfl, gw (List.mem_append_left _ (by decide +kernel)) rfl, gw (tin1 (List.mem_of_getElem? (i := 5) (by decide +kernel))) rfl, gw (tin3 (List.mem_of_getElem? (i := 62) (by decide +kernel))) rfl⟩, rfl, by decide +kernel, by decide +kernel⟩
theorem lk_X0_37 : LkV RX0 37 yX0_coloursUsed cX0_coloursUsed 3 (some .int) RX0 := ⟨⟨gw (tin3 (List.mem_of_getElem? (i := 73) (by decide +kernel))) rfl, gw (tin3 (List.mem_of_getElem? (i := 75) (by decide +kernel))) rfl, gw (List.mem_append_left _ (by decide +kernel)) rfl, gw (tin1 (List.mem_of_getElem? (i := 5) (by decide +kernel))) rfl, gw (tin3 (List.mem_of_getElem? (i := 76) (by decide +kernel))) rfl⟩, rfl, by decide +kernel, by decide +kernel⟩
theorem fl_X0_41 : Cond.fieldLink RX0 41 "KnotColours$Diagram" "arcCount" "I" ∈ lw_gw := gw (tin1 (List.mem_of_getElem? (i := 64) (by decide +kernel))) rfl
theorem lk_X0_47 : LkS RX0 47 yJ6_bitCount_0f7a4 cJ6_bitCount_0f7a4 1 (some .int) := ⟨⟨gw (tin3 (List.mem_of_getElem? (i := 77) (by decide +kernel))) rfl, gw (tin2 (List.mem_of_getElem? (i := 103) (by decide +kernel))) rfl, gw (tin1 (List.mem_of_getElem? (i := 11) (by decide +kernel))) rfl, gw (tin2 (List.mem_of_getElem? (i := 104) (by decide +kernel))) rfl⟩, by decide +kernel, by decide +kernel⟩
theorem fl_X0_53 : Cond.fieldLink RX0 53 "KnotColours$Diagram" "crossingCount" "I" ∈ lw_gw := gw (tin1 (List.mem_of_getElem? (i := 67) (by decide +kernel))) rfl
theorem lk_X0_56 : LkV RX0 56 yX1_part cX1_part 3 (some .int) RX1 := ⟨⟨gw (tin3 (List.mem_of_getElem? (i := 56) (by decide +kernel))) rfl, gw (tin2 (List.mem_of_getElem? (i := 228) (by decide +kernel))) rfl, gw (tin2 (List.mem_of_getElem? (i := 229) (by decide +kernel))) rfl, gw (tin1 (List.mem_of_getElem? (i := 4) (by decide +kernel))) rfl, gw (tin2 (List.mem_of_getElem? (i := 230) (by decide +kernel))) rfl⟩, rfl, by decide +kernel, by decide +kernel⟩
theorem lk_X0_60 : LkS RX0 60 yJ9_max_7cf53 cJ9_max_7cf53 2 (some .int) := ⟨⟨gw (tin3 (List.mem_of_getElem? (i := 57) (by decide +kernel))) rfl, gw (tin1 (List.mem_of_getElem? (i := 238) (by decide +kernel))) rfl, gw (tin1 (List.mem_of_getElem? (i := 10) (by decide +kernel))) rfl, gw (tin1 (List.mem_of_getElem? (i := 239) (by decide +kernel))) rfl⟩, by decide +kernel, by decide +kernel⟩
theorem fl_X0_65 : Cond.fieldLink RX0 65 "KnotColours$ColouringWalk" "arc" "I" ∈ lw_gw := gw (tin1 (List.mem_of_getElem? (i := 88) (by decide +kernel))) rfl
theorem cn_X0_68 : Cond.constant RX0 68 1000000 ∈ lw_gw := gw (tin3 (List.mem_of_getElem? (i := 63) (by decide +kernel))) rfl
theorem fl_X0_69 : Cond.fieldLink RX0 69 "KnotColours$Table" "count" "I" ∈ lw_gw := gw (tin1 (List.mem_of_getElem? (i := 29) (by decide +kernel))) rfl
theorem lk_X0_74 : LkV RX0 74 yX0_fits cX0_fits 2 (some .boolean) RX0 := ⟨⟨gw (tin3 (List.mem_of_getElem? (i := 64) (by decide +kernel))) rfl, gw (tin3 (List.mem_of_getElem? (i := 66) (by decide +kernel))) rfl, gw (List.mem_append_left _ (by decide +kernel)) rfl, gw (tin1 (List.mem_of_getElem? (i := 5) (by decide +kernel))) rfl, gw (tin3 (List.mem_of_getElem? (i := 67) (by decide +kernel))) rfl⟩, rfl, by decide +kernel, by decide +kernel⟩
theorem lk_X0_77 : LkV RX0 77 yX0_isMet cX0_isMet 5 (some .boolean) RX0 := ⟨⟨gw (tin3 (List.mem_of_getElem? (i := 68) (by decide +kernel))) rfl, gw (tin3 (List.mem_of_getElem? (i := 70) (by decide +kernel))) rfl, gw (List.mem_append_left _ (by decide +kernel)) rfl, gw (tin1 (List.mem_of_getElem? (i := 5) (by decide +kernel))) rfl, gw (tin3 (List.mem_of_getElem? (i := 71) (by decide +kernel))) rfl⟩, rfl, by decide +kernel, by decide +kernel⟩
theorem lk_X0_81 : LkV RX0 81 yX5_times cX5_times 3 (some .int) RX5 := ⟨⟨gw (tin3 (List.mem_of_getElem? (i := 72) (by decide +kernel))) rfl, gw (tin2 (List.mem_of_getElem? (i := 9) (by decide +kernel))) rfl, gw (tin2 (List.mem_of_getElem? (i := 10) (by decide +kernel))) rfl, gw (tin1 (List.mem_of_getElem? (i := 2) (by decide +kernel))) rfl, gw (tin2 (List.mem_of_getElem? (i := 11) (by decide +kernel))) rfl⟩, rfl, by decide +kernel, by decide +kernel⟩
theorem fl_X1_9 : Cond.fieldLink RX1 9 "KnotColours$Diagram" "arcCount" "I" ∈ lw_gw := gw (tin1 (List.mem_of_getElem? (i := 63) (by decide +kernel))) rfl
theorem fl_X1_15 : Cond.fieldLink RX1 15 "KnotColours$Diagram" "crossingCount" "I" ∈ lw_gw := gw (tin1 (List.mem_of_getElem? (i := 66) (by decide +kernel))) rfl
theorem fl_X1_18 : Cond.fieldLink RX1 18 "KnotColours$Diagram" "parts" "[I" ∈ lw_gw := gw (tin1 (List.mem_of_getElem? (i := 69) (by decide +kernel))) rfl
theorem lk_X1_22 : (Cond.methodLink RX1 22 arraycopyName ∈ lw_gw ∧ Cond.native arraycopyName ∈ lw_gw) ∧ Cond.static arraycopyName ∈ lw_gw ∧ Cond.initialized "java/lang/System" ∈ lw_gw := ⟨⟨gw (tin1 (List.mem_of_getElem? (i := 195) (by decide +kernel))) rfl, gw (tin1 (List.mem_of_getElem? (i := 190) (by decide +kernel))) rfl⟩, gw (tin1 (List.mem_of_getElem? (i := 189) (by decide +kernel))) rfl, gw (tin1 (List.mem_of_getElem? (i := 9) (by decide +kernel))) rfl⟩
theorem lk_X1_28 : LkV RX1 28 yX1_part cX1_part 3 (some .int) RX1 := ⟨⟨gw (tin2 (List.mem_of_getElem? (i := 227) (by decide +kernel))) rfl, gw (tin2 (List.mem_of_getElem? (i := 228) (by decide +kernel))) rfl, gw (tin2 (List.mem_of_getElem? (i := 229) (by decide +kernel))) rfl, gw (tin1 (List.mem_of_getElem? (i := 4) (by decide +kernel))) rfl, gw (tin2 (List.mem_of_getElem? (i := 230) (by decide +kernel))) rfl⟩, rfl, by decide +kernel, by decide +kernel⟩
theorem lk_X1_32 : LkV RX1 32 yX1_countAs cX1_countAs 5 (some .int) RX1 := ⟨⟨gw (tin3 (List.mem_of_getElem? (i := 16) (by decide +kernel))) rfl, gw (tin3 (List.mem_of_getElem? (i := 18) (by decide +kernel))) rfl, gw (List.mem_append_left _ (by decide +kernel)) rfl, gw (tin1 (List.mem_of_getElem? (i := 4) (by decide +kernel))) rfl, gw (tin3 (List.mem_of_getElem? (i := 19) (by decide +kernel))) rfl⟩, rfl, by decide +kernel, by decide +kernel⟩
theorem lk_X1_35 : LkV RX1 35 yX1_componentOf cX1_componentOf 6 (some .int) RX1 := ⟨⟨gw (tin3 (List.mem_of_getElem? (i := 24) (by decide +kernel))) rfl, gw (tin3 (List.mem_of_getElem? (i := 26) (by decide +kernel))) rfl, gw (List.mem_append_left _ (by decide +kernel)) rfl, gw (tin1 (List.mem_of_getElem? (i := 4) (by decide +kernel))) rfl, gw (tin3 (List.mem_of_getElem? (i := 27) (by decide +kernel))) rfl⟩, rfl, by decide +kernel, by decide +kernel⟩
theorem fl_X2_11 : Cond.fieldLink RX2 11 "KnotColours$DiagramText" "length" "I" ∈ lw_gw := gw (tin1 (List.mem_of_getElem? (i := 108) (by decide +kernel))) rfl
theorem fl_X2_15 : Cond.fieldLink RX2 15 "KnotColours$DiagramText" "characters" "[C" ∈ lw_gw := gw (tin1 (List.mem_of_getElem? (i := 110) (by decide +kernel))) rfl
theorem lk_X2_19 : LkV RX2 19 yX2_mayStandAt cX2_mayStandAt 3 (some .boolean) RX2 := ⟨⟨gw (tin3 (List.mem_of_getElem? (i := 135) (by decide +kernel))) rfl, gw (tin3 (List.mem_of_getElem? (i := 137) (by decide +kernel))) rfl, gw (List.mem_append_left _ (by decide +kernel)) rfl, gw (tin1 (List.mem_of_getElem? (i := 6) (by decide +kernel))) rfl, gw (tin3 (List.mem_of_getElem? (i := 138) (by decide +kernel))) rfl⟩, rfl, by decide +kernel, by decide +kernel⟩
theorem lk_X2_23 : LkV RX2 23 yX2_arcAt cX2_arcAt 2 (some .int) RX2 := ⟨⟨gw (tin3 (List.mem_of_getElem? (i := 147) (by decide +kernel))) rfl, gw (tin3 (List.mem_of_getElem? (i := 149) (by decide +kernel))) rfl, gw (List.mem_append_left _ (by decide +kernel)) rfl, gw (tin1 (List.mem_of_getElem? (i := 6) (by decide +kernel))) rfl, gw (tin3 (List.mem_of_getElem? (i := 150) (by decide +kernel))) rfl⟩, rfl, by decide +kernel, by decide +kernel⟩
theorem lk_X2_27 : LkS RX2 27 yJ9_max_7cf53 cJ9_max_7cf53 2 (some .int) := ⟨⟨gw (tin3 (List.mem_of_getElem? (i := 151) (by decide +kernel))) rfl, gw (tin1 (List.mem_of_getElem? (i := 238) (by decide +kernel))) rfl, gw (tin1 (List.mem_of_getElem? (i := 10) (by decide +kernel))) rfl, gw (tin1 (List.mem_of_getElem? (i := 239) (by decide +kernel))) rfl⟩, by decide +kernel, by decide +kernel⟩
theorem lk_X2_33 : LkV RX2 33 yX1_clear cX1_clear 2 none RX1 := ⟨⟨gw (tin3 (List.mem_of_getElem? (i := 152) (by decide +kernel))) rfl, gw (tin2 (List.mem_of_getElem? (i := 174) (by decide +kernel))) rfl, gw (tin2 (List.mem_of_getElem? (i := 175) (by decide +kernel))) rfl, gw (tin1 (List.mem_of_getElem? (i := 4) (by decide +kernel))) rfl, gw (tin2 (List.mem_of_getElem? (i := 176) (by decide +kernel))) rfl⟩, rfl, by decide +kernel, by decide +kernel⟩
theorem lk_X2_39 : LkV RX2 39 yX1_append cX1_append 6 none RX1 := ⟨⟨gw (tin3 (List.mem_of_getElem? (i := 153) (by decide +kernel))) rfl, gw (tin2 (List.mem_of_getElem? (i := 188) (by decide +kernel))) rfl, gw (tin2 (List.mem_of_getElem? (i := 189) (by decide +kernel))) rfl, gw (tin1 (List.mem_of_getElem? (i := 4) (by decide +kernel))) rfl, gw (tin2 (List.mem_of_getElem? (i := 190) (by decide +kernel))) rfl⟩, rfl, by decide +kernel, by decide +kernel⟩
theorem fl_X3_9 : Cond.fieldLink RX3 9 "KnotColours$History" "saved" "I" ∈ lw_gw := gw (tin1 (List.mem_of_getElem? (i := 129) (by decide +kernel))) rfl
theorem fl_X3_15 : Cond.fieldLink RX3 15 "KnotColours$History" "next" "I" ∈ lw_gw := gw (tin1 (List.mem_of_getElem? (i := 131) (by decide +kernel))) rfl
theorem fl_X3_20 : Cond.fieldLink RX3 20 "KnotColours$History" "tables" "[LKnotColours$Table;" ∈ lw_gw := gw (tin1 (List.mem_of_getElem? (i := 132) (by decide +kernel))) rfl
theorem fl_X3_26 : Cond.fieldLink RX3 26 "KnotColours$History" "diagrams" "[LKnotColours$Diagram;" ∈ lw_gw := gw (tin1 (List.mem_of_getElem? (i := 133) (by decide +kernel))) rfl
theorem lk_X3_32 : LkV RX3 32 yX5_copyFrom cX5_copyFrom 2 none RX5 := ⟨⟨gw (tin1 (List.mem_of_getElem? (i := 184) (by decide +kernel))) rfl, gw (tin1 (List.mem_of_getElem? (i := 185) (by decide +kernel))) rfl, gw (tin1 (List.mem_of_getElem? (i := 186) (by decide +kernel))) rfl, gw (tin1 (List.mem_of_getElem? (i := 2) (by decide +kernel))) rfl, gw (tin1 (List.mem_of_getElem? (i := 187) (by decide +kernel))) rfl⟩, rfl, by decide +kernel, by decide +kernel⟩
theorem lk_X3_36 : LkV RX3 36 yX1_copyFrom cX1_copyFrom 2 none RX1 := ⟨⟨gw (tin1 (List.mem_of_getElem? (i := 191) (by decide +kernel))) rfl, gw (tin1 (List.mem_of_getElem? (i := 192) (by decide +kernel))) rfl, gw (tin1 (List.mem_of_getElem? (i := 193) (by decide +kernel))) rfl, gw (tin1 (List.mem_of_getElem? (i := 4) (by decide +kernel))) rfl, gw (tin1 (List.mem_of_getElem? (i := 194) (by decide +kernel))) rfl⟩, rfl, by decide +kernel, by decide +kernel⟩
theorem lk_X3_39 : LkS RX3 39 yJ9_min_7cf53 cJ9_min_7cf53 2 (some .int) := ⟨⟨gw (tin1 (List.mem_of_getElem? (i := 196) (by decide +kernel))) rfl, gw (tin1 (List.mem_of_getElem? (i := 197) (by decide +kernel))) rfl, gw (tin1 (List.mem_of_getElem? (i := 10) (by decide +kernel))) rfl, gw (tin1 (List.mem_of_getElem? (i := 198) (by decide +kernel))) rfl⟩, by decide +kernel, by decide +kernel⟩
theorem fl_X4_9 : Cond.fieldLink RX4 9 "KnotColours$Permutations" "image" "[I" ∈ lw_gw := gw (tin1 (List.mem_of_getElem? (i := 43) (by decide +kernel))) rfl
theorem fl_X4_15 : Cond.fieldLink RX4 15 "KnotColours$Permutations" "composed" "[I" ∈ lw_gw := gw (tin1 (List.mem_of_getElem? (i := 44) (by decide +kernel))) rfl
theorem fl_X4_18 : Cond.fieldLink RX4 18 "KnotColours$Permutations" "queue" "[I" ∈ lw_gw := gw (tin1 (List.mem_of_getElem? (i := 45) (by decide +kernel))) rfl
theorem fl_X4_21 : Cond.fieldLink RX4 21 "KnotColours$Permutations" "seen" "[Z" ∈ lw_gw := gw (tin1 (List.mem_of_getElem? (i := 46) (by decide +kernel))) rfl
theorem lk_X4_25 : LkV RX4 25 yX4_startAtIdentity cX4_startAtIdentity 2 none RX4 := ⟨⟨gw (tin2 (List.mem_of_getElem? (i := 144) (by decide +kernel))) rfl, gw (tin2 (List.mem_of_getElem? (i := 146) (by decide +kernel))) rfl, gw (List.mem_append_left _ (by decide +kernel)) rfl, gw (tin1 (List.mem_of_getElem? (i := 3) (by decide +kernel))) rfl, gw (tin2 (List.mem_of_getElem? (i := 147) (by decide +kernel))) rfl⟩, rfl, by decide +kernel, by decide +kernel⟩
theorem fl_X4_28 : Cond.fieldLink RX4 28 "KnotColours$Table" "count" "I" ∈ lw_gw := gw (tin1 (List.mem_of_getElem? (i := 27) (by decide +kernel))) rfl
theorem lk_X4_34 : LkV RX4 34 yX4_unrank cX4_unrank 8 none RX4 := ⟨⟨gw (tin2 (List.mem_of_getElem? (i := 148) (by decide +kernel))) rfl, gw (tin2 (List.mem_of_getElem? (i := 150) (by decide +kernel))) rfl, gw (List.mem_append_left _ (by decide +kernel)) rfl, gw (tin1 (List.mem_of_getElem? (i := 3) (by decide +kernel))) rfl, gw (tin2 (List.mem_of_getElem? (i := 151) (by decide +kernel))) rfl⟩, rfl, by decide +kernel, by decide +kernel⟩
theorem lk_X4_38 : LkV RX4 38 yX4_rankBehind cX4_rankBehind 7 (some .int) RX4 := ⟨⟨gw (tin2 (List.mem_of_getElem? (i := 152) (by decide +kernel))) rfl, gw (tin2 (List.mem_of_getElem? (i := 154) (by decide +kernel))) rfl, gw (List.mem_append_left _ (by decide +kernel)) rfl, gw (tin1 (List.mem_of_getElem? (i := 3) (by decide +kernel))) rfl, gw (tin2 (List.mem_of_getElem? (i := 155) (by decide +kernel))) rfl⟩, rfl, by decide +kernel, by decide +kernel⟩
theorem lk_X4_42 : LkV RX4 42 yX5_times cX5_times 3 (some .int) RX5 := ⟨⟨gw (tin2 (List.mem_of_getElem? (i := 156) (by decide +kernel))) rfl, gw (tin2 (List.mem_of_getElem? (i := 9) (by decide +kernel))) rfl, gw (tin2 (List.mem_of_getElem? (i := 10) (by decide +kernel))) rfl, gw (tin1 (List.mem_of_getElem? (i := 2) (by decide +kernel))) rfl, gw (tin2 (List.mem_of_getElem? (i := 11) (by decide +kernel))) rfl⟩, rfl, by decide +kernel, by decide +kernel⟩
theorem lk_X4_46 : LkV RX4 46 yX4_keepsProducts cX4_keepsProducts 4 (some .boolean) RX4 := ⟨⟨gw (tin2 (List.mem_of_getElem? (i := 165) (by decide +kernel))) rfl, gw (tin2 (List.mem_of_getElem? (i := 167) (by decide +kernel))) rfl, gw (List.mem_append_left _ (by decide +kernel)) rfl, gw (tin1 (List.mem_of_getElem? (i := 3) (by decide +kernel))) rfl, gw (tin2 (List.mem_of_getElem? (i := 168) (by decide +kernel))) rfl⟩, rfl, by decide +kernel, by decide +kernel⟩
theorem fl_X5_9 : Cond.fieldLink RX5 9 "KnotColours$Table" "count" "I" ∈ lw_gw := gw (tin1 (List.mem_of_getElem? (i := 26) (by decide +kernel))) rfl
theorem fl_X5_15 : Cond.fieldLink RX5 15 "KnotColours$Table" "products" "[I" ∈ lw_gw := gw (tin1 (List.mem_of_getElem? (i := 30) (by decide +kernel))) rfl
theorem lk_X5_19 : (Cond.methodLink RX5 19 arraycopyName ∈ lw_gw ∧ Cond.native arraycopyName ∈ lw_gw) ∧ Cond.static arraycopyName ∈ lw_gw ∧ Cond.initialized "java/lang/System" ∈ lw_gw := ⟨⟨gw (tin1 (List.mem_of_getElem? (i := 188) (by decide +kernel))) rfl, gw (tin1 (List.mem_of_getElem? (i := 190) (by decide +kernel))) rfl⟩, gw (tin1 (List.mem_of_getElem? (i := 189) (by decide +kernel))) rfl, gw (tin1 (List.mem_of_getElem? (i := 9) (by decide +kernel))) rfl⟩
theorem lk_X5_25 : LkS RX5 25 yJ9_floorMod_7cf53 cJ9_floorMod_7cf53 3 (some .int) := ⟨⟨gw (tin1 (List.mem_of_getElem? (i := 203) (by decide +kernel))) rfl, gw (tin1 (List.mem_of_getElem? (i := 204) (by decide +kernel))) rfl, gw (tin1 (List.mem_of_getElem? (i := 10) (by decide +kernel))) rfl, gw (tin1 (List.mem_of_getElem? (i := 205) (by decide +kernel))) rfl⟩, by decide +kernel, by decide +kernel⟩
theorem lk_X5_31 : LkV RX5 31 yX5_put cX5_put 4 none RX5 := ⟨⟨gw (tin1 (List.mem_of_getElem? (i := 206) (by decide +kernel))) rfl, gw (tin1 (List.mem_of_getElem? (i := 207) (by decide +kernel))) rfl, gw (tin1 (List.mem_of_getElem? (i := 208) (by decide +kernel))) rfl, gw (tin1 (List.mem_of_getElem? (i := 2) (by decide +kernel))) rfl, gw (tin1 (List.mem_of_getElem? (i := 209) (by decide +kernel))) rfl⟩, rfl, by decide +kernel, by decide +kernel⟩
theorem lk_X5_35 : LkV RX5 35 yX5_fillTranslation cX5_fillTranslation 9 none RX5 := ⟨⟨gw (tin1 (List.mem_of_getElem? (i := 226) (by decide +kernel))) rfl, gw (tin1 (List.mem_of_getElem? (i := 228) (by decide +kernel))) rfl, gw (List.mem_append_left _ (by decide +kernel)) rfl, gw (tin1 (List.mem_of_getElem? (i := 2) (by decide +kernel))) rfl, gw (tin1 (List.mem_of_getElem? (i := 229) (by decide +kernel))) rfl⟩, rfl, by decide +kernel, by decide +kernel⟩
theorem lk_X5_38 : LkS RX5 38 yX5_pairNumber cX5_pairNumber 3 (some .int) := ⟨⟨gw (tin1 (List.mem_of_getElem? (i := 230) (by decide +kernel))) rfl, gw (tin1 (List.mem_of_getElem? (i := 231) (by decide +kernel))) rfl, gw (tin1 (List.mem_of_getElem? (i := 2) (by decide +kernel))) rfl, gw (tin1 (List.mem_of_getElem? (i := 232) (by decide +kernel))) rfl⟩, by decide +kernel, by decide +kernel⟩
theorem lk_X5_42 : LkS RX5 42 yX5_swapped cX5_swapped 3 (some .int) := ⟨⟨gw (tin1 (List.mem_of_getElem? (i := 233) (by decide +kernel))) rfl, gw (tin1 (List.mem_of_getElem? (i := 234) (by decide +kernel))) rfl, gw (tin1 (List.mem_of_getElem? (i := 2) (by decide +kernel))) rfl, gw (tin1 (List.mem_of_getElem? (i := 235) (by decide +kernel))) rfl⟩, by decide +kernel, by decide +kernel⟩
theorem lk_X5_45 : LkS RX5 45 yJ9_min_7cf53 cJ9_min_7cf53 2 (some .int) := ⟨⟨gw (tin1 (List.mem_of_getElem? (i := 236) (by decide +kernel))) rfl, gw (tin1 (List.mem_of_getElem? (i := 197) (by decide +kernel))) rfl, gw (tin1 (List.mem_of_getElem? (i := 10) (by decide +kernel))) rfl, gw (tin1 (List.mem_of_getElem? (i := 198) (by decide +kernel))) rfl⟩, by decide +kernel, by decide +kernel⟩
theorem lk_X5_48 : LkS RX5 48 yJ9_max_7cf53 cJ9_max_7cf53 2 (some .int) := ⟨⟨gw (tin1 (List.mem_of_getElem? (i := 237) (by decide +kernel))) rfl, gw (tin1 (List.mem_of_getElem? (i := 238) (by decide +kernel))) rfl, gw (tin1 (List.mem_of_getElem? (i := 10) (by decide +kernel))) rfl, gw (tin1 (List.mem_of_getElem? (i := 239) (by decide +kernel))) rfl⟩, by decide +kernel, by decide +kernel⟩
theorem lk_X5_51 : LkV RX5 51 yX5_lowestFactor cX5_lowestFactor 4 (some .int) RX5 := ⟨⟨gw (tin2 (List.mem_of_getElem? (i := 35) (by decide +kernel))) rfl, gw (tin2 (List.mem_of_getElem? (i := 36) (by decide +kernel))) rfl, gw (tin2 (List.mem_of_getElem? (i := 37) (by decide +kernel))) rfl, gw (tin1 (List.mem_of_getElem? (i := 2) (by decide +kernel))) rfl, gw (tin2 (List.mem_of_getElem? (i := 38) (by decide +kernel))) rfl⟩, rfl, by decide +kernel, by decide +kernel⟩
theorem lk_X5_54 : LkV RX5 54 yX5_times cX5_times 3 (some .int) RX5 := ⟨⟨gw (tin2 (List.mem_of_getElem? (i := 25) (by decide +kernel))) rfl, gw (tin2 (List.mem_of_getElem? (i := 9) (by decide +kernel))) rfl, gw (tin2 (List.mem_of_getElem? (i := 10) (by decide +kernel))) rfl, gw (tin1 (List.mem_of_getElem? (i := 2) (by decide +kernel))) rfl, gw (tin2 (List.mem_of_getElem? (i := 11) (by decide +kernel))) rfl⟩, rfl, by decide +kernel, by decide +kernel⟩
theorem lk_X5_57 : LkV RX5 57 yX5_isPermutation cX5_isPermutation 4 (some .boolean) RX5 := ⟨⟨gw (tin2 (List.mem_of_getElem? (i := 21) (by decide +kernel))) rfl, gw (tin2 (List.mem_of_getElem? (i := 23) (by decide +kernel))) rfl, gw (List.mem_append_left _ (by decide +kernel)) rfl, gw (tin1 (List.mem_of_getElem? (i := 2) (by decide +kernel))) rfl, gw (tin2 (List.mem_of_getElem? (i := 24) (by decide +kernel))) rfl⟩, rfl, by decide +kernel, by decide +kernel⟩
theorem lk_X5_61 : LkV RX5 61 yX5_allElements cX5_allElements 1 (some .int) RX5 := ⟨⟨gw (tin2 (List.mem_of_getElem? (i := 26) (by decide +kernel))) rfl, gw (tin2 (List.mem_of_getElem? (i := 27) (by decide +kernel))) rfl, gw (tin2 (List.mem_of_getElem? (i := 28) (by decide +kernel))) rfl, gw (tin1 (List.mem_of_getElem? (i := 2) (by decide +kernel))) rfl, gw (tin2 (List.mem_of_getElem? (i := 29) (by decide +kernel))) rfl⟩, rfl, by decide +kernel, by decide +kernel⟩
theorem lk_X5_65 : LkV RX5 65 yX5_componentOf cX5_componentOf 7 (some .int) RX5 := ⟨⟨gw (tin2 (List.mem_of_getElem? (i := 80) (by decide +kernel))) rfl, gw (tin2 (List.mem_of_getElem? (i := 82) (by decide +kernel))) rfl, gw (List.mem_append_left _ (by decide +kernel)) rfl, gw (tin1 (List.mem_of_getElem? (i := 2) (by decide +kernel))) rfl, gw (tin2 (List.mem_of_getElem? (i := 83) (by decide +kernel))) rfl⟩, rfl, by decide +kernel, by decide +kernel⟩
theorem lk_X5_69 : LkV RX5 69 yX5_closureOf cX5_closureOf 6 (some .int) RX5 := ⟨⟨gw (tin2 (List.mem_of_getElem? (i := 101) (by decide +kernel))) rfl, gw (tin2 (List.mem_of_getElem? (i := 90) (by decide +kernel))) rfl, gw (tin2 (List.mem_of_getElem? (i := 91) (by decide +kernel))) rfl, gw (tin1 (List.mem_of_getElem? (i := 2) (by decide +kernel))) rfl, gw (tin2 (List.mem_of_getElem? (i := 92) (by decide +kernel))) rfl⟩, rfl, by decide +kernel, by decide +kernel⟩
theorem lk_X5_72 : LkS RX5 72 yJ6_bitCount_0f7a4 cJ6_bitCount_0f7a4 1 (some .int) := ⟨⟨gw (tin2 (List.mem_of_getElem? (i := 102) (by decide +kernel))) rfl, gw (tin2 (List.mem_of_getElem? (i := 103) (by decide +kernel))) rfl, gw (tin1 (List.mem_of_getElem? (i := 11) (by decide +kernel))) rfl, gw (tin2 (List.mem_of_getElem? (i := 104) (by decide +kernel))) rfl⟩, by decide +kernel, by decide +kernel⟩
theorem lk_X5_77 : LkV RX5 77 yX5_isIdentityAfter cX5_isIdentityAfter 6 (some .boolean) RX5 := ⟨⟨gw (tin2 (List.mem_of_getElem? (i := 116) (by decide +kernel))) rfl, gw (tin2 (List.mem_of_getElem? (i := 118) (by decide +kernel))) rfl, gw (List.mem_append_left _ (by decide +kernel)) rfl, gw (tin1 (List.mem_of_getElem? (i := 2) (by decide +kernel))) rfl, gw (tin2 (List.mem_of_getElem? (i := 119) (by decide +kernel))) rfl⟩, rfl, by decide +kernel, by decide +kernel⟩
theorem lk_X5_81 : LkV RX5 81 yX5_isNewTranslation cX5_isNewTranslation 3 (some .boolean) RX5 := ⟨⟨gw (tin2 (List.mem_of_getElem? (i := 128) (by decide +kernel))) rfl, gw (tin2 (List.mem_of_getElem? (i := 130) (by decide +kernel))) rfl, gw (List.mem_append_left _ (by decide +kernel)) rfl, gw (tin1 (List.mem_of_getElem? (i := 2) (by decide +kernel))) rfl, gw (tin2 (List.mem_of_getElem? (i := 131) (by decide +kernel))) rfl⟩, rfl, by decide +kernel, by decide +kernel⟩
theorem lk_X5_84 : LkV RX5 84 yX5_sameTranslation cX5_sameTranslation 4 (some .boolean) RX5 := ⟨⟨gw (tin2 (List.mem_of_getElem? (i := 132) (by decide +kernel))) rfl, gw (tin2 (List.mem_of_getElem? (i := 134) (by decide +kernel))) rfl, gw (List.mem_append_left _ (by decide +kernel)) rfl, gw (tin1 (List.mem_of_getElem? (i := 2) (by decide +kernel))) rfl, gw (tin2 (List.mem_of_getElem? (i := 135) (by decide +kernel))) rfl⟩, rfl, by decide +kernel, by decide +kernel⟩
theorem fl_X6_10 : Cond.fieldLink RX6 10 "KnotColours" "table" "LKnotColours$Table;" ∈ lw_gw := gw (tin1 (List.mem_of_getElem? (i := 143) (by decide +kernel))) rfl
theorem fl_X6_16 : Cond.fieldLink RX6 16 "KnotColours" "spare" "LKnotColours$Table;" ∈ lw_gw := gw (tin1 (List.mem_of_getElem? (i := 144) (by decide +kernel))) rfl
theorem fl_X6_22 : Cond.fieldLink RX6 22 "KnotColours" "permutations" "LKnotColours$Permutations;" ∈ lw_gw := gw (tin1 (List.mem_of_getElem? (i := 145) (by decide +kernel))) rfl
theorem fl_X6_29 : Cond.fieldLink RX6 29 "KnotColours" "diagram" "LKnotColours$Diagram;" ∈ lw_gw := gw (tin1 (List.mem_of_getElem? (i := 146) (by decide +kernel))) rfl
theorem fl_X6_38 : Cond.fieldLink RX6 38 "KnotColours" "walk" "LKnotColours$ColouringWalk;" ∈ lw_gw := gw (tin1 (List.mem_of_getElem? (i := 147) (by decide +kernel))) rfl
theorem fl_X6_45 : Cond.fieldLink RX6 45 "KnotColours" "text" "LKnotColours$DiagramText;" ∈ lw_gw := gw (tin1 (List.mem_of_getElem? (i := 148) (by decide +kernel))) rfl
theorem fl_X6_52 : Cond.fieldLink RX6 52 "KnotColours" "history" "LKnotColours$History;" ∈ lw_gw := gw (tin1 (List.mem_of_getElem? (i := 149) (by decide +kernel))) rfl
theorem lk_X6_56 : LkS RX6 56 yX6_isSize cX6_isSize 1 (some .boolean) := ⟨⟨gw (tin1 (List.mem_of_getElem? (i := 169) (by decide +kernel))) rfl, gw (tin1 (List.mem_of_getElem? (i := 170) (by decide +kernel))) rfl, gw (tin1 (List.mem_of_getElem? (i := 1) (by decide +kernel))) rfl, gw (tin1 (List.mem_of_getElem? (i := 171) (by decide +kernel))) rfl⟩, by decide +kernel, by decide +kernel⟩
theorem lk_X6_60 : LkV RX6 60 yX6_makeLinear cX6_makeLinear 4 (some .int) RX6 := ⟨⟨gw (tin1 (List.mem_of_getElem? (i := 172) (by decide +kernel))) rfl, gw (tin1 (List.mem_of_getElem? (i := 174) (by decide +kernel))) rfl, gw (List.mem_append_left _ (by decide +kernel)) rfl, gw (tin1 (List.mem_of_getElem? (i := 1) (by decide +kernel))) rfl, gw (tin1 (List.mem_of_getElem? (i := 175) (by decide +kernel))) rfl⟩, rfl, by decide +kernel, by decide +kernel⟩
theorem lk_X6_64 : LkV RX6 64 yX6_saveState cX6_saveState 1 none RX6 := ⟨⟨gw (tin1 (List.mem_of_getElem? (i := 176) (by decide +kernel))) rfl, gw (tin1 (List.mem_of_getElem? (i := 178) (by decide +kernel))) rfl, gw (List.mem_append_left _ (by decide +kernel)) rfl, gw (tin1 (List.mem_of_getElem? (i := 1) (by decide +kernel))) rfl, gw (tin1 (List.mem_of_getElem? (i := 179) (by decide +kernel))) rfl⟩, rfl, by decide +kernel, by decide +kernel⟩
theorem lk_X6_67 : LkV RX6 67 yX5_fillTranspositions cX5_fillTranspositions 4 none RX5 := ⟨⟨gw (tin1 (List.mem_of_getElem? (i := 222) (by decide +kernel))) rfl, gw (tin1 (List.mem_of_getElem? (i := 223) (by decide +kernel))) rfl, gw (tin1 (List.mem_of_getElem? (i := 224) (by decide +kernel))) rfl, gw (tin1 (List.mem_of_getElem? (i := 2) (by decide +kernel))) rfl, gw (tin1 (List.mem_of_getElem? (i := 225) (by decide +kernel))) rfl⟩, rfl, by decide +kernel, by decide +kernel⟩
theorem fl_X6_71 : Cond.fieldLink RX6 71 "KnotColours$Table" "count" "I" ∈ lw_gw := gw (tin1 (List.mem_of_getElem? (i := 28) (by decide +kernel))) rfl
theorem lk_X6_75 : LkV RX6 75 yX5_has cX5_has 2 (some .boolean) RX5 := ⟨⟨gw (tin2 (List.mem_of_getElem? (i := 4) (by decide +kernel))) rfl, gw (tin2 (List.mem_of_getElem? (i := 5) (by decide +kernel))) rfl, gw (tin2 (List.mem_of_getElem? (i := 6) (by decide +kernel))) rfl, gw (tin1 (List.mem_of_getElem? (i := 2) (by decide +kernel))) rfl, gw (tin2 (List.mem_of_getElem? (i := 7) (by decide +kernel))) rfl⟩, rfl, by decide +kernel, by decide +kernel⟩
theorem lk_X6_78 : LkV RX6 78 yX5_times cX5_times 3 (some .int) RX5 := ⟨⟨gw (tin2 (List.mem_of_getElem? (i := 8) (by decide +kernel))) rfl, gw (tin2 (List.mem_of_getElem? (i := 9) (by decide +kernel))) rfl, gw (tin2 (List.mem_of_getElem? (i := 10) (by decide +kernel))) rfl, gw (tin1 (List.mem_of_getElem? (i := 2) (by decide +kernel))) rfl, gw (tin2 (List.mem_of_getElem? (i := 11) (by decide +kernel))) rfl⟩, rfl, by decide +kernel, by decide +kernel⟩
theorem lk_X6_81 : LkV RX6 81 yX5_put cX5_put 4 none RX5 := ⟨⟨gw (tin2 (List.mem_of_getElem? (i := 12) (by decide +kernel))) rfl, gw (tin1 (List.mem_of_getElem? (i := 207) (by decide +kernel))) rfl, gw (tin1 (List.mem_of_getElem? (i := 208) (by decide +kernel))) rfl, gw (tin1 (List.mem_of_getElem? (i := 2) (by decide +kernel))) rfl, gw (tin1 (List.mem_of_getElem? (i := 209) (by decide +kernel))) rfl⟩, rfl, by decide +kernel, by decide +kernel⟩
theorem lk_X6_85 : LkV RX6 85 yX5_firstNoPermutation cX5_firstNoPermutation 2 (some .int) RX5 := ⟨⟨gw (tin2 (List.mem_of_getElem? (i := 17) (by decide +kernel))) rfl, gw (tin2 (List.mem_of_getElem? (i := 18) (by decide +kernel))) rfl, gw (tin2 (List.mem_of_getElem? (i := 19) (by decide +kernel))) rfl, gw (tin1 (List.mem_of_getElem? (i := 2) (by decide +kernel))) rfl, gw (tin2 (List.mem_of_getElem? (i := 20) (by decide +kernel))) rfl⟩, rfl, by decide +kernel, by decide +kernel⟩
theorem lk_X6_89 : LkV RX6 89 yX5_copyFrom cX5_copyFrom 2 none RX5 := ⟨⟨gw (tin2 (List.mem_of_getElem? (i := 30) (by decide +kernel))) rfl, gw (tin1 (List.mem_of_getElem? (i := 185) (by decide +kernel))) rfl, gw (tin1 (List.mem_of_getElem? (i := 186) (by decide +kernel))) rfl, gw (tin1 (List.mem_of_getElem? (i := 2) (by decide +kernel))) rfl, gw (tin1 (List.mem_of_getElem? (i := 187) (by decide +kernel))) rfl⟩, rfl, by decide +kernel, by decide +kernel⟩
theorem lk_X6_93 : LkV RX6 93 yX5_fillInverse cX5_fillInverse 6 (some .int) RX5 := ⟨⟨gw (tin2 (List.mem_of_getElem? (i := 31) (by decide +kernel))) rfl, gw (tin2 (List.mem_of_getElem? (i := 32) (by decide +kernel))) rfl, gw (tin2 (List.mem_of_getElem? (i := 33) (by decide +kernel))) rfl, gw (tin1 (List.mem_of_getElem? (i := 2) (by decide +kernel))) rfl, gw (tin2 (List.mem_of_getElem? (i := 34) (by decide +kernel))) rfl⟩, rfl, by decide +kernel, by decide +kernel⟩
theorem lk_X6_97 : LkV RX6 97 yX5_lowestFactor cX5_lowestFactor 4 (some .int) RX5 := ⟨⟨gw (tin2 (List.mem_of_getElem? (i := 51) (by decide +kernel))) rfl, gw (tin2 (List.mem_of_getElem? (i := 36) (by decide +kernel))) rfl, gw (tin2 (List.mem_of_getElem? (i := 37) (by decide +kernel))) rfl, gw (tin1 (List.mem_of_getElem? (i := 2) (by decide +kernel))) rfl, gw (tin2 (List.mem_of_getElem? (i := 38) (by decide +kernel))) rfl⟩, rfl, by decide +kernel, by decide +kernel⟩
theorem lk_X6_100 : LkV RX6 100 yX5_firstNotIdempotent cX5_firstNotIdempotent 2 (some .int) RX5 := ⟨⟨gw (tin2 (List.mem_of_getElem? (i := 56) (by decide +kernel))) rfl, gw (tin2 (List.mem_of_getElem? (i := 57) (by decide +kernel))) rfl, gw (tin2 (List.mem_of_getElem? (i := 58) (by decide +kernel))) rfl, gw (tin1 (List.mem_of_getElem? (i := 2) (by decide +kernel))) rfl, gw (tin2 (List.mem_of_getElem? (i := 59) (by decide +kernel))) rfl⟩, rfl, by decide +kernel, by decide +kernel⟩
theorem lk_X6_103 : LkV RX6 103 yX5_firstNotDistributive cX5_firstNotDistributive 4 (some .int) RX5 := ⟨⟨gw (tin2 (List.mem_of_getElem? (i := 60) (by decide +kernel))) rfl, gw (tin2 (List.mem_of_getElem? (i := 61) (by decide +kernel))) rfl, gw (tin2 (List.mem_of_getElem? (i := 62) (by decide +kernel))) rfl, gw (tin1 (List.mem_of_getElem? (i := 2) (by decide +kernel))) rfl, gw (tin2 (List.mem_of_getElem? (i := 63) (by decide +kernel))) rfl⟩, rfl, by decide +kernel, by decide +kernel⟩
theorem lk_X6_106 : LkV RX6 106 yX5_reachedFrom cX5_reachedFrom 6 (some .int) RX5 := ⟨⟨gw (tin2 (List.mem_of_getElem? (i := 68) (by decide +kernel))) rfl, gw (tin2 (List.mem_of_getElem? (i := 69) (by decide +kernel))) rfl, gw (tin2 (List.mem_of_getElem? (i := 70) (by decide +kernel))) rfl, gw (tin1 (List.mem_of_getElem? (i := 2) (by decide +kernel))) rfl, gw (tin2 (List.mem_of_getElem? (i := 71) (by decide +kernel))) rfl⟩, rfl, by decide +kernel, by decide +kernel⟩
theorem lk_X6_110 : LkV RX6 110 yX5_countComponents cX5_countComponents 4 (some .int) RX5 := ⟨⟨gw (tin2 (List.mem_of_getElem? (i := 76) (by decide +kernel))) rfl, gw (tin2 (List.mem_of_getElem? (i := 77) (by decide +kernel))) rfl, gw (tin2 (List.mem_of_getElem? (i := 78) (by decide +kernel))) rfl, gw (tin1 (List.mem_of_getElem? (i := 2) (by decide +kernel))) rfl, gw (tin2 (List.mem_of_getElem? (i := 79) (by decide +kernel))) rfl⟩, rfl, by decide +kernel, by decide +kernel⟩
theorem lk_X6_113 : LkV RX6 113 yX5_allElements cX5_allElements 1 (some .int) RX5 := ⟨⟨gw (tin2 (List.mem_of_getElem? (i := 88) (by decide +kernel))) rfl, gw (tin2 (List.mem_of_getElem? (i := 27) (by decide +kernel))) rfl, gw (tin2 (List.mem_of_getElem? (i := 28) (by decide +kernel))) rfl, gw (tin1 (List.mem_of_getElem? (i := 2) (by decide +kernel))) rfl, gw (tin2 (List.mem_of_getElem? (i := 29) (by decide +kernel))) rfl⟩, rfl, by decide +kernel, by decide +kernel⟩
theorem lk_X6_116 : LkV RX6 116 yX5_closureOf cX5_closureOf 6 (some .int) RX5 := ⟨⟨gw (tin2 (List.mem_of_getElem? (i := 89) (by decide +kernel))) rfl, gw (tin2 (List.mem_of_getElem? (i := 90) (by decide +kernel))) rfl, gw (tin2 (List.mem_of_getElem? (i := 91) (by decide +kernel))) rfl, gw (tin1 (List.mem_of_getElem? (i := 2) (by decide +kernel))) rfl, gw (tin2 (List.mem_of_getElem? (i := 92) (by decide +kernel))) rfl⟩, rfl, by decide +kernel, by decide +kernel⟩
theorem lk_X6_119 : LkV RX6 119 yX5_leastGenerators cX5_leastGenerators 3 (some .int) RX5 := ⟨⟨gw (tin2 (List.mem_of_getElem? (i := 97) (by decide +kernel))) rfl, gw (tin2 (List.mem_of_getElem? (i := 98) (by decide +kernel))) rfl, gw (tin2 (List.mem_of_getElem? (i := 99) (by decide +kernel))) rfl, gw (tin1 (List.mem_of_getElem? (i := 2) (by decide +kernel))) rfl, gw (tin2 (List.mem_of_getElem? (i := 100) (by decide +kernel))) rfl⟩, rfl, by decide +kernel, by decide +kernel⟩
theorem lk_X6_122 : LkV RX6 122 yX5_orderOfTranslation cX5_orderOfTranslation 3 (some .int) RX5 := ⟨⟨gw (tin2 (List.mem_of_getElem? (i := 112) (by decide +kernel))) rfl, gw (tin2 (List.mem_of_getElem? (i := 113) (by decide +kernel))) rfl, gw (tin2 (List.mem_of_getElem? (i := 114) (by decide +kernel))) rfl, gw (tin1 (List.mem_of_getElem? (i := 2) (by decide +kernel))) rfl, gw (tin2 (List.mem_of_getElem? (i := 115) (by decide +kernel))) rfl⟩, rfl, by decide +kernel, by decide +kernel⟩
theorem lk_X6_125 : LkV RX6 125 yX5_countTranslations cX5_countTranslations 3 (some .int) RX5 := ⟨⟨gw (tin2 (List.mem_of_getElem? (i := 124) (by decide +kernel))) rfl, gw (tin2 (List.mem_of_getElem? (i := 125) (by decide +kernel))) rfl, gw (tin2 (List.mem_of_getElem? (i := 126) (by decide +kernel))) rfl, gw (tin1 (List.mem_of_getElem? (i := 2) (by decide +kernel))) rfl, gw (tin2 (List.mem_of_getElem? (i := 127) (by decide +kernel))) rfl⟩, rfl, by decide +kernel, by decide +kernel⟩
theorem lk_X6_128 : LkV RX6 128 yX4_countCompositions cX4_countCompositions 6 (some .int) RX4 := ⟨⟨gw (tin2 (List.mem_of_getElem? (i := 140) (by decide +kernel))) rfl, gw (tin2 (List.mem_of_getElem? (i := 141) (by decide +kernel))) rfl, gw (tin2 (List.mem_of_getElem? (i := 142) (by decide +kernel))) rfl, gw (tin1 (List.mem_of_getElem? (i := 3) (by decide +kernel))) rfl, gw (tin2 (List.mem_of_getElem? (i := 143) (by decide +kernel))) rfl⟩, rfl, by decide +kernel, by decide +kernel⟩
theorem lk_X6_131 : LkV RX6 131 yX4_countAutomorphisms cX4_countAutomorphisms 5 (some .int) RX4 := ⟨⟨gw (tin2 (List.mem_of_getElem? (i := 161) (by decide +kernel))) rfl, gw (tin2 (List.mem_of_getElem? (i := 162) (by decide +kernel))) rfl, gw (tin2 (List.mem_of_getElem? (i := 163) (by decide +kernel))) rfl, gw (tin1 (List.mem_of_getElem? (i := 3) (by decide +kernel))) rfl, gw (tin2 (List.mem_of_getElem? (i := 164) (by decide +kernel))) rfl⟩, rfl, by decide +kernel, by decide +kernel⟩
theorem fl_X6_134 : Cond.fieldLink RX6 134 "KnotColours$Diagram" "arcCount" "I" ∈ lw_gw := gw (tin1 (List.mem_of_getElem? (i := 65) (by decide +kernel))) rfl
theorem lk_X6_137 : LkV RX6 137 yX1_clear cX1_clear 2 none RX1 := ⟨⟨gw (tin2 (List.mem_of_getElem? (i := 173) (by decide +kernel))) rfl, gw (tin2 (List.mem_of_getElem? (i := 174) (by decide +kernel))) rfl, gw (tin2 (List.mem_of_getElem? (i := 175) (by decide +kernel))) rfl, gw (tin1 (List.mem_of_getElem? (i := 4) (by decide +kernel))) rfl, gw (tin2 (List.mem_of_getElem? (i := 176) (by decide +kernel))) rfl⟩, rfl, by decide +kernel, by decide +kernel⟩
theorem fl_X6_140 : Cond.fieldLink RX6 140 "KnotColours" "STANDARD_ARCS" "[I" ∈ lw_gw := gw (tin2 (List.mem_of_getElem? (i := 181) (by decide +kernel))) rfl
theorem fl_X6_144 : Cond.fieldLink RX6 144 "KnotColours" "STANDARD_STARTS" "[I" ∈ lw_gw := gw (tin2 (List.mem_of_getElem? (i := 183) (by decide +kernel))) rfl
theorem fl_X6_147 : Cond.fieldLink RX6 147 "KnotColours" "STANDARD_CROSSINGS" "[I" ∈ lw_gw := gw (tin2 (List.mem_of_getElem? (i := 185) (by decide +kernel))) rfl
theorem lk_X6_150 : LkV RX6 150 yX1_append cX1_append 6 none RX1 := ⟨⟨gw (tin2 (List.mem_of_getElem? (i := 187) (by decide +kernel))) rfl, gw (tin2 (List.mem_of_getElem? (i := 188) (by decide +kernel))) rfl, gw (tin2 (List.mem_of_getElem? (i := 189) (by decide +kernel))) rfl, gw (tin1 (List.mem_of_getElem? (i := 4) (by decide +kernel))) rfl, gw (tin2 (List.mem_of_getElem? (i := 190) (by decide +kernel))) rfl⟩, rfl, by decide +kernel, by decide +kernel⟩
theorem fl_X6_154 : Cond.fieldLink RX6 154 "KnotColours$Diagram" "crossingCount" "I" ∈ lw_gw := gw (tin1 (List.mem_of_getElem? (i := 68) (by decide +kernel))) rfl
theorem lk_X6_157 : LkV RX6 157 yX1_hasArc cX1_hasArc 2 (some .boolean) RX1 := ⟨⟨gw (tin2 (List.mem_of_getElem? (i := 195) (by decide +kernel))) rfl, gw (tin2 (List.mem_of_getElem? (i := 196) (by decide +kernel))) rfl, gw (tin2 (List.mem_of_getElem? (i := 197) (by decide +kernel))) rfl, gw (tin1 (List.mem_of_getElem? (i := 4) (by decide +kernel))) rfl, gw (tin2 (List.mem_of_getElem? (i := 198) (by decide +kernel))) rfl⟩, rfl, by decide +kernel, by decide +kernel⟩
theorem lk_X6_160 : LkV RX6 160 yX1_hasRoom cX1_hasRoom 3 (some .boolean) RX1 := ⟨⟨gw (tin2 (List.mem_of_getElem? (i := 199) (by decide +kernel))) rfl, gw (tin2 (List.mem_of_getElem? (i := 200) (by decide +kernel))) rfl, gw (tin2 (List.mem_of_getElem? (i := 201) (by decide +kernel))) rfl, gw (tin1 (List.mem_of_getElem? (i := 4) (by decide +kernel))) rfl, gw (tin2 (List.mem_of_getElem? (i := 202) (by decide +kernel))) rfl⟩, rfl, by decide +kernel, by decide +kernel⟩
theorem lk_X6_164 : LkV RX6 164 yX1_hasCrossing cX1_hasCrossing 2 (some .boolean) RX1 := ⟨⟨gw (tin2 (List.mem_of_getElem? (i := 207) (by decide +kernel))) rfl, gw (tin2 (List.mem_of_getElem? (i := 208) (by decide +kernel))) rfl, gw (tin2 (List.mem_of_getElem? (i := 209) (by decide +kernel))) rfl, gw (tin1 (List.mem_of_getElem? (i := 4) (by decide +kernel))) rfl, gw (tin2 (List.mem_of_getElem? (i := 210) (by decide +kernel))) rfl⟩, rfl, by decide +kernel, by decide +kernel⟩
theorem lk_X6_167 : LkV RX6 167 yX1_remove cX1_remove 3 none RX1 := ⟨⟨gw (tin2 (List.mem_of_getElem? (i := 211) (by decide +kernel))) rfl, gw (tin2 (List.mem_of_getElem? (i := 212) (by decide +kernel))) rfl, gw (tin2 (List.mem_of_getElem? (i := 213) (by decide +kernel))) rfl, gw (tin1 (List.mem_of_getElem? (i := 4) (by decide +kernel))) rfl, gw (tin2 (List.mem_of_getElem? (i := 214) (by decide +kernel))) rfl⟩, rfl, by decide +kernel, by decide +kernel⟩
theorem lk_X6_170 : LkV RX6 170 yX1_addArc cX1_addArc 1 (some .int) RX1 := ⟨⟨gw (tin2 (List.mem_of_getElem? (i := 219) (by decide +kernel))) rfl, gw (tin2 (List.mem_of_getElem? (i := 220) (by decide +kernel))) rfl, gw (tin2 (List.mem_of_getElem? (i := 221) (by decide +kernel))) rfl, gw (tin1 (List.mem_of_getElem? (i := 4) (by decide +kernel))) rfl, gw (tin2 (List.mem_of_getElem? (i := 222) (by decide +kernel))) rfl⟩, rfl, by decide +kernel, by decide +kernel⟩
theorem lk_X6_173 : LkV RX6 173 yX1_moveIn cX1_moveIn 4 none RX1 := ⟨⟨gw (tin2 (List.mem_of_getElem? (i := 223) (by decide +kernel))) rfl, gw (tin2 (List.mem_of_getElem? (i := 224) (by decide +kernel))) rfl, gw (tin2 (List.mem_of_getElem? (i := 225) (by decide +kernel))) rfl, gw (tin1 (List.mem_of_getElem? (i := 4) (by decide +kernel))) rfl, gw (tin2 (List.mem_of_getElem? (i := 226) (by decide +kernel))) rfl⟩, rfl, by decide +kernel, by decide +kernel⟩
theorem lk_X6_177 : LkV RX6 177 yX1_part cX1_part 3 (some .int) RX1 := ⟨⟨gw (tin3 (List.mem_of_getElem? (i := 7) (by decide +kernel))) rfl, gw (tin2 (List.mem_of_getElem? (i := 228) (by decide +kernel))) rfl, gw (tin2 (List.mem_of_getElem? (i := 229) (by decide +kernel))) rfl, gw (tin1 (List.mem_of_getElem? (i := 4) (by decide +kernel))) rfl, gw (tin2 (List.mem_of_getElem? (i := 230) (by decide +kernel))) rfl⟩, rfl, by decide +kernel, by decide +kernel⟩
theorem lk_X6_180 : LkV RX6 180 yX1_isClosed cX1_isClosed 3 (some .boolean) RX1 := ⟨⟨gw (tin3 (List.mem_of_getElem? (i := 12) (by decide +kernel))) rfl, gw (tin3 (List.mem_of_getElem? (i := 13) (by decide +kernel))) rfl, gw (tin3 (List.mem_of_getElem? (i := 14) (by decide +kernel))) rfl, gw (tin1 (List.mem_of_getElem? (i := 4) (by decide +kernel))) rfl, gw (tin3 (List.mem_of_getElem? (i := 15) (by decide +kernel))) rfl⟩, rfl, by decide +kernel, by decide +kernel⟩
theorem lk_X6_184 : LkV RX6 184 yX1_countComponents cX1_countComponents 4 (some .int) RX1 := ⟨⟨gw (tin3 (List.mem_of_getElem? (i := 20) (by decide +kernel))) rfl, gw (tin3 (List.mem_of_getElem? (i := 21) (by decide +kernel))) rfl, gw (tin3 (List.mem_of_getElem? (i := 22) (by decide +kernel))) rfl, gw (tin1 (List.mem_of_getElem? (i := 4) (by decide +kernel))) rfl, gw (tin3 (List.mem_of_getElem? (i := 23) (by decide +kernel))) rfl⟩, rfl, by decide +kernel, by decide +kernel⟩
theorem lk_X6_185 : LkV RX6 185 yX1_signSum cX1_signSum 3 (some .int) RX1 := ⟨⟨gw (tin3 (List.mem_of_getElem? (i := 32) (by decide +kernel))) rfl, gw (tin3 (List.mem_of_getElem? (i := 33) (by decide +kernel))) rfl, gw (tin3 (List.mem_of_getElem? (i := 34) (by decide +kernel))) rfl, gw (tin1 (List.mem_of_getElem? (i := 4) (by decide +kernel))) rfl, gw (tin3 (List.mem_of_getElem? (i := 35) (by decide +kernel))) rfl⟩, rfl, by decide +kernel, by decide +kernel⟩
theorem lk_X6_188 : LkV RX6 188 yX1_linkingSum cX1_linkingSum 7 (some .int) RX1 := ⟨⟨gw (tin3 (List.mem_of_getElem? (i := 40) (by decide +kernel))) rfl, gw (tin3 (List.mem_of_getElem? (i := 41) (by decide +kernel))) rfl, gw (tin3 (List.mem_of_getElem? (i := 42) (by decide +kernel))) rfl, gw (tin1 (List.mem_of_getElem? (i := 4) (by decide +kernel))) rfl, gw (tin3 (List.mem_of_getElem? (i := 43) (by decide +kernel))) rfl⟩, rfl, by decide +kernel, by decide +kernel⟩
theorem lk_X6_191 : LkV RX6 191 yX0_tally cX0_tally 2 (some .int) RX0 := ⟨⟨gw (tin3 (List.mem_of_getElem? (i := 48) (by decide +kernel))) rfl, gw (tin3 (List.mem_of_getElem? (i := 49) (by decide +kernel))) rfl, gw (tin3 (List.mem_of_getElem? (i := 50) (by decide +kernel))) rfl, gw (tin1 (List.mem_of_getElem? (i := 5) (by decide +kernel))) rfl, gw (tin3 (List.mem_of_getElem? (i := 51) (by decide +kernel))) rfl⟩, rfl, by decide +kernel, by decide +kernel⟩
theorem lk_X6_194 : LkV RX6 194 yX0_countWith cX0_countWith 5 (some .int) RX0 := ⟨⟨gw (tin3 (List.mem_of_getElem? (i := 82) (by decide +kernel))) rfl, gw (tin3 (List.mem_of_getElem? (i := 83) (by decide +kernel))) rfl, gw (tin3 (List.mem_of_getElem? (i := 84) (by decide +kernel))) rfl, gw (tin1 (List.mem_of_getElem? (i := 5) (by decide +kernel))) rfl, gw (tin3 (List.mem_of_getElem? (i := 85) (by decide +kernel))) rfl⟩, rfl, by decide +kernel, by decide +kernel⟩
theorem lk_X6_197 : LkV RX6 197 yX0_countAlike cX0_countAlike 5 (some .int) RX0 := ⟨⟨gw (tin3 (List.mem_of_getElem? (i := 90) (by decide +kernel))) rfl, gw (tin3 (List.mem_of_getElem? (i := 91) (by decide +kernel))) rfl, gw (tin3 (List.mem_of_getElem? (i := 92) (by decide +kernel))) rfl, gw (tin1 (List.mem_of_getElem? (i := 5) (by decide +kernel))) rfl, gw (tin3 (List.mem_of_getElem? (i := 93) (by decide +kernel))) rfl⟩, rfl, by decide +kernel, by decide +kernel⟩
theorem lk_X6_200 : LkV RX6 200 yX0_talliedUsing cX0_talliedUsing 2 (some .int) RX0 := ⟨⟨gw (tin3 (List.mem_of_getElem? (i := 98) (by decide +kernel))) rfl, gw (tin3 (List.mem_of_getElem? (i := 99) (by decide +kernel))) rfl, gw (tin3 (List.mem_of_getElem? (i := 100) (by decide +kernel))) rfl, gw (tin1 (List.mem_of_getElem? (i := 5) (by decide +kernel))) rfl, gw (tin3 (List.mem_of_getElem? (i := 101) (by decide +kernel))) rfl⟩, rfl, by decide +kernel, by decide +kernel⟩
theorem cn_X6_203 : Cond.constant RX6 203 279936 ∈ lw_gw := gw (tin3 (List.mem_of_getElem? (i := 106) (by decide +kernel))) rfl
theorem lk_X6_204 : LkV RX6 204 yX0_colourAt cX0_colourAt 4 (some .int) RX0 := ⟨⟨gw (tin3 (List.mem_of_getElem? (i := 107) (by decide +kernel))) rfl, gw (tin3 (List.mem_of_getElem? (i := 108) (by decide +kernel))) rfl, gw (tin3 (List.mem_of_getElem? (i := 109) (by decide +kernel))) rfl, gw (tin1 (List.mem_of_getElem? (i := 5) (by decide +kernel))) rfl, gw (tin3 (List.mem_of_getElem? (i := 110) (by decide +kernel))) rfl⟩, rfl, by decide +kernel, by decide +kernel⟩
theorem fl_X6_207 : Cond.fieldLink RX6 207 "KnotColours$DiagramText" "length" "I" ∈ lw_gw := gw (tin1 (List.mem_of_getElem? (i := 109) (by decide +kernel))) rfl
theorem lk_X6_210 : LkV RX6 210 yX2_append cX2_append 2 none RX2 := ⟨⟨gw (tin3 (List.mem_of_getElem? (i := 115) (by decide +kernel))) rfl, gw (tin3 (List.mem_of_getElem? (i := 116) (by decide +kernel))) rfl, gw (tin3 (List.mem_of_getElem? (i := 117) (by decide +kernel))) rfl, gw (tin1 (List.mem_of_getElem? (i := 6) (by decide +kernel))) rfl, gw (tin3 (List.mem_of_getElem? (i := 118) (by decide +kernel))) rfl⟩, rfl, by decide +kernel, by decide +kernel⟩
theorem lk_X6_213 : LkV RX6 213 yX2_clear cX2_clear 1 none RX2 := ⟨⟨gw (tin3 (List.mem_of_getElem? (i := 123) (by decide +kernel))) rfl, gw (tin3 (List.mem_of_getElem? (i := 124) (by decide +kernel))) rfl, gw (tin3 (List.mem_of_getElem? (i := 125) (by decide +kernel))) rfl, gw (tin1 (List.mem_of_getElem? (i := 6) (by decide +kernel))) rfl, gw (tin3 (List.mem_of_getElem? (i := 126) (by decide +kernel))) rfl⟩, rfl, by decide +kernel, by decide +kernel⟩
theorem lk_X6_215 : LkV RX6 215 yX2_firstError cX2_firstError 2 (some .int) RX2 := ⟨⟨gw (tin3 (List.mem_of_getElem? (i := 131) (by decide +kernel))) rfl, gw (tin3 (List.mem_of_getElem? (i := 132) (by decide +kernel))) rfl, gw (tin3 (List.mem_of_getElem? (i := 133) (by decide +kernel))) rfl, gw (tin1 (List.mem_of_getElem? (i := 6) (by decide +kernel))) rfl, gw (tin3 (List.mem_of_getElem? (i := 134) (by decide +kernel))) rfl⟩, rfl, by decide +kernel, by decide +kernel⟩
theorem lk_X6_218 : LkV RX6 218 yX2_drawInto cX2_drawInto 5 none RX2 := ⟨⟨gw (tin3 (List.mem_of_getElem? (i := 143) (by decide +kernel))) rfl, gw (tin3 (List.mem_of_getElem? (i := 144) (by decide +kernel))) rfl, gw (tin3 (List.mem_of_getElem? (i := 145) (by decide +kernel))) rfl, gw (tin1 (List.mem_of_getElem? (i := 6) (by decide +kernel))) rfl, gw (tin3 (List.mem_of_getElem? (i := 146) (by decide +kernel))) rfl⟩, rfl, by decide +kernel, by decide +kernel⟩
theorem fl_X6_222 : Cond.fieldLink RX6 222 "KnotColours$History" "saved" "I" ∈ lw_gw := gw (tin1 (List.mem_of_getElem? (i := 130) (by decide +kernel))) rfl
theorem lk_X6_225 : LkV RX6 225 yX3_restore cX3_restore 3 none RX3 := ⟨⟨gw (tin3 (List.mem_of_getElem? (i := 158) (by decide +kernel))) rfl, gw (tin3 (List.mem_of_getElem? (i := 159) (by decide +kernel))) rfl, gw (tin3 (List.mem_of_getElem? (i := 160) (by decide +kernel))) rfl, gw (tin1 (List.mem_of_getElem? (i := 7) (by decide +kernel))) rfl, gw (tin3 (List.mem_of_getElem? (i := 161) (by decide +kernel))) rfl⟩, rfl, by decide +kernel, by decide +kernel⟩
theorem cn_X6_228 : Cond.constantLong RX6 228 3102 ∈ lw_gw := gw (tin3 (List.mem_of_getElem? (i := 166) (by decide +kernel))) rfl
theorem lk_X6_230 : LkV RX6 230 yX6_hashTable cX6_hashTable 7 (some .long) RX6 := ⟨⟨gw (tin3 (List.mem_of_getElem? (i := 167) (by decide +kernel))) rfl, gw (tin3 (List.mem_of_getElem? (i := 169) (by decide +kernel))) rfl, gw (List.mem_append_left _ (by decide +kernel)) rfl, gw (tin1 (List.mem_of_getElem? (i := 1) (by decide +kernel))) rfl, gw (tin3 (List.mem_of_getElem? (i := 170) (by decide +kernel))) rfl⟩, rfl, by decide +kernel, by decide +kernel⟩
theorem lk_X6_234 : LkV RX6 234 yX6_hashDiagram cX6_hashDiagram 7 (some .long) RX6 := ⟨⟨gw (tin3 (List.mem_of_getElem? (i := 182) (by decide +kernel))) rfl, gw (tin3 (List.mem_of_getElem? (i := 184) (by decide +kernel))) rfl, gw (List.mem_append_left _ (by decide +kernel)) rfl, gw (tin1 (List.mem_of_getElem? (i := 1) (by decide +kernel))) rfl, gw (tin3 (List.mem_of_getElem? (i := 185) (by decide +kernel))) rfl⟩, rfl, by decide +kernel, by decide +kernel⟩
theorem lk_X6_237 : LkV RX6 237 yX6_hashColourings cX6_hashColourings 6 (some .long) RX6 := ⟨⟨gw (tin3 (List.mem_of_getElem? (i := 190) (by decide +kernel))) rfl, gw (tin3 (List.mem_of_getElem? (i := 192) (by decide +kernel))) rfl, gw (List.mem_append_left _ (by decide +kernel)) rfl, gw (tin1 (List.mem_of_getElem? (i := 1) (by decide +kernel))) rfl, gw (tin3 (List.mem_of_getElem? (i := 193) (by decide +kernel))) rfl⟩, rfl, by decide +kernel, by decide +kernel⟩
theorem lk_X6_240 : LkV RX6 240 yX5_fillLinear cX5_fillLinear 5 none RX5 := ⟨⟨gw (tin1 (List.mem_of_getElem? (i := 199) (by decide +kernel))) rfl, gw (tin1 (List.mem_of_getElem? (i := 200) (by decide +kernel))) rfl, gw (tin1 (List.mem_of_getElem? (i := 201) (by decide +kernel))) rfl, gw (tin1 (List.mem_of_getElem? (i := 2) (by decide +kernel))) rfl, gw (tin1 (List.mem_of_getElem? (i := 202) (by decide +kernel))) rfl⟩, rfl, by decide +kernel, by decide +kernel⟩
theorem lk_X6_243 : LkV RX6 243 yX3_save cX3_save 3 none RX3 := ⟨⟨gw (tin1 (List.mem_of_getElem? (i := 180) (by decide +kernel))) rfl, gw (tin1 (List.mem_of_getElem? (i := 181) (by decide +kernel))) rfl, gw (tin1 (List.mem_of_getElem? (i := 182) (by decide +kernel))) rfl, gw (tin1 (List.mem_of_getElem? (i := 7) (by decide +kernel))) rfl, gw (tin1 (List.mem_of_getElem? (i := 183) (by decide +kernel))) rfl⟩, rfl, by decide +kernel, by decide +kernel⟩
theorem lk_X6_246 : LkV RX6 246 yX6_size cX6_size 1 (some .int) RX6 := ⟨⟨gw (tin3 (List.mem_of_getElem? (i := 171) (by decide +kernel))) rfl, gw (tin2 (List.mem_of_getElem? (i := 40) (by decide +kernel))) rfl, gw (tin2 (List.mem_of_getElem? (i := 41) (by decide +kernel))) rfl, gw (tin1 (List.mem_of_getElem? (i := 1) (by decide +kernel))) rfl, gw (tin2 (List.mem_of_getElem? (i := 42) (by decide +kernel))) rfl⟩, rfl, by decide +kernel, by decide +kernel⟩
theorem lk_X6_249 : LkS RX6 249 yX6_mix cX6_mix 3 (some .long) := ⟨⟨gw (tin3 (List.mem_of_getElem? (i := 172) (by decide +kernel))) rfl, gw (tin3 (List.mem_of_getElem? (i := 173) (by decide +kernel))) rfl, gw (tin1 (List.mem_of_getElem? (i := 1) (by decide +kernel))) rfl, gw (tin3 (List.mem_of_getElem? (i := 174) (by decide +kernel))) rfl⟩, by decide +kernel, by decide +kernel⟩
theorem lk_X6_253 : LkV RX6 253 yX6_violation cX6_violation 2 (some .int) RX6 := ⟨⟨gw (tin3 (List.mem_of_getElem? (i := 176) (by decide +kernel))) rfl, gw (tin2 (List.mem_of_getElem? (i := 53) (by decide +kernel))) rfl, gw (tin2 (List.mem_of_getElem? (i := 54) (by decide +kernel))) rfl, gw (tin1 (List.mem_of_getElem? (i := 1) (by decide +kernel))) rfl, gw (tin2 (List.mem_of_getElem? (i := 55) (by decide +kernel))) rfl⟩, rfl, by decide +kernel, by decide +kernel⟩
theorem lk_X6_256 : LkV RX6 256 yX6_tableComponents cX6_tableComponents 1 (some .int) RX6 := ⟨⟨gw (tin3 (List.mem_of_getElem? (i := 177) (by decide +kernel))) rfl, gw (tin2 (List.mem_of_getElem? (i := 73) (by decide +kernel))) rfl, gw (tin2 (List.mem_of_getElem? (i := 74) (by decide +kernel))) rfl, gw (tin1 (List.mem_of_getElem? (i := 1) (by decide +kernel))) rfl, gw (tin2 (List.mem_of_getElem? (i := 75) (by decide +kernel))) rfl⟩, rfl, by decide +kernel, by decide +kernel⟩
theorem lk_X6_259 : LkV RX6 259 yX6_generators cX6_generators 1 (some .int) RX6 := ⟨⟨gw (tin3 (List.mem_of_getElem? (i := 178) (by decide +kernel))) rfl, gw (tin2 (List.mem_of_getElem? (i := 94) (by decide +kernel))) rfl, gw (tin2 (List.mem_of_getElem? (i := 95) (by decide +kernel))) rfl, gw (tin1 (List.mem_of_getElem? (i := 1) (by decide +kernel))) rfl, gw (tin2 (List.mem_of_getElem? (i := 96) (by decide +kernel))) rfl⟩, rfl, by decide +kernel, by decide +kernel⟩
theorem lk_X6_262 : LkV RX6 262 yX6_translations cX6_translations 1 (some .int) RX6 := ⟨⟨gw (tin3 (List.mem_of_getElem? (i := 179) (by decide +kernel))) rfl, gw (tin2 (List.mem_of_getElem? (i := 121) (by decide +kernel))) rfl, gw (tin2 (List.mem_of_getElem? (i := 122) (by decide +kernel))) rfl, gw (tin1 (List.mem_of_getElem? (i := 1) (by decide +kernel))) rfl, gw (tin2 (List.mem_of_getElem? (i := 123) (by decide +kernel))) rfl⟩, rfl, by decide +kernel, by decide +kernel⟩
theorem lk_X6_265 : LkV RX6 265 yX6_innerGroup cX6_innerGroup 1 (some .int) RX6 := ⟨⟨gw (tin3 (List.mem_of_getElem? (i := 180) (by decide +kernel))) rfl, gw (tin2 (List.mem_of_getElem? (i := 137) (by decide +kernel))) rfl, gw (tin2 (List.mem_of_getElem? (i := 138) (by decide +kernel))) rfl, gw (tin1 (List.mem_of_getElem? (i := 1) (by decide +kernel))) rfl, gw (tin2 (List.mem_of_getElem? (i := 139) (by decide +kernel))) rfl⟩, rfl, by decide +kernel, by decide +kernel⟩
theorem lk_X6_268 : LkV RX6 268 yX6_automorphisms cX6_automorphisms 1 (some .int) RX6 := ⟨⟨gw (tin3 (List.mem_of_getElem? (i := 181) (by decide +kernel))) rfl, gw (tin2 (List.mem_of_getElem? (i := 158) (by decide +kernel))) rfl, gw (tin2 (List.mem_of_getElem? (i := 159) (by decide +kernel))) rfl, gw (tin1 (List.mem_of_getElem? (i := 1) (by decide +kernel))) rfl, gw (tin2 (List.mem_of_getElem? (i := 160) (by decide +kernel))) rfl⟩, rfl, by decide +kernel, by decide +kernel⟩
theorem lk_X6_271 : LkV RX6 271 yX6_arcs cX6_arcs 1 (some .int) RX6 := ⟨⟨gw (tin3 (List.mem_of_getElem? (i := 186) (by decide +kernel))) rfl, gw (tin2 (List.mem_of_getElem? (i := 236) (by decide +kernel))) rfl, gw (tin2 (List.mem_of_getElem? (i := 237) (by decide +kernel))) rfl, gw (tin1 (List.mem_of_getElem? (i := 1) (by decide +kernel))) rfl, gw (tin2 (List.mem_of_getElem? (i := 238) (by decide +kernel))) rfl⟩, rfl, by decide +kernel, by decide +kernel⟩
theorem lk_X6_274 : LkV RX6 274 yX6_crossings cX6_crossings 1 (some .int) RX6 := ⟨⟨gw (tin3 (List.mem_of_getElem? (i := 187) (by decide +kernel))) rfl, gw (tin3 (List.mem_of_getElem? (i := 0) (by decide +kernel))) rfl, gw (tin3 (List.mem_of_getElem? (i := 1) (by decide +kernel))) rfl, gw (tin1 (List.mem_of_getElem? (i := 1) (by decide +kernel))) rfl, gw (tin3 (List.mem_of_getElem? (i := 2) (by decide +kernel))) rfl⟩, rfl, by decide +kernel, by decide +kernel⟩
theorem lk_X6_277 : LkV RX6 277 yX6_components cX6_components 1 (some .int) RX6 := ⟨⟨gw (tin3 (List.mem_of_getElem? (i := 188) (by decide +kernel))) rfl, gw (tin3 (List.mem_of_getElem? (i := 9) (by decide +kernel))) rfl, gw (tin3 (List.mem_of_getElem? (i := 10) (by decide +kernel))) rfl, gw (tin1 (List.mem_of_getElem? (i := 1) (by decide +kernel))) rfl, gw (tin3 (List.mem_of_getElem? (i := 11) (by decide +kernel))) rfl⟩, rfl, by decide +kernel, by decide +kernel⟩
theorem lk_X6_280 : LkV RX6 280 yX6_writhe cX6_writhe 1 (some .int) RX6 := ⟨⟨gw (tin3 (List.mem_of_getElem? (i := 189) (by decide +kernel))) rfl, gw (tin3 (List.mem_of_getElem? (i := 29) (by decide +kernel))) rfl, gw (tin3 (List.mem_of_getElem? (i := 30) (by decide +kernel))) rfl, gw (tin1 (List.mem_of_getElem? (i := 1) (by decide +kernel))) rfl, gw (tin3 (List.mem_of_getElem? (i := 31) (by decide +kernel))) rfl⟩, rfl, by decide +kernel, by decide +kernel⟩
theorem cn_X6_283 : Cond.constantLong RX6 283 31 ∈ lw_gw := gw (tin3 (List.mem_of_getElem? (i := 175) (by decide +kernel))) rfl
theorem fl_X7_7 : Cond.fieldLink RX7 7 "KnotColoursModel" "state" "[I" ∈ lw_gw := gw (tin3 (List.mem_of_getElem? (i := 200) (by decide +kernel))) rfl
theorem fl_X7_13 : Cond.fieldLink RX7 13 "KnotColoursModel" "history" "[I" ∈ lw_gw := gw (tin3 (List.mem_of_getElem? (i := 201) (by decide +kernel))) rfl
theorem fl_X7_16 : Cond.fieldLink RX7 16 "KnotColoursModel" "text" "[I" ∈ lw_gw := gw (tin3 (List.mem_of_getElem? (i := 203) (by decide +kernel))) rfl
theorem fl_X7_19 : Cond.fieldLink RX7 19 "KnotColoursModel" "found" "[I" ∈ lw_gw := gw (tin3 (List.mem_of_getElem? (i := 205) (by decide +kernel))) rfl
theorem fl_X7_22 : Cond.fieldLink RX7 22 "KnotColoursModel" "image" "[I" ∈ lw_gw := gw (tin3 (List.mem_of_getElem? (i := 207) (by decide +kernel))) rfl
theorem fl_X7_25 : Cond.fieldLink RX7 25 "KnotColoursModel" "part" "[I" ∈ lw_gw := gw (tin3 (List.mem_of_getElem? (i := 208) (by decide +kernel))) rfl
theorem fl_X7_28 : Cond.fieldLink RX7 28 "KnotColoursModel" "colours" "[I" ∈ lw_gw := gw (tin3 (List.mem_of_getElem? (i := 209) (by decide +kernel))) rfl
theorem fl_X7_31 : Cond.fieldLink RX7 31 "KnotColoursModel" "recorded" "I" ∈ lw_gw := gw (tin3 (List.mem_of_getElem? (i := 202) (by decide +kernel))) rfl
theorem lk_X7_35 : LkS RX7 35 yX7_within cX7_within 3 (some .boolean) := ⟨⟨gw (tin4 (List.mem_of_getElem? (i := 13) (by decide +kernel))) rfl, gw (tin4 (List.mem_of_getElem? (i := 14) (by decide +kernel))) rfl, gw (tin1 (List.mem_of_getElem? (i := 8) (by decide +kernel))) rfl, gw (tin4 (List.mem_of_getElem? (i := 15) (by decide +kernel))) rfl⟩, by decide +kernel, by decide +kernel⟩
theorem lk_X7_39 : LkV RX7 39 yX7_record cX7_record 2 none RX7 := ⟨⟨gw (tin4 (List.mem_of_getElem? (i := 24) (by decide +kernel))) rfl, gw (tin4 (List.mem_of_getElem? (i := 26) (by decide +kernel))) rfl, gw (List.mem_append_left _ (by decide +kernel)) rfl, gw (tin1 (List.mem_of_getElem? (i := 8) (by decide +kernel))) rfl, gw (tin4 (List.mem_of_getElem? (i := 27) (by decide +kernel))) rfl⟩, rfl, by decide +kernel, by decide +kernel⟩
theorem lk_X7_42 : LkV RX7 42 yX7_setTimes cX7_setTimes 4 none RX7 := ⟨⟨gw (tin4 (List.mem_of_getElem? (i := 28) (by decide +kernel))) rfl, gw (tin4 (List.mem_of_getElem? (i := 30) (by decide +kernel))) rfl, gw (List.mem_append_left _ (by decide +kernel)) rfl, gw (tin1 (List.mem_of_getElem? (i := 8) (by decide +kernel))) rfl, gw (tin4 (List.mem_of_getElem? (i := 31) (by decide +kernel))) rfl⟩, rfl, by decide +kernel, by decide +kernel⟩
theorem lk_X7_46 : LkV RX7 46 yX7_makes cX7_makes 8 (some .int) RX7 := ⟨⟨gw (tin4 (List.mem_of_getElem? (i := 20) (by decide +kernel))) rfl, gw (tin4 (List.mem_of_getElem? (i := 22) (by decide +kernel))) rfl, gw (List.mem_append_left _ (by decide +kernel)) rfl, gw (tin1 (List.mem_of_getElem? (i := 8) (by decide +kernel))) rfl, gw (tin4 (List.mem_of_getElem? (i := 23) (by decide +kernel))) rfl⟩, rfl, by decide +kernel, by decide +kernel⟩
theorem lk_X7_50 : LkV RX7 50 yX7_makesTrivial cX7_makesTrivial 2 (some .int) RX7 := ⟨⟨gw (tin4 (List.mem_of_getElem? (i := 16) (by decide +kernel))) rfl, gw (tin4 (List.mem_of_getElem? (i := 18) (by decide +kernel))) rfl, gw (List.mem_append_left _ (by decide +kernel)) rfl, gw (tin1 (List.mem_of_getElem? (i := 8) (by decide +kernel))) rfl, gw (tin4 (List.mem_of_getElem? (i := 19) (by decide +kernel))) rfl⟩, rfl, by decide +kernel, by decide +kernel⟩
theorem lk_X7_54 : LkS RX7 54 yX7_pairOf cX7_pairOf 7 (some .int) := ⟨⟨gw (tin4 (List.mem_of_getElem? (i := 48) (by decide +kernel))) rfl, gw (tin4 (List.mem_of_getElem? (i := 49) (by decide +kernel))) rfl, gw (tin1 (List.mem_of_getElem? (i := 8) (by decide +kernel))) rfl, gw (tin4 (List.mem_of_getElem? (i := 50) (by decide +kernel))) rfl⟩, by decide +kernel, by decide +kernel⟩
theorem lk_X7_57 : LkS RX7 57 yX7_replaced cX7_replaced 3 (some .int) := ⟨⟨gw (tin4 (List.mem_of_getElem? (i := 51) (by decide +kernel))) rfl, gw (tin4 (List.mem_of_getElem? (i := 52) (by decide +kernel))) rfl, gw (tin1 (List.mem_of_getElem? (i := 8) (by decide +kernel))) rfl, gw (tin4 (List.mem_of_getElem? (i := 53) (by decide +kernel))) rfl⟩, by decide +kernel, by decide +kernel⟩
theorem lk_X7_60 : LkV RX7 60 yX7_laysPair cX7_laysPair 7 none RX7 := ⟨⟨gw (tin4 (List.mem_of_getElem? (i := 44) (by decide +kernel))) rfl, gw (tin4 (List.mem_of_getElem? (i := 46) (by decide +kernel))) rfl, gw (List.mem_append_left _ (by decide +kernel)) rfl, gw (tin1 (List.mem_of_getElem? (i := 8) (by decide +kernel))) rfl, gw (tin4 (List.mem_of_getElem? (i := 47) (by decide +kernel))) rfl⟩, rfl, by decide +kernel, by decide +kernel⟩
theorem lk_X7_63 : LkV RX7 63 yX7_isElement cX7_isElement 2 (some .boolean) RX7 := ⟨⟨gw (tin4 (List.mem_of_getElem? (i := 58) (by decide +kernel))) rfl, gw (tin4 (List.mem_of_getElem? (i := 60) (by decide +kernel))) rfl, gw (List.mem_append_left _ (by decide +kernel)) rfl, gw (tin1 (List.mem_of_getElem? (i := 8) (by decide +kernel))) rfl, gw (tin4 (List.mem_of_getElem? (i := 61) (by decide +kernel))) rfl⟩, rfl, by decide +kernel, by decide +kernel⟩
theorem lk_X7_67 : LkV RX7 67 yX7_times cX7_times 3 (some .int) RX7 := ⟨⟨gw (tin4 (List.mem_of_getElem? (i := 62) (by decide +kernel))) rfl, gw (tin4 (List.mem_of_getElem? (i := 64) (by decide +kernel))) rfl, gw (List.mem_append_left _ (by decide +kernel)) rfl, gw (tin1 (List.mem_of_getElem? (i := 8) (by decide +kernel))) rfl, gw (tin4 (List.mem_of_getElem? (i := 65) (by decide +kernel))) rfl⟩, rfl, by decide +kernel, by decide +kernel⟩
theorem lk_X7_71 : LkS RX7 71 yX7_bits cX7_bits 3 (some .int) := ⟨⟨gw (tin4 (List.mem_of_getElem? (i := 78) (by decide +kernel))) rfl, gw (tin4 (List.mem_of_getElem? (i := 79) (by decide +kernel))) rfl, gw (tin1 (List.mem_of_getElem? (i := 8) (by decide +kernel))) rfl, gw (tin4 (List.mem_of_getElem? (i := 80) (by decide +kernel))) rfl⟩, by decide +kernel, by decide +kernel⟩
theorem lk_X7_74 : LkV RX7 74 yX7_isPermutation cX7_isPermutation 4 (some .boolean) RX7 := ⟨⟨gw (tin4 (List.mem_of_getElem? (i := 74) (by decide +kernel))) rfl, gw (tin4 (List.mem_of_getElem? (i := 76) (by decide +kernel))) rfl, gw (List.mem_append_left _ (by decide +kernel)) rfl, gw (tin1 (List.mem_of_getElem? (i := 8) (by decide +kernel))) rfl, gw (tin4 (List.mem_of_getElem? (i := 77) (by decide +kernel))) rfl⟩, rfl, by decide +kernel, by decide +kernel⟩
theorem lk_X7_77 : LkV RX7 77 yX7_violatesFirst cX7_violatesFirst 3 (some .int) RX7 := ⟨⟨gw (tin4 (List.mem_of_getElem? (i := 105) (by decide +kernel))) rfl, gw (tin4 (List.mem_of_getElem? (i := 107) (by decide +kernel))) rfl, gw (List.mem_append_left _ (by decide +kernel)) rfl, gw (tin1 (List.mem_of_getElem? (i := 8) (by decide +kernel))) rfl, gw (tin4 (List.mem_of_getElem? (i := 108) (by decide +kernel))) rfl⟩, rfl, by decide +kernel, by decide +kernel⟩
theorem lk_X7_81 : LkV RX7 81 yX7_violatesSecond cX7_violatesSecond 3 (some .int) RX7 := ⟨⟨gw (tin4 (List.mem_of_getElem? (i := 70) (by decide +kernel))) rfl, gw (tin4 (List.mem_of_getElem? (i := 72) (by decide +kernel))) rfl, gw (List.mem_append_left _ (by decide +kernel)) rfl, gw (tin1 (List.mem_of_getElem? (i := 8) (by decide +kernel))) rfl, gw (tin4 (List.mem_of_getElem? (i := 73) (by decide +kernel))) rfl⟩, rfl, by decide +kernel, by decide +kernel⟩
theorem lk_X7_84 : LkV RX7 84 yX7_violatesThird cX7_violatesThird 4 (some .int) RX7 := ⟨⟨gw (tin4 (List.mem_of_getElem? (i := 109) (by decide +kernel))) rfl, gw (tin4 (List.mem_of_getElem? (i := 111) (by decide +kernel))) rfl, gw (List.mem_append_left _ (by decide +kernel)) rfl, gw (tin1 (List.mem_of_getElem? (i := 8) (by decide +kernel))) rfl, gw (tin4 (List.mem_of_getElem? (i := 112) (by decide +kernel))) rfl⟩, rfl, by decide +kernel, by decide +kernel⟩
theorem lk_X7_87 : LkV RX7 87 yX7_dividedBy cX7_dividedBy 5 (some .int) RX7 := ⟨⟨gw (tin4 (List.mem_of_getElem? (i := 81) (by decide +kernel))) rfl, gw (tin4 (List.mem_of_getElem? (i := 83) (by decide +kernel))) rfl, gw (List.mem_append_left _ (by decide +kernel)) rfl, gw (tin1 (List.mem_of_getElem? (i := 8) (by decide +kernel))) rfl, gw (tin4 (List.mem_of_getElem? (i := 84) (by decide +kernel))) rfl⟩, rfl, by decide +kernel, by decide +kernel⟩
theorem lk_X7_90 : LkV RX7 90 yX7_violates cX7_violates 2 (some .int) RX7 := ⟨⟨gw (tin4 (List.mem_of_getElem? (i := 101) (by decide +kernel))) rfl, gw (tin4 (List.mem_of_getElem? (i := 103) (by decide +kernel))) rfl, gw (List.mem_append_left _ (by decide +kernel)) rfl, gw (tin1 (List.mem_of_getElem? (i := 8) (by decide +kernel))) rfl, gw (tin4 (List.mem_of_getElem? (i := 104) (by decide +kernel))) rfl⟩, rfl, by decide +kernel, by decide +kernel⟩
theorem lk_X7_93 : LkV RX7 93 yX7_aloneAll cX7_aloneAll 3 none RX7 := ⟨⟨gw (tin4 (List.mem_of_getElem? (i := 125) (by decide +kernel))) rfl, gw (tin4 (List.mem_of_getElem? (i := 127) (by decide +kernel))) rfl, gw (List.mem_append_left _ (by decide +kernel)) rfl, gw (tin1 (List.mem_of_getElem? (i := 8) (by decide +kernel))) rfl, gw (tin4 (List.mem_of_getElem? (i := 128) (by decide +kernel))) rfl⟩, rfl, by decide +kernel, by decide +kernel⟩
theorem lk_X7_97 : LkV RX7 97 yX7_joins cX7_joins 7 none RX7 := ⟨⟨gw (tin4 (List.mem_of_getElem? (i := 129) (by decide +kernel))) rfl, gw (tin4 (List.mem_of_getElem? (i := 131) (by decide +kernel))) rfl, gw (List.mem_append_left _ (by decide +kernel)) rfl, gw (tin1 (List.mem_of_getElem? (i := 8) (by decide +kernel))) rfl, gw (tin4 (List.mem_of_getElem? (i := 132) (by decide +kernel))) rfl⟩, rfl, by decide +kernel, by decide +kernel⟩
theorem lk_X7_100 : LkV RX7 100 yX7_partsMany cX7_partsMany 4 (some .int) RX7 := ⟨⟨gw (tin4 (List.mem_of_getElem? (i := 133) (by decide +kernel))) rfl, gw (tin4 (List.mem_of_getElem? (i := 135) (by decide +kernel))) rfl, gw (List.mem_append_left _ (by decide +kernel)) rfl, gw (tin1 (List.mem_of_getElem? (i := 8) (by decide +kernel))) rfl, gw (tin4 (List.mem_of_getElem? (i := 136) (by decide +kernel))) rfl⟩, rfl, by decide +kernel, by decide +kernel⟩
theorem lk_X7_103 : LkV RX7 103 yX7_componentsOfTable cX7_componentsOfTable 3 (some .int) RX7 := ⟨⟨gw (tin4 (List.mem_of_getElem? (i := 121) (by decide +kernel))) rfl, gw (tin4 (List.mem_of_getElem? (i := 123) (by decide +kernel))) rfl, gw (List.mem_append_left _ (by decide +kernel)) rfl, gw (tin1 (List.mem_of_getElem? (i := 8) (by decide +kernel))) rfl, gw (tin4 (List.mem_of_getElem? (i := 124) (by decide +kernel))) rfl⟩, rfl, by decide +kernel, by decide +kernel⟩
theorem lk_X7_106 : LkV RX7 106 yX7_closureOf cX7_closureOf 6 (some .int) RX7 := ⟨⟨gw (tin4 (List.mem_of_getElem? (i := 141) (by decide +kernel))) rfl, gw (tin4 (List.mem_of_getElem? (i := 143) (by decide +kernel))) rfl, gw (List.mem_append_left _ (by decide +kernel)) rfl, gw (tin1 (List.mem_of_getElem? (i := 8) (by decide +kernel))) rfl, gw (tin4 (List.mem_of_getElem? (i := 144) (by decide +kernel))) rfl⟩, rfl, by decide +kernel, by decide +kernel⟩
theorem lk_X7_109 : LkV RX7 109 yX7_fewestGenerators cX7_fewestGenerators 4 (some .int) RX7 := ⟨⟨gw (tin4 (List.mem_of_getElem? (i := 149) (by decide +kernel))) rfl, gw (tin4 (List.mem_of_getElem? (i := 151) (by decide +kernel))) rfl, gw (List.mem_append_left _ (by decide +kernel)) rfl, gw (tin1 (List.mem_of_getElem? (i := 8) (by decide +kernel))) rfl, gw (tin4 (List.mem_of_getElem? (i := 152) (by decide +kernel))) rfl⟩, rfl, by decide +kernel, by decide +kernel⟩
theorem lk_X7_112 : LkV RX7 112 yX7_differentTranslations cX7_differentTranslations 7 (some .int) RX7 := ⟨⟨gw (tin4 (List.mem_of_getElem? (i := 161) (by decide +kernel))) rfl, gw (tin4 (List.mem_of_getElem? (i := 163) (by decide +kernel))) rfl, gw (List.mem_append_left _ (by decide +kernel)) rfl, gw (tin1 (List.mem_of_getElem? (i := 8) (by decide +kernel))) rfl, gw (tin4 (List.mem_of_getElem? (i := 164) (by decide +kernel))) rfl⟩, rfl, by decide +kernel, by decide +kernel⟩
theorem fl_X7_115 : Cond.fieldLink RX7 115 "KnotColoursModel" "foundMany" "I" ∈ lw_gw := gw (tin3 (List.mem_of_getElem? (i := 206) (by decide +kernel))) rfl
theorem lk_X7_118 : LkV RX7 118 yX7_keepsFound cX7_keepsFound 4 none RX7 := ⟨⟨gw (tin4 (List.mem_of_getElem? (i := 173) (by decide +kernel))) rfl, gw (tin4 (List.mem_of_getElem? (i := 175) (by decide +kernel))) rfl, gw (List.mem_append_left _ (by decide +kernel)) rfl, gw (tin1 (List.mem_of_getElem? (i := 8) (by decide +kernel))) rfl, gw (tin4 (List.mem_of_getElem? (i := 176) (by decide +kernel))) rfl⟩, rfl, by decide +kernel, by decide +kernel⟩
theorem lk_X7_121 : LkV RX7 121 yX7_unpacks cX7_unpacks 4 none RX7 := ⟨⟨gw (tin4 (List.mem_of_getElem? (i := 177) (by decide +kernel))) rfl, gw (tin4 (List.mem_of_getElem? (i := 179) (by decide +kernel))) rfl, gw (List.mem_append_left _ (by decide +kernel)) rfl, gw (tin1 (List.mem_of_getElem? (i := 8) (by decide +kernel))) rfl, gw (tin4 (List.mem_of_getElem? (i := 180) (by decide +kernel))) rfl⟩, rfl, by decide +kernel, by decide +kernel⟩
theorem lk_X7_124 : LkV RX7 124 yX7_packed cX7_packed 4 (some .int) RX7 := ⟨⟨gw (tin4 (List.mem_of_getElem? (i := 181) (by decide +kernel))) rfl, gw (tin4 (List.mem_of_getElem? (i := 183) (by decide +kernel))) rfl, gw (List.mem_append_left _ (by decide +kernel)) rfl, gw (tin1 (List.mem_of_getElem? (i := 8) (by decide +kernel))) rfl, gw (tin4 (List.mem_of_getElem? (i := 184) (by decide +kernel))) rfl⟩, rfl, by decide +kernel, by decide +kernel⟩
theorem lk_X7_127 : LkV RX7 127 yX7_groupSize cX7_groupSize 4 (some .int) RX7 := ⟨⟨gw (tin4 (List.mem_of_getElem? (i := 169) (by decide +kernel))) rfl, gw (tin4 (List.mem_of_getElem? (i := 171) (by decide +kernel))) rfl, gw (List.mem_append_left _ (by decide +kernel)) rfl, gw (tin1 (List.mem_of_getElem? (i := 8) (by decide +kernel))) rfl, gw (tin4 (List.mem_of_getElem? (i := 172) (by decide +kernel))) rfl⟩, rfl, by decide +kernel, by decide +kernel⟩
theorem lk_X7_130 : LkV RX7 130 yX7_isAutomorphism cX7_isAutomorphism 5 (some .boolean) RX7 := ⟨⟨gw (tin4 (List.mem_of_getElem? (i := 193) (by decide +kernel))) rfl, gw (tin4 (List.mem_of_getElem? (i := 195) (by decide +kernel))) rfl, gw (List.mem_append_left _ (by decide +kernel)) rfl, gw (tin1 (List.mem_of_getElem? (i := 8) (by decide +kernel))) rfl, gw (tin4 (List.mem_of_getElem? (i := 196) (by decide +kernel))) rfl⟩, rfl, by decide +kernel, by decide +kernel⟩
theorem lk_X7_134 : LkV RX7 134 yX7_automorphismsMany cX7_automorphismsMany 4 (some .int) RX7 := ⟨⟨gw (tin4 (List.mem_of_getElem? (i := 189) (by decide +kernel))) rfl, gw (tin4 (List.mem_of_getElem? (i := 191) (by decide +kernel))) rfl, gw (List.mem_append_left _ (by decide +kernel)) rfl, gw (tin1 (List.mem_of_getElem? (i := 8) (by decide +kernel))) rfl, gw (tin4 (List.mem_of_getElem? (i := 192) (by decide +kernel))) rfl⟩, rfl, by decide +kernel, by decide +kernel⟩
theorem lk_X7_137 : LkV RX7 137 yX7_clears cX7_clears 3 none RX7 := ⟨⟨gw (tin4 (List.mem_of_getElem? (i := 201) (by decide +kernel))) rfl, gw (tin4 (List.mem_of_getElem? (i := 203) (by decide +kernel))) rfl, gw (List.mem_append_left _ (by decide +kernel)) rfl, gw (tin1 (List.mem_of_getElem? (i := 8) (by decide +kernel))) rfl, gw (tin4 (List.mem_of_getElem? (i := 204) (by decide +kernel))) rfl⟩, rfl, by decide +kernel, by decide +kernel⟩
theorem lk_X7_140 : LkV RX7 140 yX7_adds cX7_adds 6 none RX7 := ⟨⟨gw (tin4 (List.mem_of_getElem? (i := 209) (by decide +kernel))) rfl, gw (tin4 (List.mem_of_getElem? (i := 211) (by decide +kernel))) rfl, gw (List.mem_append_left _ (by decide +kernel)) rfl, gw (tin1 (List.mem_of_getElem? (i := 8) (by decide +kernel))) rfl, gw (tin4 (List.mem_of_getElem? (i := 212) (by decide +kernel))) rfl⟩, rfl, by decide +kernel, by decide +kernel⟩
theorem lk_X7_144 : LkV RX7 144 yX7_isArc cX7_isArc 2 (some .boolean) RX7 := ⟨⟨gw (tin4 (List.mem_of_getElem? (i := 217) (by decide +kernel))) rfl, gw (tin4 (List.mem_of_getElem? (i := 219) (by decide +kernel))) rfl, gw (List.mem_append_left _ (by decide +kernel)) rfl, gw (tin1 (List.mem_of_getElem? (i := 8) (by decide +kernel))) rfl, gw (tin4 (List.mem_of_getElem? (i := 220) (by decide +kernel))) rfl⟩, rfl, by decide +kernel, by decide +kernel⟩
theorem lk_X7_147 : LkS RX7 147 yX7_isSign cX7_isSign 1 (some .boolean) := ⟨⟨gw (tin4 (List.mem_of_getElem? (i := 221) (by decide +kernel))) rfl, gw (tin4 (List.mem_of_getElem? (i := 222) (by decide +kernel))) rfl, gw (tin1 (List.mem_of_getElem? (i := 8) (by decide +kernel))) rfl, gw (tin4 (List.mem_of_getElem? (i := 223) (by decide +kernel))) rfl⟩, by decide +kernel, by decide +kernel⟩
theorem lk_X7_150 : LkV RX7 150 yX7_isCrossing cX7_isCrossing 2 (some .boolean) RX7 := ⟨⟨gw (tin4 (List.mem_of_getElem? (i := 228) (by decide +kernel))) rfl, gw (tin4 (List.mem_of_getElem? (i := 230) (by decide +kernel))) rfl, gw (List.mem_append_left _ (by decide +kernel)) rfl, gw (tin1 (List.mem_of_getElem? (i := 8) (by decide +kernel))) rfl, gw (tin4 (List.mem_of_getElem? (i := 231) (by decide +kernel))) rfl⟩, rfl, by decide +kernel, by decide +kernel⟩
theorem lk_X7_153 : LkV RX7 153 yX7_crossingPart cX7_crossingPart 3 (some .int) RX7 := ⟨⟨gw (tin5 (List.mem_of_getElem? (i := 0) (by decide +kernel))) rfl, gw (tin5 (List.mem_of_getElem? (i := 2) (by decide +kernel))) rfl, gw (List.mem_append_left _ (by decide +kernel)) rfl, gw (tin1 (List.mem_of_getElem? (i := 8) (by decide +kernel))) rfl, gw (tin5 (List.mem_of_getElem? (i := 3) (by decide +kernel))) rfl⟩, rfl, by decide +kernel, by decide +kernel⟩
theorem lk_X7_156 : LkV RX7 156 yX7_moves cX7_moves 4 none RX7 := ⟨⟨gw (tin4 (List.mem_of_getElem? (i := 236) (by decide +kernel))) rfl, gw (tin4 (List.mem_of_getElem? (i := 238) (by decide +kernel))) rfl, gw (List.mem_append_left _ (by decide +kernel)) rfl, gw (tin1 (List.mem_of_getElem? (i := 8) (by decide +kernel))) rfl, gw (tin4 (List.mem_of_getElem? (i := 239) (by decide +kernel))) rfl⟩, rfl, by decide +kernel, by decide +kernel⟩
theorem lk_X7_160 : LkV RX7 160 yX7_isClosed cX7_isClosed 6 (some .boolean) RX7 := ⟨⟨gw (tin5 (List.mem_of_getElem? (i := 28) (by decide +kernel))) rfl, gw (tin5 (List.mem_of_getElem? (i := 30) (by decide +kernel))) rfl, gw (List.mem_append_left _ (by decide +kernel)) rfl, gw (tin1 (List.mem_of_getElem? (i := 8) (by decide +kernel))) rfl, gw (tin5 (List.mem_of_getElem? (i := 31) (by decide +kernel))) rfl⟩, rfl, by decide +kernel, by decide +kernel⟩
theorem lk_X7_163 : LkV RX7 163 yX7_findParts cX7_findParts 2 none RX7 := ⟨⟨gw (tin5 (List.mem_of_getElem? (i := 32) (by decide +kernel))) rfl, gw (tin5 (List.mem_of_getElem? (i := 34) (by decide +kernel))) rfl, gw (List.mem_append_left _ (by decide +kernel)) rfl, gw (tin1 (List.mem_of_getElem? (i := 8) (by decide +kernel))) rfl, gw (tin5 (List.mem_of_getElem? (i := 35) (by decide +kernel))) rfl⟩, rfl, by decide +kernel, by decide +kernel⟩
theorem lk_X7_166 : LkV RX7 166 yX7_componentsNow cX7_componentsNow 1 (some .int) RX7 := ⟨⟨gw (tin5 (List.mem_of_getElem? (i := 24) (by decide +kernel))) rfl, gw (tin5 (List.mem_of_getElem? (i := 26) (by decide +kernel))) rfl, gw (List.mem_append_left _ (by decide +kernel)) rfl, gw (tin1 (List.mem_of_getElem? (i := 8) (by decide +kernel))) rfl, gw (tin5 (List.mem_of_getElem? (i := 27) (by decide +kernel))) rfl⟩, rfl, by decide +kernel, by decide +kernel⟩
theorem lk_X7_169 : LkV RX7 169 yX7_writheNow cX7_writheNow 3 (some .int) RX7 := ⟨⟨gw (tin5 (List.mem_of_getElem? (i := 40) (by decide +kernel))) rfl, gw (tin5 (List.mem_of_getElem? (i := 42) (by decide +kernel))) rfl, gw (List.mem_append_left _ (by decide +kernel)) rfl, gw (tin1 (List.mem_of_getElem? (i := 8) (by decide +kernel))) rfl, gw (tin5 (List.mem_of_getElem? (i := 43) (by decide +kernel))) rfl⟩, rfl, by decide +kernel, by decide +kernel⟩
theorem lk_X7_172 : LkV RX7 172 yX7_beginsColours cX7_beginsColours 2 none RX7 := ⟨⟨gw (tin5 (List.mem_of_getElem? (i := 56) (by decide +kernel))) rfl, gw (tin5 (List.mem_of_getElem? (i := 58) (by decide +kernel))) rfl, gw (List.mem_append_left _ (by decide +kernel)) rfl, gw (tin1 (List.mem_of_getElem? (i := 8) (by decide +kernel))) rfl, gw (tin5 (List.mem_of_getElem? (i := 59) (by decide +kernel))) rfl⟩, rfl, by decide +kernel, by decide +kernel⟩
theorem lk_X7_175 : LkV RX7 175 yX7_usedColours cX7_usedColours 3 (some .int) RX7 := ⟨⟨gw (tin5 (List.mem_of_getElem? (i := 60) (by decide +kernel))) rfl, gw (tin5 (List.mem_of_getElem? (i := 62) (by decide +kernel))) rfl, gw (List.mem_append_left _ (by decide +kernel)) rfl, gw (tin1 (List.mem_of_getElem? (i := 8) (by decide +kernel))) rfl, gw (tin5 (List.mem_of_getElem? (i := 63) (by decide +kernel))) rfl⟩, rfl, by decide +kernel, by decide +kernel⟩
theorem lk_X7_178 : LkV RX7 178 yX7_isColouring cX7_isColouring 6 (some .boolean) RX7 := ⟨⟨gw (tin5 (List.mem_of_getElem? (i := 64) (by decide +kernel))) rfl, gw (tin5 (List.mem_of_getElem? (i := 66) (by decide +kernel))) rfl, gw (List.mem_append_left _ (by decide +kernel)) rfl, gw (tin1 (List.mem_of_getElem? (i := 8) (by decide +kernel))) rfl, gw (tin5 (List.mem_of_getElem? (i := 67) (by decide +kernel))) rfl⟩, rfl, by decide +kernel, by decide +kernel⟩
theorem lk_X7_181 : LkV RX7 181 yX7_goesOnColours cX7_goesOnColours 2 (some .boolean) RX7 := ⟨⟨gw (tin5 (List.mem_of_getElem? (i := 68) (by decide +kernel))) rfl, gw (tin5 (List.mem_of_getElem? (i := 70) (by decide +kernel))) rfl, gw (List.mem_append_left _ (by decide +kernel)) rfl, gw (tin1 (List.mem_of_getElem? (i := 8) (by decide +kernel))) rfl, gw (tin5 (List.mem_of_getElem? (i := 71) (by decide +kernel))) rfl⟩, rfl, by decide +kernel, by decide +kernel⟩
theorem lk_X7_184 : LkV RX7 184 yX7_counts cX7_counts 7 (some .int) RX7 := ⟨⟨gw (tin5 (List.mem_of_getElem? (i := 52) (by decide +kernel))) rfl, gw (tin5 (List.mem_of_getElem? (i := 54) (by decide +kernel))) rfl, gw (List.mem_append_left _ (by decide +kernel)) rfl, gw (tin1 (List.mem_of_getElem? (i := 8) (by decide +kernel))) rfl, gw (tin5 (List.mem_of_getElem? (i := 55) (by decide +kernel))) rfl⟩, rfl, by decide +kernel, by decide +kernel⟩
theorem fl_X7_187 : Cond.fieldLink RX7 187 "KnotColoursModel" "textLength" "I" ∈ lw_gw := gw (tin3 (List.mem_of_getElem? (i := 204) (by decide +kernel))) rfl
theorem fl_X7_190 : Cond.fieldLink RX7 190 "KnotColoursModel" "at" "I" ∈ lw_gw := gw (tin3 (List.mem_of_getElem? (i := 210) (by decide +kernel))) rfl
theorem lk_X7_193 : LkV RX7 193 yX7_character cX7_character 2 (some .int) RX7 := ⟨⟨gw (tin5 (List.mem_of_getElem? (i := 112) (by decide +kernel))) rfl, gw (tin5 (List.mem_of_getElem? (i := 114) (by decide +kernel))) rfl, gw (List.mem_append_left _ (by decide +kernel)) rfl, gw (tin1 (List.mem_of_getElem? (i := 8) (by decide +kernel))) rfl, gw (tin5 (List.mem_of_getElem? (i := 115) (by decide +kernel))) rfl⟩, rfl, by decide +kernel, by decide +kernel⟩
theorem lk_X7_196 : LkV RX7 196 yX7_arcRead cX7_arcRead 2 (some .int) RX7 := ⟨⟨gw (tin5 (List.mem_of_getElem? (i := 108) (by decide +kernel))) rfl, gw (tin5 (List.mem_of_getElem? (i := 110) (by decide +kernel))) rfl, gw (List.mem_append_left _ (by decide +kernel)) rfl, gw (tin1 (List.mem_of_getElem? (i := 8) (by decide +kernel))) rfl, gw (tin5 (List.mem_of_getElem? (i := 111) (by decide +kernel))) rfl⟩, rfl, by decide +kernel, by decide +kernel⟩
theorem fl_X7_199 : Cond.fieldLink RX7 199 "KnotColoursModel" "overRead" "I" ∈ lw_gw := gw (tin3 (List.mem_of_getElem? (i := 212) (by decide +kernel))) rfl
theorem lk_X7_202 : LkV RX7 202 yX7_isNext cX7_isNext 3 (some .boolean) RX7 := ⟨⟨gw (tin5 (List.mem_of_getElem? (i := 116) (by decide +kernel))) rfl, gw (tin5 (List.mem_of_getElem? (i := 118) (by decide +kernel))) rfl, gw (List.mem_append_left _ (by decide +kernel)) rfl, gw (tin1 (List.mem_of_getElem? (i := 8) (by decide +kernel))) rfl, gw (tin5 (List.mem_of_getElem? (i := 119) (by decide +kernel))) rfl⟩, rfl, by decide +kernel, by decide +kernel⟩
theorem fl_X7_205 : Cond.fieldLink RX7 205 "KnotColoursModel" "inRead" "I" ∈ lw_gw := gw (tin3 (List.mem_of_getElem? (i := 213) (by decide +kernel))) rfl
theorem fl_X7_208 : Cond.fieldLink RX7 208 "KnotColoursModel" "outRead" "I" ∈ lw_gw := gw (tin3 (List.mem_of_getElem? (i := 214) (by decide +kernel))) rfl
theorem fl_X7_211 : Cond.fieldLink RX7 211 "KnotColoursModel" "signRead" "I" ∈ lw_gw := gw (tin3 (List.mem_of_getElem? (i := 215) (by decide +kernel))) rfl
theorem fl_X7_214 : Cond.fieldLink RX7 214 "KnotColoursModel" "crossingsRead" "I" ∈ lw_gw := gw (tin3 (List.mem_of_getElem? (i := 211) (by decide +kernel))) rfl
theorem lk_X7_217 : LkV RX7 217 yX7_readsCrossing cX7_readsCrossing 1 (some .boolean) RX7 := ⟨⟨gw (tin5 (List.mem_of_getElem? (i := 104) (by decide +kernel))) rfl, gw (tin5 (List.mem_of_getElem? (i := 106) (by decide +kernel))) rfl, gw (List.mem_append_left _ (by decide +kernel)) rfl, gw (tin1 (List.mem_of_getElem? (i := 8) (by decide +kernel))) rfl, gw (tin5 (List.mem_of_getElem? (i := 107) (by decide +kernel))) rfl⟩, rfl, by decide +kernel, by decide +kernel⟩
theorem lk_X7_220 : LkV RX7 220 yX7_findError cX7_findError 1 (some .int) RX7 := ⟨⟨gw (tin5 (List.mem_of_getElem? (i := 100) (by decide +kernel))) rfl, gw (tin5 (List.mem_of_getElem? (i := 102) (by decide +kernel))) rfl, gw (List.mem_append_left _ (by decide +kernel)) rfl, gw (tin1 (List.mem_of_getElem? (i := 8) (by decide +kernel))) rfl, gw (tin5 (List.mem_of_getElem? (i := 103) (by decide +kernel))) rfl⟩, rfl, by decide +kernel, by decide +kernel⟩
theorem cn_X7_223 : Cond.constantLong RX7 223 3102 ∈ lw_gw := gw (tin5 (List.mem_of_getElem? (i := 132) (by decide +kernel))) rfl
theorem cn_X7_225 : Cond.constantLong RX7 225 31 ∈ lw_gw := gw (tin5 (List.mem_of_getElem? (i := 133) (by decide +kernel))) rfl
theorem cn_J6_265 : Cond.constant RJ6 265 1431655765 ∈ lw_gw := gw (tin2 (List.mem_of_getElem? (i := 105) (by decide +kernel))) rfl
theorem cn_J6_266 : Cond.constant RJ6 266 858993459 ∈ lw_gw := gw (tin2 (List.mem_of_getElem? (i := 106) (by decide +kernel))) rfl
theorem cn_J6_267 : Cond.constant RJ6 267 252645135 ∈ lw_gw := gw (tin2 (List.mem_of_getElem? (i := 107) (by decide +kernel))) rfl
theorem lk_L_13 : LkV RL 13 yX6_trivial cX6_trivial 2 (some .int) RX6 := ⟨⟨gw (tin1 (List.mem_of_getElem? (i := 165) (by decide +kernel))) rfl, gw (tin1 (List.mem_of_getElem? (i := 166) (by decide +kernel))) rfl, gw (tin1 (List.mem_of_getElem? (i := 167) (by decide +kernel))) rfl, gw (tin1 (List.mem_of_getElem? (i := 1) (by decide +kernel))) rfl, gw (tin1 (List.mem_of_getElem? (i := 168) (by decide +kernel))) rfl⟩, rfl, by decide +kernel, by decide +kernel⟩
theorem lk_L_17 : LkV RL 17 yX7_trivial cX7_trivial 2 (some .int) RX7 := ⟨⟨gw (tin4 (List.mem_of_getElem? (i := 9) (by decide +kernel))) rfl, gw (tin4 (List.mem_of_getElem? (i := 10) (by decide +kernel))) rfl, gw (tin4 (List.mem_of_getElem? (i := 11) (by decide +kernel))) rfl, gw (tin1 (List.mem_of_getElem? (i := 8) (by decide +kernel))) rfl, gw (tin4 (List.mem_of_getElem? (i := 12) (by decide +kernel))) rfl⟩, rfl, by decide +kernel, by decide +kernel⟩
theorem lk_L_18 : LkV RL 18 yX6_dihedral cX6_dihedral 2 (some .int) RX6 := ⟨⟨gw (tin1 (List.mem_of_getElem? (i := 210) (by decide +kernel))) rfl, gw (tin1 (List.mem_of_getElem? (i := 211) (by decide +kernel))) rfl, gw (tin1 (List.mem_of_getElem? (i := 212) (by decide +kernel))) rfl, gw (tin1 (List.mem_of_getElem? (i := 1) (by decide +kernel))) rfl, gw (tin1 (List.mem_of_getElem? (i := 213) (by decide +kernel))) rfl⟩, rfl, by decide +kernel, by decide +kernel⟩
theorem lk_L_21 : LkV RL 21 yX7_dihedral cX7_dihedral 2 (some .int) RX7 := ⟨⟨gw (tin4 (List.mem_of_getElem? (i := 32) (by decide +kernel))) rfl, gw (tin4 (List.mem_of_getElem? (i := 33) (by decide +kernel))) rfl, gw (tin4 (List.mem_of_getElem? (i := 34) (by decide +kernel))) rfl, gw (tin1 (List.mem_of_getElem? (i := 8) (by decide +kernel))) rfl, gw (tin4 (List.mem_of_getElem? (i := 35) (by decide +kernel))) rfl⟩, rfl, by decide +kernel, by decide +kernel⟩
theorem lk_L_22 : LkV RL 22 yX6_linear cX6_linear 3 (some .int) RX6 := ⟨⟨gw (tin1 (List.mem_of_getElem? (i := 214) (by decide +kernel))) rfl, gw (tin1 (List.mem_of_getElem? (i := 215) (by decide +kernel))) rfl, gw (tin1 (List.mem_of_getElem? (i := 216) (by decide +kernel))) rfl, gw (tin1 (List.mem_of_getElem? (i := 1) (by decide +kernel))) rfl, gw (tin1 (List.mem_of_getElem? (i := 217) (by decide +kernel))) rfl⟩, rfl, by decide +kernel, by decide +kernel⟩
theorem lk_L_26 : LkV RL 26 yX7_linear cX7_linear 3 (some .int) RX7 := ⟨⟨gw (tin4 (List.mem_of_getElem? (i := 36) (by decide +kernel))) rfl, gw (tin4 (List.mem_of_getElem? (i := 37) (by decide +kernel))) rfl, gw (tin4 (List.mem_of_getElem? (i := 38) (by decide +kernel))) rfl, gw (tin1 (List.mem_of_getElem? (i := 8) (by decide +kernel))) rfl, gw (tin4 (List.mem_of_getElem? (i := 39) (by decide +kernel))) rfl⟩, rfl, by decide +kernel, by decide +kernel⟩
theorem lk_L_27 : LkV RL 27 yX6_transpositions cX6_transpositions 2 (some .int) RX6 := ⟨⟨gw (tin1 (List.mem_of_getElem? (i := 218) (by decide +kernel))) rfl, gw (tin1 (List.mem_of_getElem? (i := 219) (by decide +kernel))) rfl, gw (tin1 (List.mem_of_getElem? (i := 220) (by decide +kernel))) rfl, gw (tin1 (List.mem_of_getElem? (i := 1) (by decide +kernel))) rfl, gw (tin1 (List.mem_of_getElem? (i := 221) (by decide +kernel))) rfl⟩, rfl, by decide +kernel, by decide +kernel⟩
theorem lk_L_30 : LkV RL 30 yX7_transpositions cX7_transpositions 4 (some .int) RX7 := ⟨⟨gw (tin4 (List.mem_of_getElem? (i := 40) (by decide +kernel))) rfl, gw (tin4 (List.mem_of_getElem? (i := 41) (by decide +kernel))) rfl, gw (tin4 (List.mem_of_getElem? (i := 42) (by decide +kernel))) rfl, gw (tin1 (List.mem_of_getElem? (i := 8) (by decide +kernel))) rfl, gw (tin4 (List.mem_of_getElem? (i := 43) (by decide +kernel))) rfl⟩, rfl, by decide +kernel, by decide +kernel⟩
theorem lk_L_31 : LkV RL 31 yX6_setProduct cX6_setProduct 5 (some .int) RX6 := ⟨⟨gw (tin2 (List.mem_of_getElem? (i := 0) (by decide +kernel))) rfl, gw (tin2 (List.mem_of_getElem? (i := 1) (by decide +kernel))) rfl, gw (tin2 (List.mem_of_getElem? (i := 2) (by decide +kernel))) rfl, gw (tin1 (List.mem_of_getElem? (i := 1) (by decide +kernel))) rfl, gw (tin2 (List.mem_of_getElem? (i := 3) (by decide +kernel))) rfl⟩, rfl, by decide +kernel, by decide +kernel⟩
theorem lk_L_35 : LkV RL 35 yX7_setProduct cX7_setProduct 5 (some .int) RX7 := ⟨⟨gw (tin4 (List.mem_of_getElem? (i := 54) (by decide +kernel))) rfl, gw (tin4 (List.mem_of_getElem? (i := 55) (by decide +kernel))) rfl, gw (tin4 (List.mem_of_getElem? (i := 56) (by decide +kernel))) rfl, gw (tin1 (List.mem_of_getElem? (i := 8) (by decide +kernel))) rfl, gw (tin4 (List.mem_of_getElem? (i := 57) (by decide +kernel))) rfl⟩, rfl, by decide +kernel, by decide +kernel⟩
theorem lk_L_36 : LkV RL 36 yX6_invert cX6_invert 1 (some .int) RX6 := ⟨⟨gw (tin2 (List.mem_of_getElem? (i := 13) (by decide +kernel))) rfl, gw (tin2 (List.mem_of_getElem? (i := 14) (by decide +kernel))) rfl, gw (tin2 (List.mem_of_getElem? (i := 15) (by decide +kernel))) rfl, gw (tin1 (List.mem_of_getElem? (i := 1) (by decide +kernel))) rfl, gw (tin2 (List.mem_of_getElem? (i := 16) (by decide +kernel))) rfl⟩, rfl, by decide +kernel, by decide +kernel⟩
theorem lk_L_40 : LkV RL 40 yX7_invert cX7_invert 4 (some .int) RX7 := ⟨⟨gw (tin4 (List.mem_of_getElem? (i := 66) (by decide +kernel))) rfl, gw (tin4 (List.mem_of_getElem? (i := 67) (by decide +kernel))) rfl, gw (tin4 (List.mem_of_getElem? (i := 68) (by decide +kernel))) rfl, gw (tin1 (List.mem_of_getElem? (i := 8) (by decide +kernel))) rfl, gw (tin4 (List.mem_of_getElem? (i := 69) (by decide +kernel))) rfl⟩, rfl, by decide +kernel, by decide +kernel⟩
theorem lk_L_41 : LkV RL 41 yX6_size cX6_size 1 (some .int) RX6 := ⟨⟨gw (tin2 (List.mem_of_getElem? (i := 39) (by decide +kernel))) rfl, gw (tin2 (List.mem_of_getElem? (i := 40) (by decide +kernel))) rfl, gw (tin2 (List.mem_of_getElem? (i := 41) (by decide +kernel))) rfl, gw (tin1 (List.mem_of_getElem? (i := 1) (by decide +kernel))) rfl, gw (tin2 (List.mem_of_getElem? (i := 42) (by decide +kernel))) rfl⟩, rfl, by decide +kernel, by decide +kernel⟩
theorem lk_L_44 : LkV RL 44 yX7_size cX7_size 1 (some .int) RX7 := ⟨⟨gw (tin4 (List.mem_of_getElem? (i := 85) (by decide +kernel))) rfl, gw (tin4 (List.mem_of_getElem? (i := 86) (by decide +kernel))) rfl, gw (tin4 (List.mem_of_getElem? (i := 87) (by decide +kernel))) rfl, gw (tin1 (List.mem_of_getElem? (i := 8) (by decide +kernel))) rfl, gw (tin4 (List.mem_of_getElem? (i := 88) (by decide +kernel))) rfl⟩, rfl, by decide +kernel, by decide +kernel⟩
theorem lk_L_45 : LkV RL 45 yX6_product cX6_product 3 (some .int) RX6 := ⟨⟨gw (tin2 (List.mem_of_getElem? (i := 43) (by decide +kernel))) rfl, gw (tin2 (List.mem_of_getElem? (i := 44) (by decide +kernel))) rfl, gw (tin2 (List.mem_of_getElem? (i := 45) (by decide +kernel))) rfl, gw (tin1 (List.mem_of_getElem? (i := 1) (by decide +kernel))) rfl, gw (tin2 (List.mem_of_getElem? (i := 46) (by decide +kernel))) rfl⟩, rfl, by decide +kernel, by decide +kernel⟩
theorem lk_L_48 : LkV RL 48 yX7_product cX7_product 3 (some .int) RX7 := ⟨⟨gw (tin4 (List.mem_of_getElem? (i := 89) (by decide +kernel))) rfl, gw (tin4 (List.mem_of_getElem? (i := 90) (by decide +kernel))) rfl, gw (tin4 (List.mem_of_getElem? (i := 91) (by decide +kernel))) rfl, gw (tin1 (List.mem_of_getElem? (i := 8) (by decide +kernel))) rfl, gw (tin4 (List.mem_of_getElem? (i := 92) (by decide +kernel))) rfl⟩, rfl, by decide +kernel, by decide +kernel⟩
theorem lk_L_49 : LkV RL 49 yX6_quotient cX6_quotient 3 (some .int) RX6 := ⟨⟨gw (tin2 (List.mem_of_getElem? (i := 47) (by decide +kernel))) rfl, gw (tin2 (List.mem_of_getElem? (i := 48) (by decide +kernel))) rfl, gw (tin2 (List.mem_of_getElem? (i := 49) (by decide +kernel))) rfl, gw (tin1 (List.mem_of_getElem? (i := 1) (by decide +kernel))) rfl, gw (tin2 (List.mem_of_getElem? (i := 50) (by decide +kernel))) rfl⟩, rfl, by decide +kernel, by decide +kernel⟩
theorem lk_L_52 : LkV RL 52 yX7_quotient cX7_quotient 3 (some .int) RX7 := ⟨⟨gw (tin4 (List.mem_of_getElem? (i := 93) (by decide +kernel))) rfl, gw (tin4 (List.mem_of_getElem? (i := 94) (by decide +kernel))) rfl, gw (tin4 (List.mem_of_getElem? (i := 95) (by decide +kernel))) rfl, gw (tin1 (List.mem_of_getElem? (i := 8) (by decide +kernel))) rfl, gw (tin4 (List.mem_of_getElem? (i := 96) (by decide +kernel))) rfl⟩, rfl, by decide +kernel, by decide +kernel⟩
theorem lk_L_53 : LkV RL 53 yX6_violation cX6_violation 2 (some .int) RX6 := ⟨⟨gw (tin2 (List.mem_of_getElem? (i := 52) (by decide +kernel))) rfl, gw (tin2 (List.mem_of_getElem? (i := 53) (by decide +kernel))) rfl, gw (tin2 (List.mem_of_getElem? (i := 54) (by decide +kernel))) rfl, gw (tin1 (List.mem_of_getElem? (i := 1) (by decide +kernel))) rfl, gw (tin2 (List.mem_of_getElem? (i := 55) (by decide +kernel))) rfl⟩, rfl, by decide +kernel, by decide +kernel⟩
theorem lk_L_56 : LkV RL 56 yX7_violation cX7_violation 2 (some .int) RX7 := ⟨⟨gw (tin4 (List.mem_of_getElem? (i := 97) (by decide +kernel))) rfl, gw (tin4 (List.mem_of_getElem? (i := 98) (by decide +kernel))) rfl, gw (tin4 (List.mem_of_getElem? (i := 99) (by decide +kernel))) rfl, gw (tin1 (List.mem_of_getElem? (i := 8) (by decide +kernel))) rfl, gw (tin4 (List.mem_of_getElem? (i := 100) (by decide +kernel))) rfl⟩, rfl, by decide +kernel, by decide +kernel⟩
theorem lk_L_57 : LkV RL 57 yX6_reach cX6_reach 2 (some .int) RX6 := ⟨⟨gw (tin2 (List.mem_of_getElem? (i := 64) (by decide +kernel))) rfl, gw (tin2 (List.mem_of_getElem? (i := 65) (by decide +kernel))) rfl, gw (tin2 (List.mem_of_getElem? (i := 66) (by decide +kernel))) rfl, gw (tin1 (List.mem_of_getElem? (i := 1) (by decide +kernel))) rfl, gw (tin2 (List.mem_of_getElem? (i := 67) (by decide +kernel))) rfl⟩, rfl, by decide +kernel, by decide +kernel⟩
theorem lk_L_60 : LkV RL 60 yX7_reach cX7_reach 6 (some .int) RX7 := ⟨⟨gw (tin4 (List.mem_of_getElem? (i := 113) (by decide +kernel))) rfl, gw (tin4 (List.mem_of_getElem? (i := 114) (by decide +kernel))) rfl, gw (tin4 (List.mem_of_getElem? (i := 115) (by decide +kernel))) rfl, gw (tin1 (List.mem_of_getElem? (i := 8) (by decide +kernel))) rfl, gw (tin4 (List.mem_of_getElem? (i := 116) (by decide +kernel))) rfl⟩, rfl, by decide +kernel, by decide +kernel⟩
theorem lk_L_61 : LkV RL 61 yX6_tableComponents cX6_tableComponents 1 (some .int) RX6 := ⟨⟨gw (tin2 (List.mem_of_getElem? (i := 72) (by decide +kernel))) rfl, gw (tin2 (List.mem_of_getElem? (i := 73) (by decide +kernel))) rfl, gw (tin2 (List.mem_of_getElem? (i := 74) (by decide +kernel))) rfl, gw (tin1 (List.mem_of_getElem? (i := 1) (by decide +kernel))) rfl, gw (tin2 (List.mem_of_getElem? (i := 75) (by decide +kernel))) rfl⟩, rfl, by decide +kernel, by decide +kernel⟩
theorem lk_L_64 : LkV RL 64 yX7_tableComponents cX7_tableComponents 1 (some .int) RX7 := ⟨⟨gw (tin4 (List.mem_of_getElem? (i := 117) (by decide +kernel))) rfl, gw (tin4 (List.mem_of_getElem? (i := 118) (by decide +kernel))) rfl, gw (tin4 (List.mem_of_getElem? (i := 119) (by decide +kernel))) rfl, gw (tin1 (List.mem_of_getElem? (i := 8) (by decide +kernel))) rfl, gw (tin4 (List.mem_of_getElem? (i := 120) (by decide +kernel))) rfl⟩, rfl, by decide +kernel, by decide +kernel⟩
theorem lk_L_65 : LkV RL 65 yX6_closure cX6_closure 2 (some .int) RX6 := ⟨⟨gw (tin2 (List.mem_of_getElem? (i := 84) (by decide +kernel))) rfl, gw (tin2 (List.mem_of_getElem? (i := 85) (by decide +kernel))) rfl, gw (tin2 (List.mem_of_getElem? (i := 86) (by decide +kernel))) rfl, gw (tin1 (List.mem_of_getElem? (i := 1) (by decide +kernel))) rfl, gw (tin2 (List.mem_of_getElem? (i := 87) (by decide +kernel))) rfl⟩, rfl, by decide +kernel, by decide +kernel⟩
theorem lk_L_68 : LkV RL 68 yX7_closure cX7_closure 2 (some .int) RX7 := ⟨⟨gw (tin4 (List.mem_of_getElem? (i := 137) (by decide +kernel))) rfl, gw (tin4 (List.mem_of_getElem? (i := 138) (by decide +kernel))) rfl, gw (tin4 (List.mem_of_getElem? (i := 139) (by decide +kernel))) rfl, gw (tin1 (List.mem_of_getElem? (i := 8) (by decide +kernel))) rfl, gw (tin4 (List.mem_of_getElem? (i := 140) (by decide +kernel))) rfl⟩, rfl, by decide +kernel, by decide +kernel⟩
theorem lk_L_69 : LkV RL 69 yX6_generators cX6_generators 1 (some .int) RX6 := ⟨⟨gw (tin2 (List.mem_of_getElem? (i := 93) (by decide +kernel))) rfl, gw (tin2 (List.mem_of_getElem? (i := 94) (by decide +kernel))) rfl, gw (tin2 (List.mem_of_getElem? (i := 95) (by decide +kernel))) rfl, gw (tin1 (List.mem_of_getElem? (i := 1) (by decide +kernel))) rfl, gw (tin2 (List.mem_of_getElem? (i := 96) (by decide +kernel))) rfl⟩, rfl, by decide +kernel, by decide +kernel⟩
theorem lk_L_72 : LkV RL 72 yX7_generators cX7_generators 1 (some .int) RX7 := ⟨⟨gw (tin4 (List.mem_of_getElem? (i := 145) (by decide +kernel))) rfl, gw (tin4 (List.mem_of_getElem? (i := 146) (by decide +kernel))) rfl, gw (tin4 (List.mem_of_getElem? (i := 147) (by decide +kernel))) rfl, gw (tin1 (List.mem_of_getElem? (i := 8) (by decide +kernel))) rfl, gw (tin4 (List.mem_of_getElem? (i := 148) (by decide +kernel))) rfl⟩, rfl, by decide +kernel, by decide +kernel⟩
theorem lk_L_73 : LkV RL 73 yX6_translationOrder cX6_translationOrder 2 (some .int) RX6 := ⟨⟨gw (tin2 (List.mem_of_getElem? (i := 108) (by decide +kernel))) rfl, gw (tin2 (List.mem_of_getElem? (i := 109) (by decide +kernel))) rfl, gw (tin2 (List.mem_of_getElem? (i := 110) (by decide +kernel))) rfl, gw (tin1 (List.mem_of_getElem? (i := 1) (by decide +kernel))) rfl, gw (tin2 (List.mem_of_getElem? (i := 111) (by decide +kernel))) rfl⟩, rfl, by decide +kernel, by decide +kernel⟩
theorem lk_L_76 : LkV RL 76 yX7_translationOrder cX7_translationOrder 5 (some .int) RX7 := ⟨⟨gw (tin4 (List.mem_of_getElem? (i := 153) (by decide +kernel))) rfl, gw (tin4 (List.mem_of_getElem? (i := 154) (by decide +kernel))) rfl, gw (tin4 (List.mem_of_getElem? (i := 155) (by decide +kernel))) rfl, gw (tin1 (List.mem_of_getElem? (i := 8) (by decide +kernel))) rfl, gw (tin4 (List.mem_of_getElem? (i := 156) (by decide +kernel))) rfl⟩, rfl, by decide +kernel, by decide +kernel⟩
theorem lk_L_77 : LkV RL 77 yX6_translations cX6_translations 1 (some .int) RX6 := ⟨⟨gw (tin2 (List.mem_of_getElem? (i := 120) (by decide +kernel))) rfl, gw (tin2 (List.mem_of_getElem? (i := 121) (by decide +kernel))) rfl, gw (tin2 (List.mem_of_getElem? (i := 122) (by decide +kernel))) rfl, gw (tin1 (List.mem_of_getElem? (i := 1) (by decide +kernel))) rfl, gw (tin2 (List.mem_of_getElem? (i := 123) (by decide +kernel))) rfl⟩, rfl, by decide +kernel, by decide +kernel⟩
theorem lk_L_80 : LkV RL 80 yX7_translations cX7_translations 1 (some .int) RX7 := ⟨⟨gw (tin4 (List.mem_of_getElem? (i := 157) (by decide +kernel))) rfl, gw (tin4 (List.mem_of_getElem? (i := 158) (by decide +kernel))) rfl, gw (tin4 (List.mem_of_getElem? (i := 159) (by decide +kernel))) rfl, gw (tin1 (List.mem_of_getElem? (i := 8) (by decide +kernel))) rfl, gw (tin4 (List.mem_of_getElem? (i := 160) (by decide +kernel))) rfl⟩, rfl, by decide +kernel, by decide +kernel⟩
theorem lk_L_81 : LkV RL 81 yX6_innerGroup cX6_innerGroup 1 (some .int) RX6 := ⟨⟨gw (tin2 (List.mem_of_getElem? (i := 136) (by decide +kernel))) rfl, gw (tin2 (List.mem_of_getElem? (i := 137) (by decide +kernel))) rfl, gw (tin2 (List.mem_of_getElem? (i := 138) (by decide +kernel))) rfl, gw (tin1 (List.mem_of_getElem? (i := 1) (by decide +kernel))) rfl, gw (tin2 (List.mem_of_getElem? (i := 139) (by decide +kernel))) rfl⟩, rfl, by decide +kernel, by decide +kernel⟩
theorem lk_L_84 : LkV RL 84 yX7_innerGroup cX7_innerGroup 1 (some .int) RX7 := ⟨⟨gw (tin4 (List.mem_of_getElem? (i := 165) (by decide +kernel))) rfl, gw (tin4 (List.mem_of_getElem? (i := 166) (by decide +kernel))) rfl, gw (tin4 (List.mem_of_getElem? (i := 167) (by decide +kernel))) rfl, gw (tin1 (List.mem_of_getElem? (i := 8) (by decide +kernel))) rfl, gw (tin4 (List.mem_of_getElem? (i := 168) (by decide +kernel))) rfl⟩, rfl, by decide +kernel, by decide +kernel⟩
theorem lk_L_85 : LkV RL 85 yX6_automorphisms cX6_automorphisms 1 (some .int) RX6 := ⟨⟨gw (tin2 (List.mem_of_getElem? (i := 157) (by decide +kernel))) rfl, gw (tin2 (List.mem_of_getElem? (i := 158) (by decide +kernel))) rfl, gw (tin2 (List.mem_of_getElem? (i := 159) (by decide +kernel))) rfl, gw (tin1 (List.mem_of_getElem? (i := 1) (by decide +kernel))) rfl, gw (tin2 (List.mem_of_getElem? (i := 160) (by decide +kernel))) rfl⟩, rfl, by decide +kernel, by decide +kernel⟩
theorem lk_L_88 : LkV RL 88 yX7_automorphisms cX7_automorphisms 1 (some .int) RX7 := ⟨⟨gw (tin4 (List.mem_of_getElem? (i := 185) (by decide +kernel))) rfl, gw (tin4 (List.mem_of_getElem? (i := 186) (by decide +kernel))) rfl, gw (tin4 (List.mem_of_getElem? (i := 187) (by decide +kernel))) rfl, gw (tin1 (List.mem_of_getElem? (i := 8) (by decide +kernel))) rfl, gw (tin4 (List.mem_of_getElem? (i := 188) (by decide +kernel))) rfl⟩, rfl, by decide +kernel, by decide +kernel⟩
theorem lk_L_89 : LkV RL 89 yX6_newDiagram cX6_newDiagram 3 (some .int) RX6 := ⟨⟨gw (tin2 (List.mem_of_getElem? (i := 169) (by decide +kernel))) rfl, gw (tin2 (List.mem_of_getElem? (i := 170) (by decide +kernel))) rfl, gw (tin2 (List.mem_of_getElem? (i := 171) (by decide +kernel))) rfl, gw (tin1 (List.mem_of_getElem? (i := 1) (by decide +kernel))) rfl, gw (tin2 (List.mem_of_getElem? (i := 172) (by decide +kernel))) rfl⟩, rfl, by decide +kernel, by decide +kernel⟩
theorem lk_L_92 : LkV RL 92 yX7_newDiagram cX7_newDiagram 3 (some .int) RX7 := ⟨⟨gw (tin4 (List.mem_of_getElem? (i := 197) (by decide +kernel))) rfl, gw (tin4 (List.mem_of_getElem? (i := 198) (by decide +kernel))) rfl, gw (tin4 (List.mem_of_getElem? (i := 199) (by decide +kernel))) rfl, gw (tin1 (List.mem_of_getElem? (i := 8) (by decide +kernel))) rfl, gw (tin4 (List.mem_of_getElem? (i := 200) (by decide +kernel))) rfl⟩, rfl, by decide +kernel, by decide +kernel⟩
theorem lk_L_93 : LkV RL 93 yX6_standard cX6_standard 4 (some .int) RX6 := ⟨⟨gw (tin2 (List.mem_of_getElem? (i := 177) (by decide +kernel))) rfl, gw (tin2 (List.mem_of_getElem? (i := 178) (by decide +kernel))) rfl, gw (tin2 (List.mem_of_getElem? (i := 179) (by decide +kernel))) rfl, gw (tin1 (List.mem_of_getElem? (i := 1) (by decide +kernel))) rfl, gw (tin2 (List.mem_of_getElem? (i := 180) (by decide +kernel))) rfl⟩, rfl, by decide +kernel, by decide +kernel⟩
theorem lk_L_96 : LkV RL 96 yX7_standard cX7_standard 2 (some .int) RX7 := ⟨⟨gw (tin4 (List.mem_of_getElem? (i := 205) (by decide +kernel))) rfl, gw (tin4 (List.mem_of_getElem? (i := 206) (by decide +kernel))) rfl, gw (tin4 (List.mem_of_getElem? (i := 207) (by decide +kernel))) rfl, gw (tin1 (List.mem_of_getElem? (i := 8) (by decide +kernel))) rfl, gw (tin4 (List.mem_of_getElem? (i := 208) (by decide +kernel))) rfl⟩, rfl, by decide +kernel, by decide +kernel⟩
theorem lk_L_97 : LkV RL 97 yX6_addCrossing cX6_addCrossing 5 (some .int) RX6 := ⟨⟨gw (tin2 (List.mem_of_getElem? (i := 191) (by decide +kernel))) rfl, gw (tin2 (List.mem_of_getElem? (i := 192) (by decide +kernel))) rfl, gw (tin2 (List.mem_of_getElem? (i := 193) (by decide +kernel))) rfl, gw (tin1 (List.mem_of_getElem? (i := 1) (by decide +kernel))) rfl, gw (tin2 (List.mem_of_getElem? (i := 194) (by decide +kernel))) rfl⟩, rfl, by decide +kernel, by decide +kernel⟩
theorem lk_L_101 : LkV RL 101 yX7_addCrossing cX7_addCrossing 5 (some .int) RX7 := ⟨⟨gw (tin4 (List.mem_of_getElem? (i := 213) (by decide +kernel))) rfl, gw (tin4 (List.mem_of_getElem? (i := 214) (by decide +kernel))) rfl, gw (tin4 (List.mem_of_getElem? (i := 215) (by decide +kernel))) rfl, gw (tin1 (List.mem_of_getElem? (i := 8) (by decide +kernel))) rfl, gw (tin4 (List.mem_of_getElem? (i := 216) (by decide +kernel))) rfl⟩, rfl, by decide +kernel, by decide +kernel⟩
theorem lk_L_102 : LkV RL 102 yX6_removeCrossing cX6_removeCrossing 2 (some .int) RX6 := ⟨⟨gw (tin2 (List.mem_of_getElem? (i := 203) (by decide +kernel))) rfl, gw (tin2 (List.mem_of_getElem? (i := 204) (by decide +kernel))) rfl, gw (tin2 (List.mem_of_getElem? (i := 205) (by decide +kernel))) rfl, gw (tin1 (List.mem_of_getElem? (i := 1) (by decide +kernel))) rfl, gw (tin2 (List.mem_of_getElem? (i := 206) (by decide +kernel))) rfl⟩, rfl, by decide +kernel, by decide +kernel⟩
theorem lk_L_105 : LkV RL 105 yX7_removeCrossing cX7_removeCrossing 3 (some .int) RX7 := ⟨⟨gw (tin4 (List.mem_of_getElem? (i := 224) (by decide +kernel))) rfl, gw (tin4 (List.mem_of_getElem? (i := 225) (by decide +kernel))) rfl, gw (tin4 (List.mem_of_getElem? (i := 226) (by decide +kernel))) rfl, gw (tin1 (List.mem_of_getElem? (i := 8) (by decide +kernel))) rfl, gw (tin4 (List.mem_of_getElem? (i := 227) (by decide +kernel))) rfl⟩, rfl, by decide +kernel, by decide +kernel⟩
theorem lk_L_106 : LkV RL 106 yX6_kink cX6_kink 4 (some .int) RX6 := ⟨⟨gw (tin2 (List.mem_of_getElem? (i := 215) (by decide +kernel))) rfl, gw (tin2 (List.mem_of_getElem? (i := 216) (by decide +kernel))) rfl, gw (tin2 (List.mem_of_getElem? (i := 217) (by decide +kernel))) rfl, gw (tin1 (List.mem_of_getElem? (i := 1) (by decide +kernel))) rfl, gw (tin2 (List.mem_of_getElem? (i := 218) (by decide +kernel))) rfl⟩, rfl, by decide +kernel, by decide +kernel⟩
theorem lk_L_109 : LkV RL 109 yX7_kink cX7_kink 4 (some .int) RX7 := ⟨⟨gw (tin4 (List.mem_of_getElem? (i := 232) (by decide +kernel))) rfl, gw (tin4 (List.mem_of_getElem? (i := 233) (by decide +kernel))) rfl, gw (tin4 (List.mem_of_getElem? (i := 234) (by decide +kernel))) rfl, gw (tin1 (List.mem_of_getElem? (i := 8) (by decide +kernel))) rfl, gw (tin4 (List.mem_of_getElem? (i := 235) (by decide +kernel))) rfl⟩, rfl, by decide +kernel, by decide +kernel⟩
theorem lk_L_110 : LkV RL 110 yX6_poke cX6_poke 5 (some .int) RX6 := ⟨⟨gw (tin2 (List.mem_of_getElem? (i := 231) (by decide +kernel))) rfl, gw (tin2 (List.mem_of_getElem? (i := 232) (by decide +kernel))) rfl, gw (tin2 (List.mem_of_getElem? (i := 233) (by decide +kernel))) rfl, gw (tin1 (List.mem_of_getElem? (i := 1) (by decide +kernel))) rfl, gw (tin2 (List.mem_of_getElem? (i := 234) (by decide +kernel))) rfl⟩, rfl, by decide +kernel, by decide +kernel⟩
theorem lk_L_113 : LkV RL 113 yX7_poke cX7_poke 4 (some .int) RX7 := ⟨⟨gw (tin5 (List.mem_of_getElem? (i := 4) (by decide +kernel))) rfl, gw (tin5 (List.mem_of_getElem? (i := 5) (by decide +kernel))) rfl, gw (tin5 (List.mem_of_getElem? (i := 6) (by decide +kernel))) rfl, gw (tin1 (List.mem_of_getElem? (i := 8) (by decide +kernel))) rfl, gw (tin5 (List.mem_of_getElem? (i := 7) (by decide +kernel))) rfl⟩, rfl, by decide +kernel, by decide +kernel⟩
theorem lk_L_114 : LkV RL 114 yX6_arcs cX6_arcs 1 (some .int) RX6 := ⟨⟨gw (tin2 (List.mem_of_getElem? (i := 235) (by decide +kernel))) rfl, gw (tin2 (List.mem_of_getElem? (i := 236) (by decide +kernel))) rfl, gw (tin2 (List.mem_of_getElem? (i := 237) (by decide +kernel))) rfl, gw (tin1 (List.mem_of_getElem? (i := 1) (by decide +kernel))) rfl, gw (tin2 (List.mem_of_getElem? (i := 238) (by decide +kernel))) rfl⟩, rfl, by decide +kernel, by decide +kernel⟩
theorem lk_L_117 : LkV RL 117 yX7_arcs cX7_arcs 1 (some .int) RX7 := ⟨⟨gw (tin5 (List.mem_of_getElem? (i := 8) (by decide +kernel))) rfl, gw (tin5 (List.mem_of_getElem? (i := 9) (by decide +kernel))) rfl, gw (tin5 (List.mem_of_getElem? (i := 10) (by decide +kernel))) rfl, gw (tin1 (List.mem_of_getElem? (i := 8) (by decide +kernel))) rfl, gw (tin5 (List.mem_of_getElem? (i := 11) (by decide +kernel))) rfl⟩, rfl, by decide +kernel, by decide +kernel⟩
theorem lk_L_118 : LkV RL 118 yX6_crossings cX6_crossings 1 (some .int) RX6 := ⟨⟨gw (tin2 (List.mem_of_getElem? (i := 239) (by decide +kernel))) rfl, gw (tin3 (List.mem_of_getElem? (i := 0) (by decide +kernel))) rfl, gw (tin3 (List.mem_of_getElem? (i := 1) (by decide +kernel))) rfl, gw (tin1 (List.mem_of_getElem? (i := 1) (by decide +kernel))) rfl, gw (tin3 (List.mem_of_getElem? (i := 2) (by decide +kernel))) rfl⟩, rfl, by decide +kernel, by decide +kernel⟩
theorem lk_L_121 : LkV RL 121 yX7_crossings cX7_crossings 1 (some .int) RX7 := ⟨⟨gw (tin5 (List.mem_of_getElem? (i := 12) (by decide +kernel))) rfl, gw (tin5 (List.mem_of_getElem? (i := 13) (by decide +kernel))) rfl, gw (tin5 (List.mem_of_getElem? (i := 14) (by decide +kernel))) rfl, gw (tin1 (List.mem_of_getElem? (i := 8) (by decide +kernel))) rfl, gw (tin5 (List.mem_of_getElem? (i := 15) (by decide +kernel))) rfl⟩, rfl, by decide +kernel, by decide +kernel⟩
theorem lk_L_122 : LkV RL 122 yX6_crossing cX6_crossing 3 (some .int) RX6 := ⟨⟨gw (tin3 (List.mem_of_getElem? (i := 3) (by decide +kernel))) rfl, gw (tin3 (List.mem_of_getElem? (i := 4) (by decide +kernel))) rfl, gw (tin3 (List.mem_of_getElem? (i := 5) (by decide +kernel))) rfl, gw (tin1 (List.mem_of_getElem? (i := 1) (by decide +kernel))) rfl, gw (tin3 (List.mem_of_getElem? (i := 6) (by decide +kernel))) rfl⟩, rfl, by decide +kernel, by decide +kernel⟩
theorem lk_L_125 : LkV RL 125 yX7_crossing cX7_crossing 3 (some .int) RX7 := ⟨⟨gw (tin5 (List.mem_of_getElem? (i := 16) (by decide +kernel))) rfl, gw (tin5 (List.mem_of_getElem? (i := 17) (by decide +kernel))) rfl, gw (tin5 (List.mem_of_getElem? (i := 18) (by decide +kernel))) rfl, gw (tin1 (List.mem_of_getElem? (i := 8) (by decide +kernel))) rfl, gw (tin5 (List.mem_of_getElem? (i := 19) (by decide +kernel))) rfl⟩, rfl, by decide +kernel, by decide +kernel⟩
theorem lk_L_126 : LkV RL 126 yX6_components cX6_components 1 (some .int) RX6 := ⟨⟨gw (tin3 (List.mem_of_getElem? (i := 8) (by decide +kernel))) rfl, gw (tin3 (List.mem_of_getElem? (i := 9) (by decide +kernel))) rfl, gw (tin3 (List.mem_of_getElem? (i := 10) (by decide +kernel))) rfl, gw (tin1 (List.mem_of_getElem? (i := 1) (by decide +kernel))) rfl, gw (tin3 (List.mem_of_getElem? (i := 11) (by decide +kernel))) rfl⟩, rfl, by decide +kernel, by decide +kernel⟩
theorem lk_L_129 : LkV RL 129 yX7_components cX7_components 1 (some .int) RX7 := ⟨⟨gw (tin5 (List.mem_of_getElem? (i := 20) (by decide +kernel))) rfl, gw (tin5 (List.mem_of_getElem? (i := 21) (by decide +kernel))) rfl, gw (tin5 (List.mem_of_getElem? (i := 22) (by decide +kernel))) rfl, gw (tin1 (List.mem_of_getElem? (i := 8) (by decide +kernel))) rfl, gw (tin5 (List.mem_of_getElem? (i := 23) (by decide +kernel))) rfl⟩, rfl, by decide +kernel, by decide +kernel⟩
theorem lk_L_130 : LkV RL 130 yX6_writhe cX6_writhe 1 (some .int) RX6 := ⟨⟨gw (tin3 (List.mem_of_getElem? (i := 28) (by decide +kernel))) rfl, gw (tin3 (List.mem_of_getElem? (i := 29) (by decide +kernel))) rfl, gw (tin3 (List.mem_of_getElem? (i := 30) (by decide +kernel))) rfl, gw (tin1 (List.mem_of_getElem? (i := 1) (by decide +kernel))) rfl, gw (tin3 (List.mem_of_getElem? (i := 31) (by decide +kernel))) rfl⟩, rfl, by decide +kernel, by decide +kernel⟩
theorem lk_L_133 : LkV RL 133 yX7_writhe cX7_writhe 1 (some .int) RX7 := ⟨⟨gw (tin5 (List.mem_of_getElem? (i := 36) (by decide +kernel))) rfl, gw (tin5 (List.mem_of_getElem? (i := 37) (by decide +kernel))) rfl, gw (tin5 (List.mem_of_getElem? (i := 38) (by decide +kernel))) rfl, gw (tin1 (List.mem_of_getElem? (i := 8) (by decide +kernel))) rfl, gw (tin5 (List.mem_of_getElem? (i := 39) (by decide +kernel))) rfl⟩, rfl, by decide +kernel, by decide +kernel⟩
theorem lk_L_134 : LkV RL 134 yX6_linking cX6_linking 3 (some .int) RX6 := ⟨⟨gw (tin3 (List.mem_of_getElem? (i := 36) (by decide +kernel))) rfl, gw (tin3 (List.mem_of_getElem? (i := 37) (by decide +kernel))) rfl, gw (tin3 (List.mem_of_getElem? (i := 38) (by decide +kernel))) rfl, gw (tin1 (List.mem_of_getElem? (i := 1) (by decide +kernel))) rfl, gw (tin3 (List.mem_of_getElem? (i := 39) (by decide +kernel))) rfl⟩, rfl, by decide +kernel, by decide +kernel⟩
theorem lk_L_137 : LkV RL 137 yX7_linking cX7_linking 6 (some .int) RX7 := ⟨⟨gw (tin5 (List.mem_of_getElem? (i := 44) (by decide +kernel))) rfl, gw (tin5 (List.mem_of_getElem? (i := 45) (by decide +kernel))) rfl, gw (tin5 (List.mem_of_getElem? (i := 46) (by decide +kernel))) rfl, gw (tin1 (List.mem_of_getElem? (i := 8) (by decide +kernel))) rfl, gw (tin5 (List.mem_of_getElem? (i := 47) (by decide +kernel))) rfl⟩, rfl, by decide +kernel, by decide +kernel⟩
theorem lk_L_138 : LkV RL 138 yX6_colourings cX6_colourings 1 (some .int) RX6 := ⟨⟨gw (tin3 (List.mem_of_getElem? (i := 44) (by decide +kernel))) rfl, gw (tin3 (List.mem_of_getElem? (i := 45) (by decide +kernel))) rfl, gw (tin3 (List.mem_of_getElem? (i := 46) (by decide +kernel))) rfl, gw (tin1 (List.mem_of_getElem? (i := 1) (by decide +kernel))) rfl, gw (tin3 (List.mem_of_getElem? (i := 47) (by decide +kernel))) rfl⟩, rfl, by decide +kernel, by decide +kernel⟩
theorem lk_L_141 : LkV RL 141 yX7_colourings cX7_colourings 1 (some .int) RX7 := ⟨⟨gw (tin5 (List.mem_of_getElem? (i := 48) (by decide +kernel))) rfl, gw (tin5 (List.mem_of_getElem? (i := 49) (by decide +kernel))) rfl, gw (tin5 (List.mem_of_getElem? (i := 50) (by decide +kernel))) rfl, gw (tin1 (List.mem_of_getElem? (i := 8) (by decide +kernel))) rfl, gw (tin5 (List.mem_of_getElem? (i := 51) (by decide +kernel))) rfl⟩, rfl, by decide +kernel, by decide +kernel⟩
theorem lk_L_142 : LkV RL 142 yX6_colouringsWith cX6_colouringsWith 3 (some .int) RX6 := ⟨⟨gw (tin3 (List.mem_of_getElem? (i := 78) (by decide +kernel))) rfl, gw (tin3 (List.mem_of_getElem? (i := 79) (by decide +kernel))) rfl, gw (tin3 (List.mem_of_getElem? (i := 80) (by decide +kernel))) rfl, gw (tin1 (List.mem_of_getElem? (i := 1) (by decide +kernel))) rfl, gw (tin3 (List.mem_of_getElem? (i := 81) (by decide +kernel))) rfl⟩, rfl, by decide +kernel, by decide +kernel⟩
theorem lk_L_145 : LkV RL 145 yX7_colouringsWith cX7_colouringsWith 3 (some .int) RX7 := ⟨⟨gw (tin5 (List.mem_of_getElem? (i := 72) (by decide +kernel))) rfl, gw (tin5 (List.mem_of_getElem? (i := 73) (by decide +kernel))) rfl, gw (tin5 (List.mem_of_getElem? (i := 74) (by decide +kernel))) rfl, gw (tin1 (List.mem_of_getElem? (i := 8) (by decide +kernel))) rfl, gw (tin5 (List.mem_of_getElem? (i := 75) (by decide +kernel))) rfl⟩, rfl, by decide +kernel, by decide +kernel⟩
theorem lk_L_146 : LkV RL 146 yX6_colouringsAlike cX6_colouringsAlike 3 (some .int) RX6 := ⟨⟨gw (tin3 (List.mem_of_getElem? (i := 86) (by decide +kernel))) rfl, gw (tin3 (List.mem_of_getElem? (i := 87) (by decide +kernel))) rfl, gw (tin3 (List.mem_of_getElem? (i := 88) (by decide +kernel))) rfl, gw (tin1 (List.mem_of_getElem? (i := 1) (by decide +kernel))) rfl, gw (tin3 (List.mem_of_getElem? (i := 89) (by decide +kernel))) rfl⟩, rfl, by decide +kernel, by decide +kernel⟩
theorem lk_L_149 : LkV RL 149 yX7_colouringsAlike cX7_colouringsAlike 3 (some .int) RX7 := ⟨⟨gw (tin5 (List.mem_of_getElem? (i := 76) (by decide +kernel))) rfl, gw (tin5 (List.mem_of_getElem? (i := 77) (by decide +kernel))) rfl, gw (tin5 (List.mem_of_getElem? (i := 78) (by decide +kernel))) rfl, gw (tin1 (List.mem_of_getElem? (i := 8) (by decide +kernel))) rfl, gw (tin5 (List.mem_of_getElem? (i := 79) (by decide +kernel))) rfl⟩, rfl, by decide +kernel, by decide +kernel⟩
theorem lk_L_150 : LkV RL 150 yX6_colouringsUsing cX6_colouringsUsing 2 (some .int) RX6 := ⟨⟨gw (tin3 (List.mem_of_getElem? (i := 94) (by decide +kernel))) rfl, gw (tin3 (List.mem_of_getElem? (i := 95) (by decide +kernel))) rfl, gw (tin3 (List.mem_of_getElem? (i := 96) (by decide +kernel))) rfl, gw (tin1 (List.mem_of_getElem? (i := 1) (by decide +kernel))) rfl, gw (tin3 (List.mem_of_getElem? (i := 97) (by decide +kernel))) rfl⟩, rfl, by decide +kernel, by decide +kernel⟩
theorem lk_L_153 : LkV RL 153 yX7_colouringsUsing cX7_colouringsUsing 2 (some .int) RX7 := ⟨⟨gw (tin5 (List.mem_of_getElem? (i := 80) (by decide +kernel))) rfl, gw (tin5 (List.mem_of_getElem? (i := 81) (by decide +kernel))) rfl, gw (tin5 (List.mem_of_getElem? (i := 82) (by decide +kernel))) rfl, gw (tin1 (List.mem_of_getElem? (i := 8) (by decide +kernel))) rfl, gw (tin5 (List.mem_of_getElem? (i := 83) (by decide +kernel))) rfl⟩, rfl, by decide +kernel, by decide +kernel⟩
theorem lk_L_154 : LkV RL 154 yX6_colour cX6_colour 3 (some .int) RX6 := ⟨⟨gw (tin3 (List.mem_of_getElem? (i := 102) (by decide +kernel))) rfl, gw (tin3 (List.mem_of_getElem? (i := 103) (by decide +kernel))) rfl, gw (tin3 (List.mem_of_getElem? (i := 104) (by decide +kernel))) rfl, gw (tin1 (List.mem_of_getElem? (i := 1) (by decide +kernel))) rfl, gw (tin3 (List.mem_of_getElem? (i := 105) (by decide +kernel))) rfl⟩, rfl, by decide +kernel, by decide +kernel⟩
theorem lk_L_157 : LkV RL 157 yX7_colour cX7_colour 5 (some .int) RX7 := ⟨⟨gw (tin5 (List.mem_of_getElem? (i := 84) (by decide +kernel))) rfl, gw (tin5 (List.mem_of_getElem? (i := 85) (by decide +kernel))) rfl, gw (tin5 (List.mem_of_getElem? (i := 86) (by decide +kernel))) rfl, gw (tin1 (List.mem_of_getElem? (i := 8) (by decide +kernel))) rfl, gw (tin5 (List.mem_of_getElem? (i := 87) (by decide +kernel))) rfl⟩, rfl, by decide +kernel, by decide +kernel⟩
theorem lk_L_158 : LkV RL 158 yX6_type cX6_type 2 (some .int) RX6 := ⟨⟨gw (tin3 (List.mem_of_getElem? (i := 111) (by decide +kernel))) rfl, gw (tin3 (List.mem_of_getElem? (i := 112) (by decide +kernel))) rfl, gw (tin3 (List.mem_of_getElem? (i := 113) (by decide +kernel))) rfl, gw (tin1 (List.mem_of_getElem? (i := 1) (by decide +kernel))) rfl, gw (tin3 (List.mem_of_getElem? (i := 114) (by decide +kernel))) rfl⟩, rfl, by decide +kernel, by decide +kernel⟩
theorem lk_L_161 : LkV RL 161 yX7_type cX7_type 2 (some .int) RX7 := ⟨⟨gw (tin5 (List.mem_of_getElem? (i := 88) (by decide +kernel))) rfl, gw (tin5 (List.mem_of_getElem? (i := 89) (by decide +kernel))) rfl, gw (tin5 (List.mem_of_getElem? (i := 90) (by decide +kernel))) rfl, gw (tin1 (List.mem_of_getElem? (i := 8) (by decide +kernel))) rfl, gw (tin5 (List.mem_of_getElem? (i := 91) (by decide +kernel))) rfl⟩, rfl, by decide +kernel, by decide +kernel⟩
theorem lk_L_162 : LkV RL 162 yX6_clearText cX6_clearText 2 (some .int) RX6 := ⟨⟨gw (tin3 (List.mem_of_getElem? (i := 119) (by decide +kernel))) rfl, gw (tin3 (List.mem_of_getElem? (i := 120) (by decide +kernel))) rfl, gw (tin3 (List.mem_of_getElem? (i := 121) (by decide +kernel))) rfl, gw (tin1 (List.mem_of_getElem? (i := 1) (by decide +kernel))) rfl, gw (tin3 (List.mem_of_getElem? (i := 122) (by decide +kernel))) rfl⟩, rfl, by decide +kernel, by decide +kernel⟩
theorem lk_L_165 : LkV RL 165 yX7_clearText cX7_clearText 2 (some .int) RX7 := ⟨⟨gw (tin5 (List.mem_of_getElem? (i := 92) (by decide +kernel))) rfl, gw (tin5 (List.mem_of_getElem? (i := 93) (by decide +kernel))) rfl, gw (tin5 (List.mem_of_getElem? (i := 94) (by decide +kernel))) rfl, gw (tin1 (List.mem_of_getElem? (i := 8) (by decide +kernel))) rfl, gw (tin5 (List.mem_of_getElem? (i := 95) (by decide +kernel))) rfl⟩, rfl, by decide +kernel, by decide +kernel⟩
theorem lk_L_166 : LkV RL 166 yX6_syntaxError cX6_syntaxError 1 (some .int) RX6 := ⟨⟨gw (tin3 (List.mem_of_getElem? (i := 127) (by decide +kernel))) rfl, gw (tin3 (List.mem_of_getElem? (i := 128) (by decide +kernel))) rfl, gw (tin3 (List.mem_of_getElem? (i := 129) (by decide +kernel))) rfl, gw (tin1 (List.mem_of_getElem? (i := 1) (by decide +kernel))) rfl, gw (tin3 (List.mem_of_getElem? (i := 130) (by decide +kernel))) rfl⟩, rfl, by decide +kernel, by decide +kernel⟩
theorem lk_L_169 : LkV RL 169 yX7_syntaxError cX7_syntaxError 1 (some .int) RX7 := ⟨⟨gw (tin5 (List.mem_of_getElem? (i := 96) (by decide +kernel))) rfl, gw (tin5 (List.mem_of_getElem? (i := 97) (by decide +kernel))) rfl, gw (tin5 (List.mem_of_getElem? (i := 98) (by decide +kernel))) rfl, gw (tin1 (List.mem_of_getElem? (i := 8) (by decide +kernel))) rfl, gw (tin5 (List.mem_of_getElem? (i := 99) (by decide +kernel))) rfl⟩, rfl, by decide +kernel, by decide +kernel⟩
theorem lk_L_170 : LkV RL 170 yX6_read cX6_read 1 (some .int) RX6 := ⟨⟨gw (tin3 (List.mem_of_getElem? (i := 139) (by decide +kernel))) rfl, gw (tin3 (List.mem_of_getElem? (i := 140) (by decide +kernel))) rfl, gw (tin3 (List.mem_of_getElem? (i := 141) (by decide +kernel))) rfl, gw (tin1 (List.mem_of_getElem? (i := 1) (by decide +kernel))) rfl, gw (tin3 (List.mem_of_getElem? (i := 142) (by decide +kernel))) rfl⟩, rfl, by decide +kernel, by decide +kernel⟩
theorem lk_L_173 : LkV RL 173 yX7_read cX7_read 4 (some .int) RX7 := ⟨⟨gw (tin5 (List.mem_of_getElem? (i := 120) (by decide +kernel))) rfl, gw (tin5 (List.mem_of_getElem? (i := 121) (by decide +kernel))) rfl, gw (tin5 (List.mem_of_getElem? (i := 122) (by decide +kernel))) rfl, gw (tin1 (List.mem_of_getElem? (i := 8) (by decide +kernel))) rfl, gw (tin5 (List.mem_of_getElem? (i := 123) (by decide +kernel))) rfl⟩, rfl, by decide +kernel, by decide +kernel⟩
theorem lk_L_174 : LkV RL 174 yX6_undo cX6_undo 1 (some .int) RX6 := ⟨⟨gw (tin3 (List.mem_of_getElem? (i := 154) (by decide +kernel))) rfl, gw (tin3 (List.mem_of_getElem? (i := 155) (by decide +kernel))) rfl, gw (tin3 (List.mem_of_getElem? (i := 156) (by decide +kernel))) rfl, gw (tin1 (List.mem_of_getElem? (i := 1) (by decide +kernel))) rfl, gw (tin3 (List.mem_of_getElem? (i := 157) (by decide +kernel))) rfl⟩, rfl, by decide +kernel, by decide +kernel⟩
theorem lk_L_177 : LkV RL 177 yX7_undo cX7_undo 2 (some .int) RX7 := ⟨⟨gw (tin5 (List.mem_of_getElem? (i := 124) (by decide +kernel))) rfl, gw (tin5 (List.mem_of_getElem? (i := 125) (by decide +kernel))) rfl, gw (tin5 (List.mem_of_getElem? (i := 126) (by decide +kernel))) rfl, gw (tin1 (List.mem_of_getElem? (i := 8) (by decide +kernel))) rfl, gw (tin5 (List.mem_of_getElem? (i := 127) (by decide +kernel))) rfl⟩, rfl, by decide +kernel, by decide +kernel⟩
theorem lk_L_178 : LkV RL 178 yX6_digest cX6_digest 3 (some .long) RX6 := ⟨⟨gw (tin3 (List.mem_of_getElem? (i := 162) (by decide +kernel))) rfl, gw (tin3 (List.mem_of_getElem? (i := 163) (by decide +kernel))) rfl, gw (tin3 (List.mem_of_getElem? (i := 164) (by decide +kernel))) rfl, gw (tin1 (List.mem_of_getElem? (i := 1) (by decide +kernel))) rfl, gw (tin3 (List.mem_of_getElem? (i := 165) (by decide +kernel))) rfl⟩, rfl, by decide +kernel, by decide +kernel⟩
theorem lk_L_182 : LkV RL 182 yX7_digest cX7_digest 5 (some .long) RX7 := ⟨⟨gw (tin5 (List.mem_of_getElem? (i := 128) (by decide +kernel))) rfl, gw (tin5 (List.mem_of_getElem? (i := 129) (by decide +kernel))) rfl, gw (tin5 (List.mem_of_getElem? (i := 130) (by decide +kernel))) rfl, gw (tin1 (List.mem_of_getElem? (i := 8) (by decide +kernel))) rfl, gw (tin5 (List.mem_of_getElem? (i := 131) (by decide +kernel))) rfl⟩, rfl, by decide +kernel, by decide +kernel⟩
end
section
/-! the shapes of the two systems: cells in a fixed order -/
abbrev oTab (t : Nat) : Shp := .inl (5, [none, some (t + 1)])
abbrev oDia (t : Nat) : Shp := .inl (1, [none, none, some (t + 1)])
abbrev rInt (n : Nat) : Shp := .inr (.inl (0, n))
def shX : List Shp := [
  .inl (6, [some 1, some 3, some 5, some 10, some 12, some 16, some 18]),
  oTab 1, rInt 36, oTab 3, rInt 36,
  .inl (4, [some 6, some 7, some 8, some 9]), rInt 6, rInt 6, rInt 720, .inr (.inl (1, 720)),
  oDia 10, rInt 40,
  .inl (0, [some 1, some 10, some 13, some 14, some 15, none]), rInt 7, rInt 10, rInt 7,
  .inl (2, [none, some 17]), .inr (.inl (2, 70)),
  .inl (3, [none, none, some 19, some 20]), .inr (.inr (3, [21, 25, 29, 33, 37, 41])), .inr (.inr (4, [23, 27, 31, 35, 39, 43])),
  oTab 21, rInt 36, oDia 23, rInt 40,
  oTab 25, rInt 36, oDia 27, rInt 40,
  oTab 29, rInt 36, oDia 31, rInt 40,
  oTab 33, rInt 36, oDia 35, rInt 40,
  oTab 37, rInt 36, oDia 39, rInt 40,
  oTab 41, rInt 36, oDia 43, rInt 40]
def shM : List Shp := [
  .inl (7, [some 1, some 2, none, some 3, none, some 4, none, some 5, some 6, some 7, none, none, none, none, none, none]),
  rInt 79, rInt 474, rInt 70, rInt 720, rInt 6, rInt 7, rInt 7]
/-! a table in the cells t, t + 1: its size and its products -/
def TB (w : Mem) (t n : Nat) (f : Nat → Nat → Nat) : Prop := w t 0 = (n : Int) ∧ (1 ≤ n ∧ n ≤ 6) ∧ ∀ x y, x < n → y < n → w (t + 1) (6 * x + y) = (f x y : Int) ∧ f x y < n
end
section
/-! folds and counts -/
def fN {α : Type} (g : Nat → α → α) (m : α) : Nat → α
  | 0 => m
  | k + 1 => g k (fN g m k)
def cN (p : Nat → Bool) : Nat → Nat
  | 0 => 0
  | k + 1 => cN p k + (if p k then 1 else 0)
theorem cN_congr {p q : Nat → Bool} : ∀ {n : Nat}, (∀ i, i < n → p i = q i) → cN p n = cN q n
  | 0, _ => rfl
  | n + 1, h => by
    simp only [cN]
    rw [cN_congr (n := n) (fun i hi => h i (by omega)), h n (by omega)]
theorem cN_le (p : Nat → Bool) : ∀ n, cN p n ≤ n
  | 0 => Nat.le_refl 0
  | n + 1 => by
    have := cN_le p n
    simp only [cN]; split <;> omega
/-! masks below 128 -/
def pc (m : Nat) : Nat := cN (fun i => m.testBit i) 7
def sb (a b : Nat) : Prop := a ||| b = b
theorem sb_iff {a b : Nat} : sb a b ↔ ∀ i, a.testBit i = true → b.testBit i = true := by
  constructor
  · intro h i hi
    have := congrArg (fun x => x.testBit i) h
    simp only [Nat.testBit_or, hi, Bool.true_or] at this
    exact this.symm
  · intro h
    apply Nat.eq_of_testBit_eq
    intro i
    rw [Nat.testBit_or]
    cases ha : a.testBit i with
    | false => simp
    | true => simp [h i ha]
theorem sb_rf (a : Nat) : sb a a := by simp [sb]
theorem sb_tr {a b c : Nat} (h : sb a b) (k : sb b c) : sb a c := sb_iff.mpr fun i hi => sb_iff.mp k i (sb_iff.mp h i hi)
theorem sb_as {a b : Nat} (h : sb a b) (k : sb b a) : a = b := by
  unfold sb at h k; rw [Nat.or_comm] at k; exact k.symm.trans h
theorem sb_l (a b : Nat) : sb a (a ||| b) := sb_iff.mpr fun i hi => by simp [Nat.testBit_or, hi]
theorem sb_r (a b : Nat) : sb b (a ||| b) := sb_iff.mpr fun i hi => by simp [Nat.testBit_or, hi]
theorem sb_or {a b c : Nat} (h : sb a c) (k : sb b c) : sb (a ||| b) c := sb_iff.mpr fun i hi => by
  rw [Nat.testBit_or, Bool.or_eq_true] at hi
  exact hi.elim (sb_iff.mp h i) (sb_iff.mp k i)
theorem sb_two {i m : Nat} : sb (2 ^ i) m ↔ m.testBit i = true := by
  rw [sb_iff]
  constructor
  · intro h; exact h i (by simp)
  · intro h j hj
    simp only [Nat.testBit_two_pow, decide_eq_true_eq] at hj
    subst hj; exact h
theorem pc_lt_b : ∀ a : Fin 128, ∀ b : Fin 128, ((a : Nat) ||| (b : Nat) = (b : Nat)) → ((a : Nat) ≠ (b : Nat)) → pc a < pc b := by decide +kernel
theorem pc_lt {a b : Nat} (ha : a < 128) (hb : b < 128) (h : sb a b) (hn : a ≠ b) : pc a < pc b := pc_lt_b ⟨a, ha⟩ ⟨b, hb⟩ h hn
theorem pc_full_b : ∀ N : Fin 8, ∀ a : Fin 128, (a : Nat) < 2 ^ (N : Nat) → (pc a ≤ N ∧ ((N : Nat) ≤ pc a → (a : Nat) = 2 ^ (N : Nat) - 1)) := by decide +kernel
theorem pc_full {N a : Nat} (hN : N ≤ 7) (ha : a < 2 ^ N) : pc a ≤ N ∧ (N ≤ pc a → a = 2 ^ N - 1) := by
  have h2 : 2 ^ N ≤ 2 ^ 7 := Nat.pow_le_pow_right (by decide) hN
  exact pc_full_b ⟨N, by omega⟩ ⟨a, by omega⟩ ha
def itN (r : Nat → Nat) (m : Nat) : Nat → Nat
  | 0 => m
  | k + 1 => r (itN r m k)
/-- rounds of a rule that only adds: after N of them, or more, the least closed set -/
theorem rounds {N : Nat} (hN : N ≤ 7) {r : Nat → Nat} {cl : Nat → Prop} (h1 : ∀ m, sb m (r m)) (h2 : ∀ m, m < 2 ^ N → r m < 2 ^ N) (h3 : ∀ m, m < 2 ^ N → r m = m → cl m)
    (h4 : ∀ m S, sb m S → cl S → sb (r m) S) {m : Nat} (hm : m < 2 ^ N) {k : Nat} (hk : N ≤ k) :
    sb m (itN r m k) ∧ itN r m k < 2 ^ N ∧ cl (itN r m k) ∧ ∀ S, sb m S → cl S → sb (itN r m k) S := by
  have h27 : 2 ^ N ≤ 2 ^ 7 := Nat.pow_le_pow_right (by decide) hN
  have a1 : ∀ k, sb m (itN r m k) ∧ itN r m k < 2 ^ N := by
    intro k
    induction k with
    | zero => exact ⟨sb_rf m, hm⟩
    | succ k ih => exact ⟨sb_tr ih.1 (h1 _), h2 _ ih.2⟩
  have a2 : ∀ k, cl (itN r m k) ∨ k ≤ pc (itN r m k) := by
    intro k
    induction k with
    | zero => exact Or.inr (Nat.zero_le _)
    | succ k ih =>
      rcases ih with ih | ih
      · left
        have e : r (itN r m k) = itN r m k := sb_as (h4 _ _ (sb_rf _) ih) (h1 _)
        show cl (r (itN r m k))
        rw [e]; exact ih
      · by_cases e : r (itN r m k) = itN r m k
        · left
          show cl (r (itN r m k))
          rw [e]; exact h3 _ (a1 k).2 e
        · right
          have := pc_lt (a := itN r m k) (b := r (itN r m k)) (by have := (a1 k).2; omega) (by have := h2 _ (a1 k).2; omega) (h1 _) (fun z => e z.symm)
          show k + 1 ≤ pc (r (itN r m k))
          omega
  have a3 : ∀ k S, sb m S → cl S → sb (itN r m k) S := by
    intro k S hs hc
    induction k with
    | zero => exact hs
    | succ k ih => exact h4 _ _ ih hc
  refine ⟨(a1 k).1, (a1 k).2, ?_, a3 k⟩
  rcases a2 k with h | h
  · exact h
  · have hf := (pc_full hN (a1 k).2).2 (by omega)
    refine h3 _ (a1 k).2 (sb_as ?_ (h1 _))
    have hr := h2 _ (a1 k).2
    rw [sb_iff]
    intro i hi
    rw [hf, Nat.testBit_two_pow_sub_one, decide_eq_true_eq]
    rcases Nat.lt_or_ge i N with h | h
    · exact h
    · have : r (itN r m k) < 2 ^ i := Nat.lt_of_lt_of_le hr (Nat.pow_le_pow_right (by decide) h)
      rw [Nat.testBit_lt_two_pow this] at hi; cases hi
/-- the numbers' own operations on masks -/
theorem shl_b : ∀ k : Fin 31, shlZ 1 (k : Nat) = ((2 ^ (k : Nat) : Nat) : Int) := by decide +kernel
theorem shl_eq {k : Nat} (h : k < 31) : shlZ 1 (k : Int) = ((2 ^ k : Nat) : Int) := shl_b ⟨k, h⟩
theorem or_b : ∀ a : Fin 128, ∀ b : Fin 128, orZ (a : Nat) (b : Nat) = (((a : Nat) ||| (b : Nat) : Nat) : Int) := by decide +kernel
theorem or_eq {a b : Nat} (ha : a < 128) (hb : b < 128) : orZ (a : Int) (b : Int) = ((a ||| b : Nat) : Int) := or_b ⟨a, ha⟩ ⟨b, hb⟩
theorem and_b : ∀ a : Fin 128, ∀ b : Fin 128, andZ (a : Nat) (b : Nat) = (((a : Nat) &&& (b : Nat) : Nat) : Int) := by decide +kernel
theorem and_eq {a b : Nat} (ha : a < 128) (hb : b < 128) : andZ (a : Int) (b : Int) = ((a &&& b : Nat) : Int) := and_b ⟨a, ha⟩ ⟨b, hb⟩
theorem bit_b : ∀ a : Fin 128, ∀ k : Fin 8, andZ (shrZ (a : Nat) (k : Nat)) 1 = (if (a : Nat).testBit k then 1 else 0) := by decide +kernel
theorem bit_eq {a k : Nat} (ha : a < 128) (hk : k < 8) : andZ (shrZ (a : Int) (k : Int)) 1 = (if a.testBit k then 1 else 0) := bit_b ⟨a, ha⟩ ⟨k, hk⟩
theorem or_lt {a b N : Nat} (ha : a < 2 ^ N) (hb : b < 2 ^ N) : a ||| b < 2 ^ N := Nat.or_lt_two_pow ha hb
theorem two_lt {i N : Nat} (h : i < N) : 2 ^ i < 2 ^ N := Nat.pow_lt_pow_right (by decide) h
theorem lt128 {m N : Nat} (hN : N ≤ 7) (h : m < 2 ^ N) : m < 128 := Nat.lt_of_lt_of_le h (Nat.pow_le_pow_right (by decide) hN)
end
