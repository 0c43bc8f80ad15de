-- ===== PART A: goes FIRST, ahead of the names: the tables' words, and 'selects' of the private methods out of them =====
/-- a private method of a class that the tables say can be made, by its rows of tables_1 -/
def lw_okq (q : MethodName × Nat) : Prop := (q.1.cls ≠ "java/lang/invoke/MethodHandle" ∧ q.1.cls ≠ "java/lang/invoke/VarHandle") ∧ Cond.instantiable q.1.cls q.2 ∈ tables_1 ∧ Cond.privateMethod q.1 ∈ tables_1 ∧ Cond.instanceMethod q.1 ∈ tables_1
theorem lw_p0 : lw_okq (⟨"KnotColours", "makeLinear", "(II)I"⟩, 7) := ⟨⟨by decide +kernel, by decide +kernel⟩, List.mem_of_getElem? (i := 12) (by decide +kernel), List.mem_of_getElem? (i := 170) (by decide +kernel), List.mem_of_getElem? (i := 171) (by decide +kernel)⟩
theorem lw_p1 : lw_okq (⟨"KnotColours", "saveState", "()V"⟩, 7) := ⟨⟨by decide +kernel, by decide +kernel⟩, List.mem_of_getElem? (i := 12) (by decide +kernel), List.mem_of_getElem? (i := 174) (by decide +kernel), List.mem_of_getElem? (i := 175) (by decide +kernel)⟩
theorem lw_p2 : lw_okq (⟨"KnotColours$Table", "fillTranslation", "(III)V"⟩, 2) := ⟨⟨by decide +kernel, by decide +kernel⟩, List.mem_of_getElem? (i := 20) (by decide +kernel), List.mem_of_getElem? (i := 224) (by decide +kernel), List.mem_of_getElem? (i := 225) (by decide +kernel)⟩
theorem lw_p3 : lw_okq (⟨"KnotColours$Table", "isPermutation", "(I)Z"⟩, 2) := ⟨⟨by decide +kernel, by decide +kernel⟩, List.mem_of_getElem? (i := 20) (by decide +kernel), List.mem_of_getElem? (i := 259) (by decide +kernel), List.mem_of_getElem? (i := 260) (by decide +kernel)⟩
theorem lw_p4 : lw_okq (⟨"KnotColours$ColouringWalk", "start", "()V"⟩, 6) := ⟨⟨by decide +kernel, by decide +kernel⟩, List.mem_of_getElem? (i := 77) (by decide +kernel), List.mem_of_getElem? (i := 379) (by decide +kernel), List.mem_of_getElem? (i := 380) (by decide +kernel)⟩
theorem lw_p5 : lw_okq (⟨"KnotColours$ColouringWalk", "advance", "()Z"⟩, 6) := ⟨⟨by decide +kernel, by decide +kernel⟩, List.mem_of_getElem? (i := 77) (by decide +kernel), List.mem_of_getElem? (i := 386) (by decide +kernel), List.mem_of_getElem? (i := 387) (by decide +kernel)⟩
theorem lw_p6 : lw_okq (⟨"KnotColours$ColouringWalk", "fits", "()Z"⟩, 6) := ⟨⟨by decide +kernel, by decide +kernel⟩, List.mem_of_getElem? (i := 77) (by decide +kernel), List.mem_of_getElem? (i := 391) (by decide +kernel), List.mem_of_getElem? (i := 392) (by decide +kernel)⟩
theorem lw_p7 : lw_okq (⟨"KnotColours$ColouringWalk", "isMet", "(I)Z"⟩, 6) := ⟨⟨by decide +kernel, by decide +kernel⟩, List.mem_of_getElem? (i := 77) (by decide +kernel), List.mem_of_getElem? (i := 395) (by decide +kernel), List.mem_of_getElem? (i := 396) (by decide +kernel)⟩
theorem lw_p8 : lw_okq (⟨"KnotColours$ColouringWalk", "coloursUsed", "()I"⟩, 6) := ⟨⟨by decide +kernel, by decide +kernel⟩, List.mem_of_getElem? (i := 77) (by decide +kernel), List.mem_of_getElem? (i := 408) (by decide +kernel), List.mem_of_getElem? (i := 409) (by decide +kernel)⟩
theorem lw_p9 : lw_okq (⟨"KnotColours$Table", "isIdentityAfter", "(II)Z"⟩, 2) := ⟨⟨by decide +kernel, by decide +kernel⟩, List.mem_of_getElem? (i := 20) (by decide +kernel), List.mem_of_getElem? (i := 473) (by decide +kernel), List.mem_of_getElem? (i := 474) (by decide +kernel)⟩
theorem lw_p10 : lw_okq (⟨"KnotColours$Table", "componentOf", "(I)I"⟩, 2) := ⟨⟨by decide +kernel, by decide +kernel⟩, List.mem_of_getElem? (i := 20) (by decide +kernel), List.mem_of_getElem? (i := 510) (by decide +kernel), List.mem_of_getElem? (i := 511) (by decide +kernel)⟩
theorem lw_p11 : lw_okq (⟨"KnotColours$Table", "isNewTranslation", "(I)Z"⟩, 2) := ⟨⟨by decide +kernel, by decide +kernel⟩, List.mem_of_getElem? (i := 20) (by decide +kernel), List.mem_of_getElem? (i := 541) (by decide +kernel), List.mem_of_getElem? (i := 542) (by decide +kernel)⟩
theorem lw_p12 : lw_okq (⟨"KnotColours$Table", "sameTranslation", "(II)Z"⟩, 2) := ⟨⟨by decide +kernel, by decide +kernel⟩, List.mem_of_getElem? (i := 20) (by decide +kernel), List.mem_of_getElem? (i := 545) (by decide +kernel), List.mem_of_getElem? (i := 546) (by decide +kernel)⟩
theorem lw_p13 : lw_okq (⟨"KnotColours$Permutations", "startAtIdentity", "()V"⟩, 4) := ⟨⟨by decide +kernel, by decide +kernel⟩, List.mem_of_getElem? (i := 37) (by decide +kernel), List.mem_of_getElem? (i := 560) (by decide +kernel), List.mem_of_getElem? (i := 561) (by decide +kernel)⟩
theorem lw_p14 : lw_okq (⟨"KnotColours$Permutations", "unrank", "(II)V"⟩, 4) := ⟨⟨by decide +kernel, by decide +kernel⟩, List.mem_of_getElem? (i := 37) (by decide +kernel), List.mem_of_getElem? (i := 564) (by decide +kernel), List.mem_of_getElem? (i := 565) (by decide +kernel)⟩
theorem lw_p15 : lw_okq (⟨"KnotColours$Permutations", "rankBehind", "(LKnotColours$Table;I)I"⟩, 4) := ⟨⟨by decide +kernel, by decide +kernel⟩, List.mem_of_getElem? (i := 37) (by decide +kernel), List.mem_of_getElem? (i := 568) (by decide +kernel), List.mem_of_getElem? (i := 569) (by decide +kernel)⟩
def lw_privs_1 : List (MethodName × Nat) := [(⟨"KnotColours", "makeLinear", "(II)I"⟩, 7), (⟨"KnotColours", "saveState", "()V"⟩, 7), (⟨"KnotColours$Table", "fillTranslation", "(III)V"⟩, 2), (⟨"KnotColours$Table", "isPermutation", "(I)Z"⟩, 2), (⟨"KnotColours$ColouringWalk", "start", "()V"⟩, 6), (⟨"KnotColours$ColouringWalk", "advance", "()Z"⟩, 6), (⟨"KnotColours$ColouringWalk", "fits", "()Z"⟩, 6), (⟨"KnotColours$ColouringWalk", "isMet", "(I)Z"⟩, 6), (⟨"KnotColours$ColouringWalk", "coloursUsed", "()I"⟩, 6), (⟨"KnotColours$Table", "isIdentityAfter", "(II)Z"⟩, 2), (⟨"KnotColours$Table", "componentOf", "(I)I"⟩, 2), (⟨"KnotColours$Table", "isNewTranslation", "(I)Z"⟩, 2), (⟨"KnotColours$Table", "sameTranslation", "(II)Z"⟩, 2), (⟨"KnotColours$Permutations", "startAtIdentity", "()V"⟩, 4), (⟨"KnotColours$Permutations", "unrank", "(II)V"⟩, 4), (⟨"KnotColours$Permutations", "rankBehind", "(LKnotColours$Table;I)I"⟩, 4)]
theorem lw_r1 : ∀ q ∈ lw_privs_1, lw_okq q := List.forall_mem_cons.mpr ⟨lw_p0, List.forall_mem_cons.mpr ⟨lw_p1, List.forall_mem_cons.mpr ⟨lw_p2, List.forall_mem_cons.mpr ⟨lw_p3, List.forall_mem_cons.mpr ⟨lw_p4, List.forall_mem_cons.mpr ⟨lw_p5, List.forall_mem_cons.mpr ⟨lw_p6, List.forall_mem_cons.mpr ⟨lw_p7, List.forall_mem_cons.mpr ⟨lw_p8, List.forall_mem_cons.mpr ⟨lw_p9, List.forall_mem_cons.mpr ⟨lw_p10, List.forall_mem_cons.mpr ⟨lw_p11, List.forall_mem_cons.mpr ⟨lw_p12, List.forall_mem_cons.mpr ⟨lw_p13, List.forall_mem_cons.mpr ⟨lw_p14, List.forall_mem_cons.mpr ⟨lw_p15, fun _ h => absurd h List.not_mem_nil⟩⟩⟩⟩⟩⟩⟩⟩⟩⟩⟩⟩⟩⟩⟩⟩
theorem lw_p16 : lw_okq (⟨"KnotColours$Permutations", "keepsProducts", "(LKnotColours$Table;)Z"⟩, 4) := ⟨⟨by decide +kernel, by decide +kernel⟩, List.mem_of_getElem? (i := 37) (by decide +kernel), List.mem_of_getElem? (i := 581) (by decide +kernel), List.mem_of_getElem? (i := 582) (by decide +kernel)⟩
theorem lw_p17 : lw_okq (⟨"KnotColours$Diagram", "countAs", "(II)I"⟩, 3) := ⟨⟨by decide +kernel, by decide +kernel⟩, List.mem_of_getElem? (i := 57) (by decide +kernel), List.mem_of_getElem? (i := 623) (by decide +kernel), List.mem_of_getElem? (i := 624) (by decide +kernel)⟩
theorem lw_p18 : lw_okq (⟨"KnotColours$Diagram", "componentOf", "(I)I"⟩, 3) := ⟨⟨by decide +kernel, by decide +kernel⟩, List.mem_of_getElem? (i := 57) (by decide +kernel), List.mem_of_getElem? (i := 631) (by decide +kernel), List.mem_of_getElem? (i := 632) (by decide +kernel)⟩
def lw_privs_2 : List (MethodName × Nat) := [(⟨"KnotColours$Permutations", "keepsProducts", "(LKnotColours$Table;)Z"⟩, 4), (⟨"KnotColours$Diagram", "countAs", "(II)I"⟩, 3), (⟨"KnotColours$Diagram", "componentOf", "(I)I"⟩, 3)]
theorem lw_r2 : ∀ q ∈ lw_privs_2, lw_okq q := List.forall_mem_cons.mpr ⟨lw_p16, List.forall_mem_cons.mpr ⟨lw_p17, List.forall_mem_cons.mpr ⟨lw_p18, fun _ h => absurd h List.not_mem_nil⟩⟩⟩
def lw_privs : List (MethodName × Nat) := lw_privs_1 ++ (lw_privs_2)
def lw_tbl : List Cond := k2_sels lw_privs ++ tables_1
theorem lw_privs_ok : ∀ q ∈ lw_privs, lw_okq q := by
  show ∀ q ∈ lw_privs_1 ++ (lw_privs_2), lw_okq q
  exact List.forall_mem_append.mpr ⟨lw_r1, lw_r2⟩
theorem goodIn_r {big : List Cond} (ws : List Cond) (ps : List Nat) (hp : ws = ps.filterMap (fun i => big[i]?)) (h : ws.all goodWord = true) : GoodIn big ws := by
  intro w hw
  have h1 := List.all_eq_true.mp h w hw
  rw [hp] at hw
  obtain ⟨i, -, hi⟩ := List.mem_filterMap.mp hw
  have hm : w ∈ big := by first | exact List.mem_of_getElem? hi | exact List.getElem?_mem hi
  exact ⟨hm, good_of_word h1⟩
theorem goodIn_app {big a b : List Cond} (ha : GoodIn big a) (hb : GoodIn big b) : GoodIn big (a ++ b) := fun w h => (List.mem_append.mp h).elim (ha w) (hb w)
theorem goodIn_ca {big a b : List Cond} {c : Cond} (ha : GoodIn big (c :: a)) (hb : GoodIn big b) : GoodIn big (c :: (a ++ b)) := fun w h => (List.mem_cons.mp h).elim (fun e => ha w (List.mem_cons.mpr (Or.inl e))) (fun h => (List.mem_append.mp h).elim (fun h => ha w (List.mem_cons.mpr (Or.inr h))) (hb w))
theorem goodIn_sub {big ws : List Cond} (hm : ∀ w ∈ ws, w ∈ big) (h : ws.all goodWord = true) : GoodIn big ws := fun w hw => ⟨hm w hw, good_of_word (List.all_eq_true.mp h w hw)⟩
def RX0 : String := "KnotColours$ColouringWalk"
def TX0 : u_T := fun k => match k with
  | 0 => ("KnotColours$ColouringWalk", "table", "LKnotColours$Table;", true)
  | 1 => ("KnotColours$ColouringWalk", "diagram", "LKnotColours$Diagram;", true)
  | 2 => ("KnotColours$ColouringWalk", "colours", "[I", true)
  | 3 => ("KnotColours$ColouringWalk", "lastArcs", "[I", true)
  | 4 => ("KnotColours$ColouringWalk", "tallies", "[I", true)
  | _ => ("KnotColours$ColouringWalk", "arc", "I", false)
def tyX0 : Nat → FieldType := fun k => match k with
  | 0 => .object "KnotColours$Table"
  | 1 => .object "KnotColours$Diagram"
  | 2 => .array .int
  | 3 => .array .int
  | 4 => .array .int
  | _ => .int
abbrev wsX00 : List Cond := u_ws RX0 TX0 6
theorem nmX0 : ∀ a, a < 6 → ∀ b, b < 6 → a ≠ b → (TX0 a).2.1 ≠ (TX0 b).2.1 := by decide +kernel
theorem tyX0_ok : ∀ k, k < 6 → parseFieldDescriptor (TX0 k).2.2.1 = some (tyX0 k) := by decide +kernel
abbrev cX0_init : ByteArray := prog_2_method_1_code
def yX0_init : MethodName := ⟨RX0, "<init>", "(LKnotColours$Table;LKnotColours$Diagram;)V"⟩
abbrev cX0_tally : ByteArray := prog_2_method_2_code
def yX0_tally : MethodName := ⟨RX0, "tally", "()I"⟩
abbrev cX0_talliedUsing : ByteArray := prog_2_method_3_code
def yX0_talliedUsing : MethodName := ⟨RX0, "talliedUsing", "(I)I"⟩
abbrev cX0_coloursUsed : ByteArray := prog_2_method_4_code
def yX0_coloursUsed : MethodName := ⟨RX0, "coloursUsed", "()I"⟩
abbrev cX0_countWith : ByteArray := prog_2_method_5_code
def yX0_countWith : MethodName := ⟨RX0, "countWith", "(II)I"⟩
abbrev cX0_countAlike : ByteArray := prog_2_method_6_code
def yX0_countAlike : MethodName := ⟨RX0, "countAlike", "(II)I"⟩
abbrev cX0_colourAt : ByteArray := prog_2_method_7_code
def yX0_colourAt : MethodName := ⟨RX0, "colourAt", "(II)I"⟩
abbrev cX0_start : ByteArray := prog_2_method_8_code
def yX0_start : MethodName := ⟨RX0, "start", "()V"⟩
abbrev cX0_advance : ByteArray := prog_2_method_9_code
def yX0_advance : MethodName := ⟨RX0, "advance", "()Z"⟩
abbrev cX0_fits : ByteArray := prog_2_method_10_code
def yX0_fits : MethodName := ⟨RX0, "fits", "()Z"⟩
abbrev cX0_isMet : ByteArray := prog_2_method_11_code
def yX0_isMet : MethodName := ⟨RX0, "isMet", "(I)Z"⟩
def RX1 : String := "KnotColours$Diagram"
def TX1 : u_T := fun k => match k with
  | 0 => ("KnotColours$Diagram", "arcCount", "I", false)
  | 1 => ("KnotColours$Diagram", "crossingCount", "I", false)
  | _ => ("KnotColours$Diagram", "parts", "[I", true)
def tyX1 : Nat → FieldType := fun k => match k with
  | 0 => .int
  | 1 => .int
  | _ => .array .int
abbrev wsX10 : List Cond := u_ws RX1 TX1 3
theorem nmX1 : ∀ a, a < 3 → ∀ b, b < 3 → a ≠ b → (TX1 a).2.1 ≠ (TX1 b).2.1 := by decide +kernel
theorem tyX1_ok : ∀ k, k < 3 → parseFieldDescriptor (TX1 k).2.2.1 = some (tyX1 k) := by decide +kernel
abbrev cX1_init : ByteArray := prog_3_method_1_code
def yX1_init : MethodName := ⟨RX1, "<init>", "()V"⟩
abbrev cX1_hasArc : ByteArray := prog_3_method_2_code
def yX1_hasArc : MethodName := ⟨RX1, "hasArc", "(I)Z"⟩
abbrev cX1_hasCrossing : ByteArray := prog_3_method_3_code
def yX1_hasCrossing : MethodName := ⟨RX1, "hasCrossing", "(I)Z"⟩
abbrev cX1_hasRoom : ByteArray := prog_3_method_4_code
def yX1_hasRoom : MethodName := ⟨RX1, "hasRoom", "(II)Z"⟩
abbrev cX1_part : ByteArray := prog_3_method_5_code
def yX1_part : MethodName := ⟨RX1, "part", "(II)I"⟩
abbrev cX1_copyFrom : ByteArray := prog_3_method_6_code
def yX1_copyFrom : MethodName := ⟨RX1, "copyFrom", "(LKnotColours$Diagram;)V"⟩
abbrev cX1_clear : ByteArray := prog_3_method_7_code
def yX1_clear : MethodName := ⟨RX1, "clear", "(I)V"⟩
abbrev cX1_addArc : ByteArray := prog_3_method_8_code
def yX1_addArc : MethodName := ⟨RX1, "addArc", "()I"⟩
abbrev cX1_append : ByteArray := prog_3_method_9_code
def yX1_append : MethodName := ⟨RX1, "append", "(IIII)V"⟩
abbrev cX1_remove : ByteArray := prog_3_method_10_code
def yX1_remove : MethodName := ⟨RX1, "remove", "(I)V"⟩
abbrev cX1_moveIn : ByteArray := prog_3_method_11_code
def yX1_moveIn : MethodName := ⟨RX1, "moveIn", "(II)V"⟩
abbrev cX1_isClosed : ByteArray := prog_3_method_12_code
def yX1_isClosed : MethodName := ⟨RX1, "isClosed", "()Z"⟩
abbrev cX1_countAs : ByteArray := prog_3_method_13_code
def yX1_countAs : MethodName := ⟨RX1, "countAs", "(II)I"⟩
abbrev cX1_countComponents : ByteArray := prog_3_method_14_code
def yX1_countComponents : MethodName := ⟨RX1, "countComponents", "()I"⟩
abbrev cX1_componentOf : ByteArray := prog_3_method_15_code
def yX1_componentOf : MethodName := ⟨RX1, "componentOf", "(I)I"⟩
abbrev cX1_signSum : ByteArray := prog_3_method_16_code
def yX1_signSum : MethodName := ⟨RX1, "signSum", "()I"⟩
abbrev cX1_linkingSum : ByteArray := prog_3_method_17_code
def yX1_linkingSum : MethodName := ⟨RX1, "linkingSum", "(II)I"⟩
def RX2 : String := "KnotColours$DiagramText"
def TX2 : u_T := fun k => match k with
  | 0 => ("KnotColours$DiagramText", "length", "I", false)
  | _ => ("KnotColours$DiagramText", "characters", "[C", true)
def tyX2 : Nat → FieldType := fun k => match k with
  | 0 => .int
  | _ => .array .char
abbrev wsX20 : List Cond := u_ws RX2 TX2 2
theorem nmX2 : ∀ a, a < 2 → ∀ b, b < 2 → a ≠ b → (TX2 a).2.1 ≠ (TX2 b).2.1 := by decide +kernel
theorem tyX2_ok : ∀ k, k < 2 → parseFieldDescriptor (TX2 k).2.2.1 = some (tyX2 k) := by decide +kernel
abbrev cX2_init : ByteArray := prog_4_method_1_code
def yX2_init : MethodName := ⟨RX2, "<init>", "()V"⟩
def RX3 : String := "KnotColours$History"
def TX3 : u_T := fun k => match k with
  | 0 => ("KnotColours$History", "saved", "I", false)
  | 1 => ("KnotColours$History", "next", "I", false)
  | 2 => ("KnotColours$History", "tables", "[LKnotColours$Table;", true)
  | _ => ("KnotColours$History", "diagrams", "[LKnotColours$Diagram;", true)
def tyX3 : Nat → FieldType := fun k => match k with
  | 0 => .int
  | 1 => .int
  | 2 => .array (.object "KnotColours$Table")
  | _ => .array (.object "KnotColours$Diagram")
abbrev wsX30 : List Cond := u_ws RX3 TX3 4
theorem nmX3 : ∀ a, a < 4 → ∀ b, b < 4 → a ≠ b → (TX3 a).2.1 ≠ (TX3 b).2.1 := by decide +kernel
theorem tyX3_ok : ∀ k, k < 4 → parseFieldDescriptor (TX3 k).2.2.1 = some (tyX3 k) := by decide +kernel
abbrev cX3_init : ByteArray := prog_5_method_1_code
def yX3_init : MethodName := ⟨RX3, "<init>", "()V"⟩
abbrev cX3_save : ByteArray := prog_5_method_2_code
def yX3_save : MethodName := ⟨RX3, "save", "(LKnotColours$Table;LKnotColours$Diagram;)V"⟩
def RX4 : String := "KnotColours$Permutations"
def TX4 : u_T := fun k => match k with
  | 0 => ("KnotColours$Permutations", "image", "[I", true)
  | 1 => ("KnotColours$Permutations", "composed", "[I", true)
  | 2 => ("KnotColours$Permutations", "queue", "[I", true)
  | _ => ("KnotColours$Permutations", "seen", "[Z", true)
def tyX4 : Nat → FieldType := fun k => match k with
  | 0 => .array .int
  | 1 => .array .int
  | 2 => .array .int
  | _ => .array .boolean
abbrev wsX40 : List Cond := u_ws RX4 TX4 4
theorem nmX4 : ∀ a, a < 4 → ∀ b, b < 4 → a ≠ b → (TX4 a).2.1 ≠ (TX4 b).2.1 := by decide +kernel
theorem tyX4_ok : ∀ k, k < 4 → parseFieldDescriptor (TX4 k).2.2.1 = some (tyX4 k) := by decide +kernel
abbrev cX4_init : ByteArray := prog_6_method_1_code
def yX4_init : MethodName := ⟨RX4, "<init>", "()V"⟩
abbrev cX4_countCompositions : ByteArray := prog_6_method_2_code
def yX4_countCompositions : MethodName := ⟨RX4, "countCompositions", "(LKnotColours$Table;)I"⟩
abbrev cX4_startAtIdentity : ByteArray := prog_6_method_3_code
def yX4_startAtIdentity : MethodName := ⟨RX4, "startAtIdentity", "()V"⟩
abbrev cX4_rankBehind : ByteArray := prog_6_method_4_code
def yX4_rankBehind : MethodName := ⟨RX4, "rankBehind", "(LKnotColours$Table;I)I"⟩
abbrev cX4_unrank : ByteArray := prog_6_method_5_code
def yX4_unrank : MethodName := ⟨RX4, "unrank", "(II)V"⟩
abbrev cX4_countAutomorphisms : ByteArray := prog_6_method_6_code
def yX4_countAutomorphisms : MethodName := ⟨RX4, "countAutomorphisms", "(LKnotColours$Table;)I"⟩
abbrev cX4_keepsProducts : ByteArray := prog_6_method_7_code
def yX4_keepsProducts : MethodName := ⟨RX4, "keepsProducts", "(LKnotColours$Table;)Z"⟩
def RX5 : String := "KnotColours$Table"
def TX5 : u_T := fun k => match k with
  | 0 => ("KnotColours$Table", "count", "I", false)
  | _ => ("KnotColours$Table", "products", "[I", true)
def tyX5 : Nat → FieldType := fun k => match k with
  | 0 => .int
  | _ => .array .int
abbrev wsX50 : List Cond := u_ws RX5 TX5 2
theorem nmX5 : ∀ a, a < 2 → ∀ b, b < 2 → a ≠ b → (TX5 a).2.1 ≠ (TX5 b).2.1 := by decide +kernel
theorem tyX5_ok : ∀ k, k < 2 → parseFieldDescriptor (TX5 k).2.2.1 = some (tyX5 k) := by decide +kernel
abbrev cX5_init : ByteArray := prog_7_method_1_code
def yX5_init : MethodName := ⟨RX5, "<init>", "()V"⟩
abbrev cX5_has : ByteArray := prog_7_method_2_code
def yX5_has : MethodName := ⟨RX5, "has", "(I)Z"⟩
abbrev cX5_times : ByteArray := prog_7_method_3_code
def yX5_times : MethodName := ⟨RX5, "times", "(II)I"⟩
abbrev cX5_put : ByteArray := prog_7_method_4_code
def yX5_put : MethodName := ⟨RX5, "put", "(III)V"⟩
abbrev cX5_copyFrom : ByteArray := prog_7_method_5_code
def yX5_copyFrom : MethodName := ⟨RX5, "copyFrom", "(LKnotColours$Table;)V"⟩
abbrev cX5_fillLinear : ByteArray := prog_7_method_6_code
def yX5_fillLinear : MethodName := ⟨RX5, "fillLinear", "(II)V"⟩
abbrev cX5_fillTranspositions : ByteArray := prog_7_method_7_code
def yX5_fillTranspositions : MethodName := ⟨RX5, "fillTranspositions", "(I)V"⟩
abbrev cX5_fillTranslation : ByteArray := prog_7_method_8_code
def yX5_fillTranslation : MethodName := ⟨RX5, "fillTranslation", "(III)V"⟩
abbrev cX5_pairNumber : ByteArray := prog_7_method_9_code
def yX5_pairNumber : MethodName := ⟨RX5, "pairNumber", "(III)I"⟩
abbrev cX5_swapped : ByteArray := prog_7_method_10_code
def yX5_swapped : MethodName := ⟨RX5, "swapped", "(III)I"⟩
abbrev cX5_fillInverse : ByteArray := prog_7_method_11_code
def yX5_fillInverse : MethodName := ⟨RX5, "fillInverse", "(LKnotColours$Table;)I"⟩
abbrev cX5_lowestFactor : ByteArray := prog_7_method_12_code
def yX5_lowestFactor : MethodName := ⟨RX5, "lowestFactor", "(II)I"⟩
abbrev cX5_firstNotIdempotent : ByteArray := prog_7_method_13_code
def yX5_firstNotIdempotent : MethodName := ⟨RX5, "firstNotIdempotent", "()I"⟩
abbrev cX5_firstNoPermutation : ByteArray := prog_7_method_14_code
def yX5_firstNoPermutation : MethodName := ⟨RX5, "firstNoPermutation", "()I"⟩
abbrev cX5_isPermutation : ByteArray := prog_7_method_15_code
def yX5_isPermutation : MethodName := ⟨RX5, "isPermutation", "(I)Z"⟩
abbrev cX5_firstNotDistributive : ByteArray := prog_7_method_16_code
def yX5_firstNotDistributive : MethodName := ⟨RX5, "firstNotDistributive", "()I"⟩
abbrev cX5_allElements : ByteArray := prog_7_method_17_code
def yX5_allElements : MethodName := ⟨RX5, "allElements", "()I"⟩
abbrev cX5_reachedFrom : ByteArray := prog_7_method_18_code
def yX5_reachedFrom : MethodName := ⟨RX5, "reachedFrom", "(I)I"⟩
abbrev cX5_countComponents : ByteArray := prog_7_method_19_code
def yX5_countComponents : MethodName := ⟨RX5, "countComponents", "()I"⟩
abbrev cX5_componentOf : ByteArray := prog_7_method_20_code
def yX5_componentOf : MethodName := ⟨RX5, "componentOf", "(I)I"⟩
abbrev cX5_closureOf : ByteArray := prog_7_method_21_code
def yX5_closureOf : MethodName := ⟨RX5, "closureOf", "(I)I"⟩
abbrev cX5_leastGenerators : ByteArray := prog_7_method_22_code
def yX5_leastGenerators : MethodName := ⟨RX5, "leastGenerators", "()I"⟩
abbrev cX5_orderOfTranslation : ByteArray := prog_7_method_23_code
def yX5_orderOfTranslation : MethodName := ⟨RX5, "orderOfTranslation", "(I)I"⟩
abbrev cX5_isIdentityAfter : ByteArray := prog_7_method_24_code
def yX5_isIdentityAfter : MethodName := ⟨RX5, "isIdentityAfter", "(II)Z"⟩
abbrev cX5_countTranslations : ByteArray := prog_7_method_25_code
def yX5_countTranslations : MethodName := ⟨RX5, "countTranslations", "()I"⟩
abbrev cX5_isNewTranslation : ByteArray := prog_7_method_26_code
def yX5_isNewTranslation : MethodName := ⟨RX5, "isNewTranslation", "(I)Z"⟩
abbrev cX5_sameTranslation : ByteArray := prog_7_method_27_code
def yX5_sameTranslation : MethodName := ⟨RX5, "sameTranslation", "(II)Z"⟩
def RX6 : String := "KnotColours"
def TX6 : u_T := fun k => match k with
  | 0 => ("KnotColours", "table", "LKnotColours$Table;", true)
  | 1 => ("KnotColours", "spare", "LKnotColours$Table;", true)
  | 2 => ("KnotColours", "permutations", "LKnotColours$Permutations;", true)
  | 3 => ("KnotColours", "diagram", "LKnotColours$Diagram;", true)
  | 4 => ("KnotColours", "walk", "LKnotColours$ColouringWalk;", true)
  | 5 => ("KnotColours", "text", "LKnotColours$DiagramText;", true)
  | _ => ("KnotColours", "history", "LKnotColours$History;", true)
def tyX6 : Nat → FieldType := fun k => match k with
  | 0 => .object "KnotColours$Table"
  | 1 => .object "KnotColours$Table"
  | 2 => .object "KnotColours$Permutations"
  | 3 => .object "KnotColours$Diagram"
  | 4 => .object "KnotColours$ColouringWalk"
  | 5 => .object "KnotColours$DiagramText"
  | _ => .object "KnotColours$History"
abbrev wsX60 : List Cond := u_ws RX6 TX6 7
theorem nmX6 : ∀ a, a < 7 → ∀ b, b < 7 → a ≠ b → (TX6 a).2.1 ≠ (TX6 b).2.1 := by decide +kernel
theorem tyX6_ok : ∀ k, k < 7 → parseFieldDescriptor (TX6 k).2.2.1 = some (tyX6 k) := by decide +kernel
abbrev cX6_init : ByteArray := prog_1_method_1_code
def yX6_init : MethodName := ⟨RX6, "<init>", "()V"⟩
abbrev cX6_trivial : ByteArray := prog_1_method_2_code
def yX6_trivial : MethodName := ⟨RX6, "trivial", "(I)I"⟩
abbrev cX6_dihedral : ByteArray := prog_1_method_3_code
def yX6_dihedral : MethodName := ⟨RX6, "dihedral", "(I)I"⟩
abbrev cX6_linear : ByteArray := prog_1_method_4_code
def yX6_linear : MethodName := ⟨RX6, "linear", "(II)I"⟩
abbrev cX6_transpositions : ByteArray := prog_1_method_5_code
def yX6_transpositions : MethodName := ⟨RX6, "transpositions", "(I)I"⟩
abbrev cX6_setProduct : ByteArray := prog_1_method_6_code
def yX6_setProduct : MethodName := ⟨RX6, "setProduct", "(III)I"⟩
abbrev cX6_invert : ByteArray := prog_1_method_7_code
def yX6_invert : MethodName := ⟨RX6, "invert", "()I"⟩
abbrev cX6_size : ByteArray := prog_1_method_8_code
def yX6_size : MethodName := ⟨RX6, "size", "()I"⟩
abbrev cX6_product : ByteArray := prog_1_method_9_code
def yX6_product : MethodName := ⟨RX6, "product", "(II)I"⟩
abbrev cX6_quotient : ByteArray := prog_1_method_10_code
def yX6_quotient : MethodName := ⟨RX6, "quotient", "(II)I"⟩
abbrev cX6_violation : ByteArray := prog_1_method_11_code
def yX6_violation : MethodName := ⟨RX6, "violation", "(I)I"⟩
abbrev cX6_reach : ByteArray := prog_1_method_12_code
def yX6_reach : MethodName := ⟨RX6, "reach", "(I)I"⟩
abbrev cX6_tableComponents : ByteArray := prog_1_method_13_code
def yX6_tableComponents : MethodName := ⟨RX6, "tableComponents", "()I"⟩
abbrev cX6_closure : ByteArray := prog_1_method_14_code
def yX6_closure : MethodName := ⟨RX6, "closure", "(I)I"⟩
abbrev cX6_generators : ByteArray := prog_1_method_15_code
def yX6_generators : MethodName := ⟨RX6, "generators", "()I"⟩
abbrev cX6_translationOrder : ByteArray := prog_1_method_16_code
def yX6_translationOrder : MethodName := ⟨RX6, "translationOrder", "(I)I"⟩
abbrev cX6_translations : ByteArray := prog_1_method_17_code
def yX6_translations : MethodName := ⟨RX6, "translations", "()I"⟩
abbrev cX6_innerGroup : ByteArray := prog_1_method_18_code
def yX6_innerGroup : MethodName := ⟨RX6, "innerGroup", "()I"⟩
abbrev cX6_automorphisms : ByteArray := prog_1_method_19_code
def yX6_automorphisms : MethodName := ⟨RX6, "automorphisms", "()I"⟩
abbrev cX6_newDiagram : ByteArray := prog_1_method_20_code
def yX6_newDiagram : MethodName := ⟨RX6, "newDiagram", "(I)I"⟩
abbrev cX6_standard : ByteArray := prog_1_method_21_code
def yX6_standard : MethodName := ⟨RX6, "standard", "(I)I"⟩
abbrev cX6_addCrossing : ByteArray := prog_1_method_22_code
def yX6_addCrossing : MethodName := ⟨RX6, "addCrossing", "(IIII)I"⟩
abbrev cX6_removeCrossing : ByteArray := prog_1_method_23_code
def yX6_removeCrossing : MethodName := ⟨RX6, "removeCrossing", "(I)I"⟩
abbrev cX6_kink : ByteArray := prog_1_method_24_code
def yX6_kink : MethodName := ⟨RX6, "kink", "(II)I"⟩
abbrev cX6_poke : ByteArray := prog_1_method_25_code
def yX6_poke : MethodName := ⟨RX6, "poke", "(II)I"⟩
abbrev cX6_arcs : ByteArray := prog_1_method_26_code
def yX6_arcs : MethodName := ⟨RX6, "arcs", "()I"⟩
abbrev cX6_crossings : ByteArray := prog_1_method_27_code
def yX6_crossings : MethodName := ⟨RX6, "crossings", "()I"⟩
abbrev cX6_crossing : ByteArray := prog_1_method_28_code
def yX6_crossing : MethodName := ⟨RX6, "crossing", "(II)I"⟩
abbrev cX6_components : ByteArray := prog_1_method_29_code
def yX6_components : MethodName := ⟨RX6, "components", "()I"⟩
abbrev cX6_writhe : ByteArray := prog_1_method_30_code
def yX6_writhe : MethodName := ⟨RX6, "writhe", "()I"⟩
abbrev cX6_linking : ByteArray := prog_1_method_31_code
def yX6_linking : MethodName := ⟨RX6, "linking", "(II)I"⟩
abbrev cX6_colourings : ByteArray := prog_1_method_32_code
def yX6_colourings : MethodName := ⟨RX6, "colourings", "()I"⟩
abbrev cX6_colouringsWith : ByteArray := prog_1_method_33_code
def yX6_colouringsWith : MethodName := ⟨RX6, "colouringsWith", "(II)I"⟩
abbrev cX6_colouringsAlike : ByteArray := prog_1_method_34_code
def yX6_colouringsAlike : MethodName := ⟨RX6, "colouringsAlike", "(II)I"⟩
abbrev cX6_colouringsUsing : ByteArray := prog_1_method_35_code
def yX6_colouringsUsing : MethodName := ⟨RX6, "colouringsUsing", "(I)I"⟩
abbrev cX6_colour : ByteArray := prog_1_method_36_code
def yX6_colour : MethodName := ⟨RX6, "colour", "(II)I"⟩
abbrev cX6_isSize : ByteArray := prog_1_method_43_code
def yX6_isSize : MethodName := ⟨RX6, "isSize", "(I)Z"⟩
abbrev cX6_makeLinear : ByteArray := prog_1_method_44_code
def yX6_makeLinear : MethodName := ⟨RX6, "makeLinear", "(II)I"⟩
abbrev cX6_saveState : ByteArray := prog_1_method_45_code
def yX6_saveState : MethodName := ⟨RX6, "saveState", "()V"⟩
def RX7 : String := "KnotColoursModel"
def TX7 : u_T := fun k => match k with
  | _ => ("", "", "", false)
def tyX7 : Nat → FieldType := fun k => match k with
  | _ => .int
abbrev wsX70 : List Cond := u_ws RX7 TX7 0
theorem nmX7 : ∀ a, a < 0 → ∀ b, b < 0 → a ≠ b → (TX7 a).2.1 ≠ (TX7 b).2.1 := by decide +kernel
theorem tyX7_ok : ∀ k, k < 0 → parseFieldDescriptor (TX7 k).2.2.1 = some (tyX7 k) := by decide +kernel
def RJ6 : String := "java/lang/Integer"
def TJ6 : u_T := fun k => match k with
  | _ => ("", "", "", false)
def tyJ6 : Nat → FieldType := fun k => match k with
  | _ => .int
abbrev wsJ60 : List Cond := u_ws RJ6 TJ6 0
theorem nmJ6 : ∀ a, a < 0 → ∀ b, b < 0 → a ≠ b → (TJ6 a).2.1 ≠ (TJ6 b).2.1 := by decide +kernel
theorem tyJ6_ok : ∀ k, k < 0 → parseFieldDescriptor (TJ6 k).2.2.1 = some (tyJ6 k) := by decide +kernel
abbrev cJ6_bitCount_0f7a4 : ByteArray := prog_10_method_49_code
def yJ6_bitCount_0f7a4 : MethodName := ⟨RJ6, "bitCount", "(I)I"⟩
def RJ9 : String := "java/lang/Math"
def TJ9 : u_T := fun k => match k with
  | _ => ("", "", "", false)
def tyJ9 : Nat → FieldType := fun k => match k with
  | _ => .int
abbrev wsJ90 : List Cond := u_ws RJ9 TJ9 0
theorem nmJ9 : ∀ a, a < 0 → ∀ b, b < 0 → a ≠ b → (TJ9 a).2.1 ≠ (TJ9 b).2.1 := by decide +kernel
theorem tyJ9_ok : ∀ k, k < 0 → parseFieldDescriptor (TJ9 k).2.2.1 = some (tyJ9 k) := by decide +kernel
abbrev cJ9_floorMod_7cf53 : ByteArray := prog_11_method_50_code
def yJ9_floorMod_7cf53 : MethodName := ⟨RJ9, "floorMod", "(II)I"⟩
abbrev cJ9_max_7cf53 : ByteArray := prog_11_method_65_code
def yJ9_max_7cf53 : MethodName := ⟨RJ9, "max", "(II)I"⟩
abbrev cJ9_min_7cf53 : ByteArray := prog_11_method_69_code
def yJ9_min_7cf53 : MethodName := ⟨RJ9, "min", "(II)I"⟩
def RJ10 : String := "java/lang/System"
def TJ10 : u_T := fun k => match k with
  | _ => ("", "", "", false)
def tyJ10 : Nat → FieldType := fun k => match k with
  | _ => .int
abbrev wsJ100 : List Cond := u_ws RJ10 TJ10 0
theorem nmJ10 : ∀ a, a < 0 → ∀ b, b < 0 → a ≠ b → (TJ10 a).2.1 ≠ (TJ10 b).2.1 := by decide +kernel
theorem tyJ10_ok : ∀ k, k < 0 → parseFieldDescriptor (TJ10 k).2.2.1 = some (tyJ10 k) := by decide +kernel
def RL : String := "KnotColoursLaw"
abbrev cL_cell : ByteArray := method_2_code
def yL_cell : MethodName := ⟨RL, "cell", "([II)I"⟩
abbrev cL_low : ByteArray := method_3_code
def yL_low : MethodName := ⟨RL, "low", "(II)I"⟩
abbrev cL_ones : ByteArray := method_4_code
def yL_ones : MethodName := ⟨RL, "ones", "(I)I"⟩
abbrev cL_column : ByteArray := method_5_code
def yL_column : MethodName := ⟨RL, "column", "(I[I[I)I"⟩
abbrev cL_violation : ByteArray := method_6_code
def yL_violation : MethodName := ⟨RL, "violation", "(I[I[I)I"⟩
abbrev cL_closure : ByteArray := method_7_code
def yL_closure : MethodName := ⟨RL, "closure", "(I[I[I)I"⟩
abbrev cL_reach : ByteArray := method_8_code
def yL_reach : MethodName := ⟨RL, "reach", "(IZ[I[I)I"⟩
abbrev cL_order : ByteArray := method_9_code
def yL_order : MethodName := ⟨RL, "order", "(I[I[I)I"⟩
abbrev cL_different : ByteArray := method_10_code
def yL_different : MethodName := ⟨RL, "different", "([I[I)I"⟩
abbrev cL_group : ByteArray := method_11_code
def yL_group : MethodName := ⟨RL, "group", "([I[I)I"⟩
abbrev cL_automorphisms : ByteArray := method_12_code
def yL_automorphisms : MethodName := ⟨RL, "automorphisms", "([I[I)I"⟩
abbrev cL_closed : ByteArray := method_13_code
def yL_closed : MethodName := ⟨RL, "closed", "([I[I)Z"⟩
abbrev cL_component : ByteArray := method_14_code
def yL_component : MethodName := ⟨RL, "component", "(I[I[I)I"⟩
abbrev cL_digit : ByteArray := method_15_code
def yL_digit : MethodName := ⟨RL, "digit", "(II[I)I"⟩
abbrev cL_good : ByteArray := method_16_code
def yL_good : MethodName := ⟨RL, "good", "(I[I[I[I)Z"⟩
abbrev cL_colourings : ByteArray := method_17_code
def yL_colourings : MethodName := ⟨RL, "colourings", "(LKnotColours;I[I[I[I)Z"⟩
abbrev cL_same : ByteArray := method_18_code
def yL_same : MethodName := ⟨RL, "same", "(LKnotColours;I[I[I[I)Z"⟩
abbrev cL_add : ByteArray := method_19_code
def yL_add : MethodName := ⟨RL, "add", "(IIII[I[I)V"⟩
abbrev cL_moved : ByteArray := method_20_code
def yL_moved : MethodName := ⟨RL, "moved", "(II[I[I)V"⟩
abbrev cL_law : ByteArray := code
def yL_law : MethodName := ⟨RL, "law", "([I)Z"⟩
abbrev vwCl : List vw_C := [(RX0, TX0, 6), (RX1, TX1, 3), (RX2, TX2, 2), (RX3, TX3, 4), (RX4, TX4, 4), (RX5, TX5, 2), (RX6, TX6, 7)]
theorem inX0 : ∀ w ∈ wsX00, w ∈ lw_tbl := by decide +kernel
theorem inX1 : ∀ w ∈ wsX10, w ∈ lw_tbl := by decide +kernel
theorem inX2 : ∀ w ∈ wsX20, w ∈ lw_tbl := by decide +kernel
theorem inX3 : ∀ w ∈ wsX30, w ∈ lw_tbl := by decide +kernel
theorem inX4 : ∀ w ∈ wsX40, w ∈ lw_tbl := by decide +kernel
theorem inX5 : ∀ w ∈ wsX50, w ∈ lw_tbl := by decide +kernel
theorem inX6 : ∀ w ∈ wsX60, w ∈ lw_tbl := by decide +kernel
def lw_gw : List Cond := lw_tbl.filter goodWord
theorem gw {w : Cond} (h : w ∈ lw_tbl) (g : goodWord w = true) : w ∈ lw_gw := List.mem_filter.mpr ⟨h, g⟩
theorem gwt {w : Cond} (h : w ∈ lw_gw) : w ∈ lw_tbl := (List.mem_filter.mp h).1
theorem gwg {w : Cond} (h : w ∈ lw_gw) : goodWord w = true := (List.mem_filter.mp h).2
theorem igX0 : ∀ w ∈ wsX00, w ∈ lw_gw := fun w h => gw (inX0 w h) (List.all_eq_true.mp (by decide +kernel : wsX00.all goodWord = true) w h)
theorem igX1 : ∀ w ∈ wsX10, w ∈ lw_gw := fun w h => gw (inX1 w h) (List.all_eq_true.mp (by decide +kernel : wsX10.all goodWord = true) w h)
theorem igX2 : ∀ w ∈ wsX20, w ∈ lw_gw := fun w h => gw (inX2 w h) (List.all_eq_true.mp (by decide +kernel : wsX20.all goodWord = true) w h)
theorem igX3 : ∀ w ∈ wsX30, w ∈ lw_gw := fun w h => gw (inX3 w h) (List.all_eq_true.mp (by decide +kernel : wsX30.all goodWord = true) w h)
theorem igX4 : ∀ w ∈ wsX40, w ∈ lw_gw := fun w h => gw (inX4 w h) (List.all_eq_true.mp (by decide +kernel : wsX40.all goodWord = true) w h)
theorem igX5 : ∀ w ∈ wsX50, w ∈ lw_gw := fun w h => gw (inX5 w h) (List.all_eq_true.mp (by decide +kernel : wsX50.all goodWord = true) w h)
theorem igX6 : ∀ w ∈ wsX60, w ∈ lw_gw := fun w h => gw (inX6 w h) (List.all_eq_true.mp (by decide +kernel : wsX60.all goodWord = true) w h)
