/-! making objects: a judgement over worlds as lists of cells -/
def nestW : List (String × Nat × MethodName) := [(RX6, 9, yX5_init), (RX6, 21, yX4_init), (RX6, 28, yX1_init), (RX6, 44, yX2_init), (RX3, 30, yX5_init), (RX3, 31, yX1_init)]
def CtX (U : State) : Prop := va_AO RX5 U ∧ va_AO RX1 U ∧ ∀ q ∈ nestW, va_Nw (.methodLinkNest q.1 q.2.1 q.2.2 "KnotColours") U
theorem CtX.warm {s U : State} (hW : s.WarmedH U.vm) (h : CtX s) : CtX U := ⟨h.1.moved hW.alike, h.2.1.moved hW.alike, fun q hq => va_Nw.warmM hW (h.2.2 q hq)⟩
theorem CtX.same {s U : State} (hv : s.vm = U.vm) (h : CtX s) : CtX U := ⟨h.1.moved (hv ▸ Vm.Alike.refl s.vm), h.2.1.moved (hv ▸ Vm.Alike.refl s.vm), fun q hq => va_Nw.same rfl hv (h.2.2 q hq)⟩
def Cnx (D : va_G) (ck : Nat → ClassId) (own : String) (cc : ByteArray) (nL : Nat) (p : Program) (s : State) (m : MethodId) (args : Array Value) (meth : Method) (c : Code) (A : Nat → Prop) : Prop :=
  p.tables.exec = Jvm.exec ∧ c.code = cc ∧ c.maxLocals = nL ∧ s.vm.findClass own = some m.cls ∧ (∀ w ∈ lw_gw, w.before args s = true) ∧ va_K D vwCl (tysOf ck) s ∧ (∀ q : Nat, s.heap.size ≤ q → A q) ∧ (own ≠ RL → meth.name = "<init>") ∧ CtX s
abbrev CPost : Type := Nat → List (Nat × Value) → List Value → va_W → Nat → Nat → Prop
def Cn (l : Launch) (D : va_G) (ck : Nat → ClassId) (own : String) (cc : ByteArray) (nL : Nat) (R : Room) (pc : Nat) (ls : List (Nat × Value)) (st : List Value) (ws : va_W) (cells slots : Nat) (K : CPost) : Prop :=
  ∀ (p : Program) (e : Env) (s : State) (m : MethodId) (args : Array Value) (below : List Frame) (meth : Method) (c : Code) (A : Nat → Prop) (Q : State → Prop) (H : Heap) (locs : List Loc) (lsR : Array Slot),
    Cnx D ck own cc nL p s m args meth c A → va_P D vwCl ws H → va_D A ws → va_S A s.heap H locs → lv_has lsR nL ls →
    (∀ (pc : Nat) (ls : List (Nat × Value)) (st : List Value) (ws : va_W) (cells slots : Nat) (H : Heap) (locs : List Loc) (lsR : Array Slot), K pc ls st ws cells slots → va_P D vwCl ws H → va_D A ws → va_S A s.heap H locs → lv_has lsR nL ls → W p l e R s m args below meth c H locs cells slots Q (F0 m pc lsR st)) →
    W p l e R s m args below meth c H locs cells slots Q (F0 m pc lsR st)
section CN
variable {l : Launch} {D : va_G} {ck : Nat → ClassId} {own : String} {cc : ByteArray} {nL : Nat} {R : Room} {pc q : Nat} {ls : List (Nat × Value)} {st : List Value} {ws : va_W} {cells slots : Nat} {K : CPost}
theorem cn_end (k : K pc ls st ws cells slots) : Cn l D ck own cc nL R pc ls st ws cells slots K :=
  fun p e s m args below meth c A Q H locs lsR C hP hD hS hl hex => hex pc ls st ws cells slots H locs lsR k hP hD hS hl
theorem cn_iconst {n : Int} {v : Int32} (hd : decode cc pc = .ok (.iconst n, 1)) (hv : Int32.ofInt n = v) (hq : pc + 1 = q) (k : Cn l D ck own cc nL R q ls (.int v :: st) ws cells slots K) : Cn l D ck own cc nL R pc ls st ws cells slots K := by
  subst hq
  intro p e s m args below meth c A Q H locs lsR C hP hD hS hl hex
  exact lv_iconst C.1 C.2.1 hd hv (k p e s m args below meth c A Q H locs _ C hP hD hS hl hex)
theorem cn_bipush {n : Int} {v : Int32} (hd : decode cc pc = .ok (.bipush n, 2)) (hv : (Int8.ofInt n).toInt32 = v) (hq : pc + 2 = q) (k : Cn l D ck own cc nL R q ls (.int v :: st) ws cells slots K) : Cn l D ck own cc nL R pc ls st ws cells slots K := by
  subst hq
  intro p e s m args below meth c A Q H locs lsR C hP hD hS hl hex
  exact lv_bipush C.1 C.2.1 hd hv (k p e s m args below meth c A Q H locs _ C hP hD hS hl hex)
theorem cn_sipush {n : Int} {v : Int32} (hd : decode cc pc = .ok (.sipush n, 3)) (hv : (Int16.ofInt n).toInt32 = v) (hq : pc + 3 = q) (k : Cn l D ck own cc nL R q ls (.int v :: st) ws cells slots K) : Cn l D ck own cc nL R pc ls st ws cells slots K := by
  subst hq
  intro p e s m args below meth c A Q H locs lsR C hP hD hS hl hex
  exact lv_sipush C.1 C.2.1 hd hv (k p e s m args below meth c A Q H locs _ C hP hD hS hl hex)
theorem cn_dup {x : Nat} (hd : decode cc pc = .ok (.dup, 1)) (hq : pc + 1 = q) (k : Cn l D ck own cc nL R q ls (.ref x :: .ref x :: st) ws cells slots K) : Cn l D ck own cc nL R pc ls (.ref x :: st) ws cells slots K := by
  subst hq
  intro p e s m args below meth c A Q H locs lsR C hP hD hS hl hex
  exact lv_dup C.1 C.2.1 hd rfl (k p e s m args below meth c A Q H locs _ C hP hD hS hl hex)
theorem cn_aload {i : Fin 4} {x j : Nat} (a : Nat) (hj : (i : Nat) = j) (h : ls[a]? = some (j, .ref x)) (hd : decode cc pc = .ok (.aload_n i, 1)) (hq : pc + 1 = q) (k : Cn l D ck own cc nL R q ls (.ref x :: st) ws cells slots K) : Cn l D ck own cc nL R pc ls st ws cells slots K := by
  subst hq
  intro p e s m args below meth c A Q H locs lsR C hP hD hS hl hex
  exact lv_aload_n C.1 C.2.1 hd hj (lv_at hl a h) (k p e s m args below meth c A Q H locs _ C hP hD hS hl hex)
theorem cn_iload {i : Fin 4} {x : Int32} {j : Nat} (a : Nat) (hj : (i : Nat) = j) (h : ls[a]? = some (j, .int x)) (hd : decode cc pc = .ok (.iload_n i, 1)) (hq : pc + 1 = q) (k : Cn l D ck own cc nL R q ls (.int x :: st) ws cells slots K) : Cn l D ck own cc nL R pc ls st ws cells slots K := by
  subst hq
  intro p e s m args below meth c A Q H locs lsR C hP hD hS hl hex
  exact lv_iload_n C.1 C.2.1 hd hj (lv_at hl a h) (k p e s m args below meth c A Q H locs _ C hP hD hS hl hex)
theorem cn_istore {i : Fin 4} {x : Int32} {j : Nat} {ls2 : List (Nat × Value)} (hj : (i : Nat) = j) (hn : j < nL) (h : (j, Value.int x) :: ls.filter (fun q => !(q.1 == j) && !(q.1 + 1 == j && q.2.category == 2)) = ls2) (hd : decode cc pc = .ok (.istore_n i, 1)) (hq : pc + 1 = q) (k : Cn l D ck own cc nL R q ls2 st ws cells slots K) : Cn l D ck own cc nL R pc ls (.int x :: st) ws cells slots K := by
  subst hq
  intro p e s m args below meth c A Q H locs lsR C hP hD hS hl hex
  exact lv_istore_n C.1 C.2.1 hd hj hl hn h (fun ls9 hl9 => k p e s m args below meth c A Q H locs _ C hP hD hS hl9 hex)
theorem cn_astore {i : Fin 4} {x : Nat} {j : Nat} {ls2 : List (Nat × Value)} (hj : (i : Nat) = j) (hn : j < nL) (h : (j, Value.ref x) :: ls.filter (fun q => !(q.1 == j) && !(q.1 + 1 == j && q.2.category == 2)) = ls2) (hd : decode cc pc = .ok (.astore_n i, 1)) (hq : pc + 1 = q) (k : Cn l D ck own cc nL R q ls2 st ws cells slots K) : Cn l D ck own cc nL R pc ls (.ref x :: st) ws cells slots K := by
  subst hq
  intro p e s m args below meth c A Q H locs lsR C hP hD hS hl hex
  exact lv_astore_n C.1 C.2.1 hd hj hl hn h (fun ls9 hl9 => k p e s m args below meth c A Q H locs _ C hP hD hS hl9 hex)
theorem cn_astoreW {x : Nat} {j : Nat} {ls2 : List (Nat × Value)} (hn : j < nL) (h : (j, Value.ref x) :: ls.filter (fun q => !(q.1 == j) && !(q.1 + 1 == j && q.2.category == 2)) = ls2) (hd : decode cc pc = .ok (.astore j, 2)) (hq : pc + 2 = q) (k : Cn l D ck own cc nL R q ls2 st ws cells slots K) : Cn l D ck own cc nL R pc ls (.ref x :: st) ws cells slots K := by
  subst hq
  intro p e s m args below meth c A Q H locs lsR C hP hD hS hl hex
  exact lv_astore C.1 C.2.1 hd hl hn h (fun ls9 hl9 => k p e s m args below meth c A Q H locs _ C hP hD hS hl9 hex)
theorem cn_iinc {x v : Int32} {j : Nat} {n : Int} {ls2 : List (Nat × Value)} (a : Nat) (ha : ls[a]? = some (j, .int x)) (hv : x + Int32.ofInt n = v) (hn : j < nL) (h : (j, Value.int v) :: ls.filter (fun q => !(q.1 == j) && !(q.1 + 1 == j && q.2.category == 2)) = ls2) (hd : decode cc pc = .ok (.iinc j n, 3)) (hq : pc + 3 = q) (k : Cn l D ck own cc nL R q ls2 st ws cells slots K) : Cn l D ck own cc nL R pc ls st ws cells slots K := by
  subst hq
  intro p e s m args below meth c A Q H locs lsR C hP hD hS hl hex
  exact lv_iinc C.1 C.2.1 hd hl ha hv hn h (fun ls9 hl9 => k p e s m args below meth c A Q H locs _ C hP hD hS hl9 hex)
theorem cn_goto {off : Int} (hd : decode cc pc = .ok (.goto off, 3)) (hq : (pc : Int) + off = (q : Int)) (k : Cn l D ck own cc nL R q ls st ws cells slots K) : Cn l D ck own cc nL R pc ls st ws cells slots K := by
  intro p e s m args below meth c A Q H locs lsR C hP hD hS hl hex
  exact lv_goto C.1 C.2.1 hd hq (k p e s m args below meth c A Q H locs _ C hP hD hS hl hex)
theorem cn_geT {x y : Int32} {off : Int} (hd : decode cc pc = .ok (.if_icmp .ge off, 3)) (hq : (pc : Int) + off = (q : Int)) (hc : y ≤ x) (k : Cn l D ck own cc nL R q ls st ws cells slots K) : Cn l D ck own cc nL R pc ls (.int y :: .int x :: st) ws cells slots K := by
  intro p e s m args below meth c A Q H locs lsR C hP hD hS hl hex
  exact lv_icmp_ge C.1 C.2.1 hd hq (fun _ => k p e s m args below meth c A Q H locs _ C hP hD hS hl hex) (fun z => absurd hc z)
theorem cn_geF {x y : Int32} {off : Int} {t : Nat} (hd : decode cc pc = .ok (.if_icmp .ge off, 3)) (ht : (pc : Int) + off = (t : Int)) (hc : ¬ y ≤ x) (hq : pc + 3 = q) (k : Cn l D ck own cc nL R q ls st ws cells slots K) : Cn l D ck own cc nL R pc ls (.int y :: .int x :: st) ws cells slots K := by
  subst hq
  intro p e s m args below meth c A Q H locs lsR C hP hD hS hl hex
  exact lv_icmp_ge C.1 C.2.1 hd ht (fun z => absurd z hc) (fun _ => k p e s m args below meth c A Q H locs _ C hP hD hS hl hex)
theorem cn_oinit {idx x : Nat} (h1 : Cond.methodLink own idx objectInit ∈ lw_gw) (h2 : Cond.instanceMethod objectInit ∈ lw_gw) (h3 : Cond.code objectInit ⟨#[0xb1]⟩ 1 none ∈ lw_gw) (hd : decode cc pc = .ok (.invokespecial idx, 3)) (hf : 1 ≤ R.frames) (hl12 : 12 ≤ R.locals) (hq : pc + 3 = q) (k : Cn l D ck own cc nL R q ls [] ws cells slots K) : Cn l D ck own cc nL R pc ls [.ref x] ws cells slots K := by
  subst hq
  intro p e s m args below meth c A Q H locs lsR C hP hD hS hl hex
  refine W.objInit C.1 C.2.1 C.2.2.2.1 (C.2.2.2.2.1 _ h1) (C.2.2.2.2.1 _ h2) (C.2.2.2.2.1 _ h3) rfl (by rw [C.2.2.1]; exact hl.1) rfl hd hf hl12 ?_
  refine W.eq (g2 := F0 m (pc + 3) lsR []) rfl ?_
  exact k p e s m args below meth c A Q H locs _ C hP hD hS hl hex
theorem cn_putF {idx N ci a i : Nat} {ref C0 : String} {T : u_T} {ws2 : va_W} {fs : List Value} {ty : FieldType} {v : Value} (q0 : Nat) (he : ws[q0]? = some (a, .inr (ci, fs))) (hcl : vwCl[ci]? = some (C0, T, N)) (hin : ∀ w ∈ u_ws C0 T N, w ∈ lw_gw) (ty0 : Nat → FieldType) (hty : ∀ k, k < N → parseFieldDescriptor (T k).2.2.1 = some (ty0 k)) (hnm : ∀ a, a < N → ∀ b, b < N → a ≠ b → (T a).2.1 ≠ (T b).2.1) (hiN : i < N) (hlk : Cond.fieldLink own idx (T i).1 (T i).2.1 (T i).2.2.1 ∈ lw_gw) (hfin : (T i).2.2.2 = true) (hdecl : (T i).1 = own) (hnl : own ≠ RL) (hdt : parseFieldDescriptor (T i).2.2.1 = some ty) (hn : narrow ty v = v) (hfit : fits ty v = true) (hl9 : i < fs.length) (hd : decode cc pc = .ok (.putfield idx, 3)) (hq : pc + 3 = q) (e2 : ws.set q0 (a, .inr (ci, fs.set i v)) = ws2) (k : Cn l D ck own cc nL R q ls st ws2 cells slots K) : Cn l D ck own cc nL R pc ls (v :: .ref a :: st) ws cells slots K := by
  subst hq e2
  intro p e s m args below meth c A Q H locs lsR C hP hD hS hl hex
  exact va_putF C.1 C.2.1 C.2.2.2.2.1 hin ty0 hty hnm C.2.2.2.1 C.2.2.2.2.2.1 hP hD hS q0 he hcl i hiN (C.2.2.2.2.1 _ hlk) (fun _ h9 => h9) hfin (C.2.2.2.2.2.2.2.1 hnl) hdecl hdt hn hfit hl9 hd (fun H1 locs1 hP hD hS => k p e s m args below meth c A Q H1 locs1 _ C hP hD hS hl hex)
theorem cn_put {idx N ci a i : Nat} {ref C0 : String} {T : u_T} {ws2 : va_W} {fs : List Value} {ty : FieldType} {v : Value} (q0 : Nat) (he : ws[q0]? = some (a, .inr (ci, fs))) (hcl : vwCl[ci]? = some (C0, T, N)) (hin : ∀ w ∈ u_ws C0 T N, w ∈ lw_gw) (ty0 : Nat → FieldType) (hty : ∀ k, k < N → parseFieldDescriptor (T k).2.2.1 = some (ty0 k)) (hnm : ∀ a, a < N → ∀ b, b < N → a ≠ b → (T a).2.1 ≠ (T b).2.1) (hiN : i < N) (hlk : Cond.fieldLink own idx (T i).1 (T i).2.1 (T i).2.2.1 ∈ lw_gw) (hfin : (T i).2.2.2 = false) (hdt : parseFieldDescriptor (T i).2.2.1 = some ty) (hn : narrow ty v = v) (hfit : fits ty v = true) (hl9 : i < fs.length) (hd : decode cc pc = .ok (.putfield idx, 3)) (hq : pc + 3 = q) (e2 : ws.set q0 (a, .inr (ci, fs.set i v)) = ws2) (k : Cn l D ck own cc nL R q ls st ws2 cells slots K) : Cn l D ck own cc nL R pc ls (v :: .ref a :: st) ws cells slots K := by
  subst hq e2
  intro p e s m args below meth c A Q H locs lsR C hP hD hS hl hex
  exact va_put C.1 C.2.1 C.2.2.2.2.1 hin ty0 hty hnm C.2.2.2.1 C.2.2.2.2.2.1 hP hD hS q0 he hcl i hiN (C.2.2.2.2.1 _ hlk) (fun _ h9 => h9) hfin hdt hn hfit hl9 hd (fun H1 locs1 hP hD hS => k p e s m args below meth c A Q H1 locs1 _ C hP hD hS hl hex)
theorem cn_get {idx N ci a i : Nat} {C0 : String} {T : u_T} {fs : List Value} {v : Value} (q0 : Nat) (he : ws[q0]? = some (a, .inr (ci, fs))) (hcl : vwCl[ci]? = some (C0, T, N)) (hin : ∀ w ∈ u_ws C0 T N, w ∈ lw_gw) (hiN : i < N) (hlk : Cond.fieldLink own idx (T i).1 (T i).2.1 (T i).2.2.1 ∈ lw_gw) (hv : fs[i]? = some v) (hd : decode cc pc = .ok (.getfield idx, 3)) (hq : pc + 3 = q) (k : Cn l D ck own cc nL R q ls (v :: st) ws cells slots K) : Cn l D ck own cc nL R pc ls (.ref a :: st) ws cells slots K := by
  subst hq
  intro p e s m args below meth c A Q H locs lsR C hP hD hS hl hex
  exact va_get C.1 C.2.1 C.2.2.2.2.1 hin C.2.2.2.1 C.2.2.2.2.2.1 hP q0 he hcl i hiN (C.2.2.2.2.1 _ hlk) (fun _ h9 => h9) hv hd (k p e s m args below meth c A Q H locs _ C hP hD hS hl hex)
theorem cn_newa {atype : ArrayType} {ty : FieldType} {n : Int32} {N' : Nat} (t : Nat) (harr : Cond.arrayClass (newarray.typeOf atype) ∈ lw_gw) (hty : newarray.typeOf atype = ty) (ht : (tysOf ck)[t]? = some (ck t, ty)) (ht5 : t < 5) (ha : ∀ cA : ClassId, vp_cell cA (N', .inl (fun _ => 0)) = arrV cA N' (fun _ => defaultValue ty)) (hn : ¬ n < 0) (hN : n.toNatClampNeg = N') (hbytes : N' * componentBytes ty ≤ 536870912) (hcells : cells + 1 ≤ R.cells) (hslots : slots + N' ≤ R.slots) (hd : decode cc pc = .ok (.newarray atype, 2)) (hq : pc + 2 = q)
    (k : ∀ x : Nat, Cn l D ck own cc nL R q ls (.ref x :: st) (ws ++ [(x, .inl (ck t, N', .inl (fun _ => 0)))]) (cells + 1) (slots + N') K) : Cn l D ck own cc nL R pc ls (.int n :: st) ws cells slots K := by
  subst hq
  intro p e s m args below meth c A Q H locs lsR C hP hD hS hl hex
  refine va_newa C.1 C.2.1 (atype := atype) (C.2.2.2.2.1 _ harr) hty C.2.2.2.2.2.1 hP hD hS C.2.2.2.2.2.2.1 (a0 := (N', .inl (fun _ => 0))) ha hn hN hbytes hcells hslots hd (fun x cA H1 hK hP hD hS => ?_)
  have e1 : cA = ck t := hK.one t ht ht5
  subst e1
  exact k x p e s m args below meth c A Q H1 locs _ C hP hD hS hl hex
theorem cn_newq {idx : Nat} {C0 : String} {n : Int32} {N' : Nat} (t : Nat) (hcl : Cond.classLink own idx C0 ∈ lw_gw) (hover : C0 = RX5 ∨ C0 = RX1) (ht : (tysOf ck)[t]? = some (ck t, .object C0)) (ht5 : t < 5) (hn : ¬ n < 0) (hN : n.toNatClampNeg = N') (hbytes : N' * 4 ≤ 536870912) (hcells : cells + 1 ≤ R.cells) (hslots : slots + N' ≤ R.slots) (hd : decode cc pc = .ok (.anewarray idx, 3)) (hq : pc + 3 = q)
    (k : ∀ x : Nat, Cn l D ck own cc nL R q ls (.ref x :: st) (ws ++ [(x, .inl (ck t, N', .inr (.inr (.inr (.inr (fun _ => none))))))]) (cells + 1) (slots + N') K) : Cn l D ck own cc nL R pc ls (.int n :: st) ws cells slots K := by
  subst hq
  intro p e s m args below meth c A Q H locs lsR C hP hD hS hl hex
  refine va_newq C.1 C.2.1 C.2.2.2.1 (C.2.2.2.2.1 _ hcl) (hover.elim (fun z => z ▸ C.2.2.2.2.2.2.2.2.1) (fun z => z ▸ C.2.2.2.2.2.2.2.2.2.1)) C.2.2.2.2.2.1 hP hD hS C.2.2.2.2.2.2.1 hn hN hbytes hcells hslots hd (fun x cA H1 hK hP hD hS => ?_)
  have e1 : cA = ck t := hK.one t ht ht5
  subst e1
  exact k x p e s m args below meth c A Q H1 locs _ C hP hD hS hl hex
theorem cn_new {idx ci N : Nat} {C0 : String} {T : u_T} {fs : List Value} (hcw : vwCl[ci]? = some (C0, T, N)) (hin : ∀ w ∈ u_ws C0 T N, w ∈ lw_gw) (ty : Nat → FieldType) (hty : ∀ k, k < N → parseFieldDescriptor (T k).2.2.1 = some (ty k)) (hcl : Cond.classLink own idx C0 ∈ lw_gw) (hinst : Cond.instantiable C0 N ∈ lw_gw) (hini : Cond.initialized C0 ∈ lw_gw) (hfs : ∀ j, j < N → defaultValue (ty j) = vp_V fs j) (hcells : cells + 1 ≤ R.cells) (hslots : slots + N ≤ R.slots) (hd : decode cc pc = .ok (.new idx, 3)) (hq : pc + 3 = q)
    (k : ∀ x : Nat, Cn l D ck own cc nL R q ls (.ref x :: st) (ws ++ [(x, .inr (ci, fs))]) (cells + 1) (slots + N) K) : Cn l D ck own cc nL R pc ls st ws cells slots K := by
  subst hq
  intro p e s m args below meth c A Q H locs lsR C hP hD hS hl hex
  exact va_new C.1 C.2.1 C.2.2.2.2.1 hin ty hty C.2.2.2.1 (C.2.2.2.2.1 _ hcl) (C.2.2.2.2.1 _ hinst) (C.2.2.2.2.1 _ hini) C.2.2.2.2.2.1 hP hD hS C.2.2.2.2.2.2.1 hcw hfs hcells hslots hd (fun x H1 hP hD hS => k x p e s m args below meth c A Q H1 locs _ C hP hD hS hl hex)
theorem cn_astq {a ci n v : Nat} {r : vw_C} {vs : List Value} {f : Nat → Option Nat} {i : Int32} {ws2 : va_W} (q0 t0 qk : Nat) {cA : ClassId} (ha : ws[q0]? = some (a, .inl (cA, n, .inr (.inr (.inr (.inr f)))))) (ht : (tysOf ck)[t0]? = some (cA, .object r.1)) (hv : ws[qk]? = some (v, .inr (ci, vs))) (hc : vwCl[ci]? = some r) (hin : vp_in i n) (hd : decode cc pc = .ok (.aastore, 1)) (hq : pc + 1 = q) (e2 : ws.set q0 (a, .inl (cA, n, .inr (.inr (.inr (.inr (va_up f i.toNatClampNeg (some v))))))) = ws2)
    (k : Cn l D ck own cc nL R q ls st ws2 cells slots K) : Cn l D ck own cc nL R pc ls (.ref v :: .int i :: .ref a :: st) ws cells slots K := by
  subst hq e2
  intro p e s m args below meth c A Q H locs lsR C hP hD hS hl hex
  exact va_astq C.1 C.2.1 C.2.2.2.2.2.1 hP hD hS q0 t0 qk ci ha ht hv hc hin hd (fun H1 locs1 hP hD hS => k p e s m args below meth c A Q H1 locs1 _ C hP hD hS hl hex)
theorem cn_iast {a n : Nat} {f : Nat → Int32} {i x : Int32} {ws2 : va_W} (q0 t0 : Nat) {cA : ClassId} (ha : ws[q0]? = some (a, .inl (cA, n, .inl f))) (ht : (tysOf ck)[t0]? = some (cA, .int)) (hin : vp_in i n) (hd : decode cc pc = .ok (.iastore, 1)) (hq : pc + 1 = q) (e2 : ws.set q0 (a, .inl (cA, n, .inl (upd f i.toNatClampNeg x))) = ws2)
    (k : Cn l D ck own cc nL R q ls st ws2 cells slots K) : Cn l D ck own cc nL R pc ls (.int x :: .int i :: .ref a :: st) ws cells slots K := by
  subst hq e2
  intro p e s m args below meth c A Q H locs lsR C hP hD hS hl hex
  exact va_iast C.1 C.2.1 C.2.2.2.2.2.1 hP hD hS q0 t0 ha ht hin hd (fun H1 locs1 hP hD hS => k p e s m args below meth c A Q H1 locs1 _ C hP hD hS hl hex)
/-! contracts of constructors -/
def CtP (D : va_G) (ck : Nat → ClassId) (ws : va_W) (sz : Nat) (U : State) : Prop := U.heap.size = sz ∧ va_P D vwCl ws U.heap ∧ va_K D vwCl (tysOf ck) U ∧ va_D (fun _ => True) ws ∧ CtX U
def CtQ (D : va_G) (ws : va_W) (sz : Nat) (ws' : va_W) (t : State) : Prop := va_P D vwCl ws' t.heap ∧ va_D (va_A ws sz) ws'
def Ct (l : Launch) (D : va_G) (ck : Nat → ClassId) (y : MethodName) (bytes : ByteArray) (maxL : Nat) (Ry : Room) (as : List Value) (ws : va_W) (out : va_W → Prop) : Prop :=
  ∀ sz : Nat, Met l y (.code y bytes maxL none :: lw_gw) Ry (va_Pc as (CtP D ck ws sz)) (va_Qv out (CtQ D ws sz) (va_A ws sz)) Ry.cells Ry.slots (va_A ws sz)
theorem ct_of_cn {y : MethodName} {as : List Value} {out : va_W → Prop} (hy : plainFor y = true) (ho : y.cls = own) (hnm : y.name = "<init>") (hls : lv_args 0 as = ls) (hn : (lg_sl as).length ≤ nL)
    (h : Cn l D ck own cc nL R 0 ls [] ws 0 0 (fun pc _ st ws' cells slots => st = [] ∧ decode cc pc = .ok (.return_, 1) ∧ out ws' ∧ cells ≤ R.cells ∧ slots ≤ R.slots)) : Ct l D ck y cc nL R as ws out := by
  subst ho hls
  intro sz
  refine met_ofWF (cc := cc) (maxL := nL) (ret := none) hy rfl ?_
  intro p e s m args below meth c s₁ B hml hv
  obtain ⟨rfl, hsz, hP, hK, hD0, hO1⟩ := hv
  have hx := B.exec
  have hb := B.bytes
  have hr := B.returns
  have hts := atoms_spec (ws := .code y cc nL none :: lw_gw) B.pre
  have hown : s.vm.findClass y.cls = some m.cls := findClass_of_methodNamed B.named
  have hlocks := B.notSynchronized
  have hin : meth.name = "<init>" := (name_of_methodNamed B.named B.method).1.trans hnm
  subst hsz
  have hl := lv_entry as (n := nL) hn
  rw [lg_entry_eq]
  refine h p e s m _ below meth c (va_A ws s.heap.size) _ s.heap [] _ ⟨hx, hb, hml, hown, fun w hw => hts w (List.mem_cons_of_mem _ hw), hK, fun q h => Or.inr h, fun _ => hin, hO1⟩ hP hD0.self va_S.rf hl ?_
  intro pc2 ls2 st2 ws2 cells2 slots2 H2 locs2 lsR2 ⟨e1, hd2, ho2, hc2, hs2⟩ hP2 hD2 hS2 hl2
  subst e1
  refine W.widen (k := R.cells) (n := R.slots) hc2 hs2 ?_
  exact W.vret hx hb hr (fun t ht hW => ⟨⟨ws2, rfl, ho2, by rw [ht]; exact hP2, hD2⟩, hS2.F ht⟩) hS2.2.2 hd2
def LkI (own : String) (idx : Nat) (y : MethodName) (bytes : ByteArray) (maxL : Nat) : Prop :=
  (Cond.methodLink own idx y ∈ lw_gw ∨ (own, idx, y) ∈ nestW) ∧ Cond.instanceMethod y ∈ lw_gw ∧ Cond.initialized y.cls ∈ lw_gw ∧ Cond.code y bytes maxL none ∈ lw_gw ∧ y.name = "<init>" ∧ y.cls ≠ "java/lang/invoke/MethodHandle" ∧ y.cls ≠ "java/lang/invoke/VarHandle"
theorem cn_rng (wr : va_W) (x : Nat × va_E) : (List.range' 0 wr.length).map (fun i => (wr ++ [x])[i]?) = wr.map some := by
  apply List.ext_getElem?
  intro i
  rw [List.getElem?_map, List.getElem?_map]
  by_cases hi : i < wr.length
  · rw [List.getElem?_range' hi]
    simp only [Option.map_some, Nat.zero_add, Nat.one_mul]
    rw [List.getElem?_append_left hi, List.getElem?_eq_getElem hi]
    rfl
  · rw [List.getElem?_eq_none (by simp; omega), List.getElem?_eq_none (by omega)]
    rfl
theorem va_nd_range : ∀ n m : Nat, va_nd (List.range' m n) = true
  | 0, _ => rfl
  | n + 1, m => by
    rw [List.range'_succ]
    simp only [va_nd, Bool.and_eq_true, decide_eq_true_eq]
    refine ⟨fun h => ?_, va_nd_range n (m + 1)⟩
    have := List.mem_range'_1.mp h
    omega
theorem cn_call {y : MethodName} {bytes : ByteArray} {maxL idx n b : Nat} {Ry : Room} {As rest : List Value} {wr : va_W} {x : Nat × va_E} {out : va_W → Prop}
    (hd : decode cc pc = .ok (.invokespecial idx, 3)) (lk : LkI own idx y bytes maxL) (hst : st = As.reverse ++ .ref b :: rest) (hn : (parseMethodDescriptor y.desc).map (fun d => d.parameters.length) = some n) (hAs : As.length = n) (hR : Ry.frames + 1 ≤ R.frames ∧ 8 + (maxL + 11) + Ry.locals ≤ R.locals)
    (hcat : (rest.map fun v => v.category).sum ≤ 8) (hf : cells + Ry.cells ≤ R.cells ∧ slots + Ry.slots ≤ R.slots) (hw : wr ++ [x] = ws) (hct : Ct l D ck y bytes maxL Ry (.ref b :: As) [x] out) (hq : pc + 3 = q)
    (k : ∀ w1, out w1 → Cn l D ck own cc nL R q ls rest (wr ++ w1) (cells + Ry.cells) (slots + Ry.slots) K) : Cn l D ck own cc nL R pc ls st ws cells slots K := by
  subst hq hst hw
  intro p e s m args below meth c A Q H locs lsR C hP hD hS hl hex
  have hG : GoodIn lw_gw (.code y bytes maxL none :: lw_gw) := good_gw fun w hw => by
    rcases List.mem_cons.mp hw with rfl | hw
    · exact lk.2.2.2.1
    · exact hw
  have hPc : va_P D vwCl [x] H := hP.sub [wr.length] (by simp)
  have hDc : va_D A [x] := hD.sub [wr.length] rfl (by simp)
  have hFc := va_free (wc := [x]) hD hS C.2.2.2.2.2.2.1 [wr.length] (by simp)
  have hpre : ∀ U : State, U.heap = H → s.WarmedH U.vm → va_Pc (.ref b :: As) (CtP D ck [x] H.size) (Value.ref b :: As).toArray U := fun U hU hW =>
    ⟨rfl, by rw [hU], by rw [hU]; exact hPc, va_K.moved hW.alike C.2.2.2.2.2.1, hDc.weaken (fun _ _ _ _ => trivial), CtX.warm hW C.2.2.2.2.2.2.2.2⟩
  have hbl : FrameBlind (va_Pc (.ref b :: As) (CtP D ck [x] H.size)) := fun a U g mk h => by
    obtain ⟨h0, h1, h2, h3, h4, h5⟩ := h
    exact ⟨h0, h1, h2, va_K.moved (u := U) (U := U.calling g mk a) (Vm.Alike.refl U.vm) h3, h4, CtX.same (s := U) (U := U.calling g mk a) rfl h5⟩
  have hrun : va_Run p l e R s m args below meth c H locs cells slots Ry.cells Ry.slots (F0 m pc lsR (As.reverse ++ .ref b :: rest)) rest (va_Qv out (CtQ D [x] H.size) (va_A [x] H.size) (Value.ref b :: As).toArray) (va_A [x] H.size) := by
    rcases lk.1 with h1 | h1
    · exact va_runI (As := As) (rest := rest) ⟨C.1, C.2.1, C.2.2.1, C.2.2.2.1, C.2.2.2.2.1⟩ (hct H.size) (cwI n C.2.2.2.2.1 hG rfl rfl rfl (C.2.2.2.2.1 _ lk.2.2.1) (C.2.2.2.2.1 _ h1) (C.2.2.2.2.1 _ lk.2.1) lk.2.2.2.2.1 ⟨lk.2.2.2.2.2.1, lk.2.2.2.2.2.2, hn⟩ hR) ⟨hbl, hpre⟩ rfl hAs hl.1 rfl (lv_room hcat) hd hf
    · exact va_runIN (As := As) (rest := rest) ⟨C.1, C.2.1, C.2.2.1, C.2.2.2.1, C.2.2.2.2.1⟩ (hct H.size) ⟨va_cnB n C.2.2.2.2.1 hG rfl rfl rfl (C.2.2.2.2.2.2.2.2.2.2 _ h1) (C.2.2.2.2.1 _ lk.2.2.1) ⟨lk.2.2.2.2.2.1, lk.2.2.2.2.2.2, hn⟩ hR, lk.2.2.2.2.1, C.2.2.2.2.1 _ lk.2.1⟩ ⟨hbl, hpre⟩ rfl hAs hl.1 rfl (lv_room hcat) hd hf
  refine va_callv hrun hS (fun q _ h => hFc q h) hFc (fun u t H1 locs1 ht hvm hw hB hz1 hk1 hS => ?_)
  obtain ⟨hP1, hD1⟩ := hB
  rw [ht] at hP1
  have hR1 : (List.range' 0 wr.length).map (fun i => (wr ++ [x])[i]?) = wr.map some := cn_rng wr x
  obtain ⟨hP, hD⟩ := va_join (wr := wr) (w1 := u) hP hD [wr.length] (List.range' 0 wr.length) (by simp) hR1 (va_nd_range _ _) (fun i hi => by have := List.mem_range'_1.mp hi; simp; omega) hk1 hFc hP1 hD1
  exact k u hw p e s m args below meth c A Q H1 locs1 _ C hP hD hS hl hex
end CN
