/-! values, memory, shapes -/
abbrev MV : Type := Int ⊕ (Int ⊕ Nat)
abbrev vI (x : Int) : MV := .inl x
abbrev vL (x : Int) : MV := .inr (.inl x)
abbrev vR (k : Nat) : MV := .inr (.inr k)
def mval (ad : Nat → Nat) : MV → Value
  | .inl x => .int (Int32.ofInt x)
  | .inr (.inl x) => .long (Int64.ofInt x)
  | .inr (.inr k) => .ref (ad k)
abbrev Mem : Type := Nat → Nat → Int
def mup (w : Mem) (c k : Nat) (v : Int) : Mem := fun c' k' => if c' = c ∧ k' = k then v else w c' k'
abbrev Shp : Type := (Nat × List (Option Nat)) ⊕ ((Nat × Nat) ⊕ (Nat × List Nat))
def fldv (ad : Nat → Nat) (r : Option Nat) (x : Int) : Value := match r with
  | none => .int (Int32.ofInt x)
  | some q => .ref (ad q)
def celE (ck : Nat → ClassId) (ad : Nat → Nat) (w : Nat → Int) : Shp → va_E
  | .inl (ci, rs) => .inr (ci, rs.mapIdx (fun k r => fldv ad r (w k)))
  | .inr (.inl (tc, n)) => .inl (ck tc, n, .inl (fun k => Int32.ofInt (w k)))
  | .inr (.inr (tc, rs)) => .inl (ck tc, rs.length, .inr (.inr (.inr (.inr (fun k => (rs[k]?).map ad)))))
def wld (ck : Nat → ClassId) (ad : Nat → Nat) (sh : List Shp) (w : Mem) : va_W := sh.mapIdx (fun c s => (ad c, celE ck ad (w c) s))
abbrev tysOf (ck : Nat → ClassId) : List (ClassId × FieldType) := [(ck 0, .int), (ck 1, .boolean), (ck 2, .char), (ck 3, .object RX5), (ck 4, .object RX1)]
def ainj (ad : Nat → Nat) (n : Nat) : Prop := ∀ i j, i < n → j < n → ad i = ad j → i = j
theorem wld_at {ck : Nat → ClassId} {ad : Nat → Nat} {sh : List Shp} {w : Mem} {q : Nat} {x : Shp} (h : sh[q]? = some x) : (wld ck ad sh w)[q]? = some (ad q, celE ck ad (w q) x) := by
  simp [wld, h]
theorem wld_D {ck : Nat → ClassId} {ad : Nat → Nat} {sh : List Shp} {w : Mem} {A : Nat → Prop} (hi : ainj ad sh.length) (hA : ∀ k, k < sh.length → A (ad k)) : va_D A (wld ck ad sh w) := by
  have key : ∀ (k : Nat) (q : Nat × va_E), (wld ck ad sh w)[k]? = some q → k < sh.length ∧ q.1 = ad k := by
    intro k q hq
    simp only [wld, List.getElem?_mapIdx, Option.map_eq_some_iff] at hq
    obtain ⟨a, h1, rfl⟩ := hq
    exact ⟨(List.getElem?_eq_some_iff.mp h1).1, rfl⟩
  refine ⟨fun i j p q hp hq he => ?_, fun k q hq => ?_⟩
  · obtain ⟨h1, h2⟩ := key i p hp
    obtain ⟨h3, h4⟩ := key j q hq
    exact hi i j h1 h3 (by rw [← h2, ← h4]; exact he)
  · obtain ⟨h1, h2⟩ := key k q hq
    rw [h2]; exact hA k h1
theorem wld_set {ck : Nat → ClassId} {ad : Nat → Nat} {sh : List Shp} {w : Mem} {q k : Nat} {v : Int} {x : Shp} {E : va_E} (h : sh[q]? = some x) (hE : E = celE ck ad (mup w q k v q) x) : (wld ck ad sh w).set q (ad q, E) = wld ck ad sh (mup w q k v) := by
  subst hE
  apply List.ext_getElem?
  intro i
  have hl := (List.getElem?_eq_some_iff.mp h).1
  by_cases hi : q = i
  · subst hi
    rw [wld_at h, List.getElem?_set_self (by simpa [wld] using hl)]
  · rw [List.getElem?_set_ne hi]
    simp only [wld, List.getElem?_mapIdx]
    have e : mup w q k v i = w i := by
      funext k'
      have : ¬ i = q := fun e => hi e.symm
      simp [mup, this]
    rw [e]
theorem mup_fn (w : Mem) (q k : Nat) (v : Int) (g : Int → Int32) : (fun j => g (mup w q k v q j)) = upd (fun j => g (w q j)) k (g v) := by
  funext j
  by_cases hj : j = k <;> simp [mup, upd, hj]
/-! numbers -/
def wr (x : Int) : Int := x.bmod 4294967296
theorem wr_of {x : Int} (h1 : -2147483648 ≤ x) (h2 : x < 2147483648) : wr x = x := by
  unfold wr; rw [Int.bmod_def]; split <;> omega
theorem wr_lo (x : Int) : -2147483648 ≤ wr x := by unfold wr; have := Int.le_bmod (x := x) (m := 4294967296) (by decide); omega
theorem wr_hi (x : Int) : wr x < 2147483648 := by unfold wr; have := Int.bmod_lt (x := x) (m := 4294967296) (by decide); omega
theorem wr_wr (x : Int) : wr (wr x) = wr x := wr_of (wr_lo x) (wr_hi x)
theorem toInt_oi (x : Int) : (Int32.ofInt x).toInt = wr x := by
  rw [Int32.toInt_ofInt]; rfl
theorem oi_wr (x : Int) : Int32.ofInt (wr x) = Int32.ofInt x := by
  rw [← Int32.toInt_inj, toInt_oi, toInt_oi, wr_wr]
theorem oi_inj {x y : Int} : Int32.ofInt x = Int32.ofInt y ↔ wr x = wr y := by
  rw [← Int32.toInt_inj, toInt_oi, toInt_oi]
theorem oi_lt {x y : Int} : Int32.ofInt x < Int32.ofInt y ↔ wr x < wr y := by
  rw [Int32.lt_iff_toInt_lt, toInt_oi, toInt_oi]
theorem oi_le {x y : Int} : Int32.ofInt x ≤ Int32.ofInt y ↔ wr x ≤ wr y := by
  rw [Int32.le_iff_toInt_le, toInt_oi, toInt_oi]
theorem oi_0 : (0 : Int32) = Int32.ofInt 0 := rfl
theorem wr_0 : wr 0 = 0 := by decide
theorem oi_nat {x : Int} {k : Nat} (h : wr x = k) : (Int32.ofInt x).toNatClampNeg = k := by
  rw [Int32.toNatClampNeg, toInt_oi, h]; simp
theorem vp_in_oi {x : Int} {k n : Nat} (h : wr x = k) (hk : k < n) : vp_in (Int32.ofInt x) n := by
  unfold vp_in
  rw [oi_nat h, oi_0, oi_lt, h, wr_0]
  omega
def shlZ (x y : Int) : Int := (Int32.ofInt x <<< (Int32.ofInt y &&& 31)).toInt
def shrZ (x y : Int) : Int := (Int32.ofInt x >>> (Int32.ofInt y &&& 31)).toInt
def ushrZ (x y : Int) : Int := ((Int32.ofInt x).toUInt32 >>> ((Int32.ofInt y).toUInt32 &&& Int32.toUInt32 31)).toInt32.toInt
def andZ (x y : Int) : Int := (Int32.ofInt x &&& Int32.ofInt y).toInt
def orZ (x y : Int) : Int := (Int32.ofInt x ||| Int32.ofInt y).toInt
def xorZ (x y : Int) : Int := (Int32.ofInt x ^^^ Int32.ofInt y).toInt
def i2cZ (x : Int) : Int := (((Int32.ofInt x).toUInt32 % 65536).toInt32).toInt
def narZ (ty : FieldType) (x : Int) : Int := (vp_nar ty (Int32.ofInt x)).toInt
theorem oi_ti (a : Int32) : Int32.ofInt a.toInt = a := Int32.ofInt_toInt a
theorem oi_div {x y : Int} : Int32.ofInt x / Int32.ofInt y = Int32.ofInt ((wr x).tdiv (wr y)) := by
  rw [← Int32.toInt_inj, Int32.toInt_div, toInt_oi, toInt_oi, toInt_oi]; rfl
theorem oi_rem {x y : Int} : Int32.ofInt x - Int32.ofInt x / Int32.ofInt y * Int32.ofInt y = Int32.ofInt ((wr x).tmod (wr y)) := by
  rw [oi_div, ← oi_wr x, ← oi_wr y, ← Int32.ofInt_mul, ← Int32.ofInt_sub]
  congr 1
  have := Int.tmod_add_mul_tdiv (wr x) (wr y)
  rw [Int.mul_comm] at this
  omega
/-! locals -/
def LR (ad : Nat → Nat) (nL : Nat) (lsR : Array Slot) (ls : List (Option MV)) : Prop := lsR.size = nL ∧ lv_wf lsR ∧ ∀ (i : Nat) (v : MV), ls[i]? = some (some v) → lsR[i]? = some (.val (mval ad v))
def encl (ad : Nat → Nat) (ls : List (Option MV)) : List (Nat × Value) := (List.range ls.length).filterMap (fun j => (ls[j]?.join).map (fun v => (j, mval ad v)))
theorem encl_mem {ad : Nat → Nat} {ls : List (Option MV)} {i : Nat} {v : MV} (h : ls[i]? = some (some v)) : (i, mval ad v) ∈ encl ad ls := by
  refine List.mem_filterMap.mpr ⟨i, List.mem_range.mpr (List.getElem?_eq_some_iff.mp h).1, ?_⟩
  rw [h]; rfl
theorem encl_of {ad : Nat → Nat} {ls : List (Option MV)} {q : Nat × Value} (h : q ∈ encl ad ls) : ∃ v, ls[q.1]? = some (some v) ∧ q.2 = mval ad v := by
  obtain ⟨j, -, hj⟩ := List.mem_filterMap.mp h
  cases hx : ls[j]? with
  | none => rw [hx] at hj; cases hj
  | some o =>
    cases o with
    | none => rw [hx] at hj; cases hj
    | some v => rw [hx] at hj; cases hj; exact ⟨v, hx, rfl⟩
theorem LR.has {ad : Nat → Nat} {nL : Nat} {lsR : Array Slot} {ls : List (Option MV)} (h : LR ad nL lsR ls) : lv_has lsR nL (encl ad ls) := ⟨h.1, h.2.1, fun q hq => by
  obtain ⟨v, h1, h2⟩ := encl_of hq
  rw [h2]; exact h.2.2 _ _ h1⟩
def okst (ls : List (Option MV)) (i : Nat) : Bool := match i with
  | 0 => true
  | j + 1 => match ls[j]? with
    | some (some (.inr (.inl _))) => false
    | _ => true
theorem mval_cat {ad : Nat → Nat} {v : MV} (h : (mval ad v).category = 2) : ∃ x, v = vL x := by
  rcases v with x | x | x
  · simp [mval, Value.category] at h
  · exact ⟨x, rfl⟩
  · simp [mval, Value.category] at h
theorem LR.st1 {ad : Nat → Nat} {nL i : Nat} {lsR' : Array Slot} {ls : List (Option MV)} {v : MV} (ho : okst ls i = true)
    (h : lv_has lsR' nL ((i, mval ad v) :: (encl ad ls).filter (fun q => !(q.1 == i) && !(q.1 + 1 == i && q.2.category == 2)))) : LR ad nL lsR' (ls.set i (some v)) := by
  refine ⟨h.1, h.2.1, fun j u hj => ?_⟩
  by_cases e : i = j
  · subst e
    rw [List.getElem?_set] at hj
    split at hj
    · split at hj
      · cases hj; exact h.2.2 _ List.mem_cons_self
      · cases hj
    · contradiction
  · rw [List.getElem?_set_ne e] at hj
    refine h.2.2 (j, mval ad u) (List.mem_cons_of_mem _ (List.mem_filter.mpr ⟨encl_mem hj, ?_⟩))
    have n1 : ¬ j = i := fun z => e z.symm
    simp only [Bool.and_eq_true, Bool.not_eq_true', beq_eq_false_iff_ne, ne_eq, n1, not_false_eq_true, true_and, Bool.and_eq_false_iff]
    by_cases n2 : j + 1 = i
    · right
      intro hc
      obtain ⟨x, rfl⟩ := mval_cat hc
      subst n2
      simp [okst, hj] at ho
    · left; exact n2
theorem LR.st2 {ad : Nat → Nat} {nL i : Nat} {lsR' : Array Slot} {ls : List (Option MV)} {x : Int} (ho : okst ls i = true)
    (h : lv_has lsR' nL ((i, .long (Int64.ofInt x)) :: (encl ad ls).filter (fun q => !(q.1 == i) && (!(q.1 == i + 1) && !(q.1 + 1 == i && q.2.category == 2))))) : LR ad nL lsR' ((ls.set i (some (vL x))).set (i + 1) none) := by
  refine ⟨h.1, h.2.1, fun j u hj => ?_⟩
  have e2 : ¬ i + 1 = j := by
    intro e
    subst e
    rw [List.getElem?_set] at hj
    split at hj
    · split at hj <;> cases hj
    · contradiction
  rw [List.getElem?_set_ne e2] at hj
  by_cases e : i = j
  · subst e
    rw [List.getElem?_set] at hj
    split at hj
    · split at hj
      · cases hj; exact h.2.2 _ List.mem_cons_self
      · cases hj
    · contradiction
  · rw [List.getElem?_set_ne e] at hj
    refine h.2.2 (j, mval ad u) (List.mem_cons_of_mem _ (List.mem_filter.mpr ⟨encl_mem hj, ?_⟩))
    have n1 : ¬ j = i := fun z => e z.symm
    have n3 : ¬ j = i + 1 := fun z => e2 z.symm
    simp only [Bool.and_eq_true, Bool.not_eq_true', beq_eq_false_iff_ne, ne_eq, n1, n3, not_false_eq_true, true_and, Bool.and_eq_false_iff]
    by_cases n2 : j + 1 = i
    · right
      intro hc
      obtain ⟨x, rfl⟩ := mval_cat hc
      subst n2
      simp [okst, hj] at ho
    · left; exact n2
/-! the static rows of numbers -/
def srow (L : List Int) : Nat → Value := fun j => .int (Int32.ofInt (L.getD j 0))
def L_arcs : List Int := [1, 3, 4, 5, 2, 2]
def L_starts : List Int := [0, 0, 3, 7, 12, 14, 14]
def L_cross : List Int := [0, 1, 2, 1, 1, 2, 0, 1, 2, 0, 1, 1, 0, 2, 3, 1, 1, 3, 0, -1, 2, 0, 1, 1, 3, 1, 2, -1, 0, 2, 3, 1, 3, 0, 1, 1, 1, 3, 4, 1, 4, 1, 2, 1, 2, 4, 0, 1, 0, 1, 1, 1, 1, 0, 0, 1]
/-- the script: its cell's number is 2000, its length stands in the place 3000 -/
def Scr (ad : Nat → Nat) (A : Nat → Prop) (U : State) (H : Heap) : Prop := ad 3000 ≤ 260 ∧ ∃ f : Nat → Int32, va_T .int (ad 2000) (ad 3000) (fun j => .int (f j)) A U H
def Stt (ad : Nat → Nat) (A : Nat → Prop) (U : State) (H : Heap) : Prop :=
  (va_Z RX6 "STANDARD_ARCS" "[I" (.ref (ad 1000)) A U H ∧ va_T .int (ad 1000) 6 (srow L_arcs) A U H) ∧
  (va_Z RX6 "STANDARD_STARTS" "[I" (.ref (ad 1001)) A U H ∧ va_T .int (ad 1001) 7 (srow L_starts) A U H) ∧
  (va_Z RX6 "STANDARD_CROSSINGS" "[I" (.ref (ad 1002)) A U H ∧ va_T .int (ad 1002) 56 (srow L_cross) A U H) ∧ Scr ad A U H
theorem Stt.moved {ad : Nat → Nat} {A : Nat → Prop} {u U : State} {H : Heap} (hvm : u.vm.Alike U.vm) (h : Stt ad A u H) : Stt ad A U H :=
  ⟨⟨h.1.1.moved hvm, h.1.2.moved hvm⟩, ⟨h.2.1.1.moved hvm, h.2.1.2.moved hvm⟩, ⟨h.2.2.1.1.moved hvm, h.2.2.1.2.moved hvm⟩, h.2.2.2.1, h.2.2.2.2.elim fun f k => ⟨f, k.moved hvm⟩⟩
theorem Stt.kept {ad : Nat → Nat} {A : Nat → Prop} {U : State} {H H1 : Heap} (h : Stt ad A U H) (hq : ∀ a : Nat, a < H.size → ¬ A a → H1[a]? = H[a]?) : Stt ad A U H1 :=
  ⟨⟨h.1.1.kept hq, h.1.2.kept hq⟩, ⟨h.2.1.1.kept hq, h.2.1.2.kept hq⟩, ⟨h.2.2.1.1.kept hq, h.2.2.1.2.kept hq⟩, h.2.2.2.1, h.2.2.2.2.elim fun f k => ⟨f, k.kept hq⟩⟩
theorem Stt.narrow {ad : Nat → Nat} {A B : Nat → Prop} {U : State} {H : Heap} (h : Stt ad A U H) (hAB : ∀ q, B q → A q) : Stt ad B U H :=
  ⟨⟨h.1.1.narrow hAB, h.1.2.narrow hAB⟩, ⟨h.2.1.1.narrow hAB, h.2.1.2.narrow hAB⟩, ⟨h.2.2.1.1.narrow hAB, h.2.2.1.2.narrow hAB⟩, h.2.2.2.1, h.2.2.2.2.elim fun f k => ⟨f, k.narrow hAB⟩⟩
theorem va_Z.narrowH {C n d : String} {v : Value} {A B : Nat → Prop} {U : State} {H : Heap} (h : va_Z C n d v A U H) (hAB : ∀ q, q < H.size → B q → A q) : va_Z C n d v B U H := by
  obtain ⟨cf, kf, fi, f, a, cell, h1, h2, h3, h4, h5, h6, h7, h8⟩ := h
  exact ⟨cf, kf, fi, f, a, cell, h1, h2, h3, h4, h5, h6, h7, fun z => h8 (hAB a (Array.getElem?_eq_some_iff.mp h5).1 z)⟩
theorem va_T.narrowH {ty : FieldType} {t N : Nat} {f : Nat → Value} {A B : Nat → Prop} {U : State} {H : Heap} (h : va_T ty t N f A U H) (hAB : ∀ q, q < H.size → B q → A q) : va_T ty t N f B U H := by
  obtain ⟨cell, h1, h2, h3, h4, h5, h6, h7⟩ := h
  exact ⟨cell, h1, h2, h3, h4, h5, h6, fun z => h7 (hAB t (Array.getElem?_eq_some_iff.mp h1).1 z)⟩
theorem Stt.narrowH {ad : Nat → Nat} {A B : Nat → Prop} {U : State} {H : Heap} (h : Stt ad A U H) (hAB : ∀ q, q < H.size → B q → A q) : Stt ad B U H :=
  ⟨⟨h.1.1.narrowH hAB, h.1.2.narrowH hAB⟩, ⟨h.2.1.1.narrowH hAB, h.2.1.2.narrowH hAB⟩, ⟨h.2.2.1.1.narrowH hAB, h.2.2.1.2.narrowH hAB⟩, h.2.2.2.1, h.2.2.2.2.elim fun f k => ⟨f, k.narrowH hAB⟩⟩
/-! the judgement: a budget B (of arrays that may still be made, of at most 64 places each), an exit world V -/
def AW (ad : Nat → Nat) (n : Nat) : Nat → Prop := fun q => ∃ k, k < n ∧ q = ad k
def AN (ad : Nat → Nat) (n sz : Nat) : Nat → Prop := fun q => AW ad n q ∨ sz ≤ q
def RetAt (cc : ByteArray) (pc : Nat) : Option MV → Prop
  | none => decode cc pc = .ok (.return_, 1)
  | some (.inl _) => decode cc pc = .ok (.ireturn, 1)
  | some (.inr (.inl _)) => decode cc pc = .ok (.lreturn, 1)
  | some (.inr (.inr _)) => False
def Cx (D : va_G) (ck : Nat → ClassId) (ad : Nat → Nat) (sh : List Shp) (own : String) (cc : ByteArray) (nL : Nat) (R : Room) (B : Nat) (p : Program) (s : State) (m : MethodId) (args : Array Value) (c : Code) (A : Nat → Prop) (cells slots : Nat) : Prop :=
  p.tables.exec = Jvm.exec ∧ c.code = cc ∧ c.maxLocals = nL ∧ s.vm.findClass own = some m.cls ∧ (∀ w ∈ lw_gw, w.before args s = true) ∧ va_K D vwCl (tysOf ck) s ∧ (∀ k, k < sh.length → A (ad k)) ∧ ((cells + B ≤ R.cells ∧ slots + 64 * B ≤ R.slots) ∧ ∀ q : Nat, s.heap.size ≤ q → A q) ∧ Stt ad A s s.heap ∧ ainj ad sh.length
abbrev Post : Type := Option MV → Mem → Prop
abbrev XW : Type := Mem → Heap → Prop
def VW (D : va_G) (ck : Nat → ClassId) (ad : Nat → Nat) (sh : List Shp) : XW := fun w H => va_P D vwCl (wld ck ad sh w) H
def Exi (l : Launch) (D : va_G) (ck : Nat → ClassId) (ad : Nat → Nat) (sh : List Shp) (cc : ByteArray) (R : Room) (V : XW) (K : Post) (p : Program) (e : Env) (s : State) (m : MethodId) (args : Array Value) (below : List Frame) (meth : Method) (c : Code) (A : Nat → Prop) (Q : State → Prop) : Prop :=
  (∀ (w : Mem) (H : Heap), va_P D vwCl (wld ck ad sh w) H → V w H) ∧ ∀ (r : Option MV) (w : Mem) (pc : Nat) (lsR : Array Slot) (H : Heap) (locs : List Loc) (cells slots : Nat), K r w → RetAt cc pc r → V w H → va_S A s.heap H locs → cells ≤ R.cells ∧ slots ≤ R.slots → W p l e R s m args below meth c H locs cells slots Q (F0 m pc lsR (r.toList.map (mval (fun _ => 0))))
def Go (l : Launch) (D : va_G) (ck : Nat → ClassId) (ad : Nat → Nat) (sh : List Shp) (own : String) (cc : ByteArray) (nL : Nat) (R : Room) (B : Nat) (V : XW) (pc : Nat) (ls : List (Option MV)) (st : List MV) (w : Mem) (K : Post) : Prop :=
  ∀ (p : Program) (e : Env) (s : State) (m : MethodId) (args : Array Value) (below : List Frame) (meth : Method) (c : Code) (A : Nat → Prop) (cells slots : Nat) (Q : State → Prop) (H : Heap) (locs : List Loc) (lsR : Array Slot),
    Cx D ck ad sh own cc nL R B p s m args c A cells slots → va_P D vwCl (wld ck ad sh w) H → va_S A s.heap H locs → LR ad nL lsR ls → Exi l D ck ad sh cc R V K p e s m args below meth c A Q →
    W p l e R s m args below meth c H locs cells slots Q (F0 m pc lsR (st.map (mval ad)))
def evP (D : va_G) (ck : Nat → ClassId) (ad : Nat → Nat) (sh : List Shp) (w : Mem) (sz : Nat) (U : State) : Prop := va_P D vwCl (wld ck ad sh w) U.heap ∧ va_K D vwCl (tysOf ck) U ∧ Stt ad (AW ad sh.length) U U.heap ∧ ainj ad sh.length ∧ U.heap.size = sz
def evQ (D : va_G) (ck : Nat → ClassId) (ad : Nat → Nat) (sh : List Shp) (K : Post) : Array Value → State → Outcome → State → Prop := fun _ st o t =>
  (∃ (r : Option MV) (w : Mem), o = .returned (r.map (mval ad)) ∧ K r w ∧ va_P D vwCl (wld ck ad sh w) t.heap) ∧ va_F (AW ad sh.length) st t
def Ev (l : Launch) (D : va_G) (ck : Nat → ClassId) (ad : Nat → Nat) (sh : List Shp) (y : MethodName) (cc : ByteArray) (nL : Nat) (ret : Option FieldType) (R : Room) (as : List MV) (w : Mem) (K : Post) : Prop :=
  ∀ sz : Nat, Met l y (.code y cc nL ret :: lw_gw) R (va_Pc (as.map (mval ad)) (evP D ck ad sh w sz)) (evQ D ck ad sh K) R.cells R.slots (AN ad sh.length sz)
theorem cat1 {ad : Nat → Nat} {v : MV} (h : ∀ x, v ≠ vL x) : (mval ad v).category = 1 := by
  rcases v with x | x | x
  · rfl
  · exact absurd rfl (h x)
  · rfl
theorem oi_eq0 {x : Int} : Int32.ofInt x = 0 ↔ wr x = 0 := by rw [oi_0, oi_inj, wr_0]
theorem oi_lt0 {x : Int} : Int32.ofInt x < 0 ↔ wr x < 0 := by rw [oi_0, oi_lt, wr_0]
theorem oi_ge0 {x : Int} : 0 ≤ Int32.ofInt x ↔ 0 ≤ wr x := by rw [oi_0, oi_le, wr_0]
theorem oi_gt0 {x : Int} : 0 < Int32.ofInt x ↔ 0 < wr x := by rw [oi_0, oi_lt, wr_0]
theorem oi_le0 {x : Int} : Int32.ofInt x ≤ 0 ↔ wr x ≤ 0 := by rw [oi_0, oi_le, wr_0]
theorem celE_st {ck : Nat → ClassId} {ad : Nat → Nat} {w : Mem} {b j tc n : Nat} {v : Int} {z : Int32} (hz : Int32.ofInt v = z) : (.inl (ck tc, n, .inl (upd (fun k => Int32.ofInt (w b k)) j z)) : va_E) = celE ck ad (mup w b j v b) (.inr (.inl (tc, n))) := by
  subst hz
  simp only [celE]
  rw [mup_fn w b j v Int32.ofInt]
theorem celE_put {ck : Nat → ClassId} {ad : Nat → Nat} {w : Mem} {b i ci : Nat} {rs : List (Option Nat)} {v : Int} (hr : rs[i]? = some none) : (.inr (ci, (rs.mapIdx (fun k r => fldv ad r (w b k))).set i (mval ad (vI v))) : va_E) = celE ck ad (mup w b i v b) (.inl (ci, rs)) := by
  simp only [celE]
  congr 2
  apply List.ext_getElem?
  intro j
  have hil : i < rs.length := (List.getElem?_eq_some_iff.mp hr).1
  by_cases hj : i = j
  · subst hj
    rw [List.getElem?_set_self (by simpa using hil)]
    simp [hr, fldv, mup, mval]
  · have hj2 : ¬ j = i := fun e => hj e.symm
    rw [List.getElem?_set_ne hj]
    simp [mup, hj2]
theorem oi_ofNat (n : Nat) : Int32.ofNat n = Int32.ofInt (n : Int) := by
  first | exact Int32.ofInt_eq_ofNat.symm | rfl | (rw [← Int32.toInt_inj]; simp)
section GO
variable {l : Launch} {D : va_G} {ck : Nat → ClassId} {ad : Nat → Nat} {sh : List Shp} {own : String} {cc : ByteArray} {nL : Nat} {R : Room} {B : Nat} {V : XW} {pc q : Nat} {ls : List (Option MV)} {st : List MV} {w : Mem} {K : Post}

theorem go_iconst {n : Int} (hd : decode cc pc = .ok (.iconst n, 1)) (hq : pc + 1 = q) (k : Go l D ck ad sh own cc nL R B V q ls (vI n :: st) w K) : Go l D ck ad sh own cc nL R B V pc ls st w K := by
  subst hq
  intro p e s m args below meth c A cells slots Q H locs lsR C hP hS hl hex
  exact lv_iconst C.1 C.2.1 hd rfl (k p e s m args below meth c A cells slots Q H locs _ C hP hS hl hex)
theorem go_bipush {n : Int} (hn : (Int8.ofInt n).toInt32 = Int32.ofInt n) (hd : decode cc pc = .ok (.bipush n, 2)) (hq : pc + 2 = q) (k : Go l D ck ad sh own cc nL R B V q ls (vI n :: st) w K) : Go l D ck ad sh own cc nL R B V pc ls st w K := by
  subst hq
  intro p e s m args below meth c A cells slots Q H locs lsR C hP hS hl hex
  exact lv_bipush C.1 C.2.1 hd hn (k p e s m args below meth c A cells slots Q H locs _ C hP hS hl hex)
theorem go_sipush {n : Int} (hn : (Int16.ofInt n).toInt32 = Int32.ofInt n) (hd : decode cc pc = .ok (.sipush n, 3)) (hq : pc + 3 = q) (k : Go l D ck ad sh own cc nL R B V q ls (vI n :: st) w K) : Go l D ck ad sh own cc nL R B V pc ls st w K := by
  subst hq
  intro p e s m args below meth c A cells slots Q H locs lsR C hP hS hl hex
  exact lv_sipush C.1 C.2.1 hd hn (k p e s m args below meth c A cells slots Q H locs _ C hP hS hl hex)
theorem go_ldc {n : Int} {idx : Nat} {v : Int32} (hc : Cond.constant own idx v ∈ lw_gw) (hv : v = Int32.ofInt n) (hd : decode cc pc = .ok (.ldc idx, 2)) (hq : pc + 2 = q) (k : Go l D ck ad sh own cc nL R B V q ls (vI n :: st) w K) : Go l D ck ad sh own cc nL R B V pc ls st w K := by
  subst hq
  intro p e s m args below meth c A cells slots Q H locs lsR C hP hS hl hex
  subst hv; exact lv_ldc C.1 C.2.1 C.2.2.2.1 (C.2.2.2.2.1 _ hc) hd (k p e s m args below meth c A cells slots Q H locs _ C hP hS hl hex)
theorem go_ldcw {n : Int} {idx : Nat} {v : Int32} (hc : Cond.constant own idx v ∈ lw_gw) (hv : v = Int32.ofInt n) (hd : decode cc pc = .ok (.ldc_w idx, 3)) (hq : pc + 3 = q) (k : Go l D ck ad sh own cc nL R B V q ls (vI n :: st) w K) : Go l D ck ad sh own cc nL R B V pc ls st w K := by
  subst hq
  intro p e s m args below meth c A cells slots Q H locs lsR C hP hS hl hex
  subst hv; exact lv_ldcw C.1 C.2.1 C.2.2.2.1 (C.2.2.2.2.1 _ hc) hd (k p e s m args below meth c A cells slots Q H locs _ C hP hS hl hex)
theorem go_ldc2 {n : Int} {idx : Nat} {v : Int64} (hc : Cond.constantLong own idx v ∈ lw_gw) (hv : v = Int64.ofInt n) (hd : decode cc pc = .ok (.ldc2_w idx, 3)) (hq : pc + 3 = q) (k : Go l D ck ad sh own cc nL R B V q ls (vL n :: st) w K) : Go l D ck ad sh own cc nL R B V pc ls st w K := by
  subst hq
  intro p e s m args below meth c A cells slots Q H locs lsR C hP hS hl hex
  subst hv; exact lv_ldc2 C.1 C.2.1 C.2.2.2.1 (C.2.2.2.2.1 _ hc) hd (k p e s m args below meth c A cells slots Q H locs _ C hP hS hl hex)
theorem go_iload_n {i : Fin 4} {j : Nat} {x : Int} (hj : (i : Nat) = j) (h : ls[j]? = some (some (vI x))) (hd : decode cc pc = .ok (.iload_n i, 1)) (hq : pc + 1 = q) (k : Go l D ck ad sh own cc nL R B V q ls (vI x :: st) w K) : Go l D ck ad sh own cc nL R B V pc ls st w K := by
  subst hq
  intro p e s m args below meth c A cells slots Q H locs lsR C hP hS hl hex
  exact lv_iload_n C.1 C.2.1 hd hj (hl.2.2 _ _ h) (k p e s m args below meth c A cells slots Q H locs _ C hP hS hl hex)
theorem go_iload {j : Nat} {x : Int} (h : ls[j]? = some (some (vI x))) (hd : decode cc pc = .ok (.iload j, 2)) (hq : pc + 2 = q) (k : Go l D ck ad sh own cc nL R B V q ls (vI x :: st) w K) : Go l D ck ad sh own cc nL R B V pc ls st w K := by
  subst hq
  intro p e s m args below meth c A cells slots Q H locs lsR C hP hS hl hex
  exact lv_iload C.1 C.2.1 hd (hl.2.2 _ _ h) (k p e s m args below meth c A cells slots Q H locs _ C hP hS hl hex)
theorem go_lload_n {i : Fin 4} {j : Nat} {x : Int} (hj : (i : Nat) = j) (h : ls[j]? = some (some (vL x))) (hd : decode cc pc = .ok (.lload_n i, 1)) (hq : pc + 1 = q) (k : Go l D ck ad sh own cc nL R B V q ls (vL x :: st) w K) : Go l D ck ad sh own cc nL R B V pc ls st w K := by
  subst hq
  intro p e s m args below meth c A cells slots Q H locs lsR C hP hS hl hex
  exact lv_lload_n C.1 C.2.1 hd hj (hl.2.2 _ _ h) (k p e s m args below meth c A cells slots Q H locs _ C hP hS hl hex)
theorem go_lload {j : Nat} {x : Int} (h : ls[j]? = some (some (vL x))) (hd : decode cc pc = .ok (.lload j, 2)) (hq : pc + 2 = q) (k : Go l D ck ad sh own cc nL R B V q ls (vL x :: st) w K) : Go l D ck ad sh own cc nL R B V pc ls st w K := by
  subst hq
  intro p e s m args below meth c A cells slots Q H locs lsR C hP hS hl hex
  exact lv_lload C.1 C.2.1 hd (hl.2.2 _ _ h) (k p e s m args below meth c A cells slots Q H locs _ C hP hS hl hex)
theorem go_aload_n {i : Fin 4} {j : Nat} {x : Nat} (hj : (i : Nat) = j) (h : ls[j]? = some (some (vR x))) (hd : decode cc pc = .ok (.aload_n i, 1)) (hq : pc + 1 = q) (k : Go l D ck ad sh own cc nL R B V q ls (vR x :: st) w K) : Go l D ck ad sh own cc nL R B V pc ls st w K := by
  subst hq
  intro p e s m args below meth c A cells slots Q H locs lsR C hP hS hl hex
  exact lv_aload_n C.1 C.2.1 hd hj (hl.2.2 _ _ h) (k p e s m args below meth c A cells slots Q H locs _ C hP hS hl hex)
theorem go_aload {j : Nat} {x : Nat} (h : ls[j]? = some (some (vR x))) (hd : decode cc pc = .ok (.aload j, 2)) (hq : pc + 2 = q) (k : Go l D ck ad sh own cc nL R B V q ls (vR x :: st) w K) : Go l D ck ad sh own cc nL R B V pc ls st w K := by
  subst hq
  intro p e s m args below meth c A cells slots Q H locs lsR C hP hS hl hex
  exact lv_aload C.1 C.2.1 hd (hl.2.2 _ _ h) (k p e s m args below meth c A cells slots Q H locs _ C hP hS hl hex)
theorem go_istore_n {i : Fin 4} {j : Nat} {x : Int} (hj : (i : Nat) = j) (hn : j < nL) (ho : okst ls j = true) {ls2 : List (Option MV)} (hls : ls.set j (some (vI x)) = ls2) (hd : decode cc pc = .ok (.istore_n i, 1)) (hq : pc + 1 = q) (k : Go l D ck ad sh own cc nL R B V q ls2 st w K) : Go l D ck ad sh own cc nL R B V pc ls (vI x :: st) w K := by
  subst hq
  intro p e s m args below meth c A cells slots Q H locs lsR C hP hS hl hex
  subst hls; exact lv_istore_n C.1 C.2.1 hd hj hl.has hn rfl (fun ls9 hl2 => k p e s m args below meth c A cells slots Q H locs _ C hP hS (LR.st1 ho hl2) hex)
theorem go_istore {j : Nat} {x : Int} (hn : j < nL) (ho : okst ls j = true) {ls2 : List (Option MV)} (hls : ls.set j (some (vI x)) = ls2) (hd : decode cc pc = .ok (.istore j, 2)) (hq : pc + 2 = q) (k : Go l D ck ad sh own cc nL R B V q ls2 st w K) : Go l D ck ad sh own cc nL R B V pc ls (vI x :: st) w K := by
  subst hq
  intro p e s m args below meth c A cells slots Q H locs lsR C hP hS hl hex
  subst hls; exact lv_istore C.1 C.2.1 hd hl.has hn rfl (fun ls9 hl2 => k p e s m args below meth c A cells slots Q H locs _ C hP hS (LR.st1 ho hl2) hex)
theorem go_astore_n {i : Fin 4} {j : Nat} {x : Nat} (hj : (i : Nat) = j) (hn : j < nL) (ho : okst ls j = true) {ls2 : List (Option MV)} (hls : ls.set j (some (vR x)) = ls2) (hd : decode cc pc = .ok (.astore_n i, 1)) (hq : pc + 1 = q) (k : Go l D ck ad sh own cc nL R B V q ls2 st w K) : Go l D ck ad sh own cc nL R B V pc ls (vR x :: st) w K := by
  subst hq
  intro p e s m args below meth c A cells slots Q H locs lsR C hP hS hl hex
  subst hls; exact lv_astore_n C.1 C.2.1 hd hj hl.has hn rfl (fun ls9 hl2 => k p e s m args below meth c A cells slots Q H locs _ C hP hS (LR.st1 ho hl2) hex)
theorem go_lstore_n {i : Fin 4} {j : Nat} {x : Int} (hj : (i : Nat) = j) (hn : j + 1 < nL) (ho : okst ls j = true) {ls2 : List (Option MV)} (hls : (ls.set j (some (vL x))).set (j + 1) none = ls2) (hd : decode cc pc = .ok (.lstore_n i, 1)) (hq : pc + 1 = q) (k : Go l D ck ad sh own cc nL R B V q ls2 st w K) : Go l D ck ad sh own cc nL R B V pc ls (vL x :: st) w K := by
  subst hq
  intro p e s m args below meth c A cells slots Q H locs lsR C hP hS hl hex
  subst hls; exact lv_lstore_n C.1 C.2.1 hd hj hl.has hn rfl (fun ls9 hl2 => k p e s m args below meth c A cells slots Q H locs _ C hP hS (LR.st2 ho hl2) hex)
theorem go_lstore {j : Nat} {x : Int} (hn : j + 1 < nL) (ho : okst ls j = true) {ls2 : List (Option MV)} (hls : (ls.set j (some (vL x))).set (j + 1) none = ls2) (hd : decode cc pc = .ok (.lstore j, 2)) (hq : pc + 2 = q) (k : Go l D ck ad sh own cc nL R B V q ls2 st w K) : Go l D ck ad sh own cc nL R B V pc ls (vL x :: st) w K := by
  subst hq
  intro p e s m args below meth c A cells slots Q H locs lsR C hP hS hl hex
  subst hls; exact lv_lstore C.1 C.2.1 hd hl.has hn rfl (fun ls9 hl2 => k p e s m args below meth c A cells slots Q H locs _ C hP hS (LR.st2 ho hl2) hex)
theorem go_iinc {j : Nat} {n x : Int} (h : ls[j]? = some (some (vI x))) (hn : j < nL) (ho : okst ls j = true) {ls2 : List (Option MV)} (hls : ls.set j (some (vI (x + n))) = ls2) (hd : decode cc pc = .ok (.iinc j n, 3)) (hq : pc + 3 = q) (k : Go l D ck ad sh own cc nL R B V q ls2 st w K) : Go l D ck ad sh own cc nL R B V pc ls st w K := by
  subst hq
  intro p e s m args below meth c A cells slots Q H locs lsR C hP hS hl hex
  subst hls
  obtain ⟨kk, hkk⟩ := List.mem_iff_getElem?.mp (encl_mem (ad := ad) h)
  exact lv_iinc (v := Int32.ofInt (x + n)) C.1 C.2.1 hd hl.has hkk (by rw [Int32.ofInt_add]) hn rfl (fun ls9 hl2 => k p e s m args below meth c A cells slots Q H locs _ C hP hS (LR.st1 ho hl2) hex)
theorem go_iadd {x y : Int} (hd : decode cc pc = .ok (.iadd, 1)) (hq : pc + 1 = q) (k : Go l D ck ad sh own cc nL R B V q ls (vI (x + y) :: st) w K) : Go l D ck ad sh own cc nL R B V pc ls (vI y :: vI x :: st) w K := by
  subst hq
  intro p e s m args below meth c A cells slots Q H locs lsR C hP hS hl hex
  have z := (k p e s m args below meth c A cells slots Q H locs _ C hP hS hl hex)
  have ez : Int32.ofInt (x + y) = Int32.ofInt x + Int32.ofInt y := Int32.ofInt_add ..
  simp only [List.map_cons, mval, ez] at z
  exact lv_iadd C.1 C.2.1 hd z
theorem go_isub {x y : Int} (hd : decode cc pc = .ok (.isub, 1)) (hq : pc + 1 = q) (k : Go l D ck ad sh own cc nL R B V q ls (vI (x - y) :: st) w K) : Go l D ck ad sh own cc nL R B V pc ls (vI y :: vI x :: st) w K := by
  subst hq
  intro p e s m args below meth c A cells slots Q H locs lsR C hP hS hl hex
  have z := (k p e s m args below meth c A cells slots Q H locs _ C hP hS hl hex)
  have ez : Int32.ofInt (x - y) = Int32.ofInt x - Int32.ofInt y := Int32.ofInt_sub ..
  simp only [List.map_cons, mval, ez] at z
  exact lv_isub C.1 C.2.1 hd z
theorem go_imul {x y : Int} (hd : decode cc pc = .ok (.imul, 1)) (hq : pc + 1 = q) (k : Go l D ck ad sh own cc nL R B V q ls (vI (x * y) :: st) w K) : Go l D ck ad sh own cc nL R B V pc ls (vI y :: vI x :: st) w K := by
  subst hq
  intro p e s m args below meth c A cells slots Q H locs lsR C hP hS hl hex
  have z := (k p e s m args below meth c A cells slots Q H locs _ C hP hS hl hex)
  have ez : Int32.ofInt (x * y) = Int32.ofInt x * Int32.ofInt y := Int32.ofInt_mul ..
  simp only [List.map_cons, mval, ez] at z
  exact lv_imul C.1 C.2.1 hd z
theorem go_ishl {x y : Int} (hd : decode cc pc = .ok (.ishl, 1)) (hq : pc + 1 = q) (k : Go l D ck ad sh own cc nL R B V q ls (vI (shlZ x y) :: st) w K) : Go l D ck ad sh own cc nL R B V pc ls (vI y :: vI x :: st) w K := by
  subst hq
  intro p e s m args below meth c A cells slots Q H locs lsR C hP hS hl hex
  have z := (k p e s m args below meth c A cells slots Q H locs _ C hP hS hl hex)
  have ez : Int32.ofInt (shlZ x y) = Int32.ofInt x <<< (Int32.ofInt y &&& 31) := oi_ti _
  simp only [List.map_cons, mval, ez] at z
  exact lv_ishl C.1 C.2.1 hd z
theorem go_ishr {x y : Int} (hd : decode cc pc = .ok (.ishr, 1)) (hq : pc + 1 = q) (k : Go l D ck ad sh own cc nL R B V q ls (vI (shrZ x y) :: st) w K) : Go l D ck ad sh own cc nL R B V pc ls (vI y :: vI x :: st) w K := by
  subst hq
  intro p e s m args below meth c A cells slots Q H locs lsR C hP hS hl hex
  have z := (k p e s m args below meth c A cells slots Q H locs _ C hP hS hl hex)
  have ez : Int32.ofInt (shrZ x y) = Int32.ofInt x >>> (Int32.ofInt y &&& 31) := oi_ti _
  simp only [List.map_cons, mval, ez] at z
  exact lv_ishr C.1 C.2.1 hd z
theorem go_iand {x y : Int} (hd : decode cc pc = .ok (.iand, 1)) (hq : pc + 1 = q) (k : Go l D ck ad sh own cc nL R B V q ls (vI (andZ x y) :: st) w K) : Go l D ck ad sh own cc nL R B V pc ls (vI y :: vI x :: st) w K := by
  subst hq
  intro p e s m args below meth c A cells slots Q H locs lsR C hP hS hl hex
  have z := (k p e s m args below meth c A cells slots Q H locs _ C hP hS hl hex)
  have ez : Int32.ofInt (andZ x y) = Int32.ofInt x &&& Int32.ofInt y := oi_ti _
  simp only [List.map_cons, mval, ez] at z
  exact lv_iand C.1 C.2.1 hd z
theorem go_ior {x y : Int} (hd : decode cc pc = .ok (.ior, 1)) (hq : pc + 1 = q) (k : Go l D ck ad sh own cc nL R B V q ls (vI (orZ x y) :: st) w K) : Go l D ck ad sh own cc nL R B V pc ls (vI y :: vI x :: st) w K := by
  subst hq
  intro p e s m args below meth c A cells slots Q H locs lsR C hP hS hl hex
  have z := (k p e s m args below meth c A cells slots Q H locs _ C hP hS hl hex)
  have ez : Int32.ofInt (orZ x y) = Int32.ofInt x ||| Int32.ofInt y := oi_ti _
  simp only [List.map_cons, mval, ez] at z
  exact lv_ior C.1 C.2.1 hd z
theorem go_ixor {x y : Int} (hd : decode cc pc = .ok (.ixor, 1)) (hq : pc + 1 = q) (k : Go l D ck ad sh own cc nL R B V q ls (vI (xorZ x y) :: st) w K) : Go l D ck ad sh own cc nL R B V pc ls (vI y :: vI x :: st) w K := by
  subst hq
  intro p e s m args below meth c A cells slots Q H locs lsR C hP hS hl hex
  have z := (k p e s m args below meth c A cells slots Q H locs _ C hP hS hl hex)
  have ez : Int32.ofInt (xorZ x y) = Int32.ofInt x ^^^ Int32.ofInt y := oi_ti _
  simp only [List.map_cons, mval, ez] at z
  exact lv_ixor C.1 C.2.1 hd z
theorem go_iushr {x y : Int} (hd : decode cc pc = .ok (.iushr, 1)) (hq : pc + 1 = q) (k : Go l D ck ad sh own cc nL R B V q ls (vI (ushrZ x y) :: st) w K) : Go l D ck ad sh own cc nL R B V pc ls (vI y :: vI x :: st) w K := by
  subst hq
  intro p e s m args below meth c A cells slots Q H locs lsR C hP hS hl hex
  exact lv_iushr (v := Int32.ofInt (ushrZ x y)) C.1 C.2.1 hd (oi_ti _).symm (k p e s m args below meth c A cells slots Q H locs _ C hP hS hl hex)
theorem go_ineg {x : Int} (hd : decode cc pc = .ok (.ineg, 1)) (hq : pc + 1 = q) (k : Go l D ck ad sh own cc nL R B V q ls (vI (-x) :: st) w K) : Go l D ck ad sh own cc nL R B V pc ls (vI x :: st) w K := by
  subst hq
  intro p e s m args below meth c A cells slots Q H locs lsR C hP hS hl hex
  have z := (k p e s m args below meth c A cells slots Q H locs _ C hP hS hl hex)
  simp only [List.map_cons, mval, Int32.ofInt_neg] at z
  exact lv_ineg C.1 C.2.1 hd z
theorem go_idiv {x y : Int} (hne : ¬ wr y = 0) (hd : decode cc pc = .ok (.idiv, 1)) (hq : pc + 1 = q) (k : Go l D ck ad sh own cc nL R B V q ls (vI ((wr x).tdiv (wr y)) :: st) w K) : Go l D ck ad sh own cc nL R B V pc ls (vI y :: vI x :: st) w K := by
  subst hq
  intro p e s m args below meth c A cells slots Q H locs lsR C hP hS hl hex
  have z := (k p e s m args below meth c A cells slots Q H locs _ C hP hS hl hex)
  simp only [List.map_cons, mval, ← oi_div] at z
  exact lv_idiv C.1 C.2.1 hd (fun z0 => hne (by have := oi_inj.mp (z0.trans oi_0); rwa [wr_0] at this)) z
theorem go_irem {x y : Int} (hne : ¬ wr y = 0) (hd : decode cc pc = .ok (.irem, 1)) (hq : pc + 1 = q) (k : Go l D ck ad sh own cc nL R B V q ls (vI ((wr x).tmod (wr y)) :: st) w K) : Go l D ck ad sh own cc nL R B V pc ls (vI y :: vI x :: st) w K := by
  subst hq
  intro p e s m args below meth c A cells slots Q H locs lsR C hP hS hl hex
  have z := (k p e s m args below meth c A cells slots Q H locs _ C hP hS hl hex)
  simp only [List.map_cons, mval, ← oi_rem] at z
  exact lv_irem C.1 C.2.1 hd (fun z0 => hne (by have := oi_inj.mp (z0.trans oi_0); rwa [wr_0] at this)) z
theorem go_ladd {x y : Int} (hd : decode cc pc = .ok (.ladd, 1)) (hq : pc + 1 = q) (k : Go l D ck ad sh own cc nL R B V q ls (vL (x + y) :: st) w K) : Go l D ck ad sh own cc nL R B V pc ls (vL y :: vL x :: st) w K := by
  subst hq
  intro p e s m args below meth c A cells slots Q H locs lsR C hP hS hl hex
  have z := (k p e s m args below meth c A cells slots Q H locs _ C hP hS hl hex)
  simp only [List.map_cons, mval, Int64.ofInt_add] at z
  exact lv_ladd C.1 C.2.1 hd z
theorem go_lmul {x y : Int} (hd : decode cc pc = .ok (.lmul, 1)) (hq : pc + 1 = q) (k : Go l D ck ad sh own cc nL R B V q ls (vL (x * y) :: st) w K) : Go l D ck ad sh own cc nL R B V pc ls (vL y :: vL x :: st) w K := by
  subst hq
  intro p e s m args below meth c A cells slots Q H locs lsR C hP hS hl hex
  have z := (k p e s m args below meth c A cells slots Q H locs _ C hP hS hl hex)
  simp only [List.map_cons, mval, Int64.ofInt_mul] at z
  exact lv_lmul C.1 C.2.1 hd z
theorem go_i2l {x : Int} (hd : decode cc pc = .ok (.i2l, 1)) (hq : pc + 1 = q) (k : Go l D ck ad sh own cc nL R B V q ls (vL (wr x) :: st) w K) : Go l D ck ad sh own cc nL R B V pc ls (vI x :: st) w K := by
  subst hq
  intro p e s m args below meth c A cells slots Q H locs lsR C hP hS hl hex
  exact lv_i2l (v := Int64.ofInt (wr x)) C.1 C.2.1 hd (by rw [← toInt_oi]; rfl) (k p e s m args below meth c A cells slots Q H locs _ C hP hS hl hex)
theorem go_i2c {x : Int} (hd : decode cc pc = .ok (.i2c, 1)) (hq : pc + 1 = q) (k : Go l D ck ad sh own cc nL R B V q ls (vI (i2cZ x) :: st) w K) : Go l D ck ad sh own cc nL R B V pc ls (vI x :: st) w K := by
  subst hq
  intro p e s m args below meth c A cells slots Q H locs lsR C hP hS hl hex
  exact lv_i2c (v := Int32.ofInt (i2cZ x)) C.1 C.2.1 hd (oi_ti _).symm (k p e s m args below meth c A cells slots Q H locs _ C hP hS hl hex)
theorem go_dup {v : MV} (hv : ∀ x, v ≠ vL x) (hd : decode cc pc = .ok (.dup, 1)) (hq : pc + 1 = q) (k : Go l D ck ad sh own cc nL R B V q ls (v :: v :: st) w K) : Go l D ck ad sh own cc nL R B V pc ls (v :: st) w K := by
  subst hq
  intro p e s m args below meth c A cells slots Q H locs lsR C hP hS hl hex
  exact lv_dup C.1 C.2.1 hd (cat1 hv) (k p e s m args below meth c A cells slots Q H locs _ C hP hS hl hex)
theorem go_pop {v : MV} (hv : ∀ x, v ≠ vL x) (hd : decode cc pc = .ok (.pop, 1)) (hq : pc + 1 = q) (k : Go l D ck ad sh own cc nL R B V q ls st w K) : Go l D ck ad sh own cc nL R B V pc ls (v :: st) w K := by
  subst hq
  intro p e s m args below meth c A cells slots Q H locs lsR C hP hS hl hex
  exact lv_pop C.1 C.2.1 hd (cat1 hv) (k p e s m args below meth c A cells slots Q H locs _ C hP hS hl hex)
theorem go_dup_x1 {v u : MV} (hv : ∀ x, v ≠ vL x) (hu : ∀ x, u ≠ vL x) (hd : decode cc pc = .ok (.dup_x1, 1)) (hq : pc + 1 = q) (k : Go l D ck ad sh own cc nL R B V q ls (v :: u :: v :: st) w K) : Go l D ck ad sh own cc nL R B V pc ls (v :: u :: st) w K := by
  subst hq
  intro p e s m args below meth c A cells slots Q H locs lsR C hP hS hl hex
  exact lv_dup_x1 C.1 C.2.1 hd (cat1 hv) (cat1 hu) (k p e s m args below meth c A cells slots Q H locs _ C hP hS hl hex)
theorem go_dup2 {v u : MV} (hv : ∀ x, v ≠ vL x) (hu : ∀ x, u ≠ vL x) (hd : decode cc pc = .ok (.dup2, 1)) (hq : pc + 1 = q) (k : Go l D ck ad sh own cc nL R B V q ls (v :: u :: v :: u :: st) w K) : Go l D ck ad sh own cc nL R B V pc ls (v :: u :: st) w K := by
  subst hq
  intro p e s m args below meth c A cells slots Q H locs lsR C hP hS hl hex
  exact lv_dup2_11 C.1 C.2.1 hd (cat1 hv) (cat1 hu) (k p e s m args below meth c A cells slots Q H locs _ C hP hS hl hex)
theorem go_goto {off : Int} (hd : decode cc pc = .ok (.goto off, 3)) (hq : (pc : Int) + off = (q : Int)) (k : Go l D ck ad sh own cc nL R B V q ls st w K) : Go l D ck ad sh own cc nL R B V pc ls st w K := by
  intro p e s m args below meth c A cells slots Q H locs lsR C hP hS hl hex
  exact lv_goto C.1 C.2.1 hd hq (k p e s m args below meth c A cells slots Q H locs _ C hP hS hl hex)
theorem go_icmp_eq {x y off : Int} {t : Nat} (hd : decode cc pc = .ok (.if_icmp .eq off, 3)) (ht : (pc : Int) + off = (t : Int)) (hq : pc + 3 = q) (kt : wr x = wr y → Go l D ck ad sh own cc nL R B V t ls st w K) (kf : ¬ (wr x = wr y) → Go l D ck ad sh own cc nL R B V q ls st w K) : Go l D ck ad sh own cc nL R B V pc ls (vI y :: vI x :: st) w K := by
  subst hq
  intro p e s m args below meth c A cells slots Q H locs lsR C hP hS hl hex
  exact lv_icmp_eq C.1 C.2.1 hd ht (fun z => kt (oi_inj.mp z) p e s m args below meth c A cells slots Q H locs _ C hP hS hl hex) (fun z => kf (fun e2 => z (oi_inj.mpr e2)) p e s m args below meth c A cells slots Q H locs _ C hP hS hl hex)
theorem go_if_eq {x off : Int} {t : Nat} (hd : decode cc pc = .ok (.ifCond .eq off, 3)) (ht : (pc : Int) + off = (t : Int)) (hq : pc + 3 = q) (kt : wr x = 0 → Go l D ck ad sh own cc nL R B V t ls st w K) (kf : ¬ (wr x = 0) → Go l D ck ad sh own cc nL R B V q ls st w K) : Go l D ck ad sh own cc nL R B V pc ls (vI x :: st) w K := by
  subst hq
  intro p e s m args below meth c A cells slots Q H locs lsR C hP hS hl hex
  exact lv_if_eq C.1 C.2.1 hd ht (fun z => kt (oi_eq0.mp z) p e s m args below meth c A cells slots Q H locs _ C hP hS hl hex) (fun z => kf (fun e2 => z (oi_eq0.mpr e2)) p e s m args below meth c A cells slots Q H locs _ C hP hS hl hex)
theorem go_icmp_ne {x y off : Int} {t : Nat} (hd : decode cc pc = .ok (.if_icmp .ne off, 3)) (ht : (pc : Int) + off = (t : Int)) (hq : pc + 3 = q) (kt : ¬ wr x = wr y → Go l D ck ad sh own cc nL R B V t ls st w K) (kf : ¬ (¬ wr x = wr y) → Go l D ck ad sh own cc nL R B V q ls st w K) : Go l D ck ad sh own cc nL R B V pc ls (vI y :: vI x :: st) w K := by
  subst hq
  intro p e s m args below meth c A cells slots Q H locs lsR C hP hS hl hex
  exact lv_icmp_ne C.1 C.2.1 hd ht (fun z => kt (fun e2 => z (oi_inj.mpr e2)) p e s m args below meth c A cells slots Q H locs _ C hP hS hl hex) (fun z => kf (fun e2 => e2 (oi_inj.mp z)) p e s m args below meth c A cells slots Q H locs _ C hP hS hl hex)
theorem go_if_ne {x off : Int} {t : Nat} (hd : decode cc pc = .ok (.ifCond .ne off, 3)) (ht : (pc : Int) + off = (t : Int)) (hq : pc + 3 = q) (kt : ¬ wr x = 0 → Go l D ck ad sh own cc nL R B V t ls st w K) (kf : ¬ (¬ wr x = 0) → Go l D ck ad sh own cc nL R B V q ls st w K) : Go l D ck ad sh own cc nL R B V pc ls (vI x :: st) w K := by
  subst hq
  intro p e s m args below meth c A cells slots Q H locs lsR C hP hS hl hex
  exact lv_if_ne C.1 C.2.1 hd ht (fun z => kt (fun e2 => z (oi_eq0.mpr e2)) p e s m args below meth c A cells slots Q H locs _ C hP hS hl hex) (fun z => kf (fun e2 => e2 (oi_eq0.mp z)) p e s m args below meth c A cells slots Q H locs _ C hP hS hl hex)
theorem go_icmp_lt {x y off : Int} {t : Nat} (hd : decode cc pc = .ok (.if_icmp .lt off, 3)) (ht : (pc : Int) + off = (t : Int)) (hq : pc + 3 = q) (kt : wr x < wr y → Go l D ck ad sh own cc nL R B V t ls st w K) (kf : ¬ (wr x < wr y) → Go l D ck ad sh own cc nL R B V q ls st w K) : Go l D ck ad sh own cc nL R B V pc ls (vI y :: vI x :: st) w K := by
  subst hq
  intro p e s m args below meth c A cells slots Q H locs lsR C hP hS hl hex
  exact lv_icmp_lt C.1 C.2.1 hd ht (fun z => kt (oi_lt.mp z) p e s m args below meth c A cells slots Q H locs _ C hP hS hl hex) (fun z => kf (fun e2 => z (oi_lt.mpr e2)) p e s m args below meth c A cells slots Q H locs _ C hP hS hl hex)
theorem go_if_lt {x off : Int} {t : Nat} (hd : decode cc pc = .ok (.ifCond .lt off, 3)) (ht : (pc : Int) + off = (t : Int)) (hq : pc + 3 = q) (kt : wr x < 0 → Go l D ck ad sh own cc nL R B V t ls st w K) (kf : ¬ (wr x < 0) → Go l D ck ad sh own cc nL R B V q ls st w K) : Go l D ck ad sh own cc nL R B V pc ls (vI x :: st) w K := by
  subst hq
  intro p e s m args below meth c A cells slots Q H locs lsR C hP hS hl hex
  exact lv_if_lt C.1 C.2.1 hd ht (fun z => kt (oi_lt0.mp z) p e s m args below meth c A cells slots Q H locs _ C hP hS hl hex) (fun z => kf (fun e2 => z (oi_lt0.mpr e2)) p e s m args below meth c A cells slots Q H locs _ C hP hS hl hex)
theorem go_icmp_ge {x y off : Int} {t : Nat} (hd : decode cc pc = .ok (.if_icmp .ge off, 3)) (ht : (pc : Int) + off = (t : Int)) (hq : pc + 3 = q) (kt : wr y ≤ wr x → Go l D ck ad sh own cc nL R B V t ls st w K) (kf : ¬ (wr y ≤ wr x) → Go l D ck ad sh own cc nL R B V q ls st w K) : Go l D ck ad sh own cc nL R B V pc ls (vI y :: vI x :: st) w K := by
  subst hq
  intro p e s m args below meth c A cells slots Q H locs lsR C hP hS hl hex
  exact lv_icmp_ge C.1 C.2.1 hd ht (fun z => kt (oi_le.mp z) p e s m args below meth c A cells slots Q H locs _ C hP hS hl hex) (fun z => kf (fun e2 => z (oi_le.mpr e2)) p e s m args below meth c A cells slots Q H locs _ C hP hS hl hex)
theorem go_if_ge {x off : Int} {t : Nat} (hd : decode cc pc = .ok (.ifCond .ge off, 3)) (ht : (pc : Int) + off = (t : Int)) (hq : pc + 3 = q) (kt : 0 ≤ wr x → Go l D ck ad sh own cc nL R B V t ls st w K) (kf : ¬ (0 ≤ wr x) → Go l D ck ad sh own cc nL R B V q ls st w K) : Go l D ck ad sh own cc nL R B V pc ls (vI x :: st) w K := by
  subst hq
  intro p e s m args below meth c A cells slots Q H locs lsR C hP hS hl hex
  exact lv_if_ge C.1 C.2.1 hd ht (fun z => kt (oi_ge0.mp z) p e s m args below meth c A cells slots Q H locs _ C hP hS hl hex) (fun z => kf (fun e2 => z (oi_ge0.mpr e2)) p e s m args below meth c A cells slots Q H locs _ C hP hS hl hex)
theorem go_icmp_gt {x y off : Int} {t : Nat} (hd : decode cc pc = .ok (.if_icmp .gt off, 3)) (ht : (pc : Int) + off = (t : Int)) (hq : pc + 3 = q) (kt : wr y < wr x → Go l D ck ad sh own cc nL R B V t ls st w K) (kf : ¬ (wr y < wr x) → Go l D ck ad sh own cc nL R B V q ls st w K) : Go l D ck ad sh own cc nL R B V pc ls (vI y :: vI x :: st) w K := by
  subst hq
  intro p e s m args below meth c A cells slots Q H locs lsR C hP hS hl hex
  exact lv_icmp_gt C.1 C.2.1 hd ht (fun z => kt (oi_lt.mp z) p e s m args below meth c A cells slots Q H locs _ C hP hS hl hex) (fun z => kf (fun e2 => z (oi_lt.mpr e2)) p e s m args below meth c A cells slots Q H locs _ C hP hS hl hex)
theorem go_if_gt {x off : Int} {t : Nat} (hd : decode cc pc = .ok (.ifCond .gt off, 3)) (ht : (pc : Int) + off = (t : Int)) (hq : pc + 3 = q) (kt : 0 < wr x → Go l D ck ad sh own cc nL R B V t ls st w K) (kf : ¬ (0 < wr x) → Go l D ck ad sh own cc nL R B V q ls st w K) : Go l D ck ad sh own cc nL R B V pc ls (vI x :: st) w K := by
  subst hq
  intro p e s m args below meth c A cells slots Q H locs lsR C hP hS hl hex
  exact lv_if_gt C.1 C.2.1 hd ht (fun z => kt (oi_gt0.mp z) p e s m args below meth c A cells slots Q H locs _ C hP hS hl hex) (fun z => kf (fun e2 => z (oi_gt0.mpr e2)) p e s m args below meth c A cells slots Q H locs _ C hP hS hl hex)
theorem go_icmp_le {x y off : Int} {t : Nat} (hd : decode cc pc = .ok (.if_icmp .le off, 3)) (ht : (pc : Int) + off = (t : Int)) (hq : pc + 3 = q) (kt : wr x ≤ wr y → Go l D ck ad sh own cc nL R B V t ls st w K) (kf : ¬ (wr x ≤ wr y) → Go l D ck ad sh own cc nL R B V q ls st w K) : Go l D ck ad sh own cc nL R B V pc ls (vI y :: vI x :: st) w K := by
  subst hq
  intro p e s m args below meth c A cells slots Q H locs lsR C hP hS hl hex
  exact lv_icmp_le C.1 C.2.1 hd ht (fun z => kt (oi_le.mp z) p e s m args below meth c A cells slots Q H locs _ C hP hS hl hex) (fun z => kf (fun e2 => z (oi_le.mpr e2)) p e s m args below meth c A cells slots Q H locs _ C hP hS hl hex)
theorem go_if_le {x off : Int} {t : Nat} (hd : decode cc pc = .ok (.ifCond .le off, 3)) (ht : (pc : Int) + off = (t : Int)) (hq : pc + 3 = q) (kt : wr x ≤ 0 → Go l D ck ad sh own cc nL R B V t ls st w K) (kf : ¬ (wr x ≤ 0) → Go l D ck ad sh own cc nL R B V q ls st w K) : Go l D ck ad sh own cc nL R B V pc ls (vI x :: st) w K := by
  subst hq
  intro p e s m args below meth c A cells slots Q H locs lsR C hP hS hl hex
  exact lv_if_le C.1 C.2.1 hd ht (fun z => kt (oi_le0.mp z) p e s m args below meth c A cells slots Q H locs _ C hP hS hl hex) (fun z => kf (fun e2 => z (oi_le0.mpr e2)) p e s m args below meth c A cells slots Q H locs _ C hP hS hl hex)
theorem go_tsIn {x dflt lo hi off : Int} {offs : Array Int} {len t : Nat} (hd : decode cc pc = .ok (.tableswitch dflt lo hi offs, len)) (h1 : ¬ wr x < lo) (h2 : ¬ hi < wr x) (ho : offs[(wr x - lo).toNat]? = some off) (ht : (pc : Int) + off = (t : Int)) (k : Go l D ck ad sh own cc nL R B V t ls st w K) : Go l D ck ad sh own cc nL R B V pc ls (vI x :: st) w K := by
  intro p e s m args below meth c A cells slots Q H locs lsR C hP hS hl hex
  exact lv_tableIn C.1 C.2.1 hd (by rw [toInt_oi]; exact h1) (by rw [toInt_oi]; exact h2) (by rw [toInt_oi]; exact ho) ht (k p e s m args below meth c A cells slots Q H locs _ C hP hS hl hex)
theorem go_tsOut {x dflt lo hi : Int} {offs : Array Int} {len t : Nat} (hd : decode cc pc = .ok (.tableswitch dflt lo hi offs, len)) (h : wr x < lo ∨ hi < wr x) (ht : (pc : Int) + dflt = (t : Int)) (k : Go l D ck ad sh own cc nL R B V t ls st w K) : Go l D ck ad sh own cc nL R B V pc ls (vI x :: st) w K := by
  intro p e s m args below meth c A cells slots Q H locs lsR C hP hS hl hex
  exact lv_tableOut C.1 C.2.1 hd (by rw [toInt_oi]; exact h) ht (k p e s m args below meth c A cells slots Q H locs _ C hP hS hl hex)
theorem go_getI {C0 : String} {T : u_T} {N ci : Nat} {rs : List (Option Nat)} {b i idx : Nat} (hcl : vwCl[ci]? = some (C0, T, N)) (hin : ∀ w ∈ u_ws C0 T N, w ∈ lw_gw) (hs : sh[b]? = some (.inl (ci, rs))) (hiN : i < N) (hlk : Cond.fieldLink own idx (T i).1 (T i).2.1 (T i).2.2.1 ∈ lw_gw) (hr : rs[i]? = some none) (hd : decode cc pc = .ok (.getfield idx, 3)) (hq : pc + 3 = q) (k : Go l D ck ad sh own cc nL R B V q ls (vI (w b i) :: st) w K) : Go l D ck ad sh own cc nL R B V pc ls (vR b :: st) w K := by
  subst hq
  intro p e s m args below meth c A cells slots Q H locs lsR C hP hS hl hex
  exact va_get C.1 C.2.1 C.2.2.2.2.1 hin C.2.2.2.1 C.2.2.2.2.2.1 hP b (wld_at hs) hcl i hiN (C.2.2.2.2.1 _ hlk) (fun _ h9 => h9) (by simp [hr, fldv, mval]) hd (k p e s m args below meth c A cells slots Q H locs _ C hP hS hl hex)
theorem go_getR {C0 : String} {T : u_T} {N ci : Nat} {rs : List (Option Nat)} {b i idx : Nat} {r : Nat} (hcl : vwCl[ci]? = some (C0, T, N)) (hin : ∀ w ∈ u_ws C0 T N, w ∈ lw_gw) (hs : sh[b]? = some (.inl (ci, rs))) (hiN : i < N) (hlk : Cond.fieldLink own idx (T i).1 (T i).2.1 (T i).2.2.1 ∈ lw_gw) (hr : rs[i]? = some (some r)) (hd : decode cc pc = .ok (.getfield idx, 3)) (hq : pc + 3 = q) (k : Go l D ck ad sh own cc nL R B V q ls (vR r :: st) w K) : Go l D ck ad sh own cc nL R B V pc ls (vR b :: st) w K := by
  subst hq
  intro p e s m args below meth c A cells slots Q H locs lsR C hP hS hl hex
  exact va_get C.1 C.2.1 C.2.2.2.2.1 hin C.2.2.2.1 C.2.2.2.2.2.1 hP b (wld_at hs) hcl i hiN (C.2.2.2.2.1 _ hlk) (fun _ h9 => h9) (by simp [hr, fldv, mval]) hd (k p e s m args below meth c A cells slots Q H locs _ C hP hS hl hex)
theorem go_putI {C0 : String} {T : u_T} {N ci : Nat} {rs : List (Option Nat)} {b i idx : Nat} {x : Int} (hcl : vwCl[ci]? = some (C0, T, N)) (hin : ∀ w ∈ u_ws C0 T N, w ∈ lw_gw) (hs : sh[b]? = some (.inl (ci, rs))) (hiN : i < N) (hlk : Cond.fieldLink own idx (T i).1 (T i).2.1 (T i).2.2.1 ∈ lw_gw) (hr : rs[i]? = some none) (ty0 : Nat → FieldType) (hty : ∀ k, k < N → parseFieldDescriptor (T k).2.2.1 = some (ty0 k)) (hnm : ∀ a, a < N → ∀ b, b < N → a ≠ b → (T a).2.1 ≠ (T b).2.1) (hfin : (T i).2.2.2 = false) (hdt : parseFieldDescriptor (T i).2.2.1 = some .int) (hd : decode cc pc = .ok (.putfield idx, 3)) (hq : pc + 3 = q) (k : Go l D ck ad sh own cc nL R B V q ls st (mup w b i x) K) : Go l D ck ad sh own cc nL R B V pc ls (vI x :: vR b :: st) w K := by
  subst hq
  intro p e s m args below meth c A cells slots Q H locs lsR C hP hS hl hex
  have hil : i < rs.length := (List.getElem?_eq_some_iff.mp hr).1
  refine va_put (ty := .int) C.1 C.2.1 C.2.2.2.2.1 hin ty0 hty hnm C.2.2.2.1 C.2.2.2.2.2.1 hP (wld_D C.2.2.2.2.2.2.2.2.2 C.2.2.2.2.2.2.1) hS b (wld_at hs) hcl i hiN (C.2.2.2.2.1 _ hlk) (fun _ h9 => h9) hfin hdt rfl rfl (by simpa using hil) hd (fun H1 locs1 hP1 hD1 hS1 => ?_)
  rw [wld_set (k := i) (v := x) hs (celE_put hr)] at hP1
  exact k p e s m args below meth c A cells slots Q H1 locs1 _ C hP1 hS1 hl hex
theorem go_iald {b n j : Nat} {x : Int} (hs : sh[b]? = some (.inr (.inl (0, n)))) (hx : wr x = (j : Int)) (hj : j < n) (hd : decode cc pc = .ok (.iaload, 1)) (hq : pc + 1 = q) (k : Go l D ck ad sh own cc nL R B V q ls (vI (w b j) :: st) w K) : Go l D ck ad sh own cc nL R B V pc ls (vI x :: vR b :: st) w K := by
  subst hq
  intro p e s m args below meth c A cells slots Q H locs lsR C hP hS hl hex
  have z := (k p e s m args below meth c A cells slots Q H locs _ C hP hS hl hex)
  rw [← oi_nat hx] at z
  exact va_iald C.1 C.2.1 C.2.2.2.2.2.1 hP b 0 (wld_at hs) rfl (vp_in_oi hx hj) hd z
theorem go_zald {b n j : Nat} {x : Int} (hs : sh[b]? = some (.inr (.inl (1, n)))) (hx : wr x = (j : Int)) (hj : j < n) (hd : decode cc pc = .ok (.baload, 1)) (hq : pc + 1 = q) (k : Go l D ck ad sh own cc nL R B V q ls (vI (w b j) :: st) w K) : Go l D ck ad sh own cc nL R B V pc ls (vI x :: vR b :: st) w K := by
  subst hq
  intro p e s m args below meth c A cells slots Q H locs lsR C hP hS hl hex
  have z := (k p e s m args below meth c A cells slots Q H locs _ C hP hS hl hex)
  rw [← oi_nat hx] at z
  exact va_zald C.1 C.2.1 C.2.2.2.2.2.1 hP b 1 (wld_at hs) rfl (vp_in_oi hx hj) hd z
theorem go_cald {b n j : Nat} {x : Int} (hs : sh[b]? = some (.inr (.inl (2, n)))) (hx : wr x = (j : Int)) (hj : j < n) (hd : decode cc pc = .ok (.caload, 1)) (hq : pc + 1 = q) (k : Go l D ck ad sh own cc nL R B V q ls (vI (w b j) :: st) w K) : Go l D ck ad sh own cc nL R B V pc ls (vI x :: vR b :: st) w K := by
  subst hq
  intro p e s m args below meth c A cells slots Q H locs lsR C hP hS hl hex
  have z := (k p e s m args below meth c A cells slots Q H locs _ C hP hS hl hex)
  rw [← oi_nat hx] at z
  exact va_cald C.1 C.2.1 C.2.2.2.2.2.1 hP b 2 (wld_at hs) rfl (vp_in_oi hx hj) hd z
theorem go_iast {b n j : Nat} {x v : Int} (hs : sh[b]? = some (.inr (.inl (0, n)))) (hx : wr x = (j : Int)) (hj : j < n) (hd : decode cc pc = .ok (.iastore, 1)) (hq : pc + 1 = q) (k : Go l D ck ad sh own cc nL R B V q ls st (mup w b j v) K) : Go l D ck ad sh own cc nL R B V pc ls (vI v :: vI x :: vR b :: st) w K := by
  subst hq
  intro p e s m args below meth c A cells slots Q H locs lsR C hP hS hl hex
  refine va_iast C.1 C.2.1 C.2.2.2.2.2.1 hP (wld_D C.2.2.2.2.2.2.2.2.2 C.2.2.2.2.2.2.1) hS b 0 (wld_at hs) rfl (vp_in_oi hx hj) hd (fun H1 locs1 hP1 hD1 hS1 => ?_)
  rw [oi_nat hx, wld_set (k := j) (v := v) hs (celE_st rfl)] at hP1
  exact k p e s m args below meth c A cells slots Q H1 locs1 _ C hP1 hS1 hl hex
theorem go_zast {b n j : Nat} {x v : Int} (hs : sh[b]? = some (.inr (.inl (1, n)))) (hx : wr x = (j : Int)) (hj : j < n) (hd : decode cc pc = .ok (.bastore, 1)) (hq : pc + 1 = q) (k : Go l D ck ad sh own cc nL R B V q ls st (mup w b j (narZ .boolean v)) K) : Go l D ck ad sh own cc nL R B V pc ls (vI v :: vI x :: vR b :: st) w K := by
  subst hq
  intro p e s m args below meth c A cells slots Q H locs lsR C hP hS hl hex
  refine va_zast C.1 C.2.1 C.2.2.2.2.2.1 hP (wld_D C.2.2.2.2.2.2.2.2.2 C.2.2.2.2.2.2.1) hS b 1 (wld_at hs) rfl (vp_in_oi hx hj) hd (fun H1 locs1 hP1 hD1 hS1 => ?_)
  rw [oi_nat hx, wld_set (k := j) (v := (narZ .boolean v)) hs (celE_st (oi_ti _))] at hP1
  exact k p e s m args below meth c A cells slots Q H1 locs1 _ C hP1 hS1 hl hex
theorem go_cast {b n j : Nat} {x v : Int} (hs : sh[b]? = some (.inr (.inl (2, n)))) (hx : wr x = (j : Int)) (hj : j < n) (hd : decode cc pc = .ok (.castore, 1)) (hq : pc + 1 = q) (k : Go l D ck ad sh own cc nL R B V q ls st (mup w b j (narZ .char v)) K) : Go l D ck ad sh own cc nL R B V pc ls (vI v :: vI x :: vR b :: st) w K := by
  subst hq
  intro p e s m args below meth c A cells slots Q H locs lsR C hP hS hl hex
  refine va_cast C.1 C.2.1 C.2.2.2.2.2.1 hP (wld_D C.2.2.2.2.2.2.2.2.2 C.2.2.2.2.2.2.1) hS b 2 (wld_at hs) rfl (vp_in_oi hx hj) hd (fun H1 locs1 hP1 hD1 hS1 => ?_)
  rw [oi_nat hx, wld_set (k := j) (v := (narZ .char v)) hs (celE_st (oi_ti _))] at hP1
  exact k p e s m args below meth c A cells slots Q H1 locs1 _ C hP1 hS1 hl hex
theorem go_alen {b n tc : Nat} (hs : sh[b]? = some (.inr (.inl (tc, n)))) (ht : tc = 0) (hd : decode cc pc = .ok (.arraylength, 1)) (hq : pc + 1 = q) (k : Go l D ck ad sh own cc nL R B V q ls (vI (n : Int) :: st) w K) : Go l D ck ad sh own cc nL R B V pc ls (vR b :: st) w K := by
  subst hq
  intro p e s m args below meth c A cells slots Q H locs lsR C hP hS hl hex
  subst ht
  exact va_alen (x := (n, .inl _)) (v := Int32.ofInt (n : Int)) C.1 C.2.1 C.2.2.2.2.2.1 hP b 0 (wld_at hs) (ty := .int) rfl (oi_ofNat n) hd (k p e s m args below meth c A cells slots Q H locs _ C hP hS hl hex)
theorem go_aald3 {b j r : Nat} {rs : List Nat} {x : Int} (hs : sh[b]? = some (.inr (.inr (3, rs)))) (hx : wr x = (j : Int)) (hr : rs[j]? = some r) (hd : decode cc pc = .ok (.aaload, 1)) (hq : pc + 1 = q) (k : Go l D ck ad sh own cc nL R B V q ls (vR r :: st) w K) : Go l D ck ad sh own cc nL R B V pc ls (vI x :: vR b :: st) w K := by
  subst hq
  intro p e s m args below meth c A cells slots Q H locs lsR C hP hS hl hex
  have z := (k p e s m args below meth c A cells slots Q H locs _ C hP hS hl hex)
  have hj := (List.getElem?_eq_some_iff.mp hr).1
  refine va_aldq (C := RX5) C.1 C.2.1 C.2.2.2.2.2.1 hP b 3 (wld_at hs) rfl (vp_in_oi hx hj) hd ?_
  rw [oi_nat hx]
  simp only [hr, Option.map_some]
  exact z
theorem go_aald4 {b j r : Nat} {rs : List Nat} {x : Int} (hs : sh[b]? = some (.inr (.inr (4, rs)))) (hx : wr x = (j : Int)) (hr : rs[j]? = some r) (hd : decode cc pc = .ok (.aaload, 1)) (hq : pc + 1 = q) (k : Go l D ck ad sh own cc nL R B V q ls (vR r :: st) w K) : Go l D ck ad sh own cc nL R B V pc ls (vI x :: vR b :: st) w K := by
  subst hq
  intro p e s m args below meth c A cells slots Q H locs lsR C hP hS hl hex
  have z := (k p e s m args below meth c A cells slots Q H locs _ C hP hS hl hex)
  have hj := (List.getElem?_eq_some_iff.mp hr).1
  refine va_aldq (C := RX1) C.1 C.2.1 C.2.2.2.2.2.1 hP b 4 (wld_at hs) rfl (vp_in_oi hx hj) hd ?_
  rw [oi_nat hx]
  simp only [hr, Option.map_some]
  exact z
theorem go_gets0 {idx : Nat} (hlk : Cond.fieldLink own idx RX6 "STANDARD_ARCS" "[I" ∈ lw_gw) (hd : decode cc pc = .ok (.getstatic idx, 3)) (hq : pc + 3 = q) (k : Go l D ck ad sh own cc nL R B V q ls (vR 1000 :: st) w K) : Go l D ck ad sh own cc nL R B V pc ls st w K := by
  subst hq
  intro p e s m args below meth c A cells slots Q H locs lsR C hP hS hl hex
  exact va_gets C.1 C.2.1 C.2.2.2.2.2.2.2.2.1.1.1 hS C.2.2.2.1 (C.2.2.2.2.1 _ hlk) (fun _ h9 => h9) hd (k p e s m args below meth c A cells slots Q H locs _ C hP hS hl hex)
theorem go_tald0 {j : Nat} {x : Int} (hx : wr x = (j : Int)) (hj : j < 6) (hd : decode cc pc = .ok (.iaload, 1)) (hq : pc + 1 = q) (k : Go l D ck ad sh own cc nL R B V q ls (vI (L_arcs.getD j 0) :: st) w K) : Go l D ck ad sh own cc nL R B V pc ls (vI x :: vR 1000 :: st) w K := by
  subst hq
  intro p e s m args below meth c A cells slots Q H locs lsR C hP hS hl hex
  have z := (k p e s m args below meth c A cells slots Q H locs _ C hP hS hl hex)
  exact va_ti C.1 C.2.1 C.2.2.2.2.2.2.2.2.1.1.2 hS (vp_in_oi hx hj) (by rw [oi_nat hx]; rfl) hd z
theorem go_gets1 {idx : Nat} (hlk : Cond.fieldLink own idx RX6 "STANDARD_STARTS" "[I" ∈ lw_gw) (hd : decode cc pc = .ok (.getstatic idx, 3)) (hq : pc + 3 = q) (k : Go l D ck ad sh own cc nL R B V q ls (vR 1001 :: st) w K) : Go l D ck ad sh own cc nL R B V pc ls st w K := by
  subst hq
  intro p e s m args below meth c A cells slots Q H locs lsR C hP hS hl hex
  exact va_gets C.1 C.2.1 C.2.2.2.2.2.2.2.2.1.2.1.1 hS C.2.2.2.1 (C.2.2.2.2.1 _ hlk) (fun _ h9 => h9) hd (k p e s m args below meth c A cells slots Q H locs _ C hP hS hl hex)
theorem go_tald1 {j : Nat} {x : Int} (hx : wr x = (j : Int)) (hj : j < 7) (hd : decode cc pc = .ok (.iaload, 1)) (hq : pc + 1 = q) (k : Go l D ck ad sh own cc nL R B V q ls (vI (L_starts.getD j 0) :: st) w K) : Go l D ck ad sh own cc nL R B V pc ls (vI x :: vR 1001 :: st) w K := by
  subst hq
  intro p e s m args below meth c A cells slots Q H locs lsR C hP hS hl hex
  have z := (k p e s m args below meth c A cells slots Q H locs _ C hP hS hl hex)
  exact va_ti C.1 C.2.1 C.2.2.2.2.2.2.2.2.1.2.1.2 hS (vp_in_oi hx hj) (by rw [oi_nat hx]; rfl) hd z
theorem go_gets2 {idx : Nat} (hlk : Cond.fieldLink own idx RX6 "STANDARD_CROSSINGS" "[I" ∈ lw_gw) (hd : decode cc pc = .ok (.getstatic idx, 3)) (hq : pc + 3 = q) (k : Go l D ck ad sh own cc nL R B V q ls (vR 1002 :: st) w K) : Go l D ck ad sh own cc nL R B V pc ls st w K := by
  subst hq
  intro p e s m args below meth c A cells slots Q H locs lsR C hP hS hl hex
  exact va_gets C.1 C.2.1 C.2.2.2.2.2.2.2.2.1.2.2.1.1 hS C.2.2.2.1 (C.2.2.2.2.1 _ hlk) (fun _ h9 => h9) hd (k p e s m args below meth c A cells slots Q H locs _ C hP hS hl hex)
theorem go_tald2 {j : Nat} {x : Int} (hx : wr x = (j : Int)) (hj : j < 56) (hd : decode cc pc = .ok (.iaload, 1)) (hq : pc + 1 = q) (k : Go l D ck ad sh own cc nL R B V q ls (vI (L_cross.getD j 0) :: st) w K) : Go l D ck ad sh own cc nL R B V pc ls (vI x :: vR 1002 :: st) w K := by
  subst hq
  intro p e s m args below meth c A cells slots Q H locs lsR C hP hS hl hex
  have z := (k p e s m args below meth c A cells slots Q H locs _ C hP hS hl hex)
  exact va_ti C.1 C.2.1 C.2.2.2.2.2.2.2.2.1.2.2.1.2 hS (vp_in_oi hx hj) (by rw [oi_nat hx]; rfl) hd z
theorem go_slen  (hd : decode cc pc = .ok (.arraylength, 1)) (hq : pc + 1 = q) (k : Go l D ck ad sh own cc nL R B V q ls (vI ((ad 3000 : Nat) : Int) :: st) w K) : Go l D ck ad sh own cc nL R B V pc ls (vR 2000 :: st) w K := by
  subst hq
  intro p e s m args below meth c A cells slots Q H locs lsR C hP hS hl hex
  obtain ⟨hL, f, hT⟩ := C.2.2.2.2.2.2.2.2.1.2.2.2
  exact va_tlen (v := Int32.ofInt ((ad 3000 : Nat) : Int)) C.1 C.2.1 hT hS (oi_ofNat _) hd (k p e s m args below meth c A cells slots Q H locs _ C hP hS hl hex)
theorem go_sld {x : Int} {j : Nat} (hx : wr x = (j : Int)) (hj : j < ad 3000) (hd : decode cc pc = .ok (.iaload, 1)) (hq : pc + 1 = q) (k : ∀ v : Int, (-2147483648 ≤ v ∧ v < 2147483648) → Go l D ck ad sh own cc nL R B V q ls (vI v :: st) w K) : Go l D ck ad sh own cc nL R B V pc ls (vI x :: vR 2000 :: st) w K := by
  subst hq
  intro p e s m args below meth c A cells slots Q H locs lsR C hP hS hl hex
  obtain ⟨hL, f, hT⟩ := C.2.2.2.2.2.2.2.2.1.2.2.2
  have z := k (f j).toInt ⟨Int32.le_toInt _, Int32.toInt_lt _⟩ p e s m args below meth c A cells slots Q H locs _ C hP hS hl hex
  simp only [List.map_cons, mval, oi_ti] at z
  exact va_ti C.1 C.2.1 hT hS (vp_in_oi hx hj) (by rw [oi_nat hx]) hd z
theorem go_iret {x : Int} (hd : decode cc pc = .ok (.ireturn, 1)) (hk : K (some (vI x)) w) : Go l D ck ad sh own cc nL R B V pc ls [vI x] w K := by
  intro p e s m args below meth c A cells slots Q H locs lsR C hP hS hl hex
  exact hex.2 (some (vI x)) w pc lsR H locs cells slots hk hd (hex.1 w H hP) hS ⟨Nat.le_trans (Nat.le_add_right _ _) C.2.2.2.2.2.2.2.1.1.1, Nat.le_trans (Nat.le_add_right _ _) C.2.2.2.2.2.2.2.1.1.2⟩
theorem go_lret {x : Int} (hd : decode cc pc = .ok (.lreturn, 1)) (hk : K (some (vL x)) w) : Go l D ck ad sh own cc nL R B V pc ls [vL x] w K := by
  intro p e s m args below meth c A cells slots Q H locs lsR C hP hS hl hex
  exact hex.2 (some (vL x)) w pc lsR H locs cells slots hk hd (hex.1 w H hP) hS ⟨Nat.le_trans (Nat.le_add_right _ _) C.2.2.2.2.2.2.2.1.1.1, Nat.le_trans (Nat.le_add_right _ _) C.2.2.2.2.2.2.2.1.1.2⟩
theorem go_vret (hd : decode cc pc = .ok (.return_, 1)) (hk : K none w) : Go l D ck ad sh own cc nL R B V pc ls [] w K := by
  intro p e s m args below meth c A cells slots Q H locs lsR C hP hS hl hex
  exact hex.2 none w pc lsR H locs cells slots hk hd (hex.1 w H hP) hS ⟨Nat.le_trans (Nat.le_add_right _ _) C.2.2.2.2.2.2.2.1.1.1, Nat.le_trans (Nat.le_add_right _ _) C.2.2.2.2.2.2.2.1.1.2⟩
theorem Go.mono {K2 : Post} (h : ∀ r w, K r w → K2 r w) (k : Go l D ck ad sh own cc nL R B V pc ls st w K) : Go l D ck ad sh own cc nL R B V pc ls st w K2 := by
  intro p e s m args below meth c A cells slots Q H locs lsR C hP hS hl hex
  exact k p e s m args below meth c A cells slots Q H locs lsR C hP hS hl ⟨hex.1, fun r w2 pc2 ls2 H2 locs2 c2 s2 hk => hex.2 r w2 pc2 ls2 H2 locs2 c2 s2 (h r w2 hk)⟩
theorem go_icmp_eq2 {x y off : Int} {t : Nat} (hd : decode cc pc = .ok (.if_icmp .eq off, 3)) (ht : (pc : Int) + off = (t : Int)) (hq : pc + 3 = q) (hr : (-2147483648 ≤ x ∧ x < 2147483648) ∧ (-2147483648 ≤ y ∧ y < 2147483648)) (kt : x = y → Go l D ck ad sh own cc nL R B V t ls st w K) (kf : ¬ x = y → Go l D ck ad sh own cc nL R B V q ls st w K) : Go l D ck ad sh own cc nL R B V pc ls (vI y :: vI x :: st) w K := by
  have ex := wr_of hr.1.1 hr.1.2
  have ey := wr_of hr.2.1 hr.2.2
  refine go_icmp_eq hd ht hq (fun z => kt ?_) (fun z => kf ?_) <;> (rw [ex, ey] at z; omega)
theorem go_if_eq2 {x off : Int} {t : Nat} (hd : decode cc pc = .ok (.ifCond .eq off, 3)) (ht : (pc : Int) + off = (t : Int)) (hq : pc + 3 = q) (hr : (-2147483648 ≤ x ∧ x < 2147483648)) (kt : x = 0 → Go l D ck ad sh own cc nL R B V t ls st w K) (kf : ¬ x = 0 → Go l D ck ad sh own cc nL R B V q ls st w K) : Go l D ck ad sh own cc nL R B V pc ls (vI x :: st) w K := by
  have ex := wr_of hr.1 hr.2
  refine go_if_eq hd ht hq (fun z => kt ?_) (fun z => kf ?_) <;> (rw [ex] at z; omega)
theorem go_if_eqT {x off : Int} {t : Nat} (hd : decode cc pc = .ok (.ifCond .eq off, 3)) (ht : (pc : Int) + off = (t : Int)) (h : wr x = 0) (kt : Go l D ck ad sh own cc nL R B V t ls st w K) : Go l D ck ad sh own cc nL R B V pc ls (vI x :: st) w K := go_if_eq hd ht rfl (fun _ => kt) (fun z => absurd (by omega) z)
theorem go_if_eqF {x off : Int} {t : Nat} (hd : decode cc pc = .ok (.ifCond .eq off, 3)) (hq : pc + 3 = q) (ht : (pc : Int) + off = (t : Int)) (h : ¬ (wr x = 0)) (kf : Go l D ck ad sh own cc nL R B V q ls st w K) : Go l D ck ad sh own cc nL R B V pc ls (vI x :: st) w K := go_if_eq hd ht hq (fun z => absurd (by omega) h) (fun _ => kf)
theorem go_icmp_ne2 {x y off : Int} {t : Nat} (hd : decode cc pc = .ok (.if_icmp .ne off, 3)) (ht : (pc : Int) + off = (t : Int)) (hq : pc + 3 = q) (hr : (-2147483648 ≤ x ∧ x < 2147483648) ∧ (-2147483648 ≤ y ∧ y < 2147483648)) (kt : ¬ x = y → Go l D ck ad sh own cc nL R B V t ls st w K) (kf : x = y → Go l D ck ad sh own cc nL R B V q ls st w K) : Go l D ck ad sh own cc nL R B V pc ls (vI y :: vI x :: st) w K := by
  have ex := wr_of hr.1.1 hr.1.2
  have ey := wr_of hr.2.1 hr.2.2
  refine go_icmp_ne hd ht hq (fun z => kt ?_) (fun z => kf ?_) <;> (rw [ex, ey] at z; omega)
theorem go_if_ne2 {x off : Int} {t : Nat} (hd : decode cc pc = .ok (.ifCond .ne off, 3)) (ht : (pc : Int) + off = (t : Int)) (hq : pc + 3 = q) (hr : (-2147483648 ≤ x ∧ x < 2147483648)) (kt : ¬ x = 0 → Go l D ck ad sh own cc nL R B V t ls st w K) (kf : x = 0 → Go l D ck ad sh own cc nL R B V q ls st w K) : Go l D ck ad sh own cc nL R B V pc ls (vI x :: st) w K := by
  have ex := wr_of hr.1 hr.2
  refine go_if_ne hd ht hq (fun z => kt ?_) (fun z => kf ?_) <;> (rw [ex] at z; omega)
theorem go_if_neT {x off : Int} {t : Nat} (hd : decode cc pc = .ok (.ifCond .ne off, 3)) (ht : (pc : Int) + off = (t : Int)) (h : ¬ wr x = 0) (kt : Go l D ck ad sh own cc nL R B V t ls st w K) : Go l D ck ad sh own cc nL R B V pc ls (vI x :: st) w K := go_if_ne hd ht rfl (fun _ => kt) (fun z => absurd (by omega) z)
theorem go_if_neF {x off : Int} {t : Nat} (hd : decode cc pc = .ok (.ifCond .ne off, 3)) (hq : pc + 3 = q) (ht : (pc : Int) + off = (t : Int)) (h : ¬ (¬ wr x = 0)) (kf : Go l D ck ad sh own cc nL R B V q ls st w K) : Go l D ck ad sh own cc nL R B V pc ls (vI x :: st) w K := go_if_ne hd ht hq (fun z => absurd (by omega) h) (fun _ => kf)
theorem go_icmp_lt2 {x y off : Int} {t : Nat} (hd : decode cc pc = .ok (.if_icmp .lt off, 3)) (ht : (pc : Int) + off = (t : Int)) (hq : pc + 3 = q) (hr : (-2147483648 ≤ x ∧ x < 2147483648) ∧ (-2147483648 ≤ y ∧ y < 2147483648)) (kt : x < y → Go l D ck ad sh own cc nL R B V t ls st w K) (kf : y ≤ x → Go l D ck ad sh own cc nL R B V q ls st w K) : Go l D ck ad sh own cc nL R B V pc ls (vI y :: vI x :: st) w K := by
  have ex := wr_of hr.1.1 hr.1.2
  have ey := wr_of hr.2.1 hr.2.2
  refine go_icmp_lt hd ht hq (fun z => kt ?_) (fun z => kf ?_) <;> (rw [ex, ey] at z; omega)
theorem go_if_lt2 {x off : Int} {t : Nat} (hd : decode cc pc = .ok (.ifCond .lt off, 3)) (ht : (pc : Int) + off = (t : Int)) (hq : pc + 3 = q) (hr : (-2147483648 ≤ x ∧ x < 2147483648)) (kt : x < 0 → Go l D ck ad sh own cc nL R B V t ls st w K) (kf : 0 ≤ x → Go l D ck ad sh own cc nL R B V q ls st w K) : Go l D ck ad sh own cc nL R B V pc ls (vI x :: st) w K := by
  have ex := wr_of hr.1 hr.2
  refine go_if_lt hd ht hq (fun z => kt ?_) (fun z => kf ?_) <;> (rw [ex] at z; omega)
theorem go_if_ltT {x off : Int} {t : Nat} (hd : decode cc pc = .ok (.ifCond .lt off, 3)) (ht : (pc : Int) + off = (t : Int)) (h : wr x < 0) (kt : Go l D ck ad sh own cc nL R B V t ls st w K) : Go l D ck ad sh own cc nL R B V pc ls (vI x :: st) w K := go_if_lt hd ht rfl (fun _ => kt) (fun z => absurd (by omega) z)
theorem go_if_ltF {x off : Int} {t : Nat} (hd : decode cc pc = .ok (.ifCond .lt off, 3)) (hq : pc + 3 = q) (ht : (pc : Int) + off = (t : Int)) (h : ¬ (wr x < 0)) (kf : Go l D ck ad sh own cc nL R B V q ls st w K) : Go l D ck ad sh own cc nL R B V pc ls (vI x :: st) w K := go_if_lt hd ht hq (fun z => absurd (by omega) h) (fun _ => kf)
theorem go_icmp_ge2 {x y off : Int} {t : Nat} (hd : decode cc pc = .ok (.if_icmp .ge off, 3)) (ht : (pc : Int) + off = (t : Int)) (hq : pc + 3 = q) (hr : (-2147483648 ≤ x ∧ x < 2147483648) ∧ (-2147483648 ≤ y ∧ y < 2147483648)) (kt : y ≤ x → Go l D ck ad sh own cc nL R B V t ls st w K) (kf : x < y → Go l D ck ad sh own cc nL R B V q ls st w K) : Go l D ck ad sh own cc nL R B V pc ls (vI y :: vI x :: st) w K := by
  have ex := wr_of hr.1.1 hr.1.2
  have ey := wr_of hr.2.1 hr.2.2
  refine go_icmp_ge hd ht hq (fun z => kt ?_) (fun z => kf ?_) <;> (rw [ex, ey] at z; omega)
theorem go_if_ge2 {x off : Int} {t : Nat} (hd : decode cc pc = .ok (.ifCond .ge off, 3)) (ht : (pc : Int) + off = (t : Int)) (hq : pc + 3 = q) (hr : (-2147483648 ≤ x ∧ x < 2147483648)) (kt : 0 ≤ x → Go l D ck ad sh own cc nL R B V t ls st w K) (kf : x < 0 → Go l D ck ad sh own cc nL R B V q ls st w K) : Go l D ck ad sh own cc nL R B V pc ls (vI x :: st) w K := by
  have ex := wr_of hr.1 hr.2
  refine go_if_ge hd ht hq (fun z => kt ?_) (fun z => kf ?_) <;> (rw [ex] at z; omega)
theorem go_if_geT {x off : Int} {t : Nat} (hd : decode cc pc = .ok (.ifCond .ge off, 3)) (ht : (pc : Int) + off = (t : Int)) (h : 0 ≤ wr x) (kt : Go l D ck ad sh own cc nL R B V t ls st w K) : Go l D ck ad sh own cc nL R B V pc ls (vI x :: st) w K := go_if_ge hd ht rfl (fun _ => kt) (fun z => absurd (by omega) z)
theorem go_if_geF {x off : Int} {t : Nat} (hd : decode cc pc = .ok (.ifCond .ge off, 3)) (hq : pc + 3 = q) (ht : (pc : Int) + off = (t : Int)) (h : ¬ (0 ≤ wr x)) (kf : Go l D ck ad sh own cc nL R B V q ls st w K) : Go l D ck ad sh own cc nL R B V pc ls (vI x :: st) w K := go_if_ge hd ht hq (fun z => absurd (by omega) h) (fun _ => kf)
theorem go_icmp_gt2 {x y off : Int} {t : Nat} (hd : decode cc pc = .ok (.if_icmp .gt off, 3)) (ht : (pc : Int) + off = (t : Int)) (hq : pc + 3 = q) (hr : (-2147483648 ≤ x ∧ x < 2147483648) ∧ (-2147483648 ≤ y ∧ y < 2147483648)) (kt : y < x → Go l D ck ad sh own cc nL R B V t ls st w K) (kf : x ≤ y → Go l D ck ad sh own cc nL R B V q ls st w K) : Go l D ck ad sh own cc nL R B V pc ls (vI y :: vI x :: st) w K := by
  have ex := wr_of hr.1.1 hr.1.2
  have ey := wr_of hr.2.1 hr.2.2
  refine go_icmp_gt hd ht hq (fun z => kt ?_) (fun z => kf ?_) <;> (rw [ex, ey] at z; omega)
theorem go_if_gt2 {x off : Int} {t : Nat} (hd : decode cc pc = .ok (.ifCond .gt off, 3)) (ht : (pc : Int) + off = (t : Int)) (hq : pc + 3 = q) (hr : (-2147483648 ≤ x ∧ x < 2147483648)) (kt : 0 < x → Go l D ck ad sh own cc nL R B V t ls st w K) (kf : x ≤ 0 → Go l D ck ad sh own cc nL R B V q ls st w K) : Go l D ck ad sh own cc nL R B V pc ls (vI x :: st) w K := by
  have ex := wr_of hr.1 hr.2
  refine go_if_gt hd ht hq (fun z => kt ?_) (fun z => kf ?_) <;> (rw [ex] at z; omega)
theorem go_if_gtT {x off : Int} {t : Nat} (hd : decode cc pc = .ok (.ifCond .gt off, 3)) (ht : (pc : Int) + off = (t : Int)) (h : 0 < wr x) (kt : Go l D ck ad sh own cc nL R B V t ls st w K) : Go l D ck ad sh own cc nL R B V pc ls (vI x :: st) w K := go_if_gt hd ht rfl (fun _ => kt) (fun z => absurd (by omega) z)
theorem go_if_gtF {x off : Int} {t : Nat} (hd : decode cc pc = .ok (.ifCond .gt off, 3)) (hq : pc + 3 = q) (ht : (pc : Int) + off = (t : Int)) (h : ¬ (0 < wr x)) (kf : Go l D ck ad sh own cc nL R B V q ls st w K) : Go l D ck ad sh own cc nL R B V pc ls (vI x :: st) w K := go_if_gt hd ht hq (fun z => absurd (by omega) h) (fun _ => kf)
theorem go_icmp_le2 {x y off : Int} {t : Nat} (hd : decode cc pc = .ok (.if_icmp .le off, 3)) (ht : (pc : Int) + off = (t : Int)) (hq : pc + 3 = q) (hr : (-2147483648 ≤ x ∧ x < 2147483648) ∧ (-2147483648 ≤ y ∧ y < 2147483648)) (kt : x ≤ y → Go l D ck ad sh own cc nL R B V t ls st w K) (kf : y < x → Go l D ck ad sh own cc nL R B V q ls st w K) : Go l D ck ad sh own cc nL R B V pc ls (vI y :: vI x :: st) w K := by
  have ex := wr_of hr.1.1 hr.1.2
  have ey := wr_of hr.2.1 hr.2.2
  refine go_icmp_le hd ht hq (fun z => kt ?_) (fun z => kf ?_) <;> (rw [ex, ey] at z; omega)
theorem go_if_le2 {x off : Int} {t : Nat} (hd : decode cc pc = .ok (.ifCond .le off, 3)) (ht : (pc : Int) + off = (t : Int)) (hq : pc + 3 = q) (hr : (-2147483648 ≤ x ∧ x < 2147483648)) (kt : x ≤ 0 → Go l D ck ad sh own cc nL R B V t ls st w K) (kf : 0 < x → Go l D ck ad sh own cc nL R B V q ls st w K) : Go l D ck ad sh own cc nL R B V pc ls (vI x :: st) w K := by
  have ex := wr_of hr.1 hr.2
  refine go_if_le hd ht hq (fun z => kt ?_) (fun z => kf ?_) <;> (rw [ex] at z; omega)
theorem go_if_leT {x off : Int} {t : Nat} (hd : decode cc pc = .ok (.ifCond .le off, 3)) (ht : (pc : Int) + off = (t : Int)) (h : wr x ≤ 0) (kt : Go l D ck ad sh own cc nL R B V t ls st w K) : Go l D ck ad sh own cc nL R B V pc ls (vI x :: st) w K := go_if_le hd ht rfl (fun _ => kt) (fun z => absurd (by omega) z)
theorem go_if_leF {x off : Int} {t : Nat} (hd : decode cc pc = .ok (.ifCond .le off, 3)) (hq : pc + 3 = q) (ht : (pc : Int) + off = (t : Int)) (h : ¬ (wr x ≤ 0)) (kf : Go l D ck ad sh own cc nL R B V q ls st w K) : Go l D ck ad sh own cc nL R B V pc ls (vI x :: st) w K := go_if_le hd ht hq (fun z => absurd (by omega) h) (fun _ => kf)
theorem go_irem2 {x y : Int} (hr : (-2147483648 ≤ x ∧ x < 2147483648) ∧ (-2147483648 ≤ y ∧ y < 2147483648)) (hne : ¬ y = 0) (hd : decode cc pc = .ok (.irem, 1)) (hq : pc + 1 = q) (k : Go l D ck ad sh own cc nL R B V q ls (vI (x.tmod y) :: st) w K) : Go l D ck ad sh own cc nL R B V pc ls (vI y :: vI x :: st) w K := by
  have ex := wr_of hr.1.1 hr.1.2
  have ey := wr_of hr.2.1 hr.2.2
  refine go_irem (by rw [ey]; exact hne) hd hq ?_
  rw [ex, ey]; exact k
theorem go_idiv2 {x y : Int} (hr : (-2147483648 ≤ x ∧ x < 2147483648) ∧ (-2147483648 ≤ y ∧ y < 2147483648)) (hne : ¬ y = 0) (hd : decode cc pc = .ok (.idiv, 1)) (hq : pc + 1 = q) (k : Go l D ck ad sh own cc nL R B V q ls (vI (x.tdiv y) :: st) w K) : Go l D ck ad sh own cc nL R B V pc ls (vI y :: vI x :: st) w K := by
  have ex := wr_of hr.1.1 hr.1.2
  have ey := wr_of hr.2.1 hr.2.2
  refine go_idiv (by rw [ey]; exact hne) hd hq ?_
  rw [ex, ey]; exact k
theorem go_i2l2 {x : Int} (hr : (-2147483648 ≤ x ∧ x < 2147483648)) (hd : decode cc pc = .ok (.i2l, 1)) (hq : pc + 1 = q) (k : Go l D ck ad sh own cc nL R B V q ls (vL x :: st) w K) : Go l D ck ad sh own cc nL R B V pc ls (vI x :: st) w K := by
  refine go_i2l hd hq ?_
  rw [wr_of hr.1 hr.2]; exact k
end GO
/-! a method's contract out of the walk of its body -/
def ils : List MV → List (Option MV)
  | [] => []
  | .inr (.inl x) :: r => some (vL x) :: none :: ils r
  | .inl x :: r => some (vI x) :: ils r
  | .inr (.inr k) :: r => some (vR k) :: ils r
theorem ils_at {ad : Nat → Nat} : ∀ (as : List MV) (b i : Nat) (v : MV), (ils as)[i]? = some (some v) → (b + i, mval ad v) ∈ lv_args b (as.map (mval ad))
  | [], _, _, _, h => by simp [ils] at h
  | .inl x :: r, b, i, v, h => by
    cases i with
    | zero => simp only [ils, List.getElem?_cons_zero, Option.some.injEq] at h; subst h; exact List.mem_cons_self
    | succ i =>
      simp only [ils, List.getElem?_cons_succ] at h
      have := ils_at (ad := ad) r (b + 1) i v h
      rw [show b + (i + 1) = b + 1 + i by omega]
      exact List.mem_cons_of_mem _ this
  | .inr (.inr x) :: r, b, i, v, h => by
    cases i with
    | zero => simp only [ils, List.getElem?_cons_zero, Option.some.injEq] at h; subst h; exact List.mem_cons_self
    | succ i =>
      simp only [ils, List.getElem?_cons_succ] at h
      have := ils_at (ad := ad) r (b + 1) i v h
      rw [show b + (i + 1) = b + 1 + i by omega]
      exact List.mem_cons_of_mem _ this
  | .inr (.inl x) :: r, b, i, v, h => by
    cases i with
    | zero => simp only [ils, List.getElem?_cons_zero, Option.some.injEq] at h; subst h; exact List.mem_cons_self
    | succ i =>
      cases i with
      | zero => simp [ils] at h
      | succ i =>
        simp only [ils, List.getElem?_cons_succ] at h
        have := ils_at (ad := ad) r (b + 2) i v h
        rw [show b + (i + 1 + 1) = b + 2 + i by omega]
        exact List.mem_cons_of_mem _ this
def retOk : Option FieldType → Option MV → Prop
  | none, r => r = none
  | some .int, r => ∃ x, r = some (vI x)
  | some .long, r => ∃ x, r = some (vL x)
  | some .boolean, r => r = some (vI 0) ∨ r = some (vI 1)
  | _, _ => False
theorem narB0 : narrow .boolean (.int (Int32.ofInt 0)) = .int (Int32.ofInt 0) := by decide +kernel
theorem narB1 : narrow .boolean (.int (Int32.ofInt 1)) = .int (Int32.ofInt 1) := by decide +kernel
theorem lg_len {ad : Nat → Nat} : ∀ (as : List MV), (lg_sl (as.map (mval ad))).length = (ils as).length
  | [] => rfl
  | .inl x :: r => by
    have h := lg_len (ad := ad) r
    have e : lg_sl (mval ad (.inl x) :: r.map (mval ad)) = Slot.val (mval ad (.inl x)) :: lg_sl (r.map (mval ad)) := by simp [lg_sl, mval, Value.category]
    rw [List.map_cons, e, List.length_cons, h]; rfl
  | .inr (.inr x) :: r => by
    have h := lg_len (ad := ad) r
    have e : lg_sl (mval ad (.inr (.inr x)) :: r.map (mval ad)) = Slot.val (mval ad (.inr (.inr x))) :: lg_sl (r.map (mval ad)) := by simp [lg_sl, mval, Value.category]
    rw [List.map_cons, e, List.length_cons, h]; rfl
  | .inr (.inl x) :: r => by
    have h := lg_len (ad := ad) r
    have e : lg_sl (mval ad (.inr (.inl x)) :: r.map (mval ad)) = Slot.val (mval ad (.inr (.inl x))) :: Slot.second :: lg_sl (r.map (mval ad)) := by simp [lg_sl, mval, Value.category]
    rw [List.map_cons, e, List.length_cons, List.length_cons, h]; rfl
theorem wr_eq {x : Int} {j : Nat} (h : x = (j : Int) ∧ j < 2147483648) : wr x = (j : Int) := by rw [wr_of (by omega) (by omega)]; exact h.1
def Pi (P : Int → Mem → Prop) : Post := fun r w => ∃ x, r = some (vI x) ∧ P x w
def Pl (P : Int → Mem → Prop) : Post := fun r w => ∃ x, r = some (vL x) ∧ P x w
def Pv (P : Mem → Prop) : Post := fun r w => r = none ∧ P w
def Pz (P1 P0 : Mem → Prop) : Post := fun r w => (r = some (vI 1) ∧ P1 w) ∨ (r = some (vI 0) ∧ P0 w)
theorem met_ofWF {l : Launch} {y : MethodName} {ws ws' : List Cond} {rm : Room} {Pc : Array Value → State → Prop} {Qc : Array Value → State → Outcome → State → Prop} {mc ms : Nat} {free : Addr → Prop} {cc : ByteArray} {maxL : Nat} {ret : Option FieldType}
    (hy : plainFor y = true) (hw : ws = Cond.code y cc maxL ret :: ws')
    (h : ∀ p e s m args below meth c s₁, BodyLoose p l y (headSpec ws rm) cc maxL ret e s m args below meth c s₁ → c.maxLocals = maxL → Pc args s →
      W p l e (headSpec ws rm).room s m args below meth c s.heap [] 0 0 (MQ below Qc args s mc ms free) (entryFrame m args maxL)) : Met l y ws rm Pc Qc mc ms free := by
  refine MetFree.of_bodySF (code := cc) (maxLocals := maxL) (ret := ret) hy ?_ ?_
  · intro args s m hp hn
    obtain ⟨meth, c, h1, h2, h3, h4, h5, h6, -, -⟩ := Cond.code_spec hn (atoms_spec (ws := ws) hp _ (by rw [hw]; exact List.mem_cons_self))
    exact ⟨meth, c, h1, h2, h3, h4, h5, h6⟩
  · intro p e s m args below meth c s₁ B hml hP _
    have hh0 : s₁.heap = s.heap := by rw [B.state]; rfl
    obtain ⟨t, a1, o, b1, b2, b3⟩ := h p e s m args below meth c s₁ B hml hP s₁ hh0 (Stand.of_body B)
    exact ⟨t, o, a1, b1, b2, ⟨b3.1, b3.2⟩⟩
section CALLS
variable {l : Launch} {D : va_G} {ck : Nat → ClassId} {ad : Nat → Nat} {sh : List Shp}
theorem Stt.wide {ad : Nat → Nat} {n : Nat} {U : State} {H : Heap} (h : Stt ad (AW ad n) U H) : Stt ad (AN ad n H.size) U H := h.narrowH (fun q h1 h2 => h2.resolve_right (Nat.not_le.mpr h1))
theorem ev_of_goB {B : Nat} {y : MethodName} {own : String} {cc : ByteArray} {nL : Nat} {ret : Option FieldType} {R : Room} {as : List MV} {ls : List (Option MV)} {w : Mem} {K : Post} (hB : B ≤ R.cells ∧ 64 * B ≤ R.slots) (hy : plainFor y = true) (ho : y.cls = own)
    (hls : ls = ils as ++ List.replicate (nL - (ils as).length) none) (hn : (ils as).length ≤ nL) (hret : ∀ r w2, K r w2 → retOk ret r) (h : Go l D ck ad sh own cc nL R B (VW D ck ad sh) 0 ls [] w K) : Ev l D ck ad sh y cc nL ret R as w K := by
  subst ho
  intro sz
  refine met_ofWF (cc := cc) (maxL := nL) (ret := ret) hy rfl ?_
  intro p e s m args below meth c s₁ B0 hml hv
  obtain ⟨rfl, hP, hK, hSt, hi, rfl⟩ := hv
  have hx := B0.exec
  have hb := B0.bytes
  have hr := B0.returns
  have hts := atoms_spec (ws := .code y cc nL ret :: lw_gw) B0.pre
  have hown : s.vm.findClass y.cls = some m.cls := findClass_of_methodNamed B0.named
  have hlocks := B0.notSynchronized
  have hl := lv_entry (as.map (mval ad)) (n := nL) (by rw [lg_len]; exact hn)
  rw [lg_entry_eq]
  refine h p e s m _ below meth c (AN ad sh.length s.heap.size) 0 0 _ s.heap [] _ ⟨hx, hb, hml, hown, fun w hw => hts w (List.mem_cons_of_mem _ hw), hK, fun k hk => Or.inl ⟨k, hk, rfl⟩, ⟨⟨by rw [Nat.zero_add]; exact hB.1, by rw [Nat.zero_add]; exact hB.2⟩, fun q hq => Or.inr hq⟩, hSt.wide, hi⟩ hP va_S.rf ⟨hl.1, hl.2.1, fun i v hv => ?_⟩ ⟨fun _ _ z => z, ?_⟩
  · subst hls
    rw [List.getElem?_append] at hv
    split at hv
    · have := ils_at (ad := ad) as 0 i v hv
      rw [Nat.zero_add] at this
      exact hl.2.2 _ this
    · rw [List.getElem?_replicate] at hv
      split at hv <;> cases hv
  · intro r w2 pc2 ls2 H2 locs2 c2 s2 hk hd hP2 hS2 hcs
    refine W.widen hcs.1 hcs.2 ?_
    have hF : ∀ t : State, t.heap = H2 → va_F (AW ad sh.length) s t := fun t ht => by
      have z := hS2.F ht
      exact ⟨z.1, fun q h1 h2 => z.2 q h1 (fun h3 => h3.elim h2 (fun h4 => absurd h4 (Nat.not_le.mpr h1)))⟩
    have ho := hret r w2 hk
    cases ret with
    | none =>
      subst ho
      exact W.vret hx hb hr (fun t ht hW => ⟨⟨none, w2, rfl, hk, by rw [ht]; exact hP2⟩, hF t ht⟩) hS2.2.2 hd
    | some ty =>
      cases ty <;> first
        | exact absurd ho (fun z => z)
        | (obtain ⟨x, rfl⟩ := ho
           first
            | exact W.iret hx hb hr (fun t ht hW => ⟨⟨some (vI x), w2, rfl, hk, by rw [ht]; exact hP2⟩, hF t ht⟩) hS2.2.2 hd
            | exact W.lret hx hb hr (fun t ht hW => ⟨⟨some (vL x), w2, rfl, hk, by rw [ht]; exact hP2⟩, hF t ht⟩) hS2.2.2 hd)
        | (rcases ho with rfl | rfl
           · exact W.zret hx hb hr narB0 (fun t ht hW => ⟨⟨some (vI 0), w2, rfl, hk, by rw [ht]; exact hP2⟩, hF t ht⟩) hS2.2.2 hd
           · exact W.zret hx hb hr narB1 (fun t ht hW => ⟨⟨some (vI 1), w2, rfl, hk, by rw [ht]; exact hP2⟩, hF t ht⟩) hS2.2.2 hd)
theorem ev_of_go {y : MethodName} {own : String} {cc : ByteArray} {nL : Nat} {ret : Option FieldType} {R : Room} {as : List MV} {ls : List (Option MV)} {w : Mem} {K : Post} (hy : plainFor y = true) (ho : y.cls = own)
    (hls : ls = ils as ++ List.replicate (nL - (ils as).length) none) (hn : (ils as).length ≤ nL) (hret : ∀ r w2, K r w2 → retOk ret r) (h : Go l D ck ad sh own cc nL R 0 (VW D ck ad sh) 0 ls [] w K) : Ev l D ck ad sh y cc nL ret R as w K := ev_of_goB ⟨Nat.zero_le _, Nat.zero_le _⟩ hy ho hls hn hret h
theorem evP_blind {w : Mem} {as : List MV} {sz : Nat} : FrameBlind (va_Pc (as.map (mval ad)) (evP D ck ad sh w sz)) := by
  intro a U g mk h
  obtain ⟨ha, hP, hK, hSt, hi, hz⟩ := h
  exact ⟨ha, hP, va_K.moved (u := U) (U := U.calling g mk a) (Vm.Alike.refl U.vm) hK, Stt.moved (u := U) (U := U.calling g mk a) (Vm.Alike.refl U.vm) hSt, hi, hz⟩
/-- the words of a call -/
def LkV (own : String) (idx : Nat) (y : MethodName) (bytes : ByteArray) (maxL : Nat) (ret : Option FieldType) (C0 : String) : Prop :=
  (Cond.methodLink own idx y ∈ lw_gw ∧ Cond.instanceMethod y ∈ lw_gw ∧ Cond.selects C0 y y ∈ lw_gw ∧ Cond.initialized C0 ∈ lw_gw ∧ Cond.code y bytes maxL ret ∈ lw_gw) ∧ y.cls = C0 ∧ y.cls ≠ "java/lang/invoke/MethodHandle" ∧ y.cls ≠ "java/lang/invoke/VarHandle"
def LkS (own : String) (idx : Nat) (y : MethodName) (bytes : ByteArray) (maxL : Nat) (ret : Option FieldType) : Prop :=
  (Cond.methodLink own idx y ∈ lw_gw ∧ Cond.static y ∈ lw_gw ∧ Cond.initialized y.cls ∈ lw_gw ∧ Cond.code y bytes maxL ret ∈ lw_gw) ∧ y.cls ≠ "java/lang/invoke/MethodHandle" ∧ y.cls ≠ "java/lang/invoke/VarHandle"
theorem good_gw {ws : List Cond} (h : ∀ w ∈ ws, w ∈ lw_gw) : GoodIn lw_gw ws := fun w hw => ⟨h w hw, good_of_word (gwg (h w hw))⟩
theorem LkV.good {own C0 : String} {idx maxL : Nat} {y : MethodName} {bytes : ByteArray} {ret : Option FieldType} (k : LkV own idx y bytes maxL ret C0) : GoodIn lw_gw (wsV own idx C0 y (.code y bytes maxL ret :: lw_gw)) := by
  obtain ⟨⟨h1, h2, h3, h4, h5⟩, -⟩ := k
  refine good_gw fun w hw => ?_
  rcases List.mem_append.mp hw with hw | hw
  · simp only [List.mem_cons, List.not_mem_nil, or_false] at hw
    rcases hw with rfl | rfl | rfl | rfl <;> assumption
  · rcases List.mem_cons.mp hw with rfl | hw
    · exact h5
    · exact hw
theorem LkS.good {own : String} {idx maxL : Nat} {y : MethodName} {bytes : ByteArray} {ret : Option FieldType} (k : LkS own idx y bytes maxL ret) : GoodIn lw_gw (va_wsS own idx y (.code y bytes maxL ret :: lw_gw)) := by
  obtain ⟨⟨h1, h2, h3, h4⟩, -⟩ := k
  refine good_gw fun w hw => ?_
  rcases List.mem_append.mp hw with hw | hw
  · simp only [List.mem_cons, List.not_mem_nil, or_false] at hw
    rcases hw with rfl | rfl | rfl <;> assumption
  · rcases List.mem_cons.mp hw with rfl | hw
    · exact h4
    · exact hw
variable {own : String} {cc : ByteArray} {nL : Nat} {R : Room} {B B2 : Nat} {V : XW} {pc q : Nat} {ls : List (Option MV)} {st : List MV} {w : Mem} {K : Post}
theorem go_run {p : Program} {e : Env} {s : State} {m : MethodId} {args : Array Value} {below : List Frame} {meth : Method} {c : Code} {A : Nat → Prop} {cells slots mc ms : Nat} {Q : State → Prop} {H : Heap} {locs : List Loc} {lsR : Array Slot} {a : Array Value} {st0 : List Value} {rest : List MV} {K1 : Post}
    (hr : va_Run p l e R s m args below meth c H locs cells slots mc ms (F0 m pc lsR st0) (rest.map (mval ad)) (evQ D ck ad sh K1 a) (AN ad sh.length H.size)) (C : Cx D ck ad sh own cc nL R B p s m args c A cells slots) (hB : B2 + mc ≤ B ∧ ms ≤ 64 * mc) (hS : va_S A s.heap H locs) (hl : LR ad nL lsR ls) (hex : Exi l D ck ad sh cc R V K p e s m args below meth c A Q)
    (k : ∀ r w1, K1 r w1 → Go l D ck ad sh own cc nL R B2 V (pc + 3) ls (r.toList ++ rest) w1 K) : W p l e R s m args below meth c H locs cells slots Q (F0 m pc lsR st0) := by
  have hA : ∀ z, AN ad sh.length H.size z → A z := fun z hz => hz.elim (fun ⟨i, h1, h2⟩ => by rw [h2]; exact C.2.2.2.2.2.2.1 i h1) (fun h => C.2.2.2.2.2.2.2.1.2 z (Nat.le_trans hS.1 h))
  intro T hT X
  obtain ⟨v, st₀, t, T', L, h0, X', hL, e1, e2, ⟨⟨r, w1, hv, hk, hP1⟩, hz, hk2⟩, sx⟩ := hr T hT X
  cases hv
  rw [h0] at hz hk2
  have hS1 : va_S A s.heap T'.heap (locs ++ L) := ⟨Nat.le_trans hS.1 (by rw [e1]; exact hz), fun q h1 h2 => by rw [e1, hk2 q (Nat.lt_of_lt_of_le h1 hS.1) (fun z => h2 (hA q (Or.inl z)))]; exact hS.2.1 q h1 h2, fun q hq => by
    rcases List.mem_append.mp hq with h | h
    · exact hS.2.2 q h
    · exact hA _ (hL q h)⟩
  have C2 : Cx D ck ad sh own cc nL R B2 p s m args c A (cells + mc) (slots + ms) := ⟨C.1, C.2.1, C.2.2.1, C.2.2.2.1, C.2.2.2.2.1, C.2.2.2.2.2.1, C.2.2.2.2.2.2.1, ⟨⟨by have := C.2.2.2.2.2.2.2.1.1.1; omega, by have := C.2.2.2.2.2.2.2.1.1.2; omega⟩, C.2.2.2.2.2.2.2.1.2⟩, C.2.2.2.2.2.2.2.2.1, C.2.2.2.2.2.2.2.2.2⟩
  obtain ⟨t2, a1, b1⟩ := k r w1 hk p e s m args below meth c A (cells + mc) (slots + ms) Q T'.heap (locs ++ L) lsR C2 (by rw [e1]; exact hP1) hS1 hl hex T' rfl X'
  refine ⟨t2, sx t2 ?_, b1⟩
  have : (r.map (mval ad)).toList ++ rest.map (mval ad) = (r.toList ++ rest).map (mval ad) := by
    cases r <;> simp
  rw [this]
  exact a1
theorem ev_pre {p : Program} {s : State} {m : MethodId} {args : Array Value} {c : Code} {A : Nat → Prop} {cells slots : Nat} {H : Heap} {locs : List Loc} (C : Cx D ck ad sh own cc nL R B p s m args c A cells slots) (hP : va_P D vwCl (wld ck ad sh w) H) (hS : va_S A s.heap H locs) (as : List MV) :
    ∀ U : State, U.heap = H → s.WarmedH U.vm → va_Pc (as.map (mval ad)) (evP D ck ad sh w H.size) (as.map (mval ad)).toArray U := fun U hU hW =>
  ⟨rfl, by rw [hU]; exact hP, va_K.moved hW.alike C.2.2.2.2.2.1, by
    rw [hU]
    exact ((C.2.2.2.2.2.2.2.2.1.kept hS.2.1).moved hW.alike).narrow (fun z ⟨i, h1, h2⟩ => by rw [h2]; exact C.2.2.2.2.2.2.1 i h1), C.2.2.2.2.2.2.2.2.2, by rw [hU]⟩
theorem fit_of {p : Program} {s : State} {m : MethodId} {args : Array Value} {c : Code} {A : Nat → Prop} {cells slots mc ms : Nat} (C : Cx D ck ad sh own cc nL R B p s m args c A cells slots) (hB : B2 + mc ≤ B ∧ ms ≤ 64 * mc) : cells + mc ≤ R.cells ∧ slots + ms ≤ R.slots :=
  ⟨by have := C.2.2.2.2.2.2.2.1.1.1; omega, by have := C.2.2.2.2.2.2.2.1.1.2; omega⟩
theorem go_acallV {y : MethodName} {bytes : ByteArray} {maxL idx b ci N n : Nat} {C0 : String} {T : u_T} {ret : Option FieldType} {Ry : Room} {rs : List (Option Nat)} {as As rest : List MV} {K1 : Post}
    (hd : decode cc pc = .ok (.invokevirtual idx, 3)) (lk : LkV own idx y bytes maxL ret C0) (hcl : vwCl[ci]? = some (C0, T, N)) (hs : sh[b]? = some (.inl (ci, rs))) (has : as = vR b :: As) (hst : st = as.reverse ++ rest)
    (hn : (parseMethodDescriptor y.desc).map (fun d => d.parameters.length) = some n) (hAs : As.length = n) (hR : Ry.frames + 1 ≤ R.frames ∧ 8 + (maxL + 11) + Ry.locals ≤ R.locals) (hR0 : B2 + Ry.cells ≤ B ∧ Ry.slots ≤ 64 * Ry.cells) (hcat : ((rest.map (mval ad)).map fun v => v.category).sum ≤ 8)
    (hev : Ev l D ck ad sh y bytes maxL ret Ry as w K1) (hq : pc + 3 = q) (k : ∀ r w1, K1 r w1 → Go l D ck ad sh own cc nL R B2 V q ls (r.toList ++ rest) w1 K) : Go l D ck ad sh own cc nL R B V pc ls st w K := by
  subst hq has hst
  intro p e s m args below meth c A cells slots Q H locs lsR C hP hS hl hex
  refine go_run (a := (Value.ref (ad b) :: As.map (mval ad)).toArray) (rest := rest) (K1 := K1) ?_ C hR0 hS hl hex k
  refine va_runV (As := As.map (mval ad)) (b := ad b) (C := C0) ⟨C.1, C.2.1, C.2.2.1, C.2.2.2.1, C.2.2.2.2.1⟩ (hev H.size) (cwV n C.2.2.2.2.1 lk.good rfl rfl rfl ⟨lk.2.1, lk.2.2.1, lk.2.2.2, hn⟩ hR) ⟨evP_blind, va_recv C.2.2.2.2.2.1 hP hcl (wld_at hs), ev_pre C hP hS (vR b :: As)⟩ rfl (by simpa using hAs) hl.1 ?_ (lv_room hcat) hd (fit_of C hR0)
  simp [mval]
theorem go_acallS {y : MethodName} {bytes : ByteArray} {maxL idx n : Nat} {ret : Option FieldType} {Ry : Room} {as rest : List MV} {K1 : Post}
    (hd : decode cc pc = .ok (.invokestatic idx, 3)) (lk : LkS own idx y bytes maxL ret) (hst : st = as.reverse ++ rest)
    (hn : (parseMethodDescriptor y.desc).map (fun d => d.parameters.length) = some n) (hAs : as.length = n) (hR : Ry.frames + 1 ≤ R.frames ∧ 8 + (maxL + 11) + Ry.locals ≤ R.locals) (hR0 : B2 + Ry.cells ≤ B ∧ Ry.slots ≤ 64 * Ry.cells) (hcat : ((rest.map (mval ad)).map fun v => v.category).sum ≤ 8)
    (hev : Ev l D ck ad sh y bytes maxL ret Ry as w K1) (hq : pc + 3 = q) (k : ∀ r w1, K1 r w1 → Go l D ck ad sh own cc nL R B2 V q ls (r.toList ++ rest) w1 K) : Go l D ck ad sh own cc nL R B V pc ls st w K := by
  subst hq hst
  intro p e s m args below meth c A cells slots Q H locs lsR C hP hS hl hex
  refine go_run (a := (as.map (mval ad)).toArray) (rest := rest) (K1 := K1) ?_ C hR0 hS hl hex k
  refine va_runS (As := as.map (mval ad)) ⟨C.1, C.2.1, C.2.2.1, C.2.2.2.1, C.2.2.2.2.1⟩ (hev H.size) (va_cwS n C.2.2.2.2.1 lk.good rfl rfl rfl ⟨lk.2.1, lk.2.2, hn⟩ hR) ⟨evP_blind, ev_pre C hP hS as⟩ rfl (by simpa using hAs) hl.1 ?_ (lv_room hcat) hd (fit_of C hR0)
  simp [mval]
theorem go_callV {y : MethodName} {bytes : ByteArray} {maxL idx b ci N n : Nat} {C0 : String} {T : u_T} {ret : Option FieldType} {Ry : Room} {rs : List (Option Nat)} {as As rest : List MV} {K1 : Post}
    (hd : decode cc pc = .ok (.invokevirtual idx, 3)) (lk : LkV own idx y bytes maxL ret C0) (hcl : vwCl[ci]? = some (C0, T, N)) (hs : sh[b]? = some (.inl (ci, rs))) (has : as = vR b :: As) (hst : st = as.reverse ++ rest)
    (hn : (parseMethodDescriptor y.desc).map (fun d => d.parameters.length) = some n) (hAs : As.length = n) (hR : Ry.frames + 1 ≤ R.frames ∧ 8 + (maxL + 11) + Ry.locals ≤ R.locals) (hR0 : Ry.cells = 0 ∧ Ry.slots = 0) (hcat : ((rest.map (mval ad)).map fun v => v.category).sum ≤ 8)
    (hev : Ev l D ck ad sh y bytes maxL ret Ry as w K1) (hq : pc + 3 = q) (k : ∀ r w1, K1 r w1 → Go l D ck ad sh own cc nL R B V q ls (r.toList ++ rest) w1 K) : Go l D ck ad sh own cc nL R B V pc ls st w K :=
  go_acallV hd lk hcl hs has hst hn hAs hR ⟨by omega, by omega⟩ hcat hev hq k
theorem go_callS {y : MethodName} {bytes : ByteArray} {maxL idx n : Nat} {ret : Option FieldType} {Ry : Room} {as rest : List MV} {K1 : Post}
    (hd : decode cc pc = .ok (.invokestatic idx, 3)) (lk : LkS own idx y bytes maxL ret) (hst : st = as.reverse ++ rest)
    (hn : (parseMethodDescriptor y.desc).map (fun d => d.parameters.length) = some n) (hAs : as.length = n) (hR : Ry.frames + 1 ≤ R.frames ∧ 8 + (maxL + 11) + Ry.locals ≤ R.locals) (hR0 : Ry.cells = 0 ∧ Ry.slots = 0) (hcat : ((rest.map (mval ad)).map fun v => v.category).sum ≤ 8)
    (hev : Ev l D ck ad sh y bytes maxL ret Ry as w K1) (hq : pc + 3 = q) (k : ∀ r w1, K1 r w1 → Go l D ck ad sh own cc nL R B V q ls (r.toList ++ rest) w1 K) : Go l D ck ad sh own cc nL R B V pc ls st w K :=
  go_acallS hd lk hst hn hAs hR ⟨by omega, by omega⟩ hcat hev hq k
theorem go_acallSi {y : MethodName} {bytes : ByteArray} {maxL idx n : Nat} {ret : Option FieldType} {Ry : Room} {as rest : List MV} {P : Int → Mem → Prop}
    (hd : decode cc pc = .ok (.invokestatic idx, 3)) (lk : LkS own idx y bytes maxL ret) (hst : st = as.reverse ++ rest)
    (hn : (parseMethodDescriptor y.desc).map (fun d => d.parameters.length) = some n) (hAs : as.length = n) (hR : Ry.frames + 1 ≤ R.frames ∧ 8 + (maxL + 11) + Ry.locals ≤ R.locals) (hR0 : B2 + Ry.cells ≤ B ∧ Ry.slots ≤ 64 * Ry.cells) (hcat : ((rest.map (mval ad)).map fun v => v.category).sum ≤ 8)
    (hev : Ev l D ck ad sh y bytes maxL ret Ry as w (Pi P)) (hq : pc + 3 = q) (k : ∀ x w1, P x w1 → Go l D ck ad sh own cc nL R B2 V q ls (vI x :: rest) w1 K) : Go l D ck ad sh own cc nL R B V pc ls st w K := by
  refine go_acallS hd lk hst hn hAs hR hR0 hcat hev hq ?_
  intro r w1 ⟨x, e, h⟩; subst e; exact k x w1 h
theorem go_acallSz {y : MethodName} {bytes : ByteArray} {maxL idx n : Nat} {ret : Option FieldType} {Ry : Room} {as rest : List MV} {P1 P0 : Mem → Prop}
    (hd : decode cc pc = .ok (.invokestatic idx, 3)) (lk : LkS own idx y bytes maxL ret) (hst : st = as.reverse ++ rest)
    (hn : (parseMethodDescriptor y.desc).map (fun d => d.parameters.length) = some n) (hAs : as.length = n) (hR : Ry.frames + 1 ≤ R.frames ∧ 8 + (maxL + 11) + Ry.locals ≤ R.locals) (hR0 : B2 + Ry.cells ≤ B ∧ Ry.slots ≤ 64 * Ry.cells) (hcat : ((rest.map (mval ad)).map fun v => v.category).sum ≤ 8)
    (hev : Ev l D ck ad sh y bytes maxL ret Ry as w (Pz P1 P0)) (hq : pc + 3 = q) (k1 : ∀ w1, P1 w1 → Go l D ck ad sh own cc nL R B2 V q ls (vI 1 :: rest) w1 K) (k0 : ∀ w1, P0 w1 → Go l D ck ad sh own cc nL R B2 V q ls (vI 0 :: rest) w1 K) : Go l D ck ad sh own cc nL R B V pc ls st w K := by
  refine go_acallS hd lk hst hn hAs hR hR0 hcat hev hq ?_
  intro r w1 h; rcases h with ⟨e, h⟩ | ⟨e, h⟩ <;> subst e
  · exact k1 w1 h
  · exact k0 w1 h
theorem go_callVi {y : MethodName} {bytes : ByteArray} {maxL idx b ci N n : Nat} {C0 : String} {T : u_T} {ret : Option FieldType} {Ry : Room} {rs : List (Option Nat)} {as As rest : List MV} {P : Int → Mem → Prop}
    (hd : decode cc pc = .ok (.invokevirtual idx, 3)) (lk : LkV own idx y bytes maxL ret C0) (hcl : vwCl[ci]? = some (C0, T, N)) (hs : sh[b]? = some (.inl (ci, rs))) (has : as = vR b :: As) (hst : st = as.reverse ++ rest)
    (hn : (parseMethodDescriptor y.desc).map (fun d => d.parameters.length) = some n) (hAs : As.length = n) (hR : Ry.frames + 1 ≤ R.frames ∧ 8 + (maxL + 11) + Ry.locals ≤ R.locals) (hR0 : Ry.cells = 0 ∧ Ry.slots = 0) (hcat : ((rest.map (mval ad)).map fun v => v.category).sum ≤ 8)
    (hev : Ev l D ck ad sh y bytes maxL ret Ry as w (Pi P)) (hq : pc + 3 = q) (k : ∀ x w1, P x w1 → Go l D ck ad sh own cc nL R B V q ls (vI x :: rest) w1 K) : Go l D ck ad sh own cc nL R B V pc ls st w K := by
  refine go_callV hd lk hcl hs has hst hn hAs hR hR0 hcat hev hq ?_
  intro r w1 ⟨x, e, h⟩; subst e; exact k x w1 h
theorem go_callSi {y : MethodName} {bytes : ByteArray} {maxL idx n : Nat} {ret : Option FieldType} {Ry : Room} {as rest : List MV} {P : Int → Mem → Prop}
    (hd : decode cc pc = .ok (.invokestatic idx, 3)) (lk : LkS own idx y bytes maxL ret) (hst : st = as.reverse ++ rest)
    (hn : (parseMethodDescriptor y.desc).map (fun d => d.parameters.length) = some n) (hAs : as.length = n) (hR : Ry.frames + 1 ≤ R.frames ∧ 8 + (maxL + 11) + Ry.locals ≤ R.locals) (hR0 : Ry.cells = 0 ∧ Ry.slots = 0) (hcat : ((rest.map (mval ad)).map fun v => v.category).sum ≤ 8)
    (hev : Ev l D ck ad sh y bytes maxL ret Ry as w (Pi P)) (hq : pc + 3 = q) (k : ∀ x w1, P x w1 → Go l D ck ad sh own cc nL R B V q ls (vI x :: rest) w1 K) : Go l D ck ad sh own cc nL R B V pc ls st w K := by
  refine go_callS hd lk hst hn hAs hR hR0 hcat hev hq ?_
  intro r w1 ⟨x, e, h⟩; subst e; exact k x w1 h
theorem go_callVl {y : MethodName} {bytes : ByteArray} {maxL idx b ci N n : Nat} {C0 : String} {T : u_T} {ret : Option FieldType} {Ry : Room} {rs : List (Option Nat)} {as As rest : List MV} {P : Int → Mem → Prop}
    (hd : decode cc pc = .ok (.invokevirtual idx, 3)) (lk : LkV own idx y bytes maxL ret C0) (hcl : vwCl[ci]? = some (C0, T, N)) (hs : sh[b]? = some (.inl (ci, rs))) (has : as = vR b :: As) (hst : st = as.reverse ++ rest)
    (hn : (parseMethodDescriptor y.desc).map (fun d => d.parameters.length) = some n) (hAs : As.length = n) (hR : Ry.frames + 1 ≤ R.frames ∧ 8 + (maxL + 11) + Ry.locals ≤ R.locals) (hR0 : Ry.cells = 0 ∧ Ry.slots = 0) (hcat : ((rest.map (mval ad)).map fun v => v.category).sum ≤ 8)
    (hev : Ev l D ck ad sh y bytes maxL ret Ry as w (Pl P)) (hq : pc + 3 = q) (k : ∀ x w1, P x w1 → Go l D ck ad sh own cc nL R B V q ls (vL x :: rest) w1 K) : Go l D ck ad sh own cc nL R B V pc ls st w K := by
  refine go_callV hd lk hcl hs has hst hn hAs hR hR0 hcat hev hq ?_
  intro r w1 ⟨x, e, h⟩; subst e; exact k x w1 h
theorem go_callSl {y : MethodName} {bytes : ByteArray} {maxL idx n : Nat} {ret : Option FieldType} {Ry : Room} {as rest : List MV} {P : Int → Mem → Prop}
    (hd : decode cc pc = .ok (.invokestatic idx, 3)) (lk : LkS own idx y bytes maxL ret) (hst : st = as.reverse ++ rest)
    (hn : (parseMethodDescriptor y.desc).map (fun d => d.parameters.length) = some n) (hAs : as.length = n) (hR : Ry.frames + 1 ≤ R.frames ∧ 8 + (maxL + 11) + Ry.locals ≤ R.locals) (hR0 : Ry.cells = 0 ∧ Ry.slots = 0) (hcat : ((rest.map (mval ad)).map fun v => v.category).sum ≤ 8)
    (hev : Ev l D ck ad sh y bytes maxL ret Ry as w (Pl P)) (hq : pc + 3 = q) (k : ∀ x w1, P x w1 → Go l D ck ad sh own cc nL R B V q ls (vL x :: rest) w1 K) : Go l D ck ad sh own cc nL R B V pc ls st w K := by
  refine go_callS hd lk hst hn hAs hR hR0 hcat hev hq ?_
  intro r w1 ⟨x, e, h⟩; subst e; exact k x w1 h
theorem go_callVv {y : MethodName} {bytes : ByteArray} {maxL idx b ci N n : Nat} {C0 : String} {T : u_T} {ret : Option FieldType} {Ry : Room} {rs : List (Option Nat)} {as As rest : List MV} {P : Mem → Prop}
    (hd : decode cc pc = .ok (.invokevirtual idx, 3)) (lk : LkV own idx y bytes maxL ret C0) (hcl : vwCl[ci]? = some (C0, T, N)) (hs : sh[b]? = some (.inl (ci, rs))) (has : as = vR b :: As) (hst : st = as.reverse ++ rest)
    (hn : (parseMethodDescriptor y.desc).map (fun d => d.parameters.length) = some n) (hAs : As.length = n) (hR : Ry.frames + 1 ≤ R.frames ∧ 8 + (maxL + 11) + Ry.locals ≤ R.locals) (hR0 : Ry.cells = 0 ∧ Ry.slots = 0) (hcat : ((rest.map (mval ad)).map fun v => v.category).sum ≤ 8)
    (hev : Ev l D ck ad sh y bytes maxL ret Ry as w (Pv P)) (hq : pc + 3 = q) (k : ∀ w1, P w1 → Go l D ck ad sh own cc nL R B V q ls (rest) w1 K) : Go l D ck ad sh own cc nL R B V pc ls st w K := by
  refine go_callV hd lk hcl hs has hst hn hAs hR hR0 hcat hev hq ?_
  intro r w1 ⟨e, h⟩; subst e; exact k w1 h
theorem go_callSv {y : MethodName} {bytes : ByteArray} {maxL idx n : Nat} {ret : Option FieldType} {Ry : Room} {as rest : List MV} {P : Mem → Prop}
    (hd : decode cc pc = .ok (.invokestatic idx, 3)) (lk : LkS own idx y bytes maxL ret) (hst : st = as.reverse ++ rest)
    (hn : (parseMethodDescriptor y.desc).map (fun d => d.parameters.length) = some n) (hAs : as.length = n) (hR : Ry.frames + 1 ≤ R.frames ∧ 8 + (maxL + 11) + Ry.locals ≤ R.locals) (hR0 : Ry.cells = 0 ∧ Ry.slots = 0) (hcat : ((rest.map (mval ad)).map fun v => v.category).sum ≤ 8)
    (hev : Ev l D ck ad sh y bytes maxL ret Ry as w (Pv P)) (hq : pc + 3 = q) (k : ∀ w1, P w1 → Go l D ck ad sh own cc nL R B V q ls (rest) w1 K) : Go l D ck ad sh own cc nL R B V pc ls st w K := by
  refine go_callS hd lk hst hn hAs hR hR0 hcat hev hq ?_
  intro r w1 ⟨e, h⟩; subst e; exact k w1 h
theorem go_callVz {y : MethodName} {bytes : ByteArray} {maxL idx b ci N n : Nat} {C0 : String} {T : u_T} {ret : Option FieldType} {Ry : Room} {rs : List (Option Nat)} {as As rest : List MV} {P1 P0 : Mem → Prop}
    (hd : decode cc pc = .ok (.invokevirtual idx, 3)) (lk : LkV own idx y bytes maxL ret C0) (hcl : vwCl[ci]? = some (C0, T, N)) (hs : sh[b]? = some (.inl (ci, rs))) (has : as = vR b :: As) (hst : st = as.reverse ++ rest)
    (hn : (parseMethodDescriptor y.desc).map (fun d => d.parameters.length) = some n) (hAs : As.length = n) (hR : Ry.frames + 1 ≤ R.frames ∧ 8 + (maxL + 11) + Ry.locals ≤ R.locals) (hR0 : Ry.cells = 0 ∧ Ry.slots = 0) (hcat : ((rest.map (mval ad)).map fun v => v.category).sum ≤ 8)
    (hev : Ev l D ck ad sh y bytes maxL ret Ry as w (Pz P1 P0)) (hq : pc + 3 = q) (k1 : ∀ w1, P1 w1 → Go l D ck ad sh own cc nL R B V q ls (vI 1 :: rest) w1 K) (k0 : ∀ w1, P0 w1 → Go l D ck ad sh own cc nL R B V q ls (vI 0 :: rest) w1 K) : Go l D ck ad sh own cc nL R B V pc ls st w K := by
  refine go_callV hd lk hcl hs has hst hn hAs hR hR0 hcat hev hq ?_
  intro r w1 h; rcases h with ⟨e, h⟩ | ⟨e, h⟩ <;> subst e
  · exact k1 w1 h
  · exact k0 w1 h
theorem go_callSz {y : MethodName} {bytes : ByteArray} {maxL idx n : Nat} {ret : Option FieldType} {Ry : Room} {as rest : List MV} {P1 P0 : Mem → Prop}
    (hd : decode cc pc = .ok (.invokestatic idx, 3)) (lk : LkS own idx y bytes maxL ret) (hst : st = as.reverse ++ rest)
    (hn : (parseMethodDescriptor y.desc).map (fun d => d.parameters.length) = some n) (hAs : as.length = n) (hR : Ry.frames + 1 ≤ R.frames ∧ 8 + (maxL + 11) + Ry.locals ≤ R.locals) (hR0 : Ry.cells = 0 ∧ Ry.slots = 0) (hcat : ((rest.map (mval ad)).map fun v => v.category).sum ≤ 8)
    (hev : Ev l D ck ad sh y bytes maxL ret Ry as w (Pz P1 P0)) (hq : pc + 3 = q) (k1 : ∀ w1, P1 w1 → Go l D ck ad sh own cc nL R B V q ls (vI 1 :: rest) w1 K) (k0 : ∀ w1, P0 w1 → Go l D ck ad sh own cc nL R B V q ls (vI 0 :: rest) w1 K) : Go l D ck ad sh own cc nL R B V pc ls st w K := by
  refine go_callS hd lk hst hn hAs hR hR0 hcat hev hq ?_
  intro r w1 h; rcases h with ⟨e, h⟩ | ⟨e, h⟩ <;> subst e
  · exact k1 w1 h
  · exact k0 w1 h
end CALLS
section COPY
variable {l : Launch} {D : va_G} {ck : Nat → ClassId} {ad : Nat → Nat} {sh : List Shp} {own : String} {cc : ByteArray} {nL : Nat} {R : Room} {B : Nat} {V : XW} {pc q : Nat} {ls : List (Option MV)} {st : List MV} {w : Mem} {K : Post}
def mcpy (w : Mem) (b0 sp b1 dp n : Nat) : Mem := fun c k => if c = b1 ∧ dp ≤ k ∧ k < dp + n then w b0 (sp + (k - dp)) else w c k
theorem wld_cpy {b0 b1 sp dp n tc n1 : Nat} (h : sh[b1]? = some (.inr (.inl (tc, n1)))) : (wld ck ad sh w).set b1 (ad b1, .inl (ck tc, n1, .inl (va_cpy (fun k => Int32.ofInt (w b0 k)) (fun k => Int32.ofInt (w b1 k)) sp dp n))) = wld ck ad sh (mcpy w b0 sp b1 dp n) := by
  apply List.ext_getElem?
  intro i
  have hl := (List.getElem?_eq_some_iff.mp h).1
  by_cases hi : b1 = i
  · subst hi
    rw [wld_at h, List.getElem?_set_self (by simpa [wld] using hl)]
    have e : (va_cpy (fun k => Int32.ofInt (w b0 k)) (fun k => Int32.ofInt (w b1 k)) sp dp n) = fun k => Int32.ofInt (mcpy w b0 sp b1 dp n b1 k) := by
      funext k
      unfold va_cpy mcpy
      by_cases hk : dp ≤ k ∧ k < dp + n <;> simp [hk]
    rw [e]; rfl
  · rw [List.getElem?_set_ne hi]
    simp only [wld, List.getElem?_mapIdx]
    have e : mcpy w b0 sp b1 dp n i = w i := by
      funext k'
      have : ¬ i = b1 := fun e => hi e.symm
      simp [mcpy, this]
    rw [e]
theorem go_acopy {idx b0 b1 n0 n1 sp dp n : Nat} {xs xd xn : Int} {rest : List MV} (hlk : (Cond.methodLink own idx arraycopyName ∈ lw_gw ∧ Cond.native arraycopyName ∈ lw_gw) ∧ Cond.static arraycopyName ∈ lw_gw ∧ Cond.initialized "java/lang/System" ∈ lw_gw)
    (h0 : sh[b0]? = some (.inr (.inl (0, n0)))) (h1 : sh[b1]? = some (.inr (.inl (0, n1)))) (hxs : wr xs = (sp : Int)) (hxd : wr xd = (dp : Int)) (hxn : wr xn = (n : Int)) (hs : sp + n ≤ n0) (hdn : dp + n ≤ n1) (hfr : 1 ≤ R.frames) (hlo : ((rest.map (mval ad)).map fun v => v.category).sum + (nativeFrameWords "java/lang/System" "arraycopy" 5 + 11) ≤ R.locals)
    (hd : decode cc pc = .ok (.invokestatic idx, 3)) (hq : pc + 3 = q) (k : Go l D ck ad sh own cc nL R B V q ls rest (mcpy w b0 sp b1 dp n) K) : Go l D ck ad sh own cc nL R B V pc ls (vI xn :: vI xd :: vR b1 :: vI xs :: vR b0 :: rest) w K := by
  subst hq
  intro p e s m args below meth c A cells slots Q H locs lsR C hP hS hl hex
  have nn : ∀ {x : Int} {j : Nat}, wr x = (j : Int) → ¬ Int32.ofInt x < 0 := fun {x j} h => by rw [oi_lt0, h]; omega
  refine va_copyi (ty := .int) C.1 C.2.1 (C.2.2.1.trans hl.1.symm) C.2.2.2.1 (C.2.2.2.2.1 _ hlk.1.1) (C.2.2.2.2.1 _ hlk.1.2) (C.2.2.2.2.1 _ hlk.2.1) (C.2.2.2.2.1 _ hlk.2.2) C.2.2.2.2.2.1 hP (wld_D C.2.2.2.2.2.2.2.2.2 C.2.2.2.2.2.2.1) hS b0 b1 0 0 (wld_at h0) (wld_at h1) rfl rfl rfl (nn hxs) (nn hxd) (nn hxn) (by rw [oi_nat hxs, oi_nat hxn]; exact hs) (by rw [oi_nat hxd, oi_nat hxn]; exact hdn) (fun _ _ => rfl) hfr hlo hd (fun H1 locs1 hP1 hD1 hS1 => ?_)
  rw [oi_nat hxs, oi_nat hxd, oi_nat hxn, wld_cpy h1] at hP1
  exact k p e s m args below meth c A cells slots Q H1 locs1 _ C hP1 hS1 hl hex
end COPY
