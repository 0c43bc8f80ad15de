/-! THE CLAIM OUT OF ONE WALK OF THE LAW'S BODY. Your part is whole_start (and what it stands on); all else here is the same for every law, but numbers. -/
def R_law : String := "KnotColoursLaw"
def lw_P (b : Addr) (xs : List Int32) (args : Array Value) (s : State) : Prop := args = #[.ref b] ∧ s.IntsAt b xs ∧ xs.length ≤ 2560 ∧ (Jvm.Cond.and given_1 narrow_1).before args s = true
def lw_Q (_ : Array Value) (s : State) (o : Outcome) (t : State) : Prop := o = .returned (some (.int 1)) ∧ Framed s o t [] 600000 7302250
def lw_Z (below : List Frame) (a : Array Value) (s : State) : State → Prop := fun t => ∃ o, t.status = .running ∧ Ended t below o ∧ lw_Q a s o t
/-- the law's own end, with 1 on the stack, nothing written that was there before, its room as the claim has it -/
theorem lw_ret {p : Program} {l : Launch} {e : Env} {s : State} {m : MethodId} {below : List Frame} {meth : Method} {c : Code} {b : Nat} (hx : p.tables.exec = Jvm.exec) (hb : c.code = code) (hr : meth.sig.returnType = ret) (hlocks : meth.locks = false) {pc : Nat} {H : Heap} {ls : Array Slot} (hdg : decode code pc = .ok (.ireturn, 1)) : W p l e room_1 s m #[Value.ref b] below meth c H [] 600000 7302250 (lw_Z below #[Value.ref b] s) (F0 m pc ls [.int 1]) := by
  intro T hT X
  obtain ⟨fs, hret, hrun, hended, hW, hframe⟩ := X.leave (v := some (.int 1)) (hlocks := hlocks) (fun h => by rw [hr] at h; cases h)
  have hmeth' : T.vm.method? m = some meth := X.method'
  refine ⟨T.setFrames fs, ?_, .returned (some (.int 1)), hrun, hended, rfl, ⟨_, rfl⟩, hW, hframe⟩
  jvm_step X.here [X.here.top, hx, hb, hdg, hmeth', hr, ret, narrow_b1]
  (try refine ⟨rfl, ?_⟩); (try refine ⟨rfl, ?_⟩)
  first | (intro acts; rw [hret _ acts rfl rfl rfl]) | rw [hret _ _ rfl rfl rfl]
  exact Steps.refl _
/-- what holds at the law's entry: the machine, the code, the tables' words (any of lw_tbl by 'hts w (by decide +kernel)'), the script of L ints xs at the cell b, what the Statement gives of the start (any of its parts by flat_of_before) -/
def lw_At (p : Program) (s : State) (m : MethodId) (meth : Method) (c : Code) (b L : Nat) (xs : Nat → Int32) : Prop :=
  p.tables.exec = Jvm.exec ∧ c.code = code ∧ meth.sig.returnType = ret ∧ c.maxLocals = 4 ∧ s.vm.findClass R_law = some m.cls ∧ (∀ w ∈ lw_tbl, w.before #[Value.ref b] s = true) ∧ va_X b L xs s s.heap ∧ b < s.heap.size ∧ meth.locks = false ∧ (Jvm.Cond.and given_1 narrow_1).before #[Value.ref b] s = true
/-! the law's body: the judgement with the script -/
def LX (D : va_G) (ck : Nat → ClassId) (ad : Nat → Nat) (L : Nat) (xs : Nat → Int32) (nc ns : Nat) (p : Program) (s : State) (m : MethodId) (b : Nat) (meth : Method) (c : Code) : Prop :=
  Cx D ck ad shA RL code 4 room_1 p s m #[Value.ref b] c (fun q => s.heap.size ≤ q) nc ns ∧ va_X b L xs s s.heap ∧ b < s.heap.size ∧ ad 2000 = b ∧ meth.sig.returnType = ret ∧ meth.locks = false
def Lo (l : Launch) (D : va_G) (ck : Nat → ClassId) (ad : Nat → Nat) (L : Nat) (xs : Nat → Int32) (pc : Nat) (ls : List (Option MV)) (st : List MV) (w : Mem) : Prop :=
  ∀ (p : Program) (e : Env) (s : State) (m : MethodId) (b : Nat) (below : List Frame) (meth : Method) (c : Code) (nc ns : Nat) (H : Heap) (locs : List Loc) (lsR : Array Slot),
    LX D ck ad L xs nc ns p s m b meth c → va_P D vwCl (wld ck ad shA w) H → va_S (fun q => s.heap.size ≤ q) s.heap H locs → LR ad 4 lsR ls →
    W p l e room_1 s m #[Value.ref b] below meth c H locs nc ns (lw_Z below #[Value.ref b] s) (F0 m pc lsR (st.map (mval ad)))
section LO
variable {l : Launch} {D : va_G} {ck : Nat → ClassId} {ad : Nat → Nat} {L : Nat} {xs : Nat → Int32} {pc q : Nat} {ls : List (Option MV)} {st : List MV} {w : Mem}
theorem lo_iconst {n : Int} (hd : decode code pc = .ok (.iconst n, 1)) (hq : pc + 1 = q) (k : Lo l D ck ad L xs q ls (vI n :: st) w) : Lo l D ck ad L xs pc ls st w := by
  subst hq
  intro p e s m b below meth c nc ns H locs lsR C hP hS hl
  exact lv_iconst C.1.1 C.1.2.1 hd rfl (k p e s m b below meth c nc ns H locs _ C hP hS hl)
theorem lo_bipush {n : Int} (hn : (Int8.ofInt n).toInt32 = Int32.ofInt n) (hd : decode code pc = .ok (.bipush n, 2)) (hq : pc + 2 = q) (k : Lo l D ck ad L xs q ls (vI n :: st) w) : Lo l D ck ad L xs pc ls st w := by
  subst hq
  intro p e s m b below meth c nc ns H locs lsR C hP hS hl
  exact lv_bipush C.1.1 C.1.2.1 hd hn (k p e s m b below meth c nc ns H locs _ C hP hS hl)
theorem lo_iload {i : Fin 4} {j : Nat} {x : Int} (hj : (i : Nat) = j) (h : ls[j]? = some (some (vI x))) (hd : decode code pc = .ok (.iload_n i, 1)) (hq : pc + 1 = q) (k : Lo l D ck ad L xs q ls (vI x :: st) w) : Lo l D ck ad L xs pc ls st w := by
  subst hq
  intro p e s m b below meth c nc ns H locs lsR C hP hS hl
  exact lv_iload_n C.1.1 C.1.2.1 hd hj (hl.2.2 _ _ h) (k p e s m b below meth c nc ns H locs _ C hP hS hl)
theorem lo_aload {i : Fin 4} {j : Nat} {x : Nat} (hj : (i : Nat) = j) (h : ls[j]? = some (some (vR x))) (hd : decode code pc = .ok (.aload_n i, 1)) (hq : pc + 1 = q) (k : Lo l D ck ad L xs q ls (vR x :: st) w) : Lo l D ck ad L xs pc ls st w := by
  subst hq
  intro p e s m b below meth c nc ns H locs lsR C hP hS hl
  exact lv_aload_n C.1.1 C.1.2.1 hd hj (hl.2.2 _ _ h) (k p e s m b below meth c nc ns H locs _ C hP hS hl)
theorem lo_iinc {j : Nat} {n x : Int} (h : ls[j]? = some (some (vI x))) (hn : j < 4) (ho : okst ls j = true) {ls2 : List (Option MV)} (hls : ls.set j (some (vI (x + n))) = ls2) (hd : decode code pc = .ok (.iinc j n, 3)) (hq : pc + 3 = q) (k : Lo l D ck ad L xs q ls2 st w) : Lo l D ck ad L xs pc ls st w := by
  subst hq
  intro p e s m b below meth c nc ns H locs lsR C hP hS hl
  subst hls
  obtain ⟨kk, hkk⟩ := List.mem_iff_getElem?.mp (encl_mem (ad := ad) h)
  exact lv_iinc (v := Int32.ofInt (x + n)) C.1.1 C.1.2.1 hd hl.has hkk (by rw [Int32.ofInt_add]) hn rfl (fun ls9 hl2 => k p e s m b below meth c nc ns H locs _ C hP hS (LR.st1 ho hl2))
theorem lo_iadd {x y : Int} (hd : decode code pc = .ok (.iadd, 1)) (hq : pc + 1 = q) (k : Lo l D ck ad L xs q ls (vI (x + y) :: st) w) : Lo l D ck ad L xs pc ls (vI y :: vI x :: st) w := by
  subst hq
  intro p e s m b below meth c nc ns H locs lsR C hP hS hl
  have z := (k p e s m b below meth c nc ns H locs _ C hP hS hl)
  have ez : Int32.ofInt (x + y) = Int32.ofInt x + Int32.ofInt y := Int32.ofInt_add ..
  simp only [List.map_cons, mval, ez] at z
  exact lv_iadd C.1.1 C.1.2.1 hd z
theorem lo_isub {x y : Int} (hd : decode code pc = .ok (.isub, 1)) (hq : pc + 1 = q) (k : Lo l D ck ad L xs q ls (vI (x - y) :: st) w) : Lo l D ck ad L xs pc ls (vI y :: vI x :: st) w := by
  subst hq
  intro p e s m b below meth c nc ns H locs lsR C hP hS hl
  have z := (k p e s m b below meth c nc ns H locs _ C hP hS hl)
  have ez : Int32.ofInt (x - y) = Int32.ofInt x - Int32.ofInt y := Int32.ofInt_sub ..
  simp only [List.map_cons, mval, ez] at z
  exact lv_isub C.1.1 C.1.2.1 hd z
theorem lo_iand {x y : Int} (hd : decode code pc = .ok (.iand, 1)) (hq : pc + 1 = q) (k : Lo l D ck ad L xs q ls (vI (andZ x y) :: st) w) : Lo l D ck ad L xs pc ls (vI y :: vI x :: st) w := by
  subst hq
  intro p e s m b below meth c nc ns H locs lsR C hP hS hl
  have z := (k p e s m b below meth c nc ns H locs _ C hP hS hl)
  have ez : Int32.ofInt (andZ x y) = Int32.ofInt x &&& Int32.ofInt y := oi_ti _
  simp only [List.map_cons, mval, ez] at z
  exact lv_iand C.1.1 C.1.2.1 hd z
theorem lo_goto {off : Int} (hd : decode code pc = .ok (.goto off, 3)) (hq : (pc : Int) + off = (q : Int)) (k : Lo l D ck ad L xs q ls st w) : Lo l D ck ad L xs pc ls st w := by
  intro p e s m b below meth c nc ns H locs lsR C hP hS hl
  exact lv_goto C.1.1 C.1.2.1 hd hq (k p e s m b below meth c nc ns H locs _ C hP hS hl)
theorem lo_gt {x y off : Int} {t : Nat} (hd : decode code pc = .ok (.if_icmp .gt off, 3)) (ht : (pc : Int) + off = (t : Int)) (hq : pc + 3 = q) (kt : wr y < wr x → Lo l D ck ad L xs t ls st w) (kf : ¬ (wr y < wr x) → Lo l D ck ad L xs q ls st w) : Lo l D ck ad L xs pc ls (vI y :: vI x :: st) w := by
  subst hq
  intro p e s m b below meth c nc ns H locs lsR C hP hS hl
  exact lv_icmp_gt C.1.1 C.1.2.1 hd ht (fun z => kt (oi_lt.mp z) p e s m b below meth c nc ns H locs _ C hP hS hl) (fun z => kf (fun e2 => z (oi_lt.mpr e2)) p e s m b below meth c nc ns H locs _ C hP hS hl)
theorem lo_eqT {x y off : Int} (hd : decode code pc = .ok (.if_icmp .eq off, 3)) (hq : (pc : Int) + off = (q : Int)) (he : x = y) (k : Lo l D ck ad L xs q ls st w) : Lo l D ck ad L xs pc ls (vI y :: vI x :: st) w := by
  subst he
  intro p e s m b below meth c nc ns H locs lsR C hP hS hl
  exact lv_icmp_eq C.1.1 C.1.2.1 hd hq (fun _ => k p e s m b below meth c nc ns H locs _ C hP hS hl) (fun z => absurd rfl z)
theorem lo_cmpT {x y off : Int} {pc1 : Nat} (hd : decode code pc = .ok (.lcmp, 1)) (hp : pc + 1 = pc1) (hd1 : decode code pc1 = .ok (.ifCond .eq off, 3)) (hq : (pc1 : Int) + off = (q : Int)) (he : x = y) (k : Lo l D ck ad L xs q ls st w) : Lo l D ck ad L xs pc ls (vL y :: vL x :: st) w := by
  subst he hp
  intro p e s m b below meth c nc ns H locs lsR C hP hS hl
  refine W.lcmp C.1.1 C.1.2.1 hd ?_
  have e0 : lg_cmp (Int64.ofInt x) (Int64.ofInt x) = 0 := by
    unfold lg_cmp
    rw [if_neg (show ¬ Int64.ofInt x > Int64.ofInt x from Int64.lt_irrefl), if_pos rfl]
  rw [e0]
  exact lv_if_eq C.1.1 C.1.2.1 hd1 hq (fun _ => k p e s m b below meth c nc ns H locs _ C hP hS hl) (fun z => absurd rfl z)
theorem lo_ts1 {x dflt lo hi off : Int} {offs : Array Int} {len t : Nat} (v : Int) (hd : decode code pc = .ok (.tableswitch dflt lo hi offs, len)) (h1 : ¬ v < lo ∧ ¬ hi < v) (ho : offs[(v - lo).toNat]? = some off) (ht : (pc : Int) + off = (t : Int))
    (kt : wr x = v → Lo l D ck ad L xs t ls st w) (kf : ¬ wr x = v → Lo l D ck ad L xs pc ls (vI x :: st) w) : Lo l D ck ad L xs pc ls (vI x :: st) w := by
  by_cases hv : wr x = v
  · intro p e s m b below meth c nc ns H locs lsR C hP hS hl
    exact lv_tableIn C.1.1 C.1.2.1 hd (by rw [toInt_oi, hv]; exact h1.1) (by rw [toInt_oi, hv]; exact h1.2) (by rw [toInt_oi, hv]; exact ho) ht (kt hv p e s m b below meth c nc ns H locs _ C hP hS hl)
  · exact kf hv
theorem lo_tsOut {x dflt lo hi : Int} {offs : Array Int} {len t : Nat} (hd : decode code pc = .ok (.tableswitch dflt lo hi offs, len)) (h : wr x < lo ∨ hi < wr x) (ht : (pc : Int) + dflt = (t : Int)) (k : Lo l D ck ad L xs t ls st w) : Lo l D ck ad L xs pc ls (vI x :: st) w := by
  intro p e s m b below meth c nc ns H locs lsR C hP hS hl
  exact lv_tableOut C.1.1 C.1.2.1 hd (by rw [toInt_oi]; exact h) ht (k p e s m b below meth c nc ns H locs _ C hP hS hl)
theorem lo_slen (hd : decode code pc = .ok (.arraylength, 1)) (hq : pc + 1 = q) (k : Lo l D ck ad L xs q ls (vI (L : Int) :: st) w) : Lo l D ck ad L xs pc ls (vR 2000 :: st) w := by
  subst hq
  intro p e s m b below meth c nc ns H locs lsR C hP hS hl
  obtain ⟨C1, hX, hbl, had, -, -⟩ := id C
  have z := k p e s m b below meth c nc ns H locs lsR C hP hS hl
  simp only [List.map_cons, mval] at z ⊢
  rw [← oi_ofNat] at z
  rw [had]
  exact va_slen C1.1 C1.2.1 hX hbl (Nat.not_le.mpr hbl) hS hd z
theorem lo_sld {x : Int} {j : Nat} (hx : wr x = (j : Int)) (hj : j < L) (hd : decode code pc = .ok (.iaload, 1)) (hq : pc + 1 = q) (k : Lo l D ck ad L xs q ls (vI (xs j).toInt :: st) w) : Lo l D ck ad L xs pc ls (vI x :: vR 2000 :: st) w := by
  subst hq
  intro p e s m b below meth c nc ns H locs lsR C hP hS hl
  obtain ⟨C1, hX, hbl, had, -, -⟩ := id C
  have z := k p e s m b below meth c nc ns H locs lsR C hP hS hl
  simp only [List.map_cons, mval] at z ⊢
  rw [oi_ti] at z
  rw [had]
  refine va_sld C1.1 C1.2.1 hX hbl (Nat.not_le.mpr hbl) hS (vp_in_oi hx hj) hd ?_
  rw [oi_nat hx]; exact z
/-- the n-th argument of the call -/
theorem lo_arg {n j : Nat} {pc1 pc2 pc3 pc4 : Nat} (h0 : ls[0]? = some (some (vR 2000))) (h3 : ls[3]? = some (some (vI (n : Int)))) (hn : n + j < L) (hL : L ≤ 2560)
    (d0 : decode code pc = .ok (.aload_n 0, 1)) (e1 : pc + 1 = pc1) (d1 : decode code pc1 = .ok (.iload_n 3, 1)) (e2 : pc1 + 1 = pc2) (d2 : decode code pc2 = .ok (.iconst (j : Int), 1)) (e3 : pc2 + 1 = pc3) (d3 : decode code pc3 = .ok (.iadd, 1)) (e4 : pc3 + 1 = pc4) (d4 : decode code pc4 = .ok (.iaload, 1)) (hq : pc4 + 1 = q)
    (k : Lo l D ck ad L xs q ls (vI (xs (n + j)).toInt :: st) w) : Lo l D ck ad L xs pc ls st w := by
  refine lo_aload rfl h0 d0 e1 ?_
  refine lo_iload rfl h3 d1 e2 ?_
  refine lo_iconst d2 e3 ?_
  refine lo_iadd d3 e4 ?_
  exact lo_sld (j := n + j) (by rw [wr_of (by omega) (by omega)]; omega) hn d4 hq k
theorem lo_callV {y : MethodName} {bytes : ByteArray} {maxL idx b ci N n : Nat} {C0 : String} {T : u_T} {rt : Option FieldType} {Ry : Room} {rs : List (Option Nat)} {as As rest : List MV} {K1 : Post}
    (hd : decode code pc = .ok (.invokevirtual idx, 3)) (lk : LkV RL idx y bytes maxL rt C0) (hcl : vwCl[ci]? = some (C0, T, N)) (hs : shA[b]? = some (.inl (ci, rs))) (has : as = vR b :: As) (hst : st = as.reverse ++ rest)
    (hn : (parseMethodDescriptor y.desc).map (fun d => d.parameters.length) = some n) (hAs : As.length = n) (hR : Ry.frames + 1 ≤ room_1.frames ∧ 8 + (maxL + 11) + Ry.locals ≤ room_1.locals) (hR0 : Ry.cells = 0 ∧ Ry.slots = 0) (hcat : ((rest.map (mval ad)).map fun v => v.category).sum ≤ 8)
    (hev : Ev l D ck ad shA y bytes maxL rt Ry as w K1) (hq : pc + 3 = q) (k : ∀ r w1, K1 r w1 → Lo l D ck ad L xs q ls (r.toList ++ rest) w1) : Lo l D ck ad L xs pc ls st w := by
  subst hq has hst
  intro p e s m b9 below meth c nc ns H locs lsR CC hP hS hl
  obtain ⟨C, -⟩ := id CC
  have hr : va_Run p l e room_1 s m #[Value.ref b9] below meth c H locs nc ns 0 0 (F0 m pc lsR (((vR b :: As).reverse ++ rest).map (mval ad))) (rest.map (mval ad)) (evQ D ck ad shA K1 (Value.ref (ad b) :: As.map (mval ad)).toArray) (AW ad shA.length) := by
    refine va_runV (As := As.map (mval ad)) (b := ad b) (C := C0) ⟨C.1, C.2.1, C.2.2.1, C.2.2.2.1, C.2.2.2.2.1⟩ hev (cwV n C.2.2.2.2.1 lk.good rfl hR0.1 hR0.2 ⟨lk.2.1, lk.2.2.1, lk.2.2.2, hn⟩ hR) ⟨evP_blind, va_recv C.2.2.2.2.2.1 hP hcl (wld_at hs), ev_pre C hP hS (vR b :: As)⟩ rfl (by simpa using hAs) hl.1 ?_ (lv_room hcat) hd C.2.2.2.2.2.2.2.1
    simp [mval]
  have hA : ∀ z, AW ad shA.length z → s.heap.size ≤ z := fun z ⟨i, h1, h2⟩ => by rw [h2]; exact C.2.2.2.2.2.2.1 i h1
  intro T hT X
  obtain ⟨v, st₀, t, T', L', h0, X', hL, e1, e2, ⟨⟨r, w1, hv, hk, hP1⟩, hz, hk2⟩, sx⟩ := hr T hT X
  cases hv
  rw [h0] at hz hk2
  have hS1 : va_S (fun q => s.heap.size ≤ q) s.heap T'.heap (locs ++ L') := ⟨Nat.le_trans hS.1 (by rw [e1]; exact hz), fun q h1 h2 => by rw [e1, hk2 q (Nat.lt_of_lt_of_le h1 hS.1) (fun z => h2 (hA q z))]; exact hS.2.1 q h1 h2, fun q hq => by
    rcases List.mem_append.mp hq with h | h
    · exact hS.2.2 q h
    · exact hA _ (hL q h)⟩
  obtain ⟨t2, a1, b1⟩ := k r w1 hk p e s m b9 below meth c nc ns T'.heap (locs ++ L') lsR CC (by rw [e1]; exact hP1) hS1 hl T' rfl X'
  refine ⟨t2, sx t2 ?_, b1⟩
  have : (r.map (mval ad)).toList ++ rest.map (mval ad) = (r.toList ++ rest).map (mval ad) := by
    cases r <;> simp
  rw [this]
  exact a1
theorem lo_ret (hd : decode code pc = .ok (.ireturn, 1)) : Lo l D ck ad L xs pc ls [vI 1] w := by
  intro p e s m b below meth c nc ns H locs lsR C hP hS hl
  obtain ⟨C1, hX, hbl, had, hr, hlk⟩ := id C
  have hc := C1.2.2.2.2.2.2.2.1
  refine va_forget hS.2.2 ?_
  refine W.widen (k := 600000) (n := 7302250) hc.1 hc.2 ?_
  exact lw_ret C1.1 C1.2.1 hr hlk hd
theorem rng_ti (x : Int32) : rng x.toInt := ⟨Int32.le_toInt x, Int32.toInt_lt x⟩
end LO
