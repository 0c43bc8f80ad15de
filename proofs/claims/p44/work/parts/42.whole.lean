/-! THE CLAIM OUT OF ONE WALK OF THE LAW'S BODY. Your part is whole_start (and what it stands on); all else here is the same for every law, but numbers. -/
def R_law : String := "KnotColoursLaw"
def lw_P (b : Addr) (xs : List Int32) (args : Array Value) (s : State) : Prop := args = #[.ref b] ∧ s.IntsAt b xs ∧ xs.length ≤ 260 ∧ (Jvm.Cond.and given_1 narrow_1).before args s = true
def lw_Q (_ : Array Value) (s : State) (o : Outcome) (t : State) : Prop := o = .returned (some (.int 1)) ∧ Framed s o t [] 600000 7302250
def lw_Z (below : List Frame) (a : Array Value) (s : State) : State → Prop := fun t => ∃ o, t.status = .running ∧ Ended t below o ∧ lw_Q a s o t
/-- the law's own end, with 1 on the stack, nothing written that was there before, its room as the claim has it -/
theorem lw_ret {p : Program} {l : Launch} {e : Env} {s : State} {m : MethodId} {below : List Frame} {meth : Method} {c : Code} {b : Nat} (hx : p.tables.exec = Jvm.exec) (hb : c.code = code) (hr : meth.sig.returnType = ret) (hlocks : meth.locks = false) {pc : Nat} {H : Heap} {ls : Array Slot} (hdg : decode code pc = .ok (.ireturn, 1)) : W p l e room_1 s m #[Value.ref b] below meth c H [] 600000 7302250 (lw_Z below #[Value.ref b] s) (F0 m pc ls [.int 1]) := by
  intro T hT X
  obtain ⟨fs, hret, hrun, hended, hW, hframe⟩ := X.leave (v := some (.int 1)) (hlocks := hlocks) (fun h => by rw [hr] at h; cases h)
  have hmeth' : T.vm.method? m = some meth := X.method'
  refine ⟨T.setFrames fs, ?_, .returned (some (.int 1)), hrun, hended, rfl, ⟨_, rfl⟩, hW, hframe⟩
  jvm_step X.here [X.here.top, hx, hb, hdg, hmeth', hr, ret, narrow_b1]
  (try refine ⟨rfl, ?_⟩); (try refine ⟨rfl, ?_⟩)
  first | (intro acts; rw [hret _ acts rfl rfl rfl]) | rw [hret _ _ rfl rfl rfl]
  exact Steps.refl _
/-- what holds at the law's entry: the machine, the code, the tables' words (any of lw_tbl by 'hts w (by decide +kernel)'), the script of L ints xs at the cell b, what the Statement gives of the start (any of its parts by flat_of_before) -/
def lw_At (p : Program) (s : State) (m : MethodId) (meth : Method) (c : Code) (b L : Nat) (xs : Nat → Int32) : Prop :=
  p.tables.exec = Jvm.exec ∧ c.code = code ∧ meth.sig.returnType = ret ∧ c.maxLocals = 21 ∧ s.vm.findClass R_law = some m.cls ∧ (∀ w ∈ lw_tbl, w.before #[Value.ref b] s = true) ∧ va_X b L xs s s.heap ∧ b < s.heap.size ∧ meth.locks = false ∧ (Jvm.Cond.and given_1 narrow_1).before #[Value.ref b] s = true
/-! the whole -/
theorem nest_in : ∀ q ∈ nestW, Cond.methodLinkNest q.1 q.2.1 q.2.2 "KnotColours" ∈ lw_tbl := by
  intro q hq
  simp only [nestW, List.mem_cons, List.not_mem_nil, or_false] at hq
  rcases hq with rfl | rfl | rfl | rfl | rfl | rfl
  · exact tin1 (List.mem_of_getElem? (i := 21) (by decide +kernel))
  · exact tin1 (List.mem_of_getElem? (i := 38) (by decide +kernel))
  · exact tin1 (List.mem_of_getElem? (i := 58) (by decide +kernel))
  · exact tin1 (List.mem_of_getElem? (i := 103) (by decide +kernel))
  · exact tin1 (List.mem_of_getElem? (i := 125) (by decide +kernel))
  · exact tin1 (List.mem_of_getElem? (i := 126) (by decide +kernel))
set_option maxRecDepth 100000 in
theorem st_t0 : ∀ j, j < 6 → Cond.eq (.elem (.static RX6 "STANDARD_ARCS" "[I") (.int (Int32.ofNat j))) (.int (Int32.ofInt (L_arcs.getD j 0))) ∈ flatC (Jvm.Cond.and given_1 narrow_1) := by decide +kernel
set_option maxRecDepth 100000 in
theorem st_t1 : ∀ j, j < 7 → Cond.eq (.elem (.static RX6 "STANDARD_STARTS" "[I") (.int (Int32.ofNat j))) (.int (Int32.ofInt (L_starts.getD j 0))) ∈ flatC (Jvm.Cond.and given_1 narrow_1) := by decide +kernel
set_option maxRecDepth 100000 in
theorem st_t2 : ∀ j, j < 56 → Cond.eq (.elem (.static RX6 "STANDARD_CROSSINGS" "[I") (.int (Int32.ofNat j))) (.int (Int32.ofInt (L_cross.getD j 0))) ∈ flatC (Jvm.Cond.and given_1 narrow_1) := by decide +kernel
set_option maxRecDepth 100000 in
set_option maxHeartbeats 4000000 in
/-- YOUR PART: from the entry, for every script of at most 260 ints, the law comes to its end with true ('hflags': the launch's flags, for a law that throws: no stack traces) -/
theorem whole_start {p : Program} {e : Env} {s : State} {m : MethodId} {below : List Frame} {meth : Method} {c : Code} (l : Launch) (hflags : l.flags = flags0) {b L : Nat} {xs : Nat → Int32} (hL : L ≤ 260) (C0 : lw_At p s m meth c b L xs) : W p l e room_1 s m #[Value.ref b] below meth c s.heap [] 0 0 (lw_Z below #[Value.ref b] s) (entryFrame m ([Value.ref b] : List Value).toArray 21) := by
  obtain ⟨hx, hb, hr, hml, hown, hts, hX, hbl, hlocks, hgv⟩ := id C0
  obtain ⟨c0, iS0, hK0⟩ := u_known (C := RX0) (T := TX0) (N := 6) (n := 6) hts inX0 (hts _ (gwt (in_X0)))
  obtain ⟨c1, iS1, hK1⟩ := u_known (C := RX1) (T := TX1) (N := 3) (n := 3) hts inX1 (hts _ (gwt (in_X1)))
  obtain ⟨c2, iS2, hK2⟩ := u_known (C := RX2) (T := TX2) (N := 2) (n := 2) hts inX2 (hts _ (gwt (in_X2)))
  obtain ⟨c3, iS3, hK3⟩ := u_known (C := RX3) (T := TX3) (N := 4) (n := 4) hts inX3 (hts _ (gwt (in_X3)))
  obtain ⟨c4, iS4, hK4⟩ := u_known (C := RX4) (T := TX4) (N := 4) (n := 4) hts inX4 (hts _ (gwt (in_X4)))
  obtain ⟨c5, iS5, hK5⟩ := u_known (C := RX5) (T := TX5) (N := 2) (n := 2) hts inX5 (hts _ (gwt (in_X5)))
  obtain ⟨c6, iS6, hK6⟩ := u_known (C := RX6) (T := TX6) (N := 7) (n := 7) hts inX6 (hts _ (gwt (in_X6)))
  obtain ⟨dC, dI, hKc⟩ : ∃ (dC : Nat → ClassId) (dI : Nat → Nat → Nat), ∀ (k : Nat) (q : vw_C), vwCl[k]? = some q → u_Kn s q.1 q.2.1 q.2.2 (dC k) (dI k) := by
    refine ⟨fun k => [c0, c1, c2, c3, c4, c5, c6].getD k 0, fun k => [iS0, iS1, iS2, iS3, iS4, iS5, iS6].getD k (fun _ => 0), ?_⟩
    intro k q hq
    match k, hq with
    | 0, hq => cases hq; exact hK0
    | 1, hq => cases hq; exact hK1
    | 2, hq => cases hq; exact hK2
    | 3, hq => cases hq; exact hK3
    | 4, hq => cases hq; exact hK4
    | 5, hq => cases hq; exact hK5
    | 6, hq => cases hq; exact hK6
    | k + 7, hq => simp [vwCl] at hq
  have hO5 : va_AO RX5 s := va_AO.of (hts (.arrayOver (.object RX5)) (tin1 (List.mem_of_getElem? (i := 122) (by decide +kernel))))
  have hO1 : va_AO RX1 s := va_AO.of (hts (.arrayOver (.object RX1)) (tin1 (List.mem_of_getElem? (i := 124) (by decide +kernel))))
  have hCX : CtX s := ⟨hO5, hO1, fun q hq => va_Nw.of rfl (hts _ (nest_in q hq))⟩
  obtain ⟨k0, hk0, ha0⟩ := arr_of (ty := .int) (hts (.arrayClass .int) (gwt ac_int))
  obtain ⟨k1, hk1, ha1⟩ := arr_of (ty := .boolean) (hts (.arrayClass .boolean) (gwt ac_boolean))
  obtain ⟨k2, hk2, ha2⟩ := arr_of (ty := .char) (hts (.arrayClass .char) (gwt ac_char))
  obtain ⟨k3, ha3, hk3⟩ := ovr_of hO5
  obtain ⟨k4, ha4, hk4⟩ := ovr_of hO1
  obtain ⟨ck, hck⟩ : ∃ ck : Nat → ClassId, va_K (dC, dI) vwCl (tysOf ck) s := by
    refine ⟨fun k => [k0, k1, k2, k3, k4].getD k 0, hKc, ?_⟩
    intro k q hq
    match k, hq with
    | 0, hq => cases hq; exact ⟨ha0, hk0⟩
    | 1, hq => cases hq; exact ⟨ha1, hk1⟩
    | 2, hq => cases hq; exact ⟨ha2, hk2⟩
    | 3, hq => cases hq; exact ⟨ha3, hk3⟩
    | 4, hq => cases hq; exact ⟨ha4, hk4⟩
    | k + 5, hq => simp [tysOf] at hq
  have hA0 : ∀ a : Nat, a < s.heap.size → ¬ (fun q : Nat => s.heap.size ≤ q) a := fun a h => Nat.not_le.mpr h
  have hsn := flat_of_before _ hgv
  have hiX6 := hts _ (gwt iz_X6)
  obtain ⟨t0, he_t0, hT_t0⟩ := va_Tof (tm := .static RX6 "STANDARD_ARCS" "[I") (ty := .int) (N := 6) (f := srow L_arcs) (A := fun q => s.heap.size ≤ q) (by decide) (hsn (.arrayOf (.static RX6 "STANDARD_ARCS" "[I") .int) (by decide +kernel)) (va_eqt (hsn (.eq (.length (.static RX6 "STANDARD_ARCS" "[I")) (.int (Int32.ofNat 6))) (by decide +kernel))) (fun j hj => va_eqt (hsn _ (st_t0 j hj))) hA0
  have hZ_t0 := va_Zof (v := .ref t0) (A := fun q => s.heap.size ≤ q) (hts (.laysStatic RX6 "STANDARD_ARCS" "[I") (tin2 (List.mem_of_getElem? (i := 49) (by decide +kernel)))) hiX6 he_t0 hA0
  obtain ⟨t1, he_t1, hT_t1⟩ := va_Tof (tm := .static RX6 "STANDARD_STARTS" "[I") (ty := .int) (N := 7) (f := srow L_starts) (A := fun q => s.heap.size ≤ q) (by decide) (hsn (.arrayOf (.static RX6 "STANDARD_STARTS" "[I") .int) (by decide +kernel)) (va_eqt (hsn (.eq (.length (.static RX6 "STANDARD_STARTS" "[I")) (.int (Int32.ofNat 7))) (by decide +kernel))) (fun j hj => va_eqt (hsn _ (st_t1 j hj))) hA0
  have hZ_t1 := va_Zof (v := .ref t1) (A := fun q => s.heap.size ≤ q) (hts (.laysStatic RX6 "STANDARD_STARTS" "[I") (tin2 (List.mem_of_getElem? (i := 51) (by decide +kernel)))) hiX6 he_t1 hA0
  obtain ⟨t2, he_t2, hT_t2⟩ := va_Tof (tm := .static RX6 "STANDARD_CROSSINGS" "[I") (ty := .int) (N := 56) (f := srow L_cross) (A := fun q => s.heap.size ≤ q) (by decide) (hsn (.arrayOf (.static RX6 "STANDARD_CROSSINGS" "[I") .int) (by decide +kernel)) (va_eqt (hsn (.eq (.length (.static RX6 "STANDARD_CROSSINGS" "[I")) (.int (Int32.ofNat 56))) (by decide +kernel))) (fun j hj => va_eqt (hsn _ (st_t2 j hj))) hA0
  have hZ_t2 := va_Zof (v := .ref t2) (A := fun q => s.heap.size ≤ q) (hts (.laysStatic RX6 "STANDARD_CROSSINGS" "[I") (tin2 (List.mem_of_getElem? (i := 53) (by decide +kernel)))) hiX6 he_t2 hA0
  have hl := lv_entry ([.ref b]) (n := 21) (Nat.le_of_ble_eq_true rfl)
  rw [lg_entry_eq]
  refine law_init (l := l) (D := (dC, dI)) (ck := ck) (fun k => if k = 1000 then t0 else if k = 1001 then t1 else if k = 1002 then t2 else if k = 2000 then b else L) p e s m _ below meth c (fun q => s.heap.size ≤ q) _ s.heap [] _ ⟨hx, hb, hml, hown, fun w hw => hts w (gwt hw), hck, fun _ h => h, fun h => absurd rfl h, hCX⟩ (fun k q h => by simp at h) ⟨fun i j p q h => by simp at h, fun k q h => by simp at h⟩ va_S.rf hl ?_
  intro pc ls st ws cells slots H locs lsR ⟨e1, e2, hc, hs, z, hz, e3, e4⟩ hP hD hS hl
  subst e1 e2 e3 e4
  have z0 : z 1000 = t0 := hz 1000 (by decide)
  have z1 : z 1001 = t1 := hz 1001 (by decide)
  have z2 : z 1002 = t2 := hz 1002 (by decide)
  have z3 : z 2000 = b := hz 2000 (by decide)
  have z4 : z 3000 = L := hz 3000 (by decide)
  have hP1 : va_P (dC, dI) vwCl (wld ck z shA w0) H := hP.by (fun k => k) (wld_of ck z)
  have hA48 : ∀ k, k < shA.length → s.heap.size ≤ z k := fun k hk => by
    rw [shA_len] at hk
    obtain ⟨e, he⟩ := oWs_at ck z k hk
    exact hD.2 k _ he
  have hinj : ainj z shA.length := fun i j hi hj hij => by
    rw [shA_len] at hi hj
    obtain ⟨e, he⟩ := oWs_at ck z i hi
    obtain ⟨e2, he2⟩ := oWs_at ck z j hj
    exact hD.1 i j _ _ he he2 hij
  have hScr : Scr z (fun q => s.heap.size ≤ q) s s.heap := by
    obtain ⟨scr, h1, h2, h3, h4, h5⟩ := hX
    refine ⟨by rw [z4]; exact hL, xs, ?_⟩
    rw [z3, z4]
    exact ⟨scr, h1, h2, h3, Nat.le_of_eq h4.symm, by rw [h4], h5, Nat.not_le.mpr hbl⟩
  have hSt : Stt z (fun q => s.heap.size ≤ q) s s.heap := ⟨⟨by rw [z0]; exact hZ_t0, by rw [z0]; exact hT_t0⟩, ⟨by rw [z1]; exact hZ_t1, by rw [z1]; exact hT_t1⟩, ⟨by rw [z2]; exact hZ_t2, by rw [z2]; exact hT_t2⟩, hScr⟩
  have hLR : LR z 21 lsR [some (vR 2000), some (vR 0), some (vR 45), some (vR 46), some (vR 47), none, none, none, none, none, none, none, none, none, none, none, none, none, none, none, none] := ⟨hl.1, hl.2.1, fun i v hv => by
    match i, hv with
    | 0, hv => cases hv; show lsR[0]? = some (.val (.ref (z 2000))); rw [z3]; exact lv_at hl 4 rfl
    | 1, hv => cases hv; exact lv_at hl 3 rfl
    | 2, hv => cases hv; exact lv_at hl 2 rfl
    | 3, hv => cases hv; exact lv_at hl 1 rfl
    | 4, hv => cases hv; exact lv_at hl 0 rfl
    | i + 5, hv =>
      have h9 : ∀ n : Nat, (List.replicate 16 (none : Option MV))[n]? ≠ some (some v) := fun n h => by
        have := List.mem_of_getElem? h
        rw [List.mem_replicate] at this
        cases this.2
      exact absurd hv (h9 i)⟩
  refine law_go p e s m _ below meth c (fun q => s.heap.size ≤ q) cells slots _ H locs lsR ⟨hx, hb, hml, hown, fun w hw => hts w (gwt hw), hck, hA48, ⟨⟨Nat.le_trans (Nat.add_le_add_right hc _) (Nat.le_of_ble_eq_true rfl), Nat.le_trans (Nat.add_le_add_right hs _) (Nat.le_of_ble_eq_true rfl)⟩, fun _ h => h⟩, hSt, hinj⟩ hP1 hS hLR ⟨fun _ _ _ => trivial, ?_⟩
  intro r w1 pc1 lsR1 H1 locs1 cells1 slots1 hk hret _ hS1 hcs
  subst hk
  refine va_forget hS1.2.2 ?_
  refine W.widen (k := 600000) (n := 7302250) hcs.1 hcs.2 ?_
  exact lw_ret hx hb hr hlocks hret
-- ===== YOUR PART ENDS =====
set_option maxHeartbeats 4000000 in
theorem lw_walk (l : Launch) (hflags : l.flags = flags0) (b : Addr) (xs : List Int32) : MetFree l x (headSpec (Jvm.Cond.code x code maxLocals ret :: tables_1) room_1) (lw_P b xs) (fun _ _ _ _ _ => True) lw_Q := by
  refine MetFree.of_bodyS (code := code) (maxLocals := maxLocals) (ret := ret) (by decide) ?_ ?_
  · intro args s m h hn
    obtain ⟨meth, c, h1, h2, h3, h4, h5, h6, -, -⟩ := Cond.code_spec hn (atoms_spec (ws := Jvm.Cond.code x code maxLocals ret :: tables_1) h _ List.mem_cons_self)
    exact ⟨meth, c, h1, h2, h3, h4, h5, h6⟩
  · intro p e s m args below meth c s₁ B hml0 hP _
    obtain ⟨rfl, hx, hbd, hgv⟩ := hP
    obtain ⟨scr, harrAt, hlist, hof, hsmall⟩ := hx
    obtain ⟨hcb, hkn, -, -⟩ := State.arrayAt?_spec harrAt
    have hown : s.vm.findClass R_law = some m.cls := findClass_of_methodNamed B.named
    have hts0 : ∀ c ∈ (Jvm.Cond.code x code maxLocals ret :: tables_1), c.before #[Value.ref b] s = true := atoms_spec (ws := Jvm.Cond.code x code maxLocals ret :: tables_1) B.pre
    have hts : ∀ w ∈ lw_tbl, w.before #[Value.ref b] s = true := k2_hts_sels lw_privs (fun w hw => hts0 w (List.mem_cons_of_mem _ hw)) lw_privs_ok
    have hml : c.maxLocals = 21 := B.maxLocals_eq (hts0 _ List.mem_cons_self)
    have X₀ : Stand p l e room_1 s m #[Value.ref b] below meth c s₁ [] 0 0 := Stand.of_body B
    have hh0 : s₁.heap = s.heap := by rw [B.state]; rfl
    have hsz : scr.slots.size = xs.length := by rw [← Array.length_toList, hlist, List.length_map]
    have hval : ∀ j : Nat, j < xs.length → scr.slots[j]? = some (.int (xs.getD j 0)) := fun j hj => by
      rw [← Array.getElem?_toList, hlist]
      simp [hj]
    have hbl : b < s.heap.size := (Array.getElem?_eq_some_iff.mp hcb).1
    have hX : va_X b xs.length (fun j => xs.getD j 0) s s.heap := ⟨scr, hcb, hof, hkn, hsz, hval⟩
    have K : W p l e room_1 s m #[Value.ref b] below meth c s₁.heap [] 0 0 (lw_Z below #[Value.ref b] s) (entryFrame m ([Value.ref b] : List Value).toArray 21) := by
      rw [hh0]
      exact whole_start l hflags hbd ⟨B.exec, B.bytes, B.returns, hml, hown, hts, hX, hbl, B.notSynchronized, hgv⟩
    obtain ⟨t, a1, o, b1, b2, b3⟩ := K s₁ rfl X₀
    exact ⟨t, o, a1, b1, b2, b3⟩
theorem lw_pre_spec {args : Array Value} {s : State} (h : (Jvm.Cond.and given_1 narrow_1).before args s = true) (hr : rest_1_c.before args s = true) : ∃ (b : Addr) (xs : List Int32), lw_P b xs args s := by
  have hs := flat_of_before _ h
  have hq := flat_of_before _ hr
  have hc : (Cond.count 1).before args s = true := hs _ (by decide +kernel)
  have harr : (Cond.arrayOf (.arg 0) .int).before args s = true := hs _ (by decide +kernel)
  have hle : (Cond.le (.length (.arg 0)) (.int 260)).before args s = true := hs _ (by decide +kernel)
  have hlen : (Cond.isInt (.length (.arg 0))).before args s = true := hq _ (by decide +kernel)
  have hall : (Cond.all (.arg 0) (.isInt (.elem (.arg 0) (.index 0)))).before args s = true := hq _ (by decide +kernel)
  obtain ⟨b, xs, hb, hx⟩ := State.ints_of_pre rfl harr hlen hall
  have hsm : xs.length < 2 ^ 31 := hx.choose_spec.2.2.2
  have hev : (Term.length (.arg 0)).eval args s none [] s = some (.int xs.length.toInt32) := hx.length_eval hb
  have hv := Cond.le_ints hev (show (Term.int 260).eval args s none [] s = some (.int 260) from rfl)
  have hd : xs.length.toInt32 ≤ 260 := by
    simpa [Cond.before, Cond.holds, hv] using hle
  have hN : xs.length ≤ 260 := (Int32.ofNat_le_ofNat hsm (by decide)).mp (show Int32.ofNat xs.length ≤ Int32.ofNat 260 from hd)
  exact ⟨b, xs, Cond.one_arg hc (show args[0]? = some (.ref b) from hb), hx, hN, h⟩
theorem lw_comes (l : Launch) (hflags : l.flags = flags0) : Comes l x (Jvm.Cond.code x code maxLocals ret :: tables_1) room_1 (fun tb e args s => Calls_1 tb e args s ∧ rest_1 tb e args s ∧ Pre_1 tb e args s)
    (fun _ _ args s o t => lw_Q args s o t) := by
  intro p e ha hc hk s m args below hf hfit hheap happ hpre
  obtain ⟨b, xs, hP⟩ := lw_pre_spec hpre.2.2 hpre.2.1
  obtain ⟨k, o, h1, h2, h3, hQ⟩ := lw_walk l hflags b xs p e ha hc hk s m args below hf ((Spec.applies_iff_loose hf).mp happ).1 hP trivial
  exact ⟨k, o, h1, h2, h3, hQ⟩
theorem lw_frame {s t : State} {o : Outcome} {args : Array Value} (h : Framed s o t [] 600000 7302250) :
    Framed s o t (fieldLocs frame_1_writes args s ++ arrayLocs frame_1_arrays args s ++ staticLocs frame_1_statics s) 600000 7302250 := h
theorem lw_limb (L : Cond) (hL : ∀ (args : Array Value) (s t : State), L.after args s (.returned (some (.int 1))) t = true) :
    ArmFor flags0 classFile x code maxLocals ret World_1 tables_1 room_1 Calls_1 rest_1 Pre_1
      (fun tb e a s o t => postC L tb e a s o t ∧ Framed s o t (fieldLocs frame_1_writes a s ++ arrayLocs frame_1_arrays a s ++ staticLocs frame_1_statics s) 600000 7302250) := by
  intro l hflags _ _ p e ha hc hk s m args below hf hfit hheap happ hpre
  obtain ⟨k, o, h1, h2, h3, rfl, hF⟩ := lw_comes l hflags p e ha hc hk s m args below hf hfit hheap happ hpre
  exact ⟨k, _, h1, h2, h3, hL args s _, lw_frame hF⟩
theorem i_vc : Claimed_1_1 ∧ Claimed_1_2 := ⟨lw_limb limb_1_1 (fun args s t => by simp [limb_1_1, Cond.after, Cond.holds, Cond.value]), lw_limb limb_1_2 (fun args s t => Cond.after_iff.mpr (by
  first | (rw [show limb_1_2 = Cond.eq .result (.int 1) from rfl, Cond.eq_ints (x := 1) (y := 1) rfl rfl]; simp; done) | (simp [limb_1_2, Cond.value, Term.eval]; done)))⟩
