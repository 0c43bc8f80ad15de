/-! a world that grows by one array -/
def adx (ad : Nat → Nat) (n x : Nat) : Nat → Nat := fun k => if k = n then x else ad k
theorem adx_ne {ad : Nat → Nat} {n x k : Nat} (h : k ≠ n) : adx ad n x k = ad k := if_neg h
theorem adx_eq {ad : Nat → Nat} {n x : Nat} : adx ad n x n = x := if_pos rfl
def refNe (n : Nat) : MV → Bool
  | .inr (.inr k) => !(k == n)
  | _ => true
def lsNe (n : Nat) (ls : List (Option MV)) : Bool := ls.all (fun o => match o with | some v => refNe n v | none => true)
def shNe (n : Nat) : Shp → Bool
  | .inl (_, rs) => rs.all (fun r => match r with | some q => !(q == n) | none => true)
  | .inr (.inl _) => true
  | .inr (.inr (_, rs)) => rs.all (fun q => !(q == n))
theorem mval_adx {ad : Nat → Nat} {n x : Nat} {v : MV} (h : refNe n v = true) : mval (adx ad n x) v = mval ad v := by
  rcases v with v | v | v
  · rfl
  · rfl
  · have : ¬ v = n := by simpa [refNe] using h
    show Value.ref (adx ad n x v) = Value.ref (ad v)
    rw [adx_ne this]
theorem map_adx {ad : Nat → Nat} {n x : Nat} {st : List MV} (h : st.all (refNe n) = true) : st.map (mval (adx ad n x)) = st.map (mval ad) :=
  List.map_congr_left (fun v hv => mval_adx (List.all_eq_true.mp h v hv))
theorem celE_adx {ck : Nat → ClassId} {ad : Nat → Nat} {n x : Nat} {w : Nat → Int} {s : Shp} (h : shNe n s = true) : celE ck (adx ad n x) w s = celE ck ad w s := by
  rcases s with ⟨ci, rs⟩ | ⟨tc, k⟩ | ⟨tc, rs⟩
  · simp only [celE]
    congr 2
    apply List.ext_getElem?
    intro i
    rw [List.getElem?_mapIdx, List.getElem?_mapIdx]
    cases hr : rs[i]? with
    | none => rfl
    | some r =>
      cases r with
      | none => rfl
      | some q =>
        have hq := List.all_eq_true.mp h (some q) (List.mem_of_getElem? hr)
        have : ¬ q = n := by simpa using hq
        show some (Value.ref (adx ad n x q)) = some (Value.ref (ad q))
        rw [adx_ne this]
  · rfl
  · simp only [celE]
    have e : (fun k : Nat => (rs[k]?).map (adx ad n x)) = fun k : Nat => (rs[k]?).map ad := by
      funext k
      cases hr : rs[k]? with
      | none => rfl
      | some q =>
        have hq := List.all_eq_true.mp h q (List.mem_of_getElem? hr)
        have : ¬ q = n := by simpa using hq
        show some (adx ad n x q) = some (ad q)
        rw [adx_ne this]
    rw [e]
theorem wld_push {ck : Nat → ClassId} {ad : Nat → Nat} {sh : List Shp} {w : Mem} {n x : Nat} {s : Shp} (hn : sh.length = n) (hsh : sh.all (shNe n) = true) :
    wld ck (adx ad n x) (sh ++ [s]) w = wld ck ad sh w ++ [(x, celE ck (adx ad n x) (w n) s)] := by
  apply List.ext_getElem?
  intro i
  rcases Nat.lt_trichotomy i n with h | h | h
  · rw [List.getElem?_append_left (by simpa [wld, hn] using h)]
    simp only [wld, List.getElem?_mapIdx]
    rw [List.getElem?_append_left (by omega)]
    cases hs : sh[i]? with
    | none => rfl
    | some s0 =>
      show some (adx ad n x i, celE ck (adx ad n x) (w i) s0) = some (ad i, celE ck ad (w i) s0)
      rw [adx_ne (by omega), celE_adx (List.all_eq_true.mp hsh s0 (List.mem_of_getElem? hs))]
  · subst h
    rw [List.getElem?_append_right (by simp [wld, hn])]
    simp only [wld, List.getElem?_mapIdx, List.length_mapIdx, hn, Nat.sub_self]
    rw [List.getElem?_append_right (by omega), hn, Nat.sub_self]
    show some (adx ad i x i, _) = some (x, _)
    rw [adx_eq]
  · rw [List.getElem?_eq_none (by simp [wld]; omega), List.getElem?_eq_none (by simp [wld]; omega)]
def mz (w : Mem) (n : Nat) : Mem := fun c k => if c = n then 0 else w c k
theorem mz_eq {w : Mem} {n k : Nat} : mz w n n k = 0 := if_pos rfl
theorem mz_ne {w : Mem} {n c k : Nat} (h : c ≠ n) : mz w n c k = w c k := if_neg h
theorem wld_mz {ck : Nat → ClassId} {ad : Nat → Nat} {sh : List Shp} {w : Mem} : wld ck ad sh (mz w sh.length) = wld ck ad sh w := by
  apply List.ext_getElem?
  intro i
  simp only [wld, List.getElem?_mapIdx]
  cases hs : sh[i]? with
  | none => rfl
  | some s0 =>
    have hi := (List.getElem?_eq_some_iff.mp hs).1
    have e : mz w sh.length i = w i := by funext k; exact mz_ne (by omega)
    rw [e]
theorem va_P.left {D : va_G} {cl : List vw_C} {w1 w2 : va_W} {H : Heap} (h : va_P D cl (w1 ++ w2) H) : va_P D cl w1 H := fun k q hk => h k q (by
  rw [List.getElem?_append_left (List.getElem?_eq_some_iff.mp hk).1]; exact hk)
theorem Stt.adx {ad : Nat → Nat} {A : Nat → Prop} {U : State} {H : Heap} {n x : Nat} (hn : n < 1000) : Stt (adx ad n x) A U H ↔ Stt ad A U H := by
  unfold Stt Scr
  rw [adx_ne (k := 1000) (by omega), adx_ne (k := 1001) (by omega), adx_ne (k := 1002) (by omega), adx_ne (k := 2000) (by omega), adx_ne (k := 3000) (by omega)]
theorem ainj_left {ad : Nat → Nat} {n x : Nat} (h : ainj (adx ad n x) (n + 1)) : ainj ad n := fun i j hi hj e => h i j (by omega) (by omega) (by rw [adx_ne (by omega), adx_ne (by omega)]; exact e)
theorem AW_left {ad : Nat → Nat} {n x : Nat} {q : Nat} (h : AW ad n q) : AW (adx ad n x) (n + 1) q := by
  obtain ⟨k, hk, e⟩ := h
  exact ⟨k, by omega, by rw [adx_ne (by omega)]; exact e⟩
theorem AN_left {ad : Nat → Nat} {n x sz : Nat} {q : Nat} (h : AN ad n sz q) : AN (adx ad n x) (n + 1) sz q := h.elim (fun z => Or.inl (AW_left z)) Or.inr
/-- a contract holds beside one more array, which it leaves as it is -/
theorem ev_lift {l : Launch} {D : va_G} {ck : Nat → ClassId} {ad : Nat → Nat} {sh : List Shp} {y : MethodName} {cc : ByteArray} {nL : Nat} {ret : Option FieldType} {R : Room} {as : List MV} {w : Mem} {K : Post} {n x : Nat} {s : Shp}
    (hn : sh.length = n) (hn1 : n < 1000) (has : as.all (refNe n) = true) (hsh : sh.all (shNe n) = true) (hK : ∀ r w1, K r w1 → (∀ k, w1 n k = w n k) ∧ (r.all (refNe n)) = true)
    (hev : Ev l D ck ad sh y cc nL ret R as w K) : Ev l D ck (adx ad n x) (sh ++ [s]) y cc nL ret R as w K := by
  have hl : (sh ++ [s]).length = n + 1 := by simp [hn]
  intro sz
  refine MetFree.mono (hev sz) ?_ (fun _ _ _ _ _ z => z) ?_
  · intro a U ⟨ha, hP, hKc, hSt, hi, hz⟩
    rw [wld_push hn hsh] at hP
    rw [hl] at hSt hi
    rw [map_adx has] at ha
    refine ⟨ha, hP.left, hKc, ?_, by rw [hn]; exact ainj_left hi, hz⟩
    rw [hn]
    exact ((Stt.adx hn1).mp hSt).narrow (fun q hq => AW_left hq)
  · intro a U o t ⟨ha, hP, hKc, hSt, hi, hz⟩ ⟨⟨⟨r, w1, ho, hk, hP1⟩, hF⟩, L, hE, hLf⟩
    rw [hl] at hi
    obtain ⟨hw, hr⟩ := hK r w1 hk
    rw [wld_push hn hsh] at hP
    rw [hn] at hF hLf
    have hx := hP (wld ck ad sh w).length _ (by rw [List.getElem?_append_right (Nat.le_refl _), Nat.sub_self]; rfl)
    have hlt := hx.lt
    have hnot : ¬ AW ad n x := by
      rintro ⟨k, hk2, e⟩
      have := hi n k (by omega) (by omega) (by rw [adx_eq, adx_ne (by omega)]; exact e)
      omega
    refine ⟨⟨⟨r, w1, ?_, hk, ?_⟩, ?_⟩, L, hE, fun q hq => ?_⟩
    · rw [ho]
      cases r with
      | none => rfl
      | some v =>
        show Outcome.returned (some (mval ad v)) = Outcome.returned (some (mval (adx ad n x) v))
        rw [mval_adx (by simpa using hr)]
    · rw [wld_push hn hsh]
      refine hP1.app (fun k q hq => ?_)
      have hk0 : k = 0 := by
        have := (List.getElem?_eq_some_iff.mp hq).1
        simp at this; exact this
      subst hk0
      rw [List.getElem?_cons_zero, Option.some.injEq] at hq
      subst hq
      have e : w1 n = w n := by funext k; exact hw k
      rw [e]
      exact hx.kept (hF.2 _ hlt hnot)
    · rw [hl]
      exact ⟨hF.1, fun q h1 h2 => hF.2 q h1 (fun z => h2 (AW_left z))⟩
    · rw [hl]; exact AN_left (hLf q hq)
theorem ac_int : Cond.arrayClass (newarray.typeOf .int) ∈ lw_gw := gw (tin1 (List.mem_of_getElem? (i := 35) (by decide +kernel))) rfl
theorem va_K.one {D : va_G} {ck : Nat → ClassId} {cA : ClassId} {ty : FieldType} {s : State} (h : va_K D vwCl (tysOf ck ++ [(cA, ty)]) s) (k : Nat) (hk : (tysOf ck)[k]? = some (ck k, ty)) (hb : k < 5) : cA = ck k := by
  have h1 := (h.2 5 (cA, ty) rfl).2
  have h2 := (h.2 k (ck k, ty) (by rw [List.getElem?_append_left (by simpa using hb)]; exact hk)).2
  cases ty <;> first
    | (obtain ⟨_, _, _, _, _, e1⟩ := h1
       obtain ⟨_, _, _, _, _, e2⟩ := h2
       exact Option.some.inj (e1.symm.trans e2))
    | exact Option.some.inj (h1.symm.trans h2)
section GROW
variable {l : Launch} {D : va_G} {ck : Nat → ClassId} {ad : Nat → Nat} {sh : List Shp} {own : String} {cc : ByteArray} {nL : Nat} {R : Room} {B : Nat} {V : XW} {pc q : Nat} {ls : List (Option MV)} {st : List MV} {w : Mem} {K : Post}
theorem LR.adx {lsR : Array Slot} {n x : Nat} (hls : lsNe n ls = true) (h : LR ad nL lsR ls) : LR (adx ad n x) nL lsR ls := ⟨h.1, h.2.1, fun i v hv => by
  rw [mval_adx (by have := List.all_eq_true.mp hls _ (List.mem_of_getElem? hv); exact this)]
  exact h.2.2 i v hv⟩
theorem go_slenb (hd : decode cc pc = .ok (.arraylength, 1)) (hq : pc + 1 = q) (k : ad 3000 ≤ 260 → Go l D ck ad sh own cc nL R B V q ls (vI ((ad 3000 : Nat) : Int) :: st) w K) : Go l D ck ad sh own cc nL R B V pc ls (vR 2000 :: st) w K := by
  intro p e s m args below meth c A cells slots Q H locs lsR C hP hS hl hex
  exact go_slen hd hq (k C.2.2.2.2.2.2.2.2.1.2.2.2.1) p e s m args below meth c A cells slots Q H locs lsR C hP hS hl hex
theorem go_newa {n N : Nat} {xi : Int} (hn : sh.length = n) (hn1 : n < 1000) (hN : wr xi = (N : Int) ∧ N ≤ 64) (hls : lsNe n ls = true) (hst : st.all (refNe n) = true) (hsh : sh.all (shNe n) = true) (hd : decode cc pc = .ok (.newarray .int, 2)) (hq : pc + 2 = q)
    (k : ∀ x : Nat, Go l D ck (adx ad n x) (sh ++ [rInt N]) own cc nL R B V q ls (vR n :: st) (mz w n) K) : Go l D ck ad sh own cc nL R (B + 1) V pc ls (vI xi :: st) w K := by
  subst hq
  intro p e s m args below meth c A cells slots Q H locs lsR C hP hS hl hex
  have hlen : (sh ++ [rInt N]).length = n + 1 := by simp [hn]
  refine va_newa C.1 C.2.1 (atype := .int) (C.2.2.2.2.1 _ ac_int) rfl C.2.2.2.2.2.1 hP (wld_D C.2.2.2.2.2.2.2.2.2 C.2.2.2.2.2.2.1) hS C.2.2.2.2.2.2.2.1.2 (a0 := (N, .inl (fun _ => 0))) (fun _ => rfl) (by rw [oi_lt0, hN.1]; omega) (oi_nat hN.1) (by show N * 4 ≤ _; omega) (by have := C.2.2.2.2.2.2.2.1.1.1; omega) (by have := C.2.2.2.2.2.2.2.1.1.2; omega) hd (fun x cA H1 hK hP1 hD1 hS1 => ?_)
  have e1 : cA = ck 0 := hK.one 0 rfl (by decide)
  subst e1
  have ew : wld ck ad sh w ++ [(x, .inl (ck 0, N, .inl (fun _ => 0)))] = wld ck (adx ad n x) (sh ++ [rInt N]) (mz w n) := by
    rw [wld_push hn hsh]
    congr 1
    · rw [← hn]; exact wld_mz.symm
    · congr 1
      show (x, _) = (x, celE ck (adx ad n x) (mz w n n) (rInt N))
      have e3 : (fun _ : Nat => (0 : Int32)) = fun j => Int32.ofInt (mz w n n j) := by funext j; rw [mz_eq]; rfl
      simp only [celE]
      rw [e3]
  rw [ew] at hP1 hD1
  have hat : ∀ i, i < n + 1 → ∃ E, (wld ck (adx ad n x) (sh ++ [rInt N]) (mz w n))[i]? = some (adx ad n x i, E) := by
    intro i hi
    have hi2 : i < (sh ++ [rInt N]).length := by omega
    exact ⟨_, wld_at (List.getElem?_eq_getElem hi2)⟩
  refine (?_ : W p l e R s m args below meth c H1 locs (cells + 1) (slots + N) Q (F0 m (pc + 2) lsR ((vR n :: st).map (mval (adx ad n x))))) |> fun z => ?_
  · rw [List.map_cons, map_adx hst] at z
    have e2 : mval (adx ad n x) (vR n) = .ref x := by show Value.ref (adx ad n x n) = _; rw [adx_eq]
    rw [e2] at z
    exact z
  · refine k x p e s m args below meth c A (cells + 1) (slots + N) Q H1 locs lsR ⟨C.1, C.2.1, C.2.2.1, C.2.2.2.1, C.2.2.2.2.1, C.2.2.2.2.2.1, fun i hi => ?_, ⟨⟨by have := C.2.2.2.2.2.2.2.1.1.1; omega, by have := C.2.2.2.2.2.2.2.1.1.2; omega⟩, C.2.2.2.2.2.2.2.1.2⟩, (Stt.adx hn1).mpr C.2.2.2.2.2.2.2.2.1, fun i j hi hj e => ?_⟩ hP1 hS1 (hl.adx hls) ⟨fun w2 H2 hP2 => ?_, hex.2⟩
    · rw [hlen] at hi
      obtain ⟨E, hE⟩ := hat i hi
      exact hD1.2 i _ hE
    · rw [hlen] at hi hj
      obtain ⟨E, hE⟩ := hat i hi
      obtain ⟨E2, hE2⟩ := hat j hj
      exact hD1.1 i j _ _ hE hE2 e
    · rw [wld_push hn hsh] at hP2
      exact hex.1 w2 H2 hP2.left
def VT : XW := fun _ _ => True
def lsd (n : Nat) (ls : List (Option MV)) : List (Option MV) := ls.map (fun o => match o with | some v => (if refNe n v = true then some v else none) | none => none)
theorem lsd_at {n i : Nat} {v : MV} (h : (lsd n ls)[i]? = some (some v)) : ls[i]? = some (some v) ∧ refNe n v = true := by
  unfold lsd at h
  rw [List.getElem?_map] at h
  cases ho : ls[i]? with
  | none => rw [ho] at h; cases h
  | some o =>
    rw [ho] at h
    cases o with
    | none => cases h
    | some u =>
      by_cases q : refNe n u = true
      · simp only [Option.map_some, q, if_true, Option.some.injEq] at h
        subst h; exact ⟨rfl, q⟩
      · simp [q] at h
/-- where the exit asks nothing of the world, the last array may be forgotten -/
theorem go_drop {n x : Nat} {s : Shp} {ls2 : List (Option MV)} (hn : sh.length = n) (hn1 : n < 1000) (hst : st.all (refNe n) = true) (hsh : sh.all (shNe n) = true) (hls : lsd n ls = ls2) (k : Go l D ck ad sh own cc nL R B VT pc ls2 st w K) : Go l D ck (adx ad n x) (sh ++ [s]) own cc nL R B VT pc ls st w K := by
  subst hls
  have hlen : (sh ++ [s]).length = n + 1 := by simp [hn]
  intro p e s0 m args below meth c A cells slots Q H locs lsR C hP hS hl hex
  rw [wld_push hn hsh] at hP
  rw [map_adx hst]
  refine k p e s0 m args below meth c A cells slots Q H locs lsR ⟨C.1, C.2.1, C.2.2.1, C.2.2.2.1, C.2.2.2.2.1, C.2.2.2.2.2.1, fun i hi => ?_, C.2.2.2.2.2.2.2.1, (Stt.adx hn1).mp C.2.2.2.2.2.2.2.2.1, by have := C.2.2.2.2.2.2.2.2.2; rw [hlen] at this; rw [hn]; exact ainj_left this⟩ hP.left hS ⟨hl.1, hl.2.1, fun i v hv => ?_⟩ ⟨fun _ _ _ => trivial, hex.2⟩
  · have := C.2.2.2.2.2.2.1 i (by omega)
    rw [adx_ne (by omega)] at this; exact this
  · obtain ⟨h1, h2⟩ := lsd_at hv
    have := hl.2.2 i v h1
    rw [mval_adx h2] at this; exact this
end GROW
theorem shA_ne : shA.all (shNe 48) = true := by decide +kernel
theorem shA_len : shA.length = 48 := by decide +kernel
