theorem go_astore {l : Launch} {D : va_G} {ck : Nat → ClassId} {ad : Nat → Nat} {sh : List Shp} {own : String} {cc : ByteArray} {nL : Nat} {R : Room} {B : Nat} {V : XW} {pc q : Nat} {ls : List (Option MV)} {st : List MV} {w : Mem} {K : Post} {j : Nat} {x : Nat} (hn : j < nL) (ho : okst ls j = true) {ls2 : List (Option MV)} (hls : ls.set j (some (vR x)) = ls2) (hd : decode cc pc = .ok (.astore j, 2)) (hq : pc + 2 = q) (k : Go l D ck ad sh own cc nL R B V q ls2 st w K) : Go l D ck ad sh own cc nL R B V pc ls (vR x :: st) w K := by
  subst hq
  intro p e s m args below meth c A cells slots Q H locs lsR C hP hS hl hex
  subst hls; exact lv_astore C.1 C.2.1 hd hl.has hn rfl (fun ls9 hl2 => k p e s m args below meth c A cells slots Q H locs _ C hP hS (LR.st1 ho hl2) hex)
/-! counts by codes -/
theorem cnt_at {n a c r : Nat} {f g : Nat → Nat → Nat} {s : Nat → Int} {E : (Nat → Nat) → Prop} (hn : 1 ≤ n) (hga : ∀ k, k < c → lastA g k < a) (hE : cgr a E) (hr : r < n ^ a) : cdB n a (fun col => isColP c f g s col ∧ E col) r = true ↔ isColP c f g s (dg n a r) ∧ E (dg n a r) := by
  rw [cdB_iff]
  have h := cdP_at (n := n) (col := dg n a r) (and_cgr (isCol_cgr (f := f) (s := s) hga) hE) (fun i _ => dg_lt hn)
  rw [dg_code hn hr] at h
  exact h
theorem cnt_yes {n a c r : Nat} {f g : Nat → Nat → Nat} {s : Nat → Int} {E : (Nat → Nat) → Prop} (hn : 1 ≤ n) (hga : ∀ k, k < c → lastA g k < a) (hE : cgr a E) (hr : r < n ^ a) (h1 : isColP c f g s (dg n a r)) (h2 : E (dg n a r)) : cntP n a c f g s E (r + 1) = cntP n a c f g s E r + 1 := by
  show cN _ _ + _ = _
  rw [if_pos ((cnt_at hn hga hE hr).mpr ⟨h1, h2⟩)]; rfl
theorem cnt_no {n a c r : Nat} {f g : Nat → Nat → Nat} {s : Nat → Int} {E : (Nat → Nat) → Prop} (hn : 1 ≤ n) (hga : ∀ k, k < c → lastA g k < a) (hE : cgr a E) (hr : r < n ^ a) (h : ¬ (isColP c f g s (dg n a r) ∧ E (dg n a r))) : cntP n a c f g s E (r + 1) = cntP n a c f g s E r := by
  show cN _ _ + _ = _
  rw [if_neg (fun z => h ((cnt_at hn hga hE hr).mp z))]; rfl
theorem cnt_z {n a c : Nat} {f g : Nat → Nat → Nat} {s : Nat → Int} {E : (Nat → Nat) → Prop} : cntP n a c f g s E 0 = 0 := rfl
/-- the law's own table and diagram are the class's -/
def LX (w : Mem) (W : WA) : Prop := TB w 45 (wN W) (wF W) ∧ w 45 1 = (wA W : Int) ∧ LC w (wC W) (wG W) (wS W)
theorem LX_same {w w1 : Mem} {W : WA} (h : LX w W) (hs : ∀ c k, 45 ≤ c → c < 48 → w1 c k = w c k) : LX w1 W :=
  ⟨TB_same h.1 (fun k => hs _ _ (by omega) (by omega)) (fun k => hs _ _ (by omega) (by omega)), by rw [hs _ _ (by omega) (by omega)]; exact h.2.1, LC_same h.2.2 (hs _ _ (by omega) (by omega)) (fun k => hs _ _ (by omega) (by omega))⟩
theorem LB_of {w : Mem} {W : WA} (h : PXW w W) : LB (wA W) (wC W) (wG W) (wS W) := ⟨h.1.2.2.2.1.1, fun k hk => (h.1.2.2.2.2 k hk).2⟩
theorem lift_XR {l : Launch} {D : va_G} {ck : Nat → ClassId} {ad : Nat → Nat} {y : MethodName} {cc : ByteArray} {nL : Nat} {ret : Option FieldType} {R : Room} {as : List MV} {w : Mem} {r : Int × WA} {x : Nat} {s : Shp} (has : as.all (refNe 48) = true) (h : Ev l D ck ad shA y cc nL ret R as w (Pi (XR w r))) : Ev l D ck (adx ad 48 x) (shA ++ [s]) y cc nL ret R as w (Pi (XR w r)) :=
  ev_lift shA_len (by decide) has shA_ne (fun r w1 ⟨v, e, h⟩ => ⟨fun k => h.2.2 48 k (by decide), by subst e; rfl⟩) h
section LAW6
variable {l : Launch} {D : va_G} {ck : Nat → ClassId} {ad : Nat → Nat} {sh : List Shp} {w : Mem} {W : WA}
theorem el_colourings (hP : PXW w W) (hX : LX w W) (hall : (wN W) ^ (wA W) < 4100) {xi : Int} : eL_colourings l D ck ad shA [vR 0, vI xi, vR 45, vR 46, vR 47] w (Pz (fun w1 => PXW w1 W ∧ ∀ c k, 45 ≤ c → c < 48 → w1 c k = w c k) (fun _ => False)) := by
  have g0 : w 45 0 = ((wN W) : Int) := hX.1.1
  have g1 : w 45 1 = ((wA W) : Int) := hX.2.1
  have hn := hX.1.2.1
  have hB := LB_of hP
  have ha := hB.1
  have hga : ∀ k, k < (wC W) → lastA (wG W) k < (wA W) := lastA_lt hP.1.2
  refine ev_of_goBK (B := 1) ⟨Nat.le_of_ble_eq_true rfl, Nat.le_of_ble_eq_true rfl⟩ (own := RL) (ls := [some (vR 0), some (vI xi), some (vR 45), some (vR 46), some (vR 47), none, none, none, none, none, none, none, none, none, none, none, none]) (by decide +kernel) rfl rfl (Nat.le_of_ble_eq_true rfl) rkZ ?_
  intro K hK
  refine go_iconst (q := 1) dL_colourings_0 rfl ?_
  refine go_istore (j := 5) (q := 3) (ls2 := [_, _, _, _, _, _, _, _, _, _, _, _, _, _, _, _, _]) (by decide) rfl rfl dL_colourings_1 rfl ?_
  refine go_iconst (q := 4) dL_colourings_3 rfl ?_
  refine go_istore (j := 6) (q := 6) (ls2 := [_, _, _, _, _, _, _, _, _, _, _, _, _, _, _, _, _]) (by decide) rfl rfl dL_colourings_4 rfl ?_
  have lp6 : ∀ (m6 : Nat) (k : Nat) (ali ki : Int) (ek : ki = k) (hk : k ≤ (wA W)) (eal : ali = (((wN W) ^ k : Nat) : Int)), m6 = (wA W) - k → gL_colourings l D ck ad shA 1 (VW D ck ad shA) 6 [some (vR 0), some (vI xi), some (vR 45), some (vR 46), some (vR 47), some (vI ali), some (vI ki), none, none, none, none, none, none, none, none, none, none] [] w K := by
    intro m6
    induction m6 using Nat.strongRecOn with
    | _ m6 ih6 =>
    intro k ali ki ek hk eal em6
    refine go_iload (j := 6) (q := 8) rfl dL_colourings_6 rfl ?_
    refine go_aload_n (j := 2) (q := 9) rfl rfl dL_colourings_8 rfl ?_
    refine go_iconst (q := 10) dL_colourings_9 rfl ?_
    refine go_iald (j := 1) (q := 11) (by first | assumption | rfl) (wr_eq (by omega)) (by omega) dL_colourings_10 rfl ?_
    refine go_icmp_ge2 (q := 14) (t := 28) dL_colourings_11 (by decide) rfl (by omega) (fun c11 => ?_) (fun c11 => ?_)
    · refine go_iload_n (j := 1) (q := 29) rfl rfl dL_colourings_28 rfl ?_
      refine go_aload_n (j := 2) (q := 30) rfl rfl dL_colourings_29 rfl ?_
      refine go_iconst (q := 31) dL_colourings_30 rfl ?_
      refine go_iald (j := 1) (q := 32) (by first | assumption | rfl) (wr_eq (by omega)) (by omega) dL_colourings_31 rfl ?_
      refine go_callSi (as := [_, _]) (rest := []) (n := 2) (q := 35) dL_colourings_32 lk_L_29 rfl (by decide +kernel) rfl ⟨by decide, by decide⟩ ⟨rfl, rfl⟩ (Nat.le_of_ble_eq_true rfl) (el_low (by omega)) rfl (fun x32 w32 h32 => ?_)
      obtain ⟨h32, rfl⟩ := h32
      refine go_istore (j := 6) (q := 37) (ls2 := [_, _, _, _, _, _, _, _, _, _, _, _, _, _, _, _, _]) (by decide) rfl rfl dL_colourings_35 rfl ?_
      refine go_iload_n (j := 1) (q := 38) rfl rfl dL_colourings_37 rfl ?_
      refine go_iconst (q := 39) dL_colourings_38 rfl ?_
      refine go_ishr (q := 40) dL_colourings_39 rfl ?_
      refine go_aload_n (j := 2) (q := 41) rfl rfl dL_colourings_40 rfl ?_
      refine go_iconst (q := 42) dL_colourings_41 rfl ?_
      refine go_iald (j := 1) (q := 43) (by first | assumption | rfl) (wr_eq (by omega)) (by omega) dL_colourings_42 rfl ?_
      refine go_callSi (as := [_, _]) (rest := []) (n := 2) (q := 46) dL_colourings_43 lk_L_29 rfl (by decide +kernel) rfl ⟨by decide, by decide⟩ ⟨rfl, rfl⟩ (Nat.le_of_ble_eq_true rfl) (el_low (by omega)) rfl (fun x43 w43 h43 => ?_)
      obtain ⟨h43, rfl⟩ := h43
      refine go_istore (j := 7) (q := 48) (ls2 := [_, _, _, _, _, _, _, _, _, _, _, _, _, _, _, _, _]) (by decide) rfl rfl dL_colourings_46 rfl ?_
      refine go_iload_n (j := 1) (q := 49) rfl rfl dL_colourings_48 rfl ?_
      refine go_bipush (q := 51) rfl dL_colourings_49 rfl ?_
      refine go_ishr (q := 52) dL_colourings_51 rfl ?_
      refine go_aload_n (j := 2) (q := 53) rfl rfl dL_colourings_52 rfl ?_
      refine go_iconst (q := 54) dL_colourings_53 rfl ?_
      refine go_iald (j := 0) (q := 55) (by first | assumption | rfl) (wr_eq (by omega)) (by omega) dL_colourings_54 rfl ?_
      refine go_callSi (as := [_, _]) (rest := []) (n := 2) (q := 58) dL_colourings_55 lk_L_29 rfl (by decide +kernel) rfl ⟨by decide, by decide⟩ ⟨rfl, rfl⟩ (Nat.le_of_ble_eq_true rfl) (el_low (by omega)) rfl (fun x55 w55 h55 => ?_)
      obtain ⟨h55, rfl⟩ := h55
      refine go_istore (j := 8) (q := 60) (ls2 := [_, _, _, _, _, _, _, _, _, _, _, _, _, _, _, _, _]) (by decide) rfl rfl dL_colourings_58 rfl ?_
      obtain ⟨E, hE⟩ : ∃ E, E = (wN W) ^ (wA W) := ⟨_, rfl⟩
      rw [show k = (wA W) by omega, ← hE] at eal
      rw [← hE] at hall
      refine go_iconst (q := 61) dL_colourings_60 rfl ?_
      refine go_istore (j := 9) (q := 63) (ls2 := [_, _, _, _, _, _, _, _, _, _, _, _, _, _, _, _, _]) (by decide) rfl rfl dL_colourings_61 rfl ?_
      refine go_iconst (q := 64) dL_colourings_63 rfl ?_
      refine go_istore (j := 10) (q := 66) (ls2 := [_, _, _, _, _, _, _, _, _, _, _, _, _, _, _, _, _]) (by decide) rfl rfl dL_colourings_64 rfl ?_
      refine go_iconst (q := 67) dL_colourings_66 rfl ?_
      refine go_istore (j := 11) (q := 69) (ls2 := [_, _, _, _, _, _, _, _, _, _, _, _, _, _, _, _, _]) (by decide) rfl rfl dL_colourings_67 rfl ?_
      refine go_bipush (q := 71) rfl dL_colourings_69 rfl ?_
      refine go_newa (n := 48) (N := 7) (q := 73) shA_len (by decide) ⟨by decide +kernel, by decide⟩ rfl rfl shA_ne dL_colourings_71 rfl (fun x71 => ?_)
      have hs48 : (shA ++ [rInt 7])[48]? = some (rInt 7) := rfl
      have hs45 : (shA ++ [rInt 7])[45]? = some (rInt 3) := rfl
      have hs46 : (shA ++ [rInt 7])[46]? = some (rInt 36) := rfl
      have hs47 : (shA ++ [rInt 7])[47]? = some (rInt 40) := rfl
      have hs0 : (shA ++ [rInt 7])[0]? = some (.inl (6, [some 1, some 3, some 5, some 10, some 12, some 16, some 18])) := rfl
      refine go_astore (j := 12) (q := 75) (ls2 := [_, _, _, _, _, _, _, _, _, _, _, _, _, _, _, _, _]) (by decide) rfl rfl dL_colourings_73 rfl ?_
      refine go_iload_n (j := 1) (q := 76) rfl rfl dL_colourings_75 rfl ?_
      refine go_bipush (q := 78) rfl dL_colourings_76 rfl ?_
      refine go_ishr (q := 79) dL_colourings_78 rfl ?_
      refine go_bipush (q := 81) rfl dL_colourings_79 rfl ?_
      refine go_callSi (as := [_, _]) (rest := []) (n := 2) (q := 84) dL_colourings_81 lk_L_29 rfl (by decide +kernel) rfl ⟨by decide, by decide⟩ ⟨rfl, rfl⟩ (Nat.le_of_ble_eq_true rfl) (el_low (by omega)) rfl (fun x81 w81 h81 => ?_)
      obtain ⟨h81, rfl⟩ := h81
      refine go_istore (j := 13) (q := 86) (ls2 := [_, _, _, _, _, _, _, _, _, _, _, _, _, _, _, _, _]) (by decide) rfl rfl dL_colourings_84 rfl ?_
      refine go_iconst (q := 87) dL_colourings_86 rfl ?_
      refine go_istore (j := 14) (q := 89) (ls2 := [_, _, _, _, _, _, _, _, _, _, _, _, _, _, _, _, _]) (by decide) rfl rfl dL_colourings_87 rfl ?_
      have lp89 : ∀ (m89 : Nat) (r : Nat) (mi wi li ci : Int) (o15 o16 : Option MV) (w5 : Mem) (er : ci = r) (hr : r ≤ E) (hP5 : PXW w5 W) (hf5 : ∀ c k, 45 ≤ c → c < 48 → w5 c k = w c k) (emi : mi = (cntP (wN W) (wA W) (wC W) (wF W) (wG W) (wS W) tt r : Nat)) (ewi : wi = (cntP (wN W) (wA W) (wC W) (wF W) (wG W) (wS W) (eW x32.toNat x55.toNat) r : Nat)) (eli : li = (cntP (wN W) (wA W) (wC W) (wF W) (wG W) (wS W) (eA x32.toNat x43.toNat) r : Nat)) (hu5 : ∀ u, u < 7 → w5 48 u = (cntP (wN W) (wA W) (wC W) (wF W) (wG W) (wS W) (eU (wA W) u) r : Nat)), m89 = E - r → gL_colourings l D ck (adx ad 48 x71) (shA ++ [rInt 7]) 0 (VW D ck ad shA) 89 [some (vR 0), some (vI xi), some (vR 45), some (vR 46), some (vR 47), some (vI ali), some (vI x32), some (vI x43), some (vI x55), some (vI mi), some (vI wi), some (vI li), some (vR 48), some (vI x81), some (vI ci), o15, o16] [] w5 K := by
        intro m89
        induction m89 using Nat.strongRecOn with
        | _ m89 ih89 =>
        intro r mi wi li ci o15 o16 w5 er hr hP5 hf5 emi ewi eli hu5 em89
        have hX5 := LX_same hX hf5
        have g05 : w5 45 0 = ((wN W) : Int) := hX5.1.1
        have g15 : w5 45 1 = ((wA W) : Int) := hX5.2.1
        have b1 := cnt_le (n := (wN W)) (a := (wA W)) (c := (wC W)) (f := (wF W)) (g := (wG W)) (s := (wS W)) (E := tt) r
        have b2 := cnt_le (n := (wN W)) (a := (wA W)) (c := (wC W)) (f := (wF W)) (g := (wG W)) (s := (wS W)) (E := eW x32.toNat x55.toNat) r
        have b3 := cnt_le (n := (wN W)) (a := (wA W)) (c := (wC W)) (f := (wF W)) (g := (wG W)) (s := (wS W)) (E := eA x32.toNat x43.toNat) r
        refine go_iload (j := 14) (q := 91) rfl dL_colourings_89 rfl ?_
        refine go_iload (j := 5) (q := 93) rfl dL_colourings_91 rfl ?_
        refine go_icmp_ge2 (q := 96) (t := 264) dL_colourings_93 (by decide) rfl (by omega) (fun c93 => ?_) (fun c93 => ?_)
        · rw [show r = E by omega] at emi ewi eli b1 b2 b3
          have hu6 : ∀ u, u < 7 → w5 48 u = (cntP (wN W) (wA W) (wC W) (wF W) (wG W) (wS W) (eU (wA W) u) E : Nat) := fun u hu => by rw [hu5 u hu, show r = E by omega]
          rw [hE] at emi ewi eli hu6
          refine go_iconst (q := 265) dL_colourings_264 rfl ?_
          refine go_istore (j := 14) (q := 267) (ls2 := [_, _, _, _, _, _, _, _, _, _, _, _, _, _, _, _, _]) (by decide) rfl rfl dL_colourings_265 rfl ?_
          have lp267 : ∀ (m267 : Nat) (k : Nat) (ki : Int) (w6 : Mem) (ek : ki = k) (hk : 1 ≤ k ∧ k ≤ 7) (hP6 : PXW w6 W) (hf6 : ∀ c k, 45 ≤ c → w6 c k = w5 c k), m267 = 7 - k → gL_colourings l D ck (adx ad 48 x71) (shA ++ [rInt 7]) 0 (VW D ck ad shA) 267 [some (vR 0), some (vI xi), some (vR 45), some (vR 46), some (vR 47), some (vI ali), some (vI x32), some (vI x43), some (vI x55), some (vI mi), some (vI wi), some (vI li), some (vR 48), some (vI x81), some (vI ki), o15, o16] [] w6 K := by
            intro m267
            induction m267 using Nat.strongRecOn with
            | _ m267 ih267 =>
            intro k ki w6 ek hk hP6 hf6 em267
            refine go_iload (j := 14) (q := 269) rfl dL_colourings_267 rfl ?_
            refine go_bipush (q := 271) rfl dL_colourings_269 rfl ?_
            refine go_icmp_ge2 (q := 274) (t := 296) dL_colourings_271 (by decide) rfl (by omega) (fun c271 => ?_) (fun c271 => ?_)
            · rw [hE] at b1 b2 b3
              refine go_aload_n (j := 0) (q := 297) rfl rfl dL_colourings_296 rfl ?_
              refine go_callVi (as := [_]) (As := []) (rest := []) (n := 0) (q := 300) dL_colourings_297 lk_L_43 (ci := 6) (N := 7) (T := TX6) rfl (by first | assumption | rfl) rfl rfl (by decide +kernel) rfl ⟨by decide, by decide⟩ ⟨rfl, rfl⟩ (Nat.le_of_ble_eq_true rfl) (lift_XR rfl (ex30 hP6)) rfl (fun x297 w297 h297 => ?_)
              obtain ⟨e297, hP8, f8⟩ := h297
              have hP8 : PXW w297 W := hP8
              have q297 : x297 = (cntP (wN W) (wA W) (wC W) (wF W) (wG W) (wS W) tt ((wN W) ^ (wA W)) : Nat) := e297
              refine go_iload (j := 9) (q := 302) rfl dL_colourings_300 rfl ?_
              refine go_icmp_ne2 (q := 305) (t := 347) dL_colourings_302 (by decide) rfl (by omega) (fun c302 => ?_) (fun c302 => ?_)
              · exact absurd (by omega) c302
              · refine go_aload_n (j := 0) (q := 306) rfl rfl dL_colourings_305 rfl ?_
                refine go_iload (j := 6) (q := 308) rfl dL_colourings_306 rfl ?_
                refine go_iload (j := 8) (q := 310) rfl dL_colourings_308 rfl ?_
                refine go_callVi (as := [_, _, _]) (As := [_, _]) (rest := []) (n := 2) (q := 313) dL_colourings_310 lk_L_47 (ci := 6) (N := 7) (T := TX6) rfl (by first | assumption | rfl) rfl rfl (by decide +kernel) rfl ⟨by decide, by decide⟩ ⟨rfl, rfl⟩ (Nat.le_of_ble_eq_true rfl) (lift_XR rfl (ex31 hP8 (by omega) (by omega))) rfl (fun x310 w310 h310 => ?_)
                obtain ⟨e310, hP9, f9⟩ := h310
                have hP9 : PXW w310 W := hP9
                have q310 : x310 = (cntP (wN W) (wA W) (wC W) (wF W) (wG W) (wS W) (eW x32.toNat x55.toNat) ((wN W) ^ (wA W)) : Nat) := by
                  rw [e310]
                  unfold op31
                  show cif _ _ _ = _
                  rw [cif_t (by omega)]; rfl
                refine go_iload (j := 10) (q := 315) rfl dL_colourings_313 rfl ?_
                refine go_icmp_ne2 (q := 318) (t := 347) dL_colourings_315 (by decide) rfl (by omega) (fun c315 => ?_) (fun c315 => ?_)
                · exact absurd (by omega) c315
                · refine go_aload_n (j := 0) (q := 319) rfl rfl dL_colourings_318 rfl ?_
                  refine go_iload (j := 6) (q := 321) rfl dL_colourings_319 rfl ?_
                  refine go_iload (j := 7) (q := 323) rfl dL_colourings_321 rfl ?_
                  refine go_callVi (as := [_, _, _]) (As := [_, _]) (rest := []) (n := 2) (q := 326) dL_colourings_323 lk_L_50 (ci := 6) (N := 7) (T := TX6) rfl (by first | assumption | rfl) rfl rfl (by decide +kernel) rfl ⟨by decide, by decide⟩ ⟨rfl, rfl⟩ (Nat.le_of_ble_eq_true rfl) (lift_XR rfl (ex32 hP9 (by omega) (by omega))) rfl (fun x323 w323 h323 => ?_)
                  obtain ⟨e323, hP10, f10⟩ := h323
                  have hP10 : PXW w323 W := hP10
                  have q323 : x323 = (cntP (wN W) (wA W) (wC W) (wF W) (wG W) (wS W) (eA x32.toNat x43.toNat) ((wN W) ^ (wA W)) : Nat) := by
                    rw [e323]
                    unfold op32
                    show cif _ _ _ = _
                    rw [cif_t (by omega)]; rfl
                  refine go_iload (j := 11) (q := 328) rfl dL_colourings_326 rfl ?_
                  refine go_icmp_ne2 (q := 331) (t := 347) dL_colourings_328 (by decide) rfl (by omega) (fun c328 => ?_) (fun c328 => ?_)
                  · exact absurd (by omega) c328
                  · refine go_aload_n (j := 0) (q := 332) rfl rfl dL_colourings_331 rfl ?_
                    refine go_iload (j := 9) (q := 334) rfl dL_colourings_332 rfl ?_
                    refine go_iload (j := 6) (q := 336) rfl dL_colourings_334 rfl ?_
                    refine go_callVi (as := [_, _, _]) (As := [_, _]) (rest := []) (n := 2) (q := 339) dL_colourings_336 lk_L_37 (ci := 6) (N := 7) (T := TX6) rfl (by first | assumption | rfl) rfl rfl (by decide +kernel) rfl ⟨by decide, by decide⟩ ⟨rfl, rfl⟩ (Nat.le_of_ble_eq_true rfl) (lift_XR rfl (ex34 hP10 (by omega) (by omega))) rfl (fun x336 w336 h336 => ?_)
                    obtain ⟨e336, hP11, f11⟩ := h336
                    have q336 : x336 = -1 := by
                      rw [e336]
                      unfold op34
                      show cif _ _ _ = _
                      rw [cif_t (by omega)]
                      have hA : colA (wN W) (wA W) (wC W) (wF W) (wG W) (wS W) mi.toNat x32.toNat (-1) := Or.inr ⟨by omega, rfl⟩
                      exact (the_eq hA (fun u hu => colA_u hga (by omega) hu hA)).symm
                    refine go_iconst (q := 340) dL_colourings_339 rfl ?_
                    refine go_icmp_ne2 (q := 343) (t := 347) dL_colourings_340 (by decide) rfl (by omega) (fun c340 => ?_) (fun c340 => ?_)
                    · exact absurd (by omega) c340
                    · refine go_iconst (q := 344) dL_colourings_343 rfl ?_
                      refine go_goto (q := 348) dL_colourings_344 (by decide) ?_
                      refine go_iret dL_colourings_348 ?_
                      subst hK
                      exact Or.inl ⟨rfl, hP11, fun c k h1 h2 => by rw [f11 c k h1, f10 c k h1, f9 c k h1, f8 c k h1, hf6 c k h1]; exact hf5 c k h1 h2⟩
            · refine go_aload_n (j := 0) (q := 275) rfl rfl dL_colourings_274 rfl ?_
              refine go_iload (j := 14) (q := 277) rfl dL_colourings_275 rfl ?_
              refine go_callVi (as := [_, _]) (As := [_]) (rest := []) (n := 1) (q := 280) dL_colourings_277 lk_L_40 (ci := 6) (N := 7) (T := TX6) rfl (by first | assumption | rfl) rfl rfl (by decide +kernel) rfl ⟨by decide, by decide⟩ ⟨rfl, rfl⟩ (Nat.le_of_ble_eq_true rfl) (lift_XR rfl (ex33 hP6 (by omega))) rfl (fun x277 w277 h277 => ?_)
              obtain ⟨e277, hP7, f7⟩ := h277
              have b4 := cnt_le (n := (wN W)) (a := (wA W)) (c := (wC W)) (f := (wF W)) (g := (wG W)) (s := (wS W)) (E := eU (wA W) k) ((wN W) ^ (wA W))
              have hcu : x277 = (cntP (wN W) (wA W) (wC W) (wF W) (wG W) (wS W) (eU (wA W) k) ((wN W) ^ (wA W)) : Nat) := by
                rw [e277]
                unfold op33
                show cif _ _ _ = _
                rw [cif_t (by omega), show ki.toNat = k by omega]; rfl
              have hcv : w277 48 k = (cntP (wN W) (wA W) (wC W) (wF W) (wG W) (wS W) (eU (wA W) k) ((wN W) ^ (wA W)) : Nat) := by rw [f7 _ _ (by omega), hf6 _ _ (by omega)]; exact hu6 k (by omega)
              refine go_aload (j := 12) (q := 282) rfl dL_colourings_280 rfl ?_
              refine go_iload (j := 14) (q := 284) rfl dL_colourings_282 rfl ?_
              refine go_iald (j := k) (q := 285) (by first | assumption | rfl) (wr_eq (by omega)) (by omega) dL_colourings_284 rfl ?_
              refine go_icmp_eq2 (q := 288) (t := 290) dL_colourings_285 (by decide) rfl (by rw [hcv]; omega) (fun c285 => ?_) (fun c285 => ?_)
              · refine go_iinc (j := 14) (q := 293) (ls2 := [_, _, _, _, _, _, _, _, _, _, _, _, _, _, _, _, _]) rfl (by decide) rfl rfl dL_colourings_290 rfl ?_
                refine go_goto (q := 267) dL_colourings_293 (by decide) ?_
                exact ih267 _ (by omega) (k + 1) _ _ (by omega) (by omega) hP7 (fun c k h => by rw [f7 c k h]; exact hf6 c k h) rfl
              · exact absurd (hcu.trans hcv.symm) c285
          exact lp267 _ 1 _ _ rfl (by omega) hP5 (fun c k _ => rfl) rfl
        · refine go_iload (j := 14) (q := 98) rfl dL_colourings_96 rfl ?_
          refine go_aload_n (j := 2) (q := 99) rfl rfl dL_colourings_98 rfl ?_
          refine go_aload_n (j := 3) (q := 100) rfl rfl dL_colourings_99 rfl ?_
          refine go_aload (j := 4) (q := 102) rfl dL_colourings_100 rfl ?_
          refine go_callSz (as := [_, _, _, _]) (rest := []) (n := 4) (q := 105) dL_colourings_102 lk_L_33 rfl (by decide +kernel) rfl ⟨by decide, by decide⟩ ⟨rfl, rfl⟩ (Nat.le_of_ble_eq_true rfl) (el_good hs45 hs46 hs47 (r := r) er (by omega) hX5.1 g15 hX5.2.2 hB) rfl (fun w102 h102 => ?_) (fun w102 h102 => ?_)
          · obtain ⟨rfl, h102⟩ := h102
            refine go_if_neT (t := 111) dL_colourings_105 (by decide) (by decide) ?_
            have hdl := fun j => dg_lt (a := (wA W)) (r := r) (j := j) hn.1
            have hmk := fun k => msk_lt (g := dg (wN W) (wA W) r) (n := 6) k (fun i _ => by have := hdl i; omega)
            have tw : cgr (wA W) (eW x32.toNat x55.toNat) := eW_cgr (by omega)
            have tl : cgr (wA W) (eA x32.toNat x43.toNat) := eA_cgr (by omega) (by omega)
            have hmi := cnt_yes hn.1 hga tt_cgr (by omega) h102 trivial
            refine go_iconst (q := 112) dL_colourings_111 rfl ?_
            refine go_istore (j := 15) (q := 114) (ls2 := [_, _, _, _, _, _, _, _, _, _, _, _, _, _, _, _, _]) (by decide) rfl rfl dL_colourings_112 rfl ?_
            refine go_iconst (q := 115) dL_colourings_114 rfl ?_
            refine go_istore (j := 16) (q := 117) (ls2 := [_, _, _, _, _, _, _, _, _, _, _, _, _, _, _, _, _]) (by decide) rfl rfl dL_colourings_115 rfl ?_
            have lp117 : ∀ (m117 : Nat) (k : Nat) (ui ki : Int) (ek : ki = k) (hk : k ≤ (wA W)) (eu : ui = (msk (dg (wN W) (wA W) r) k : Nat)), m117 = (wA W) - k → gL_colourings l D ck (adx ad 48 x71) (shA ++ [rInt 7]) 0 (VW D ck ad shA) 117 [some (vR 0), some (vI xi), some (vR 45), some (vR 46), some (vR 47), some (vI ali), some (vI x32), some (vI x43), some (vI x55), some (vI mi), some (vI wi), some (vI li), some (vR 48), some (vI x81), some (vI ci), some (vI ui), some (vI ki)] [] w5 K := by
              intro m117
              induction m117 using Nat.strongRecOn with
              | _ m117 ih117 =>
              intro k ui ki ek hk eu em117
              refine go_iload (j := 16) (q := 119) rfl dL_colourings_117 rfl ?_
              refine go_aload_n (j := 2) (q := 120) rfl rfl dL_colourings_119 rfl ?_
              refine go_iconst (q := 121) dL_colourings_120 rfl ?_
              refine go_iald (j := 1) (q := 122) (by first | assumption | rfl) (wr_eq (by omega)) (by omega) dL_colourings_121 rfl ?_
              refine go_icmp_ge2 (q := 125) (t := 146) dL_colourings_122 (by decide) rfl (by omega) (fun c122 => ?_) (fun c122 => ?_)
              · have hm1 := hmk (wA W)
                rw [show k = (wA W) by omega] at eu
                have hus := usedN_le (n := (wN W)) (a := (wA W)) (col := dg (wN W) (wA W) r) hn.2 (fun i _ => hdl i)
                refine go_iload (j := 9) (q := 148) rfl dL_colourings_146 rfl ?_
                refine go_iload (j := 13) (q := 150) rfl dL_colourings_148 rfl ?_
                refine go_icmp_ne2 (q := 153) (t := 191) dL_colourings_150 (by decide) rfl (by omega) (fun c150 => ?_) (fun c150 => ?_)
                · have hPt : PXW w5 W := hP5
                  have hft : ∀ c k, 45 ≤ c → c < 48 → w5 c k = w c k := hf5
                  have hut : ∀ u, u < 7 → w5 48 u = (cntP (wN W) (wA W) (wC W) (wF W) (wG W) (wS W) (eU (wA W) u) r : Nat) := hu5
                  have g0t : w5 45 0 = ((wN W) : Int) := g05
                  have g1t : w5 45 1 = ((wA W) : Int) := g15
                  refine go_iinc (j := 9) (q := 194) (ls2 := [_, _, _, _, _, _, _, _, _, _, _, _, _, _, _, _, _]) rfl (by decide) rfl rfl dL_colourings_191 rfl ?_
                  refine go_iload (j := 10) (q := 196) rfl dL_colourings_194 rfl ?_
                  refine go_iload (j := 14) (q := 198) rfl dL_colourings_196 rfl ?_
                  refine go_iload (j := 6) (q := 200) rfl dL_colourings_198 rfl ?_
                  refine go_aload_n (j := 2) (q := 201) rfl rfl dL_colourings_200 rfl ?_
                  refine go_callSi (as := [_, _, _]) (rest := [_]) (n := 3) (q := 204) dL_colourings_201 lk_L_25 rfl (by decide +kernel) rfl ⟨by decide, by decide⟩ ⟨rfl, rfl⟩ (Nat.le_of_ble_eq_true rfl) (el_digit hs45 er (by omega) (j := x32.toNat) (by omega) (by omega) g0t g1t hn ha.2) rfl (fun x201 w201 h201 => ?_)
                  obtain ⟨rfl, rfl⟩ := h201
                  refine go_iload (j := 8) (q := 206) rfl dL_colourings_204 rfl ?_
                  have hda := hdl x32.toNat
                  have hdb := hdl x43.toNat
                  refine go_icmp_ne2 (q := 209) (t := 213) dL_colourings_206 (by decide) rfl (by omega) (fun c206 => ?_) (fun c206 => ?_)
                  · have hw1 : wi + 0 = (cntP (wN W) (wA W) (wC W) (wF W) (wG W) (wS W) (eW x32.toNat x55.toNat) (r + 1) : Nat) := by
                      have := cnt_no (f := (wF W)) (s := (wS W)) hn.1 hga tw (show r < _ by omega) (fun z => by have := z.2; unfold eW at this; omega)
                      omega
                    refine go_iconst (q := 214) dL_colourings_213 rfl ?_
                    refine go_iadd (q := 215) dL_colourings_214 rfl ?_
                    refine go_istore (j := 10) (q := 217) (ls2 := [_, _, _, _, _, _, _, _, _, _, _, _, _, _, _, _, _]) (by decide) rfl rfl dL_colourings_215 rfl ?_
                    refine go_iload (j := 11) (q := 219) rfl dL_colourings_217 rfl ?_
                    refine go_iload (j := 14) (q := 221) rfl dL_colourings_219 rfl ?_
                    refine go_iload (j := 6) (q := 223) rfl dL_colourings_221 rfl ?_
                    refine go_aload_n (j := 2) (q := 224) rfl rfl dL_colourings_223 rfl ?_
                    refine go_callSi (as := [_, _, _]) (rest := [_]) (n := 3) (q := 227) dL_colourings_224 lk_L_25 rfl (by decide +kernel) rfl ⟨by decide, by decide⟩ ⟨rfl, rfl⟩ (Nat.le_of_ble_eq_true rfl) (el_digit hs45 er (by omega) (j := x32.toNat) (by omega) (by omega) g0t g1t hn ha.2) rfl (fun x224 w224 h224 => ?_)
                    obtain ⟨rfl, rfl⟩ := h224
                    refine go_iload (j := 14) (q := 229) rfl dL_colourings_227 rfl ?_
                    refine go_iload (j := 7) (q := 231) rfl dL_colourings_229 rfl ?_
                    refine go_aload_n (j := 2) (q := 232) rfl rfl dL_colourings_231 rfl ?_
                    refine go_callSi (as := [_, _, _]) (rest := [_, _]) (n := 3) (q := 235) dL_colourings_232 lk_L_25 rfl (by decide +kernel) rfl ⟨by decide, by decide⟩ ⟨rfl, rfl⟩ (Nat.le_of_ble_eq_true rfl) (el_digit hs45 er (by omega) (j := x43.toNat) (by omega) (by omega) g0t g1t hn ha.2) rfl (fun x232 w232 h232 => ?_)
                    obtain ⟨rfl, rfl⟩ := h232
                    refine go_icmp_ne2 (q := 238) (t := 242) dL_colourings_235 (by decide) rfl (by omega) (fun c235 => ?_) (fun c235 => ?_)
                    · have hl1 : li + 0 = (cntP (wN W) (wA W) (wC W) (wF W) (wG W) (wS W) (eA x32.toNat x43.toNat) (r + 1) : Nat) := by
                        have := cnt_no (f := (wF W)) (s := (wS W)) hn.1 hga tl (show r < _ by omega) (fun z => by have := z.2; unfold eA at this; omega)
                        omega
                      refine go_iconst (q := 243) dL_colourings_242 rfl ?_
                      refine go_iadd (q := 244) dL_colourings_243 rfl ?_
                      refine go_istore (j := 11) (q := 246) (ls2 := [_, _, _, _, _, _, _, _, _, _, _, _, _, _, _, _, _]) (by decide) rfl rfl dL_colourings_244 rfl ?_
                      refine go_aload (j := 12) (q := 248) rfl dL_colourings_246 rfl ?_
                      refine go_iload (j := 15) (q := 250) rfl dL_colourings_248 rfl ?_
                      refine go_callSi (as := [_]) (rest := [_]) (n := 1) (q := 253) dL_colourings_250 lk_L_16 rfl (by decide +kernel) rfl ⟨by decide, by decide⟩ ⟨rfl, rfl⟩ (Nat.le_of_ble_eq_true rfl) (el_ones (m := msk (dg (wN W) (wA W) r) (wA W)) eu (by omega)) rfl (fun x250 w250 h250 => ?_)
                      obtain ⟨rfl, rfl⟩ := h250
                      have hus2 : pc (msk (dg (wN W) (wA W) r) (wA W)) ≤ 6 := hus.2
                      refine go_dup2 (q := 254) (fun _ z => by cases z) (fun _ z => by cases z) dL_colourings_253 rfl ?_
                      refine go_iald (j := pc (msk (dg (wN W) (wA W) r) (wA W))) (q := 255) (by first | assumption | rfl) (wr_eq (by omega)) (by omega) dL_colourings_254 rfl ?_
                      rw [hut _ (by omega)]
                      refine go_iconst (q := 256) dL_colourings_255 rfl ?_
                      refine go_iadd (q := 257) dL_colourings_256 rfl ?_
                      refine go_iast (j := pc (msk (dg (wN W) (wA W) r) (wA W))) (q := 258) (by first | assumption | rfl) (wr_eq (by omega)) (by omega) dL_colourings_257 rfl ?_
                      refine go_iinc (j := 14) (q := 261) (ls2 := [_, _, _, _, _, _, _, _, _, _, _, _, _, _, _, _, _]) rfl (by decide) rfl rfl dL_colourings_258 rfl ?_
                      refine go_goto (q := 89) dL_colourings_261 (by decide) ?_
                      first
                      | exact ih89 _ (by omega) (r + 1) _ _ _ _ _ _ _ (by omega) (by omega) hP5 hf5 (by rw [hno _ tt_cgr]; exact emi) (by rw [hno _ tw]; exact ewi) (by rw [hno _ tl]; exact eli) (fun u hu => by rw [hno _ eU_cgr]; exact hu5 u hu) rfl
                      | exact ih89 _ (by omega) (r + 1) _ _ _ _ _ _ _ (by omega) (by omega) (PXW_q hPt (fun c k h => mup_ne (by omega))) (fun c k h1 h2 => by rw [mup_ne (by omega)]; exact hft c k h1 h2) (by rw [hmi]; omega) hw1 hl1 (fun u hu => by
                          by_cases q : u = pc (msk (dg (wN W) (wA W) r) (wA W))
                          · rw [q, mup_eq, cnt_yes hn.1 hga eU_cgr (by omega) h102 (show eU (wA W) (pc (msk (dg (wN W) (wA W) r) (wA W))) (dg (wN W) (wA W) r) from rfl)]; rfl
                          · rw [mup_ne (by omega), cnt_no hn.1 hga eU_cgr (by omega) (fun z => q z.2.symm)]; exact hut u hu) rfl
                    · have hl1 : li + 1 = (cntP (wN W) (wA W) (wC W) (wF W) (wG W) (wS W) (eA x32.toNat x43.toNat) (r + 1) : Nat) := by
                        have := cnt_yes hn.1 hga tl (by omega) h102 (show eA x32.toNat x43.toNat (dg (wN W) (wA W) r) by unfold eA; omega)
                        omega
                      refine go_iconst (q := 239) dL_colourings_238 rfl ?_
                      refine go_goto (q := 243) dL_colourings_239 (by decide) ?_
                      refine go_iadd (q := 244) dL_colourings_243 rfl ?_
                      refine go_istore (j := 11) (q := 246) (ls2 := [_, _, _, _, _, _, _, _, _, _, _, _, _, _, _, _, _]) (by decide) rfl rfl dL_colourings_244 rfl ?_
                      refine go_aload (j := 12) (q := 248) rfl dL_colourings_246 rfl ?_
                      refine go_iload (j := 15) (q := 250) rfl dL_colourings_248 rfl ?_
                      refine go_callSi (as := [_]) (rest := [_]) (n := 1) (q := 253) dL_colourings_250 lk_L_16 rfl (by decide +kernel) rfl ⟨by decide, by decide⟩ ⟨rfl, rfl⟩ (Nat.le_of_ble_eq_true rfl) (el_ones (m := msk (dg (wN W) (wA W) r) (wA W)) eu (by omega)) rfl (fun x250 w250 h250 => ?_)
                      obtain ⟨rfl, rfl⟩ := h250
                      have hus2 : pc (msk (dg (wN W) (wA W) r) (wA W)) ≤ 6 := hus.2
                      refine go_dup2 (q := 254) (fun _ z => by cases z) (fun _ z => by cases z) dL_colourings_253 rfl ?_
                      refine go_iald (j := pc (msk (dg (wN W) (wA W) r) (wA W))) (q := 255) (by first | assumption | rfl) (wr_eq (by omega)) (by omega) dL_colourings_254 rfl ?_
                      rw [hut _ (by omega)]
                      refine go_iconst (q := 256) dL_colourings_255 rfl ?_
                      refine go_iadd (q := 257) dL_colourings_256 rfl ?_
                      refine go_iast (j := pc (msk (dg (wN W) (wA W) r) (wA W))) (q := 258) (by first | assumption | rfl) (wr_eq (by omega)) (by omega) dL_colourings_257 rfl ?_
                      refine go_iinc (j := 14) (q := 261) (ls2 := [_, _, _, _, _, _, _, _, _, _, _, _, _, _, _, _, _]) rfl (by decide) rfl rfl dL_colourings_258 rfl ?_
                      refine go_goto (q := 89) dL_colourings_261 (by decide) ?_
                      first
                      | exact ih89 _ (by omega) (r + 1) _ _ _ _ _ _ _ (by omega) (by omega) hP5 hf5 (by rw [hno _ tt_cgr]; exact emi) (by rw [hno _ tw]; exact ewi) (by rw [hno _ tl]; exact eli) (fun u hu => by rw [hno _ eU_cgr]; exact hu5 u hu) rfl
                      | exact ih89 _ (by omega) (r + 1) _ _ _ _ _ _ _ (by omega) (by omega) (PXW_q hPt (fun c k h => mup_ne (by omega))) (fun c k h1 h2 => by rw [mup_ne (by omega)]; exact hft c k h1 h2) (by rw [hmi]; omega) hw1 hl1 (fun u hu => by
                          by_cases q : u = pc (msk (dg (wN W) (wA W) r) (wA W))
                          · rw [q, mup_eq, cnt_yes hn.1 hga eU_cgr (by omega) h102 (show eU (wA W) (pc (msk (dg (wN W) (wA W) r) (wA W))) (dg (wN W) (wA W) r) from rfl)]; rfl
                          · rw [mup_ne (by omega), cnt_no hn.1 hga eU_cgr (by omega) (fun z => q z.2.symm)]; exact hut u hu) rfl
                  · have hw1 : wi + 1 = (cntP (wN W) (wA W) (wC W) (wF W) (wG W) (wS W) (eW x32.toNat x55.toNat) (r + 1) : Nat) := by
                      have := cnt_yes hn.1 hga tw (by omega) h102 (show eW x32.toNat x55.toNat (dg (wN W) (wA W) r) by unfold eW; omega)
                      omega
                    refine go_iconst (q := 210) dL_colourings_209 rfl ?_
                    refine go_goto (q := 214) dL_colourings_210 (by decide) ?_
                    refine go_iadd (q := 215) dL_colourings_214 rfl ?_
                    refine go_istore (j := 10) (q := 217) (ls2 := [_, _, _, _, _, _, _, _, _, _, _, _, _, _, _, _, _]) (by decide) rfl rfl dL_colourings_215 rfl ?_
                    refine go_iload (j := 11) (q := 219) rfl dL_colourings_217 rfl ?_
                    refine go_iload (j := 14) (q := 221) rfl dL_colourings_219 rfl ?_
                    refine go_iload (j := 6) (q := 223) rfl dL_colourings_221 rfl ?_
                    refine go_aload_n (j := 2) (q := 224) rfl rfl dL_colourings_223 rfl ?_
                    refine go_callSi (as := [_, _, _]) (rest := [_]) (n := 3) (q := 227) dL_colourings_224 lk_L_25 rfl (by decide +kernel) rfl ⟨by decide, by decide⟩ ⟨rfl, rfl⟩ (Nat.le_of_ble_eq_true rfl) (el_digit hs45 er (by omega) (j := x32.toNat) (by omega) (by omega) g0t g1t hn ha.2) rfl (fun x224 w224 h224 => ?_)
                    obtain ⟨rfl, rfl⟩ := h224
                    refine go_iload (j := 14) (q := 229) rfl dL_colourings_227 rfl ?_
                    refine go_iload (j := 7) (q := 231) rfl dL_colourings_229 rfl ?_
                    refine go_aload_n (j := 2) (q := 232) rfl rfl dL_colourings_231 rfl ?_
                    refine go_callSi (as := [_, _, _]) (rest := [_, _]) (n := 3) (q := 235) dL_colourings_232 lk_L_25 rfl (by decide +kernel) rfl ⟨by decide, by decide⟩ ⟨rfl, rfl⟩ (Nat.le_of_ble_eq_true rfl) (el_digit hs45 er (by omega) (j := x43.toNat) (by omega) (by omega) g0t g1t hn ha.2) rfl (fun x232 w232 h232 => ?_)
                    obtain ⟨rfl, rfl⟩ := h232
                    refine go_icmp_ne2 (q := 238) (t := 242) dL_colourings_235 (by decide) rfl (by omega) (fun c235 => ?_) (fun c235 => ?_)
                    · have hl1 : li + 0 = (cntP (wN W) (wA W) (wC W) (wF W) (wG W) (wS W) (eA x32.toNat x43.toNat) (r + 1) : Nat) := by
                        have := cnt_no (f := (wF W)) (s := (wS W)) hn.1 hga tl (show r < _ by omega) (fun z => by have := z.2; unfold eA at this; omega)
                        omega
                      refine go_iconst (q := 243) dL_colourings_242 rfl ?_
                      refine go_iadd (q := 244) dL_colourings_243 rfl ?_
                      refine go_istore (j := 11) (q := 246) (ls2 := [_, _, _, _, _, _, _, _, _, _, _, _, _, _, _, _, _]) (by decide) rfl rfl dL_colourings_244 rfl ?_
                      refine go_aload (j := 12) (q := 248) rfl dL_colourings_246 rfl ?_
                      refine go_iload (j := 15) (q := 250) rfl dL_colourings_248 rfl ?_
                      refine go_callSi (as := [_]) (rest := [_]) (n := 1) (q := 253) dL_colourings_250 lk_L_16 rfl (by decide +kernel) rfl ⟨by decide, by decide⟩ ⟨rfl, rfl⟩ (Nat.le_of_ble_eq_true rfl) (el_ones (m := msk (dg (wN W) (wA W) r) (wA W)) eu (by omega)) rfl (fun x250 w250 h250 => ?_)
                      obtain ⟨rfl, rfl⟩ := h250
                      have hus2 : pc (msk (dg (wN W) (wA W) r) (wA W)) ≤ 6 := hus.2
                      refine go_dup2 (q := 254) (fun _ z => by cases z) (fun _ z => by cases z) dL_colourings_253 rfl ?_
                      refine go_iald (j := pc (msk (dg (wN W) (wA W) r) (wA W))) (q := 255) (by first | assumption | rfl) (wr_eq (by omega)) (by omega) dL_colourings_254 rfl ?_
                      rw [hut _ (by omega)]
                      refine go_iconst (q := 256) dL_colourings_255 rfl ?_
                      refine go_iadd (q := 257) dL_colourings_256 rfl ?_
                      refine go_iast (j := pc (msk (dg (wN W) (wA W) r) (wA W))) (q := 258) (by first | assumption | rfl) (wr_eq (by omega)) (by omega) dL_colourings_257 rfl ?_
                      refine go_iinc (j := 14) (q := 261) (ls2 := [_, _, _, _, _, _, _, _, _, _, _, _, _, _, _, _, _]) rfl (by decide) rfl rfl dL_colourings_258 rfl ?_
                      refine go_goto (q := 89) dL_colourings_261 (by decide) ?_
                      first
                      | exact ih89 _ (by omega) (r + 1) _ _ _ _ _ _ _ (by omega) (by omega) hP5 hf5 (by rw [hno _ tt_cgr]; exact emi) (by rw [hno _ tw]; exact ewi) (by rw [hno _ tl]; exact eli) (fun u hu => by rw [hno _ eU_cgr]; exact hu5 u hu) rfl
                      | exact ih89 _ (by omega) (r + 1) _ _ _ _ _ _ _ (by omega) (by omega) (PXW_q hPt (fun c k h => mup_ne (by omega))) (fun c k h1 h2 => by rw [mup_ne (by omega)]; exact hft c k h1 h2) (by rw [hmi]; omega) hw1 hl1 (fun u hu => by
                          by_cases q : u = pc (msk (dg (wN W) (wA W) r) (wA W))
                          · rw [q, mup_eq, cnt_yes hn.1 hga eU_cgr (by omega) h102 (show eU (wA W) (pc (msk (dg (wN W) (wA W) r) (wA W))) (dg (wN W) (wA W) r) from rfl)]; rfl
                          · rw [mup_ne (by omega), cnt_no hn.1 hga eU_cgr (by omega) (fun z => q z.2.symm)]; exact hut u hu) rfl
                    · have hl1 : li + 1 = (cntP (wN W) (wA W) (wC W) (wF W) (wG W) (wS W) (eA x32.toNat x43.toNat) (r + 1) : Nat) := by
                        have := cnt_yes hn.1 hga tl (by omega) h102 (show eA x32.toNat x43.toNat (dg (wN W) (wA W) r) by unfold eA; omega)
                        omega
                      refine go_iconst (q := 239) dL_colourings_238 rfl ?_
                      refine go_goto (q := 243) dL_colourings_239 (by decide) ?_
                      refine go_iadd (q := 244) dL_colourings_243 rfl ?_
                      refine go_istore (j := 11) (q := 246) (ls2 := [_, _, _, _, _, _, _, _, _, _, _, _, _, _, _, _, _]) (by decide) rfl rfl dL_colourings_244 rfl ?_
                      refine go_aload (j := 12) (q := 248) rfl dL_colourings_246 rfl ?_
                      refine go_iload (j := 15) (q := 250) rfl dL_colourings_248 rfl ?_
                      refine go_callSi (as := [_]) (rest := [_]) (n := 1) (q := 253) dL_colourings_250 lk_L_16 rfl (by decide +kernel) rfl ⟨by decide, by decide⟩ ⟨rfl, rfl⟩ (Nat.le_of_ble_eq_true rfl) (el_ones (m := msk (dg (wN W) (wA W) r) (wA W)) eu (by omega)) rfl (fun x250 w250 h250 => ?_)
                      obtain ⟨rfl, rfl⟩ := h250
                      have hus2 : pc (msk (dg (wN W) (wA W) r) (wA W)) ≤ 6 := hus.2
                      refine go_dup2 (q := 254) (fun _ z => by cases z) (fun _ z => by cases z) dL_colourings_253 rfl ?_
                      refine go_iald (j := pc (msk (dg (wN W) (wA W) r) (wA W))) (q := 255) (by first | assumption | rfl) (wr_eq (by omega)) (by omega) dL_colourings_254 rfl ?_
                      rw [hut _ (by omega)]
                      refine go_iconst (q := 256) dL_colourings_255 rfl ?_
                      refine go_iadd (q := 257) dL_colourings_256 rfl ?_
                      refine go_iast (j := pc (msk (dg (wN W) (wA W) r) (wA W))) (q := 258) (by first | assumption | rfl) (wr_eq (by omega)) (by omega) dL_colourings_257 rfl ?_
                      refine go_iinc (j := 14) (q := 261) (ls2 := [_, _, _, _, _, _, _, _, _, _, _, _, _, _, _, _, _]) rfl (by decide) rfl rfl dL_colourings_258 rfl ?_
                      refine go_goto (q := 89) dL_colourings_261 (by decide) ?_
                      first
                      | exact ih89 _ (by omega) (r + 1) _ _ _ _ _ _ _ (by omega) (by omega) hP5 hf5 (by rw [hno _ tt_cgr]; exact emi) (by rw [hno _ tw]; exact ewi) (by rw [hno _ tl]; exact eli) (fun u hu => by rw [hno _ eU_cgr]; exact hu5 u hu) rfl
                      | exact ih89 _ (by omega) (r + 1) _ _ _ _ _ _ _ (by omega) (by omega) (PXW_q hPt (fun c k h => mup_ne (by omega))) (fun c k h1 h2 => by rw [mup_ne (by omega)]; exact hft c k h1 h2) (by rw [hmi]; omega) hw1 hl1 (fun u hu => by
                          by_cases q : u = pc (msk (dg (wN W) (wA W) r) (wA W))
                          · rw [q, mup_eq, cnt_yes hn.1 hga eU_cgr (by omega) h102 (show eU (wA W) (pc (msk (dg (wN W) (wA W) r) (wA W))) (dg (wN W) (wA W) r) from rfl)]; rfl
                          · rw [mup_ne (by omega), cnt_no hn.1 hga eU_cgr (by omega) (fun z => q z.2.symm)]; exact hut u hu) rfl
                · refine go_iconst (q := 154) dL_colourings_153 rfl ?_
                  refine go_istore (j := 16) (q := 156) (ls2 := [_, _, _, _, _, _, _, _, _, _, _, _, _, _, _, _, _]) (by decide) rfl rfl dL_colourings_154 rfl ?_
                  have lp156 : ∀ (m156 : Nat) (k : Nat) (ki : Int) (w6 : Mem) (ek : ki = k) (hk : k ≤ (wA W)) (hP6 : PXW w6 W) (hf6 : ∀ c k, 45 ≤ c → w6 c k = w5 c k), m156 = (wA W) - k → gL_colourings l D ck (adx ad 48 x71) (shA ++ [rInt 7]) 0 (VW D ck ad shA) 156 [some (vR 0), some (vI xi), some (vR 45), some (vR 46), some (vR 47), some (vI ali), some (vI x32), some (vI x43), some (vI x55), some (vI mi), some (vI wi), some (vI li), some (vR 48), some (vI x81), some (vI ci), some (vI ui), some (vI ki)] [] w6 K := by
                    intro m156
                    induction m156 using Nat.strongRecOn with
                    | _ m156 ih156 =>
                    intro k ki w6 ek hk hP6 hf6 em156
                    have g06 : w6 45 0 = ((wN W) : Int) := by rw [hf6 _ _ (by omega)]; exact g05
                    have g16 : w6 45 1 = ((wA W) : Int) := by rw [hf6 _ _ (by omega)]; exact g15
                    refine go_iload (j := 16) (q := 158) rfl dL_colourings_156 rfl ?_
                    refine go_aload_n (j := 2) (q := 159) rfl rfl dL_colourings_158 rfl ?_
                    refine go_iconst (q := 160) dL_colourings_159 rfl ?_
                    refine go_iald (j := 1) (q := 161) (by first | assumption | rfl) (wr_eq (by omega)) (by omega) dL_colourings_160 rfl ?_
                    refine go_icmp_ge2 (q := 164) (t := 191) dL_colourings_161 (by decide) rfl (by omega) (fun c161 => ?_) (fun c161 => ?_)
                    · have hPt : PXW w6 W := hP6
                      have hft : ∀ c k, 45 ≤ c → c < 48 → w6 c k = w c k := fun c k h1 h2 => by rw [hf6 c k h1]; exact hf5 c k h1 h2
                      have hut : ∀ u, u < 7 → w6 48 u = (cntP (wN W) (wA W) (wC W) (wF W) (wG W) (wS W) (eU (wA W) u) r : Nat) := fun u hu => by rw [hf6 _ _ (by omega)]; exact hu5 u hu
                      have g0t : w6 45 0 = ((wN W) : Int) := g06
                      have g1t : w6 45 1 = ((wA W) : Int) := g16
                      refine go_iinc (j := 9) (q := 194) (ls2 := [_, _, _, _, _, _, _, _, _, _, _, _, _, _, _, _, _]) rfl (by decide) rfl rfl dL_colourings_191 rfl ?_
                      refine go_iload (j := 10) (q := 196) rfl dL_colourings_194 rfl ?_
                      refine go_iload (j := 14) (q := 198) rfl dL_colourings_196 rfl ?_
                      refine go_iload (j := 6) (q := 200) rfl dL_colourings_198 rfl ?_
                      refine go_aload_n (j := 2) (q := 201) rfl rfl dL_colourings_200 rfl ?_
                      refine go_callSi (as := [_, _, _]) (rest := [_]) (n := 3) (q := 204) dL_colourings_201 lk_L_25 rfl (by decide +kernel) rfl ⟨by decide, by decide⟩ ⟨rfl, rfl⟩ (Nat.le_of_ble_eq_true rfl) (el_digit hs45 er (by omega) (j := x32.toNat) (by omega) (by omega) g0t g1t hn ha.2) rfl (fun x201 w201 h201 => ?_)
                      obtain ⟨rfl, rfl⟩ := h201
                      refine go_iload (j := 8) (q := 206) rfl dL_colourings_204 rfl ?_
                      have hda := hdl x32.toNat
                      have hdb := hdl x43.toNat
                      refine go_icmp_ne2 (q := 209) (t := 213) dL_colourings_206 (by decide) rfl (by omega) (fun c206 => ?_) (fun c206 => ?_)
                      · have hw1 : wi + 0 = (cntP (wN W) (wA W) (wC W) (wF W) (wG W) (wS W) (eW x32.toNat x55.toNat) (r + 1) : Nat) := by
                          have := cnt_no (f := (wF W)) (s := (wS W)) hn.1 hga tw (show r < _ by omega) (fun z => by have := z.2; unfold eW at this; omega)
                          omega
                        refine go_iconst (q := 214) dL_colourings_213 rfl ?_
                        refine go_iadd (q := 215) dL_colourings_214 rfl ?_
                        refine go_istore (j := 10) (q := 217) (ls2 := [_, _, _, _, _, _, _, _, _, _, _, _, _, _, _, _, _]) (by decide) rfl rfl dL_colourings_215 rfl ?_
                        refine go_iload (j := 11) (q := 219) rfl dL_colourings_217 rfl ?_
                        refine go_iload (j := 14) (q := 221) rfl dL_colourings_219 rfl ?_
                        refine go_iload (j := 6) (q := 223) rfl dL_colourings_221 rfl ?_
                        refine go_aload_n (j := 2) (q := 224) rfl rfl dL_colourings_223 rfl ?_
                        refine go_callSi (as := [_, _, _]) (rest := [_]) (n := 3) (q := 227) dL_colourings_224 lk_L_25 rfl (by decide +kernel) rfl ⟨by decide, by decide⟩ ⟨rfl, rfl⟩ (Nat.le_of_ble_eq_true rfl) (el_digit hs45 er (by omega) (j := x32.toNat) (by omega) (by omega) g0t g1t hn ha.2) rfl (fun x224 w224 h224 => ?_)
                        obtain ⟨rfl, rfl⟩ := h224
                        refine go_iload (j := 14) (q := 229) rfl dL_colourings_227 rfl ?_
                        refine go_iload (j := 7) (q := 231) rfl dL_colourings_229 rfl ?_
                        refine go_aload_n (j := 2) (q := 232) rfl rfl dL_colourings_231 rfl ?_
                        refine go_callSi (as := [_, _, _]) (rest := [_, _]) (n := 3) (q := 235) dL_colourings_232 lk_L_25 rfl (by decide +kernel) rfl ⟨by decide, by decide⟩ ⟨rfl, rfl⟩ (Nat.le_of_ble_eq_true rfl) (el_digit hs45 er (by omega) (j := x43.toNat) (by omega) (by omega) g0t g1t hn ha.2) rfl (fun x232 w232 h232 => ?_)
                        obtain ⟨rfl, rfl⟩ := h232
                        refine go_icmp_ne2 (q := 238) (t := 242) dL_colourings_235 (by decide) rfl (by omega) (fun c235 => ?_) (fun c235 => ?_)
                        · have hl1 : li + 0 = (cntP (wN W) (wA W) (wC W) (wF W) (wG W) (wS W) (eA x32.toNat x43.toNat) (r + 1) : Nat) := by
                            have := cnt_no (f := (wF W)) (s := (wS W)) hn.1 hga tl (show r < _ by omega) (fun z => by have := z.2; unfold eA at this; omega)
                            omega
                          refine go_iconst (q := 243) dL_colourings_242 rfl ?_
                          refine go_iadd (q := 244) dL_colourings_243 rfl ?_
                          refine go_istore (j := 11) (q := 246) (ls2 := [_, _, _, _, _, _, _, _, _, _, _, _, _, _, _, _, _]) (by decide) rfl rfl dL_colourings_244 rfl ?_
                          refine go_aload (j := 12) (q := 248) rfl dL_colourings_246 rfl ?_
                          refine go_iload (j := 15) (q := 250) rfl dL_colourings_248 rfl ?_
                          refine go_callSi (as := [_]) (rest := [_]) (n := 1) (q := 253) dL_colourings_250 lk_L_16 rfl (by decide +kernel) rfl ⟨by decide, by decide⟩ ⟨rfl, rfl⟩ (Nat.le_of_ble_eq_true rfl) (el_ones (m := msk (dg (wN W) (wA W) r) (wA W)) eu (by omega)) rfl (fun x250 w250 h250 => ?_)
                          obtain ⟨rfl, rfl⟩ := h250
                          have hus2 : pc (msk (dg (wN W) (wA W) r) (wA W)) ≤ 6 := hus.2
                          refine go_dup2 (q := 254) (fun _ z => by cases z) (fun _ z => by cases z) dL_colourings_253 rfl ?_
                          refine go_iald (j := pc (msk (dg (wN W) (wA W) r) (wA W))) (q := 255) (by first | assumption | rfl) (wr_eq (by omega)) (by omega) dL_colourings_254 rfl ?_
                          rw [hut _ (by omega)]
                          refine go_iconst (q := 256) dL_colourings_255 rfl ?_
                          refine go_iadd (q := 257) dL_colourings_256 rfl ?_
                          refine go_iast (j := pc (msk (dg (wN W) (wA W) r) (wA W))) (q := 258) (by first | assumption | rfl) (wr_eq (by omega)) (by omega) dL_colourings_257 rfl ?_
                          refine go_iinc (j := 14) (q := 261) (ls2 := [_, _, _, _, _, _, _, _, _, _, _, _, _, _, _, _, _]) rfl (by decide) rfl rfl dL_colourings_258 rfl ?_
                          refine go_goto (q := 89) dL_colourings_261 (by decide) ?_
                          first
                          | exact ih89 _ (by omega) (r + 1) _ _ _ _ _ _ _ (by omega) (by omega) hP5 hf5 (by rw [hno _ tt_cgr]; exact emi) (by rw [hno _ tw]; exact ewi) (by rw [hno _ tl]; exact eli) (fun u hu => by rw [hno _ eU_cgr]; exact hu5 u hu) rfl
                          | exact ih89 _ (by omega) (r + 1) _ _ _ _ _ _ _ (by omega) (by omega) (PXW_q hPt (fun c k h => mup_ne (by omega))) (fun c k h1 h2 => by rw [mup_ne (by omega)]; exact hft c k h1 h2) (by rw [hmi]; omega) hw1 hl1 (fun u hu => by
                              by_cases q : u = pc (msk (dg (wN W) (wA W) r) (wA W))
                              · rw [q, mup_eq, cnt_yes hn.1 hga eU_cgr (by omega) h102 (show eU (wA W) (pc (msk (dg (wN W) (wA W) r) (wA W))) (dg (wN W) (wA W) r) from rfl)]; rfl
                              · rw [mup_ne (by omega), cnt_no hn.1 hga eU_cgr (by omega) (fun z => q z.2.symm)]; exact hut u hu) rfl
                        · have hl1 : li + 1 = (cntP (wN W) (wA W) (wC W) (wF W) (wG W) (wS W) (eA x32.toNat x43.toNat) (r + 1) : Nat) := by
                            have := cnt_yes hn.1 hga tl (by omega) h102 (show eA x32.toNat x43.toNat (dg (wN W) (wA W) r) by unfold eA; omega)
                            omega
                          refine go_iconst (q := 239) dL_colourings_238 rfl ?_
                          refine go_goto (q := 243) dL_colourings_239 (by decide) ?_
                          refine go_iadd (q := 244) dL_colourings_243 rfl ?_
                          refine go_istore (j := 11) (q := 246) (ls2 := [_, _, _, _, _, _, _, _, _, _, _, _, _, _, _, _, _]) (by decide) rfl rfl dL_colourings_244 rfl ?_
                          refine go_aload (j := 12) (q := 248) rfl dL_colourings_246 rfl ?_
                          refine go_iload (j := 15) (q := 250) rfl dL_colourings_248 rfl ?_
                          refine go_callSi (as := [_]) (rest := [_]) (n := 1) (q := 253) dL_colourings_250 lk_L_16 rfl (by decide +kernel) rfl ⟨by decide, by decide⟩ ⟨rfl, rfl⟩ (Nat.le_of_ble_eq_true rfl) (el_ones (m := msk (dg (wN W) (wA W) r) (wA W)) eu (by omega)) rfl (fun x250 w250 h250 => ?_)
                          obtain ⟨rfl, rfl⟩ := h250
                          have hus2 : pc (msk (dg (wN W) (wA W) r) (wA W)) ≤ 6 := hus.2
                          refine go_dup2 (q := 254) (fun _ z => by cases z) (fun _ z => by cases z) dL_colourings_253 rfl ?_
                          refine go_iald (j := pc (msk (dg (wN W) (wA W) r) (wA W))) (q := 255) (by first | assumption | rfl) (wr_eq (by omega)) (by omega) dL_colourings_254 rfl ?_
                          rw [hut _ (by omega)]
                          refine go_iconst (q := 256) dL_colourings_255 rfl ?_
                          refine go_iadd (q := 257) dL_colourings_256 rfl ?_
                          refine go_iast (j := pc (msk (dg (wN W) (wA W) r) (wA W))) (q := 258) (by first | assumption | rfl) (wr_eq (by omega)) (by omega) dL_colourings_257 rfl ?_
                          refine go_iinc (j := 14) (q := 261) (ls2 := [_, _, _, _, _, _, _, _, _, _, _, _, _, _, _, _, _]) rfl (by decide) rfl rfl dL_colourings_258 rfl ?_
                          refine go_goto (q := 89) dL_colourings_261 (by decide) ?_
                          first
                          | exact ih89 _ (by omega) (r + 1) _ _ _ _ _ _ _ (by omega) (by omega) hP5 hf5 (by rw [hno _ tt_cgr]; exact emi) (by rw [hno _ tw]; exact ewi) (by rw [hno _ tl]; exact eli) (fun u hu => by rw [hno _ eU_cgr]; exact hu5 u hu) rfl
                          | exact ih89 _ (by omega) (r + 1) _ _ _ _ _ _ _ (by omega) (by omega) (PXW_q hPt (fun c k h => mup_ne (by omega))) (fun c k h1 h2 => by rw [mup_ne (by omega)]; exact hft c k h1 h2) (by rw [hmi]; omega) hw1 hl1 (fun u hu => by
                              by_cases q : u = pc (msk (dg (wN W) (wA W) r) (wA W))
                              · rw [q, mup_eq, cnt_yes hn.1 hga eU_cgr (by omega) h102 (show eU (wA W) (pc (msk (dg (wN W) (wA W) r) (wA W))) (dg (wN W) (wA W) r) from rfl)]; rfl
                              · rw [mup_ne (by omega), cnt_no hn.1 hga eU_cgr (by omega) (fun z => q z.2.symm)]; exact hut u hu) rfl
                      · have hw1 : wi + 1 = (cntP (wN W) (wA W) (wC W) (wF W) (wG W) (wS W) (eW x32.toNat x55.toNat) (r + 1) : Nat) := by
                          have := cnt_yes hn.1 hga tw (by omega) h102 (show eW x32.toNat x55.toNat (dg (wN W) (wA W) r) by unfold eW; omega)
                          omega
                        refine go_iconst (q := 210) dL_colourings_209 rfl ?_
                        refine go_goto (q := 214) dL_colourings_210 (by decide) ?_
                        refine go_iadd (q := 215) dL_colourings_214 rfl ?_
                        refine go_istore (j := 10) (q := 217) (ls2 := [_, _, _, _, _, _, _, _, _, _, _, _, _, _, _, _, _]) (by decide) rfl rfl dL_colourings_215 rfl ?_
                        refine go_iload (j := 11) (q := 219) rfl dL_colourings_217 rfl ?_
                        refine go_iload (j := 14) (q := 221) rfl dL_colourings_219 rfl ?_
                        refine go_iload (j := 6) (q := 223) rfl dL_colourings_221 rfl ?_
                        refine go_aload_n (j := 2) (q := 224) rfl rfl dL_colourings_223 rfl ?_
                        refine go_callSi (as := [_, _, _]) (rest := [_]) (n := 3) (q := 227) dL_colourings_224 lk_L_25 rfl (by decide +kernel) rfl ⟨by decide, by decide⟩ ⟨rfl, rfl⟩ (Nat.le_of_ble_eq_true rfl) (el_digit hs45 er (by omega) (j := x32.toNat) (by omega) (by omega) g0t g1t hn ha.2) rfl (fun x224 w224 h224 => ?_)
                        obtain ⟨rfl, rfl⟩ := h224
                        refine go_iload (j := 14) (q := 229) rfl dL_colourings_227 rfl ?_
                        refine go_iload (j := 7) (q := 231) rfl dL_colourings_229 rfl ?_
                        refine go_aload_n (j := 2) (q := 232) rfl rfl dL_colourings_231 rfl ?_
                        refine go_callSi (as := [_, _, _]) (rest := [_, _]) (n := 3) (q := 235) dL_colourings_232 lk_L_25 rfl (by decide +kernel) rfl ⟨by decide, by decide⟩ ⟨rfl, rfl⟩ (Nat.le_of_ble_eq_true rfl) (el_digit hs45 er (by omega) (j := x43.toNat) (by omega) (by omega) g0t g1t hn ha.2) rfl (fun x232 w232 h232 => ?_)
                        obtain ⟨rfl, rfl⟩ := h232
                        refine go_icmp_ne2 (q := 238) (t := 242) dL_colourings_235 (by decide) rfl (by omega) (fun c235 => ?_) (fun c235 => ?_)
                        · have hl1 : li + 0 = (cntP (wN W) (wA W) (wC W) (wF W) (wG W) (wS W) (eA x32.toNat x43.toNat) (r + 1) : Nat) := by
                            have := cnt_no (f := (wF W)) (s := (wS W)) hn.1 hga tl (show r < _ by omega) (fun z => by have := z.2; unfold eA at this; omega)
                            omega
                          refine go_iconst (q := 243) dL_colourings_242 rfl ?_
                          refine go_iadd (q := 244) dL_colourings_243 rfl ?_
                          refine go_istore (j := 11) (q := 246) (ls2 := [_, _, _, _, _, _, _, _, _, _, _, _, _, _, _, _, _]) (by decide) rfl rfl dL_colourings_244 rfl ?_
                          refine go_aload (j := 12) (q := 248) rfl dL_colourings_246 rfl ?_
                          refine go_iload (j := 15) (q := 250) rfl dL_colourings_248 rfl ?_
                          refine go_callSi (as := [_]) (rest := [_]) (n := 1) (q := 253) dL_colourings_250 lk_L_16 rfl (by decide +kernel) rfl ⟨by decide, by decide⟩ ⟨rfl, rfl⟩ (Nat.le_of_ble_eq_true rfl) (el_ones (m := msk (dg (wN W) (wA W) r) (wA W)) eu (by omega)) rfl (fun x250 w250 h250 => ?_)
                          obtain ⟨rfl, rfl⟩ := h250
                          have hus2 : pc (msk (dg (wN W) (wA W) r) (wA W)) ≤ 6 := hus.2
                          refine go_dup2 (q := 254) (fun _ z => by cases z) (fun _ z => by cases z) dL_colourings_253 rfl ?_
                          refine go_iald (j := pc (msk (dg (wN W) (wA W) r) (wA W))) (q := 255) (by first | assumption | rfl) (wr_eq (by omega)) (by omega) dL_colourings_254 rfl ?_
                          rw [hut _ (by omega)]
                          refine go_iconst (q := 256) dL_colourings_255 rfl ?_
                          refine go_iadd (q := 257) dL_colourings_256 rfl ?_
                          refine go_iast (j := pc (msk (dg (wN W) (wA W) r) (wA W))) (q := 258) (by first | assumption | rfl) (wr_eq (by omega)) (by omega) dL_colourings_257 rfl ?_
                          refine go_iinc (j := 14) (q := 261) (ls2 := [_, _, _, _, _, _, _, _, _, _, _, _, _, _, _, _, _]) rfl (by decide) rfl rfl dL_colourings_258 rfl ?_
                          refine go_goto (q := 89) dL_colourings_261 (by decide) ?_
                          first
                          | exact ih89 _ (by omega) (r + 1) _ _ _ _ _ _ _ (by omega) (by omega) hP5 hf5 (by rw [hno _ tt_cgr]; exact emi) (by rw [hno _ tw]; exact ewi) (by rw [hno _ tl]; exact eli) (fun u hu => by rw [hno _ eU_cgr]; exact hu5 u hu) rfl
                          | exact ih89 _ (by omega) (r + 1) _ _ _ _ _ _ _ (by omega) (by omega) (PXW_q hPt (fun c k h => mup_ne (by omega))) (fun c k h1 h2 => by rw [mup_ne (by omega)]; exact hft c k h1 h2) (by rw [hmi]; omega) hw1 hl1 (fun u hu => by
                              by_cases q : u = pc (msk (dg (wN W) (wA W) r) (wA W))
                              · rw [q, mup_eq, cnt_yes hn.1 hga eU_cgr (by omega) h102 (show eU (wA W) (pc (msk (dg (wN W) (wA W) r) (wA W))) (dg (wN W) (wA W) r) from rfl)]; rfl
                              · rw [mup_ne (by omega), cnt_no hn.1 hga eU_cgr (by omega) (fun z => q z.2.symm)]; exact hut u hu) rfl
                        · have hl1 : li + 1 = (cntP (wN W) (wA W) (wC W) (wF W) (wG W) (wS W) (eA x32.toNat x43.toNat) (r + 1) : Nat) := by
                            have := cnt_yes hn.1 hga tl (by omega) h102 (show eA x32.toNat x43.toNat (dg (wN W) (wA W) r) by unfold eA; omega)
                            omega
                          refine go_iconst (q := 239) dL_colourings_238 rfl ?_
                          refine go_goto (q := 243) dL_colourings_239 (by decide) ?_
                          refine go_iadd (q := 244) dL_colourings_243 rfl ?_
                          refine go_istore (j := 11) (q := 246) (ls2 := [_, _, _, _, _, _, _, _, _, _, _, _, _, _, _, _, _]) (by decide) rfl rfl dL_colourings_244 rfl ?_
                          refine go_aload (j := 12) (q := 248) rfl dL_colourings_246 rfl ?_
                          refine go_iload (j := 15) (q := 250) rfl dL_colourings_248 rfl ?_
                          refine go_callSi (as := [_]) (rest := [_]) (n := 1) (q := 253) dL_colourings_250 lk_L_16 rfl (by decide +kernel) rfl ⟨by decide, by decide⟩ ⟨rfl, rfl⟩ (Nat.le_of_ble_eq_true rfl) (el_ones (m := msk (dg (wN W) (wA W) r) (wA W)) eu (by omega)) rfl (fun x250 w250 h250 => ?_)
                          obtain ⟨rfl, rfl⟩ := h250
                          have hus2 : pc (msk (dg (wN W) (wA W) r) (wA W)) ≤ 6 := hus.2
                          refine go_dup2 (q := 254) (fun _ z => by cases z) (fun _ z => by cases z) dL_colourings_253 rfl ?_
                          refine go_iald (j := pc (msk (dg (wN W) (wA W) r) (wA W))) (q := 255) (by first | assumption | rfl) (wr_eq (by omega)) (by omega) dL_colourings_254 rfl ?_
                          rw [hut _ (by omega)]
                          refine go_iconst (q := 256) dL_colourings_255 rfl ?_
                          refine go_iadd (q := 257) dL_colourings_256 rfl ?_
                          refine go_iast (j := pc (msk (dg (wN W) (wA W) r) (wA W))) (q := 258) (by first | assumption | rfl) (wr_eq (by omega)) (by omega) dL_colourings_257 rfl ?_
                          refine go_iinc (j := 14) (q := 261) (ls2 := [_, _, _, _, _, _, _, _, _, _, _, _, _, _, _, _, _]) rfl (by decide) rfl rfl dL_colourings_258 rfl ?_
                          refine go_goto (q := 89) dL_colourings_261 (by decide) ?_
                          first
                          | exact ih89 _ (by omega) (r + 1) _ _ _ _ _ _ _ (by omega) (by omega) hP5 hf5 (by rw [hno _ tt_cgr]; exact emi) (by rw [hno _ tw]; exact ewi) (by rw [hno _ tl]; exact eli) (fun u hu => by rw [hno _ eU_cgr]; exact hu5 u hu) rfl
                          | exact ih89 _ (by omega) (r + 1) _ _ _ _ _ _ _ (by omega) (by omega) (PXW_q hPt (fun c k h => mup_ne (by omega))) (fun c k h1 h2 => by rw [mup_ne (by omega)]; exact hft c k h1 h2) (by rw [hmi]; omega) hw1 hl1 (fun u hu => by
                              by_cases q : u = pc (msk (dg (wN W) (wA W) r) (wA W))
                              · rw [q, mup_eq, cnt_yes hn.1 hga eU_cgr (by omega) h102 (show eU (wA W) (pc (msk (dg (wN W) (wA W) r) (wA W))) (dg (wN W) (wA W) r) from rfl)]; rfl
                              · rw [mup_ne (by omega), cnt_no hn.1 hga eU_cgr (by omega) (fun z => q z.2.symm)]; exact hut u hu) rfl
                    · refine go_aload_n (j := 0) (q := 165) rfl rfl dL_colourings_164 rfl ?_
                      refine go_iload (j := 13) (q := 167) rfl dL_colourings_165 rfl ?_
                      refine go_iload (j := 16) (q := 169) rfl dL_colourings_167 rfl ?_
                      refine go_callVi (as := [_, _, _]) (As := [_, _]) (rest := []) (n := 2) (q := 172) dL_colourings_169 lk_L_37 (ci := 6) (N := 7) (T := TX6) rfl (by first | assumption | rfl) rfl rfl (by decide +kernel) rfl ⟨by decide, by decide⟩ ⟨rfl, rfl⟩ (Nat.le_of_ble_eq_true rfl) (lift_XR rfl (ex34 hP6 (by omega) (by omega))) rfl (fun x169 w169 h169 => ?_)
                      obtain ⟨e169, hP7, f7⟩ := h169
                      have g07 : w169 45 0 = ((wN W) : Int) := by rw [f7 _ _ (by omega)]; exact g06
                      have g17 : w169 45 1 = ((wA W) : Int) := by rw [f7 _ _ (by omega)]; exact g16
                      have hd1 := hdl k
                      have hcol : x169 = (dg (wN W) (wA W) r k : Int) := by
                        rw [e169]
                        unfold op34
                        show cif _ _ _ = _
                        rw [cif_t (by omega)]
                        have hA : colA (wN W) (wA W) (wC W) (wF W) (wG W) (wS W) x81.toNat ki.toNat (dg (wN W) (wA W) r k : Int) := Or.inl ⟨dg (wN W) (wA W) r, fun i _ => hdl i, h102, by rw [dg_code hn.1 (by omega)]; omega, by rw [show ki.toNat = k by omega]⟩
                        exact (the_eq hA (fun u hu => colA_u hga (by omega) hu hA)).symm
                      refine go_iload (j := 14) (q := 174) rfl dL_colourings_172 rfl ?_
                      refine go_iload (j := 16) (q := 176) rfl dL_colourings_174 rfl ?_
                      refine go_aload_n (j := 2) (q := 177) rfl rfl dL_colourings_176 rfl ?_
                      refine go_callSi (as := [_, _, _]) (rest := [_]) (n := 3) (q := 180) dL_colourings_177 lk_L_25 rfl (by decide +kernel) rfl ⟨by decide, by decide⟩ ⟨rfl, rfl⟩ (Nat.le_of_ble_eq_true rfl) (el_digit hs45 er (by omega) (j := k) ek (by omega) g07 g17 hn ha.2) rfl (fun x177 w177 h177 => ?_)
                      obtain ⟨rfl, rfl⟩ := h177
                      refine go_icmp_eq2 (q := 183) (t := 185) dL_colourings_180 (by decide) rfl (by omega) (fun c180 => ?_) (fun c180 => ?_)
                      · refine go_iinc (j := 16) (q := 188) (ls2 := [_, _, _, _, _, _, _, _, _, _, _, _, _, _, _, _, _]) rfl (by decide) rfl rfl dL_colourings_185 rfl ?_
                        refine go_goto (q := 156) dL_colourings_188 (by decide) ?_
                        exact ih156 _ (by omega) (k + 1) _ _ (by omega) (by omega) hP7 (fun c k h => by rw [f7 c k h]; exact hf6 c k h) rfl
                      · exact absurd hcol c180
                  exact lp156 _ 0 _ _ rfl (by omega) hP5 (fun c k _ => rfl) rfl
              · refine go_iload (j := 15) (q := 127) rfl dL_colourings_125 rfl ?_
                refine go_iconst (q := 128) dL_colourings_127 rfl ?_
                refine go_iload (j := 14) (q := 130) rfl dL_colourings_128 rfl ?_
                refine go_iload (j := 16) (q := 132) rfl dL_colourings_130 rfl ?_
                refine go_aload_n (j := 2) (q := 133) rfl rfl dL_colourings_132 rfl ?_
                have hd1 := hdl k
                have hm1 := hmk k
                have t1 := two_lt (show dg (wN W) (wA W) r k < 6 by omega)
                refine go_callSi (as := [_, _, _]) (rest := [_, _]) (n := 3) (q := 136) dL_colourings_133 lk_L_25 rfl (by decide +kernel) rfl ⟨by decide, by decide⟩ ⟨rfl, rfl⟩ (Nat.le_of_ble_eq_true rfl) (el_digit hs45 er (by omega) (j := k) ek (by omega) g05 g15 hn ha.2) rfl (fun x133 w133 h133 => ?_)
                obtain ⟨rfl, rfl⟩ := h133
                refine go_ishl (q := 137) dL_colourings_136 rfl ?_
                rw [shl_eq (by omega), eu]
                refine go_ior (q := 138) dL_colourings_137 rfl ?_
                rw [or_eq (by omega) (by omega)]
                refine go_istore (j := 15) (q := 140) (ls2 := [_, _, _, _, _, _, _, _, _, _, _, _, _, _, _, _, _]) (by decide) rfl rfl dL_colourings_138 rfl ?_
                refine go_iinc (j := 16) (q := 143) (ls2 := [_, _, _, _, _, _, _, _, _, _, _, _, _, _, _, _, _]) rfl (by decide) rfl rfl dL_colourings_140 rfl ?_
                refine go_goto (q := 117) dL_colourings_143 (by decide) ?_
                exact ih117 _ (by omega) (k + 1) _ _ (by omega) (by omega) rfl rfl
            exact lp117 _ 0 _ _ rfl (by omega) rfl rfl
          · obtain ⟨rfl, h102⟩ := h102
            refine go_if_neF (q := 108) (t := 111) dL_colourings_105 rfl (by decide) (by decide) ?_
            have hno : ∀ X, cgr (wA W) X → cntP (wN W) (wA W) (wC W) (wF W) (wG W) (wS W) X (r + 1) = cntP (wN W) (wA W) (wC W) (wF W) (wG W) (wS W) X r := fun X hX => cnt_no hn.1 hga hX (by omega) (fun z => h102 z.1)
            have tw : cgr (wA W) (eW x32.toNat x55.toNat) := eW_cgr (by omega)
            have tl : cgr (wA W) (eA x32.toNat x43.toNat) := eA_cgr (by omega) (by omega)
            refine go_goto (q := 258) dL_colourings_108 (by decide) ?_
            refine go_iinc (j := 14) (q := 261) (ls2 := [_, _, _, _, _, _, _, _, _, _, _, _, _, _, _, _, _]) rfl (by decide) rfl rfl dL_colourings_258 rfl ?_
            refine go_goto (q := 89) dL_colourings_261 (by decide) ?_
            first
            | exact ih89 _ (by omega) (r + 1) _ _ _ _ _ _ _ (by omega) (by omega) hP5 hf5 (by rw [hno _ tt_cgr]; exact emi) (by rw [hno _ tw]; exact ewi) (by rw [hno _ tl]; exact eli) (fun u hu => by rw [hno _ eU_cgr]; exact hu5 u hu) rfl
            | exact ih89 _ (by omega) (r + 1) _ _ _ _ _ _ _ (by omega) (by omega) (PXW_q hPt (fun c k h => mup_ne (by omega))) (fun c k h1 h2 => by rw [mup_ne (by omega)]; exact hft c k h1 h2) (by rw [hmi]; omega) hw1 hl1 (fun u hu => by
                by_cases q : u = pc (msk (dg (wN W) (wA W) r) (wA W))
                · rw [q, mup_eq, cnt_yes hn.1 hga eU_cgr (by omega) h102 (show eU (wA W) (pc (msk (dg (wN W) (wA W) r) (wA W))) (dg (wN W) (wA W) r) from rfl)]; rfl
                · rw [mup_ne (by omega), cnt_no hn.1 hga eU_cgr (by omega) (fun z => q z.2.symm)]; exact hut u hu) rfl
      exact lp89 _ 0 _ _ _ _ _ _ _ rfl (by omega) (PXW_q hP (fun c k h => mz_ne (by omega))) (fun c k h1 h2 => mz_ne (by omega)) rfl rfl rfl (fun u hu => mz_eq) rfl
    · refine go_iload (j := 5) (q := 16) rfl dL_colourings_14 rfl ?_
      refine go_aload_n (j := 2) (q := 17) rfl rfl dL_colourings_16 rfl ?_
      refine go_iconst (q := 18) dL_colourings_17 rfl ?_
      refine go_iald (j := 0) (q := 19) (by first | assumption | rfl) (wr_eq (by omega)) (by omega) dL_colourings_18 rfl ?_
      rw [g0]
      refine go_imul (q := 20) dL_colourings_19 rfl ?_
      refine go_istore (j := 5) (q := 22) (ls2 := [_, _, _, _, _, _, _, _, _, _, _, _, _, _, _, _, _]) (by decide) rfl rfl dL_colourings_20 rfl ?_
      refine go_iinc (j := 6) (q := 25) (ls2 := [_, _, _, _, _, _, _, _, _, _, _, _, _, _, _, _, _]) rfl (by decide) rfl rfl dL_colourings_22 rfl ?_
      refine go_goto (q := 6) dL_colourings_25 (by decide) ?_
      exact ih6 _ (by omega) (k + 1) _ _ (by omega) (by omega) (by rw [eal, Nat.pow_succ, Int.natCast_mul]) rfl
  exact lp6 _ 0 _ _ rfl (by omega) rfl rfl
end LAW6
