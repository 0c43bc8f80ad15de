theorem st_b : ∀ q : Fin 6, ∀ k : Fin 5, (k : Nat) < sCnt q → sSt q + k + 1 ≤ 14 ∧ (∀ p : Fin 3, stG q k p < sArc q ∧ L_cross.getD (4 * (sSt q + k) + p) 0 = (stG q k p : Int)) ∧ (stS q k = 1 ∨ stS q k = -1) := by decide +kernel
theorem st_a : ∀ q : Fin 6, (1 ≤ sArc q ∧ sArc q ≤ 7) ∧ (sCnt q ≤ 5 ∧ sSt q ≤ 14) ∧ L_arcs.getD q 0 = (sArc q : Int) ∧ L_starts.getD q 0 = (sSt q : Int) ∧ L_starts.getD ((q : Nat) + 1) 0 = ((sSt q + sCnt q : Nat) : Int) := by decide +kernel
theorem gap_st {q c : Nat} : ∀ k, k < c + 1 → (gap (stG q) c (stG q c 0) (stG q c 1) (stG q c 2) k 0 = stG q k 0 ∧ gap (stG q) c (stG q c 0) (stG q c 1) (stG q c 2) k 1 = stG q k 1 ∧ gap (stG q) c (stG q c 0) (stG q c 1) (stG q c 2) k 2 = stG q k 2 ∧ sap (stS q) c (stS q c) k = stS q k) := by
  intro k hk
  by_cases z : k = c
  · subst z; simp [gap, sap]
  · simp [gap, sap, z]
theorem prt_eq {w : Mem} {d a c k p : Nat} {g : Nat → Nat → Nat} {s : Nat → Int} (hD : DG w d a c g s) (hk : k < c) (hp : p < 4) : w (d + 1) (4 * k + p) = prt g s k p := by
  have hgk := hD.2.2.2 k hk
  unfold prt
  rcases (show p = 0 ∨ p = 1 ∨ p = 2 ∨ p = 3 by omega) with rfl | rfl | rfl | rfl
  · rw [if_neg (by omega)]; exact hgk.1.1
  · rw [if_neg (by omega)]; exact hgk.1.2.1
  · rw [if_neg (by omega)]; exact hgk.1.2.2.1
  · rw [if_pos rfl]; exact hgk.1.2.2.2
section KC2
variable {l : Launch} {D : va_G} {ck : Nat → ClassId} {ad : Nat → Nat} {w : Mem} {W : WA}
theorem ex18 (hP : PXW w W) {x : Int} (hx : rng x) : eX6_newDiagram l D ck ad shA [vR 0, vI x] w (Pi (XR w (op18 W x))) := by
  have hD : DG w 10 (wA W) (wC W) (wG W) (wS W) := hP.1.2
  refine ev_of_goK (own := RX6) (ls := [some (vR 0), some (vI x), none]) (by decide +kernel) rfl rfl (Nat.le_of_ble_eq_true rfl) rkI ?_
  intro K hK
  refine go_iload_n (j := 1) (q := 1) rfl rfl dX6_newDiagram_0 rfl ?_
  refine go_iconst (q := 2) dX6_newDiagram_1 rfl ?_
  refine go_icmp_lt2 (q := 5) (t := 11) dX6_newDiagram_2 (by decide) rfl (by omega) (fun c2 => ?_) (fun c2 => ?_)
  · refine go_bipush (q := 13) rfl dX6_newDiagram_11 rfl ?_
    refine go_iret dX6_newDiagram_13 ?_
    subst hK
    unfold op18
    rw [cif_f (by omega)]
    exact ⟨_, rfl, rfl, hP, fun c k _ => rfl⟩
  · refine go_iload_n (j := 1) (q := 6) rfl rfl dX6_newDiagram_5 rfl ?_
    refine go_bipush (q := 8) rfl dX6_newDiagram_6 rfl ?_
    refine go_icmp_le2 (q := 11) (t := 14) dX6_newDiagram_8 (by decide) rfl (by omega) (fun c8 => ?_) (fun c8 => ?_)
    · refine go_aload_n (j := 0) (q := 15) rfl rfl dX6_newDiagram_14 rfl ?_
      refine go_callVv (as := [_]) (As := []) (rest := []) (n := 0) (q := 18) dX6_newDiagram_15 lk_X6_64 (ci := 6) (N := 7) (T := TX6) rfl (by first | assumption | rfl) rfl rfl (by decide +kernel) rfl ⟨by decide, by decide⟩ ⟨rfl, rfl⟩ (Nat.le_of_ble_eq_true rfl) (ev_saveState hP) rfl (fun w15 h15 => ?_)
      obtain ⟨h15, f15⟩ := h15
      have hD2 : DG w15 10 (wA W) (wC W) (wG W) (wS W) := h15.1.2
      refine go_aload_n (j := 0) (q := 19) rfl rfl dX6_newDiagram_18 rfl ?_
      refine go_getR (C0 := RX6) (T := TX6) (N := 7) (ci := 6) (i := 3) (q := 22) rfl igX6 (by first | assumption | rfl) (by decide) fl_X6_29 rfl dX6_newDiagram_19 rfl ?_
      refine go_getI (C0 := RX1) (T := TX1) (N := 3) (ci := 1) (i := 0) (q := 25) rfl igX1 (by first | assumption | rfl) (by decide) fl_X6_134 rfl dX6_newDiagram_22 rfl ?_
      refine go_istore_n (j := 2) (q := 26) (ls2 := [_, _, _]) rfl (by decide) rfl rfl dX6_newDiagram_25 rfl ?_
      refine go_aload_n (j := 0) (q := 27) rfl rfl dX6_newDiagram_26 rfl ?_
      refine go_getR (C0 := RX6) (T := TX6) (N := 7) (ci := 6) (i := 3) (q := 30) rfl igX6 (by first | assumption | rfl) (by decide) fl_X6_29 rfl dX6_newDiagram_27 rfl ?_
      refine go_iload_n (j := 1) (q := 31) rfl rfl dX6_newDiagram_30 rfl ?_
      refine go_callVv (as := [_, _]) (As := [_]) (rest := []) (n := 1) (q := 34) dX6_newDiagram_31 lk_X6_137 (ci := 1) (N := 3) (T := TX1) rfl (by first | assumption | rfl) rfl rfl (by decide +kernel) rfl ⟨by decide, by decide⟩ ⟨rfl, rfl⟩ (Nat.le_of_ble_eq_true rfl) (ev_clearD (g := wG W) (s := wS W) rfl (x := x.toNat) (by omega) (by omega)) rfl (fun w31 h31 => ?_)
      obtain ⟨h31, f31⟩ := h31
      refine go_iload_n (j := 2) (q := 35) rfl rfl dX6_newDiagram_34 rfl ?_
      refine go_iret dX6_newDiagram_35 ?_
      subst hK
      unfold op18
      rw [cif_t (by omega)]
      exact ⟨_, rfl, hD2.1, PXW_D h15 h31 (fun c k z1 z2 => f31 _ _ z1), fun c k z => by rw [f31 _ _ (by omega)]; exact f15 _ _ (Or.inr z)⟩
    · refine go_bipush (q := 13) rfl dX6_newDiagram_11 rfl ?_
      refine go_iret dX6_newDiagram_13 ?_
      subst hK
      unfold op18
      rw [cif_f (by omega)]
      exact ⟨_, rfl, rfl, hP, fun c k _ => rfl⟩
theorem ex19 (hP : PXW w W) {x : Int} (hx : rng x) : eX6_standard l D ck ad shA [vR 0, vI x] w (Pi (XR w (op19 W x))) := by
  have hD : DG w 10 (wA W) (wC W) (wG W) (wS W) := hP.1.2
  refine ev_of_goK (own := RX6) (ls := [some (vR 0), some (vI x), none, none]) (by decide +kernel) rfl rfl (Nat.le_of_ble_eq_true rfl) rkI ?_
  intro K hK
  refine go_iload_n (j := 1) (q := 1) rfl rfl dX6_standard_0 rfl ?_
  refine go_if_lt2 (q := 4) (t := 10) dX6_standard_1 (by decide) rfl (by omega) (fun c1 => ?_) (fun c1 => ?_)
  · refine go_iconst (q := 11) dX6_standard_10 rfl ?_
    refine go_iret dX6_standard_11 ?_
    subst hK
    unfold op19
    rw [cif_f (by omega)]
    exact ⟨_, rfl, rfl, hP, fun c k _ => rfl⟩
  · refine go_iload_n (j := 1) (q := 5) rfl rfl dX6_standard_4 rfl ?_
    refine go_bipush (q := 7) rfl dX6_standard_5 rfl ?_
    refine go_icmp_lt2 (q := 10) (t := 12) dX6_standard_7 (by decide) rfl (by omega) (fun c7 => ?_) (fun c7 => ?_)
    · have hsa := st_a ⟨x.toNat, by omega⟩
      have hsb := fun k (hk : k < 5) => st_b ⟨x.toNat, by omega⟩ ⟨k, hk⟩
      simp only at hsa hsb
      obtain ⟨q, hq⟩ : ∃ q, q = x.toNat := ⟨_, rfl⟩
      rw [← hq] at hsa hsb
      refine go_aload_n (j := 0) (q := 13) rfl rfl dX6_standard_12 rfl ?_
      refine go_callVv (as := [_]) (As := []) (rest := []) (n := 0) (q := 16) dX6_standard_13 lk_X6_64 (ci := 6) (N := 7) (T := TX6) rfl (by first | assumption | rfl) rfl rfl (by decide +kernel) rfl ⟨by decide, by decide⟩ ⟨rfl, rfl⟩ (Nat.le_of_ble_eq_true rfl) (ev_saveState hP) rfl (fun w13 h13 => ?_)
      obtain ⟨h13, f13⟩ := h13
      refine go_aload_n (j := 0) (q := 17) rfl rfl dX6_standard_16 rfl ?_
      refine go_getR (C0 := RX6) (T := TX6) (N := 7) (ci := 6) (i := 3) (q := 20) rfl igX6 (by first | assumption | rfl) (by decide) fl_X6_29 rfl dX6_standard_17 rfl ?_
      refine go_gets0 (q := 23) fl_X6_140 dX6_standard_20 rfl ?_
      refine go_iload_n (j := 1) (q := 24) rfl rfl dX6_standard_23 rfl ?_
      refine go_tald0 (j := q) (q := 25) (wr_eq (by omega)) (by omega) dX6_standard_24 rfl ?_
      rw [hsa.2.2.1]
      refine go_callVv (as := [_, _]) (As := [_]) (rest := []) (n := 1) (q := 28) dX6_standard_25 lk_X6_137 (ci := 1) (N := 3) (T := TX1) rfl (by first | assumption | rfl) rfl rfl (by decide +kernel) rfl ⟨by decide, by decide⟩ ⟨rfl, rfl⟩ (Nat.le_of_ble_eq_true rfl) (ev_clearD (g := stG q) (s := stS q) rfl (x := sArc q) rfl hsa.1) rfl (fun w25 h25 => ?_)
      obtain ⟨h25, f25⟩ := h25
      refine go_gets1 (q := 31) fl_X6_144 dX6_standard_28 rfl ?_
      refine go_iload_n (j := 1) (q := 32) rfl rfl dX6_standard_31 rfl ?_
      refine go_tald1 (j := q) (q := 33) (wr_eq (by omega)) (by omega) dX6_standard_32 rfl ?_
      rw [hsa.2.2.2.1]
      refine go_istore_n (j := 2) (q := 34) (ls2 := [_, _, _, _]) rfl (by decide) rfl rfl dX6_standard_33 rfl ?_
      have lp34 : ∀ (m34 : Nat) (k : Nat) (ci : Int) (u : Option MV) (w2 : Mem) (ec : ci = ((sSt q + k : Nat) : Int)) (hk : k ≤ sCnt q) (hD2 : DG w2 10 (sArc q) k (stG q) (stS q)) (hf2 : ∀ c k, c ≠ 10 → c ≠ 11 → w2 c k = w13 c k), m34 = sCnt q - k → gX6_standard l D ck ad shA 34 [some (vR 0), some (vI x), some (vI ci), u] [] w2 K := by
        intro m34
        induction m34 using Nat.strongRecOn with
        | _ m34 ih34 =>
        intro k ci u w2 ec hk hD2 hf2 em34
        refine go_iload_n (j := 2) (q := 35) rfl rfl dX6_standard_34 rfl ?_
        refine go_gets1 (q := 38) fl_X6_144 dX6_standard_35 rfl ?_
        refine go_iload_n (j := 1) (q := 39) rfl rfl dX6_standard_38 rfl ?_
        refine go_iconst (q := 40) dX6_standard_39 rfl ?_
        refine go_iadd (q := 41) dX6_standard_40 rfl ?_
        refine go_tald1 (j := q + 1) (q := 42) (wr_eq (by omega)) (by omega) dX6_standard_41 rfl ?_
        rw [hsa.2.2.2.2]
        refine go_icmp_ge2 (q := 45) (t := 90) dX6_standard_42 (by decide) rfl (by omega) (fun c42 => ?_) (fun c42 => ?_)
        · refine go_aload_n (j := 0) (q := 91) rfl rfl dX6_standard_90 rfl ?_
          refine go_getR (C0 := RX6) (T := TX6) (N := 7) (ci := 6) (i := 3) (q := 94) rfl igX6 (by first | assumption | rfl) (by decide) fl_X6_29 rfl dX6_standard_91 rfl ?_
          refine go_getI (C0 := RX1) (T := TX1) (N := 3) (ci := 1) (i := 1) (q := 97) rfl igX1 (by first | assumption | rfl) (by decide) fl_X6_154 rfl dX6_standard_94 rfl ?_
          refine go_iret dX6_standard_97 ?_
          subst hK
          unfold op19
          rw [cif_t (by omega), ← hq]
          rw [show k = sCnt q by omega] at hD2
          exact ⟨_, rfl, hD2.2.1, PXW_D h13 hD2 hf2, fun c k z => by rw [hf2 _ _ (by omega) (by omega)]; exact f13 _ _ (Or.inr z)⟩
        · have hbk := hsb k (by omega) (by omega)
          have p0 := hbk.2.1 0
          have p1 := hbk.2.1 1
          have p2 := hbk.2.1 2
          have p0a : L_cross.getD (4 * (sSt q + k)) 0 = (stG q k 0 : Int) := p0.2
          have p1a : L_cross.getD (4 * (sSt q + k) + 1) 0 = (stG q k 1 : Int) := p1.2
          have p2a : L_cross.getD (4 * (sSt q + k) + 2) 0 = (stG q k 2 : Int) := p2.2
          have p3a : L_cross.getD (4 * (sSt q + k) + 3) 0 = stS q k := rfl
          have l0 : stG q k 0 < sArc q := p0.1
          have l1 : stG q k 1 < sArc q := p1.1
          have l2 : stG q k 2 < sArc q := p2.1
          refine go_iconst (q := 46) dX6_standard_45 rfl ?_
          refine go_iload_n (j := 2) (q := 47) rfl rfl dX6_standard_46 rfl ?_
          refine go_imul (q := 48) dX6_standard_47 rfl ?_
          refine go_istore_n (j := 3) (q := 49) (ls2 := [_, _, _, _]) rfl (by decide) rfl rfl dX6_standard_48 rfl ?_
          refine go_aload_n (j := 0) (q := 50) rfl rfl dX6_standard_49 rfl ?_
          refine go_getR (C0 := RX6) (T := TX6) (N := 7) (ci := 6) (i := 3) (q := 53) rfl igX6 (by first | assumption | rfl) (by decide) fl_X6_29 rfl dX6_standard_50 rfl ?_
          refine go_gets2 (q := 56) fl_X6_147 dX6_standard_53 rfl ?_
          refine go_iload_n (j := 3) (q := 57) rfl rfl dX6_standard_56 rfl ?_
          refine go_iconst (q := 58) dX6_standard_57 rfl ?_
          refine go_iadd (q := 59) dX6_standard_58 rfl ?_
          refine go_tald2 (j := 4 * (sSt q + k)) (q := 60) (wr_eq (by omega)) (by omega) dX6_standard_59 rfl ?_
          rw [p0a]
          refine go_gets2 (q := 63) fl_X6_147 dX6_standard_60 rfl ?_
          refine go_iload_n (j := 3) (q := 64) rfl rfl dX6_standard_63 rfl ?_
          refine go_iconst (q := 65) dX6_standard_64 rfl ?_
          refine go_iadd (q := 66) dX6_standard_65 rfl ?_
          refine go_tald2 (j := 4 * (sSt q + k) + 1) (q := 67) (wr_eq (by omega)) (by omega) dX6_standard_66 rfl ?_
          rw [p1a]
          refine go_gets2 (q := 70) fl_X6_147 dX6_standard_67 rfl ?_
          refine go_iload_n (j := 3) (q := 71) rfl rfl dX6_standard_70 rfl ?_
          refine go_iconst (q := 72) dX6_standard_71 rfl ?_
          refine go_iadd (q := 73) dX6_standard_72 rfl ?_
          refine go_tald2 (j := 4 * (sSt q + k) + 2) (q := 74) (wr_eq (by omega)) (by omega) dX6_standard_73 rfl ?_
          rw [p2a]
          refine go_gets2 (q := 77) fl_X6_147 dX6_standard_74 rfl ?_
          refine go_iload_n (j := 3) (q := 78) rfl rfl dX6_standard_77 rfl ?_
          refine go_iconst (q := 79) dX6_standard_78 rfl ?_
          refine go_iadd (q := 80) dX6_standard_79 rfl ?_
          refine go_tald2 (j := 4 * (sSt q + k) + 3) (q := 81) (wr_eq (by omega)) (by omega) dX6_standard_80 rfl ?_
          rw [p3a]
          refine go_callVv (as := [_, _, _, _, _]) (As := [_, _, _, _]) (rest := []) (n := 4) (q := 84) dX6_standard_81 lk_X6_150 (ci := 1) (N := 3) (T := TX1) rfl (by first | assumption | rfl) rfl rfl (by decide +kernel) rfl ⟨by decide, by decide⟩ ⟨rfl, rfl⟩ (Nat.le_of_ble_eq_true rfl) (ev_appendD rfl rfl hD2 (o := stG q k 0) (i := stG q k 1) (u := stG q k 2) rfl rfl rfl ⟨l0, l1, l2⟩ hbk.2.2 (by omega)) rfl (fun w81 h81 => ?_)
          obtain ⟨h81, f81⟩ := h81
          refine go_iinc (j := 2) (q := 87) (ls2 := [_, _, _, _]) rfl (by decide) rfl rfl dX6_standard_84 rfl ?_
          refine go_goto (q := 34) dX6_standard_87 (by decide) ?_
          exact ih34 _ (by omega) (k + 1) _ _ _ (by omega) (by omega) (DG_congr h81 gap_st) (fun c k z1 z2 => by rw [f81 _ _ z1 z2]; exact hf2 c k z1 z2) rfl
      exact lp34 _ 0 _ _ _ rfl (by omega) h25 (fun c k z1 z2 => f25 _ _ z1) rfl
    · refine go_iconst (q := 11) dX6_standard_10 rfl ?_
      refine go_iret dX6_standard_11 ?_
      subst hK
      unfold op19
      rw [cif_f (by omega)]
      exact ⟨_, rfl, rfl, hP, fun c k _ => rfl⟩
theorem ex20 (hP : PXW w W) {o i u v : Int} (ho : rng o) (hi : rng i) (hu : rng u) (hv : rng v) : eX6_addCrossing l D ck ad shA [vR 0, vI o, vI i, vI u, vI v] w (Pi (XR w (op20 W o i u v))) := by
  have hD : DG w 10 (wA W) (wC W) (wG W) (wS W) := hP.1.2
  have hb := hD.2.2.1
  refine ev_of_goK (own := RX6) (ls := [some (vR 0), some (vI o), some (vI i), some (vI u), some (vI v)]) (by decide +kernel) rfl rfl (Nat.le_of_ble_eq_true rfl) rkI ?_
  intro K hK
  refine go_aload_n (j := 0) (q := 1) rfl rfl dX6_addCrossing_0 rfl ?_
  refine go_getR (C0 := RX6) (T := TX6) (N := 7) (ci := 6) (i := 3) (q := 4) rfl igX6 (by first | assumption | rfl) (by decide) fl_X6_29 rfl dX6_addCrossing_1 rfl ?_
  refine go_iload_n (j := 1) (q := 5) rfl rfl dX6_addCrossing_4 rfl ?_
  refine go_callVz (as := [_, _]) (As := [_]) (rest := []) (n := 1) (q := 8) dX6_addCrossing_5 lk_X6_157 (ci := 1) (N := 3) (T := TX1) rfl (by first | assumption | rfl) rfl rfl (by decide +kernel) rfl ⟨by decide, by decide⟩ ⟨rfl, rfl⟩ (Nat.le_of_ble_eq_true rfl) (ev_hasArc rfl hD ho) rfl (fun w5 h5 => ?_) (fun w5 h5 => ?_)
  · obtain ⟨rfl, h5⟩ := h5
    refine go_if_eqF (q := 11) (t := 33) dX6_addCrossing_8 rfl (by decide) (by decide) ?_
    refine go_aload_n (j := 0) (q := 12) rfl rfl dX6_addCrossing_11 rfl ?_
    refine go_getR (C0 := RX6) (T := TX6) (N := 7) (ci := 6) (i := 3) (q := 15) rfl igX6 (by first | assumption | rfl) (by decide) fl_X6_29 rfl dX6_addCrossing_12 rfl ?_
    refine go_iload_n (j := 2) (q := 16) rfl rfl dX6_addCrossing_15 rfl ?_
    refine go_callVz (as := [_, _]) (As := [_]) (rest := []) (n := 1) (q := 19) dX6_addCrossing_16 lk_X6_157 (ci := 1) (N := 3) (T := TX1) rfl (by first | assumption | rfl) rfl rfl (by decide +kernel) rfl ⟨by decide, by decide⟩ ⟨rfl, rfl⟩ (Nat.le_of_ble_eq_true rfl) (ev_hasArc rfl hD hi) rfl (fun w16 h16 => ?_) (fun w16 h16 => ?_)
    · obtain ⟨rfl, h16⟩ := h16
      refine go_if_eqF (q := 22) (t := 33) dX6_addCrossing_19 rfl (by decide) (by decide) ?_
      refine go_aload_n (j := 0) (q := 23) rfl rfl dX6_addCrossing_22 rfl ?_
      refine go_getR (C0 := RX6) (T := TX6) (N := 7) (ci := 6) (i := 3) (q := 26) rfl igX6 (by first | assumption | rfl) (by decide) fl_X6_29 rfl dX6_addCrossing_23 rfl ?_
      refine go_iload_n (j := 3) (q := 27) rfl rfl dX6_addCrossing_26 rfl ?_
      refine go_callVz (as := [_, _]) (As := [_]) (rest := []) (n := 1) (q := 30) dX6_addCrossing_27 lk_X6_157 (ci := 1) (N := 3) (T := TX1) rfl (by first | assumption | rfl) rfl rfl (by decide +kernel) rfl ⟨by decide, by decide⟩ ⟨rfl, rfl⟩ (Nat.le_of_ble_eq_true rfl) (ev_hasArc rfl hD hu) rfl (fun w27 h27 => ?_) (fun w27 h27 => ?_)
      · obtain ⟨rfl, h27⟩ := h27
        refine go_if_neT (t := 35) dX6_addCrossing_30 (by decide) (by decide) ?_
        refine go_iload (j := 4) (q := 37) rfl dX6_addCrossing_35 rfl ?_
        refine go_iconst (q := 38) dX6_addCrossing_37 rfl ?_
        refine go_icmp_eq2 (q := 41) (t := 50) dX6_addCrossing_38 (by decide) rfl (by omega) (fun c38 => ?_) (fun c38 => ?_)
        · refine go_aload_n (j := 0) (q := 51) rfl rfl dX6_addCrossing_50 rfl ?_
          refine go_getR (C0 := RX6) (T := TX6) (N := 7) (ci := 6) (i := 3) (q := 54) rfl igX6 (by first | assumption | rfl) (by decide) fl_X6_29 rfl dX6_addCrossing_51 rfl ?_
          refine go_iconst (q := 55) dX6_addCrossing_54 rfl ?_
          refine go_iconst (q := 56) dX6_addCrossing_55 rfl ?_
          refine go_callVz (as := [_, _, _]) (As := [_, _]) (rest := []) (n := 2) (q := 59) dX6_addCrossing_56 lk_X6_160 (ci := 1) (N := 3) (T := TX1) rfl (by first | assumption | rfl) rfl rfl (by decide +kernel) rfl ⟨by decide, by decide⟩ ⟨rfl, rfl⟩ (Nat.le_of_ble_eq_true rfl) (ev_hasRoom rfl hD (by omega)) rfl (fun w56 h56 => ?_) (fun w56 h56 => ?_)
          · obtain ⟨rfl, h56⟩ := h56
            refine go_if_neT (t := 65) dX6_addCrossing_59 (by decide) (by decide) ?_
            refine go_aload_n (j := 0) (q := 66) rfl rfl dX6_addCrossing_65 rfl ?_
            refine go_callVv (as := [_]) (As := []) (rest := []) (n := 0) (q := 69) dX6_addCrossing_66 lk_X6_64 (ci := 6) (N := 7) (T := TX6) rfl (by first | assumption | rfl) rfl rfl (by decide +kernel) rfl ⟨by decide, by decide⟩ ⟨rfl, rfl⟩ (Nat.le_of_ble_eq_true rfl) (ev_saveState hP) rfl (fun w66 h66 => ?_)
            obtain ⟨h66, f66⟩ := h66
            have hD2 : DG w66 10 (wA W) (wC W) (wG W) (wS W) := h66.1.2
            refine go_aload_n (j := 0) (q := 70) rfl rfl dX6_addCrossing_69 rfl ?_
            refine go_getR (C0 := RX6) (T := TX6) (N := 7) (ci := 6) (i := 3) (q := 73) rfl igX6 (by first | assumption | rfl) (by decide) fl_X6_29 rfl dX6_addCrossing_70 rfl ?_
            refine go_iload_n (j := 1) (q := 74) rfl rfl dX6_addCrossing_73 rfl ?_
            refine go_iload_n (j := 2) (q := 75) rfl rfl dX6_addCrossing_74 rfl ?_
            refine go_iload_n (j := 3) (q := 76) rfl rfl dX6_addCrossing_75 rfl ?_
            refine go_iload (j := 4) (q := 78) rfl dX6_addCrossing_76 rfl ?_
            refine go_callVv (as := [_, _, _, _, _]) (As := [_, _, _, _]) (rest := []) (n := 4) (q := 81) dX6_addCrossing_78 lk_X6_150 (ci := 1) (N := 3) (T := TX1) rfl (by first | assumption | rfl) rfl rfl (by decide +kernel) rfl ⟨by decide, by decide⟩ ⟨rfl, rfl⟩ (Nat.le_of_ble_eq_true rfl) (ev_appendD rfl rfl hD2 (o := o.toNat) (i := i.toNat) (u := u.toNat) (by omega) (by omega) (by omega) (by omega) (by omega) (by omega)) rfl (fun w78 h78 => ?_)
            obtain ⟨h78, f78⟩ := h78
            have e78 := h78.2.1
            refine go_aload_n (j := 0) (q := 82) rfl rfl dX6_addCrossing_81 rfl ?_
            refine go_getR (C0 := RX6) (T := TX6) (N := 7) (ci := 6) (i := 3) (q := 85) rfl igX6 (by first | assumption | rfl) (by decide) fl_X6_29 rfl dX6_addCrossing_82 rfl ?_
            refine go_getI (C0 := RX1) (T := TX1) (N := 3) (ci := 1) (i := 1) (q := 88) rfl igX1 (by first | assumption | rfl) (by decide) fl_X6_154 rfl dX6_addCrossing_85 rfl ?_
            refine go_iconst (q := 89) dX6_addCrossing_88 rfl ?_
            refine go_isub (q := 90) dX6_addCrossing_89 rfl ?_
            refine go_iret dX6_addCrossing_90 ?_
            subst hK
            unfold op20
            rw [cif_t (by omega)]
            rw [cif_t (by omega)]
            rw [cif_t (by omega)]
            exact ⟨_, rfl, by rw [e78]; simp only; omega, PXW_D h66 h78 f78, fun c k z => by rw [f78 _ _ (by omega) (by omega)]; exact f66 _ _ (Or.inr z)⟩
          · obtain ⟨rfl, h56⟩ := h56
            refine go_if_neF (q := 62) (t := 65) dX6_addCrossing_59 rfl (by decide) (by decide) ?_
            refine go_bipush (q := 64) rfl dX6_addCrossing_62 rfl ?_
            refine go_iret dX6_addCrossing_64 ?_
            subst hK
            unfold op20
            rw [cif_t (by omega)]
            rw [cif_t (by omega)]
            rw [cif_f (by omega)]
            exact ⟨_, rfl, rfl, hP, fun c k _ => rfl⟩
        · refine go_iload (j := 4) (q := 43) rfl dX6_addCrossing_41 rfl ?_
          refine go_iconst (q := 44) dX6_addCrossing_43 rfl ?_
          refine go_icmp_eq2 (q := 47) (t := 50) dX6_addCrossing_44 (by decide) rfl (by omega) (fun c44 => ?_) (fun c44 => ?_)
          · refine go_aload_n (j := 0) (q := 51) rfl rfl dX6_addCrossing_50 rfl ?_
            refine go_getR (C0 := RX6) (T := TX6) (N := 7) (ci := 6) (i := 3) (q := 54) rfl igX6 (by first | assumption | rfl) (by decide) fl_X6_29 rfl dX6_addCrossing_51 rfl ?_
            refine go_iconst (q := 55) dX6_addCrossing_54 rfl ?_
            refine go_iconst (q := 56) dX6_addCrossing_55 rfl ?_
            refine go_callVz (as := [_, _, _]) (As := [_, _]) (rest := []) (n := 2) (q := 59) dX6_addCrossing_56 lk_X6_160 (ci := 1) (N := 3) (T := TX1) rfl (by first | assumption | rfl) rfl rfl (by decide +kernel) rfl ⟨by decide, by decide⟩ ⟨rfl, rfl⟩ (Nat.le_of_ble_eq_true rfl) (ev_hasRoom rfl hD (by omega)) rfl (fun w56 h56 => ?_) (fun w56 h56 => ?_)
            · obtain ⟨rfl, h56⟩ := h56
              refine go_if_neT (t := 65) dX6_addCrossing_59 (by decide) (by decide) ?_
              refine go_aload_n (j := 0) (q := 66) rfl rfl dX6_addCrossing_65 rfl ?_
              refine go_callVv (as := [_]) (As := []) (rest := []) (n := 0) (q := 69) dX6_addCrossing_66 lk_X6_64 (ci := 6) (N := 7) (T := TX6) rfl (by first | assumption | rfl) rfl rfl (by decide +kernel) rfl ⟨by decide, by decide⟩ ⟨rfl, rfl⟩ (Nat.le_of_ble_eq_true rfl) (ev_saveState hP) rfl (fun w66 h66 => ?_)
              obtain ⟨h66, f66⟩ := h66
              have hD2 : DG w66 10 (wA W) (wC W) (wG W) (wS W) := h66.1.2
              refine go_aload_n (j := 0) (q := 70) rfl rfl dX6_addCrossing_69 rfl ?_
              refine go_getR (C0 := RX6) (T := TX6) (N := 7) (ci := 6) (i := 3) (q := 73) rfl igX6 (by first | assumption | rfl) (by decide) fl_X6_29 rfl dX6_addCrossing_70 rfl ?_
              refine go_iload_n (j := 1) (q := 74) rfl rfl dX6_addCrossing_73 rfl ?_
              refine go_iload_n (j := 2) (q := 75) rfl rfl dX6_addCrossing_74 rfl ?_
              refine go_iload_n (j := 3) (q := 76) rfl rfl dX6_addCrossing_75 rfl ?_
              refine go_iload (j := 4) (q := 78) rfl dX6_addCrossing_76 rfl ?_
              refine go_callVv (as := [_, _, _, _, _]) (As := [_, _, _, _]) (rest := []) (n := 4) (q := 81) dX6_addCrossing_78 lk_X6_150 (ci := 1) (N := 3) (T := TX1) rfl (by first | assumption | rfl) rfl rfl (by decide +kernel) rfl ⟨by decide, by decide⟩ ⟨rfl, rfl⟩ (Nat.le_of_ble_eq_true rfl) (ev_appendD rfl rfl hD2 (o := o.toNat) (i := i.toNat) (u := u.toNat) (by omega) (by omega) (by omega) (by omega) (by omega) (by omega)) rfl (fun w78 h78 => ?_)
              obtain ⟨h78, f78⟩ := h78
              have e78 := h78.2.1
              refine go_aload_n (j := 0) (q := 82) rfl rfl dX6_addCrossing_81 rfl ?_
              refine go_getR (C0 := RX6) (T := TX6) (N := 7) (ci := 6) (i := 3) (q := 85) rfl igX6 (by first | assumption | rfl) (by decide) fl_X6_29 rfl dX6_addCrossing_82 rfl ?_
              refine go_getI (C0 := RX1) (T := TX1) (N := 3) (ci := 1) (i := 1) (q := 88) rfl igX1 (by first | assumption | rfl) (by decide) fl_X6_154 rfl dX6_addCrossing_85 rfl ?_
              refine go_iconst (q := 89) dX6_addCrossing_88 rfl ?_
              refine go_isub (q := 90) dX6_addCrossing_89 rfl ?_
              refine go_iret dX6_addCrossing_90 ?_
              subst hK
              unfold op20
              rw [cif_t (by omega)]
              rw [cif_t (by omega)]
              rw [cif_t (by omega)]
              exact ⟨_, rfl, by rw [e78]; simp only; omega, PXW_D h66 h78 f78, fun c k z => by rw [f78 _ _ (by omega) (by omega)]; exact f66 _ _ (Or.inr z)⟩
            · obtain ⟨rfl, h56⟩ := h56
              refine go_if_neF (q := 62) (t := 65) dX6_addCrossing_59 rfl (by decide) (by decide) ?_
              refine go_bipush (q := 64) rfl dX6_addCrossing_62 rfl ?_
              refine go_iret dX6_addCrossing_64 ?_
              subst hK
              unfold op20
              rw [cif_t (by omega)]
              rw [cif_t (by omega)]
              rw [cif_f (by omega)]
              exact ⟨_, rfl, rfl, hP, fun c k _ => rfl⟩
          · refine go_bipush (q := 49) rfl dX6_addCrossing_47 rfl ?_
            refine go_iret dX6_addCrossing_49 ?_
            subst hK
            unfold op20
            rw [cif_t (by omega)]
            rw [cif_f (by omega)]
            exact ⟨_, rfl, rfl, hP, fun c k _ => rfl⟩
      · obtain ⟨rfl, h27⟩ := h27
        refine go_if_neF (q := 33) (t := 35) dX6_addCrossing_30 rfl (by decide) (by decide) ?_
        refine go_iconst (q := 34) dX6_addCrossing_33 rfl ?_
        refine go_iret dX6_addCrossing_34 ?_
        subst hK
        unfold op20
        rw [cif_f (by omega)]
        exact ⟨_, rfl, rfl, hP, fun c k _ => rfl⟩
    · obtain ⟨rfl, h16⟩ := h16
      refine go_if_eqT (t := 33) dX6_addCrossing_19 (by decide) (by decide) ?_
      refine go_iconst (q := 34) dX6_addCrossing_33 rfl ?_
      refine go_iret dX6_addCrossing_34 ?_
      subst hK
      unfold op20
      rw [cif_f (by omega)]
      exact ⟨_, rfl, rfl, hP, fun c k _ => rfl⟩
  · obtain ⟨rfl, h5⟩ := h5
    refine go_if_eqT (t := 33) dX6_addCrossing_8 (by decide) (by decide) ?_
    refine go_iconst (q := 34) dX6_addCrossing_33 rfl ?_
    refine go_iret dX6_addCrossing_34 ?_
    subst hK
    unfold op20
    rw [cif_f (by omega)]
    exact ⟨_, rfl, rfl, hP, fun c k _ => rfl⟩
theorem ex21 (hP : PXW w W) {x : Int} (hx : rng x) : eX6_removeCrossing l D ck ad shA [vR 0, vI x] w (Pi (XR w (op21 W x))) := by
  have hD : DG w 10 (wA W) (wC W) (wG W) (wS W) := hP.1.2
  have hb := hD.2.2.1
  refine ev_of_goK (own := RX6) (ls := [some (vR 0), some (vI x)]) (by decide +kernel) rfl rfl (Nat.le_of_ble_eq_true rfl) rkI ?_
  intro K hK
  refine go_aload_n (j := 0) (q := 1) rfl rfl dX6_removeCrossing_0 rfl ?_
  refine go_getR (C0 := RX6) (T := TX6) (N := 7) (ci := 6) (i := 3) (q := 4) rfl igX6 (by first | assumption | rfl) (by decide) fl_X6_29 rfl dX6_removeCrossing_1 rfl ?_
  refine go_iload_n (j := 1) (q := 5) rfl rfl dX6_removeCrossing_4 rfl ?_
  refine go_callVz (as := [_, _]) (As := [_]) (rest := []) (n := 1) (q := 8) dX6_removeCrossing_5 lk_X6_164 (ci := 1) (N := 3) (T := TX1) rfl (by first | assumption | rfl) rfl rfl (by decide +kernel) rfl ⟨by decide, by decide⟩ ⟨rfl, rfl⟩ (Nat.le_of_ble_eq_true rfl) (ev_hasCrossing rfl hD hx) rfl (fun w5 h5 => ?_) (fun w5 h5 => ?_)
  · obtain ⟨rfl, h5⟩ := h5
    refine go_if_neT (t := 13) dX6_removeCrossing_8 (by decide) (by decide) ?_
    refine go_aload_n (j := 0) (q := 14) rfl rfl dX6_removeCrossing_13 rfl ?_
    refine go_callVv (as := [_]) (As := []) (rest := []) (n := 0) (q := 17) dX6_removeCrossing_14 lk_X6_64 (ci := 6) (N := 7) (T := TX6) rfl (by first | assumption | rfl) rfl rfl (by decide +kernel) rfl ⟨by decide, by decide⟩ ⟨rfl, rfl⟩ (Nat.le_of_ble_eq_true rfl) (ev_saveState hP) rfl (fun w14 h14 => ?_)
    obtain ⟨h14, f14⟩ := h14
    have hD2 : DG w14 10 (wA W) (wC W) (wG W) (wS W) := h14.1.2
    refine go_aload_n (j := 0) (q := 18) rfl rfl dX6_removeCrossing_17 rfl ?_
    refine go_getR (C0 := RX6) (T := TX6) (N := 7) (ci := 6) (i := 3) (q := 21) rfl igX6 (by first | assumption | rfl) (by decide) fl_X6_29 rfl dX6_removeCrossing_18 rfl ?_
    refine go_iload_n (j := 1) (q := 22) rfl rfl dX6_removeCrossing_21 rfl ?_
    refine go_callVv (as := [_, _]) (As := [_]) (rest := []) (n := 1) (q := 25) dX6_removeCrossing_22 lk_X6_167 (ci := 1) (N := 3) (T := TX1) rfl (by first | assumption | rfl) rfl rfl (by decide +kernel) rfl ⟨by decide, by decide⟩ ⟨rfl, rfl⟩ (Nat.le_of_ble_eq_true rfl) (ev_removeD rfl rfl hD2 (q := x.toNat) (by omega) (by omega)) rfl (fun w22 h22 => ?_)
    obtain ⟨h22, f22⟩ := h22
    refine go_aload_n (j := 0) (q := 26) rfl rfl dX6_removeCrossing_25 rfl ?_
    refine go_getR (C0 := RX6) (T := TX6) (N := 7) (ci := 6) (i := 3) (q := 29) rfl igX6 (by first | assumption | rfl) (by decide) fl_X6_29 rfl dX6_removeCrossing_26 rfl ?_
    refine go_getI (C0 := RX1) (T := TX1) (N := 3) (ci := 1) (i := 1) (q := 32) rfl igX1 (by first | assumption | rfl) (by decide) fl_X6_154 rfl dX6_removeCrossing_29 rfl ?_
    refine go_iret dX6_removeCrossing_32 ?_
    subst hK
    unfold op21
    rw [cif_t (by omega)]
    exact ⟨_, rfl, h22.2.1, PXW_D h14 h22 f22, fun c k z => by rw [f22 _ _ (by omega) (by omega)]; exact f14 _ _ (Or.inr z)⟩
  · obtain ⟨rfl, h5⟩ := h5
    refine go_if_neF (q := 11) (t := 13) dX6_removeCrossing_8 rfl (by decide) (by decide) ?_
    refine go_iconst (q := 12) dX6_removeCrossing_11 rfl ?_
    refine go_iret dX6_removeCrossing_12 ?_
    subst hK
    unfold op21
    rw [cif_f (by omega)]
    exact ⟨_, rfl, rfl, hP, fun c k _ => rfl⟩
theorem ex22 (hP : PXW w W) {x v : Int} (hx : rng x) (hv : rng v) : eX6_kink l D ck ad shA [vR 0, vI x, vI v] w (Pi (XR w (op22 W x v))) := by
  have hD : DG w 10 (wA W) (wC W) (wG W) (wS W) := hP.1.2
  have hb := hD.2.2.1
  refine ev_of_goK (own := RX6) (ls := [some (vR 0), some (vI x), some (vI v), none]) (by decide +kernel) rfl rfl (Nat.le_of_ble_eq_true rfl) rkI ?_
  intro K hK
  refine go_aload_n (j := 0) (q := 1) rfl rfl dX6_kink_0 rfl ?_
  refine go_getR (C0 := RX6) (T := TX6) (N := 7) (ci := 6) (i := 3) (q := 4) rfl igX6 (by first | assumption | rfl) (by decide) fl_X6_29 rfl dX6_kink_1 rfl ?_
  refine go_iload_n (j := 1) (q := 5) rfl rfl dX6_kink_4 rfl ?_
  refine go_callVz (as := [_, _]) (As := [_]) (rest := []) (n := 1) (q := 8) dX6_kink_5 lk_X6_157 (ci := 1) (N := 3) (T := TX1) rfl (by first | assumption | rfl) rfl rfl (by decide +kernel) rfl ⟨by decide, by decide⟩ ⟨rfl, rfl⟩ (Nat.le_of_ble_eq_true rfl) (ev_hasArc rfl hD hx) rfl (fun w5 h5 => ?_) (fun w5 h5 => ?_)
  · obtain ⟨rfl, h5⟩ := h5
    refine go_if_neT (t := 13) dX6_kink_8 (by decide) (by decide) ?_
    refine go_iload_n (j := 2) (q := 14) rfl rfl dX6_kink_13 rfl ?_
    refine go_iconst (q := 15) dX6_kink_14 rfl ?_
    refine go_icmp_eq2 (q := 18) (t := 26) dX6_kink_15 (by decide) rfl (by omega) (fun c15 => ?_) (fun c15 => ?_)
    · refine go_aload_n (j := 0) (q := 27) rfl rfl dX6_kink_26 rfl ?_
      refine go_getR (C0 := RX6) (T := TX6) (N := 7) (ci := 6) (i := 3) (q := 30) rfl igX6 (by first | assumption | rfl) (by decide) fl_X6_29 rfl dX6_kink_27 rfl ?_
      refine go_iconst (q := 31) dX6_kink_30 rfl ?_
      refine go_iconst (q := 32) dX6_kink_31 rfl ?_
      refine go_callVz (as := [_, _, _]) (As := [_, _]) (rest := []) (n := 2) (q := 35) dX6_kink_32 lk_X6_160 (ci := 1) (N := 3) (T := TX1) rfl (by first | assumption | rfl) rfl rfl (by decide +kernel) rfl ⟨by decide, by decide⟩ ⟨rfl, rfl⟩ (Nat.le_of_ble_eq_true rfl) (ev_hasRoom rfl hD (by omega)) rfl (fun w32 h32 => ?_) (fun w32 h32 => ?_)
      · obtain ⟨rfl, h32⟩ := h32
        refine go_if_neT (t := 41) dX6_kink_35 (by decide) (by decide) ?_
        refine go_aload_n (j := 0) (q := 42) rfl rfl dX6_kink_41 rfl ?_
        refine go_callVv (as := [_]) (As := []) (rest := []) (n := 0) (q := 45) dX6_kink_42 lk_X6_64 (ci := 6) (N := 7) (T := TX6) rfl (by first | assumption | rfl) rfl rfl (by decide +kernel) rfl ⟨by decide, by decide⟩ ⟨rfl, rfl⟩ (Nat.le_of_ble_eq_true rfl) (ev_saveState hP) rfl (fun w42 h42 => ?_)
        obtain ⟨h42, f42⟩ := h42
        have hD2 : DG w42 10 (wA W) (wC W) (wG W) (wS W) := h42.1.2
        refine go_aload_n (j := 0) (q := 46) rfl rfl dX6_kink_45 rfl ?_
        refine go_getR (C0 := RX6) (T := TX6) (N := 7) (ci := 6) (i := 3) (q := 49) rfl igX6 (by first | assumption | rfl) (by decide) fl_X6_29 rfl dX6_kink_46 rfl ?_
        refine go_callVi (as := [_]) (As := []) (rest := []) (n := 0) (q := 52) dX6_kink_49 lk_X6_170 (ci := 1) (N := 3) (T := TX1) rfl (by first | assumption | rfl) rfl rfl (by decide +kernel) rfl ⟨by decide, by decide⟩ ⟨rfl, rfl⟩ (Nat.le_of_ble_eq_true rfl) (ev_addArc rfl hD2 (by omega)) rfl (fun x49 w49 h49 => ?_)
        obtain ⟨rfl, h49, f49⟩ := h49
        refine go_istore_n (j := 3) (q := 53) (ls2 := [_, _, _, _]) rfl (by decide) rfl rfl dX6_kink_52 rfl ?_
        refine go_aload_n (j := 0) (q := 54) rfl rfl dX6_kink_53 rfl ?_
        refine go_getR (C0 := RX6) (T := TX6) (N := 7) (ci := 6) (i := 3) (q := 57) rfl igX6 (by first | assumption | rfl) (by decide) fl_X6_29 rfl dX6_kink_54 rfl ?_
        refine go_iload_n (j := 1) (q := 58) rfl rfl dX6_kink_57 rfl ?_
        refine go_iload_n (j := 3) (q := 59) rfl rfl dX6_kink_58 rfl ?_
        refine go_callVv (as := [_, _, _]) (As := [_, _]) (rest := []) (n := 2) (q := 62) dX6_kink_59 lk_X6_173 (ci := 1) (N := 3) (T := TX1) rfl (by first | assumption | rfl) rfl rfl (by decide +kernel) rfl ⟨by decide, by decide⟩ ⟨rfl, rfl⟩ (Nat.le_of_ble_eq_true rfl) (ev_moveIn rfl rfl h49 (x := x.toNat) (y := wA W) (by omega) rfl (by omega)) rfl (fun w59 h59 => ?_)
        obtain ⟨h59, f59⟩ := h59
        refine go_aload_n (j := 0) (q := 63) rfl rfl dX6_kink_62 rfl ?_
        refine go_getR (C0 := RX6) (T := TX6) (N := 7) (ci := 6) (i := 3) (q := 66) rfl igX6 (by first | assumption | rfl) (by decide) fl_X6_29 rfl dX6_kink_63 rfl ?_
        refine go_iload_n (j := 1) (q := 67) rfl rfl dX6_kink_66 rfl ?_
        refine go_iload_n (j := 1) (q := 68) rfl rfl dX6_kink_67 rfl ?_
        refine go_iload_n (j := 3) (q := 69) rfl rfl dX6_kink_68 rfl ?_
        refine go_iload_n (j := 2) (q := 70) rfl rfl dX6_kink_69 rfl ?_
        refine go_callVv (as := [_, _, _, _, _]) (As := [_, _, _, _]) (rest := []) (n := 4) (q := 73) dX6_kink_70 lk_X6_150 (ci := 1) (N := 3) (T := TX1) rfl (by first | assumption | rfl) rfl rfl (by decide +kernel) rfl ⟨by decide, by decide⟩ ⟨rfl, rfl⟩ (Nat.le_of_ble_eq_true rfl) (ev_appendD rfl rfl h59 (o := x.toNat) (i := x.toNat) (u := wA W) (by omega) (by omega) rfl (by omega) (by omega) (by omega)) rfl (fun w70 h70 => ?_)
        obtain ⟨h70, f70⟩ := h70
        have fr : ∀ c k, c ≠ 10 → c ≠ 11 → w70 c k = w42 c k := fun c k z1 z2 => by rw [f70 _ _ z1 z2, f59 _ _ z1 z2, f49 _ _ z1]
        refine go_iload_n (j := 3) (q := 74) rfl rfl dX6_kink_73 rfl ?_
        refine go_iret dX6_kink_74 ?_
        subst hK
        unfold op22
        rw [cif_t (by omega)]
        rw [cif_t (by omega)]
        rw [cif_t (by omega)]
        exact ⟨_, rfl, rfl, PXW_D h42 h70 fr, fun c k z => by rw [fr _ _ (by omega) (by omega)]; exact f42 _ _ (Or.inr z)⟩
      · obtain ⟨rfl, h32⟩ := h32
        refine go_if_neF (q := 38) (t := 41) dX6_kink_35 rfl (by decide) (by decide) ?_
        refine go_bipush (q := 40) rfl dX6_kink_38 rfl ?_
        refine go_iret dX6_kink_40 ?_
        subst hK
        unfold op22
        rw [cif_t (by omega)]
        rw [cif_t (by omega)]
        rw [cif_f (by omega)]
        exact ⟨_, rfl, rfl, hP, fun c k _ => rfl⟩
    · refine go_iload_n (j := 2) (q := 19) rfl rfl dX6_kink_18 rfl ?_
      refine go_iconst (q := 20) dX6_kink_19 rfl ?_
      refine go_icmp_eq2 (q := 23) (t := 26) dX6_kink_20 (by decide) rfl (by omega) (fun c20 => ?_) (fun c20 => ?_)
      · refine go_aload_n (j := 0) (q := 27) rfl rfl dX6_kink_26 rfl ?_
        refine go_getR (C0 := RX6) (T := TX6) (N := 7) (ci := 6) (i := 3) (q := 30) rfl igX6 (by first | assumption | rfl) (by decide) fl_X6_29 rfl dX6_kink_27 rfl ?_
        refine go_iconst (q := 31) dX6_kink_30 rfl ?_
        refine go_iconst (q := 32) dX6_kink_31 rfl ?_
        refine go_callVz (as := [_, _, _]) (As := [_, _]) (rest := []) (n := 2) (q := 35) dX6_kink_32 lk_X6_160 (ci := 1) (N := 3) (T := TX1) rfl (by first | assumption | rfl) rfl rfl (by decide +kernel) rfl ⟨by decide, by decide⟩ ⟨rfl, rfl⟩ (Nat.le_of_ble_eq_true rfl) (ev_hasRoom rfl hD (by omega)) rfl (fun w32 h32 => ?_) (fun w32 h32 => ?_)
        · obtain ⟨rfl, h32⟩ := h32
          refine go_if_neT (t := 41) dX6_kink_35 (by decide) (by decide) ?_
          refine go_aload_n (j := 0) (q := 42) rfl rfl dX6_kink_41 rfl ?_
          refine go_callVv (as := [_]) (As := []) (rest := []) (n := 0) (q := 45) dX6_kink_42 lk_X6_64 (ci := 6) (N := 7) (T := TX6) rfl (by first | assumption | rfl) rfl rfl (by decide +kernel) rfl ⟨by decide, by decide⟩ ⟨rfl, rfl⟩ (Nat.le_of_ble_eq_true rfl) (ev_saveState hP) rfl (fun w42 h42 => ?_)
          obtain ⟨h42, f42⟩ := h42
          have hD2 : DG w42 10 (wA W) (wC W) (wG W) (wS W) := h42.1.2
          refine go_aload_n (j := 0) (q := 46) rfl rfl dX6_kink_45 rfl ?_
          refine go_getR (C0 := RX6) (T := TX6) (N := 7) (ci := 6) (i := 3) (q := 49) rfl igX6 (by first | assumption | rfl) (by decide) fl_X6_29 rfl dX6_kink_46 rfl ?_
          refine go_callVi (as := [_]) (As := []) (rest := []) (n := 0) (q := 52) dX6_kink_49 lk_X6_170 (ci := 1) (N := 3) (T := TX1) rfl (by first | assumption | rfl) rfl rfl (by decide +kernel) rfl ⟨by decide, by decide⟩ ⟨rfl, rfl⟩ (Nat.le_of_ble_eq_true rfl) (ev_addArc rfl hD2 (by omega)) rfl (fun x49 w49 h49 => ?_)
          obtain ⟨rfl, h49, f49⟩ := h49
          refine go_istore_n (j := 3) (q := 53) (ls2 := [_, _, _, _]) rfl (by decide) rfl rfl dX6_kink_52 rfl ?_
          refine go_aload_n (j := 0) (q := 54) rfl rfl dX6_kink_53 rfl ?_
          refine go_getR (C0 := RX6) (T := TX6) (N := 7) (ci := 6) (i := 3) (q := 57) rfl igX6 (by first | assumption | rfl) (by decide) fl_X6_29 rfl dX6_kink_54 rfl ?_
          refine go_iload_n (j := 1) (q := 58) rfl rfl dX6_kink_57 rfl ?_
          refine go_iload_n (j := 3) (q := 59) rfl rfl dX6_kink_58 rfl ?_
          refine go_callVv (as := [_, _, _]) (As := [_, _]) (rest := []) (n := 2) (q := 62) dX6_kink_59 lk_X6_173 (ci := 1) (N := 3) (T := TX1) rfl (by first | assumption | rfl) rfl rfl (by decide +kernel) rfl ⟨by decide, by decide⟩ ⟨rfl, rfl⟩ (Nat.le_of_ble_eq_true rfl) (ev_moveIn rfl rfl h49 (x := x.toNat) (y := wA W) (by omega) rfl (by omega)) rfl (fun w59 h59 => ?_)
          obtain ⟨h59, f59⟩ := h59
          refine go_aload_n (j := 0) (q := 63) rfl rfl dX6_kink_62 rfl ?_
          refine go_getR (C0 := RX6) (T := TX6) (N := 7) (ci := 6) (i := 3) (q := 66) rfl igX6 (by first | assumption | rfl) (by decide) fl_X6_29 rfl dX6_kink_63 rfl ?_
          refine go_iload_n (j := 1) (q := 67) rfl rfl dX6_kink_66 rfl ?_
          refine go_iload_n (j := 1) (q := 68) rfl rfl dX6_kink_67 rfl ?_
          refine go_iload_n (j := 3) (q := 69) rfl rfl dX6_kink_68 rfl ?_
          refine go_iload_n (j := 2) (q := 70) rfl rfl dX6_kink_69 rfl ?_
          refine go_callVv (as := [_, _, _, _, _]) (As := [_, _, _, _]) (rest := []) (n := 4) (q := 73) dX6_kink_70 lk_X6_150 (ci := 1) (N := 3) (T := TX1) rfl (by first | assumption | rfl) rfl rfl (by decide +kernel) rfl ⟨by decide, by decide⟩ ⟨rfl, rfl⟩ (Nat.le_of_ble_eq_true rfl) (ev_appendD rfl rfl h59 (o := x.toNat) (i := x.toNat) (u := wA W) (by omega) (by omega) rfl (by omega) (by omega) (by omega)) rfl (fun w70 h70 => ?_)
          obtain ⟨h70, f70⟩ := h70
          have fr : ∀ c k, c ≠ 10 → c ≠ 11 → w70 c k = w42 c k := fun c k z1 z2 => by rw [f70 _ _ z1 z2, f59 _ _ z1 z2, f49 _ _ z1]
          refine go_iload_n (j := 3) (q := 74) rfl rfl dX6_kink_73 rfl ?_
          refine go_iret dX6_kink_74 ?_
          subst hK
          unfold op22
          rw [cif_t (by omega)]
          rw [cif_t (by omega)]
          rw [cif_t (by omega)]
          exact ⟨_, rfl, rfl, PXW_D h42 h70 fr, fun c k z => by rw [fr _ _ (by omega) (by omega)]; exact f42 _ _ (Or.inr z)⟩
        · obtain ⟨rfl, h32⟩ := h32
          refine go_if_neF (q := 38) (t := 41) dX6_kink_35 rfl (by decide) (by decide) ?_
          refine go_bipush (q := 40) rfl dX6_kink_38 rfl ?_
          refine go_iret dX6_kink_40 ?_
          subst hK
          unfold op22
          rw [cif_t (by omega)]
          rw [cif_t (by omega)]
          rw [cif_f (by omega)]
          exact ⟨_, rfl, rfl, hP, fun c k _ => rfl⟩
      · refine go_bipush (q := 25) rfl dX6_kink_23 rfl ?_
        refine go_iret dX6_kink_25 ?_
        subst hK
        unfold op22
        rw [cif_t (by omega)]
        rw [cif_f (by omega)]
        exact ⟨_, rfl, rfl, hP, fun c k _ => rfl⟩
  · obtain ⟨rfl, h5⟩ := h5
    refine go_if_neF (q := 11) (t := 13) dX6_kink_8 rfl (by decide) (by decide) ?_
    refine go_iconst (q := 12) dX6_kink_11 rfl ?_
    refine go_iret dX6_kink_12 ?_
    subst hK
    unfold op22
    rw [cif_f (by omega)]
    exact ⟨_, rfl, rfl, hP, fun c k _ => rfl⟩
theorem ex23 (hP : PXW w W) {x y : Int} (hx : rng x) (hy : rng y) : eX6_poke l D ck ad shA [vR 0, vI x, vI y] w (Pi (XR w (op23 W x y))) := by
  have hD : DG w 10 (wA W) (wC W) (wG W) (wS W) := hP.1.2
  have hb := hD.2.2.1
  refine ev_of_goK (own := RX6) (ls := [some (vR 0), some (vI x), some (vI y), none, none]) (by decide +kernel) rfl rfl (Nat.le_of_ble_eq_true rfl) rkI ?_
  intro K hK
  refine go_aload_n (j := 0) (q := 1) rfl rfl dX6_poke_0 rfl ?_
  refine go_getR (C0 := RX6) (T := TX6) (N := 7) (ci := 6) (i := 3) (q := 4) rfl igX6 (by first | assumption | rfl) (by decide) fl_X6_29 rfl dX6_poke_1 rfl ?_
  refine go_iload_n (j := 1) (q := 5) rfl rfl dX6_poke_4 rfl ?_
  refine go_callVz (as := [_, _]) (As := [_]) (rest := []) (n := 1) (q := 8) dX6_poke_5 lk_X6_157 (ci := 1) (N := 3) (T := TX1) rfl (by first | assumption | rfl) rfl rfl (by decide +kernel) rfl ⟨by decide, by decide⟩ ⟨rfl, rfl⟩ (Nat.le_of_ble_eq_true rfl) (ev_hasArc rfl hD hx) rfl (fun w5 h5 => ?_) (fun w5 h5 => ?_)
  · obtain ⟨rfl, h5⟩ := h5
    refine go_if_eqF (q := 11) (t := 22) dX6_poke_8 rfl (by decide) (by decide) ?_
    refine go_aload_n (j := 0) (q := 12) rfl rfl dX6_poke_11 rfl ?_
    refine go_getR (C0 := RX6) (T := TX6) (N := 7) (ci := 6) (i := 3) (q := 15) rfl igX6 (by first | assumption | rfl) (by decide) fl_X6_29 rfl dX6_poke_12 rfl ?_
    refine go_iload_n (j := 2) (q := 16) rfl rfl dX6_poke_15 rfl ?_
    refine go_callVz (as := [_, _]) (As := [_]) (rest := []) (n := 1) (q := 19) dX6_poke_16 lk_X6_157 (ci := 1) (N := 3) (T := TX1) rfl (by first | assumption | rfl) rfl rfl (by decide +kernel) rfl ⟨by decide, by decide⟩ ⟨rfl, rfl⟩ (Nat.le_of_ble_eq_true rfl) (ev_hasArc rfl hD hy) rfl (fun w16 h16 => ?_) (fun w16 h16 => ?_)
    · obtain ⟨rfl, h16⟩ := h16
      refine go_if_neT (t := 24) dX6_poke_19 (by decide) (by decide) ?_
      refine go_aload_n (j := 0) (q := 25) rfl rfl dX6_poke_24 rfl ?_
      refine go_getR (C0 := RX6) (T := TX6) (N := 7) (ci := 6) (i := 3) (q := 28) rfl igX6 (by first | assumption | rfl) (by decide) fl_X6_29 rfl dX6_poke_25 rfl ?_
      refine go_iconst (q := 29) dX6_poke_28 rfl ?_
      refine go_iconst (q := 30) dX6_poke_29 rfl ?_
      refine go_callVz (as := [_, _, _]) (As := [_, _]) (rest := []) (n := 2) (q := 33) dX6_poke_30 lk_X6_160 (ci := 1) (N := 3) (T := TX1) rfl (by first | assumption | rfl) rfl rfl (by decide +kernel) rfl ⟨by decide, by decide⟩ ⟨rfl, rfl⟩ (Nat.le_of_ble_eq_true rfl) (ev_hasRoom rfl hD (by omega)) rfl (fun w30 h30 => ?_) (fun w30 h30 => ?_)
      · obtain ⟨rfl, h30⟩ := h30
        refine go_if_neT (t := 39) dX6_poke_33 (by decide) (by decide) ?_
        refine go_aload_n (j := 0) (q := 40) rfl rfl dX6_poke_39 rfl ?_
        refine go_callVv (as := [_]) (As := []) (rest := []) (n := 0) (q := 43) dX6_poke_40 lk_X6_64 (ci := 6) (N := 7) (T := TX6) rfl (by first | assumption | rfl) rfl rfl (by decide +kernel) rfl ⟨by decide, by decide⟩ ⟨rfl, rfl⟩ (Nat.le_of_ble_eq_true rfl) (ev_saveState hP) rfl (fun w40 h40 => ?_)
        obtain ⟨h40, f40⟩ := h40
        have hD2 : DG w40 10 (wA W) (wC W) (wG W) (wS W) := h40.1.2
        refine go_aload_n (j := 0) (q := 44) rfl rfl dX6_poke_43 rfl ?_
        refine go_getR (C0 := RX6) (T := TX6) (N := 7) (ci := 6) (i := 3) (q := 47) rfl igX6 (by first | assumption | rfl) (by decide) fl_X6_29 rfl dX6_poke_44 rfl ?_
        refine go_callVi (as := [_]) (As := []) (rest := []) (n := 0) (q := 50) dX6_poke_47 lk_X6_170 (ci := 1) (N := 3) (T := TX1) rfl (by first | assumption | rfl) rfl rfl (by decide +kernel) rfl ⟨by decide, by decide⟩ ⟨rfl, rfl⟩ (Nat.le_of_ble_eq_true rfl) (ev_addArc rfl hD2 (by omega)) rfl (fun x47 w47 h47 => ?_)
        obtain ⟨rfl, h47, f47⟩ := h47
        refine go_istore_n (j := 3) (q := 51) (ls2 := [_, _, _, _, _]) rfl (by decide) rfl rfl dX6_poke_50 rfl ?_
        refine go_aload_n (j := 0) (q := 52) rfl rfl dX6_poke_51 rfl ?_
        refine go_getR (C0 := RX6) (T := TX6) (N := 7) (ci := 6) (i := 3) (q := 55) rfl igX6 (by first | assumption | rfl) (by decide) fl_X6_29 rfl dX6_poke_52 rfl ?_
        refine go_callVi (as := [_]) (As := []) (rest := []) (n := 0) (q := 58) dX6_poke_55 lk_X6_170 (ci := 1) (N := 3) (T := TX1) rfl (by first | assumption | rfl) rfl rfl (by decide +kernel) rfl ⟨by decide, by decide⟩ ⟨rfl, rfl⟩ (Nat.le_of_ble_eq_true rfl) (ev_addArc rfl h47 (by omega)) rfl (fun x55 w55 h55 => ?_)
        obtain ⟨rfl, h55, f55⟩ := h55
        refine go_istore (j := 4) (q := 60) (ls2 := [_, _, _, _, _]) (by decide) rfl rfl dX6_poke_58 rfl ?_
        refine go_aload_n (j := 0) (q := 61) rfl rfl dX6_poke_60 rfl ?_
        refine go_getR (C0 := RX6) (T := TX6) (N := 7) (ci := 6) (i := 3) (q := 64) rfl igX6 (by first | assumption | rfl) (by decide) fl_X6_29 rfl dX6_poke_61 rfl ?_
        refine go_iload_n (j := 1) (q := 65) rfl rfl dX6_poke_64 rfl ?_
        refine go_iload (j := 4) (q := 67) rfl dX6_poke_65 rfl ?_
        refine go_callVv (as := [_, _, _]) (As := [_, _]) (rest := []) (n := 2) (q := 70) dX6_poke_67 lk_X6_173 (ci := 1) (N := 3) (T := TX1) rfl (by first | assumption | rfl) rfl rfl (by decide +kernel) rfl ⟨by decide, by decide⟩ ⟨rfl, rfl⟩ (Nat.le_of_ble_eq_true rfl) (ev_moveIn rfl rfl h55 (x := x.toNat) (y := wA W + 1) (by omega) (by omega) (by omega)) rfl (fun w67 h67 => ?_)
        obtain ⟨h67, f67⟩ := h67
        refine go_aload_n (j := 0) (q := 71) rfl rfl dX6_poke_70 rfl ?_
        refine go_getR (C0 := RX6) (T := TX6) (N := 7) (ci := 6) (i := 3) (q := 74) rfl igX6 (by first | assumption | rfl) (by decide) fl_X6_29 rfl dX6_poke_71 rfl ?_
        refine go_iload_n (j := 2) (q := 75) rfl rfl dX6_poke_74 rfl ?_
        refine go_iload_n (j := 1) (q := 76) rfl rfl dX6_poke_75 rfl ?_
        refine go_iload_n (j := 3) (q := 77) rfl rfl dX6_poke_76 rfl ?_
        refine go_iconst (q := 78) dX6_poke_77 rfl ?_
        refine go_callVv (as := [_, _, _, _, _]) (As := [_, _, _, _]) (rest := []) (n := 4) (q := 81) dX6_poke_78 lk_X6_150 (ci := 1) (N := 3) (T := TX1) rfl (by first | assumption | rfl) rfl rfl (by decide +kernel) rfl ⟨by decide, by decide⟩ ⟨rfl, rfl⟩ (Nat.le_of_ble_eq_true rfl) (ev_appendD rfl rfl h67 (o := y.toNat) (i := x.toNat) (u := wA W) (by omega) (by omega) rfl (by omega) (by omega) (by omega)) rfl (fun w78 h78 => ?_)
        obtain ⟨h78, f78⟩ := h78
        refine go_aload_n (j := 0) (q := 82) rfl rfl dX6_poke_81 rfl ?_
        refine go_getR (C0 := RX6) (T := TX6) (N := 7) (ci := 6) (i := 3) (q := 85) rfl igX6 (by first | assumption | rfl) (by decide) fl_X6_29 rfl dX6_poke_82 rfl ?_
        refine go_iload_n (j := 2) (q := 86) rfl rfl dX6_poke_85 rfl ?_
        refine go_iload_n (j := 3) (q := 87) rfl rfl dX6_poke_86 rfl ?_
        refine go_iload (j := 4) (q := 89) rfl dX6_poke_87 rfl ?_
        refine go_iconst (q := 90) dX6_poke_89 rfl ?_
        refine go_callVv (as := [_, _, _, _, _]) (As := [_, _, _, _]) (rest := []) (n := 4) (q := 93) dX6_poke_90 lk_X6_150 (ci := 1) (N := 3) (T := TX1) rfl (by first | assumption | rfl) rfl rfl (by decide +kernel) rfl ⟨by decide, by decide⟩ ⟨rfl, rfl⟩ (Nat.le_of_ble_eq_true rfl) (ev_appendD rfl rfl h78 (o := y.toNat) (i := wA W) (u := wA W + 1) (by omega) rfl (by omega) (by omega) (by omega) (by omega)) rfl (fun w90 h90 => ?_)
        obtain ⟨h90, f90⟩ := h90
        have fr : ∀ c k, c ≠ 10 → c ≠ 11 → w90 c k = w40 c k := fun c k z1 z2 => by rw [f90 _ _ z1 z2, f78 _ _ z1 z2, f67 _ _ z1 z2, f55 _ _ z1, f47 _ _ z1]
        refine go_aload_n (j := 0) (q := 94) rfl rfl dX6_poke_93 rfl ?_
        refine go_getR (C0 := RX6) (T := TX6) (N := 7) (ci := 6) (i := 3) (q := 97) rfl igX6 (by first | assumption | rfl) (by decide) fl_X6_29 rfl dX6_poke_94 rfl ?_
        refine go_getI (C0 := RX1) (T := TX1) (N := 3) (ci := 1) (i := 0) (q := 100) rfl igX1 (by first | assumption | rfl) (by decide) fl_X6_134 rfl dX6_poke_97 rfl ?_
        refine go_iret dX6_poke_100 ?_
        subst hK
        unfold op23
        rw [cif_t (by omega)]
        rw [cif_t (by omega)]
        exact ⟨_, rfl, h90.1, PXW_D h40 h90 fr, fun c k z => by rw [fr _ _ (by omega) (by omega)]; exact f40 _ _ (Or.inr z)⟩
      · obtain ⟨rfl, h30⟩ := h30
        refine go_if_neF (q := 36) (t := 39) dX6_poke_33 rfl (by decide) (by decide) ?_
        refine go_bipush (q := 38) rfl dX6_poke_36 rfl ?_
        refine go_iret dX6_poke_38 ?_
        subst hK
        unfold op23
        rw [cif_t (by omega)]
        rw [cif_f (by omega)]
        exact ⟨_, rfl, rfl, hP, fun c k _ => rfl⟩
    · obtain ⟨rfl, h16⟩ := h16
      refine go_if_neF (q := 22) (t := 24) dX6_poke_19 rfl (by decide) (by decide) ?_
      refine go_iconst (q := 23) dX6_poke_22 rfl ?_
      refine go_iret dX6_poke_23 ?_
      subst hK
      unfold op23
      rw [cif_f (by omega)]
      exact ⟨_, rfl, rfl, hP, fun c k _ => rfl⟩
  · obtain ⟨rfl, h5⟩ := h5
    refine go_if_eqT (t := 22) dX6_poke_8 (by decide) (by decide) ?_
    refine go_iconst (q := 23) dX6_poke_22 rfl ?_
    refine go_iret dX6_poke_23 ?_
    subst hK
    unfold op23
    rw [cif_f (by omega)]
    exact ⟨_, rfl, rfl, hP, fun c k _ => rfl⟩
theorem ex24 (hP : PXW w W) : eX6_arcs l D ck ad shA [vR 0] w (Pi (XR w (op24 W))) := by
  have hD : DG w 10 (wA W) (wC W) (wG W) (wS W) := hP.1.2
  refine ev_of_goK (own := RX6) (ls := [some (vR 0)]) (by decide +kernel) rfl rfl (Nat.le_of_ble_eq_true rfl) rkI ?_
  intro K hK
  refine go_aload_n (j := 0) (q := 1) rfl rfl dX6_arcs_0 rfl ?_
  refine go_getR (C0 := RX6) (T := TX6) (N := 7) (ci := 6) (i := 3) (q := 4) rfl igX6 (by first | assumption | rfl) (by decide) fl_X6_29 rfl dX6_arcs_1 rfl ?_
  refine go_getI (C0 := RX1) (T := TX1) (N := 3) (ci := 1) (i := 0) (q := 7) rfl igX1 (by first | assumption | rfl) (by decide) fl_X6_134 rfl dX6_arcs_4 rfl ?_
  refine go_iret dX6_arcs_7 ?_
  subst hK; exact ⟨_, rfl, hD.1, hP, fun c k _ => rfl⟩
theorem ex25 (hP : PXW w W) : eX6_crossings l D ck ad shA [vR 0] w (Pi (XR w (op25 W))) := by
  have hD : DG w 10 (wA W) (wC W) (wG W) (wS W) := hP.1.2
  refine ev_of_goK (own := RX6) (ls := [some (vR 0)]) (by decide +kernel) rfl rfl (Nat.le_of_ble_eq_true rfl) rkI ?_
  intro K hK
  refine go_aload_n (j := 0) (q := 1) rfl rfl dX6_crossings_0 rfl ?_
  refine go_getR (C0 := RX6) (T := TX6) (N := 7) (ci := 6) (i := 3) (q := 4) rfl igX6 (by first | assumption | rfl) (by decide) fl_X6_29 rfl dX6_crossings_1 rfl ?_
  refine go_getI (C0 := RX1) (T := TX1) (N := 3) (ci := 1) (i := 1) (q := 7) rfl igX1 (by first | assumption | rfl) (by decide) fl_X6_154 rfl dX6_crossings_4 rfl ?_
  refine go_iret dX6_crossings_7 ?_
  subst hK; exact ⟨_, rfl, hD.2.1, hP, fun c k _ => rfl⟩
theorem ex26 (hP : PXW w W) {x p : Int} (hx : rng x) (hp : rng p) : eX6_crossing l D ck ad shA [vR 0, vI x, vI p] w (Pi (XR w (op26 W x p))) := by
  have hD : DG w 10 (wA W) (wC W) (wG W) (wS W) := hP.1.2
  have hb := hD.2.2.1
  refine ev_of_goK (own := RX6) (ls := [some (vR 0), some (vI x), some (vI p)]) (by decide +kernel) rfl rfl (Nat.le_of_ble_eq_true rfl) rkI ?_
  intro K hK
  refine go_aload_n (j := 0) (q := 1) rfl rfl dX6_crossing_0 rfl ?_
  refine go_getR (C0 := RX6) (T := TX6) (N := 7) (ci := 6) (i := 3) (q := 4) rfl igX6 (by first | assumption | rfl) (by decide) fl_X6_29 rfl dX6_crossing_1 rfl ?_
  refine go_iload_n (j := 1) (q := 5) rfl rfl dX6_crossing_4 rfl ?_
  refine go_callVz (as := [_, _]) (As := [_]) (rest := []) (n := 1) (q := 8) dX6_crossing_5 lk_X6_164 (ci := 1) (N := 3) (T := TX1) rfl (by first | assumption | rfl) rfl rfl (by decide +kernel) rfl ⟨by decide, by decide⟩ ⟨rfl, rfl⟩ (Nat.le_of_ble_eq_true rfl) (ev_hasCrossing rfl hD hx) rfl (fun w5 h5 => ?_) (fun w5 h5 => ?_)
  · obtain ⟨rfl, h5⟩ := h5
    refine go_if_neT (t := 13) dX6_crossing_8 (by decide) (by decide) ?_
    refine go_iload_n (j := 2) (q := 14) rfl rfl dX6_crossing_13 rfl ?_
    refine go_if_lt2 (q := 17) (t := 22) dX6_crossing_14 (by decide) rfl (by omega) (fun c14 => ?_) (fun c14 => ?_)
    · refine go_bipush (q := 24) rfl dX6_crossing_22 rfl ?_
      refine go_iret dX6_crossing_24 ?_
      subst hK
      unfold op26
      rw [cif_t (by omega)]
      rw [cif_f (by omega)]
      exact ⟨_, rfl, rfl, hP, fun c k _ => rfl⟩
    · refine go_iload_n (j := 2) (q := 18) rfl rfl dX6_crossing_17 rfl ?_
      refine go_iconst (q := 19) dX6_crossing_18 rfl ?_
      refine go_icmp_lt2 (q := 22) (t := 25) dX6_crossing_19 (by decide) rfl (by omega) (fun c19 => ?_) (fun c19 => ?_)
      · refine go_aload_n (j := 0) (q := 26) rfl rfl dX6_crossing_25 rfl ?_
        refine go_getR (C0 := RX6) (T := TX6) (N := 7) (ci := 6) (i := 3) (q := 29) rfl igX6 (by first | assumption | rfl) (by decide) fl_X6_29 rfl dX6_crossing_26 rfl ?_
        refine go_iload_n (j := 1) (q := 30) rfl rfl dX6_crossing_29 rfl ?_
        refine go_iload_n (j := 2) (q := 31) rfl rfl dX6_crossing_30 rfl ?_
        refine go_callVi (as := [_, _, _]) (As := [_, _]) (rest := []) (n := 2) (q := 34) dX6_crossing_31 lk_X6_177 (ci := 1) (N := 3) (T := TX1) rfl (by first | assumption | rfl) rfl rfl (by decide +kernel) rfl ⟨by decide, by decide⟩ ⟨rfl, rfl⟩ (Nat.le_of_ble_eq_true rfl) (ev_part rfl rfl (k := x.toNat) (p := p.toNat) (by omega) (by omega) (by omega)) rfl (fun x31 w31 h31 => ?_)
        obtain ⟨rfl, rfl⟩ := h31
        refine go_iret dX6_crossing_34 ?_
        subst hK
        unfold op26
        rw [cif_t (by omega), cif_t (by omega)]
        exact ⟨_, rfl, prt_eq hD (by omega) (by omega), hP, fun c k _ => rfl⟩
      · refine go_bipush (q := 24) rfl dX6_crossing_22 rfl ?_
        refine go_iret dX6_crossing_24 ?_
        subst hK
        unfold op26
        rw [cif_t (by omega)]
        rw [cif_f (by omega)]
        exact ⟨_, rfl, rfl, hP, fun c k _ => rfl⟩
  · obtain ⟨rfl, h5⟩ := h5
    refine go_if_neF (q := 11) (t := 13) dX6_crossing_8 rfl (by decide) (by decide) ?_
    refine go_iconst (q := 12) dX6_crossing_11 rfl ?_
    refine go_iret dX6_crossing_12 ?_
    subst hK
    unfold op26
    rw [cif_f (by omega)]
    exact ⟨_, rfl, rfl, hP, fun c k _ => rfl⟩
theorem ex27 (hP : PXW w W) : eX6_components l D ck ad shA [vR 0] w (Pi (XR w (op27 W))) := by
  have hD : DG w 10 (wA W) (wC W) (wG W) (wS W) := hP.1.2
  refine ev_of_goK (own := RX6) (ls := [some (vR 0)]) (by decide +kernel) rfl rfl (Nat.le_of_ble_eq_true rfl) rkI ?_
  intro K hK
  refine go_aload_n (j := 0) (q := 1) rfl rfl dX6_components_0 rfl ?_
  refine go_getR (C0 := RX6) (T := TX6) (N := 7) (ci := 6) (i := 3) (q := 4) rfl igX6 (by first | assumption | rfl) (by decide) fl_X6_29 rfl dX6_components_1 rfl ?_
  refine go_callVz (as := [_]) (As := []) (rest := []) (n := 0) (q := 7) dX6_components_4 lk_X6_180 (ci := 1) (N := 3) (T := TX1) rfl (by first | assumption | rfl) rfl rfl (by decide +kernel) rfl ⟨by decide, by decide⟩ ⟨rfl, rfl⟩ (Nat.le_of_ble_eq_true rfl) (ev_isClosedD rfl rfl hD) rfl (fun w4 h4 => ?_) (fun w4 h4 => ?_)
  · obtain ⟨rfl, h4⟩ := h4
    refine go_if_eqF (q := 10) (t := 20) dX6_components_7 rfl (by decide) (by decide) ?_
    refine go_aload_n (j := 0) (q := 11) rfl rfl dX6_components_10 rfl ?_
    refine go_getR (C0 := RX6) (T := TX6) (N := 7) (ci := 6) (i := 3) (q := 14) rfl igX6 (by first | assumption | rfl) (by decide) fl_X6_29 rfl dX6_components_11 rfl ?_
    refine go_callVi (as := [_]) (As := []) (rest := []) (n := 0) (q := 17) dX6_components_14 lk_X6_184 (ci := 1) (N := 3) (T := TX1) rfl (by first | assumption | rfl) rfl rfl (by decide +kernel) rfl ⟨by decide, by decide⟩ ⟨rfl, rfl⟩ (Nat.le_of_ble_eq_true rfl) (ev_countComponentsD rfl rfl hD) rfl (fun x14 w14 h14 => ?_)
    obtain ⟨rfl, rfl⟩ := h14
    refine go_goto (q := 22) dX6_components_17 (by decide) ?_
    refine go_iret dX6_components_22 ?_
    subst hK
    unfold op27
    first
    | (rw [cif_t h4]; exact ⟨_, rfl, rfl, hP, fun c k _ => rfl⟩)
    | (rw [cif_f h4]; exact ⟨_, rfl, rfl, hP, fun c k _ => rfl⟩)
  · obtain ⟨rfl, h4⟩ := h4
    refine go_if_eqT (t := 20) dX6_components_7 (by decide) (by decide) ?_
    refine go_bipush (q := 22) rfl dX6_components_20 rfl ?_
    refine go_iret dX6_components_22 ?_
    subst hK
    unfold op27
    first
    | (rw [cif_t h4]; exact ⟨_, rfl, rfl, hP, fun c k _ => rfl⟩)
    | (rw [cif_f h4]; exact ⟨_, rfl, rfl, hP, fun c k _ => rfl⟩)
theorem ex28 (hP : PXW w W) : eX6_writhe l D ck ad shA [vR 0] w (Pi (XR w (op28 W))) := by
  have hD : DG w 10 (wA W) (wC W) (wG W) (wS W) := hP.1.2
  refine ev_of_goK (own := RX6) (ls := [some (vR 0)]) (by decide +kernel) rfl rfl (Nat.le_of_ble_eq_true rfl) rkI ?_
  intro K hK
  refine go_aload_n (j := 0) (q := 1) rfl rfl dX6_writhe_0 rfl ?_
  refine go_getR (C0 := RX6) (T := TX6) (N := 7) (ci := 6) (i := 3) (q := 4) rfl igX6 (by first | assumption | rfl) (by decide) fl_X6_29 rfl dX6_writhe_1 rfl ?_
  refine go_callVi (as := [_]) (As := []) (rest := []) (n := 0) (q := 7) dX6_writhe_4 lk_X6_185 (ci := 1) (N := 3) (T := TX1) rfl (by first | assumption | rfl) rfl rfl (by decide +kernel) rfl ⟨by decide, by decide⟩ ⟨rfl, rfl⟩ (Nat.le_of_ble_eq_true rfl) (ev_signSum rfl rfl hD) rfl (fun x4 w4 h4 => ?_)
  obtain ⟨rfl, rfl⟩ := h4
  refine go_bipush (q := 9) rfl dX6_writhe_7 rfl ?_
  refine go_iadd (q := 10) dX6_writhe_9 rfl ?_
  refine go_iret dX6_writhe_10 ?_
  subst hK; exact ⟨_, rfl, rfl, hP, fun c k _ => rfl⟩
theorem ex29 (hP : PXW w W) {x y : Int} (hx : rng x) (hy : rng y) : eX6_linking l D ck ad shA [vR 0, vI x, vI y] w (Pi (XR w (op29 W x y))) := by
  have hD : DG w 10 (wA W) (wC W) (wG W) (wS W) := hP.1.2
  refine ev_of_goK (own := RX6) (ls := [some (vR 0), some (vI x), some (vI y)]) (by decide +kernel) rfl rfl (Nat.le_of_ble_eq_true rfl) rkI ?_
  intro K hK
  refine go_aload_n (j := 0) (q := 1) rfl rfl dX6_linking_0 rfl ?_
  refine go_getR (C0 := RX6) (T := TX6) (N := 7) (ci := 6) (i := 3) (q := 4) rfl igX6 (by first | assumption | rfl) (by decide) fl_X6_29 rfl dX6_linking_1 rfl ?_
  refine go_iload_n (j := 1) (q := 5) rfl rfl dX6_linking_4 rfl ?_
  refine go_callVz (as := [_, _]) (As := [_]) (rest := []) (n := 1) (q := 8) dX6_linking_5 lk_X6_157 (ci := 1) (N := 3) (T := TX1) rfl (by first | assumption | rfl) rfl rfl (by decide +kernel) rfl ⟨by decide, by decide⟩ ⟨rfl, rfl⟩ (Nat.le_of_ble_eq_true rfl) (ev_hasArc rfl hD hx) rfl (fun w5 h5 => ?_) (fun w5 h5 => ?_)
  · obtain ⟨rfl, h5⟩ := h5
    refine go_if_eqF (q := 11) (t := 22) dX6_linking_8 rfl (by decide) (by decide) ?_
    refine go_aload_n (j := 0) (q := 12) rfl rfl dX6_linking_11 rfl ?_
    refine go_getR (C0 := RX6) (T := TX6) (N := 7) (ci := 6) (i := 3) (q := 15) rfl igX6 (by first | assumption | rfl) (by decide) fl_X6_29 rfl dX6_linking_12 rfl ?_
    refine go_iload_n (j := 2) (q := 16) rfl rfl dX6_linking_15 rfl ?_
    refine go_callVz (as := [_, _]) (As := [_]) (rest := []) (n := 1) (q := 19) dX6_linking_16 lk_X6_157 (ci := 1) (N := 3) (T := TX1) rfl (by first | assumption | rfl) rfl rfl (by decide +kernel) rfl ⟨by decide, by decide⟩ ⟨rfl, rfl⟩ (Nat.le_of_ble_eq_true rfl) (ev_hasArc rfl hD hy) rfl (fun w16 h16 => ?_) (fun w16 h16 => ?_)
    · obtain ⟨rfl, h16⟩ := h16
      refine go_if_neT (t := 24) dX6_linking_19 (by decide) (by decide) ?_
      refine go_aload_n (j := 0) (q := 25) rfl rfl dX6_linking_24 rfl ?_
      refine go_getR (C0 := RX6) (T := TX6) (N := 7) (ci := 6) (i := 3) (q := 28) rfl igX6 (by first | assumption | rfl) (by decide) fl_X6_29 rfl dX6_linking_25 rfl ?_
      refine go_callVz (as := [_]) (As := []) (rest := []) (n := 0) (q := 31) dX6_linking_28 lk_X6_180 (ci := 1) (N := 3) (T := TX1) rfl (by first | assumption | rfl) rfl rfl (by decide +kernel) rfl ⟨by decide, by decide⟩ ⟨rfl, rfl⟩ (Nat.le_of_ble_eq_true rfl) (ev_isClosedD rfl rfl hD) rfl (fun w28 h28 => ?_) (fun w28 h28 => ?_)
      · obtain ⟨rfl, h28⟩ := h28
        refine go_if_neT (t := 37) dX6_linking_31 (by decide) (by decide) ?_
        refine go_aload_n (j := 0) (q := 38) rfl rfl dX6_linking_37 rfl ?_
        refine go_getR (C0 := RX6) (T := TX6) (N := 7) (ci := 6) (i := 3) (q := 41) rfl igX6 (by first | assumption | rfl) (by decide) fl_X6_29 rfl dX6_linking_38 rfl ?_
        refine go_iload_n (j := 1) (q := 42) rfl rfl dX6_linking_41 rfl ?_
        refine go_iload_n (j := 2) (q := 43) rfl rfl dX6_linking_42 rfl ?_
        refine go_callVi (as := [_, _, _]) (As := [_, _]) (rest := []) (n := 2) (q := 46) dX6_linking_43 lk_X6_188 (ci := 1) (N := 3) (T := TX1) rfl (by first | assumption | rfl) rfl rfl (by decide +kernel) rfl ⟨by decide, by decide⟩ ⟨rfl, rfl⟩ (Nat.le_of_ble_eq_true rfl) (ev_linkingSum rfl rfl hD (x := x.toNat) (y := y.toNat) (by omega) (by omega) (by omega) (by omega)) rfl (fun x43 w43 h43 => ?_)
        obtain ⟨rfl, rfl⟩ := h43
        refine go_bipush (q := 48) rfl dX6_linking_46 rfl ?_
        refine go_iadd (q := 49) dX6_linking_48 rfl ?_
        refine go_iret dX6_linking_49 ?_
        subst hK
        unfold op29; rw [cif_t (by omega), cif_t h28]; exact ⟨_, rfl, rfl, hP, fun c k _ => rfl⟩
      · obtain ⟨rfl, h28⟩ := h28
        refine go_if_neF (q := 34) (t := 37) dX6_linking_31 rfl (by decide) (by decide) ?_
        refine go_bipush (q := 36) rfl dX6_linking_34 rfl ?_
        refine go_iret dX6_linking_36 ?_
        subst hK
        unfold op29; rw [cif_t (by omega), cif_f h28]; exact ⟨_, rfl, rfl, hP, fun c k _ => rfl⟩
    · obtain ⟨rfl, h16⟩ := h16
      refine go_if_neF (q := 22) (t := 24) dX6_linking_19 rfl (by decide) (by decide) ?_
      refine go_iconst (q := 23) dX6_linking_22 rfl ?_
      refine go_iret dX6_linking_23 ?_
      subst hK
      unfold op29; rw [cif_f (by omega)]; exact ⟨_, rfl, rfl, hP, fun c k _ => rfl⟩
  · obtain ⟨rfl, h5⟩ := h5
    refine go_if_eqT (t := 22) dX6_linking_8 (by decide) (by decide) ?_
    refine go_iconst (q := 23) dX6_linking_22 rfl ?_
    refine go_iret dX6_linking_23 ?_
    subst hK
    unfold op29; rw [cif_f (by omega)]; exact ⟨_, rfl, rfl, hP, fun c k _ => rfl⟩
theorem ex30 (hP : PXW w W) : eX6_colourings l D ck ad shA [vR 0] w (Pi (XR w (op30 W))) := by
  have hT : TB w 1 (wN W) (wF W) := hP.1.1
  have hD : DG w 10 (wA W) (wC W) (wG W) (wS W) := hP.1.2
  refine ev_of_goK (own := RX6) (ls := [some (vR 0)]) (by decide +kernel) rfl rfl (Nat.le_of_ble_eq_true rfl) rkI ?_
  intro K hK
  refine go_aload_n (j := 0) (q := 1) rfl rfl dX6_colourings_0 rfl ?_
  refine go_getR (C0 := RX6) (T := TX6) (N := 7) (ci := 6) (i := 4) (q := 4) rfl igX6 (by first | assumption | rfl) (by decide) fl_X6_38 rfl dX6_colourings_1 rfl ?_
  refine go_callVi (as := [_]) (As := []) (rest := []) (n := 0) (q := 7) dX6_colourings_4 lk_X6_191 (ci := 0) (N := 6) (T := TX0) rfl (by first | assumption | rfl) rfl rfl (by decide +kernel) rfl ⟨by decide, by decide⟩ ⟨rfl, rfl⟩ (Nat.le_of_ble_eq_true rfl) (ev_tally hT hD) rfl (fun x4 w4 h4 => ?_)
  obtain ⟨rfl, t4, f4⟩ := h4
  refine go_iret dX6_colourings_7 ?_
  subst hK
  exact ⟨_, rfl, rfl, PXW_q hP (fun c k z => f4 _ _ (by omega) (by omega) (by omega) (by omega)), fun c k z => f4 _ _ (by omega) (by omega) (by omega) (by omega)⟩
theorem ex31 (hP : PXW w W) {x v : Int} (hx : rng x) (hv : rng v) : eX6_colouringsWith l D ck ad shA [vR 0, vI x, vI v] w (Pi (XR w (op31 W x v))) := by
  have hT : TB w 1 (wN W) (wF W) := hP.1.1
  have hD : DG w 10 (wA W) (wC W) (wG W) (wS W) := hP.1.2
  refine ev_of_goK (own := RX6) (ls := [some (vR 0), some (vI x), some (vI v)]) (by decide +kernel) rfl rfl (Nat.le_of_ble_eq_true rfl) rkI ?_
  intro K hK
  refine go_aload_n (j := 0) (q := 1) rfl rfl dX6_colouringsWith_0 rfl ?_
  refine go_getR (C0 := RX6) (T := TX6) (N := 7) (ci := 6) (i := 3) (q := 4) rfl igX6 (by first | assumption | rfl) (by decide) fl_X6_29 rfl dX6_colouringsWith_1 rfl ?_
  refine go_iload_n (j := 1) (q := 5) rfl rfl dX6_colouringsWith_4 rfl ?_
  refine go_callVz (as := [_, _]) (As := [_]) (rest := []) (n := 1) (q := 8) dX6_colouringsWith_5 lk_X6_157 (ci := 1) (N := 3) (T := TX1) rfl (by first | assumption | rfl) rfl rfl (by decide +kernel) rfl ⟨by decide, by decide⟩ ⟨rfl, rfl⟩ (Nat.le_of_ble_eq_true rfl) (ev_hasArc rfl hD hx) rfl (fun w5 h5 => ?_) (fun w5 h5 => ?_)
  · obtain ⟨rfl, h5⟩ := h5
    refine go_if_eqF (q := 11) (t := 22) dX6_colouringsWith_8 rfl (by decide) (by decide) ?_
    refine go_aload_n (j := 0) (q := 12) rfl rfl dX6_colouringsWith_11 rfl ?_
    refine go_getR (C0 := RX6) (T := TX6) (N := 7) (ci := 6) (i := 0) (q := 15) rfl igX6 (by first | assumption | rfl) (by decide) fl_X6_10 rfl dX6_colouringsWith_12 rfl ?_
    refine go_iload_n (j := 2) (q := 16) rfl rfl dX6_colouringsWith_15 rfl ?_
    refine go_callVz (as := [_, _]) (As := [_]) (rest := []) (n := 1) (q := 19) dX6_colouringsWith_16 lk_X6_75 (ci := 5) (N := 2) (T := TX5) rfl (by first | assumption | rfl) rfl rfl (by decide +kernel) rfl ⟨by decide, by decide⟩ ⟨rfl, rfl⟩ (Nat.le_of_ble_eq_true rfl) (ev_has rfl hT hv) rfl (fun w16 h16 => ?_) (fun w16 h16 => ?_)
    · obtain ⟨rfl, h16⟩ := h16
      refine go_if_neT (t := 24) dX6_colouringsWith_19 (by decide) (by decide) ?_
      refine go_aload_n (j := 0) (q := 25) rfl rfl dX6_colouringsWith_24 rfl ?_
      refine go_getR (C0 := RX6) (T := TX6) (N := 7) (ci := 6) (i := 4) (q := 28) rfl igX6 (by first | assumption | rfl) (by decide) fl_X6_38 rfl dX6_colouringsWith_25 rfl ?_
      refine go_iload_n (j := 1) (q := 29) rfl rfl dX6_colouringsWith_28 rfl ?_
      refine go_iload_n (j := 2) (q := 30) rfl rfl dX6_colouringsWith_29 rfl ?_
      refine go_callVi (as := [_, _, _]) (As := [_, _]) (rest := []) (n := 2) (q := 33) dX6_colouringsWith_30 lk_X6_194 (ci := 0) (N := 6) (T := TX0) rfl (by first | assumption | rfl) rfl rfl (by decide +kernel) rfl ⟨by decide, by decide⟩ ⟨rfl, rfl⟩ (Nat.le_of_ble_eq_true rfl) (ev_countWith hT hD (x := x.toNat) (v := v.toNat) (by omega) (by omega) (by omega) (by omega)) rfl (fun x30 w30 h30 => ?_)
      obtain ⟨rfl, f30⟩ := h30
      refine go_iret dX6_colouringsWith_33 ?_
      subst hK
      unfold op31
      rw [cif_t (by omega)]
      exact ⟨_, rfl, rfl, PXW_q hP (fun c k z => f30 _ _ (by omega) (by omega) (by omega)), fun c k z => f30 _ _ (by omega) (by omega) (by omega)⟩
    · obtain ⟨rfl, h16⟩ := h16
      refine go_if_neF (q := 22) (t := 24) dX6_colouringsWith_19 rfl (by decide) (by decide) ?_
      refine go_iconst (q := 23) dX6_colouringsWith_22 rfl ?_
      refine go_iret dX6_colouringsWith_23 ?_
      subst hK
      unfold op31
      rw [cif_f (by omega)]
      exact ⟨_, rfl, rfl, hP, fun c k _ => rfl⟩
  · obtain ⟨rfl, h5⟩ := h5
    refine go_if_eqT (t := 22) dX6_colouringsWith_8 (by decide) (by decide) ?_
    refine go_iconst (q := 23) dX6_colouringsWith_22 rfl ?_
    refine go_iret dX6_colouringsWith_23 ?_
    subst hK
    unfold op31
    rw [cif_f (by omega)]
    exact ⟨_, rfl, rfl, hP, fun c k _ => rfl⟩
theorem ex32 (hP : PXW w W) {x y : Int} (hx : rng x) (hy : rng y) : eX6_colouringsAlike l D ck ad shA [vR 0, vI x, vI y] w (Pi (XR w (op32 W x y))) := by
  have hT : TB w 1 (wN W) (wF W) := hP.1.1
  have hD : DG w 10 (wA W) (wC W) (wG W) (wS W) := hP.1.2
  refine ev_of_goK (own := RX6) (ls := [some (vR 0), some (vI x), some (vI y)]) (by decide +kernel) rfl rfl (Nat.le_of_ble_eq_true rfl) rkI ?_
  intro K hK
  refine go_aload_n (j := 0) (q := 1) rfl rfl dX6_colouringsAlike_0 rfl ?_
  refine go_getR (C0 := RX6) (T := TX6) (N := 7) (ci := 6) (i := 3) (q := 4) rfl igX6 (by first | assumption | rfl) (by decide) fl_X6_29 rfl dX6_colouringsAlike_1 rfl ?_
  refine go_iload_n (j := 1) (q := 5) rfl rfl dX6_colouringsAlike_4 rfl ?_
  refine go_callVz (as := [_, _]) (As := [_]) (rest := []) (n := 1) (q := 8) dX6_colouringsAlike_5 lk_X6_157 (ci := 1) (N := 3) (T := TX1) rfl (by first | assumption | rfl) rfl rfl (by decide +kernel) rfl ⟨by decide, by decide⟩ ⟨rfl, rfl⟩ (Nat.le_of_ble_eq_true rfl) (ev_hasArc rfl hD hx) rfl (fun w5 h5 => ?_) (fun w5 h5 => ?_)
  · obtain ⟨rfl, h5⟩ := h5
    refine go_if_eqF (q := 11) (t := 22) dX6_colouringsAlike_8 rfl (by decide) (by decide) ?_
    refine go_aload_n (j := 0) (q := 12) rfl rfl dX6_colouringsAlike_11 rfl ?_
    refine go_getR (C0 := RX6) (T := TX6) (N := 7) (ci := 6) (i := 3) (q := 15) rfl igX6 (by first | assumption | rfl) (by decide) fl_X6_29 rfl dX6_colouringsAlike_12 rfl ?_
    refine go_iload_n (j := 2) (q := 16) rfl rfl dX6_colouringsAlike_15 rfl ?_
    refine go_callVz (as := [_, _]) (As := [_]) (rest := []) (n := 1) (q := 19) dX6_colouringsAlike_16 lk_X6_157 (ci := 1) (N := 3) (T := TX1) rfl (by first | assumption | rfl) rfl rfl (by decide +kernel) rfl ⟨by decide, by decide⟩ ⟨rfl, rfl⟩ (Nat.le_of_ble_eq_true rfl) (ev_hasArc rfl hD hy) rfl (fun w16 h16 => ?_) (fun w16 h16 => ?_)
    · obtain ⟨rfl, h16⟩ := h16
      refine go_if_neT (t := 24) dX6_colouringsAlike_19 (by decide) (by decide) ?_
      refine go_aload_n (j := 0) (q := 25) rfl rfl dX6_colouringsAlike_24 rfl ?_
      refine go_getR (C0 := RX6) (T := TX6) (N := 7) (ci := 6) (i := 4) (q := 28) rfl igX6 (by first | assumption | rfl) (by decide) fl_X6_38 rfl dX6_colouringsAlike_25 rfl ?_
      refine go_iload_n (j := 1) (q := 29) rfl rfl dX6_colouringsAlike_28 rfl ?_
      refine go_iload_n (j := 2) (q := 30) rfl rfl dX6_colouringsAlike_29 rfl ?_
      refine go_callVi (as := [_, _, _]) (As := [_, _]) (rest := []) (n := 2) (q := 33) dX6_colouringsAlike_30 lk_X6_197 (ci := 0) (N := 6) (T := TX0) rfl (by first | assumption | rfl) rfl rfl (by decide +kernel) rfl ⟨by decide, by decide⟩ ⟨rfl, rfl⟩ (Nat.le_of_ble_eq_true rfl) (ev_countAlike hT hD (x := x.toNat) (v := y.toNat) (by omega) (by omega) (by omega) (by omega)) rfl (fun x30 w30 h30 => ?_)
      obtain ⟨rfl, f30⟩ := h30
      refine go_iret dX6_colouringsAlike_33 ?_
      subst hK
      unfold op32
      rw [cif_t (by omega)]
      exact ⟨_, rfl, rfl, PXW_q hP (fun c k z => f30 _ _ (by omega) (by omega) (by omega)), fun c k z => f30 _ _ (by omega) (by omega) (by omega)⟩
    · obtain ⟨rfl, h16⟩ := h16
      refine go_if_neF (q := 22) (t := 24) dX6_colouringsAlike_19 rfl (by decide) (by decide) ?_
      refine go_iconst (q := 23) dX6_colouringsAlike_22 rfl ?_
      refine go_iret dX6_colouringsAlike_23 ?_
      subst hK
      unfold op32
      rw [cif_f (by omega)]
      exact ⟨_, rfl, rfl, hP, fun c k _ => rfl⟩
  · obtain ⟨rfl, h5⟩ := h5
    refine go_if_eqT (t := 22) dX6_colouringsAlike_8 (by decide) (by decide) ?_
    refine go_iconst (q := 23) dX6_colouringsAlike_22 rfl ?_
    refine go_iret dX6_colouringsAlike_23 ?_
    subst hK
    unfold op32
    rw [cif_f (by omega)]
    exact ⟨_, rfl, rfl, hP, fun c k _ => rfl⟩
theorem ex33 (hP : PXW w W) {x : Int} (hx : rng x) : eX6_colouringsUsing l D ck ad shA [vR 0, vI x] w (Pi (XR w (op33 W x))) := by
  have hT : TB w 1 (wN W) (wF W) := hP.1.1
  have hD : DG w 10 (wA W) (wC W) (wG W) (wS W) := hP.1.2
  refine ev_of_goK (own := RX6) (ls := [some (vR 0), some (vI x)]) (by decide +kernel) rfl rfl (Nat.le_of_ble_eq_true rfl) rkI ?_
  intro K hK
  refine go_iload_n (j := 1) (q := 1) rfl rfl dX6_colouringsUsing_0 rfl ?_
  refine go_iconst (q := 2) dX6_colouringsUsing_1 rfl ?_
  refine go_icmp_lt2 (q := 5) (t := 11) dX6_colouringsUsing_2 (by decide) rfl (by omega) (fun c2 => ?_) (fun c2 => ?_)
  · refine go_bipush (q := 13) rfl dX6_colouringsUsing_11 rfl ?_
    refine go_iret dX6_colouringsUsing_13 ?_
    subst hK
    unfold op33
    rw [cif_f (by omega)]
    exact ⟨_, rfl, rfl, hP, fun c k _ => rfl⟩
  · refine go_iload_n (j := 1) (q := 6) rfl rfl dX6_colouringsUsing_5 rfl ?_
    refine go_bipush (q := 8) rfl dX6_colouringsUsing_6 rfl ?_
    refine go_icmp_le2 (q := 11) (t := 14) dX6_colouringsUsing_8 (by decide) rfl (by omega) (fun c8 => ?_) (fun c8 => ?_)
    · refine go_aload_n (j := 0) (q := 15) rfl rfl dX6_colouringsUsing_14 rfl ?_
      refine go_getR (C0 := RX6) (T := TX6) (N := 7) (ci := 6) (i := 4) (q := 18) rfl igX6 (by first | assumption | rfl) (by decide) fl_X6_38 rfl dX6_colouringsUsing_15 rfl ?_
      refine go_callVi (as := [_]) (As := []) (rest := []) (n := 0) (q := 21) dX6_colouringsUsing_18 lk_X6_191 (ci := 0) (N := 6) (T := TX0) rfl (by first | assumption | rfl) rfl rfl (by decide +kernel) rfl ⟨by decide, by decide⟩ ⟨rfl, rfl⟩ (Nat.le_of_ble_eq_true rfl) (ev_tally hT hD) rfl (fun x18 w18 h18 => ?_)
      obtain ⟨rfl, t18, f18⟩ := h18
      refine go_pop (q := 22) (fun _ z => by cases z) dX6_colouringsUsing_21 rfl ?_
      refine go_aload_n (j := 0) (q := 23) rfl rfl dX6_colouringsUsing_22 rfl ?_
      refine go_getR (C0 := RX6) (T := TX6) (N := 7) (ci := 6) (i := 4) (q := 26) rfl igX6 (by first | assumption | rfl) (by decide) fl_X6_38 rfl dX6_colouringsUsing_23 rfl ?_
      refine go_iload_n (j := 1) (q := 27) rfl rfl dX6_colouringsUsing_26 rfl ?_
      refine go_callVi (as := [_, _]) (As := [_]) (rest := []) (n := 1) (q := 30) dX6_colouringsUsing_27 lk_X6_200 (ci := 0) (N := 6) (T := TX0) rfl (by first | assumption | rfl) rfl rfl (by decide +kernel) rfl ⟨by decide, by decide⟩ ⟨rfl, rfl⟩ (Nat.le_of_ble_eq_true rfl) (ev_talliedUsing (u := x.toNat) (by omega) (by omega)) rfl (fun x27 w27 h27 => ?_)
      obtain ⟨rfl, rfl⟩ := h27
      refine go_iret dX6_colouringsUsing_30 ?_
      subst hK
      unfold op33
      rw [cif_t (by omega)]
      exact ⟨_, rfl, t18 _ (by omega), PXW_q hP (fun c k z => f18 _ _ (by omega) (by omega) (by omega) (by omega)), fun c k z => f18 _ _ (by omega) (by omega) (by omega) (by omega)⟩
    · refine go_bipush (q := 13) rfl dX6_colouringsUsing_11 rfl ?_
      refine go_iret dX6_colouringsUsing_13 ?_
      subst hK
      unfold op33
      rw [cif_f (by omega)]
      exact ⟨_, rfl, rfl, hP, fun c k _ => rfl⟩
theorem ex34 (hP : PXW w W) {x y : Int} (hx : rng x) (hy : rng y) : eX6_colour l D ck ad shA [vR 0, vI x, vI y] w (Pi (XR w (op34 W x y))) := by
  have hT : TB w 1 (wN W) (wF W) := hP.1.1
  have hD : DG w 10 (wA W) (wC W) (wG W) (wS W) := hP.1.2
  have hb := hD.2.2.1
  have hga := lastA_lt hD
  refine ev_of_goK (own := RX6) (ls := [some (vR 0), some (vI x), some (vI y)]) (by decide +kernel) rfl rfl (Nat.le_of_ble_eq_true rfl) rkI ?_
  intro K hK
  refine go_iload_n (j := 1) (q := 1) rfl rfl dX6_colour_0 rfl ?_
  refine go_if_lt2 (q := 4) (t := 21) dX6_colour_1 (by decide) rfl (by omega) (fun c1 => ?_) (fun c1 => ?_)
  · refine go_iconst (q := 22) dX6_colour_21 rfl ?_
    refine go_iret dX6_colour_22 ?_
    subst hK
    unfold op34
    by_cases z : 0 ≤ x ∧ el (wA W) y
    · rw [cif_t z]
      have hpw := pow_b ⟨wN W, by have := hT.2.1; omega⟩ ⟨wA W, by omega⟩
      simp only at hpw
      have hle := cnt_le (n := wN W) (a := wA W) (c := wC W) (f := wF W) (g := wG W) (s := wS W) (E := tt) (wN W ^ wA W)
      have hk : colA (wN W) (wA W) (wC W) (wF W) (wG W) (wS W) x.toNat y.toNat (-1) := Or.inr ⟨by omega, rfl⟩
      exact ⟨_, rfl, the_eq hk (fun u hu => colA_u hga (by omega) hu hk), hP, fun c k _ => rfl⟩
    · rw [cif_f z]
      exact ⟨_, rfl, rfl, hP, fun c k _ => rfl⟩
  · refine go_iload_n (j := 1) (q := 5) rfl rfl dX6_colour_4 rfl ?_
    refine go_ldc (n := 279936) (q := 7) cn_X6_203 rfl dX6_colour_5 rfl ?_
    refine go_icmp_ge2 (q := 10) (t := 21) dX6_colour_7 (by decide) rfl (by omega) (fun c7 => ?_) (fun c7 => ?_)
    · refine go_iconst (q := 22) dX6_colour_21 rfl ?_
      refine go_iret dX6_colour_22 ?_
      subst hK
      unfold op34
      by_cases z : 0 ≤ x ∧ el (wA W) y
      · rw [cif_t z]
        have hpw := pow_b ⟨wN W, by have := hT.2.1; omega⟩ ⟨wA W, by omega⟩
        simp only at hpw
        have hle := cnt_le (n := wN W) (a := wA W) (c := wC W) (f := wF W) (g := wG W) (s := wS W) (E := tt) (wN W ^ wA W)
        have hk : colA (wN W) (wA W) (wC W) (wF W) (wG W) (wS W) x.toNat y.toNat (-1) := Or.inr ⟨by omega, rfl⟩
        exact ⟨_, rfl, the_eq hk (fun u hu => colA_u hga (by omega) hu hk), hP, fun c k _ => rfl⟩
      · rw [cif_f z]
        exact ⟨_, rfl, rfl, hP, fun c k _ => rfl⟩
    · refine go_aload_n (j := 0) (q := 11) rfl rfl dX6_colour_10 rfl ?_
      refine go_getR (C0 := RX6) (T := TX6) (N := 7) (ci := 6) (i := 3) (q := 14) rfl igX6 (by first | assumption | rfl) (by decide) fl_X6_29 rfl dX6_colour_11 rfl ?_
      refine go_iload_n (j := 2) (q := 15) rfl rfl dX6_colour_14 rfl ?_
      refine go_callVz (as := [_, _]) (As := [_]) (rest := []) (n := 1) (q := 18) dX6_colour_15 lk_X6_157 (ci := 1) (N := 3) (T := TX1) rfl (by first | assumption | rfl) rfl rfl (by decide +kernel) rfl ⟨by decide, by decide⟩ ⟨rfl, rfl⟩ (Nat.le_of_ble_eq_true rfl) (ev_hasArc rfl hD hy) rfl (fun w15 h15 => ?_) (fun w15 h15 => ?_)
      · obtain ⟨rfl, h15⟩ := h15
        refine go_if_neT (t := 23) dX6_colour_18 (by decide) (by decide) ?_
        refine go_aload_n (j := 0) (q := 24) rfl rfl dX6_colour_23 rfl ?_
        refine go_getR (C0 := RX6) (T := TX6) (N := 7) (ci := 6) (i := 4) (q := 27) rfl igX6 (by first | assumption | rfl) (by decide) fl_X6_38 rfl dX6_colour_24 rfl ?_
        refine go_iload_n (j := 1) (q := 28) rfl rfl dX6_colour_27 rfl ?_
        refine go_iload_n (j := 2) (q := 29) rfl rfl dX6_colour_28 rfl ?_
        refine go_callVi (as := [_, _, _]) (As := [_, _]) (rest := []) (n := 2) (q := 32) dX6_colour_29 lk_X6_204 (ci := 0) (N := 6) (T := TX0) rfl (by first | assumption | rfl) rfl rfl (by decide +kernel) rfl ⟨by decide, by decide⟩ ⟨rfl, rfl⟩ (Nat.le_of_ble_eq_true rfl) (ev_colourAt hT hD (x := x.toNat) (v := y.toNat) (by omega) (by omega) (by omega) (by omega)) rfl (fun x29 w29 h29 => ?_)
        obtain ⟨h29, f29⟩ := h29
        refine go_iret dX6_colour_32 ?_
        subst hK
        unfold op34
        rw [cif_t (by omega)]
        exact ⟨_, rfl, the_eq h29 (fun u hu => colA_u hga (by omega) hu h29), PXW_q hP (fun c k z => f29 _ _ (by omega) (by omega) (by omega)), fun c k z => f29 _ _ (by omega) (by omega) (by omega)⟩
      · obtain ⟨rfl, h15⟩ := h15
        refine go_if_neF (q := 21) (t := 23) dX6_colour_18 rfl (by decide) (by decide) ?_
        refine go_iconst (q := 22) dX6_colour_21 rfl ?_
        refine go_iret dX6_colour_22 ?_
        subst hK
        unfold op34
        by_cases z : 0 ≤ x ∧ el (wA W) y
        · rw [cif_t z]
          have hpw := pow_b ⟨wN W, by have := hT.2.1; omega⟩ ⟨wA W, by omega⟩
          simp only at hpw
          have hle := cnt_le (n := wN W) (a := wA W) (c := wC W) (f := wF W) (g := wG W) (s := wS W) (E := tt) (wN W ^ wA W)
          have hk : colA (wN W) (wA W) (wC W) (wF W) (wG W) (wS W) x.toNat y.toNat (-1) := Or.inr ⟨by omega, rfl⟩
          exact ⟨_, rfl, the_eq hk (fun u hu => colA_u hga (by omega) hu hk), hP, fun c k _ => rfl⟩
        · rw [cif_f z]
          exact ⟨_, rfl, rfl, hP, fun c k _ => rfl⟩
end KC2
