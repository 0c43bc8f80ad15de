/-- the law's loop over the turns, at its head -/
def HdL (l : Launch) (D : va_G) (ck : Nat → ClassId) (ad : Nat → Nat) (B : Nat) (ti : Int) (K : Post) : Prop := ∀ (o6 o7 o8 o9 o10 o11 o12 o13 o14 o15 o16 o17 o18 o19 o20 : Option MV) (w : Mem) (W : WA), PXW w W → LX w W →
  gL_law l D ck ad shA B VT 34 [some (vR 2000), some (vR 0), some (vR 45), some (vR 46), some (vR 47), some (vI ti), o6, o7, o8, o9, o10, o11, o12, o13, o14, o15, o16, o17, o18, o19, o20] [] w K
section LAW10
variable {l : Launch} {D : va_G} {ck : Nat → ClassId} {ad : Nat → Nat} {w : Mem} {W : WA} {B : Nat} {K : Post} {ti xi yi ki : Int}
theorem lnx (hH : HdL l D ck ad B (ti + 1) K) : NxL l D ck ad (B + 3) ti K := by
  intro xi yi ki ni fi ai bi o13 o14 o15 o16 o17 o18 o19 o20 w W hP hX
  have hn := hX.1.2.1
  have hB := LB_of hP
  have ha := hB.1
  refine go_aload_n (j := 1) (q := 1577) rfl rfl dL_law_1576 rfl ?_
  refine go_iload (j := 7) (q := 1579) rfl dL_law_1577 rfl ?_
  refine go_iconst (q := 1580) dL_law_1579 rfl ?_
  refine go_ishr (q := 1581) dL_law_1580 rfl ?_
  refine go_aload_n (j := 2) (q := 1582) rfl rfl dL_law_1581 rfl ?_
  refine go_aload_n (j := 3) (q := 1583) rfl rfl dL_law_1582 rfl ?_
  refine go_aload (j := 4) (q := 1585) rfl dL_law_1583 rfl ?_
  refine go_acallSz (B2 := B + 1) (as := [_, _, _, _, _]) (rest := []) (n := 5) (q := 1588) dL_law_1585 lk_L_181 rfl (by decide +kernel) rfl ⟨by decide, by decide⟩ (by show _ + 2 ≤ _ ∧ 128 ≤ 64 * 2; omega) (Nat.le_of_ble_eq_true rfl) (el_same hP hX) rfl (fun w1585 h1585 => ?_) (fun w1585 h1585 => ?_)
  · obtain ⟨hP1585, f1585⟩ := h1585
    have hX1585 := LX_same hX f1585
    have g0 : w1585 45 0 = (wN W : Int) := hX1585.1.1
    have g1 : w1585 45 1 = (wA W : Int) := hX1585.2.1
    refine go_if_neT (t := 1593) dL_law_1588 (by decide) (by decide) ?_
    refine go_iconst (q := 1594) dL_law_1593 rfl ?_
    refine go_istore (j := 13) (q := 1596) (ls2 := [_, _, _, _, _, _, _, _, _, _, _, _, _, _, _, _, _, _, _, _, _]) (by decide) rfl rfl dL_law_1594 rfl ?_
    refine go_iconst (q := 1597) dL_law_1596 rfl ?_
    refine go_istore (j := 14) (q := 1599) (ls2 := [_, _, _, _, _, _, _, _, _, _, _, _, _, _, _, _, _, _, _, _, _]) (by decide) rfl rfl dL_law_1597 rfl ?_
    have lp1599 : ∀ (m1599 : Nat) (k : Nat) (ali ii : Int) (ei : ii = k) (hk : k ≤ wA W) (ea : ali = (((wN W) ^ k : Nat) : Int)), m1599 = wA W - k → gL_law l D ck ad shA (B + 1) VT 1599 [some (vR 2000), some (vR 0), some (vR 45), some (vR 46), some (vR 47), some (vI ti), some (vI xi), some (vI yi), some (vI ki), some (vI ni), some (vI fi), some (vI ai), some (vI bi), some (vI ali), some (vI ii), o15, o16, o17, o18, o19, o20] [] w1585 K := by
      intro m1599
      induction m1599 using Nat.strongRecOn with
      | _ m1599 ih1599 =>
      intro k ali ii ei hk ea em1599
      refine go_iload (j := 14) (q := 1601) rfl dL_law_1599 rfl ?_
      refine go_aload_n (j := 2) (q := 1602) rfl rfl dL_law_1601 rfl ?_
      refine go_iconst (q := 1603) dL_law_1602 rfl ?_
      refine go_iald (j := 1) (q := 1604) (by first | assumption | rfl) (wr_eq (by omega)) (by omega) dL_law_1603 rfl ?_
      rw [g1]
      refine go_icmp_ge2 (q := 1607) (t := 1621) dL_law_1604 (by decide) rfl (by omega) (fun c1604 => ?_) (fun c1604 => ?_)
      · obtain ⟨E, hE⟩ : ∃ E, E = (wN W) ^ (wA W) := ⟨_, rfl⟩
        have hE7 : E ≤ 279936 := by
          rw [hE]
          exact Nat.le_trans (Nat.pow_le_pow_left hn.2 _) (Nat.le_trans (Nat.pow_le_pow_right (by decide) ha.2) (by decide))
        rw [show k = wA W by omega, ← hE] at ea
        refine go_iload (j := 13) (q := 1623) rfl dL_law_1621 rfl ?_
        refine go_sipush (q := 1626) rfl dL_law_1623 rfl ?_
        refine go_icmp_ge2 (q := 1629) (t := 1658) dL_law_1626 (by decide) rfl (by omega) (fun c1626 => ?_) (fun c1626 => ?_)
        · refine go_iinc (j := 5) (q := 1661) (ls2 := [_, _, _, _, _, _, _, _, _, _, _, _, _, _, _, _, _, _, _, _, _]) rfl (by decide) rfl rfl dL_law_1658 rfl ?_
          refine go_goto (q := 34) dL_law_1661 (by decide) ?_
          exact go_more (B2 := B) (by omega) (hH _ _ _ _ _ _ _ _ _ _ _ _ _ _ _ _ W (by assumption) (by assumption))
        · refine go_iload (j := 7) (q := 1631) rfl dL_law_1629 rfl ?_
          refine go_bipush (q := 1633) rfl dL_law_1631 rfl ?_
          refine go_ishr (q := 1634) dL_law_1633 rfl ?_
          refine go_iconst (q := 1635) dL_law_1634 rfl ?_
          refine go_callSi (as := [_, _]) (rest := []) (n := 2) (q := 1638) dL_law_1635 lk_L_29 rfl (by decide +kernel) rfl ⟨by decide, by decide⟩ ⟨rfl, rfl⟩ (Nat.le_of_ble_eq_true rfl) (el_low (by omega)) rfl (fun x1635 w1635 h1635 => ?_)
          obtain ⟨h1635, rfl⟩ := h1635
          refine go_if_ne2 (q := 1641) (t := 1658) dL_law_1638 (by decide) rfl (by omega) (fun c1638 => ?_) (fun c1638 => ?_)
          · refine go_iinc (j := 5) (q := 1661) (ls2 := [_, _, _, _, _, _, _, _, _, _, _, _, _, _, _, _, _, _, _, _, _]) rfl (by decide) rfl rfl dL_law_1658 rfl ?_
            refine go_goto (q := 34) dL_law_1661 (by decide) ?_
            exact go_more (B2 := B) (by omega) (hH _ _ _ _ _ _ _ _ _ _ _ _ _ _ _ _ W (by assumption) (by assumption))
          · refine go_aload_n (j := 1) (q := 1642) rfl rfl dL_law_1641 rfl ?_
            refine go_iload (j := 7) (q := 1644) rfl dL_law_1642 rfl ?_
            refine go_iconst (q := 1645) dL_law_1644 rfl ?_
            refine go_ishr (q := 1646) dL_law_1645 rfl ?_
            refine go_aload_n (j := 2) (q := 1647) rfl rfl dL_law_1646 rfl ?_
            refine go_aload_n (j := 3) (q := 1648) rfl rfl dL_law_1647 rfl ?_
            refine go_aload (j := 4) (q := 1650) rfl dL_law_1648 rfl ?_
            refine go_acallSz (B2 := B) (as := [_, _, _, _, _]) (rest := []) (n := 5) (q := 1653) dL_law_1650 lk_L_185 rfl (by decide +kernel) rfl ⟨by decide, by decide⟩ (by show _ + 1 ≤ _ ∧ 64 ≤ 64 * 1; omega) (Nat.le_of_ble_eq_true rfl) (el_colourings hP1585 hX1585 (by rw [← hE]; omega)) rfl (fun w1650 h1650 => ?_) (fun w1650 h1650 => ?_)
            · obtain ⟨hP1650, f1650⟩ := h1650
              have hX1650 := LX_same hX1585 f1650
              refine go_if_neT (t := 1658) dL_law_1653 (by decide) (by decide) ?_
              refine go_iinc (j := 5) (q := 1661) (ls2 := [_, _, _, _, _, _, _, _, _, _, _, _, _, _, _, _, _, _, _, _, _]) rfl (by decide) rfl rfl dL_law_1658 rfl ?_
              refine go_goto (q := 34) dL_law_1661 (by decide) ?_
              exact go_more (B2 := B) (by omega) (hH _ _ _ _ _ _ _ _ _ _ _ _ _ _ _ _ W (by assumption) (by assumption))
            · exact h1650.elim
      · refine go_iload (j := 13) (q := 1609) rfl dL_law_1607 rfl ?_
        refine go_aload_n (j := 2) (q := 1610) rfl rfl dL_law_1609 rfl ?_
        refine go_iconst (q := 1611) dL_law_1610 rfl ?_
        refine go_iald (j := 0) (q := 1612) (by first | assumption | rfl) (wr_eq (by omega)) (by omega) dL_law_1611 rfl ?_
        rw [g0]
        refine go_imul (q := 1613) dL_law_1612 rfl ?_
        refine go_istore (j := 13) (q := 1615) (ls2 := [_, _, _, _, _, _, _, _, _, _, _, _, _, _, _, _, _, _, _, _, _]) (by decide) rfl rfl dL_law_1613 rfl ?_
        refine go_iinc (j := 14) (q := 1618) (ls2 := [_, _, _, _, _, _, _, _, _, _, _, _, _, _, _, _, _, _, _, _, _]) rfl (by decide) rfl rfl dL_law_1615 rfl ?_
        refine go_goto (q := 1599) dL_law_1618 (by decide) ?_
        exact ih1599 _ (by omega) (k + 1) _ _ (by omega) (by omega) (by rw [ea, Nat.pow_succ, Int.natCast_mul]) rfl
    exact lp1599 _ 0 _ _ rfl (by omega) rfl rfl
  · exact h1585.elim
theorem lt86 (hN : NxL l D ck ad B ti K) (hP : PXW w W) (hX : LX w W) (hk : 0 ≤ ki ∧ ki < 18) :
    gL_law l D ck ad shA (B + 1) VT 86 [some (vR 2000), some (vR 0), some (vR 45), some (vR 46), some (vR 47), some (vI ti), some (vI xi), some (vI yi), some (vI ki), none, none, none, none, none, none, none, none, none, none, none, none] [] w K := by
  have g1 : w 45 1 = (wA W : Int) := hX.2.1
  have hB := LB_of hP
  have ha := hB.1
  refine go_iconst (q := 87) dL_law_86 rfl ?_
  refine go_iload (j := 7) (q := 89) rfl dL_law_87 rfl ?_
  refine go_bipush (q := 91) rfl dL_law_89 rfl ?_
  refine go_callSi (as := [_, _]) (rest := [_]) (n := 2) (q := 94) dL_law_91 lk_L_29 rfl (by decide +kernel) rfl ⟨by decide, by decide⟩ ⟨rfl, rfl⟩ (Nat.le_of_ble_eq_true rfl) (el_low (by omega)) rfl (fun x91 w91 h91 => ?_)
  obtain ⟨h91, rfl⟩ := h91
  refine go_iadd (q := 95) dL_law_94 rfl ?_
  refine go_istore (j := 9) (q := 97) (ls2 := [_, _, _, _, _, _, _, _, _, _, _, _, _, _, _, _, _, _, _, _, _]) (by decide) rfl rfl dL_law_95 rfl ?_
  refine go_iload (j := 7) (q := 99) rfl dL_law_97 rfl ?_
  refine go_iconst (q := 100) dL_law_99 rfl ?_
  refine go_ishr (q := 101) dL_law_100 rfl ?_
  refine go_bipush (q := 103) rfl dL_law_101 rfl ?_
  refine go_callSi (as := [_, _]) (rest := []) (n := 2) (q := 106) dL_law_103 lk_L_29 rfl (by decide +kernel) rfl ⟨by decide, by decide⟩ ⟨rfl, rfl⟩ (Nat.le_of_ble_eq_true rfl) (el_low (by omega)) rfl (fun x103 w103 h103 => ?_)
  obtain ⟨h103, rfl⟩ := h103
  refine go_istore (j := 10) (q := 108) (ls2 := [_, _, _, _, _, _, _, _, _, _, _, _, _, _, _, _, _, _, _, _, _]) (by decide) rfl rfl dL_law_106 rfl ?_
  refine go_iload (j := 6) (q := 110) rfl dL_law_108 rfl ?_
  refine go_iconst (q := 111) dL_law_110 rfl ?_
  refine go_ishr (q := 112) dL_law_111 rfl ?_
  refine go_aload_n (j := 2) (q := 113) rfl rfl dL_law_112 rfl ?_
  refine go_iconst (q := 114) dL_law_113 rfl ?_
  refine go_iald (j := 1) (q := 115) (by first | assumption | rfl) (wr_eq (by omega)) (by omega) dL_law_114 rfl ?_
  rw [g1]
  refine go_callSi (as := [_, _]) (rest := []) (n := 2) (q := 118) dL_law_115 lk_L_29 rfl (by decide +kernel) rfl ⟨by decide, by decide⟩ ⟨rfl, rfl⟩ (Nat.le_of_ble_eq_true rfl) (el_low (by omega)) rfl (fun x115 w115 h115 => ?_)
  obtain ⟨h115, rfl⟩ := h115
  refine go_istore (j := 11) (q := 120) (ls2 := [_, _, _, _, _, _, _, _, _, _, _, _, _, _, _, _, _, _, _, _, _]) (by decide) rfl rfl dL_law_118 rfl ?_
  refine go_iload (j := 7) (q := 122) rfl dL_law_120 rfl ?_
  refine go_bipush (q := 124) rfl dL_law_122 rfl ?_
  refine go_ishr (q := 125) dL_law_124 rfl ?_
  refine go_aload_n (j := 2) (q := 126) rfl rfl dL_law_125 rfl ?_
  refine go_iconst (q := 127) dL_law_126 rfl ?_
  refine go_iald (j := 1) (q := 128) (by first | assumption | rfl) (wr_eq (by omega)) (by omega) dL_law_127 rfl ?_
  rw [g1]
  refine go_callSi (as := [_, _]) (rest := []) (n := 2) (q := 131) dL_law_128 lk_L_29 rfl (by decide +kernel) rfl ⟨by decide, by decide⟩ ⟨rfl, rfl⟩ (Nat.le_of_ble_eq_true rfl) (el_low (by omega)) rfl (fun x128 w128 h128 => ?_)
  obtain ⟨h128, rfl⟩ := h128
  refine go_istore (j := 12) (q := 133) (ls2 := [_, _, _, _, _, _, _, _, _, _, _, _, _, _, _, _, _, _, _, _, _]) (by decide) rfl rfl dL_law_131 rfl ?_
  refine go_iload (j := 8) (q := 135) rfl dL_law_133 rfl ?_
  refine go_iconst (q := 136) dL_law_135 rfl ?_
  refine go_icmp_ge2 (q := 139) (t := 325) dL_law_136 (by decide) rfl (by omega) (fun c136 => ?_) (fun c136 => ?_)
  · refine go_iload (j := 8) (q := 327) rfl dL_law_325 rfl ?_
    refine go_iconst (q := 328) dL_law_327 rfl ?_
    refine go_icmp_ne2 (q := 331) (t := 577) dL_law_328 (by decide) rfl (by omega) (fun c328 => ?_) (fun c328 => ?_)
    · refine go_iload (j := 8) (q := 579) rfl dL_law_577 rfl ?_
      refine go_bipush (q := 581) rfl dL_law_579 rfl ?_
      refine go_icmp_ge2 (q := 584) (t := 659) dL_law_581 (by decide) rfl (by omega) (fun c581 => ?_) (fun c581 => ?_)
      · refine go_iload (j := 8) (q := 661) rfl dL_law_659 rfl ?_
        refine go_bipush (q := 663) rfl dL_law_661 rfl ?_
        refine go_icmp_ne2 (q := 666) (t := 840) dL_law_663 (by decide) rfl (by omega) (fun c663 => ?_) (fun c663 => ?_)
        · refine go_iload (j := 8) (q := 842) rfl dL_law_840 rfl ?_
          refine go_bipush (q := 844) rfl dL_law_842 rfl ?_
          refine go_icmp_ne2 (q := 847) (t := 883) dL_law_844 (by decide) rfl (by omega) (fun c844 => ?_) (fun c844 => ?_)
          · refine go_iload (j := 8) (q := 885) rfl dL_law_883 rfl ?_
            refine go_bipush (q := 887) rfl dL_law_885 rfl ?_
            refine go_icmp_ge2 (q := 890) (t := 1145) dL_law_887 (by decide) rfl (by omega) (fun c887 => ?_) (fun c887 => ?_)
            · refine go_iload (j := 8) (q := 1147) rfl dL_law_1145 rfl ?_
              refine go_bipush (q := 1149) rfl dL_law_1147 rfl ?_
              refine go_icmp_ge2 (q := 1152) (t := 1247) dL_law_1149 (by decide) rfl (by omega) (fun c1149 => ?_) (fun c1149 => ?_)
              · refine go_iload (j := 8) (q := 1249) rfl dL_law_1247 rfl ?_
                refine go_bipush (q := 1251) rfl dL_law_1249 rfl ?_
                refine go_icmp_ne2 (q := 1254) (t := 1356) dL_law_1251 (by decide) rfl (by omega) (fun c1251 => ?_) (fun c1251 => ?_)
                · refine go_iload (j := 8) (q := 1358) rfl dL_law_1356 rfl ?_
                  refine go_bipush (q := 1360) rfl dL_law_1358 rfl ?_
                  refine go_icmp_ge2 (q := 1363) (t := 1469) dL_law_1360 (by decide) rfl (by omega) (fun c1360 => ?_) (fun c1360 => ?_)
                  · exact go_more (Nat.le_succ B) (lk_poke hN hP hX (by omega) (by omega))
                  · exact go_more (Nat.le_succ B) (lk_kink hN hP hX (by omega))
                · exact go_more (Nat.le_succ B) (lk_rem hN hP hX)
              · exact go_more (Nat.le_succ B) (lk_add hN hP hX (by omega) (by omega))
            · exact go_more (Nat.le_succ B) (lk_std hN hP hX)
          · exact go_more (Nat.le_succ B) (lk_new hN hP hX)
        · exact lk_inv hN hP hX
      · exact go_more (Nat.le_succ B) (lk_set hN hP hX)
    · exact lk_tr hN hP hX
  · exact go_more (Nat.le_succ B) (lk_lin hN hP hX (by omega) (by omega) (by omega))
theorem lturn0 (hN : NxL l D ck ad B ti K) (hP : PXW w W) (hX : LX w W) (ht : 0 ≤ ti ∧ ti < 24) :
    gL_law l D ck ad shA (B + 1) VT 41 [some (vR 2000), some (vR 0), some (vR 45), some (vR 46), some (vR 47), some (vI ti), none, none, none, none, none, none, none, none, none, none, none, none, none, none, none] [] w K := by
  refine go_aload_n (j := 0) (q := 42) rfl rfl dL_law_41 rfl ?_
  refine go_iconst (q := 43) dL_law_42 rfl ?_
  refine go_iload (j := 5) (q := 45) rfl dL_law_43 rfl ?_
  refine go_imul (q := 46) dL_law_45 rfl ?_
  refine go_callSi (as := [_, _]) (rest := []) (n := 2) (q := 49) dL_law_46 lk_L_131 rfl (by decide +kernel) rfl ⟨by decide, by decide⟩ ⟨rfl, rfl⟩ (Nat.le_of_ble_eq_true rfl) (el_cell (by omega)) rfl (fun x46 w46 h46 => ?_)
  subst h46
  refine go_istore (j := 6) (q := 51) (ls2 := [_, _, _, _, _, _, _, _, _, _, _, _, _, _, _, _, _, _, _, _, _]) (by decide) rfl rfl dL_law_49 rfl ?_
  refine go_aload_n (j := 0) (q := 52) rfl rfl dL_law_51 rfl ?_
  refine go_iconst (q := 53) dL_law_52 rfl ?_
  refine go_iload (j := 5) (q := 55) rfl dL_law_53 rfl ?_
  refine go_imul (q := 56) dL_law_55 rfl ?_
  refine go_iconst (q := 57) dL_law_56 rfl ?_
  refine go_iadd (q := 58) dL_law_57 rfl ?_
  refine go_callSi (as := [_, _]) (rest := []) (n := 2) (q := 61) dL_law_58 lk_L_131 rfl (by decide +kernel) rfl ⟨by decide, by decide⟩ ⟨rfl, rfl⟩ (Nat.le_of_ble_eq_true rfl) (el_cell (by omega)) rfl (fun x58 w58 h58 => ?_)
  subst h58
  refine go_istore (j := 7) (q := 63) (ls2 := [_, _, _, _, _, _, _, _, _, _, _, _, _, _, _, _, _, _, _, _, _]) (by decide) rfl rfl dL_law_61 rfl ?_
  refine go_iload (j := 5) (q := 65) rfl dL_law_63 rfl ?_
  refine go_if_ne2 (q := 68) (t := 77) dL_law_65 (by decide) rfl (by omega) (fun c65 => ?_) (fun c65 => ?_)
  · refine go_iload (j := 6) (q := 79) rfl dL_law_77 rfl ?_
    refine go_bipush (q := 81) rfl dL_law_79 rfl ?_
    refine go_callSi (as := [_, _]) (rest := []) (n := 2) (q := 84) dL_law_81 lk_L_29 rfl (by decide +kernel) rfl ⟨by decide, by decide⟩ ⟨rfl, rfl⟩ (Nat.le_of_ble_eq_true rfl) (el_low (by omega)) rfl (fun x81 w81 h81 => ?_)
    obtain ⟨h81, rfl⟩ := h81
    refine go_istore (j := 8) (q := 86) (ls2 := [_, _, _, _, _, _, _, _, _, _, _, _, _, _, _, _, _, _, _, _, _]) (by decide) rfl rfl dL_law_84 rfl ?_
    exact lt86 hN hP hX (by omega)
  · refine go_iload (j := 6) (q := 70) rfl dL_law_68 rfl ?_
    refine go_iconst (q := 71) dL_law_70 rfl ?_
    refine go_callSi (as := [_, _]) (rest := []) (n := 2) (q := 74) dL_law_71 lk_L_29 rfl (by decide +kernel) rfl ⟨by decide, by decide⟩ ⟨rfl, rfl⟩ (Nat.le_of_ble_eq_true rfl) (el_low (by omega)) rfl (fun x71 w71 h71 => ?_)
    obtain ⟨h71, rfl⟩ := h71
    refine go_goto (q := 84) dL_law_74 (by decide) ?_
    refine go_istore (j := 8) (q := 86) (ls2 := [_, _, _, _, _, _, _, _, _, _, _, _, _, _, _, _, _, _, _, _, _]) (by decide) rfl rfl dL_law_84 rfl ?_
    exact lt86 hN hP hX (by omega)
theorem lhead : ∀ (n : Nat) (ti : Int), 0 ≤ ti → ti + n = 24 → HdL l D ck ad (4 * n) ti (fun r _ => r = some (vI 1)) := by
  intro n
  induction n with
  | zero =>
    intro ti h0 hn o6 o7 o8 o9 o10 o11 o12 o13 o14 o15 o16 o17 o18 o19 o20 w W hP hX
    refine go_iload (j := 5) (q := 36) rfl dL_law_34 rfl ?_
    refine go_bipush (q := 38) rfl dL_law_36 rfl ?_
    refine go_icmp_ge2 (q := 41) (t := 1664) dL_law_38 (by decide) rfl (by omega) (fun c38 => ?_) (fun c38 => ?_)
    · refine go_iconst (q := 1665) dL_law_1664 rfl ?_
      refine go_iret dL_law_1665 ?_
      rfl
    · exact absurd c38 (by omega)
  | succ n ih =>
    intro ti h0 hn o6 o7 o8 o9 o10 o11 o12 o13 o14 o15 o16 o17 o18 o19 o20 w W hP hX
    have hN : NxL l D ck ad (4 * n + 3) ti (fun r _ => r = some (vI 1)) := lnx (ih (ti + 1) (by omega) (by omega))
    refine go_iload (j := 5) (q := 36) rfl dL_law_34 rfl ?_
    refine go_bipush (q := 38) rfl dL_law_36 rfl ?_
    refine go_icmp_ge2 (q := 41) (t := 1664) dL_law_38 (by decide) rfl (by omega) (fun c38 => ?_) (fun c38 => ?_)
    · exact absurd c38 (by omega)
    · exact go_forget (ls2 := [some (vR 2000), some (vR 0), some (vR 45), some (vR 46), some (vR 47), some (vI ti), none, none, none, none, none, none, none, none, none, none, none, none, none, none, none]) ⟨rfl, rfl, rfl, rfl, rfl, rfl, trivial⟩ (lturn0 hN hP hX (by omega))
end LAW10
