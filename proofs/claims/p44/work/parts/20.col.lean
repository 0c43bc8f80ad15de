def WS (w : Mem) (n a c : Nat) (f g : Nat → Nat → Nat) (s : Nat → Int) (jn : Nat) (col : Nat → Nat) (cn : Nat) : Prop :=
  w 12 5 = (jn : Int) - 1 ∧ jn ≤ a ∧ (∀ i, i + 1 < jn → w 13 i = (col i : Int) ∧ col i < n) ∧ (0 < jn → w 13 (jn - 1) = (cn : Int) - 1 ∧ cn ≤ n) ∧ (∀ i, jn ≤ i → i < 7 → w 13 i = -1) ∧
  (∀ k, k < c → w 14 k = (lastA g k : Int)) ∧ (∀ k, k < c → lastA g k + 1 < jn → metP f g s col k) ∧ remW n a jn col cn ≤ 391909
theorem pos_full {n a : Nat} {col : Nat → Nat} (ha : 1 ≤ a) : posW n a a col (col (a - 1) + 1) = Vn n col a + 1 := by
  unfold posW
  rw [if_neg (by omega), Nat.sub_self, Nat.pow_zero, Nat.mul_one]
  obtain ⟨b, rfl⟩ : ∃ b, a = b + 1 := ⟨a - 1, by omega⟩
  rfl
section COL
variable {l : Launch} {D : va_G} {ck : Nat → ClassId} {ad : Nat → Nat} {w : Mem} {n a c : Nat} {f g : Nat → Nat → Nat} {s : Nat → Int}
theorem ev_isMet (hT : TB w 1 n f) (hD : DG w 10 a c g s) {k J : Nat} {ki : Int} {col : Nat → Nat} (ek : ki = k) (hk : k < c) (hJ : J < 7) (hl : lastA g k ≤ J) (hc : ∀ i, i ≤ J → w 13 i = (col i : Int) ∧ col i < n) :
    eX0_isMet l D ck ad shA [vR 12, vI ki] w (Pz (fun w1 => w = w1 ∧ metP f g s col k) (fun w1 => w = w1 ∧ ¬ metP f g s col k)) := by
  have hT0 := hT
  have hD0 := hD
  obtain ⟨h0, hn, hf⟩ := hT
  obtain ⟨d0, d1, ha, hg⟩ := hD
  have hgk := hg k hk
  have l0 : g k 0 ≤ J := by unfold lastA at hl; omega
  have l1 : g k 1 ≤ J := by unfold lastA at hl; omega
  have l2 : g k 2 ≤ J := by unfold lastA at hl; omega
  have e0 := hc _ l0
  have e1 := hc _ l1
  have e2 := hc _ l2
  have f1 := (hf _ _ e1.2 e0.2).2
  have f2 := (hf _ _ e2.2 e0.2).2
  refine ev_of_goK (own := RX0) (ls := [some (vR 12), some (vI ki), none, none, none]) (by decide +kernel) rfl rfl (Nat.le_of_ble_eq_true rfl) rkZ ?_
  intro K hK
  refine go_aload_n (j := 0) (q := 1) rfl rfl dX0_isMet_0 rfl ?_
  refine go_getR (C0 := RX0) (T := TX0) (N := 6) (ci := 0) (i := 2) (q := 4) rfl igX0 (by first | assumption | rfl) (by decide) fl_X0_9 rfl dX0_isMet_1 rfl ?_
  refine go_aload_n (j := 0) (q := 5) rfl rfl dX0_isMet_4 rfl ?_
  refine go_getR (C0 := RX0) (T := TX0) (N := 6) (ci := 0) (i := 1) (q := 8) rfl igX0 (by first | assumption | rfl) (by decide) fl_X0_25 rfl dX0_isMet_5 rfl ?_
  refine go_iload_n (j := 1) (q := 9) rfl rfl dX0_isMet_8 rfl ?_
  refine go_iconst (q := 10) dX0_isMet_9 rfl ?_
  refine go_callVi (as := [_, _, _]) (As := [_, _]) (rest := [_]) (n := 2) (q := 13) dX0_isMet_10 lk_X0_56 (ci := 1) (N := 3) (T := TX1) rfl (by first | assumption | rfl) rfl rfl (by decide +kernel) rfl ⟨by decide, by decide⟩ ⟨rfl, rfl⟩ (Nat.le_of_ble_eq_true rfl) (ev_part rfl rfl (k := k) (p := 0) ek rfl (by omega)) rfl (fun x10 w10 h10 => ?_)
  obtain ⟨rfl, rfl⟩ := h10
  rw [show w (10 + 1) (4 * k + 0) = (g k 0 : Int) from hgk.1.1]
  refine go_iald (j := g k 0) (q := 14) (by first | assumption | rfl) (wr_eq (by omega)) (by omega) dX0_isMet_13 rfl ?_
  refine go_istore_n (j := 2) (q := 15) (ls2 := [_, _, _, _, _]) rfl (by decide) rfl rfl dX0_isMet_14 rfl ?_
  refine go_aload_n (j := 0) (q := 16) rfl rfl dX0_isMet_15 rfl ?_
  refine go_getR (C0 := RX0) (T := TX0) (N := 6) (ci := 0) (i := 2) (q := 19) rfl igX0 (by first | assumption | rfl) (by decide) fl_X0_9 rfl dX0_isMet_16 rfl ?_
  refine go_aload_n (j := 0) (q := 20) rfl rfl dX0_isMet_19 rfl ?_
  refine go_getR (C0 := RX0) (T := TX0) (N := 6) (ci := 0) (i := 1) (q := 23) rfl igX0 (by first | assumption | rfl) (by decide) fl_X0_25 rfl dX0_isMet_20 rfl ?_
  refine go_iload_n (j := 1) (q := 24) rfl rfl dX0_isMet_23 rfl ?_
  refine go_iconst (q := 25) dX0_isMet_24 rfl ?_
  refine go_callVi (as := [_, _, _]) (As := [_, _]) (rest := [_]) (n := 2) (q := 28) dX0_isMet_25 lk_X0_56 (ci := 1) (N := 3) (T := TX1) rfl (by first | assumption | rfl) rfl rfl (by decide +kernel) rfl ⟨by decide, by decide⟩ ⟨rfl, rfl⟩ (Nat.le_of_ble_eq_true rfl) (ev_part rfl rfl (k := k) (p := 1) ek rfl (by omega)) rfl (fun x25 w25 h25 => ?_)
  obtain ⟨rfl, rfl⟩ := h25
  rw [hgk.1.2.1]
  refine go_iald (j := g k 1) (q := 29) (by first | assumption | rfl) (wr_eq (by omega)) (by omega) dX0_isMet_28 rfl ?_
  refine go_istore_n (j := 3) (q := 30) (ls2 := [_, _, _, _, _]) rfl (by decide) rfl rfl dX0_isMet_29 rfl ?_
  refine go_aload_n (j := 0) (q := 31) rfl rfl dX0_isMet_30 rfl ?_
  refine go_getR (C0 := RX0) (T := TX0) (N := 6) (ci := 0) (i := 2) (q := 34) rfl igX0 (by first | assumption | rfl) (by decide) fl_X0_9 rfl dX0_isMet_31 rfl ?_
  refine go_aload_n (j := 0) (q := 35) rfl rfl dX0_isMet_34 rfl ?_
  refine go_getR (C0 := RX0) (T := TX0) (N := 6) (ci := 0) (i := 1) (q := 38) rfl igX0 (by first | assumption | rfl) (by decide) fl_X0_25 rfl dX0_isMet_35 rfl ?_
  refine go_iload_n (j := 1) (q := 39) rfl rfl dX0_isMet_38 rfl ?_
  refine go_iconst (q := 40) dX0_isMet_39 rfl ?_
  refine go_callVi (as := [_, _, _]) (As := [_, _]) (rest := [_]) (n := 2) (q := 43) dX0_isMet_40 lk_X0_56 (ci := 1) (N := 3) (T := TX1) rfl (by first | assumption | rfl) rfl rfl (by decide +kernel) rfl ⟨by decide, by decide⟩ ⟨rfl, rfl⟩ (Nat.le_of_ble_eq_true rfl) (ev_part rfl rfl (k := k) (p := 2) ek rfl (by omega)) rfl (fun x40 w40 h40 => ?_)
  obtain ⟨rfl, rfl⟩ := h40
  rw [hgk.1.2.2.1]
  refine go_iald (j := g k 2) (q := 44) (by first | assumption | rfl) (wr_eq (by omega)) (by omega) dX0_isMet_43 rfl ?_
  refine go_istore (j := 4) (q := 46) (ls2 := [_, _, _, _, _]) (by decide) rfl rfl dX0_isMet_44 rfl ?_
  refine go_aload_n (j := 0) (q := 47) rfl rfl dX0_isMet_46 rfl ?_
  refine go_getR (C0 := RX0) (T := TX0) (N := 6) (ci := 0) (i := 1) (q := 50) rfl igX0 (by first | assumption | rfl) (by decide) fl_X0_25 rfl dX0_isMet_47 rfl ?_
  refine go_iload_n (j := 1) (q := 51) rfl rfl dX0_isMet_50 rfl ?_
  refine go_iconst (q := 52) dX0_isMet_51 rfl ?_
  refine go_callVi (as := [_, _, _]) (As := [_, _]) (rest := []) (n := 2) (q := 55) dX0_isMet_52 lk_X0_56 (ci := 1) (N := 3) (T := TX1) rfl (by first | assumption | rfl) rfl rfl (by decide +kernel) rfl ⟨by decide, by decide⟩ ⟨rfl, rfl⟩ (Nat.le_of_ble_eq_true rfl) (ev_part rfl rfl (k := k) (p := 3) ek rfl (by omega)) rfl (fun x52 w52 h52 => ?_)
  obtain ⟨rfl, rfl⟩ := h52
  refine go_iconst (q := 56) dX0_isMet_55 rfl ?_
  rw [hgk.1.2.2.2]
  refine go_icmp_ne2 (q := 59) (t := 79) dX0_isMet_56 (by decide) rfl (by omega) (fun c56 => ?_) (fun c56 => ?_)
  · refine go_iload_n (j := 3) (q := 80) rfl rfl dX0_isMet_79 rfl ?_
    refine go_aload_n (j := 0) (q := 81) rfl rfl dX0_isMet_80 rfl ?_
    refine go_getR (C0 := RX0) (T := TX0) (N := 6) (ci := 0) (i := 0) (q := 84) rfl igX0 (by first | assumption | rfl) (by decide) fl_X0_21 rfl dX0_isMet_81 rfl ?_
    refine go_iload (j := 4) (q := 86) rfl dX0_isMet_84 rfl ?_
    refine go_iload_n (j := 2) (q := 87) rfl rfl dX0_isMet_86 rfl ?_
    refine go_callVi (as := [_, _, _]) (As := [_, _]) (rest := [_]) (n := 2) (q := 90) dX0_isMet_87 lk_X0_81 (ci := 5) (N := 2) (T := TX5) rfl (by first | assumption | rfl) rfl rfl (by decide +kernel) rfl ⟨by decide, by decide⟩ ⟨rfl, rfl⟩ (Nat.le_of_ble_eq_true rfl) (ev_times rfl rfl hT0 (x := col (g k 2)) (y := col (g k 0)) e2.1 e0.1 e2.2 e0.2) rfl (fun x87 w87 h87 => ?_)
    obtain ⟨rfl, rfl⟩ := h87
    refine go_icmp_ne2 (q := 93) (t := 97) dX0_isMet_90 (by decide) rfl (by omega) (fun c90 => ?_) (fun c90 => ?_)
    · refine go_iconst (q := 98) dX0_isMet_97 rfl ?_
      refine go_iret dX0_isMet_98 ?_
      subst hK; first | exact Or.inl ⟨rfl, rfl, ⟨fun z => absurd z c56, fun _ => by omega⟩⟩ | exact Or.inr ⟨rfl, rfl, fun z => by have := z.2 c56; omega⟩
    · refine go_iconst (q := 94) dX0_isMet_93 rfl ?_
      refine go_goto (q := 98) dX0_isMet_94 (by decide) ?_
      refine go_iret dX0_isMet_98 ?_
      subst hK; first | exact Or.inl ⟨rfl, rfl, ⟨fun z => absurd z c56, fun _ => by omega⟩⟩ | exact Or.inr ⟨rfl, rfl, fun z => by have := z.2 c56; omega⟩
  · refine go_iload (j := 4) (q := 61) rfl dX0_isMet_59 rfl ?_
    refine go_aload_n (j := 0) (q := 62) rfl rfl dX0_isMet_61 rfl ?_
    refine go_getR (C0 := RX0) (T := TX0) (N := 6) (ci := 0) (i := 0) (q := 65) rfl igX0 (by first | assumption | rfl) (by decide) fl_X0_21 rfl dX0_isMet_62 rfl ?_
    refine go_iload_n (j := 3) (q := 66) rfl rfl dX0_isMet_65 rfl ?_
    refine go_iload_n (j := 2) (q := 67) rfl rfl dX0_isMet_66 rfl ?_
    refine go_callVi (as := [_, _, _]) (As := [_, _]) (rest := [_]) (n := 2) (q := 70) dX0_isMet_67 lk_X0_81 (ci := 5) (N := 2) (T := TX5) rfl (by first | assumption | rfl) rfl rfl (by decide +kernel) rfl ⟨by decide, by decide⟩ ⟨rfl, rfl⟩ (Nat.le_of_ble_eq_true rfl) (ev_times rfl rfl hT0 (x := col (g k 1)) (y := col (g k 0)) e1.1 e0.1 e1.2 e0.2) rfl (fun x67 w67 h67 => ?_)
    obtain ⟨rfl, rfl⟩ := h67
    refine go_icmp_ne2 (q := 73) (t := 77) dX0_isMet_70 (by decide) rfl (by omega) (fun c70 => ?_) (fun c70 => ?_)
    · refine go_iconst (q := 78) dX0_isMet_77 rfl ?_
      refine go_iret dX0_isMet_78 ?_
      subst hK; first | exact Or.inl ⟨rfl, rfl, ⟨fun _ => by omega, fun z => absurd c56 z⟩⟩ | exact Or.inr ⟨rfl, rfl, fun z => by have := z.1 c56; omega⟩
    · refine go_iconst (q := 74) dX0_isMet_73 rfl ?_
      refine go_goto (q := 78) dX0_isMet_74 (by decide) ?_
      refine go_iret dX0_isMet_78 ?_
      subst hK; first | exact Or.inl ⟨rfl, rfl, ⟨fun _ => by omega, fun z => absurd c56 z⟩⟩ | exact Or.inr ⟨rfl, rfl, fun z => by have := z.1 c56; omega⟩
theorem ev_fits (hT : TB w 1 n f) (hD : DG w 10 a c g s) {j : Nat} {col : Nat → Nat} (hJ : j < 7) (hj : w 12 5 = (j : Int)) (hla : ∀ k, k < c → w 14 k = (lastA g k : Int)) (hc : ∀ i, i ≤ j → w 13 i = (col i : Int) ∧ col i < n) :
    eX0_fits l D ck ad shA [vR 12] w (Pz (fun w1 => w = w1 ∧ ∀ k, k < c → lastA g k = j → metP f g s col k) (fun w1 => w = w1 ∧ ¬ ∀ k, k < c → lastA g k = j → metP f g s col k)) := by
  have hD0 := hD
  obtain ⟨d0, d1, ha, hg⟩ := hD
  refine ev_of_goK (own := RX0) (ls := [some (vR 12), none]) (by decide +kernel) rfl rfl (Nat.le_of_ble_eq_true rfl) rkZ ?_
  intro K hK
  refine go_iconst (q := 1) dX0_fits_0 rfl ?_
  refine go_istore_n (j := 1) (q := 2) (ls2 := [_, _]) rfl (by decide) rfl rfl dX0_fits_1 rfl ?_
  have lp2 : ∀ (m2 : Nat) (k : Nat) (ki : Int) (ek : ki = k) (hk : k ≤ c) (hi : ∀ i, i < k → lastA g i = j → metP f g s col i), m2 = c - k → gX0_fits l D ck ad shA 2 [some (vR 12), some (vI ki)] [] w K := by
    intro m2
    induction m2 using Nat.strongRecOn with
    | _ m2 ih2 =>
    intro k ki ek hk hi em2
    refine go_iload_n (j := 1) (q := 3) rfl rfl dX0_fits_2 rfl ?_
    refine go_aload_n (j := 0) (q := 4) rfl rfl dX0_fits_3 rfl ?_
    refine go_getR (C0 := RX0) (T := TX0) (N := 6) (ci := 0) (i := 1) (q := 7) rfl igX0 (by first | assumption | rfl) (by decide) fl_X0_25 rfl dX0_fits_4 rfl ?_
    refine go_getI (C0 := RX1) (T := TX1) (N := 3) (ci := 1) (i := 1) (q := 10) rfl igX1 (by first | assumption | rfl) (by decide) fl_X0_53 rfl dX0_fits_7 rfl ?_
    refine go_icmp_ge2 (q := 13) (t := 42) dX0_fits_10 (by decide) rfl (by omega) (fun c10 => ?_) (fun c10 => ?_)
    · refine go_iconst (q := 43) dX0_fits_42 rfl ?_
      refine go_iret dX0_fits_43 ?_
      subst hK; exact Or.inl ⟨rfl, rfl, fun i h => hi i (by omega)⟩
    · have e1 := hla k (by omega)
      have b1 : lastA g k < 7 := by have := (hg k (by omega)).2.1; unfold lastA; omega
      refine go_aload_n (j := 0) (q := 14) rfl rfl dX0_fits_13 rfl ?_
      refine go_getR (C0 := RX0) (T := TX0) (N := 6) (ci := 0) (i := 3) (q := 17) rfl igX0 (by first | assumption | rfl) (by decide) fl_X0_15 rfl dX0_fits_14 rfl ?_
      refine go_iload_n (j := 1) (q := 18) rfl rfl dX0_fits_17 rfl ?_
      refine go_iald (j := k) (q := 19) (by first | assumption | rfl) (wr_eq (by omega)) (by omega) dX0_fits_18 rfl ?_
      refine go_aload_n (j := 0) (q := 20) rfl rfl dX0_fits_19 rfl ?_
      refine go_getI (C0 := RX0) (T := TX0) (N := 6) (ci := 0) (i := 5) (q := 23) rfl igX0 (by first | assumption | rfl) (by decide) fl_X0_65 rfl dX0_fits_20 rfl ?_
      refine go_icmp_ne2 (q := 26) (t := 36) dX0_fits_23 (by decide) rfl (by omega) (fun c23 => ?_) (fun c23 => ?_)
      · refine go_iinc (j := 1) (q := 39) (ls2 := [_, _]) rfl (by decide) rfl rfl dX0_fits_36 rfl ?_
        refine go_goto (q := 2) dX0_fits_39 (by decide) ?_
        first
        | exact ih2 _ (by omega) (k + 1) _ (by omega) (by omega) (fun i h => all_lt (P := fun i => lastA g i = j → metP f g s col i) hi (fun z => absurd z (by omega)) h) rfl
        | exact ih2 _ (by omega) (k + 1) _ (by omega) (by omega) (fun i h => all_lt (P := fun i => lastA g i = j → metP f g s col i) hi (fun _ => h28) h) rfl
      · refine go_aload_n (j := 0) (q := 27) rfl rfl dX0_fits_26 rfl ?_
        refine go_iload_n (j := 1) (q := 28) rfl rfl dX0_fits_27 rfl ?_
        refine go_callVz (as := [_, _]) (As := [_]) (rest := []) (n := 1) (q := 31) dX0_fits_28 lk_X0_77 (ci := 0) (N := 6) (T := TX0) rfl (by first | assumption | rfl) rfl rfl (by decide +kernel) rfl ⟨by decide, by decide⟩ ⟨rfl, rfl⟩ (Nat.le_of_ble_eq_true rfl) (ev_isMet hT hD0 (k := k) (J := j) (col := col) ek (by omega) hJ (by omega) hc) rfl (fun w28 h28 => ?_) (fun w28 h28 => ?_)
        · obtain ⟨rfl, h28⟩ := h28
          refine go_if_neT (t := 36) dX0_fits_31 (by decide) (by decide) ?_
          refine go_iinc (j := 1) (q := 39) (ls2 := [_, _]) rfl (by decide) rfl rfl dX0_fits_36 rfl ?_
          refine go_goto (q := 2) dX0_fits_39 (by decide) ?_
          first
          | exact ih2 _ (by omega) (k + 1) _ (by omega) (by omega) (fun i h => all_lt (P := fun i => lastA g i = j → metP f g s col i) hi (fun z => absurd z (by omega)) h) rfl
          | exact ih2 _ (by omega) (k + 1) _ (by omega) (by omega) (fun i h => all_lt (P := fun i => lastA g i = j → metP f g s col i) hi (fun _ => h28) h) rfl
        · obtain ⟨rfl, h28⟩ := h28
          refine go_if_neF (q := 34) (t := 36) dX0_fits_31 rfl (by decide) (by decide) ?_
          refine go_iconst (q := 35) dX0_fits_34 rfl ?_
          refine go_iret dX0_fits_35 ?_
          subst hK; exact Or.inr ⟨rfl, rfl, fun z => h28 (z k (by omega) (by omega))⟩
  exact lp2 _ 0 0 rfl (by omega) (fun j h => absurd h (Nat.not_lt_zero j)) rfl
theorem ev_start (hD : DG w 10 a c g s) (hn : 1 ≤ n ∧ n ≤ 6) :
    eX0_start l D ck ad shA [vR 12] w (Pv fun w1 => WS w1 n a c f g s 1 (fun _ => 0) 0 ∧ ∀ c k, c ≠ 12 → c ≠ 13 → c ≠ 14 → w1 c k = w c k) := by
  have hD0 := hD
  obtain ⟨d0, d1, ha, hg⟩ := hD
  refine ev_of_goK (own := RX0) (ls := [some (vR 12), none, none]) (by decide +kernel) rfl rfl (Nat.le_of_ble_eq_true rfl) rkV ?_
  intro K hK
  refine go_iconst (q := 1) dX0_start_0 rfl ?_
  refine go_istore_n (j := 1) (q := 2) (ls2 := [_, _, _]) rfl (by decide) rfl rfl dX0_start_1 rfl ?_
  have lp2 : ∀ (m2 : Nat) (r : Nat) (ri : Int) (u : Option MV) (w1 : Mem) (er : ri = r) (hr : r ≤ 7) (hi : ∀ j, j < r → w1 13 j = -1) (hf : ∀ c k, c ≠ 13 → w1 c k = w c k), m2 = 7 - r → gX0_start l D ck ad shA 2 [some (vR 12), some (vI ri), u] [] w1 K := by
    intro m2
    induction m2 using Nat.strongRecOn with
    | _ m2 ih2 =>
    intro r ri u w1 er hr hi hf em2
    refine go_iload_n (j := 1) (q := 3) rfl rfl dX0_start_2 rfl ?_
    refine go_bipush (q := 5) rfl dX0_start_3 rfl ?_
    refine go_icmp_ge2 (q := 8) (t := 21) dX0_start_5 (by decide) rfl (by omega) (fun c5 => ?_) (fun c5 => ?_)
    · have e7 : r = 7 := by omega
      subst e7
      refine go_iconst (q := 22) dX0_start_21 rfl ?_
      refine go_istore_n (j := 1) (q := 23) (ls2 := [_, _, _]) rfl (by decide) rfl rfl dX0_start_22 rfl ?_
      have lp23 : ∀ (m23 : Nat) (k : Nat) (ki : Int) (u2 : Option MV) (w2 : Mem) (ek : ki = k) (hk : k ≤ c) (hl : ∀ j, j < k → w2 14 j = (lastA g j : Int)) (hf2 : ∀ c k, c ≠ 14 → w2 c k = w1 c k), m23 = c - k → gX0_start l D ck ad shA 23 [some (vR 12), some (vI ki), u2] [] w2 K := by
        intro m23
        induction m23 using Nat.strongRecOn with
        | _ m23 ih23 =>
        intro k ki u2 w2 ek hk hl hf2 em23
        have hD2 : DG w2 10 a c g s := DG_same hD0 (fun k => by rw [hf2 _ _ (by omega), hf _ _ (by omega)]) (fun k => by rw [hf2 _ _ (by omega), hf _ _ (by omega)])
        have g1 := hD2.2.1
        refine go_iload_n (j := 1) (q := 24) rfl rfl dX0_start_23 rfl ?_
        refine go_aload_n (j := 0) (q := 25) rfl rfl dX0_start_24 rfl ?_
        refine go_getR (C0 := RX0) (T := TX0) (N := 6) (ci := 0) (i := 1) (q := 28) rfl igX0 (by first | assumption | rfl) (by decide) fl_X0_25 rfl dX0_start_25 rfl ?_
        refine go_getI (C0 := RX1) (T := TX1) (N := 3) (ci := 1) (i := 1) (q := 31) rfl igX1 (by first | assumption | rfl) (by decide) fl_X0_53 rfl dX0_start_28 rfl ?_
        refine go_icmp_ge2 (q := 34) (t := 81) dX0_start_31 (by decide) rfl (by omega) (fun c31 => ?_) (fun c31 => ?_)
        · refine go_aload_n (j := 0) (q := 82) rfl rfl dX0_start_81 rfl ?_
          refine go_iconst (q := 83) dX0_start_82 rfl ?_
          refine go_putI (C0 := RX0) (T := TX0) (N := 6) (ci := 0) (i := 5) (q := 86) rfl igX0 (by first | assumption | rfl) (by decide) fl_X0_65 rfl tyX0 tyX0_ok nmX0 rfl rfl dX0_start_83 rfl ?_
          refine go_vret dX0_start_86 ?_
          subst hK
          have hrem : remW n a 1 (fun _ => 0) 0 ≤ 391909 := by
            have := Tr_b ⟨n, by omega⟩ ⟨a, by omega⟩
            simp only at this
            unfold remW
            rw [if_neg (by omega)]
            show (n - 0) * (1 + Tr n (a - 1)) + 1 + 0 ≤ 391909
            rw [Nat.sub_zero]
            obtain ⟨b, rfl⟩ : ∃ b, a = b + 1 := ⟨a - 1, by omega⟩
            exact this
          refine ⟨rfl, ⟨by rw [mup_eq]; rfl, ha.1.1, fun i h => absurd h (by omega), fun _ => ⟨?_, by omega⟩, fun i h h2 => ?_, fun k h => ?_, fun k h h2 => absurd h2 (by omega), hrem⟩, fun c k z1 z2 z3 => by rw [mup_ne (Or.inl z1), hf2 _ _ z3, hf _ _ z2]⟩
          · rw [mup_ne (by omega), hf2 _ _ (by omega)]; exact hi 0 (by omega)
          · rw [mup_ne (by omega), hf2 _ _ (by omega)]; exact hi i h2
          · rw [mup_ne (by omega)]; exact hl k (by omega)
        · have hgk := hD2.2.2.2 k (by omega)
          have g0' : w2 (10 + 1) (4 * k + 0) = (g k 0 : Int) := hgk.1.1
          refine go_aload_n (j := 0) (q := 35) rfl rfl dX0_start_34 rfl ?_
          refine go_getR (C0 := RX0) (T := TX0) (N := 6) (ci := 0) (i := 1) (q := 38) rfl igX0 (by first | assumption | rfl) (by decide) fl_X0_25 rfl dX0_start_35 rfl ?_
          refine go_iload_n (j := 1) (q := 39) rfl rfl dX0_start_38 rfl ?_
          refine go_iconst (q := 40) dX0_start_39 rfl ?_
          refine go_callVi (as := [_, _, _]) (As := [_, _]) (rest := []) (n := 2) (q := 43) dX0_start_40 lk_X0_56 (ci := 1) (N := 3) (T := TX1) rfl (by first | assumption | rfl) rfl rfl (by decide +kernel) rfl ⟨by decide, by decide⟩ ⟨rfl, rfl⟩ (Nat.le_of_ble_eq_true rfl) (ev_part rfl rfl (k := k) (p := 1) ek rfl (by omega)) rfl (fun x40 w40 h40 => ?_)
          obtain ⟨rfl, rfl⟩ := h40
          refine go_aload_n (j := 0) (q := 44) rfl rfl dX0_start_43 rfl ?_
          refine go_getR (C0 := RX0) (T := TX0) (N := 6) (ci := 0) (i := 1) (q := 47) rfl igX0 (by first | assumption | rfl) (by decide) fl_X0_25 rfl dX0_start_44 rfl ?_
          refine go_iload_n (j := 1) (q := 48) rfl rfl dX0_start_47 rfl ?_
          refine go_iconst (q := 49) dX0_start_48 rfl ?_
          refine go_callVi (as := [_, _, _]) (As := [_, _]) (rest := [_]) (n := 2) (q := 52) dX0_start_49 lk_X0_56 (ci := 1) (N := 3) (T := TX1) rfl (by first | assumption | rfl) rfl rfl (by decide +kernel) rfl ⟨by decide, by decide⟩ ⟨rfl, rfl⟩ (Nat.le_of_ble_eq_true rfl) (ev_part rfl rfl (k := k) (p := 2) ek rfl (by omega)) rfl (fun x49 w49 h49 => ?_)
          obtain ⟨rfl, rfl⟩ := h49
          refine go_callSi (as := [_, _]) (rest := []) (n := 2) (q := 55) dX0_start_52 lk_X0_60 rfl (by decide +kernel) rfl ⟨by decide, by decide⟩ ⟨rfl, rfl⟩ (Nat.le_of_ble_eq_true rfl) (ev_max (by omega)) rfl (fun x52 w52 h52 => ?_)
          obtain ⟨h52, rfl⟩ := h52
          refine go_istore_n (j := 2) (q := 56) (ls2 := [_, _, _]) rfl (by decide) rfl rfl dX0_start_55 rfl ?_
          refine go_aload_n (j := 0) (q := 57) rfl rfl dX0_start_56 rfl ?_
          refine go_getR (C0 := RX0) (T := TX0) (N := 6) (ci := 0) (i := 3) (q := 60) rfl igX0 (by first | assumption | rfl) (by decide) fl_X0_15 rfl dX0_start_57 rfl ?_
          refine go_iload_n (j := 1) (q := 61) rfl rfl dX0_start_60 rfl ?_
          refine go_aload_n (j := 0) (q := 62) rfl rfl dX0_start_61 rfl ?_
          refine go_getR (C0 := RX0) (T := TX0) (N := 6) (ci := 0) (i := 1) (q := 65) rfl igX0 (by first | assumption | rfl) (by decide) fl_X0_25 rfl dX0_start_62 rfl ?_
          refine go_iload_n (j := 1) (q := 66) rfl rfl dX0_start_65 rfl ?_
          refine go_iconst (q := 67) dX0_start_66 rfl ?_
          refine go_callVi (as := [_, _, _]) (As := [_, _]) (rest := [_, _]) (n := 2) (q := 70) dX0_start_67 lk_X0_56 (ci := 1) (N := 3) (T := TX1) rfl (by first | assumption | rfl) rfl rfl (by decide +kernel) rfl ⟨by decide, by decide⟩ ⟨rfl, rfl⟩ (Nat.le_of_ble_eq_true rfl) (ev_part rfl rfl (k := k) (p := 0) ek rfl (by omega)) rfl (fun x67 w67 h67 => ?_)
          obtain ⟨rfl, rfl⟩ := h67
          refine go_iload_n (j := 2) (q := 71) rfl rfl dX0_start_70 rfl ?_
          refine go_callSi (as := [_, _]) (rest := [_, _]) (n := 2) (q := 74) dX0_start_71 lk_X0_60 rfl (by decide +kernel) rfl ⟨by decide, by decide⟩ ⟨rfl, rfl⟩ (Nat.le_of_ble_eq_true rfl) (ev_max (by omega)) rfl (fun x71 w71 h71 => ?_)
          obtain ⟨h71, rfl⟩ := h71
          refine go_iast (j := k) (q := 75) (by first | assumption | rfl) (wr_eq (by omega)) (by omega) dX0_start_74 rfl ?_
          refine go_iinc (j := 1) (q := 78) (ls2 := [_, _, _]) rfl (by decide) rfl rfl dX0_start_75 rfl ?_
          refine go_goto (q := 23) dX0_start_78 (by decide) ?_
          exact ih23 _ (by omega) (k + 1) _ _ _ (by omega) (by omega) (by
            intro j h
            by_cases q : j = k
            · subst q; rw [mup_eq]; unfold lastA; omega
            · rw [mup_ne (by omega)]; exact hl j (by omega)) (fun c k h => by rw [mup_ne (Or.inl h)]; exact hf2 c k h) rfl
      exact lp23 _ 0 0 _ _ rfl (by omega) (fun j h => absurd h (Nat.not_lt_zero j)) (fun c k h => rfl) rfl
    · refine go_aload_n (j := 0) (q := 9) rfl rfl dX0_start_8 rfl ?_
      refine go_getR (C0 := RX0) (T := TX0) (N := 6) (ci := 0) (i := 2) (q := 12) rfl igX0 (by first | assumption | rfl) (by decide) fl_X0_9 rfl dX0_start_9 rfl ?_
      refine go_iload_n (j := 1) (q := 13) rfl rfl dX0_start_12 rfl ?_
      refine go_iconst (q := 14) dX0_start_13 rfl ?_
      refine go_iast (j := r) (q := 15) (by first | assumption | rfl) (wr_eq (by omega)) (by omega) dX0_start_14 rfl ?_
      refine go_iinc (j := 1) (q := 18) (ls2 := [_, _, _]) rfl (by decide) rfl rfl dX0_start_15 rfl ?_
      refine go_goto (q := 2) dX0_start_18 (by decide) ?_
      exact ih2 _ (by omega) (r + 1) _ _ _ (by omega) (by omega) (by
        intro j h
        by_cases q : j = r
        · subst q; rw [mup_eq]
        · rw [mup_ne (by omega)]; exact hi j (by omega)) (fun c k h => by rw [mup_ne (Or.inl h)]; exact hf c k h) rfl
  exact lp2 _ 0 0 _ _ rfl (by omega) (fun j h => absurd h (Nat.not_lt_zero j)) (fun c k h => rfl) rfl
theorem ev_advance (hT : TB w 1 n f) (hD : DG w 10 a c g s) {jn cn : Nat} {col : Nat → Nat} (hW : WS w n a c f g s jn col cn) :
    eX0_advance l D ck ad shA [vR 12] w (Pz (fun w1 => (∃ col2 : Nat → Nat, (∀ i, i < a → w1 13 i = (col2 i : Int) ∧ col2 i < n) ∧ isColP c f g s col2 ∧ posW n a jn col cn ≤ Vn n col2 a ∧ (∀ r, posW n a jn col cn ≤ r → r < Vn n col2 a → ¬ cdP n a (isColP c f g s) r) ∧ WS w1 n a c f g s a col2 (col2 (a - 1) + 1)) ∧ ∀ c k, c ≠ 12 → c ≠ 13 → w1 c k = w c k)
      (fun w1 => (∀ r, posW n a jn col cn ≤ r → r < n ^ a → ¬ cdP n a (isColP c f g s) r) ∧ ∀ c k, c ≠ 12 → c ≠ 13 → w1 c k = w c k)) := by
  have hn := hT.2.1
  have ha := hD.2.2.1
  have hR0 := hW.2.2.2.2.2.2.2
  obtain ⟨p0, hp0⟩ : ∃ p0, p0 = posW n a jn col cn := ⟨_, rfl⟩
  rw [← hp0]
  refine ev_of_goK (own := RX0) (ls := [some (vR 12), none]) (by decide +kernel) rfl rfl (Nat.le_of_ble_eq_true rfl) rkZ ?_
  intro K hK
  refine go_iconst (q := 1) dX0_advance_0 rfl ?_
  refine go_istore_n (j := 1) (q := 2) (ls2 := [_, _]) rfl (by decide) rfl rfl dX0_advance_1 rfl ?_
  have lp2 : ∀ (m2 : Nat) (st : Nat) (si : Int) (w1 : Mem) (jm cm : Nat) (cl : Nat → Nat) (es : si = st) (hW1 : WS w1 n a c f g s jm cl cm) (hb : st + remW n a jm cl cm ≤ 391909) (hp : p0 ≤ posW n a jm cl cm) (hg : ∀ r, p0 ≤ r → r < posW n a jm cl cm → ¬ cdP n a (isColP c f g s) r) (hf : ∀ c k, c ≠ 12 → c ≠ 13 → w1 c k = w c k), m2 = 1000000 - st → gX0_advance l D ck ad shA 2 [some (vR 12), some (vI si)] [] w1 K := by
    intro m2
    induction m2 using Nat.strongRecOn with
    | _ m2 ih2 =>
    intro st si w1 jm cm cl es hW1 hb hp hg hf em2
    have hT1 : TB w1 1 n f := TB_same hT (fun k => hf _ _ (by omega) (by omega)) (fun k => hf _ _ (by omega) (by omega))
    have hD1 : DG w1 10 a c g s := DG_same hD (fun k => hf _ _ (by omega) (by omega)) (fun k => hf _ _ (by omega) (by omega))
    obtain ⟨v0, v1, v2, v3, v4, v5, v6, v7⟩ := hW1
    refine go_iload_n (j := 1) (q := 3) rfl rfl dX0_advance_2 rfl ?_
    refine go_ldc (n := 1000000) (q := 5) cn_X0_68 rfl dX0_advance_3 rfl ?_
    refine go_icmp_ge2 (q := 8) (t := 111) dX0_advance_5 (by decide) rfl (by omega) (fun c5 => ?_) (fun c5 => ?_)
    · exact absurd c5 (by omega)
    · refine go_aload_n (j := 0) (q := 9) rfl rfl dX0_advance_8 rfl ?_
      refine go_getI (C0 := RX0) (T := TX0) (N := 6) (ci := 0) (i := 5) (q := 12) rfl igX0 (by first | assumption | rfl) (by decide) fl_X0_65 rfl dX0_advance_9 rfl ?_
      refine go_if_lt2 (q := 15) (t := 111) dX0_advance_12 (by decide) rfl (by omega) (fun c12 => ?_) (fun c12 => ?_)
      · refine go_iconst (q := 112) dX0_advance_111 rfl ?_
        refine go_iret dX0_advance_112 ?_
        subst hK
        have e0 : jm = 0 := by omega
        subst e0
        exact Or.inr ⟨rfl, fun r h1 h2 => hg r h1 (by unfold posW; rw [if_pos rfl]; exact h2), hf⟩
      · obtain ⟨j, rfl⟩ : ∃ j, jm = j + 1 := ⟨jm - 1, by omega⟩
        have v3' := v3 (by omega)
        rw [show j + 1 - 1 = j by omega] at v3'
        refine go_aload_n (j := 0) (q := 16) rfl rfl dX0_advance_15 rfl ?_
        refine go_getR (C0 := RX0) (T := TX0) (N := 6) (ci := 0) (i := 2) (q := 19) rfl igX0 (by first | assumption | rfl) (by decide) fl_X0_9 rfl dX0_advance_16 rfl ?_
        refine go_aload_n (j := 0) (q := 20) rfl rfl dX0_advance_19 rfl ?_
        refine go_getI (C0 := RX0) (T := TX0) (N := 6) (ci := 0) (i := 5) (q := 23) rfl igX0 (by first | assumption | rfl) (by decide) fl_X0_65 rfl dX0_advance_20 rfl ?_
        refine go_dup2 (q := 24) (fun _ z => by cases z) (fun _ z => by cases z) dX0_advance_23 rfl ?_
        refine go_iald (j := j) (q := 25) (by first | assumption | rfl) (wr_eq (by omega)) (by omega) dX0_advance_24 rfl ?_
        refine go_iconst (q := 26) dX0_advance_25 rfl ?_
        refine go_iadd (q := 27) dX0_advance_26 rfl ?_
        refine go_iast (j := j) (q := 28) (by first | assumption | rfl) (wr_eq (by omega)) (by omega) dX0_advance_27 rfl ?_
        obtain ⟨w2, hw2⟩ : ∃ w2, w2 = mup w1 13 j (w1 13 j + 1) := ⟨_, rfl⟩
        rw [← hw2]
        have k2 : ∀ c k, c ≠ 13 → w2 c k = w1 c k := fun c k q => by rw [hw2, mup_ne (Or.inl q)]
        have k3 : w2 13 j = (cm : Int) := by rw [hw2, mup_eq]; omega
        have k4 : ∀ i, i ≠ j → w2 13 i = w1 13 i := fun i q => by rw [hw2, mup_ne (Or.inr q)]
        have k5 : w2 12 5 = (j : Int) := by rw [k2 _ _ (by omega)]; omega
        have k6 : w2 1 0 = (n : Int) := by rw [k2 _ _ (by omega)]; exact hT1.1
        have k7 : w2 10 0 = (a : Int) := by rw [k2 _ _ (by omega)]; exact hD1.1
        refine go_aload_n (j := 0) (q := 29) rfl rfl dX0_advance_28 rfl ?_
        refine go_getR (C0 := RX0) (T := TX0) (N := 6) (ci := 0) (i := 2) (q := 32) rfl igX0 (by first | assumption | rfl) (by decide) fl_X0_9 rfl dX0_advance_29 rfl ?_
        refine go_aload_n (j := 0) (q := 33) rfl rfl dX0_advance_32 rfl ?_
        refine go_getI (C0 := RX0) (T := TX0) (N := 6) (ci := 0) (i := 5) (q := 36) rfl igX0 (by first | assumption | rfl) (by decide) fl_X0_65 rfl dX0_advance_33 rfl ?_
        refine go_iald (j := j) (q := 37) (by first | assumption | rfl) (wr_eq (by omega)) (by omega) dX0_advance_36 rfl ?_
        refine go_aload_n (j := 0) (q := 38) rfl rfl dX0_advance_37 rfl ?_
        refine go_getR (C0 := RX0) (T := TX0) (N := 6) (ci := 0) (i := 0) (q := 41) rfl igX0 (by first | assumption | rfl) (by decide) fl_X0_21 rfl dX0_advance_38 rfl ?_
        refine go_getI (C0 := RX5) (T := TX5) (N := 2) (ci := 5) (i := 0) (q := 44) rfl igX5 (by first | assumption | rfl) (by decide) fl_X0_69 rfl dX0_advance_41 rfl ?_
        refine go_icmp_lt2 (q := 47) (t := 70) dX0_advance_44 (by decide) rfl (by omega) (fun c44 => ?_) (fun c44 => ?_)
        · have hcs : ∀ i, i ≤ j → w2 13 i = (cset cl j cm i : Int) ∧ cset cl j cm i < n := by
            intro i hi
            by_cases q : i = j
            · subst q; rw [cset_eq]; exact ⟨k3, by omega⟩
            · rw [cset_ne q, k4 i q]; exact v2 i (by omega)
          have hT2 : TB w2 1 n f := TB_same hT1 (fun k => k2 _ _ (by omega)) (fun k => k2 _ _ (by omega))
          have hD2 : DG w2 10 a c g s := DG_same hD1 (fun k => k2 _ _ (by omega)) (fun k => k2 _ _ (by omega))
          refine go_aload_n (j := 0) (q := 71) rfl rfl dX0_advance_70 rfl ?_
          refine go_callVz (as := [_]) (As := []) (rest := []) (n := 0) (q := 74) dX0_advance_71 lk_X0_74 (ci := 0) (N := 6) (T := TX0) rfl (by first | assumption | rfl) rfl rfl (by decide +kernel) rfl ⟨by decide, by decide⟩ ⟨rfl, rfl⟩ (Nat.le_of_ble_eq_true rfl) (ev_fits hT2 hD2 (j := j) (col := cset cl j cm) (by omega) k5 (fun k h => by rw [k2 _ _ (by omega)]; exact v5 k h) hcs) rfl (fun w71 h71 => ?_) (fun w71 h71 => ?_)
          · obtain ⟨rfl, h71⟩ := h71
            refine go_if_eqF (q := 77) (t := 105) dX0_advance_74 rfl (by decide) (by decide) ?_
            have h77 := hcs
            refine go_aload_n (j := 0) (q := 78) rfl rfl dX0_advance_77 rfl ?_
            refine go_getI (C0 := RX0) (T := TX0) (N := 6) (ci := 0) (i := 5) (q := 81) rfl igX0 (by first | assumption | rfl) (by decide) fl_X0_65 rfl dX0_advance_78 rfl ?_
            refine go_aload_n (j := 0) (q := 82) rfl rfl dX0_advance_81 rfl ?_
            refine go_getR (C0 := RX0) (T := TX0) (N := 6) (ci := 0) (i := 1) (q := 85) rfl igX0 (by first | assumption | rfl) (by decide) fl_X0_25 rfl dX0_advance_82 rfl ?_
            refine go_getI (C0 := RX1) (T := TX1) (N := 3) (ci := 1) (i := 0) (q := 88) rfl igX1 (by first | assumption | rfl) (by decide) fl_X0_41 rfl dX0_advance_85 rfl ?_
            refine go_iconst (q := 89) dX0_advance_88 rfl ?_
            refine go_isub (q := 90) dX0_advance_89 rfl ?_
            refine go_icmp_ne2 (q := 93) (t := 95) dX0_advance_90 (by decide) rfl (by omega) (fun c90 => ?_) (fun c90 => ?_)
            · refine go_aload_n (j := 0) (q := 96) rfl rfl dX0_advance_95 rfl ?_
              refine go_dup (q := 97) (fun _ z => by cases z) dX0_advance_96 rfl ?_
              refine go_getI (C0 := RX0) (T := TX0) (N := 6) (ci := 0) (i := 5) (q := 100) rfl igX0 (by first | assumption | rfl) (by decide) fl_X0_65 rfl dX0_advance_97 rfl ?_
              refine go_iconst (q := 101) dX0_advance_100 rfl ?_
              refine go_iadd (q := 102) dX0_advance_101 rfl ?_
              refine go_putI (C0 := RX0) (T := TX0) (N := 6) (ci := 0) (i := 5) (q := 105) rfl igX0 (by first | assumption | rfl) (by decide) fl_X0_65 rfl tyX0 tyX0_ok nmX0 rfl rfl dX0_advance_102 rfl ?_
              refine go_iinc (j := 1) (q := 108) (ls2 := [_, _]) rfl (by decide) rfl rfl dX0_advance_105 rfl ?_
              refine go_goto (q := 2) dX0_advance_108 (by decide) ?_
              first
              | (have ecm : cm = n := by omega
                 subst ecm
                 refine ih2 _ (by omega) (st + 1) _ _ j (cl (j - 1) + 1) cl (by omega) ⟨?_, by omega, ?_, ?_, ?_, ?_, ?_, ?_⟩ ?_ ?_ ?_ ?_ rfl
                 · rw [mup_eq, mup_ne (by omega)]; omega
                 · intro i h; rw [mup_ne (by omega), mup_ne (by omega), k4 i (by omega)]; exact v2 i (by omega)
                 · intro h
                   have z := v2 (j - 1) (by omega)
                   rw [mup_ne (by omega), mup_ne (by omega), k4 _ (by omega)]; omega
                 · intro i h h2
                   rw [mup_ne (by omega)]
                   by_cases q : i = j
                   · subst q; rw [mup_eq]
                   · rw [mup_ne (by omega), k4 i q]; exact v4 i (by omega) h2
                 · intro k h; rw [mup_ne (by omega), mup_ne (by omega), k2 _ _ (by omega)]; exact v5 k h
                 · intro k h h2; exact v6 k h (by omega)
                 · have := rem_back (n := cm) (a := a) (j := j) (col := cl) (by omega) (fun q => (v2 (j - 1) (by omega)).2); omega
                 · have := rem_back (n := cm) (a := a) (j := j) (col := cl) (by omega) (fun q => (v2 (j - 1) (by omega)).2); omega
                 · rw [pos_back (by omega)]; exact hp
                 · rw [pos_back (by omega)]; exact hg
                 · intro c k z1 z2; rw [mup_ne (Or.inl z1), mup_ne (Or.inl z2), k2 _ _ z2]; exact hf c k z1 z2)
              | (have hj1 : j + 1 < a := by omega
                 have erd := rem_down (n := n) (a := a) (j := j) (cn := cm) (col := cl) hj1 (by omega)
                 refine ih2 _ (by omega) (st + 1) _ _ (j + 2) 0 (cset cl j cm) (by omega) ⟨?_, by omega, ?_, ?_, ?_, ?_, ?_, by omega⟩ (by omega) ?_ ?_ ?_ rfl
                 · rw [mup_eq]; omega
                 · intro i h; rw [mup_ne (by omega)]; exact h77 i (by omega)
                 · intro _; rw [mup_ne (by omega), show j + 2 - 1 = j + 1 by omega, k4 _ (by omega)]; exact ⟨by rw [v4 (j + 1) (by omega) (by omega)]; rfl, by omega⟩
                 · intro i h h2; rw [mup_ne (by omega), k4 _ (by omega)]; exact v4 i (by omega) h2
                 · intro k h; rw [mup_ne (by omega), k2 _ _ (by omega)]; exact v5 k h
                 · intro k h h2
                   by_cases q : lastA g k = j
                   · exact h71 k h q
                   · exact metP_cgr (fun i hi => (cset_ne (by omega)).symm) (v6 k h (by omega))
                 · rw [pos_down hj1]; exact hp
                 · rw [pos_down hj1]; exact hg
                 · intro c k z1 z2; rw [mup_ne (Or.inl z1), k2 _ _ z2]; exact hf c k z1 z2)
              | (have ert := rem_try (n := n) (a := a) (j := j) (cn := cm) (col := cl) (by omega)
                 have egt := gap_try (n := n) (a := a) (c := c) (j := j) (cn := cm) (f := f) (g := g) (s := s) (col := cl) (by omega) (fun i h => (v2 i (by omega)).2) (by omega) h71
                 refine ih2 _ (by omega) (st + 1) _ _ (j + 1) (cm + 1) cl (by omega) ⟨by omega, by omega, ?_, ?_, ?_, ?_, v6, by omega⟩ (by omega) ?_ ?_ ?_ rfl
                 · intro i h; rw [k4 i (by omega)]; exact v2 i h
                 · intro _; rw [show j + 1 - 1 = j by omega, k3]; omega
                 · intro i h h2; rw [k4 i (by omega)]; exact v4 i h h2
                 · intro k h; rw [k2 _ _ (by omega)]; exact v5 k h
                 · refine Nat.le_trans hp ?_
                   unfold posW
                   rw [if_neg (by omega), if_neg (by omega)]
                   exact Nat.mul_le_mul_right _ (by omega)
                 · intro r h1 h2
                   rcases Nat.lt_or_ge r (posW n a (j + 1) cl cm) with q | q
                   · exact hg r h1 q
                   · exact egt r q h2
                 · intro c k z1 z2; rw [k2 _ _ z2]; exact hf c k z1 z2)
            · refine go_iconst (q := 94) dX0_advance_93 rfl ?_
              refine go_iret dX0_advance_94 ?_
              subst hK
              have eja : a = j + 1 := by omega
              subst eja
              have hcol : isColP c f g s (cset cl j cm) := by
                intro k hk
                have hgk := (hD1.2.2.2 k hk).2.1
                have b9 : lastA g k ≤ j := by unfold lastA; omega
                by_cases q : lastA g k = j
                · exact h71 k hk q
                · exact metP_cgr (fun i hi => (cset_ne (by omega)).symm) (v6 k hk (by omega))
              have hV : Vn n (cset cl j cm) (j + 1) = posW n (j + 1) (j + 1) cl cm := by
                unfold posW
                rw [if_neg (by omega), Nat.sub_self, Nat.pow_zero, Nat.mul_one, show j + 1 - 1 = j by omega]
                show Vn n _ j * n + cset cl j cm j = _
                rw [cset_eq, V_congr j (c2 := cl) (fun i hi => cset_ne (by omega))]
              have ert := rem_try (n := n) (a := j + 1) (j := j) (cn := cm) (col := cl) (by omega)
              have ecs : cset cl j cm (j + 1 - 1) = cm := by rw [show j + 1 - 1 = j by omega, cset_eq]
              have erm : remW n (j + 1) (j + 1) (cset cl j cm) (cm + 1) = remW n (j + 1) (j + 1) cl (cm + 1) := by
                unfold remW
                rw [if_neg (by omega), if_neg (by omega), show j + 1 - 1 = j by omega, Sr_congr j (c2 := cl) (fun i hi => cset_ne (by omega))]
              refine Or.inl ⟨rfl, ⟨cset cl j cm, fun i h => hcs i (by omega), hcol, by rw [hV]; exact hp, by rw [hV]; exact hg, ⟨by omega, by omega, fun i h => hcs i (by omega), fun _ => ?_, ?_, ?_, fun k h _ => hcol k h, by rw [ecs, erm]; omega⟩⟩, ?_⟩
              · rw [ecs, show j + 1 - 1 = j by omega, k3]; omega
              · intro i h h2; rw [k4 i (by omega)]; exact v4 i h h2
              · intro k h; rw [k2 _ _ (by omega)]; exact v5 k h
              · intro c k z1 z2; rw [k2 _ _ z2]; exact hf c k z1 z2
          · obtain ⟨rfl, h71⟩ := h71
            refine go_if_eqT (t := 105) dX0_advance_74 (by decide) (by decide) ?_
            refine go_iinc (j := 1) (q := 108) (ls2 := [_, _]) rfl (by decide) rfl rfl dX0_advance_105 rfl ?_
            refine go_goto (q := 2) dX0_advance_108 (by decide) ?_
            first
            | (have ecm : cm = n := by omega
               subst ecm
               refine ih2 _ (by omega) (st + 1) _ _ j (cl (j - 1) + 1) cl (by omega) ⟨?_, by omega, ?_, ?_, ?_, ?_, ?_, ?_⟩ ?_ ?_ ?_ ?_ rfl
               · rw [mup_eq, mup_ne (by omega)]; omega
               · intro i h; rw [mup_ne (by omega), mup_ne (by omega), k4 i (by omega)]; exact v2 i (by omega)
               · intro h
                 have z := v2 (j - 1) (by omega)
                 rw [mup_ne (by omega), mup_ne (by omega), k4 _ (by omega)]; omega
               · intro i h h2
                 rw [mup_ne (by omega)]
                 by_cases q : i = j
                 · subst q; rw [mup_eq]
                 · rw [mup_ne (by omega), k4 i q]; exact v4 i (by omega) h2
               · intro k h; rw [mup_ne (by omega), mup_ne (by omega), k2 _ _ (by omega)]; exact v5 k h
               · intro k h h2; exact v6 k h (by omega)
               · have := rem_back (n := cm) (a := a) (j := j) (col := cl) (by omega) (fun q => (v2 (j - 1) (by omega)).2); omega
               · have := rem_back (n := cm) (a := a) (j := j) (col := cl) (by omega) (fun q => (v2 (j - 1) (by omega)).2); omega
               · rw [pos_back (by omega)]; exact hp
               · rw [pos_back (by omega)]; exact hg
               · intro c k z1 z2; rw [mup_ne (Or.inl z1), mup_ne (Or.inl z2), k2 _ _ z2]; exact hf c k z1 z2)
            | (have hj1 : j + 1 < a := by omega
               have erd := rem_down (n := n) (a := a) (j := j) (cn := cm) (col := cl) hj1 (by omega)
               refine ih2 _ (by omega) (st + 1) _ _ (j + 2) 0 (cset cl j cm) (by omega) ⟨?_, by omega, ?_, ?_, ?_, ?_, ?_, by omega⟩ (by omega) ?_ ?_ ?_ rfl
               · rw [mup_eq]; omega
               · intro i h; rw [mup_ne (by omega)]; exact h77 i (by omega)
               · intro _; rw [mup_ne (by omega), show j + 2 - 1 = j + 1 by omega, k4 _ (by omega)]; exact ⟨by rw [v4 (j + 1) (by omega) (by omega)]; rfl, by omega⟩
               · intro i h h2; rw [mup_ne (by omega), k4 _ (by omega)]; exact v4 i (by omega) h2
               · intro k h; rw [mup_ne (by omega), k2 _ _ (by omega)]; exact v5 k h
               · intro k h h2
                 by_cases q : lastA g k = j
                 · exact h71 k h q
                 · exact metP_cgr (fun i hi => (cset_ne (by omega)).symm) (v6 k h (by omega))
               · rw [pos_down hj1]; exact hp
               · rw [pos_down hj1]; exact hg
               · intro c k z1 z2; rw [mup_ne (Or.inl z1), k2 _ _ z2]; exact hf c k z1 z2)
            | (have ert := rem_try (n := n) (a := a) (j := j) (cn := cm) (col := cl) (by omega)
               have egt := gap_try (n := n) (a := a) (c := c) (j := j) (cn := cm) (f := f) (g := g) (s := s) (col := cl) (by omega) (fun i h => (v2 i (by omega)).2) (by omega) h71
               refine ih2 _ (by omega) (st + 1) _ _ (j + 1) (cm + 1) cl (by omega) ⟨by omega, by omega, ?_, ?_, ?_, ?_, v6, by omega⟩ (by omega) ?_ ?_ ?_ rfl
               · intro i h; rw [k4 i (by omega)]; exact v2 i h
               · intro _; rw [show j + 1 - 1 = j by omega, k3]; omega
               · intro i h h2; rw [k4 i (by omega)]; exact v4 i h h2
               · intro k h; rw [k2 _ _ (by omega)]; exact v5 k h
               · refine Nat.le_trans hp ?_
                 unfold posW
                 rw [if_neg (by omega), if_neg (by omega)]
                 exact Nat.mul_le_mul_right _ (by omega)
               · intro r h1 h2
                 rcases Nat.lt_or_ge r (posW n a (j + 1) cl cm) with q | q
                 · exact hg r h1 q
                 · exact egt r q h2
               · intro c k z1 z2; rw [k2 _ _ z2]; exact hf c k z1 z2)
        · refine go_aload_n (j := 0) (q := 48) rfl rfl dX0_advance_47 rfl ?_
          refine go_getR (C0 := RX0) (T := TX0) (N := 6) (ci := 0) (i := 2) (q := 51) rfl igX0 (by first | assumption | rfl) (by decide) fl_X0_9 rfl dX0_advance_48 rfl ?_
          refine go_aload_n (j := 0) (q := 52) rfl rfl dX0_advance_51 rfl ?_
          refine go_getI (C0 := RX0) (T := TX0) (N := 6) (ci := 0) (i := 5) (q := 55) rfl igX0 (by first | assumption | rfl) (by decide) fl_X0_65 rfl dX0_advance_52 rfl ?_
          refine go_iconst (q := 56) dX0_advance_55 rfl ?_
          refine go_iast (j := j) (q := 57) (by first | assumption | rfl) (wr_eq (by omega)) (by omega) dX0_advance_56 rfl ?_
          refine go_aload_n (j := 0) (q := 58) rfl rfl dX0_advance_57 rfl ?_
          refine go_dup (q := 59) (fun _ z => by cases z) dX0_advance_58 rfl ?_
          refine go_getI (C0 := RX0) (T := TX0) (N := 6) (ci := 0) (i := 5) (q := 62) rfl igX0 (by first | assumption | rfl) (by decide) fl_X0_65 rfl dX0_advance_59 rfl ?_
          refine go_iconst (q := 63) dX0_advance_62 rfl ?_
          refine go_isub (q := 64) dX0_advance_63 rfl ?_
          refine go_putI (C0 := RX0) (T := TX0) (N := 6) (ci := 0) (i := 5) (q := 67) rfl igX0 (by first | assumption | rfl) (by decide) fl_X0_65 rfl tyX0 tyX0_ok nmX0 rfl rfl dX0_advance_64 rfl ?_
          refine go_goto (q := 105) dX0_advance_67 (by decide) ?_
          refine go_iinc (j := 1) (q := 108) (ls2 := [_, _]) rfl (by decide) rfl rfl dX0_advance_105 rfl ?_
          refine go_goto (q := 2) dX0_advance_108 (by decide) ?_
          first
          | (have ecm : cm = n := by omega
             subst ecm
             refine ih2 _ (by omega) (st + 1) _ _ j (cl (j - 1) + 1) cl (by omega) ⟨?_, by omega, ?_, ?_, ?_, ?_, ?_, ?_⟩ ?_ ?_ ?_ ?_ rfl
             · rw [mup_eq, mup_ne (by omega)]; omega
             · intro i h; rw [mup_ne (by omega), mup_ne (by omega), k4 i (by omega)]; exact v2 i (by omega)
             · intro h
               have z := v2 (j - 1) (by omega)
               rw [mup_ne (by omega), mup_ne (by omega), k4 _ (by omega)]; omega
             · intro i h h2
               rw [mup_ne (by omega)]
               by_cases q : i = j
               · subst q; rw [mup_eq]
               · rw [mup_ne (by omega), k4 i q]; exact v4 i (by omega) h2
             · intro k h; rw [mup_ne (by omega), mup_ne (by omega), k2 _ _ (by omega)]; exact v5 k h
             · intro k h h2; exact v6 k h (by omega)
             · have := rem_back (n := cm) (a := a) (j := j) (col := cl) (by omega) (fun q => (v2 (j - 1) (by omega)).2); omega
             · have := rem_back (n := cm) (a := a) (j := j) (col := cl) (by omega) (fun q => (v2 (j - 1) (by omega)).2); omega
             · rw [pos_back (by omega)]; exact hp
             · rw [pos_back (by omega)]; exact hg
             · intro c k z1 z2; rw [mup_ne (Or.inl z1), mup_ne (Or.inl z2), k2 _ _ z2]; exact hf c k z1 z2)
          | (have hj1 : j + 1 < a := by omega
             have erd := rem_down (n := n) (a := a) (j := j) (cn := cm) (col := cl) hj1 (by omega)
             refine ih2 _ (by omega) (st + 1) _ _ (j + 2) 0 (cset cl j cm) (by omega) ⟨?_, by omega, ?_, ?_, ?_, ?_, ?_, by omega⟩ (by omega) ?_ ?_ ?_ rfl
             · rw [mup_eq]; omega
             · intro i h; rw [mup_ne (by omega)]; exact h77 i (by omega)
             · intro _; rw [mup_ne (by omega), show j + 2 - 1 = j + 1 by omega, k4 _ (by omega)]; exact ⟨by rw [v4 (j + 1) (by omega) (by omega)]; rfl, by omega⟩
             · intro i h h2; rw [mup_ne (by omega), k4 _ (by omega)]; exact v4 i (by omega) h2
             · intro k h; rw [mup_ne (by omega), k2 _ _ (by omega)]; exact v5 k h
             · intro k h h2
               by_cases q : lastA g k = j
               · exact h71 k h q
               · exact metP_cgr (fun i hi => (cset_ne (by omega)).symm) (v6 k h (by omega))
             · rw [pos_down hj1]; exact hp
             · rw [pos_down hj1]; exact hg
             · intro c k z1 z2; rw [mup_ne (Or.inl z1), k2 _ _ z2]; exact hf c k z1 z2)
          | (have ert := rem_try (n := n) (a := a) (j := j) (cn := cm) (col := cl) (by omega)
             have egt := gap_try (n := n) (a := a) (c := c) (j := j) (cn := cm) (f := f) (g := g) (s := s) (col := cl) (by omega) (fun i h => (v2 i (by omega)).2) (by omega) h71
             refine ih2 _ (by omega) (st + 1) _ _ (j + 1) (cm + 1) cl (by omega) ⟨by omega, by omega, ?_, ?_, ?_, ?_, v6, by omega⟩ (by omega) ?_ ?_ ?_ rfl
             · intro i h; rw [k4 i (by omega)]; exact v2 i h
             · intro _; rw [show j + 1 - 1 = j by omega, k3]; omega
             · intro i h h2; rw [k4 i (by omega)]; exact v4 i h h2
             · intro k h; rw [k2 _ _ (by omega)]; exact v5 k h
             · refine Nat.le_trans hp ?_
               unfold posW
               rw [if_neg (by omega), if_neg (by omega)]
               exact Nat.mul_le_mul_right _ (by omega)
             · intro r h1 h2
               rcases Nat.lt_or_ge r (posW n a (j + 1) cl cm) with q | q
               · exact hg r h1 q
               · exact egt r q h2
             · intro c k z1 z2; rw [k2 _ _ z2]; exact hf c k z1 z2)
  exact lp2 _ 0 0 _ jn cn col rfl hW (by omega) (by omega) (fun r h1 h2 => by omega) (fun c k _ _ => rfl) rfl
end COL
