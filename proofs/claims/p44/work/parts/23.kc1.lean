def PXW (w : Mem) (W : WA) : Prop := STp w 1 10 W.1 ∧ HX w W.2.1.1 W.2.1.2 ∧ TX w 16 W.2.2.1 W.2.2.2
def XR (w : Mem) (r : Int × WA) : Int → Mem → Prop := fun v w1 => v = r.1 ∧ PXW w1 r.2 ∧ ∀ c k, 45 ≤ c → w1 c k = w c k
abbrev rng (x : Int) : Prop := -2147483648 ≤ x ∧ x < 2147483648
theorem STp_same {w w1 : Mem} {t d : Nat} {S : SS} (h : STp w t d S) (hs : ∀ c k, (c = t ∨ c = t + 1 ∨ c = d ∨ c = d + 1) → w1 c k = w c k) : STp w1 t d S :=
  ⟨TB_same h.1 (fun k => hs _ _ (by omega)) (fun k => hs _ _ (by omega)), DG_same h.2 (fun k => hs _ _ (by omega)) (fun k => hs _ _ (by omega))⟩
theorem HX_same {w w1 : Mem} {hc : Nat} {H : Nat → SS} (h : HX w hc H) (hs : ∀ c k, 18 ≤ c → c < 45 → w1 c k = w c k) : HX w1 hc H := by
  obtain ⟨h0, h6, nx, hnx, h1, hh⟩ := h
  refine ⟨by rw [hs _ _ (by omega) (by omega)]; exact h0, h6, nx, hnx, by rw [hs _ _ (by omega) (by omega)]; exact h1, fun i hi => ?_⟩
  have hs6 : slt nx hc i < 6 := Nat.mod_lt _ (by decide)
  exact STp_same (hh i hi) (fun c k z => hs _ _ (by omega) (by omega))
theorem TX_same {w w1 : Mem} {e l : Nat} {t : Nat → Nat} (h : TX w e l t) (hs : ∀ c k, (c = e ∨ c = e + 1) → w1 c k = w c k) : TX w1 e l t :=
  ⟨by rw [hs _ _ (by omega)]; exact h.1, h.2.1, fun i hi => by rw [hs _ _ (by omega)]; exact h.2.2 i hi⟩
theorem PXW_q {w w1 : Mem} {W : WA} (h : PXW w W) (hs : ∀ c k, (c = 1 ∨ c = 2 ∨ c = 10 ∨ c = 11 ∨ (16 ≤ c ∧ c < 45)) → w1 c k = w c k) : PXW w1 W :=
  ⟨STp_same h.1 (fun c k z => hs _ _ (by omega)), HX_same h.2.1 (fun c k z z2 => hs _ _ (by omega)), TX_same h.2.2 (fun c k z => hs _ _ (by omega))⟩
theorem PXW_T {w w1 : Mem} {W : WA} {n : Nat} {f : Nat → Nat → Nat} (h : PXW w W) (hT : TB w1 1 n f) (hs : ∀ c k, c ≠ 1 → c ≠ 2 → w1 c k = w c k) : PXW w1 (((n, f), W.1.2), W.2) :=
  ⟨⟨hT, DG_same h.1.2 (fun k => hs _ _ (by omega) (by omega)) (fun k => hs _ _ (by omega) (by omega))⟩, HX_same h.2.1 (fun c k z z2 => hs _ _ (by omega) (by omega)), TX_same h.2.2 (fun c k z => hs _ _ (by omega) (by omega))⟩
theorem PXW_D {w w1 : Mem} {W : WA} {a c : Nat} {g : Nat → Nat → Nat} {s : Nat → Int} (h : PXW w W) (hD : DG w1 10 a c g s) (hs : ∀ c k, c ≠ 10 → c ≠ 11 → w1 c k = w c k) : PXW w1 ((W.1.1, ((a, c), (g, s))), W.2) :=
  ⟨⟨TB_same h.1.1 (fun k => hs _ _ (by omega) (by omega)) (fun k => hs _ _ (by omega) (by omega)), hD⟩, HX_same h.2.1 (fun c k z z2 => hs _ _ (by omega) (by omega)), TX_same h.2.2 (fun c k z => hs _ _ (by omega) (by omega))⟩
theorem PXW_X {w w1 : Mem} {W : WA} {l : Nat} {t : Nat → Nat} (h : PXW w W) (hX : TX w1 16 l t) (hs : ∀ c k, c ≠ 16 → c ≠ 17 → w1 c k = w c k) : PXW w1 (txW W l t) :=
  ⟨STp_same h.1 (fun c k z => hs _ _ (by omega) (by omega)), HX_same h.2.1 (fun c k z z2 => hs _ _ (by omega) (by omega)), hX⟩
section KC1
variable {l : Launch} {D : va_G} {ck : Nat → ClassId} {ad : Nat → Nat} {w : Mem} {W : WA}
theorem ev_isSize {x : Int} (hx : rng x) : eX6_isSize l D ck ad shA [vI x] w (Pz (fun w1 => w = w1 ∧ (1 ≤ x ∧ x ≤ 6)) (fun w1 => w = w1 ∧ ¬ (1 ≤ x ∧ x ≤ 6))) := by
  refine ev_of_goK (own := RX6) (ls := [some (vI x)]) (by decide +kernel) rfl rfl (Nat.le_of_ble_eq_true rfl) rkZ ?_
  intro K hK
  refine go_iload_n (j := 0) (q := 1) rfl rfl dX6_isSize_0 rfl ?_
  refine go_iconst (q := 2) dX6_isSize_1 rfl ?_
  refine go_icmp_lt2 (q := 5) (t := 15) dX6_isSize_2 (by decide) rfl (by omega) (fun c2 => ?_) (fun c2 => ?_)
  · refine go_iconst (q := 16) dX6_isSize_15 rfl ?_
    refine go_iret dX6_isSize_16 ?_
    subst hK; first | exact Or.inl ⟨rfl, rfl, by omega⟩ | exact Or.inr ⟨rfl, rfl, by omega⟩
  · refine go_iload_n (j := 0) (q := 6) rfl rfl dX6_isSize_5 rfl ?_
    refine go_bipush (q := 8) rfl dX6_isSize_6 rfl ?_
    refine go_icmp_gt2 (q := 11) (t := 15) dX6_isSize_8 (by decide) rfl (by omega) (fun c8 => ?_) (fun c8 => ?_)
    · refine go_iconst (q := 16) dX6_isSize_15 rfl ?_
      refine go_iret dX6_isSize_16 ?_
      subst hK; first | exact Or.inl ⟨rfl, rfl, by omega⟩ | exact Or.inr ⟨rfl, rfl, by omega⟩
    · refine go_iconst (q := 12) dX6_isSize_11 rfl ?_
      refine go_goto (q := 16) dX6_isSize_12 (by decide) ?_
      refine go_iret dX6_isSize_16 ?_
      subst hK; first | exact Or.inl ⟨rfl, rfl, by omega⟩ | exact Or.inr ⟨rfl, rfl, by omega⟩
theorem ev_saveState (hP : PXW w W) : eX6_saveState l D ck ad shA [vR 0] w (Pv fun w1 => PXW w1 (psh W W.1) ∧ ∀ c k, c < 18 ∨ 45 ≤ c → w1 c k = w c k) := by
  refine ev_of_goK (own := RX6) (ls := [some (vR 0)]) (by decide +kernel) rfl rfl (Nat.le_of_ble_eq_true rfl) rkV ?_
  intro K hK
  refine go_aload_n (j := 0) (q := 1) rfl rfl dX6_saveState_0 rfl ?_
  refine go_getR (C0 := RX6) (T := TX6) (N := 7) (ci := 6) (i := 6) (q := 4) rfl igX6 (by first | assumption | rfl) (by decide) fl_X6_52 rfl dX6_saveState_1 rfl ?_
  refine go_aload_n (j := 0) (q := 5) rfl rfl dX6_saveState_4 rfl ?_
  refine go_getR (C0 := RX6) (T := TX6) (N := 7) (ci := 6) (i := 0) (q := 8) rfl igX6 (by first | assumption | rfl) (by decide) fl_X6_10 rfl dX6_saveState_5 rfl ?_
  refine go_aload_n (j := 0) (q := 9) rfl rfl dX6_saveState_8 rfl ?_
  refine go_getR (C0 := RX6) (T := TX6) (N := 7) (ci := 6) (i := 3) (q := 12) rfl igX6 (by first | assumption | rfl) (by decide) fl_X6_29 rfl dX6_saveState_9 rfl ?_
  refine go_callVv (as := [_, _, _]) (As := [_, _]) (rest := []) (n := 2) (q := 15) dX6_saveState_12 lk_X6_243 (ci := 3) (N := 4) (T := TX3) rfl (by first | assumption | rfl) rfl rfl (by decide +kernel) rfl ⟨by decide, by decide⟩ ⟨rfl, rfl⟩ (Nat.le_of_ble_eq_true rfl) (ev_save hP.2.1 hP.1) rfl (fun w12 h12 => ?_)
  obtain ⟨h12, f12⟩ := h12
  refine go_vret dX6_saveState_15 ?_
  subst hK
  exact ⟨rfl, ⟨STp_same hP.1 (fun c k z => f12 _ _ (by omega)), h12, TX_same hP.2.2 (fun c k z => f12 _ _ (by omega))⟩, f12⟩
theorem ev_makeLinear (hP : PXW w W) {s : Nat} {si p : Int} (es : si = s) (hs : 1 ≤ s ∧ s ≤ 6) (hp : -1 ≤ p ∧ p ≤ 5) : eX6_makeLinear l D ck ad shA [vR 0, vI si, vI p] w (Pi (XR w ((wN W : Int), psh W (tS W s (linF s p))))) := by
  refine ev_of_goK (own := RX6) (ls := [some (vR 0), some (vI si), some (vI p), none]) (by decide +kernel) rfl rfl (Nat.le_of_ble_eq_true rfl) rkI ?_
  intro K hK
  refine go_aload_n (j := 0) (q := 1) rfl rfl dX6_makeLinear_0 rfl ?_
  refine go_callVv (as := [_]) (As := []) (rest := []) (n := 0) (q := 4) dX6_makeLinear_1 lk_X6_64 (ci := 6) (N := 7) (T := TX6) rfl (by first | assumption | rfl) rfl rfl (by decide +kernel) rfl ⟨by decide, by decide⟩ ⟨rfl, rfl⟩ (Nat.le_of_ble_eq_true rfl) (ev_saveState hP) rfl (fun w1 h1 => ?_)
  obtain ⟨h1, f1⟩ := h1
  refine go_aload_n (j := 0) (q := 5) rfl rfl dX6_makeLinear_4 rfl ?_
  refine go_getR (C0 := RX6) (T := TX6) (N := 7) (ci := 6) (i := 0) (q := 8) rfl igX6 (by first | assumption | rfl) (by decide) fl_X6_10 rfl dX6_makeLinear_5 rfl ?_
  refine go_getI (C0 := RX5) (T := TX5) (N := 2) (ci := 5) (i := 0) (q := 11) rfl igX5 (by first | assumption | rfl) (by decide) fl_X6_71 rfl dX6_makeLinear_8 rfl ?_
  refine go_istore_n (j := 3) (q := 12) (ls2 := [_, _, _, _]) rfl (by decide) rfl rfl dX6_makeLinear_11 rfl ?_
  refine go_aload_n (j := 0) (q := 13) rfl rfl dX6_makeLinear_12 rfl ?_
  refine go_getR (C0 := RX6) (T := TX6) (N := 7) (ci := 6) (i := 0) (q := 16) rfl igX6 (by first | assumption | rfl) (by decide) fl_X6_10 rfl dX6_makeLinear_13 rfl ?_
  refine go_iload_n (j := 1) (q := 17) rfl rfl dX6_makeLinear_16 rfl ?_
  refine go_iload_n (j := 2) (q := 18) rfl rfl dX6_makeLinear_17 rfl ?_
  refine go_callVv (as := [_, _, _]) (As := [_, _]) (rest := []) (n := 2) (q := 21) dX6_makeLinear_18 lk_X6_240 (ci := 5) (N := 2) (T := TX5) rfl (by first | assumption | rfl) rfl rfl (by decide +kernel) rfl ⟨by decide, by decide⟩ ⟨rfl, rfl⟩ (Nat.le_of_ble_eq_true rfl) (ev_fillLinear rfl rfl es hs hp) rfl (fun w18 h18 => ?_)
  obtain ⟨h18, f18⟩ := h18
  refine go_iload_n (j := 3) (q := 22) rfl rfl dX6_makeLinear_21 rfl ?_
  refine go_iret dX6_makeLinear_22 ?_
  subst hK
  exact ⟨_, rfl, h1.1.1.1, PXW_T h1 h18 f18, fun c k z => by rw [f18 _ _ (by omega) (by omega)]; exact f1 _ _ (Or.inr z)⟩
theorem ex0 (hP : PXW w W) {x : Int} (hx : rng x) : eX6_trivial l D ck ad shA [vR 0, vI x] w (Pi (XR w (op0 W x))) := by
  refine ev_of_goK (own := RX6) (ls := [some (vR 0), some (vI x)]) (by decide +kernel) rfl rfl (Nat.le_of_ble_eq_true rfl) rkI ?_
  intro K hK
  refine go_iload_n (j := 1) (q := 1) rfl rfl dX6_trivial_0 rfl ?_
  refine go_callSz (as := [_]) (rest := []) (n := 1) (q := 4) dX6_trivial_1 lk_X6_56 rfl (by decide +kernel) rfl ⟨by decide, by decide⟩ ⟨rfl, rfl⟩ (Nat.le_of_ble_eq_true rfl) (ev_isSize hx) rfl (fun w1 h1 => ?_) (fun w1 h1 => ?_)
  · obtain ⟨rfl, h1⟩ := h1
    refine go_if_eqF (q := 7) (t := 16) dX6_trivial_4 rfl (by decide) (by decide) ?_
    refine go_aload_n (j := 0) (q := 8) rfl rfl dX6_trivial_7 rfl ?_
    refine go_iload_n (j := 1) (q := 9) rfl rfl dX6_trivial_8 rfl ?_
    refine go_iconst (q := 10) dX6_trivial_9 rfl ?_
    refine go_callVi (as := [_, _, _]) (As := [_, _]) (rest := []) (n := 2) (q := 13) dX6_trivial_10 lk_X6_60 (ci := 6) (N := 7) (T := TX6) rfl (by first | assumption | rfl) rfl rfl (by decide +kernel) rfl ⟨by decide, by decide⟩ ⟨rfl, rfl⟩ (Nat.le_of_ble_eq_true rfl) (ev_makeLinear hP (s := x.toNat) (by omega) (by omega) (by omega)) rfl (fun x10 w10 h10 => ?_)
    skip
    refine go_goto (q := 18) dX6_trivial_13 (by decide) ?_
    refine go_iret dX6_trivial_18 ?_
    subst hK
    unfold op0
    first
    | (rw [cif_t (by omega)]; exact ⟨_, rfl, h10⟩)
    | (rw [cif_f (by omega)]; exact ⟨_, rfl, rfl, hP, fun c k _ => rfl⟩)
  · obtain ⟨rfl, h1⟩ := h1
    refine go_if_eqT (t := 16) dX6_trivial_4 (by decide) (by decide) ?_
    refine go_bipush (q := 18) rfl dX6_trivial_16 rfl ?_
    refine go_iret dX6_trivial_18 ?_
    subst hK
    unfold op0
    first
    | (rw [cif_t (by omega)]; exact ⟨_, rfl, h10⟩)
    | (rw [cif_f (by omega)]; exact ⟨_, rfl, rfl, hP, fun c k _ => rfl⟩)
theorem ex1 (hP : PXW w W) {x : Int} (hx : rng x) : eX6_dihedral l D ck ad shA [vR 0, vI x] w (Pi (XR w (op1 W x))) := by
  refine ev_of_goK (own := RX6) (ls := [some (vR 0), some (vI x)]) (by decide +kernel) rfl rfl (Nat.le_of_ble_eq_true rfl) rkI ?_
  intro K hK
  refine go_iload_n (j := 1) (q := 1) rfl rfl dX6_dihedral_0 rfl ?_
  refine go_callSz (as := [_]) (rest := []) (n := 1) (q := 4) dX6_dihedral_1 lk_X6_56 rfl (by decide +kernel) rfl ⟨by decide, by decide⟩ ⟨rfl, rfl⟩ (Nat.le_of_ble_eq_true rfl) (ev_isSize hx) rfl (fun w1 h1 => ?_) (fun w1 h1 => ?_)
  · obtain ⟨rfl, h1⟩ := h1
    refine go_if_eqF (q := 7) (t := 16) dX6_dihedral_4 rfl (by decide) (by decide) ?_
    refine go_aload_n (j := 0) (q := 8) rfl rfl dX6_dihedral_7 rfl ?_
    refine go_iload_n (j := 1) (q := 9) rfl rfl dX6_dihedral_8 rfl ?_
    refine go_iconst (q := 10) dX6_dihedral_9 rfl ?_
    refine go_callVi (as := [_, _, _]) (As := [_, _]) (rest := []) (n := 2) (q := 13) dX6_dihedral_10 lk_X6_60 (ci := 6) (N := 7) (T := TX6) rfl (by first | assumption | rfl) rfl rfl (by decide +kernel) rfl ⟨by decide, by decide⟩ ⟨rfl, rfl⟩ (Nat.le_of_ble_eq_true rfl) (ev_makeLinear hP (s := x.toNat) (by omega) (by omega) (by omega)) rfl (fun x10 w10 h10 => ?_)
    skip
    refine go_goto (q := 18) dX6_dihedral_13 (by decide) ?_
    refine go_iret dX6_dihedral_18 ?_
    subst hK
    unfold op1
    first
    | (rw [cif_t (by omega)]; exact ⟨_, rfl, h10⟩)
    | (rw [cif_f (by omega)]; exact ⟨_, rfl, rfl, hP, fun c k _ => rfl⟩)
  · obtain ⟨rfl, h1⟩ := h1
    refine go_if_eqT (t := 16) dX6_dihedral_4 (by decide) (by decide) ?_
    refine go_bipush (q := 18) rfl dX6_dihedral_16 rfl ?_
    refine go_iret dX6_dihedral_18 ?_
    subst hK
    unfold op1
    first
    | (rw [cif_t (by omega)]; exact ⟨_, rfl, h10⟩)
    | (rw [cif_f (by omega)]; exact ⟨_, rfl, rfl, hP, fun c k _ => rfl⟩)
theorem ex2 (hP : PXW w W) {x y : Int} (hx : rng x) (hy : rng y) : eX6_linear l D ck ad shA [vR 0, vI x, vI y] w (Pi (XR w (op2 W x y))) := by
  refine ev_of_goK (own := RX6) (ls := [some (vR 0), some (vI x), some (vI y)]) (by decide +kernel) rfl rfl (Nat.le_of_ble_eq_true rfl) rkI ?_
  intro K hK
  refine go_iload_n (j := 1) (q := 1) rfl rfl dX6_linear_0 rfl ?_
  refine go_callSz (as := [_]) (rest := []) (n := 1) (q := 4) dX6_linear_1 lk_X6_56 rfl (by decide +kernel) rfl ⟨by decide, by decide⟩ ⟨rfl, rfl⟩ (Nat.le_of_ble_eq_true rfl) (ev_isSize hx) rfl (fun w1 h1 => ?_) (fun w1 h1 => ?_)
  · obtain ⟨rfl, h1⟩ := h1
    refine go_if_eqF (q := 7) (t := 16) dX6_linear_4 rfl (by decide) (by decide) ?_
    refine go_iload_n (j := 2) (q := 8) rfl rfl dX6_linear_7 rfl ?_
    refine go_if_lt2 (q := 11) (t := 16) dX6_linear_8 (by decide) rfl (by omega) (fun c8 => ?_) (fun c8 => ?_)
    · refine go_bipush (q := 18) rfl dX6_linear_16 rfl ?_
      refine go_iret dX6_linear_18 ?_
      subst hK
      unfold op2
      first
      | (rw [cif_t (by omega)]; exact ⟨_, rfl, h22⟩)
      | (rw [cif_f (by omega)]; exact ⟨_, rfl, rfl, hP, fun c k _ => rfl⟩)
    · refine go_iload_n (j := 2) (q := 12) rfl rfl dX6_linear_11 rfl ?_
      refine go_iconst (q := 13) dX6_linear_12 rfl ?_
      refine go_icmp_le2 (q := 16) (t := 19) dX6_linear_13 (by decide) rfl (by omega) (fun c13 => ?_) (fun c13 => ?_)
      · refine go_aload_n (j := 0) (q := 20) rfl rfl dX6_linear_19 rfl ?_
        refine go_iload_n (j := 1) (q := 21) rfl rfl dX6_linear_20 rfl ?_
        refine go_iload_n (j := 2) (q := 22) rfl rfl dX6_linear_21 rfl ?_
        refine go_callVi (as := [_, _, _]) (As := [_, _]) (rest := []) (n := 2) (q := 25) dX6_linear_22 lk_X6_60 (ci := 6) (N := 7) (T := TX6) rfl (by first | assumption | rfl) rfl rfl (by decide +kernel) rfl ⟨by decide, by decide⟩ ⟨rfl, rfl⟩ (Nat.le_of_ble_eq_true rfl) (ev_makeLinear hP (s := x.toNat) (by omega) (by omega) (by omega)) rfl (fun x22 w22 h22 => ?_)
        skip
        refine go_iret dX6_linear_25 ?_
        subst hK
        unfold op2
        first
        | (rw [cif_t (by omega)]; exact ⟨_, rfl, h22⟩)
        | (rw [cif_f (by omega)]; exact ⟨_, rfl, rfl, hP, fun c k _ => rfl⟩)
      · refine go_bipush (q := 18) rfl dX6_linear_16 rfl ?_
        refine go_iret dX6_linear_18 ?_
        subst hK
        unfold op2
        first
        | (rw [cif_t (by omega)]; exact ⟨_, rfl, h22⟩)
        | (rw [cif_f (by omega)]; exact ⟨_, rfl, rfl, hP, fun c k _ => rfl⟩)
  · obtain ⟨rfl, h1⟩ := h1
    refine go_if_eqT (t := 16) dX6_linear_4 (by decide) (by decide) ?_
    refine go_bipush (q := 18) rfl dX6_linear_16 rfl ?_
    refine go_iret dX6_linear_18 ?_
    subst hK
    unfold op2
    first
    | (rw [cif_t (by omega)]; exact ⟨_, rfl, h22⟩)
    | (rw [cif_f (by omega)]; exact ⟨_, rfl, rfl, hP, fun c k _ => rfl⟩)
theorem ex3 (hP : PXW w W) {x : Int} (hx : rng x) : eX6_transpositions l D ck ad shA [vR 0, vI x] w (Pi (XR w (op3 W x))) := by
  refine ev_of_goK (own := RX6) (ls := [some (vR 0), some (vI x)]) (by decide +kernel) rfl rfl (Nat.le_of_ble_eq_true rfl) rkI ?_
  intro K hK
  refine go_iload_n (j := 1) (q := 1) rfl rfl dX6_transpositions_0 rfl ?_
  refine go_iconst (q := 2) dX6_transpositions_1 rfl ?_
  refine go_icmp_lt2 (q := 5) (t := 10) dX6_transpositions_2 (by decide) rfl (by omega) (fun c2 => ?_) (fun c2 => ?_)
  · refine go_bipush (q := 12) rfl dX6_transpositions_10 rfl ?_
    refine go_iret dX6_transpositions_12 ?_
    subst hK
    unfold op3; rw [cif_f (by omega)]; exact ⟨_, rfl, rfl, hP, fun c k _ => rfl⟩
  · refine go_iload_n (j := 1) (q := 6) rfl rfl dX6_transpositions_5 rfl ?_
    refine go_iconst (q := 7) dX6_transpositions_6 rfl ?_
    refine go_icmp_le2 (q := 10) (t := 13) dX6_transpositions_7 (by decide) rfl (by omega) (fun c7 => ?_) (fun c7 => ?_)
    · refine go_aload_n (j := 0) (q := 14) rfl rfl dX6_transpositions_13 rfl ?_
      refine go_callVv (as := [_]) (As := []) (rest := []) (n := 0) (q := 17) dX6_transpositions_14 lk_X6_64 (ci := 6) (N := 7) (T := TX6) rfl (by first | assumption | rfl) rfl rfl (by decide +kernel) rfl ⟨by decide, by decide⟩ ⟨rfl, rfl⟩ (Nat.le_of_ble_eq_true rfl) (ev_saveState hP) rfl (fun w14 h14 => ?_)
      obtain ⟨h14, f14⟩ := h14
      refine go_aload_n (j := 0) (q := 18) rfl rfl dX6_transpositions_17 rfl ?_
      refine go_getR (C0 := RX6) (T := TX6) (N := 7) (ci := 6) (i := 0) (q := 21) rfl igX6 (by first | assumption | rfl) (by decide) fl_X6_10 rfl dX6_transpositions_18 rfl ?_
      refine go_iload_n (j := 1) (q := 22) rfl rfl dX6_transpositions_21 rfl ?_
      refine go_callVv (as := [_, _]) (As := [_]) (rest := []) (n := 1) (q := 25) dX6_transpositions_22 lk_X6_67 (ci := 5) (N := 2) (T := TX5) rfl (by first | assumption | rfl) rfl rfl (by decide +kernel) rfl ⟨by decide, by decide⟩ ⟨rfl, rfl⟩ (Nat.le_of_ble_eq_true rfl) (ev_fillTranspositions rfl rfl (p := x.toNat) (by omega) (by omega)) rfl (fun w22 h22 => ?_)
      obtain ⟨h22, f22⟩ := h22
      refine go_aload_n (j := 0) (q := 26) rfl rfl dX6_transpositions_25 rfl ?_
      refine go_getR (C0 := RX6) (T := TX6) (N := 7) (ci := 6) (i := 0) (q := 29) rfl igX6 (by first | assumption | rfl) (by decide) fl_X6_10 rfl dX6_transpositions_26 rfl ?_
      refine go_getI (C0 := RX5) (T := TX5) (N := 2) (ci := 5) (i := 0) (q := 32) rfl igX5 (by first | assumption | rfl) (by decide) fl_X6_71 rfl dX6_transpositions_29 rfl ?_
      refine go_iret dX6_transpositions_32 ?_
      subst hK
      unfold op3; rw [cif_t (by omega)]; exact ⟨_, rfl, h22.1, PXW_T h14 h22 f22, fun c k z => by rw [f22 _ _ (by omega) (by omega)]; exact f14 _ _ (Or.inr z)⟩
    · refine go_bipush (q := 12) rfl dX6_transpositions_10 rfl ?_
      refine go_iret dX6_transpositions_12 ?_
      subst hK
      unfold op3; rw [cif_f (by omega)]; exact ⟨_, rfl, rfl, hP, fun c k _ => rfl⟩
theorem ex4 (hP : PXW w W) {x y z : Int} (hx : rng x) (hy : rng y) (hz : rng z) : eX6_setProduct l D ck ad shA [vR 0, vI x, vI y, vI z] w (Pi (XR w (op4 W x y z))) := by
  have hT : TB w 1 (wN W) (wF W) := hP.1.1
  refine ev_of_goK (own := RX6) (ls := [some (vR 0), some (vI x), some (vI y), some (vI z), none]) (by decide +kernel) rfl rfl (Nat.le_of_ble_eq_true rfl) rkI ?_
  intro K hK
  refine go_aload_n (j := 0) (q := 1) rfl rfl dX6_setProduct_0 rfl ?_
  refine go_getR (C0 := RX6) (T := TX6) (N := 7) (ci := 6) (i := 0) (q := 4) rfl igX6 (by first | assumption | rfl) (by decide) fl_X6_10 rfl dX6_setProduct_1 rfl ?_
  refine go_iload_n (j := 1) (q := 5) rfl rfl dX6_setProduct_4 rfl ?_
  refine go_callVz (as := [_, _]) (As := [_]) (rest := []) (n := 1) (q := 8) dX6_setProduct_5 lk_X6_75 (ci := 5) (N := 2) (T := TX5) rfl (by first | assumption | rfl) rfl rfl (by decide +kernel) rfl ⟨by decide, by decide⟩ ⟨rfl, rfl⟩ (Nat.le_of_ble_eq_true rfl) (ev_has rfl hT hx) rfl (fun w5 h5 => ?_) (fun w5 h5 => ?_)
  · obtain ⟨rfl, h5⟩ := h5
    refine go_if_eqF (q := 11) (t := 33) dX6_setProduct_8 rfl (by decide) (by decide) ?_
    refine go_aload_n (j := 0) (q := 12) rfl rfl dX6_setProduct_11 rfl ?_
    refine go_getR (C0 := RX6) (T := TX6) (N := 7) (ci := 6) (i := 0) (q := 15) rfl igX6 (by first | assumption | rfl) (by decide) fl_X6_10 rfl dX6_setProduct_12 rfl ?_
    refine go_iload_n (j := 2) (q := 16) rfl rfl dX6_setProduct_15 rfl ?_
    refine go_callVz (as := [_, _]) (As := [_]) (rest := []) (n := 1) (q := 19) dX6_setProduct_16 lk_X6_75 (ci := 5) (N := 2) (T := TX5) rfl (by first | assumption | rfl) rfl rfl (by decide +kernel) rfl ⟨by decide, by decide⟩ ⟨rfl, rfl⟩ (Nat.le_of_ble_eq_true rfl) (ev_has rfl hT hy) rfl (fun w16 h16 => ?_) (fun w16 h16 => ?_)
    · obtain ⟨rfl, h16⟩ := h16
      refine go_if_eqF (q := 22) (t := 33) dX6_setProduct_19 rfl (by decide) (by decide) ?_
      refine go_aload_n (j := 0) (q := 23) rfl rfl dX6_setProduct_22 rfl ?_
      refine go_getR (C0 := RX6) (T := TX6) (N := 7) (ci := 6) (i := 0) (q := 26) rfl igX6 (by first | assumption | rfl) (by decide) fl_X6_10 rfl dX6_setProduct_23 rfl ?_
      refine go_iload_n (j := 3) (q := 27) rfl rfl dX6_setProduct_26 rfl ?_
      refine go_callVz (as := [_, _]) (As := [_]) (rest := []) (n := 1) (q := 30) dX6_setProduct_27 lk_X6_75 (ci := 5) (N := 2) (T := TX5) rfl (by first | assumption | rfl) rfl rfl (by decide +kernel) rfl ⟨by decide, by decide⟩ ⟨rfl, rfl⟩ (Nat.le_of_ble_eq_true rfl) (ev_has rfl hT hz) rfl (fun w27 h27 => ?_) (fun w27 h27 => ?_)
      · obtain ⟨rfl, h27⟩ := h27
        refine go_if_neT (t := 35) dX6_setProduct_30 (by decide) (by decide) ?_
        refine go_aload_n (j := 0) (q := 36) rfl rfl dX6_setProduct_35 rfl ?_
        refine go_callVv (as := [_]) (As := []) (rest := []) (n := 0) (q := 39) dX6_setProduct_36 lk_X6_64 (ci := 6) (N := 7) (T := TX6) rfl (by first | assumption | rfl) rfl rfl (by decide +kernel) rfl ⟨by decide, by decide⟩ ⟨rfl, rfl⟩ (Nat.le_of_ble_eq_true rfl) (ev_saveState hP) rfl (fun w36 h36 => ?_)
        obtain ⟨h36, f36⟩ := h36
        have hT2 : TB w36 1 (wN W) (wF W) := h36.1.1
        refine go_aload_n (j := 0) (q := 40) rfl rfl dX6_setProduct_39 rfl ?_
        refine go_getR (C0 := RX6) (T := TX6) (N := 7) (ci := 6) (i := 0) (q := 43) rfl igX6 (by first | assumption | rfl) (by decide) fl_X6_10 rfl dX6_setProduct_40 rfl ?_
        refine go_iload_n (j := 1) (q := 44) rfl rfl dX6_setProduct_43 rfl ?_
        refine go_iload_n (j := 2) (q := 45) rfl rfl dX6_setProduct_44 rfl ?_
        refine go_callVi (as := [_, _, _]) (As := [_, _]) (rest := []) (n := 2) (q := 48) dX6_setProduct_45 lk_X6_78 (ci := 5) (N := 2) (T := TX5) rfl (by first | assumption | rfl) rfl rfl (by decide +kernel) rfl ⟨by decide, by decide⟩ ⟨rfl, rfl⟩ (Nat.le_of_ble_eq_true rfl) (ev_times rfl rfl hT2 (x := x.toNat) (y := y.toNat) (by omega) (by omega) (by omega) (by omega)) rfl (fun x45 w45 h45 => ?_)
        obtain ⟨rfl, rfl⟩ := h45
        refine go_istore (j := 4) (q := 50) (ls2 := [_, _, _, _, _]) (by decide) rfl rfl dX6_setProduct_48 rfl ?_
        refine go_aload_n (j := 0) (q := 51) rfl rfl dX6_setProduct_50 rfl ?_
        refine go_getR (C0 := RX6) (T := TX6) (N := 7) (ci := 6) (i := 0) (q := 54) rfl igX6 (by first | assumption | rfl) (by decide) fl_X6_10 rfl dX6_setProduct_51 rfl ?_
        refine go_iload_n (j := 1) (q := 55) rfl rfl dX6_setProduct_54 rfl ?_
        refine go_iload_n (j := 2) (q := 56) rfl rfl dX6_setProduct_55 rfl ?_
        refine go_iload_n (j := 3) (q := 57) rfl rfl dX6_setProduct_56 rfl ?_
        refine go_callVv (as := [_, _, _, _]) (As := [_, _, _]) (rest := []) (n := 3) (q := 60) dX6_setProduct_57 lk_X6_81 (ci := 5) (N := 2) (T := TX5) rfl (by first | assumption | rfl) rfl rfl (by decide +kernel) rfl ⟨by decide, by decide⟩ ⟨rfl, rfl⟩ (Nat.le_of_ble_eq_true rfl) (ev_put rfl rfl (x := x.toNat) (y := y.toNat) (by omega) (by omega) (by have := hT2.2.1; omega) (by have := hT2.2.1; omega)) rfl (fun w57 h57 => ?_)
        subst h57
        refine go_iload (j := 4) (q := 62) rfl dX6_setProduct_60 rfl ?_
        refine go_iret dX6_setProduct_62 ?_
        subst hK
        unfold op4
        rw [cif_t (by omega)]
        have hTn : TB (mup w36 2 (6 * x.toNat + y.toNat) z) 1 (wN W) (upF (wF W) x.toNat y.toNat z.toNat) := by
          refine ⟨by rw [mup_ne (by omega)]; exact hT2.1, hT2.2.1, fun i j hi hj => ?_⟩
          have hb := hT2.2.1
          unfold upF
          by_cases q : i = x.toNat ∧ j = y.toNat
          · rw [if_pos q, q.1, q.2, mup_eq]; omega
          · rw [if_neg q, mup_ne (by omega)]; exact hT2.2.2 i j hi hj
        exact ⟨_, rfl, rfl, PXW_T h36 hTn (fun c k z1 z2 => mup_ne (Or.inl z2)), fun c k z1 => by rw [mup_ne (by omega)]; exact f36 _ _ (Or.inr z1)⟩
      · obtain ⟨rfl, h27⟩ := h27
        refine go_if_neF (q := 33) (t := 35) dX6_setProduct_30 rfl (by decide) (by decide) ?_
        refine go_iconst (q := 34) dX6_setProduct_33 rfl ?_
        refine go_iret dX6_setProduct_34 ?_
        subst hK
        unfold op4
        rw [cif_f (by omega)]
        exact ⟨_, rfl, rfl, hP, fun c k _ => rfl⟩
    · obtain ⟨rfl, h16⟩ := h16
      refine go_if_eqT (t := 33) dX6_setProduct_19 (by decide) (by decide) ?_
      refine go_iconst (q := 34) dX6_setProduct_33 rfl ?_
      refine go_iret dX6_setProduct_34 ?_
      subst hK
      unfold op4
      rw [cif_f (by omega)]
      exact ⟨_, rfl, rfl, hP, fun c k _ => rfl⟩
  · obtain ⟨rfl, h5⟩ := h5
    refine go_if_eqT (t := 33) dX6_setProduct_8 (by decide) (by decide) ?_
    refine go_iconst (q := 34) dX6_setProduct_33 rfl ?_
    refine go_iret dX6_setProduct_34 ?_
    subst hK
    unfold op4
    rw [cif_f (by omega)]
    exact ⟨_, rfl, rfl, hP, fun c k _ => rfl⟩
theorem ex5 (hP : PXW w W) : eX6_invert l D ck ad shA [vR 0] w (Pi (XR w (op5 W))) := by
  have hT : TB w 1 (wN W) (wF W) := hP.1.1
  refine ev_of_goK (own := RX6) (ls := [some (vR 0)]) (by decide +kernel) rfl rfl (Nat.le_of_ble_eq_true rfl) rkI ?_
  intro K hK
  refine go_aload_n (j := 0) (q := 1) rfl rfl dX6_invert_0 rfl ?_
  refine go_getR (C0 := RX6) (T := TX6) (N := 7) (ci := 6) (i := 0) (q := 4) rfl igX6 (by first | assumption | rfl) (by decide) fl_X6_10 rfl dX6_invert_1 rfl ?_
  refine go_callVi (as := [_]) (As := []) (rest := []) (n := 0) (q := 7) dX6_invert_4 lk_X6_85 (ci := 5) (N := 2) (T := TX5) rfl (by first | assumption | rfl) rfl rfl (by decide +kernel) rfl ⟨by decide, by decide⟩ ⟨rfl, rfl⟩ (Nat.le_of_ble_eq_true rfl) (ev_firstNoPermutation rfl rfl hT) rfl (fun x4 w4 h4 => ?_)
  obtain ⟨h4, rfl⟩ := h4
  refine go_bipush (q := 9) rfl dX6_invert_7 rfl ?_
  refine go_icmp_eq2 (q := 12) (t := 15) dX6_invert_9 (by decide) rfl (by rcases h4 with ⟨z, z1, z2, z3, z4⟩ | ⟨z1, z2⟩ <;> (have := hT.2.1; omega)) (fun c9 => ?_) (fun c9 => ?_)
  · refine go_aload_n (j := 0) (q := 16) rfl rfl dX6_invert_15 rfl ?_
    refine go_callVv (as := [_]) (As := []) (rest := []) (n := 0) (q := 19) dX6_invert_16 lk_X6_64 (ci := 6) (N := 7) (T := TX6) rfl (by first | assumption | rfl) rfl rfl (by decide +kernel) rfl ⟨by decide, by decide⟩ ⟨rfl, rfl⟩ (Nat.le_of_ble_eq_true rfl) (ev_saveState hP) rfl (fun w16 h16 => ?_)
    obtain ⟨h16, f16⟩ := h16
    have hT2 : TB w16 1 (wN W) (wF W) := h16.1.1
    have hall : ∀ y, y < wN W → prm (wN W) (wF W) y := by
      rcases h4 with ⟨z, z1, z2, z3, z4⟩ | ⟨z1, z2⟩
      · omega
      · exact fun y hy => Classical.not_not.mp (z2 y hy)
    refine go_aload_n (j := 0) (q := 20) rfl rfl dX6_invert_19 rfl ?_
    refine go_getR (C0 := RX6) (T := TX6) (N := 7) (ci := 6) (i := 1) (q := 23) rfl igX6 (by first | assumption | rfl) (by decide) fl_X6_16 rfl dX6_invert_20 rfl ?_
    refine go_aload_n (j := 0) (q := 24) rfl rfl dX6_invert_23 rfl ?_
    refine go_getR (C0 := RX6) (T := TX6) (N := 7) (ci := 6) (i := 0) (q := 27) rfl igX6 (by first | assumption | rfl) (by decide) fl_X6_10 rfl dX6_invert_24 rfl ?_
    refine go_callVv (as := [_, _]) (As := [_]) (rest := []) (n := 1) (q := 30) dX6_invert_27 lk_X6_89 (ci := 5) (N := 2) (T := TX5) rfl (by first | assumption | rfl) rfl rfl (by decide +kernel) rfl ⟨by decide, by decide⟩ ⟨rfl, rfl⟩ (Nat.le_of_ble_eq_true rfl) (ev_copyT (t := 3) (u := 1) rfl rfl rfl rfl (by omega)) rfl (fun w27 h27 => ?_)
    obtain ⟨a27, b27, f27⟩ := h27
    have hTs : TB w27 3 (wN W) (wF W) := TB_copy hT2 a27 b27
    have e0 : w27 1 0 = (wN W : Int) := by rw [f27 _ _ (by omega) (by omega)]; exact hT2.1
    have h27 : PXW w27 (psh W W.1) := PXW_q h16 (fun c k z => f27 _ _ (by omega) (by omega))
    refine go_aload_n (j := 0) (q := 31) rfl rfl dX6_invert_30 rfl ?_
    refine go_getR (C0 := RX6) (T := TX6) (N := 7) (ci := 6) (i := 0) (q := 34) rfl igX6 (by first | assumption | rfl) (by decide) fl_X6_10 rfl dX6_invert_31 rfl ?_
    refine go_aload_n (j := 0) (q := 35) rfl rfl dX6_invert_34 rfl ?_
    refine go_getR (C0 := RX6) (T := TX6) (N := 7) (ci := 6) (i := 1) (q := 38) rfl igX6 (by first | assumption | rfl) (by decide) fl_X6_16 rfl dX6_invert_35 rfl ?_
    refine go_callVi (as := [_, _]) (As := [_]) (rest := []) (n := 1) (q := 41) dX6_invert_38 lk_X6_93 (ci := 5) (N := 2) (T := TX5) rfl (by first | assumption | rfl) rfl rfl (by decide +kernel) rfl ⟨by decide, by decide⟩ ⟨rfl, rfl⟩ (Nat.le_of_ble_eq_true rfl) (ev_fillInverse (t := 1) (u := 3) rfl rfl rfl rfl (by omega) hTs e0 hall) rfl (fun x38 w38 h38 => ?_)
    obtain ⟨rfl, h38, f38⟩ := h38
    refine go_iret dX6_invert_41 ?_
    subst hK
    unfold op5
    rw [cif_t hall]
    exact ⟨_, rfl, rfl, PXW_T h27 h38 f38, fun c k z => by rw [f38 _ _ (by omega) (by omega), f27 _ _ (by omega) (by omega)]; exact f16 _ _ (Or.inr z)⟩
  · refine go_bipush (q := 14) rfl dX6_invert_12 rfl ?_
    refine go_iret dX6_invert_14 ?_
    subst hK
    unfold op5
    have hno : ¬ ∀ y, y < wN W → prm (wN W) (wF W) y := by
      rcases h4 with ⟨z, z1, z2, z3, z4⟩ | ⟨z1, z2⟩
      · exact fun q => z3 (q z z1)
      · omega
    rw [cif_f hno]
    exact ⟨_, rfl, rfl, hP, fun c k _ => rfl⟩
theorem ex6 (hP : PXW w W) : eX6_size l D ck ad shA [vR 0] w (Pi (XR w (op6 W))) := by
  have hT : TB w 1 (wN W) (wF W) := hP.1.1
  refine ev_of_goK (own := RX6) (ls := [some (vR 0)]) (by decide +kernel) rfl rfl (Nat.le_of_ble_eq_true rfl) rkI ?_
  intro K hK
  refine go_aload_n (j := 0) (q := 1) rfl rfl dX6_size_0 rfl ?_
  refine go_getR (C0 := RX6) (T := TX6) (N := 7) (ci := 6) (i := 0) (q := 4) rfl igX6 (by first | assumption | rfl) (by decide) fl_X6_10 rfl dX6_size_1 rfl ?_
  refine go_getI (C0 := RX5) (T := TX5) (N := 2) (ci := 5) (i := 0) (q := 7) rfl igX5 (by first | assumption | rfl) (by decide) fl_X6_71 rfl dX6_size_4 rfl ?_
  refine go_iret dX6_size_7 ?_
  subst hK; exact ⟨_, rfl, hT.1, hP, fun c k _ => rfl⟩
theorem ex7 (hP : PXW w W) {x y : Int} (hx : rng x) (hy : rng y) : eX6_product l D ck ad shA [vR 0, vI x, vI y] w (Pi (XR w (op7 W x y))) := by
  have hT : TB w 1 (wN W) (wF W) := hP.1.1
  refine ev_of_goK (own := RX6) (ls := [some (vR 0), some (vI x), some (vI y)]) (by decide +kernel) rfl rfl (Nat.le_of_ble_eq_true rfl) rkI ?_
  intro K hK
  refine go_aload_n (j := 0) (q := 1) rfl rfl dX6_product_0 rfl ?_
  refine go_getR (C0 := RX6) (T := TX6) (N := 7) (ci := 6) (i := 0) (q := 4) rfl igX6 (by first | assumption | rfl) (by decide) fl_X6_10 rfl dX6_product_1 rfl ?_
  refine go_iload_n (j := 1) (q := 5) rfl rfl dX6_product_4 rfl ?_
  refine go_callVz (as := [_, _]) (As := [_]) (rest := []) (n := 1) (q := 8) dX6_product_5 lk_X6_75 (ci := 5) (N := 2) (T := TX5) rfl (by first | assumption | rfl) rfl rfl (by decide +kernel) rfl ⟨by decide, by decide⟩ ⟨rfl, rfl⟩ (Nat.le_of_ble_eq_true rfl) (ev_has rfl hT hx) rfl (fun w5 h5 => ?_) (fun w5 h5 => ?_)
  · obtain ⟨rfl, h5⟩ := h5
    refine go_if_eqF (q := 11) (t := 22) dX6_product_8 rfl (by decide) (by decide) ?_
    refine go_aload_n (j := 0) (q := 12) rfl rfl dX6_product_11 rfl ?_
    refine go_getR (C0 := RX6) (T := TX6) (N := 7) (ci := 6) (i := 0) (q := 15) rfl igX6 (by first | assumption | rfl) (by decide) fl_X6_10 rfl dX6_product_12 rfl ?_
    refine go_iload_n (j := 2) (q := 16) rfl rfl dX6_product_15 rfl ?_
    refine go_callVz (as := [_, _]) (As := [_]) (rest := []) (n := 1) (q := 19) dX6_product_16 lk_X6_75 (ci := 5) (N := 2) (T := TX5) rfl (by first | assumption | rfl) rfl rfl (by decide +kernel) rfl ⟨by decide, by decide⟩ ⟨rfl, rfl⟩ (Nat.le_of_ble_eq_true rfl) (ev_has rfl hT hy) rfl (fun w16 h16 => ?_) (fun w16 h16 => ?_)
    · obtain ⟨rfl, h16⟩ := h16
      refine go_if_neT (t := 24) dX6_product_19 (by decide) (by decide) ?_
      refine go_aload_n (j := 0) (q := 25) rfl rfl dX6_product_24 rfl ?_
      refine go_getR (C0 := RX6) (T := TX6) (N := 7) (ci := 6) (i := 0) (q := 28) rfl igX6 (by first | assumption | rfl) (by decide) fl_X6_10 rfl dX6_product_25 rfl ?_
      refine go_iload_n (j := 1) (q := 29) rfl rfl dX6_product_28 rfl ?_
      refine go_iload_n (j := 2) (q := 30) rfl rfl dX6_product_29 rfl ?_
      refine go_callVi (as := [_, _, _]) (As := [_, _]) (rest := []) (n := 2) (q := 33) dX6_product_30 lk_X6_78 (ci := 5) (N := 2) (T := TX5) rfl (by first | assumption | rfl) rfl rfl (by decide +kernel) rfl ⟨by decide, by decide⟩ ⟨rfl, rfl⟩ (Nat.le_of_ble_eq_true rfl) (ev_times rfl rfl hT (x := x.toNat) (y := y.toNat) (by omega) (by omega) (by omega) (by omega)) rfl (fun x30 w30 h30 => ?_)
      obtain ⟨rfl, rfl⟩ := h30
      refine go_iret dX6_product_33 ?_
      subst hK
      unfold op7
      rw [cif_t (by omega)]
      exact ⟨_, rfl, rfl, hP, fun c k _ => rfl⟩
    · obtain ⟨rfl, h16⟩ := h16
      refine go_if_neF (q := 22) (t := 24) dX6_product_19 rfl (by decide) (by decide) ?_
      refine go_iconst (q := 23) dX6_product_22 rfl ?_
      refine go_iret dX6_product_23 ?_
      subst hK
      unfold op7
      rw [cif_f (by omega)]
      exact ⟨_, rfl, rfl, hP, fun c k _ => rfl⟩
  · obtain ⟨rfl, h5⟩ := h5
    refine go_if_eqT (t := 22) dX6_product_8 (by decide) (by decide) ?_
    refine go_iconst (q := 23) dX6_product_22 rfl ?_
    refine go_iret dX6_product_23 ?_
    subst hK
    unfold op7
    rw [cif_f (by omega)]
    exact ⟨_, rfl, rfl, hP, fun c k _ => rfl⟩
theorem ex8 (hP : PXW w W) {x y : Int} (hx : rng x) (hy : rng y) : eX6_quotient l D ck ad shA [vR 0, vI x, vI y] w (Pi (XR w (op8 W x y))) := by
  have hT : TB w 1 (wN W) (wF W) := hP.1.1
  refine ev_of_goK (own := RX6) (ls := [some (vR 0), some (vI x), some (vI y)]) (by decide +kernel) rfl rfl (Nat.le_of_ble_eq_true rfl) rkI ?_
  intro K hK
  refine go_aload_n (j := 0) (q := 1) rfl rfl dX6_quotient_0 rfl ?_
  refine go_getR (C0 := RX6) (T := TX6) (N := 7) (ci := 6) (i := 0) (q := 4) rfl igX6 (by first | assumption | rfl) (by decide) fl_X6_10 rfl dX6_quotient_1 rfl ?_
  refine go_iload_n (j := 1) (q := 5) rfl rfl dX6_quotient_4 rfl ?_
  refine go_callVz (as := [_, _]) (As := [_]) (rest := []) (n := 1) (q := 8) dX6_quotient_5 lk_X6_75 (ci := 5) (N := 2) (T := TX5) rfl (by first | assumption | rfl) rfl rfl (by decide +kernel) rfl ⟨by decide, by decide⟩ ⟨rfl, rfl⟩ (Nat.le_of_ble_eq_true rfl) (ev_has rfl hT hx) rfl (fun w5 h5 => ?_) (fun w5 h5 => ?_)
  · obtain ⟨rfl, h5⟩ := h5
    refine go_if_eqF (q := 11) (t := 22) dX6_quotient_8 rfl (by decide) (by decide) ?_
    refine go_aload_n (j := 0) (q := 12) rfl rfl dX6_quotient_11 rfl ?_
    refine go_getR (C0 := RX6) (T := TX6) (N := 7) (ci := 6) (i := 0) (q := 15) rfl igX6 (by first | assumption | rfl) (by decide) fl_X6_10 rfl dX6_quotient_12 rfl ?_
    refine go_iload_n (j := 2) (q := 16) rfl rfl dX6_quotient_15 rfl ?_
    refine go_callVz (as := [_, _]) (As := [_]) (rest := []) (n := 1) (q := 19) dX6_quotient_16 lk_X6_75 (ci := 5) (N := 2) (T := TX5) rfl (by first | assumption | rfl) rfl rfl (by decide +kernel) rfl ⟨by decide, by decide⟩ ⟨rfl, rfl⟩ (Nat.le_of_ble_eq_true rfl) (ev_has rfl hT hy) rfl (fun w16 h16 => ?_) (fun w16 h16 => ?_)
    · obtain ⟨rfl, h16⟩ := h16
      refine go_if_neT (t := 24) dX6_quotient_19 (by decide) (by decide) ?_
      refine go_aload_n (j := 0) (q := 25) rfl rfl dX6_quotient_24 rfl ?_
      refine go_getR (C0 := RX6) (T := TX6) (N := 7) (ci := 6) (i := 0) (q := 28) rfl igX6 (by first | assumption | rfl) (by decide) fl_X6_10 rfl dX6_quotient_25 rfl ?_
      refine go_iload_n (j := 1) (q := 29) rfl rfl dX6_quotient_28 rfl ?_
      refine go_iload_n (j := 2) (q := 30) rfl rfl dX6_quotient_29 rfl ?_
      refine go_callVi (as := [_, _, _]) (As := [_, _]) (rest := []) (n := 2) (q := 33) dX6_quotient_30 lk_X6_97 (ci := 5) (N := 2) (T := TX5) rfl (by first | assumption | rfl) rfl rfl (by decide +kernel) rfl ⟨by decide, by decide⟩ ⟨rfl, rfl⟩ (Nat.le_of_ble_eq_true rfl) (ev_lowestFactor rfl rfl hT (x := x.toNat) (y := y.toNat) (by omega) (by omega) (by omega) (by omega)) rfl (fun x30 w30 h30 => ?_)
      obtain ⟨h30, rfl⟩ := h30
      refine go_iret dX6_quotient_33 ?_
      subst hK
      unfold op8
      rw [cif_t (by omega)]
      exact ⟨_, rfl, the_eq h30 (fun u hu => low_u hu h30), hP, fun c k _ => rfl⟩
    · obtain ⟨rfl, h16⟩ := h16
      refine go_if_neF (q := 22) (t := 24) dX6_quotient_19 rfl (by decide) (by decide) ?_
      refine go_iconst (q := 23) dX6_quotient_22 rfl ?_
      refine go_iret dX6_quotient_23 ?_
      subst hK
      unfold op8
      rw [cif_f (by omega)]
      exact ⟨_, rfl, rfl, hP, fun c k _ => rfl⟩
  · obtain ⟨rfl, h5⟩ := h5
    refine go_if_eqT (t := 22) dX6_quotient_8 (by decide) (by decide) ?_
    refine go_iconst (q := 23) dX6_quotient_22 rfl ?_
    refine go_iret dX6_quotient_23 ?_
    subst hK
    unfold op8
    rw [cif_f (by omega)]
    exact ⟨_, rfl, rfl, hP, fun c k _ => rfl⟩
theorem ex9 (hP : PXW w W) {x : Int} (hx : rng x) : eX6_violation l D ck ad shA [vR 0, vI x] w (Pi (XR w (op9 W x))) := by
  have hT : TB w 1 (wN W) (wF W) := hP.1.1
  refine ev_of_goK (own := RX6) (ls := [some (vR 0), some (vI x)]) (by decide +kernel) rfl rfl (Nat.le_of_ble_eq_true rfl) rkI ?_
  intro K hK
  refine go_iload_n (j := 1) (q := 1) rfl rfl dX6_violation_0 rfl ?_
  refine go_ts1 (v := 1) (off := 27) (t := 28) dX6_violation_1 (by decide) rfl (by decide) (fun e1 => ?_) (fun n1_1 => ?_)
  · rw [wr_of (by omega) (by omega)] at e1
    refine go_aload_n (j := 0) (q := 29) rfl rfl dX6_violation_28 rfl ?_
    refine go_getR (C0 := RX6) (T := TX6) (N := 7) (ci := 6) (i := 0) (q := 32) rfl igX6 (by first | assumption | rfl) (by decide) fl_X6_10 rfl dX6_violation_29 rfl ?_
    refine go_callVi (as := [_]) (As := []) (rest := []) (n := 0) (q := 35) dX6_violation_32 lk_X6_100 (ci := 5) (N := 2) (T := TX5) rfl (by first | assumption | rfl) rfl rfl (by decide +kernel) rfl ⟨by decide, by decide⟩ ⟨rfl, rfl⟩ (Nat.le_of_ble_eq_true rfl) (ev_firstNotIdempotent rfl rfl hT) rfl (fun x32 w32 h32 => ?_)
    obtain ⟨h32, rfl⟩ := h32
    refine go_iret dX6_violation_35 ?_
    subst hK; exact ⟨_, rfl, by unfold op9 vio; rw [if_pos e1]; exact the_eq h32 (fun u hu => low_u hu h32), hP, fun c k _ => rfl⟩
  refine go_ts1 (v := 2) (off := 35) (t := 36) dX6_violation_1 (by decide) rfl (by decide) (fun e1 => ?_) (fun n1_2 => ?_)
  · rw [wr_of (by omega) (by omega)] at e1
    refine go_aload_n (j := 0) (q := 37) rfl rfl dX6_violation_36 rfl ?_
    refine go_getR (C0 := RX6) (T := TX6) (N := 7) (ci := 6) (i := 0) (q := 40) rfl igX6 (by first | assumption | rfl) (by decide) fl_X6_10 rfl dX6_violation_37 rfl ?_
    refine go_callVi (as := [_]) (As := []) (rest := []) (n := 0) (q := 43) dX6_violation_40 lk_X6_85 (ci := 5) (N := 2) (T := TX5) rfl (by first | assumption | rfl) rfl rfl (by decide +kernel) rfl ⟨by decide, by decide⟩ ⟨rfl, rfl⟩ (Nat.le_of_ble_eq_true rfl) (ev_firstNoPermutation rfl rfl hT) rfl (fun x40 w40 h40 => ?_)
    obtain ⟨h40, rfl⟩ := h40
    refine go_iret dX6_violation_43 ?_
    subst hK; exact ⟨_, rfl, by unfold op9 vio; rw [if_neg (by omega), if_pos e1]; exact the_eq h40 (fun u hu => low_u hu h40), hP, fun c k _ => rfl⟩
  refine go_ts1 (v := 3) (off := 43) (t := 44) dX6_violation_1 (by decide) rfl (by decide) (fun e1 => ?_) (fun n1_3 => ?_)
  · rw [wr_of (by omega) (by omega)] at e1
    refine go_aload_n (j := 0) (q := 45) rfl rfl dX6_violation_44 rfl ?_
    refine go_getR (C0 := RX6) (T := TX6) (N := 7) (ci := 6) (i := 0) (q := 48) rfl igX6 (by first | assumption | rfl) (by decide) fl_X6_10 rfl dX6_violation_45 rfl ?_
    refine go_callVi (as := [_]) (As := []) (rest := []) (n := 0) (q := 51) dX6_violation_48 lk_X6_103 (ci := 5) (N := 2) (T := TX5) rfl (by first | assumption | rfl) rfl rfl (by decide +kernel) rfl ⟨by decide, by decide⟩ ⟨rfl, rfl⟩ (Nat.le_of_ble_eq_true rfl) (ev_firstNotDistributive rfl rfl hT) rfl (fun x48 w48 h48 => ?_)
    obtain ⟨h48, rfl⟩ := h48
    refine go_iret dX6_violation_51 ?_
    subst hK; exact ⟨_, rfl, by unfold op9 vio; rw [if_neg (by omega), if_neg (by omega), if_pos e1]; exact the_eq h48 (fun u hu => low3_u hu h48), hP, fun c k _ => rfl⟩
  rw [wr_of (by omega) (by omega)] at n1_1 n1_2 n1_3
  refine go_tsOut (t := 52) dX6_violation_1 (by rw [wr_of (by omega) (by omega)]; omega) (by decide) ?_
  refine go_iconst (q := 53) dX6_violation_52 rfl ?_
  refine go_iret dX6_violation_53 ?_
  subst hK; exact ⟨_, rfl, by unfold op9 vio; rw [if_neg (by omega), if_neg (by omega), if_neg (by omega)], hP, fun c k _ => rfl⟩
theorem ex10 (hP : PXW w W) {x : Int} (hx : rng x) : eX6_reach l D ck ad shA [vR 0, vI x] w (Pi (XR w (op10 W x))) := by
  have hT : TB w 1 (wN W) (wF W) := hP.1.1
  refine ev_of_goK (own := RX6) (ls := [some (vR 0), some (vI x)]) (by decide +kernel) rfl rfl (Nat.le_of_ble_eq_true rfl) rkI ?_
  intro K hK
  refine go_aload_n (j := 0) (q := 1) rfl rfl dX6_reach_0 rfl ?_
  refine go_getR (C0 := RX6) (T := TX6) (N := 7) (ci := 6) (i := 0) (q := 4) rfl igX6 (by first | assumption | rfl) (by decide) fl_X6_10 rfl dX6_reach_1 rfl ?_
  refine go_iload_n (j := 1) (q := 5) rfl rfl dX6_reach_4 rfl ?_
  refine go_callVz (as := [_, _]) (As := [_]) (rest := []) (n := 1) (q := 8) dX6_reach_5 lk_X6_75 (ci := 5) (N := 2) (T := TX5) rfl (by first | assumption | rfl) rfl rfl (by decide +kernel) rfl ⟨by decide, by decide⟩ ⟨rfl, rfl⟩ (Nat.le_of_ble_eq_true rfl) (ev_has rfl hT hx) rfl (fun w5 h5 => ?_) (fun w5 h5 => ?_)
  · obtain ⟨rfl, h5⟩ := h5
    refine go_if_eqF (q := 11) (t := 22) dX6_reach_8 rfl (by decide) (by decide) ?_
    refine go_aload_n (j := 0) (q := 12) rfl rfl dX6_reach_11 rfl ?_
    refine go_getR (C0 := RX6) (T := TX6) (N := 7) (ci := 6) (i := 0) (q := 15) rfl igX6 (by first | assumption | rfl) (by decide) fl_X6_10 rfl dX6_reach_12 rfl ?_
    refine go_iload_n (j := 1) (q := 16) rfl rfl dX6_reach_15 rfl ?_
    refine go_callVi (as := [_, _]) (As := [_]) (rest := []) (n := 1) (q := 19) dX6_reach_16 lk_X6_106 (ci := 5) (N := 2) (T := TX5) rfl (by first | assumption | rfl) rfl rfl (by decide +kernel) rfl ⟨by decide, by decide⟩ ⟨rfl, rfl⟩ (Nat.le_of_ble_eq_true rfl) (ev_reachedFrom rfl rfl hT (x := x.toNat) (by omega) (by omega)) rfl (fun x16 w16 h16 => ?_)
    obtain ⟨rfl, rfl⟩ := h16
    refine go_goto (q := 23) dX6_reach_19 (by decide) ?_
    refine go_iret dX6_reach_23 ?_
    subst hK
    unfold op10
    first
    | (rw [cif_t (by omega)]; exact ⟨_, rfl, rfl, hP, fun c k _ => rfl⟩)
    | (rw [cif_f (by omega)]; exact ⟨_, rfl, rfl, hP, fun c k _ => rfl⟩)
  · obtain ⟨rfl, h5⟩ := h5
    refine go_if_eqT (t := 22) dX6_reach_8 (by decide) (by decide) ?_
    refine go_iconst (q := 23) dX6_reach_22 rfl ?_
    refine go_iret dX6_reach_23 ?_
    subst hK
    unfold op10
    first
    | (rw [cif_t (by omega)]; exact ⟨_, rfl, rfl, hP, fun c k _ => rfl⟩)
    | (rw [cif_f (by omega)]; exact ⟨_, rfl, rfl, hP, fun c k _ => rfl⟩)
theorem ex11 (hP : PXW w W) : eX6_tableComponents l D ck ad shA [vR 0] w (Pi (XR w (op11 W))) := by
  have hT : TB w 1 (wN W) (wF W) := hP.1.1
  refine ev_of_goK (own := RX6) (ls := [some (vR 0)]) (by decide +kernel) rfl rfl (Nat.le_of_ble_eq_true rfl) rkI ?_
  intro K hK
  refine go_aload_n (j := 0) (q := 1) rfl rfl dX6_tableComponents_0 rfl ?_
  refine go_getR (C0 := RX6) (T := TX6) (N := 7) (ci := 6) (i := 0) (q := 4) rfl igX6 (by first | assumption | rfl) (by decide) fl_X6_10 rfl dX6_tableComponents_1 rfl ?_
  refine go_callVi (as := [_]) (As := []) (rest := []) (n := 0) (q := 7) dX6_tableComponents_4 lk_X6_110 (ci := 5) (N := 2) (T := TX5) rfl (by first | assumption | rfl) rfl rfl (by decide +kernel) rfl ⟨by decide, by decide⟩ ⟨rfl, rfl⟩ (Nat.le_of_ble_eq_true rfl) (ev_countComponents rfl rfl hT) rfl (fun x4 w4 h4 => ?_)
  obtain ⟨rfl, rfl⟩ := h4
  refine go_iret dX6_tableComponents_7 ?_
  subst hK; exact ⟨_, rfl, rfl, hP, fun c k _ => rfl⟩
theorem ex12 (hP : PXW w W) {x : Int} (hx : rng x) : eX6_closure l D ck ad shA [vR 0, vI x] w (Pi (XR w (op12 W x))) := by
  have hT : TB w 1 (wN W) (wF W) := hP.1.1
  refine ev_of_goK (own := RX6) (ls := [some (vR 0), some (vI x)]) (by decide +kernel) rfl rfl (Nat.le_of_ble_eq_true rfl) rkI ?_
  intro K hK
  refine go_iload_n (j := 1) (q := 1) rfl rfl dX6_closure_0 rfl ?_
  refine go_if_lt2 (q := 4) (t := 15) dX6_closure_1 (by decide) rfl (by omega) (fun c1 => ?_) (fun c1 => ?_)
  · refine go_bipush (q := 17) rfl dX6_closure_15 rfl ?_
    refine go_iret dX6_closure_17 ?_
    subst hK
    unfold op12
    rw [cif_f (by omega)]
    exact ⟨_, rfl, rfl, hP, fun c k _ => rfl⟩
  · refine go_iload_n (j := 1) (q := 5) rfl rfl dX6_closure_4 rfl ?_
    refine go_aload_n (j := 0) (q := 6) rfl rfl dX6_closure_5 rfl ?_
    refine go_getR (C0 := RX6) (T := TX6) (N := 7) (ci := 6) (i := 0) (q := 9) rfl igX6 (by first | assumption | rfl) (by decide) fl_X6_10 rfl dX6_closure_6 rfl ?_
    refine go_callVi (as := [_]) (As := []) (rest := [_]) (n := 0) (q := 12) dX6_closure_9 lk_X6_113 (ci := 5) (N := 2) (T := TX5) rfl (by first | assumption | rfl) rfl rfl (by decide +kernel) rfl ⟨by decide, by decide⟩ ⟨rfl, rfl⟩ (Nat.le_of_ble_eq_true rfl) (ev_allElements rfl hT) rfl (fun x9 w9 h9 => ?_)
    obtain ⟨rfl, rfl⟩ := h9
    have h64 : 2 ^ wN W ≤ 2 ^ 6 := Nat.pow_le_pow_right (by decide) hT.2.1.2
    have h1p := Nat.one_le_two_pow (n := wN W)
    refine go_icmp_le2 (q := 15) (t := 18) dX6_closure_12 (by decide) rfl (by omega) (fun c12 => ?_) (fun c12 => ?_)
    · refine go_aload_n (j := 0) (q := 19) rfl rfl dX6_closure_18 rfl ?_
      refine go_getR (C0 := RX6) (T := TX6) (N := 7) (ci := 6) (i := 0) (q := 22) rfl igX6 (by first | assumption | rfl) (by decide) fl_X6_10 rfl dX6_closure_19 rfl ?_
      refine go_iload_n (j := 1) (q := 23) rfl rfl dX6_closure_22 rfl ?_
      refine go_callVi (as := [_, _]) (As := [_]) (rest := []) (n := 1) (q := 26) dX6_closure_23 lk_X6_116 (ci := 5) (N := 2) (T := TX5) rfl (by first | assumption | rfl) rfl rfl (by decide +kernel) rfl ⟨by decide, by decide⟩ ⟨rfl, rfl⟩ (Nat.le_of_ble_eq_true rfl) (ev_closureOf rfl rfl hT (x := x.toNat) (by omega) (by omega)) rfl (fun x23 w23 h23 => ?_)
      obtain ⟨rfl, rfl⟩ := h23
      refine go_iret dX6_closure_26 ?_
      subst hK
      unfold op12
      rw [cif_t (by omega)]
      exact ⟨_, rfl, rfl, hP, fun c k _ => rfl⟩
    · refine go_bipush (q := 17) rfl dX6_closure_15 rfl ?_
      refine go_iret dX6_closure_17 ?_
      subst hK
      unfold op12
      rw [cif_f (by omega)]
      exact ⟨_, rfl, rfl, hP, fun c k _ => rfl⟩
theorem ex13 (hP : PXW w W) : eX6_generators l D ck ad shA [vR 0] w (Pi (XR w (op13 W))) := by
  have hT : TB w 1 (wN W) (wF W) := hP.1.1
  refine ev_of_goK (own := RX6) (ls := [some (vR 0)]) (by decide +kernel) rfl rfl (Nat.le_of_ble_eq_true rfl) rkI ?_
  intro K hK
  refine go_aload_n (j := 0) (q := 1) rfl rfl dX6_generators_0 rfl ?_
  refine go_getR (C0 := RX6) (T := TX6) (N := 7) (ci := 6) (i := 0) (q := 4) rfl igX6 (by first | assumption | rfl) (by decide) fl_X6_10 rfl dX6_generators_1 rfl ?_
  refine go_callVi (as := [_]) (As := []) (rest := []) (n := 0) (q := 7) dX6_generators_4 lk_X6_119 (ci := 5) (N := 2) (T := TX5) rfl (by first | assumption | rfl) rfl rfl (by decide +kernel) rfl ⟨by decide, by decide⟩ ⟨rfl, rfl⟩ (Nat.le_of_ble_eq_true rfl) (ev_leastGenerators rfl rfl hT) rfl (fun x4 w4 h4 => ?_)
  obtain ⟨rfl, rfl⟩ := h4
  refine go_iret dX6_generators_7 ?_
  subst hK; exact ⟨_, rfl, rfl, hP, fun c k _ => rfl⟩
theorem ex14 (hP : PXW w W) {x : Int} (hx : rng x) : eX6_translationOrder l D ck ad shA [vR 0, vI x] w (Pi (XR w (op14 W x))) := by
  have hT : TB w 1 (wN W) (wF W) := hP.1.1
  refine ev_of_goK (own := RX6) (ls := [some (vR 0), some (vI x)]) (by decide +kernel) rfl rfl (Nat.le_of_ble_eq_true rfl) rkI ?_
  intro K hK
  refine go_aload_n (j := 0) (q := 1) rfl rfl dX6_translationOrder_0 rfl ?_
  refine go_getR (C0 := RX6) (T := TX6) (N := 7) (ci := 6) (i := 0) (q := 4) rfl igX6 (by first | assumption | rfl) (by decide) fl_X6_10 rfl dX6_translationOrder_1 rfl ?_
  refine go_iload_n (j := 1) (q := 5) rfl rfl dX6_translationOrder_4 rfl ?_
  refine go_callVz (as := [_, _]) (As := [_]) (rest := []) (n := 1) (q := 8) dX6_translationOrder_5 lk_X6_75 (ci := 5) (N := 2) (T := TX5) rfl (by first | assumption | rfl) rfl rfl (by decide +kernel) rfl ⟨by decide, by decide⟩ ⟨rfl, rfl⟩ (Nat.le_of_ble_eq_true rfl) (ev_has rfl hT hx) rfl (fun w5 h5 => ?_) (fun w5 h5 => ?_)
  · obtain ⟨rfl, h5⟩ := h5
    refine go_if_eqF (q := 11) (t := 22) dX6_translationOrder_8 rfl (by decide) (by decide) ?_
    refine go_aload_n (j := 0) (q := 12) rfl rfl dX6_translationOrder_11 rfl ?_
    refine go_getR (C0 := RX6) (T := TX6) (N := 7) (ci := 6) (i := 0) (q := 15) rfl igX6 (by first | assumption | rfl) (by decide) fl_X6_10 rfl dX6_translationOrder_12 rfl ?_
    refine go_iload_n (j := 1) (q := 16) rfl rfl dX6_translationOrder_15 rfl ?_
    refine go_callVi (as := [_, _]) (As := [_]) (rest := []) (n := 1) (q := 19) dX6_translationOrder_16 lk_X6_122 (ci := 5) (N := 2) (T := TX5) rfl (by first | assumption | rfl) rfl rfl (by decide +kernel) rfl ⟨by decide, by decide⟩ ⟨rfl, rfl⟩ (Nat.le_of_ble_eq_true rfl) (ev_orderOfTranslation rfl rfl hT (y := x.toNat) (by omega) (by omega)) rfl (fun x16 w16 h16 => ?_)
    obtain ⟨h16, rfl⟩ := h16
    refine go_goto (q := 23) dX6_translationOrder_19 (by decide) ?_
    refine go_iret dX6_translationOrder_23 ?_
    subst hK
    unfold op14
    first
    | (rw [cif_t (by omega)]; exact ⟨_, rfl, the_eq h16 (fun u hu => ord_u hu h16), hP, fun c k _ => rfl⟩)
    | (rw [cif_f (by omega)]; exact ⟨_, rfl, rfl, hP, fun c k _ => rfl⟩)
  · obtain ⟨rfl, h5⟩ := h5
    refine go_if_eqT (t := 22) dX6_translationOrder_8 (by decide) (by decide) ?_
    refine go_iconst (q := 23) dX6_translationOrder_22 rfl ?_
    refine go_iret dX6_translationOrder_23 ?_
    subst hK
    unfold op14
    first
    | (rw [cif_t (by omega)]; exact ⟨_, rfl, the_eq h16 (fun u hu => ord_u hu h16), hP, fun c k _ => rfl⟩)
    | (rw [cif_f (by omega)]; exact ⟨_, rfl, rfl, hP, fun c k _ => rfl⟩)
theorem ex15 (hP : PXW w W) : eX6_translations l D ck ad shA [vR 0] w (Pi (XR w (op15 W))) := by
  have hT : TB w 1 (wN W) (wF W) := hP.1.1
  refine ev_of_goK (own := RX6) (ls := [some (vR 0)]) (by decide +kernel) rfl rfl (Nat.le_of_ble_eq_true rfl) rkI ?_
  intro K hK
  refine go_aload_n (j := 0) (q := 1) rfl rfl dX6_translations_0 rfl ?_
  refine go_getR (C0 := RX6) (T := TX6) (N := 7) (ci := 6) (i := 0) (q := 4) rfl igX6 (by first | assumption | rfl) (by decide) fl_X6_10 rfl dX6_translations_1 rfl ?_
  refine go_callVi (as := [_]) (As := []) (rest := []) (n := 0) (q := 7) dX6_translations_4 lk_X6_125 (ci := 5) (N := 2) (T := TX5) rfl (by first | assumption | rfl) rfl rfl (by decide +kernel) rfl ⟨by decide, by decide⟩ ⟨rfl, rfl⟩ (Nat.le_of_ble_eq_true rfl) (ev_countTranslations rfl rfl hT) rfl (fun x4 w4 h4 => ?_)
  obtain ⟨rfl, rfl⟩ := h4
  refine go_iret dX6_translations_7 ?_
  subst hK; exact ⟨_, rfl, rfl, hP, fun c k _ => rfl⟩
theorem ex16 (hP : PXW w W) : eX6_innerGroup l D ck ad shA [vR 0] w (Pi (XR w (op16 W))) := by
  have hT : TB w 1 (wN W) (wF W) := hP.1.1
  refine ev_of_goK (own := RX6) (ls := [some (vR 0)]) (by decide +kernel) rfl rfl (Nat.le_of_ble_eq_true rfl) rkI ?_
  intro K hK
  refine go_aload_n (j := 0) (q := 1) rfl rfl dX6_innerGroup_0 rfl ?_
  refine go_getR (C0 := RX6) (T := TX6) (N := 7) (ci := 6) (i := 0) (q := 4) rfl igX6 (by first | assumption | rfl) (by decide) fl_X6_10 rfl dX6_innerGroup_1 rfl ?_
  refine go_callVi (as := [_]) (As := []) (rest := []) (n := 0) (q := 7) dX6_innerGroup_4 lk_X6_85 (ci := 5) (N := 2) (T := TX5) rfl (by first | assumption | rfl) rfl rfl (by decide +kernel) rfl ⟨by decide, by decide⟩ ⟨rfl, rfl⟩ (Nat.le_of_ble_eq_true rfl) (ev_firstNoPermutation rfl rfl hT) rfl (fun x4 w4 h4 => ?_)
  obtain ⟨h4, rfl⟩ := h4
  refine go_bipush (q := 9) rfl dX6_innerGroup_7 rfl ?_
  refine go_icmp_eq2 (q := 12) (t := 15) dX6_innerGroup_9 (by decide) rfl (by rcases h4 with ⟨z, z1, z2, z3, z4⟩ | ⟨z1, z2⟩ <;> (have := hT.2.1; omega)) (fun c9 => ?_) (fun c9 => ?_)
  · have hall : ∀ y, y < wN W → prm (wN W) (wF W) y := by
      rcases h4 with ⟨z, z1, z2, z3, z4⟩ | ⟨z1, z2⟩
      · omega
      · exact fun y hy => Classical.not_not.mp (z2 y hy)
    refine go_aload_n (j := 0) (q := 16) rfl rfl dX6_innerGroup_15 rfl ?_
    refine go_getR (C0 := RX6) (T := TX6) (N := 7) (ci := 6) (i := 2) (q := 19) rfl igX6 (by first | assumption | rfl) (by decide) fl_X6_22 rfl dX6_innerGroup_16 rfl ?_
    refine go_aload_n (j := 0) (q := 20) rfl rfl dX6_innerGroup_19 rfl ?_
    refine go_getR (C0 := RX6) (T := TX6) (N := 7) (ci := 6) (i := 0) (q := 23) rfl igX6 (by first | assumption | rfl) (by decide) fl_X6_10 rfl dX6_innerGroup_20 rfl ?_
    refine go_callVi (as := [_, _]) (As := [_]) (rest := []) (n := 1) (q := 26) dX6_innerGroup_23 lk_X6_128 (ci := 4) (N := 4) (T := TX4) rfl (by first | assumption | rfl) rfl rfl (by decide +kernel) rfl ⟨by decide, by decide⟩ ⟨rfl, rfl⟩ (Nat.le_of_ble_eq_true rfl) (ev_countCompositions hT hall) rfl (fun x23 w23 h23 => ?_)
    obtain ⟨rfl, f23⟩ := h23
    refine go_iret dX6_innerGroup_26 ?_
    subst hK
    unfold op16
    rw [cif_t hall]
    exact ⟨_, rfl, rfl, PXW_q hP (fun c k z => f23 _ _ (by omega) (by omega) (by omega) (by omega)), fun c k z => f23 _ _ (by omega) (by omega) (by omega) (by omega)⟩
  · refine go_bipush (q := 14) rfl dX6_innerGroup_12 rfl ?_
    refine go_iret dX6_innerGroup_14 ?_
    subst hK
    unfold op16
    have hno : ¬ ∀ y, y < wN W → prm (wN W) (wF W) y := by
      rcases h4 with ⟨z, z1, z2, z3, z4⟩ | ⟨z1, z2⟩
      · exact fun q => z3 (q z z1)
      · omega
    rw [cif_f hno]
    exact ⟨_, rfl, rfl, hP, fun c k _ => rfl⟩
theorem ex17 (hP : PXW w W) : eX6_automorphisms l D ck ad shA [vR 0] w (Pi (XR w (op17 W))) := by
  have hT : TB w 1 (wN W) (wF W) := hP.1.1
  refine ev_of_goK (own := RX6) (ls := [some (vR 0)]) (by decide +kernel) rfl rfl (Nat.le_of_ble_eq_true rfl) rkI ?_
  intro K hK
  refine go_aload_n (j := 0) (q := 1) rfl rfl dX6_automorphisms_0 rfl ?_
  refine go_getR (C0 := RX6) (T := TX6) (N := 7) (ci := 6) (i := 2) (q := 4) rfl igX6 (by first | assumption | rfl) (by decide) fl_X6_22 rfl dX6_automorphisms_1 rfl ?_
  refine go_aload_n (j := 0) (q := 5) rfl rfl dX6_automorphisms_4 rfl ?_
  refine go_getR (C0 := RX6) (T := TX6) (N := 7) (ci := 6) (i := 0) (q := 8) rfl igX6 (by first | assumption | rfl) (by decide) fl_X6_10 rfl dX6_automorphisms_5 rfl ?_
  refine go_callVi (as := [_, _]) (As := [_]) (rest := []) (n := 1) (q := 11) dX6_automorphisms_8 lk_X6_131 (ci := 4) (N := 4) (T := TX4) rfl (by first | assumption | rfl) rfl rfl (by decide +kernel) rfl ⟨by decide, by decide⟩ ⟨rfl, rfl⟩ (Nat.le_of_ble_eq_true rfl) (ev_countAutomorphisms hT) rfl (fun x8 w8 h8 => ?_)
  obtain ⟨rfl, f8⟩ := h8
  refine go_iret dX6_automorphisms_11 ?_
  subst hK; exact ⟨_, rfl, rfl, PXW_q hP (fun c k z => f8 _ _ (by omega)), fun c k z => f8 _ _ (by omega)⟩
end KC1
