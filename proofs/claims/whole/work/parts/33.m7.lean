def chF (t : Nat → Nat) (j : Nat) : Nat := fN (fun i m => if (48 ≤ t i ∧ t i ≤ 54) ∧ m < t i - 48 then t i - 48 else m) 0 j
theorem chF_s (t : Nat → Nat) (j : Nat) : chF t (j + 1) = if (48 ≤ t j ∧ t j ≤ 54) ∧ chF t j < t j - 48 then t j - 48 else chF t j := rfl
theorem chF_n {t : Nat → Nat} {j : Nat} (h : ¬ (48 ≤ t j ∧ t j ≤ 54)) : chF t (j + 1) = chF t j := by rw [chF_s, if_neg (fun z => h z.1)]
theorem chF_a {t : Nat → Nat} {j : Nat} (h : 48 ≤ t j ∧ t j ≤ 54) : chF t (j + 1) = max (chF t j) (t j - 48) := by
  rw [chF_s]
  by_cases q : chF t j < t j - 48
  · rw [if_pos ⟨h, q⟩]; omega
  · rw [if_neg (fun z => q z.2)]; omega
theorem chF_6 {t : Nat → Nat} {k l : Nat} (hl : 7 * k + 6 ≤ l) (hok : ∀ j, j < l → okc j (t j)) (h : chF t (7 * k) = mxT (gTx t) k) : chF t (7 * k + 6) = mxT (gTx t) (k + 1) := by
  have o0 := (hok (7 * k) (by omega)).2.2.2.2 (by omega)
  have o1 := (hok (7 * k + 1) (by omega)).2.1 (by omega)
  have o2 := (hok (7 * k + 2) (by omega)).2.2.2.2 (by omega)
  have o3 := (hok (7 * k + 3) (by omega)).2.1 (by omega)
  have o4 := (hok (7 * k + 4) (by omega)).2.2.2.2 (by omega)
  have o5 := (hok (7 * k + 5) (by omega)).2.2.1 (by omega)
  have e : mxT (gTx t) (k + 1) = max (max (max (mxT (gTx t) k) (gTx t k 0)) (gTx t k 1)) (gTx t k 2) := rfl
  have e0 : gTx t k 0 = t (7 * k) - 48 := rfl
  have e1 : gTx t k 1 = t (7 * k + 2) - 48 := rfl
  have e2 : gTx t k 2 = t (7 * k + 4) - 48 := rfl
  rw [e, e0, e1, e2, chF_n (by omega), chF_a o4, chF_n (by omega), chF_a o2, chF_n (by omega), chF_a o0, h]
theorem chF_k {t : Nat → Nat} {l : Nat} (hok : ∀ j, j < l → okc j (t j)) : ∀ k, 7 * k ≤ l → chF t (7 * k) = mxT (gTx t) k
  | 0, _ => rfl
  | k + 1, h => by
    have h6 := chF_6 (k := k) (l := l) (by omega) hok (chF_k hok k (by omega))
    have o6 := (hok (7 * k + 6) (by omega)).2.2.2.1 (by omega)
    rw [show 7 * (k + 1) = 7 * k + 6 + 1 by omega, chF_n (by omega), h6]
theorem chF_l {t : Nat → Nat} {l : Nat} (hok : ∀ j, j < l → okc j (t j)) (h6 : l % 7 = 6) : chF t l = mxT (gTx t) ((l + 1) / 7) := by
  obtain ⟨k, hk⟩ : ∃ k, l = 7 * k + 6 := ⟨l / 7, by omega⟩
  rw [show (l + 1) / 7 = k + 1 by omega, hk]
  exact chF_6 (l := l) (by omega) hok (chF_k hok k (by omega))
theorem gap_tx {t : Nat → Nat} {q : Nat} : ∀ k, k < q + 1 → (gap (gTx t) q (gTx t q 0) (gTx t q 1) (gTx t q 2) k 0 = gTx t k 0 ∧ gap (gTx t) q (gTx t q 0) (gTx t q 1) (gTx t q 2) k 1 = gTx t k 1 ∧ gap (gTx t) q (gTx t q 0) (gTx t q 1) (gTx t q 2) k 2 = gTx t k 2 ∧ sap (sTx t) q (sTx t q) k = sTx t k) := by
  intro k hk
  by_cases z : k = q
  · subst z; simp [gap, sap]
  · simp [gap, sap, z]
theorem PMW_X {w w1 : Mem} {W : WA} {l : Nat} {t : Nat → Nat} (h : PMW w W) (hX : XM w1 l t) (he : ∀ c k, (c = 46 ∨ c = 47 ∨ (c = 45 ∧ k = 2)) → w1 c k = w c k) : PMW w1 (txW W l t) :=
  ⟨SMv_c h.1 (fun k _ => he _ _ (by omega)), HM_c h.2.1 (he _ _ (by omega)) (fun k => he _ _ (by omega)), hX⟩
section M7
variable {l : Launch} {D : va_G} {ck : Nat → ClassId} {ad : Nat → Nat} {w : Mem} {W : WA} {tl p : Nat} {t : Nat → Nat}
theorem em35 (hP : PMW w W) {x : Int} (hx : rng x) : eX7_type l D ck ad shA [vR 45, vI x] w (Pi (MR w (op35 W x))) := by
  have h4 : w 45 4 = (wL W : Int) := hP.2.2.1
  have h70 : wL W ≤ 70 := hP.2.2.2.1
  have hch : ∀ i, i < wL W → w 48 i = (wT W i : Int) ∧ 33 ≤ wT W i ∧ wT W i ≤ 126 := hP.2.2.2.2
  refine ev_of_goK (own := RX7) (ls := [some (vR 45), some (vI x)]) (by decide +kernel) rfl rfl (Nat.le_of_ble_eq_true rfl) rkI ?_
  intro K hK
  refine go_iload_n (j := 1) (q := 1) rfl rfl dX7_type_0 rfl ?_
  refine go_bipush (q := 3) rfl dX7_type_1 rfl ?_
  refine go_bipush (q := 5) rfl dX7_type_3 rfl ?_
  refine go_callSz (as := [_, _, _]) (rest := []) (n := 3) (q := 8) dX7_type_5 lk_X7_35 rfl (by decide +kernel) rfl ⟨by decide, by decide⟩ ⟨rfl, rfl⟩ (Nat.le_of_ble_eq_true rfl) (em_within (by omega)) rfl (fun w5 h5 => ?_) (fun w5 h5 => ?_)
  · obtain ⟨rfl, h5⟩ := h5
    refine go_if_neT (t := 14) dX7_type_8 (by decide) (by decide) ?_
    refine go_aload_n (j := 0) (q := 15) rfl rfl dX7_type_14 rfl ?_
    refine go_getI (C0 := RX7) (T := TX7) (N := 16) (ci := 7) (i := 4) (q := 18) rfl igX7 (by first | assumption | rfl) (by decide) fl_X7_187 rfl dX7_type_15 rfl ?_
    refine go_bipush (q := 20) rfl dX7_type_18 rfl ?_
    refine go_icmp_ne2 (q := 23) (t := 26) dX7_type_20 (by decide) rfl (by omega) (fun c20 => ?_) (fun c20 => ?_)
    · refine go_aload_n (j := 0) (q := 27) rfl rfl dX7_type_26 rfl ?_
      refine go_getR (C0 := RX7) (T := TX7) (N := 16) (ci := 7) (i := 3) (q := 30) rfl igX7 (by first | assumption | rfl) (by decide) fl_X7_16 rfl dX7_type_27 rfl ?_
      refine go_aload_n (j := 0) (q := 31) rfl rfl dX7_type_30 rfl ?_
      refine go_getI (C0 := RX7) (T := TX7) (N := 16) (ci := 7) (i := 4) (q := 34) rfl igX7 (by first | assumption | rfl) (by decide) fl_X7_187 rfl dX7_type_31 rfl ?_
      refine go_iload_n (j := 1) (q := 35) rfl rfl dX7_type_34 rfl ?_
      refine go_iast (j := wL W) (q := 36) (by first | assumption | rfl) (wr_eq (by omega)) (by omega) dX7_type_35 rfl ?_
      refine go_aload_n (j := 0) (q := 37) rfl rfl dX7_type_36 rfl ?_
      refine go_dup (q := 38) (fun _ z => by cases z) dX7_type_37 rfl ?_
      refine go_getI (C0 := RX7) (T := TX7) (N := 16) (ci := 7) (i := 4) (q := 41) rfl igX7 (by first | assumption | rfl) (by decide) fl_X7_187 rfl dX7_type_38 rfl ?_
      refine go_iconst (q := 42) dX7_type_41 rfl ?_
      refine go_iadd (q := 43) dX7_type_42 rfl ?_
      refine go_putI (C0 := RX7) (T := TX7) (N := 16) (ci := 7) (i := 4) (q := 46) rfl igX7 (by first | assumption | rfl) (by decide) fl_X7_187 rfl tyX7 tyX7_ok nmX7 rfl rfl dX7_type_43 rfl ?_
      refine go_aload_n (j := 0) (q := 47) rfl rfl dX7_type_46 rfl ?_
      refine go_getI (C0 := RX7) (T := TX7) (N := 16) (ci := 7) (i := 4) (q := 50) rfl igX7 (by first | assumption | rfl) (by decide) fl_X7_187 rfl dX7_type_47 rfl ?_
      refine go_iret dX7_type_50 ?_
      subst hK
      unfold op35; rw [cif_t (by omega), cif_t (by omega)]
      refine ⟨_, rfl, by rw [mup_eq, mup_ne (by omega), h4]; show _ = ((wL W + 1 : Nat) : Int); omega, PMW_X hP ⟨by rw [mup_eq, mup_ne (by omega), h4]; omega, by omega, fun i hi => ?_⟩ (fun c k z => by rw [mup_ne (by omega), mup_ne (by omega)]), fun c k z => by rw [mup_ne (by omega), mup_ne (by omega)]⟩
      rw [mup_ne (by omega)]
      by_cases q : i = wL W
      · subst q; rw [mup_eq]; simp only [if_true]; omega
      · rw [mup_ne (by omega)]; simp only [if_neg q]; exact hch i (by omega)
    · refine go_bipush (q := 25) rfl dX7_type_23 rfl ?_
      refine go_iret dX7_type_25 ?_
      subst hK
      unfold op35; rw [cif_t (by omega), cif_f (by omega)]; exact ⟨_, rfl, rfl, hP, fun c k _ => rfl⟩
  · obtain ⟨rfl, h5⟩ := h5
    refine go_if_neF (q := 11) (t := 14) dX7_type_8 rfl (by decide) (by decide) ?_
    refine go_bipush (q := 13) rfl dX7_type_11 rfl ?_
    refine go_iret dX7_type_13 ?_
    subst hK
    unfold op35; rw [cif_f (by omega)]; exact ⟨_, rfl, rfl, hP, fun c k _ => rfl⟩
theorem em36 (hP : PMW w W) : eX7_clearText l D ck ad shA [vR 45] w (Pi (MR w (op36 W))) := by
  have h4 : w 45 4 = (wL W : Int) := hP.2.2.1
  refine ev_of_goK (own := RX7) (ls := [some (vR 45), none]) (by decide +kernel) rfl rfl (Nat.le_of_ble_eq_true rfl) rkI ?_
  intro K hK
  refine go_aload_n (j := 0) (q := 1) rfl rfl dX7_clearText_0 rfl ?_
  refine go_getI (C0 := RX7) (T := TX7) (N := 16) (ci := 7) (i := 4) (q := 4) rfl igX7 (by first | assumption | rfl) (by decide) fl_X7_187 rfl dX7_clearText_1 rfl ?_
  refine go_istore_n (j := 1) (q := 5) (ls2 := [_, _]) rfl (by decide) rfl rfl dX7_clearText_4 rfl ?_
  refine go_aload_n (j := 0) (q := 6) rfl rfl dX7_clearText_5 rfl ?_
  refine go_iconst (q := 7) dX7_clearText_6 rfl ?_
  refine go_putI (C0 := RX7) (T := TX7) (N := 16) (ci := 7) (i := 4) (q := 10) rfl igX7 (by first | assumption | rfl) (by decide) fl_X7_187 rfl tyX7 tyX7_ok nmX7 rfl rfl dX7_clearText_7 rfl ?_
  refine go_iload_n (j := 1) (q := 11) rfl rfl dX7_clearText_10 rfl ?_
  refine go_iret dX7_clearText_11 ?_
  subst hK
  exact ⟨_, rfl, h4, PMW_X hP ⟨by rw [mup_eq]; rfl, by omega, fun i h => absurd h (Nat.not_lt_zero i)⟩ (fun c k z => mup_ne (by omega)), fun c k z => mup_ne (by omega)⟩
theorem em_character (hX : XM w tl t) {pi : Int} (ep : pi = p) (hp : p < 100) : eX7_character l D ck ad shA [vR 45, vI pi] w (Pi fun v w1 => ((p < tl ∧ v = t p ∧ 33 ≤ t p ∧ t p ≤ 126) ∨ (tl ≤ p ∧ v = -1)) ∧ w = w1) := by
  obtain ⟨h0, h1, h2⟩ := hX
  refine ev_of_goK (own := RX7) (ls := [some (vR 45), some (vI pi)]) (by decide +kernel) rfl rfl (Nat.le_of_ble_eq_true rfl) rkI ?_
  intro K hK
  refine go_iload_n (j := 1) (q := 1) rfl rfl dX7_character_0 rfl ?_
  refine go_aload_n (j := 0) (q := 2) rfl rfl dX7_character_1 rfl ?_
  refine go_getI (C0 := RX7) (T := TX7) (N := 16) (ci := 7) (i := 4) (q := 5) rfl igX7 (by first | assumption | rfl) (by decide) fl_X7_187 rfl dX7_character_2 rfl ?_
  refine go_icmp_ge2 (q := 8) (t := 17) dX7_character_5 (by decide) rfl (by omega) (fun c5 => ?_) (fun c5 => ?_)
  · refine go_iconst (q := 18) dX7_character_17 rfl ?_
    refine go_iret dX7_character_18 ?_
    subst hK
    first
    | (have z := h2 p (by omega); exact ⟨_, rfl, Or.inl ⟨by omega, z.1, z.2⟩, rfl⟩)
    | exact ⟨_, rfl, Or.inr ⟨by omega, rfl⟩, rfl⟩
  · refine go_aload_n (j := 0) (q := 9) rfl rfl dX7_character_8 rfl ?_
    refine go_getR (C0 := RX7) (T := TX7) (N := 16) (ci := 7) (i := 3) (q := 12) rfl igX7 (by first | assumption | rfl) (by decide) fl_X7_16 rfl dX7_character_9 rfl ?_
    refine go_iload_n (j := 1) (q := 13) rfl rfl dX7_character_12 rfl ?_
    refine go_iald (j := p) (q := 14) (by first | assumption | rfl) (wr_eq (by omega)) (by omega) dX7_character_13 rfl ?_
    refine go_goto (q := 18) dX7_character_14 (by decide) ?_
    refine go_iret dX7_character_18 ?_
    subst hK
    first
    | (have z := h2 p (by omega); exact ⟨_, rfl, Or.inl ⟨by omega, z.1, z.2⟩, rfl⟩)
    | exact ⟨_, rfl, Or.inr ⟨by omega, rfl⟩, rfl⟩
theorem em_isNext (hX : XM w tl t) (h10 : w 45 10 = (p : Int)) (hp : p < 100) {ch : Nat} {ci : Int} (ec : ci = ch) (hc : ch < 200) : eX7_isNext l D ck ad shA [vR 45, vI ci] w (Pz (fun w1 => ((p < tl ∧ t p = ch) ∧ w1 45 10 = ((p + 1 : Nat) : Int)) ∧ ∀ c k, ¬ (c = 45 ∧ k = 10) → w1 c k = w c k) (fun w1 => (¬ (p < tl ∧ t p = ch) ∧ w1 45 10 = (p : Int)) ∧ ∀ c k, ¬ (c = 45 ∧ k = 10) → w1 c k = w c k)) := by
  refine ev_of_goK (own := RX7) (ls := [some (vR 45), some (vI ci), none]) (by decide +kernel) rfl rfl (Nat.le_of_ble_eq_true rfl) rkZ ?_
  intro K hK
  refine go_aload_n (j := 0) (q := 1) rfl rfl dX7_isNext_0 rfl ?_
  refine go_aload_n (j := 0) (q := 2) rfl rfl dX7_isNext_1 rfl ?_
  refine go_getI (C0 := RX7) (T := TX7) (N := 16) (ci := 7) (i := 10) (q := 5) rfl igX7 (by first | assumption | rfl) (by decide) fl_X7_190 rfl dX7_isNext_2 rfl ?_
  refine go_callVi (as := [_, _]) (As := [_]) (rest := []) (n := 1) (q := 8) dX7_isNext_5 lk_X7_193 (ci := 7) (N := 16) (T := TX7) rfl (by first | assumption | rfl) rfl rfl (by decide +kernel) rfl ⟨by decide, by decide⟩ ⟨rfl, rfl⟩ (Nat.le_of_ble_eq_true rfl) (em_character hX h10 hp) rfl (fun x5 w5 h5 => ?_)
  obtain ⟨h5, rfl⟩ := h5
  refine go_iload_n (j := 1) (q := 9) rfl rfl dX7_isNext_8 rfl ?_
  refine go_icmp_ne2 (q := 12) (t := 16) dX7_isNext_9 (by decide) rfl (by rcases h5 with ⟨_, z, _⟩ | ⟨_, z⟩ <;> omega) (fun c9 => ?_) (fun c9 => ?_)
  · refine go_iconst (q := 17) dX7_isNext_16 rfl ?_
    refine go_istore_n (j := 2) (q := 18) (ls2 := [_, _, _]) rfl (by decide) rfl rfl dX7_isNext_17 rfl ?_
    refine go_aload_n (j := 0) (q := 19) rfl rfl dX7_isNext_18 rfl ?_
    refine go_dup (q := 20) (fun _ z => by cases z) dX7_isNext_19 rfl ?_
    refine go_getI (C0 := RX7) (T := TX7) (N := 16) (ci := 7) (i := 10) (q := 23) rfl igX7 (by first | assumption | rfl) (by decide) fl_X7_190 rfl dX7_isNext_20 rfl ?_
    refine go_iload_n (j := 2) (q := 24) rfl rfl dX7_isNext_23 rfl ?_
    refine go_if_eqT (t := 31) dX7_isNext_24 (by decide) (by decide) ?_
    refine go_iconst (q := 32) dX7_isNext_31 rfl ?_
    refine go_iadd (q := 33) dX7_isNext_32 rfl ?_
    refine go_putI (C0 := RX7) (T := TX7) (N := 16) (ci := 7) (i := 10) (q := 36) rfl igX7 (by first | assumption | rfl) (by decide) fl_X7_190 rfl tyX7 tyX7_ok nmX7 rfl rfl dX7_isNext_33 rfl ?_
    refine go_iload_n (j := 2) (q := 37) rfl rfl dX7_isNext_36 rfl ?_
    refine go_iret dX7_isNext_37 ?_
    subst hK
    first
    | exact Or.inl ⟨rfl, ⟨by rcases h5 with ⟨z1, z2, z3⟩ | ⟨z1, z2⟩ <;> omega, by rw [mup_eq]; omega⟩, fun c k z => mup_ne (by omega)⟩
    | exact Or.inr ⟨rfl, ⟨by rcases h5 with ⟨z1, z2, z3⟩ | ⟨z1, z2⟩ <;> omega, by rw [mup_eq]; omega⟩, fun c k z => mup_ne (by omega)⟩
  · refine go_iconst (q := 13) dX7_isNext_12 rfl ?_
    refine go_goto (q := 17) dX7_isNext_13 (by decide) ?_
    refine go_istore_n (j := 2) (q := 18) (ls2 := [_, _, _]) rfl (by decide) rfl rfl dX7_isNext_17 rfl ?_
    refine go_aload_n (j := 0) (q := 19) rfl rfl dX7_isNext_18 rfl ?_
    refine go_dup (q := 20) (fun _ z => by cases z) dX7_isNext_19 rfl ?_
    refine go_getI (C0 := RX7) (T := TX7) (N := 16) (ci := 7) (i := 10) (q := 23) rfl igX7 (by first | assumption | rfl) (by decide) fl_X7_190 rfl dX7_isNext_20 rfl ?_
    refine go_iload_n (j := 2) (q := 24) rfl rfl dX7_isNext_23 rfl ?_
    refine go_if_eqF (q := 27) (t := 31) dX7_isNext_24 rfl (by decide) (by decide) ?_
    refine go_iconst (q := 28) dX7_isNext_27 rfl ?_
    refine go_goto (q := 32) dX7_isNext_28 (by decide) ?_
    refine go_iadd (q := 33) dX7_isNext_32 rfl ?_
    refine go_putI (C0 := RX7) (T := TX7) (N := 16) (ci := 7) (i := 10) (q := 36) rfl igX7 (by first | assumption | rfl) (by decide) fl_X7_190 rfl tyX7 tyX7_ok nmX7 rfl rfl dX7_isNext_33 rfl ?_
    refine go_iload_n (j := 2) (q := 37) rfl rfl dX7_isNext_36 rfl ?_
    refine go_iret dX7_isNext_37 ?_
    subst hK
    first
    | exact Or.inl ⟨rfl, ⟨by rcases h5 with ⟨z1, z2, z3⟩ | ⟨z1, z2⟩ <;> omega, by rw [mup_eq]; omega⟩, fun c k z => mup_ne (by omega)⟩
    | exact Or.inr ⟨rfl, ⟨by rcases h5 with ⟨z1, z2, z3⟩ | ⟨z1, z2⟩ <;> omega, by rw [mup_eq]; omega⟩, fun c k z => mup_ne (by omega)⟩
theorem em_arcRead (hX : XM w tl t) (h10 : w 45 10 = (p : Int)) (hp : p < 100) : eX7_arcRead l D ck ad shA [vR 45] w (Pi fun v w1 => ((v = ((t p - 48 : Nat) : Int) ∧ (p < tl ∧ 48 ≤ t p ∧ t p ≤ 54) ∧ w1 45 10 = ((p + 1 : Nat) : Int)) ∨ (v = -6 ∧ ¬ (p < tl ∧ 48 ≤ t p ∧ t p ≤ 54) ∧ w1 45 10 = (p : Int))) ∧ ∀ c k, ¬ (c = 45 ∧ k = 10) → w1 c k = w c k) := by
  refine ev_of_goK (own := RX7) (ls := [some (vR 45), none]) (by decide +kernel) rfl rfl (Nat.le_of_ble_eq_true rfl) rkI ?_
  intro K hK
  refine go_aload_n (j := 0) (q := 1) rfl rfl dX7_arcRead_0 rfl ?_
  refine go_aload_n (j := 0) (q := 2) rfl rfl dX7_arcRead_1 rfl ?_
  refine go_getI (C0 := RX7) (T := TX7) (N := 16) (ci := 7) (i := 10) (q := 5) rfl igX7 (by first | assumption | rfl) (by decide) fl_X7_190 rfl dX7_arcRead_2 rfl ?_
  refine go_callVi (as := [_, _]) (As := [_]) (rest := []) (n := 1) (q := 8) dX7_arcRead_5 lk_X7_193 (ci := 7) (N := 16) (T := TX7) rfl (by first | assumption | rfl) rfl rfl (by decide +kernel) rfl ⟨by decide, by decide⟩ ⟨rfl, rfl⟩ (Nat.le_of_ble_eq_true rfl) (em_character hX h10 hp) rfl (fun x5 w5 h5 => ?_)
  obtain ⟨h5, rfl⟩ := h5
  refine go_bipush (q := 10) rfl dX7_arcRead_8 rfl ?_
  refine go_isub (q := 11) dX7_arcRead_10 rfl ?_
  refine go_istore_n (j := 1) (q := 12) (ls2 := [_, _]) rfl (by decide) rfl rfl dX7_arcRead_11 rfl ?_
  refine go_iload_n (j := 1) (q := 13) rfl rfl dX7_arcRead_12 rfl ?_
  refine go_iconst (q := 14) dX7_arcRead_13 rfl ?_
  refine go_bipush (q := 16) rfl dX7_arcRead_14 rfl ?_
  refine go_callSz (as := [_, _, _]) (rest := []) (n := 3) (q := 19) dX7_arcRead_16 lk_X7_35 rfl (by decide +kernel) rfl ⟨by decide, by decide⟩ ⟨rfl, rfl⟩ (Nat.le_of_ble_eq_true rfl) (em_within (by rcases h5 with ⟨_, z, _⟩ | ⟨_, z⟩ <;> omega)) rfl (fun w16 h16 => ?_) (fun w16 h16 => ?_)
  · obtain ⟨rfl, h16⟩ := h16
    refine go_if_neT (t := 25) dX7_arcRead_19 (by decide) (by decide) ?_
    refine go_aload_n (j := 0) (q := 26) rfl rfl dX7_arcRead_25 rfl ?_
    refine go_dup (q := 27) (fun _ z => by cases z) dX7_arcRead_26 rfl ?_
    refine go_getI (C0 := RX7) (T := TX7) (N := 16) (ci := 7) (i := 10) (q := 30) rfl igX7 (by first | assumption | rfl) (by decide) fl_X7_190 rfl dX7_arcRead_27 rfl ?_
    refine go_iconst (q := 31) dX7_arcRead_30 rfl ?_
    refine go_iadd (q := 32) dX7_arcRead_31 rfl ?_
    refine go_putI (C0 := RX7) (T := TX7) (N := 16) (ci := 7) (i := 10) (q := 35) rfl igX7 (by first | assumption | rfl) (by decide) fl_X7_190 rfl tyX7 tyX7_ok nmX7 rfl rfl dX7_arcRead_32 rfl ?_
    refine go_iload_n (j := 1) (q := 36) rfl rfl dX7_arcRead_35 rfl ?_
    refine go_iret dX7_arcRead_36 ?_
    subst hK
    exact ⟨_, rfl, Or.inl ⟨by rcases h5 with ⟨z1, z2, z3⟩ | ⟨z1, z2⟩ <;> omega, by rcases h5 with ⟨z1, z2, z3⟩ | ⟨z1, z2⟩ <;> omega, by rw [mup_eq, h10]; omega⟩, fun c k z => mup_ne (by omega)⟩
  · obtain ⟨rfl, h16⟩ := h16
    refine go_if_neF (q := 22) (t := 25) dX7_arcRead_19 rfl (by decide) (by decide) ?_
    refine go_bipush (q := 24) rfl dX7_arcRead_22 rfl ?_
    refine go_iret dX7_arcRead_24 ?_
    subst hK
    exact ⟨_, rfl, Or.inr ⟨rfl, by rcases h5 with ⟨z1, z2, z3⟩ | ⟨z1, z2⟩ <;> omega, h10⟩, fun c k _ => rfl⟩
theorem em_readsCrossing (hX : XM w tl t) {k : Nat} (hk : k ≤ 9) (h10 : w 45 10 = ((7 * k : Nat) : Int)) :
    eX7_readsCrossing l D ck ad shA [vR 45] w (Pz (fun w1 => ((∀ j, j < 7 * k + 6 → 7 * k ≤ j → j < tl ∧ okc j (t j)) ∧ (w1 45 10 = ((7 * k + 6 : Nat) : Int) ∧ w1 45 11 = w 45 11 + 1) ∧ (w1 45 12 = (gTx t k 0 : Int) ∧ w1 45 13 = (gTx t k 1 : Int) ∧ w1 45 14 = (gTx t k 2 : Int) ∧ w1 45 15 = sTx t k)) ∧ ∀ c k, ¬ (c = 45 ∧ 10 ≤ k) → w1 c k = w c k)
      (fun w1 => (∃ q : Nat, (7 * k ≤ q ∧ q < 7 * k + 6) ∧ (∀ j, j < q → 7 * k ≤ j → j < tl ∧ okc j (t j)) ∧ ¬ (q < tl ∧ okc q (t q)) ∧ w1 45 10 = (q : Int)) ∧ ∀ c k, ¬ (c = 45 ∧ 10 ≤ k) → w1 c k = w c k)) := by
  have hb : ∀ j, j < 7 * k + 6 → j < 69 := fun j hj => by omega
  refine ev_of_goK (own := RX7) (ls := [some (vR 45)]) (by decide +kernel) rfl rfl (Nat.le_of_ble_eq_true rfl) rkZ ?_
  intro K hK
  refine go_aload_n (j := 0) (q := 1) rfl rfl dX7_readsCrossing_0 rfl ?_
  refine go_aload_n (j := 0) (q := 2) rfl rfl dX7_readsCrossing_1 rfl ?_
  refine go_callVi (as := [_]) (As := []) (rest := [_]) (n := 0) (q := 5) dX7_readsCrossing_2 lk_X7_196 (ci := 7) (N := 16) (T := TX7) rfl (by first | assumption | rfl) rfl rfl (by decide +kernel) rfl ⟨by decide, by decide⟩ ⟨rfl, rfl⟩ (Nat.le_of_ble_eq_true rfl) (em_arcRead hX h10 (by omega)) rfl (fun x2 w2 h2 => ?_)
  obtain ⟨h2, f2⟩ := h2
  refine go_putI (C0 := RX7) (T := TX7) (N := 16) (ci := 7) (i := 12) (q := 8) rfl igX7 (by first | assumption | rfl) (by decide) fl_X7_199 rfl tyX7 tyX7_ok nmX7 rfl rfl dX7_readsCrossing_5 rfl ?_
  obtain ⟨u0, hu0⟩ : ∃ u0, u0 = mup w2 45 12 x2 := ⟨_, rfl⟩
  rw [← hu0]
  have e0 : u0 45 12 = x2 := by rw [hu0, mup_eq]
  have g0 : ∀ c k, ¬ (c = 45 ∧ k = 12) → u0 c k = w2 c k := fun c k z => by rw [hu0, mup_ne (by omega)]
  have F0 : ∀ c k, ¬ (c = 45 ∧ 10 ≤ k) → u0 c k = w c k := fun c k z => by rw [g0 _ _ (by omega)]; exact f2 _ _ (by omega)
  have X0 : XM u0 tl t := XM_c hX (F0 _ _ (by omega)) (fun k => F0 _ _ (by omega))
  refine go_aload_n (j := 0) (q := 9) rfl rfl dX7_readsCrossing_8 rfl ?_
  refine go_getI (C0 := RX7) (T := TX7) (N := 16) (ci := 7) (i := 12) (q := 12) rfl igX7 (by first | assumption | rfl) (by decide) fl_X7_199 rfl dX7_readsCrossing_9 rfl ?_
  refine go_bipush (q := 14) rfl dX7_readsCrossing_12 rfl ?_
  refine go_icmp_eq2 (q := 17) (t := 26) dX7_readsCrossing_14 (by decide) rfl (by rcases h2 with ⟨z, z1, _⟩ | ⟨z, _⟩ <;> omega) (fun c14 => ?_) (fun c14 => ?_)
  · have n0 : ¬ (7 * k < tl ∧ 48 ≤ t (7 * k) ∧ t (7 * k) ≤ 54) ∧ u0 45 10 = ((7 * k : Nat) : Int) := by
      rw [g0 _ _ (by omega)]
      rcases h2 with ⟨z, z1, _⟩ | ⟨z, z1⟩
      · omega
      · exact z1
    refine go_iconst (q := 27) dX7_readsCrossing_26 rfl ?_
    refine go_iret dX7_readsCrossing_27 ?_
    subst hK
    first
    | (have zq := n1
       refine Or.inr ⟨rfl, ⟨7 * k + 1, by omega, fun j h1 h2 => ?_, fun z => n1 ⟨z.1, z.2.2.1 (by omega)⟩, a1⟩, F1⟩
       have ej : j = 7 * k := by omega
       subst ej
       exact ⟨p0.1.1, by unfold okc; omega⟩)
    | exact Or.inr ⟨rfl, ⟨7 * k, by omega, fun j h1 h2 => by omega, fun z => n0.1 ⟨z.1, z.2.2.2.2.2 (by omega)⟩, n0.2⟩, F0⟩
  · have p0 : (7 * k < tl ∧ 48 ≤ t (7 * k) ∧ t (7 * k) ≤ 54) ∧ u0 45 10 = ((7 * k + 1 : Nat) : Int) ∧ x2 = ((t (7 * k) - 48 : Nat) : Int) := by
      rw [g0 _ _ (by omega)]
      rcases h2 with ⟨z, z1, z2⟩ | ⟨z, z1⟩
      · exact ⟨z1, z2, z⟩
      · omega
    refine go_aload_n (j := 0) (q := 18) rfl rfl dX7_readsCrossing_17 rfl ?_
    refine go_bipush (q := 20) rfl dX7_readsCrossing_18 rfl ?_
    refine go_callVz (as := [_, _]) (As := [_]) (rest := []) (n := 1) (q := 23) dX7_readsCrossing_20 lk_X7_202 (ci := 7) (N := 16) (T := TX7) rfl (by first | assumption | rfl) rfl rfl (by decide +kernel) rfl ⟨by decide, by decide⟩ ⟨rfl, rfl⟩ (Nat.le_of_ble_eq_true rfl) (em_isNext X0 p0.2.1 (by omega) (ch := 44) rfl (by omega)) rfl (fun w20 h20 => ?_) (fun w20 h20 => ?_)
    · obtain ⟨⟨p1, a1⟩, f20⟩ := h20
      have F1 : ∀ c k, ¬ (c = 45 ∧ 10 ≤ k) → w20 c k = w c k := fun c k z => by rw [f20 _ _ (by omega)]; exact F0 _ _ z
      have X1 : XM w20 tl t := XM_c hX (F1 _ _ (by omega)) (fun k => F1 _ _ (by omega))
      refine go_if_neT (t := 28) dX7_readsCrossing_23 (by decide) (by decide) ?_
      refine go_aload_n (j := 0) (q := 29) rfl rfl dX7_readsCrossing_28 rfl ?_
      refine go_aload_n (j := 0) (q := 30) rfl rfl dX7_readsCrossing_29 rfl ?_
      refine go_callVi (as := [_]) (As := []) (rest := [_]) (n := 0) (q := 33) dX7_readsCrossing_30 lk_X7_196 (ci := 7) (N := 16) (T := TX7) rfl (by first | assumption | rfl) rfl rfl (by decide +kernel) rfl ⟨by decide, by decide⟩ ⟨rfl, rfl⟩ (Nat.le_of_ble_eq_true rfl) (em_arcRead X1 a1 (by omega)) rfl (fun x30 w30 h30 => ?_)
      obtain ⟨h30, f30⟩ := h30
      refine go_putI (C0 := RX7) (T := TX7) (N := 16) (ci := 7) (i := 13) (q := 36) rfl igX7 (by first | assumption | rfl) (by decide) fl_X7_205 rfl tyX7 tyX7_ok nmX7 rfl rfl dX7_readsCrossing_33 rfl ?_
      obtain ⟨u1, hu1⟩ : ∃ u1, u1 = mup w30 45 13 x30 := ⟨_, rfl⟩
      rw [← hu1]
      have e1 : u1 45 13 = x30 := by rw [hu1, mup_eq]
      have g1 : ∀ c k, ¬ (c = 45 ∧ k = 13) → u1 c k = w30 c k := fun c k z => by rw [hu1, mup_ne (by omega)]
      have F2 : ∀ c k, ¬ (c = 45 ∧ 10 ≤ k) → u1 c k = w c k := fun c k z => by rw [g1 _ _ (by omega), f30 _ _ (by omega)]; exact F1 _ _ z
      have X2 : XM u1 tl t := XM_c hX (F2 _ _ (by omega)) (fun k => F2 _ _ (by omega))
      have q0 : u1 45 12 = x2 := by rw [g1 _ _ (by omega), f30 _ _ (by omega), f20 _ _ (by omega)]; exact e0
      have c1 : u1 45 11 = w 45 11 := by rw [g1 _ _ (by omega), f30 _ _ (by omega), f20 _ _ (by omega), g0 _ _ (by omega), f2 _ _ (by omega)]
      refine go_aload_n (j := 0) (q := 37) rfl rfl dX7_readsCrossing_36 rfl ?_
      refine go_getI (C0 := RX7) (T := TX7) (N := 16) (ci := 7) (i := 13) (q := 40) rfl igX7 (by first | assumption | rfl) (by decide) fl_X7_205 rfl dX7_readsCrossing_37 rfl ?_
      refine go_bipush (q := 42) rfl dX7_readsCrossing_40 rfl ?_
      refine go_icmp_eq2 (q := 45) (t := 54) dX7_readsCrossing_42 (by decide) rfl (by rcases h30 with ⟨z, z1, _⟩ | ⟨z, _⟩ <;> omega) (fun c42 => ?_) (fun c42 => ?_)
      · have n2 : ¬ (7 * k + 1 + 1 < tl ∧ 48 ≤ t (7 * k + 1 + 1) ∧ t (7 * k + 1 + 1) ≤ 54) ∧ u1 45 10 = ((7 * k + 1 + 1 : Nat) : Int) := by
          rw [g1 _ _ (by omega)]
          rcases h30 with ⟨z, z1, _⟩ | ⟨z, z1⟩
          · omega
          · exact z1
        refine go_iconst (q := 55) dX7_readsCrossing_54 rfl ?_
        refine go_iret dX7_readsCrossing_55 ?_
        subst hK
        first
        | (have zq := n3
           refine Or.inr ⟨rfl, ⟨7 * k + 1 + 1 + 1, by omega, fun j h1 h2 => ?_, fun z => n3 ⟨z.1, z.2.2.1 (by omega)⟩, a3⟩, F3⟩
           rcases (show j = 7 * k ∨ j = 7 * k + 1 ∨ j = 7 * k + 1 + 1 by omega) with ej | ej | ej <;> subst ej
           · exact ⟨p0.1.1, by unfold okc; omega⟩
           · exact ⟨p1.1, by unfold okc; omega⟩
           · exact ⟨p2.1.1, by unfold okc; omega⟩)
        | (refine Or.inr ⟨rfl, ⟨7 * k + 1 + 1, by omega, fun j h1 h2 => ?_, fun z => n2.1 ⟨z.1, z.2.2.2.2.2 (by omega)⟩, n2.2⟩, F2⟩
           rcases (show j = 7 * k ∨ j = 7 * k + 1 by omega) with ej | ej <;> subst ej
           · exact ⟨p0.1.1, by unfold okc; omega⟩
           · exact ⟨p1.1, by unfold okc; omega⟩)
      · have p2 : (7 * k + 1 + 1 < tl ∧ 48 ≤ t (7 * k + 1 + 1) ∧ t (7 * k + 1 + 1) ≤ 54) ∧ u1 45 10 = ((7 * k + 1 + 1 + 1 : Nat) : Int) ∧ x30 = ((t (7 * k + 1 + 1) - 48 : Nat) : Int) := by
          rw [g1 _ _ (by omega)]
          rcases h30 with ⟨z, z1, z2⟩ | ⟨z, z1⟩
          · exact ⟨z1, z2, z⟩
          · omega
        refine go_aload_n (j := 0) (q := 46) rfl rfl dX7_readsCrossing_45 rfl ?_
        refine go_bipush (q := 48) rfl dX7_readsCrossing_46 rfl ?_
        refine go_callVz (as := [_, _]) (As := [_]) (rest := []) (n := 1) (q := 51) dX7_readsCrossing_48 lk_X7_202 (ci := 7) (N := 16) (T := TX7) rfl (by first | assumption | rfl) rfl rfl (by decide +kernel) rfl ⟨by decide, by decide⟩ ⟨rfl, rfl⟩ (Nat.le_of_ble_eq_true rfl) (em_isNext X2 p2.2.1 (by omega) (ch := 44) rfl (by omega)) rfl (fun w48 h48 => ?_) (fun w48 h48 => ?_)
        · obtain ⟨⟨p3, a3⟩, f48⟩ := h48
          have F3 : ∀ c k, ¬ (c = 45 ∧ 10 ≤ k) → w48 c k = w c k := fun c k z => by rw [f48 _ _ (by omega)]; exact F2 _ _ z
          have X3 : XM w48 tl t := XM_c hX (F3 _ _ (by omega)) (fun k => F3 _ _ (by omega))
          refine go_if_neT (t := 56) dX7_readsCrossing_51 (by decide) (by decide) ?_
          refine go_aload_n (j := 0) (q := 57) rfl rfl dX7_readsCrossing_56 rfl ?_
          refine go_aload_n (j := 0) (q := 58) rfl rfl dX7_readsCrossing_57 rfl ?_
          refine go_callVi (as := [_]) (As := []) (rest := [_]) (n := 0) (q := 61) dX7_readsCrossing_58 lk_X7_196 (ci := 7) (N := 16) (T := TX7) rfl (by first | assumption | rfl) rfl rfl (by decide +kernel) rfl ⟨by decide, by decide⟩ ⟨rfl, rfl⟩ (Nat.le_of_ble_eq_true rfl) (em_arcRead X3 a3 (by omega)) rfl (fun x58 w58 h58 => ?_)
          obtain ⟨h58, f58⟩ := h58
          refine go_putI (C0 := RX7) (T := TX7) (N := 16) (ci := 7) (i := 14) (q := 64) rfl igX7 (by first | assumption | rfl) (by decide) fl_X7_208 rfl tyX7 tyX7_ok nmX7 rfl rfl dX7_readsCrossing_61 rfl ?_
          obtain ⟨u2, hu2⟩ : ∃ u2, u2 = mup w58 45 14 x58 := ⟨_, rfl⟩
          rw [← hu2]
          have e2 : u2 45 14 = x58 := by rw [hu2, mup_eq]
          have g2 : ∀ c k, ¬ (c = 45 ∧ k = 14) → u2 c k = w58 c k := fun c k z => by rw [hu2, mup_ne (by omega)]
          have F4 : ∀ c k, ¬ (c = 45 ∧ 10 ≤ k) → u2 c k = w c k := fun c k z => by rw [g2 _ _ (by omega), f58 _ _ (by omega)]; exact F3 _ _ z
          have X4 : XM u2 tl t := XM_c hX (F4 _ _ (by omega)) (fun k => F4 _ _ (by omega))
          have q0' : u2 45 12 = x2 := by rw [g2 _ _ (by omega), f58 _ _ (by omega), f48 _ _ (by omega)]; exact q0
          have q1' : u2 45 13 = x30 := by rw [g2 _ _ (by omega), f58 _ _ (by omega), f48 _ _ (by omega)]; exact e1
          have c2 : u2 45 11 = w 45 11 := by rw [g2 _ _ (by omega), f58 _ _ (by omega), f48 _ _ (by omega)]; exact c1
          refine go_aload_n (j := 0) (q := 65) rfl rfl dX7_readsCrossing_64 rfl ?_
          refine go_getI (C0 := RX7) (T := TX7) (N := 16) (ci := 7) (i := 14) (q := 68) rfl igX7 (by first | assumption | rfl) (by decide) fl_X7_208 rfl dX7_readsCrossing_65 rfl ?_
          refine go_bipush (q := 70) rfl dX7_readsCrossing_68 rfl ?_
          refine go_icmp_ne2 (q := 73) (t := 75) dX7_readsCrossing_70 (by decide) rfl (by rcases h58 with ⟨z, z1, _⟩ | ⟨z, _⟩ <;> omega) (fun c70 => ?_) (fun c70 => ?_)
          · have p4 : (7 * k + 1 + 1 + 1 + 1 < tl ∧ 48 ≤ t (7 * k + 1 + 1 + 1 + 1) ∧ t (7 * k + 1 + 1 + 1 + 1) ≤ 54) ∧ u2 45 10 = ((7 * k + 1 + 1 + 1 + 1 + 1 : Nat) : Int) ∧ x58 = ((t (7 * k + 1 + 1 + 1 + 1) - 48 : Nat) : Int) := by
              rw [g2 _ _ (by omega)]
              rcases h58 with ⟨z, z1, z2⟩ | ⟨z, z1⟩
              · exact ⟨z1, z2, z⟩
              · omega
            have pj : ∀ j, j < 7 * k + 5 → 7 * k ≤ j → j < tl ∧ okc j (t j) := by
              intro j h1 h2
              rcases (show j = 7 * k ∨ j = 7 * k + 1 ∨ j = 7 * k + 1 + 1 ∨ j = 7 * k + 1 + 1 + 1 ∨ j = 7 * k + 1 + 1 + 1 + 1 by omega) with ej | ej | ej | ej | ej <;> subst ej
              · exact ⟨p0.1.1, by unfold okc; omega⟩
              · exact ⟨p1.1, by unfold okc; omega⟩
              · exact ⟨p2.1.1, by unfold okc; omega⟩
              · exact ⟨p3.1, by unfold okc; omega⟩
              · exact ⟨p4.1.1, by unfold okc; omega⟩
            refine go_aload_n (j := 0) (q := 76) rfl rfl dX7_readsCrossing_75 rfl ?_
            refine go_aload_n (j := 0) (q := 77) rfl rfl dX7_readsCrossing_76 rfl ?_
            refine go_bipush (q := 79) rfl dX7_readsCrossing_77 rfl ?_
            refine go_callVz (as := [_, _]) (As := [_]) (rest := [_]) (n := 1) (q := 82) dX7_readsCrossing_79 lk_X7_202 (ci := 7) (N := 16) (T := TX7) rfl (by first | assumption | rfl) rfl rfl (by decide +kernel) rfl ⟨by decide, by decide⟩ ⟨rfl, rfl⟩ (Nat.le_of_ble_eq_true rfl) (em_isNext X4 p4.2.1 (by omega) (ch := 43) rfl (by omega)) rfl (fun w79 h79 => ?_) (fun w79 h79 => ?_)
            · obtain ⟨⟨p5, a5⟩, f79⟩ := h79
              have F5 : ∀ c k, ¬ (c = 45 ∧ 10 ≤ k) → w79 c k = w c k := fun c k z => by rw [f79 _ _ (by omega)]; exact F4 _ _ z
              refine go_if_eqF (q := 85) (t := 89) dX7_readsCrossing_82 rfl (by decide) (by decide) ?_
              refine go_iconst (q := 86) dX7_readsCrossing_85 rfl ?_
              refine go_goto (q := 103) dX7_readsCrossing_86 (by decide) ?_
              refine go_putI (C0 := RX7) (T := TX7) (N := 16) (ci := 7) (i := 15) (q := 106) rfl igX7 (by first | assumption | rfl) (by decide) fl_X7_211 rfl tyX7 tyX7_ok nmX7 rfl rfl dX7_readsCrossing_103 rfl ?_
              refine go_aload_n (j := 0) (q := 107) rfl rfl dX7_readsCrossing_106 rfl ?_
              refine go_dup (q := 108) (fun _ z => by cases z) dX7_readsCrossing_107 rfl ?_
              refine go_getI (C0 := RX7) (T := TX7) (N := 16) (ci := 7) (i := 11) (q := 111) rfl igX7 (by first | assumption | rfl) (by decide) fl_X7_214 rfl dX7_readsCrossing_108 rfl ?_
              refine go_iconst (q := 112) dX7_readsCrossing_111 rfl ?_
              refine go_iadd (q := 113) dX7_readsCrossing_112 rfl ?_
              refine go_putI (C0 := RX7) (T := TX7) (N := 16) (ci := 7) (i := 11) (q := 116) rfl igX7 (by first | assumption | rfl) (by decide) fl_X7_214 rfl tyX7 tyX7_ok nmX7 rfl rfl dX7_readsCrossing_113 rfl ?_
              refine go_aload_n (j := 0) (q := 117) rfl rfl dX7_readsCrossing_116 rfl ?_
              refine go_getI (C0 := RX7) (T := TX7) (N := 16) (ci := 7) (i := 15) (q := 120) rfl igX7 (by first | assumption | rfl) (by decide) fl_X7_211 rfl dX7_readsCrossing_117 rfl ?_
              refine go_if_eq2 (q := 123) (t := 127) dX7_readsCrossing_120 (by decide) rfl (by rw [mup_ne (by omega), mup_eq]; omega) (fun c120 => ?_) (fun c120 => ?_)
              · (first
                 | (have zq := n6
                    refine go_iconst (q := 128) dX7_readsCrossing_127 rfl ?_
                    refine go_iret dX7_readsCrossing_128 ?_
                    subst hK
                    refine Or.inr ⟨rfl, ⟨7 * k + 1 + 1 + 1 + 1 + 1, by omega, fun j h1 h2 => pj j (by omega) h2, fun z => ?_, by rw [mup_ne (by omega), mup_ne (by omega)]; exact a6⟩, fun c k z => by rw [mup_ne (by omega), mup_ne (by omega)]; exact F6 _ _ z⟩
                    rcases z.2.2.2.1 (by omega) with z1 | z1
                    · exact n5 ⟨z.1, z1⟩
                    · exact n6 ⟨z.1, z1⟩)
                 | exact absurd c120 (by rw [mup_ne (by omega), mup_eq]; omega))
              · refine go_iconst (q := 124) dX7_readsCrossing_123 rfl ?_
                refine go_goto (q := 128) dX7_readsCrossing_124 (by decide) ?_
                refine go_iret dX7_readsCrossing_128 ?_
                subst hK
                first
                | (have zq := n6
                   exact absurd (by rw [mup_ne (by omega), mup_eq]) c120)
                | (have zq := p6
                   refine Or.inl ⟨rfl, ⟨fun j h1 h2 => ?_, ⟨by rw [mup_ne (by omega), mup_ne (by omega)]; exact a6, by rw [mup_eq, mup_ne (by omega), f92 _ _ (by omega), f79 _ _ (by omega), c2]⟩, by rw [mup_ne (by omega), mup_ne (by omega), f92 _ _ (by omega), f79 _ _ (by omega), q0']; exact p0.2.2, by rw [mup_ne (by omega), mup_ne (by omega), f92 _ _ (by omega), f79 _ _ (by omega), q1']; exact p2.2.2, by rw [mup_ne (by omega), mup_ne (by omega), f92 _ _ (by omega), f79 _ _ (by omega), e2]; exact p4.2.2, by rw [mup_ne (by omega), mup_eq]; unfold sTx; rw [if_neg (fun z => by have := p6.2; rw [show 7 * k + 1 + 1 + 1 + 1 + 1 = 7 * k + 5 by omega] at this; omega)]⟩, fun c k z => by rw [mup_ne (by omega), mup_ne (by omega)]; exact F6 _ _ z⟩
                   by_cases ej : j = 7 * k + 1 + 1 + 1 + 1 + 1
                   · subst ej; exact ⟨p6.1, by unfold okc; omega⟩
                   · exact pj j (by omega) h2)
                | (have zq := p5
                   refine Or.inl ⟨rfl, ⟨fun j h1 h2 => ?_, ⟨by rw [mup_ne (by omega), mup_ne (by omega)]; exact a5, by rw [mup_eq, mup_ne (by omega), f79 _ _ (by omega), c2]⟩, by rw [mup_ne (by omega), mup_ne (by omega), f79 _ _ (by omega), q0']; exact p0.2.2, by rw [mup_ne (by omega), mup_ne (by omega), f79 _ _ (by omega), q1']; exact p2.2.2, by rw [mup_ne (by omega), mup_ne (by omega), f79 _ _ (by omega), e2]; exact p4.2.2, by rw [mup_ne (by omega), mup_eq]; unfold sTx; rw [if_pos (by have := p5.2; rw [show 7 * k + 1 + 1 + 1 + 1 + 1 = 7 * k + 5 by omega] at this; exact this)]⟩, fun c k z => by rw [mup_ne (by omega), mup_ne (by omega)]; exact F5 _ _ z⟩
                   by_cases ej : j = 7 * k + 1 + 1 + 1 + 1 + 1
                   · subst ej; exact ⟨p5.1, by unfold okc; omega⟩
                   · exact pj j (by omega) h2)
            · obtain ⟨⟨n5, a5⟩, f79⟩ := h79
              have F5 : ∀ c k, ¬ (c = 45 ∧ 10 ≤ k) → w79 c k = w c k := fun c k z => by rw [f79 _ _ (by omega)]; exact F4 _ _ z
              have X5 : XM w79 tl t := XM_c hX (F5 _ _ (by omega)) (fun k => F5 _ _ (by omega))
              refine go_if_eqT (t := 89) dX7_readsCrossing_82 (by decide) (by decide) ?_
              refine go_aload_n (j := 0) (q := 90) rfl rfl dX7_readsCrossing_89 rfl ?_
              refine go_bipush (q := 92) rfl dX7_readsCrossing_90 rfl ?_
              refine go_callVz (as := [_, _]) (As := [_]) (rest := [_]) (n := 1) (q := 95) dX7_readsCrossing_92 lk_X7_202 (ci := 7) (N := 16) (T := TX7) rfl (by first | assumption | rfl) rfl rfl (by decide +kernel) rfl ⟨by decide, by decide⟩ ⟨rfl, rfl⟩ (Nat.le_of_ble_eq_true rfl) (em_isNext X5 a5 (by omega) (ch := 45) rfl (by omega)) rfl (fun w92 h92 => ?_) (fun w92 h92 => ?_)
              · obtain ⟨⟨p6, a6⟩, f92⟩ := h92
                have F6 : ∀ c k, ¬ (c = 45 ∧ 10 ≤ k) → w92 c k = w c k := fun c k z => by rw [f92 _ _ (by omega)]; exact F5 _ _ z
                refine go_if_eqF (q := 98) (t := 102) dX7_readsCrossing_95 rfl (by decide) (by decide) ?_
                refine go_iconst (q := 99) dX7_readsCrossing_98 rfl ?_
                refine go_goto (q := 103) dX7_readsCrossing_99 (by decide) ?_
                refine go_putI (C0 := RX7) (T := TX7) (N := 16) (ci := 7) (i := 15) (q := 106) rfl igX7 (by first | assumption | rfl) (by decide) fl_X7_211 rfl tyX7 tyX7_ok nmX7 rfl rfl dX7_readsCrossing_103 rfl ?_
                refine go_aload_n (j := 0) (q := 107) rfl rfl dX7_readsCrossing_106 rfl ?_
                refine go_dup (q := 108) (fun _ z => by cases z) dX7_readsCrossing_107 rfl ?_
                refine go_getI (C0 := RX7) (T := TX7) (N := 16) (ci := 7) (i := 11) (q := 111) rfl igX7 (by first | assumption | rfl) (by decide) fl_X7_214 rfl dX7_readsCrossing_108 rfl ?_
                refine go_iconst (q := 112) dX7_readsCrossing_111 rfl ?_
                refine go_iadd (q := 113) dX7_readsCrossing_112 rfl ?_
                refine go_putI (C0 := RX7) (T := TX7) (N := 16) (ci := 7) (i := 11) (q := 116) rfl igX7 (by first | assumption | rfl) (by decide) fl_X7_214 rfl tyX7 tyX7_ok nmX7 rfl rfl dX7_readsCrossing_113 rfl ?_
                refine go_aload_n (j := 0) (q := 117) rfl rfl dX7_readsCrossing_116 rfl ?_
                refine go_getI (C0 := RX7) (T := TX7) (N := 16) (ci := 7) (i := 15) (q := 120) rfl igX7 (by first | assumption | rfl) (by decide) fl_X7_211 rfl dX7_readsCrossing_117 rfl ?_
                refine go_if_eq2 (q := 123) (t := 127) dX7_readsCrossing_120 (by decide) rfl (by rw [mup_ne (by omega), mup_eq]; omega) (fun c120 => ?_) (fun c120 => ?_)
                · (first
                   | (have zq := n6
                      refine go_iconst (q := 128) dX7_readsCrossing_127 rfl ?_
                      refine go_iret dX7_readsCrossing_128 ?_
                      subst hK
                      refine Or.inr ⟨rfl, ⟨7 * k + 1 + 1 + 1 + 1 + 1, by omega, fun j h1 h2 => pj j (by omega) h2, fun z => ?_, by rw [mup_ne (by omega), mup_ne (by omega)]; exact a6⟩, fun c k z => by rw [mup_ne (by omega), mup_ne (by omega)]; exact F6 _ _ z⟩
                      rcases z.2.2.2.1 (by omega) with z1 | z1
                      · exact n5 ⟨z.1, z1⟩
                      · exact n6 ⟨z.1, z1⟩)
                   | exact absurd c120 (by rw [mup_ne (by omega), mup_eq]; omega))
                · refine go_iconst (q := 124) dX7_readsCrossing_123 rfl ?_
                  refine go_goto (q := 128) dX7_readsCrossing_124 (by decide) ?_
                  refine go_iret dX7_readsCrossing_128 ?_
                  subst hK
                  first
                  | (have zq := n6
                     exact absurd (by rw [mup_ne (by omega), mup_eq]) c120)
                  | (have zq := p6
                     refine Or.inl ⟨rfl, ⟨fun j h1 h2 => ?_, ⟨by rw [mup_ne (by omega), mup_ne (by omega)]; exact a6, by rw [mup_eq, mup_ne (by omega), f92 _ _ (by omega), f79 _ _ (by omega), c2]⟩, by rw [mup_ne (by omega), mup_ne (by omega), f92 _ _ (by omega), f79 _ _ (by omega), q0']; exact p0.2.2, by rw [mup_ne (by omega), mup_ne (by omega), f92 _ _ (by omega), f79 _ _ (by omega), q1']; exact p2.2.2, by rw [mup_ne (by omega), mup_ne (by omega), f92 _ _ (by omega), f79 _ _ (by omega), e2]; exact p4.2.2, by rw [mup_ne (by omega), mup_eq]; unfold sTx; rw [if_neg (fun z => by have := p6.2; rw [show 7 * k + 1 + 1 + 1 + 1 + 1 = 7 * k + 5 by omega] at this; omega)]⟩, fun c k z => by rw [mup_ne (by omega), mup_ne (by omega)]; exact F6 _ _ z⟩
                     by_cases ej : j = 7 * k + 1 + 1 + 1 + 1 + 1
                     · subst ej; exact ⟨p6.1, by unfold okc; omega⟩
                     · exact pj j (by omega) h2)
                  | (have zq := p5
                     refine Or.inl ⟨rfl, ⟨fun j h1 h2 => ?_, ⟨by rw [mup_ne (by omega), mup_ne (by omega)]; exact a5, by rw [mup_eq, mup_ne (by omega), f79 _ _ (by omega), c2]⟩, by rw [mup_ne (by omega), mup_ne (by omega), f79 _ _ (by omega), q0']; exact p0.2.2, by rw [mup_ne (by omega), mup_ne (by omega), f79 _ _ (by omega), q1']; exact p2.2.2, by rw [mup_ne (by omega), mup_ne (by omega), f79 _ _ (by omega), e2]; exact p4.2.2, by rw [mup_ne (by omega), mup_eq]; unfold sTx; rw [if_pos (by have := p5.2; rw [show 7 * k + 1 + 1 + 1 + 1 + 1 = 7 * k + 5 by omega] at this; exact this)]⟩, fun c k z => by rw [mup_ne (by omega), mup_ne (by omega)]; exact F5 _ _ z⟩
                     by_cases ej : j = 7 * k + 1 + 1 + 1 + 1 + 1
                     · subst ej; exact ⟨p5.1, by unfold okc; omega⟩
                     · exact pj j (by omega) h2)
              · obtain ⟨⟨n6, a6⟩, f92⟩ := h92
                have F6 : ∀ c k, ¬ (c = 45 ∧ 10 ≤ k) → w92 c k = w c k := fun c k z => by rw [f92 _ _ (by omega)]; exact F5 _ _ z
                refine go_if_eqT (t := 102) dX7_readsCrossing_95 (by decide) (by decide) ?_
                refine go_iconst (q := 103) dX7_readsCrossing_102 rfl ?_
                refine go_putI (C0 := RX7) (T := TX7) (N := 16) (ci := 7) (i := 15) (q := 106) rfl igX7 (by first | assumption | rfl) (by decide) fl_X7_211 rfl tyX7 tyX7_ok nmX7 rfl rfl dX7_readsCrossing_103 rfl ?_
                refine go_aload_n (j := 0) (q := 107) rfl rfl dX7_readsCrossing_106 rfl ?_
                refine go_dup (q := 108) (fun _ z => by cases z) dX7_readsCrossing_107 rfl ?_
                refine go_getI (C0 := RX7) (T := TX7) (N := 16) (ci := 7) (i := 11) (q := 111) rfl igX7 (by first | assumption | rfl) (by decide) fl_X7_214 rfl dX7_readsCrossing_108 rfl ?_
                refine go_iconst (q := 112) dX7_readsCrossing_111 rfl ?_
                refine go_iadd (q := 113) dX7_readsCrossing_112 rfl ?_
                refine go_putI (C0 := RX7) (T := TX7) (N := 16) (ci := 7) (i := 11) (q := 116) rfl igX7 (by first | assumption | rfl) (by decide) fl_X7_214 rfl tyX7 tyX7_ok nmX7 rfl rfl dX7_readsCrossing_113 rfl ?_
                refine go_aload_n (j := 0) (q := 117) rfl rfl dX7_readsCrossing_116 rfl ?_
                refine go_getI (C0 := RX7) (T := TX7) (N := 16) (ci := 7) (i := 15) (q := 120) rfl igX7 (by first | assumption | rfl) (by decide) fl_X7_211 rfl dX7_readsCrossing_117 rfl ?_
                refine go_if_eq2 (q := 123) (t := 127) dX7_readsCrossing_120 (by decide) rfl (by rw [mup_ne (by omega), mup_eq]; omega) (fun c120 => ?_) (fun c120 => ?_)
                · (first
                   | (have zq := n6
                      refine go_iconst (q := 128) dX7_readsCrossing_127 rfl ?_
                      refine go_iret dX7_readsCrossing_128 ?_
                      subst hK
                      refine Or.inr ⟨rfl, ⟨7 * k + 1 + 1 + 1 + 1 + 1, by omega, fun j h1 h2 => pj j (by omega) h2, fun z => ?_, by rw [mup_ne (by omega), mup_ne (by omega)]; exact a6⟩, fun c k z => by rw [mup_ne (by omega), mup_ne (by omega)]; exact F6 _ _ z⟩
                      rcases z.2.2.2.1 (by omega) with z1 | z1
                      · exact n5 ⟨z.1, z1⟩
                      · exact n6 ⟨z.1, z1⟩)
                   | exact absurd c120 (by rw [mup_ne (by omega), mup_eq]; omega))
                · refine go_iconst (q := 124) dX7_readsCrossing_123 rfl ?_
                  refine go_goto (q := 128) dX7_readsCrossing_124 (by decide) ?_
                  refine go_iret dX7_readsCrossing_128 ?_
                  subst hK
                  first
                  | (have zq := n6
                     exact absurd (by rw [mup_ne (by omega), mup_eq]) c120)
                  | (have zq := p6
                     refine Or.inl ⟨rfl, ⟨fun j h1 h2 => ?_, ⟨by rw [mup_ne (by omega), mup_ne (by omega)]; exact a6, by rw [mup_eq, mup_ne (by omega), f92 _ _ (by omega), f79 _ _ (by omega), c2]⟩, by rw [mup_ne (by omega), mup_ne (by omega), f92 _ _ (by omega), f79 _ _ (by omega), q0']; exact p0.2.2, by rw [mup_ne (by omega), mup_ne (by omega), f92 _ _ (by omega), f79 _ _ (by omega), q1']; exact p2.2.2, by rw [mup_ne (by omega), mup_ne (by omega), f92 _ _ (by omega), f79 _ _ (by omega), e2]; exact p4.2.2, by rw [mup_ne (by omega), mup_eq]; unfold sTx; rw [if_neg (fun z => by have := p6.2; rw [show 7 * k + 1 + 1 + 1 + 1 + 1 = 7 * k + 5 by omega] at this; omega)]⟩, fun c k z => by rw [mup_ne (by omega), mup_ne (by omega)]; exact F6 _ _ z⟩
                     by_cases ej : j = 7 * k + 1 + 1 + 1 + 1 + 1
                     · subst ej; exact ⟨p6.1, by unfold okc; omega⟩
                     · exact pj j (by omega) h2)
                  | (have zq := p5
                     refine Or.inl ⟨rfl, ⟨fun j h1 h2 => ?_, ⟨by rw [mup_ne (by omega), mup_ne (by omega)]; exact a5, by rw [mup_eq, mup_ne (by omega), f79 _ _ (by omega), c2]⟩, by rw [mup_ne (by omega), mup_ne (by omega), f79 _ _ (by omega), q0']; exact p0.2.2, by rw [mup_ne (by omega), mup_ne (by omega), f79 _ _ (by omega), q1']; exact p2.2.2, by rw [mup_ne (by omega), mup_ne (by omega), f79 _ _ (by omega), e2]; exact p4.2.2, by rw [mup_ne (by omega), mup_eq]; unfold sTx; rw [if_pos (by have := p5.2; rw [show 7 * k + 1 + 1 + 1 + 1 + 1 = 7 * k + 5 by omega] at this; exact this)]⟩, fun c k z => by rw [mup_ne (by omega), mup_ne (by omega)]; exact F5 _ _ z⟩
                     by_cases ej : j = 7 * k + 1 + 1 + 1 + 1 + 1
                     · subst ej; exact ⟨p5.1, by unfold okc; omega⟩
                     · exact pj j (by omega) h2)
          · have n4 : ¬ (7 * k + 1 + 1 + 1 + 1 < tl ∧ 48 ≤ t (7 * k + 1 + 1 + 1 + 1) ∧ t (7 * k + 1 + 1 + 1 + 1) ≤ 54) ∧ u2 45 10 = ((7 * k + 1 + 1 + 1 + 1 : Nat) : Int) := by
              rw [g2 _ _ (by omega)]
              rcases h58 with ⟨z, z1, _⟩ | ⟨z, z1⟩
              · omega
              · exact z1
            refine go_iconst (q := 74) dX7_readsCrossing_73 rfl ?_
            refine go_iret dX7_readsCrossing_74 ?_
            subst hK
            refine Or.inr ⟨rfl, ⟨7 * k + 1 + 1 + 1 + 1, by omega, fun j h1 h2 => ?_, fun z => n4.1 ⟨z.1, z.2.2.2.2.2 (by omega)⟩, n4.2⟩, F4⟩
            rcases (show j = 7 * k ∨ j = 7 * k + 1 ∨ j = 7 * k + 1 + 1 ∨ j = 7 * k + 1 + 1 + 1 by omega) with ej | ej | ej | ej <;> subst ej
            · exact ⟨p0.1.1, by unfold okc; omega⟩
            · exact ⟨p1.1, by unfold okc; omega⟩
            · exact ⟨p2.1.1, by unfold okc; omega⟩
            · exact ⟨p3.1, by unfold okc; omega⟩
        · obtain ⟨⟨n3, a3⟩, f48⟩ := h48
          have F3 : ∀ c k, ¬ (c = 45 ∧ 10 ≤ k) → w48 c k = w c k := fun c k z => by rw [f48 _ _ (by omega)]; exact F2 _ _ z
          refine go_if_neF (q := 54) (t := 56) dX7_readsCrossing_51 rfl (by decide) (by decide) ?_
          refine go_iconst (q := 55) dX7_readsCrossing_54 rfl ?_
          refine go_iret dX7_readsCrossing_55 ?_
          subst hK
          first
          | (have zq := n3
             refine Or.inr ⟨rfl, ⟨7 * k + 1 + 1 + 1, by omega, fun j h1 h2 => ?_, fun z => n3 ⟨z.1, z.2.2.1 (by omega)⟩, a3⟩, F3⟩
             rcases (show j = 7 * k ∨ j = 7 * k + 1 ∨ j = 7 * k + 1 + 1 by omega) with ej | ej | ej <;> subst ej
             · exact ⟨p0.1.1, by unfold okc; omega⟩
             · exact ⟨p1.1, by unfold okc; omega⟩
             · exact ⟨p2.1.1, by unfold okc; omega⟩)
          | (refine Or.inr ⟨rfl, ⟨7 * k + 1 + 1, by omega, fun j h1 h2 => ?_, fun z => n2.1 ⟨z.1, z.2.2.2.2.2 (by omega)⟩, n2.2⟩, F2⟩
             rcases (show j = 7 * k ∨ j = 7 * k + 1 by omega) with ej | ej <;> subst ej
             · exact ⟨p0.1.1, by unfold okc; omega⟩
             · exact ⟨p1.1, by unfold okc; omega⟩)
    · obtain ⟨⟨n1, a1⟩, f20⟩ := h20
      have F1 : ∀ c k, ¬ (c = 45 ∧ 10 ≤ k) → w20 c k = w c k := fun c k z => by rw [f20 _ _ (by omega)]; exact F0 _ _ z
      refine go_if_neF (q := 26) (t := 28) dX7_readsCrossing_23 rfl (by decide) (by decide) ?_
      refine go_iconst (q := 27) dX7_readsCrossing_26 rfl ?_
      refine go_iret dX7_readsCrossing_27 ?_
      subst hK
      first
      | (have zq := n1
         refine Or.inr ⟨rfl, ⟨7 * k + 1, by omega, fun j h1 h2 => ?_, fun z => n1 ⟨z.1, z.2.2.1 (by omega)⟩, a1⟩, F1⟩
         have ej : j = 7 * k := by omega
         subst ej
         exact ⟨p0.1.1, by unfold okc; omega⟩)
      | exact Or.inr ⟨rfl, ⟨7 * k, by omega, fun j h1 h2 => by omega, fun z => n0.1 ⟨z.1, z.2.2.2.2.2 (by omega)⟩, n0.2⟩, F0⟩
end M7
