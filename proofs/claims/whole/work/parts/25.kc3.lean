theorem i2c_b : ∀ x : Fin 127, i2cZ ((x : Nat) : Int) = ((x : Nat) : Int) := by decide +kernel
theorem fN_z {α : Type} (g : Nat → α → α) (m : α) : fN g m 0 = m := rfl
theorem fN_s {α : Type} (g : Nat → α → α) (m : α) (k : Nat) : fN g m (k + 1) = g k (fN g m k) := rfl
section KC3
variable {l : Launch} {D : va_G} {ck : Nat → ClassId} {ad : Nat → Nat} {w : Mem} {W : WA}
theorem ex35 (hP : PXW w W) {x : Int} (hx : rng x) : eX6_type l D ck ad shA [vR 0, vI x] w (Pi (XR w (op35 W x))) := by
  have hX : TX w 16 (wL W) (wT W) := hP.2.2
  have hX70 := hX.2.1
  refine ev_of_goK (own := RX6) (ls := [some (vR 0), some (vI x)]) (by decide +kernel) rfl rfl (Nat.le_of_ble_eq_true rfl) rkI ?_
  intro K hK
  refine go_iload_n (j := 1) (q := 1) rfl rfl dX6_type_0 rfl ?_
  refine go_bipush (q := 3) rfl dX6_type_1 rfl ?_
  refine go_icmp_lt2 (q := 6) (t := 12) dX6_type_3 (by decide) rfl (by omega) (fun c3 => ?_) (fun c3 => ?_)
  · refine go_bipush (q := 14) rfl dX6_type_12 rfl ?_
    refine go_iret dX6_type_14 ?_
    subst hK
    unfold op35; rw [cif_f (by omega)]; exact ⟨_, rfl, rfl, hP, fun c k _ => rfl⟩
  · refine go_iload_n (j := 1) (q := 7) rfl rfl dX6_type_6 rfl ?_
    refine go_bipush (q := 9) rfl dX6_type_7 rfl ?_
    refine go_icmp_le2 (q := 12) (t := 15) dX6_type_9 (by decide) rfl (by omega) (fun c9 => ?_) (fun c9 => ?_)
    · refine go_aload_n (j := 0) (q := 16) rfl rfl dX6_type_15 rfl ?_
      refine go_getR (C0 := RX6) (T := TX6) (N := 7) (ci := 6) (i := 5) (q := 19) rfl igX6 (by first | assumption | rfl) (by decide) fl_X6_45 rfl dX6_type_16 rfl ?_
      refine go_getI (C0 := RX2) (T := TX2) (N := 2) (ci := 2) (i := 0) (q := 22) rfl igX2 (by first | assumption | rfl) (by decide) fl_X6_207 rfl dX6_type_19 rfl ?_
      have e16 : w 16 0 = (wL W : Int) := hX.1
      refine go_bipush (q := 24) rfl dX6_type_22 rfl ?_
      refine go_icmp_lt2 (q := 27) (t := 30) dX6_type_24 (by decide) rfl (by omega) (fun c24 => ?_) (fun c24 => ?_)
      · refine go_aload_n (j := 0) (q := 31) rfl rfl dX6_type_30 rfl ?_
        refine go_getR (C0 := RX6) (T := TX6) (N := 7) (ci := 6) (i := 5) (q := 34) rfl igX6 (by first | assumption | rfl) (by decide) fl_X6_45 rfl dX6_type_31 rfl ?_
        refine go_iload_n (j := 1) (q := 35) rfl rfl dX6_type_34 rfl ?_
        refine go_i2c (q := 36) dX6_type_35 rfl ?_
        have e2c : i2cZ x = x := by
          have := i2c_b ⟨x.toNat, by omega⟩
          simp only at this
          rw [show ((x.toNat : Nat) : Int) = x by omega] at this; exact this
        rw [e2c]
        refine go_callVv (as := [_, _]) (As := [_]) (rest := []) (n := 1) (q := 39) dX6_type_36 lk_X6_210 (ci := 2) (N := 2) (T := TX2) rfl (by first | assumption | rfl) rfl rfl (by decide +kernel) rfl ⟨by decide, by decide⟩ ⟨rfl, rfl⟩ (Nat.le_of_ble_eq_true rfl) (ev_appendC rfl rfl hX (x := x.toNat) (by omega) (by omega) (by omega)) rfl (fun w36 h36 => ?_)
        obtain ⟨h36, f36⟩ := h36
        refine go_aload_n (j := 0) (q := 40) rfl rfl dX6_type_39 rfl ?_
        refine go_getR (C0 := RX6) (T := TX6) (N := 7) (ci := 6) (i := 5) (q := 43) rfl igX6 (by first | assumption | rfl) (by decide) fl_X6_45 rfl dX6_type_40 rfl ?_
        refine go_getI (C0 := RX2) (T := TX2) (N := 2) (ci := 2) (i := 0) (q := 46) rfl igX2 (by first | assumption | rfl) (by decide) fl_X6_207 rfl dX6_type_43 rfl ?_
        refine go_iret dX6_type_46 ?_
        subst hK
        unfold op35; rw [cif_t (by omega), cif_t (by omega)]; exact ⟨_, rfl, h36.1, PXW_X hP h36 f36, fun c k z => f36 _ _ (by omega) (by omega)⟩
      · refine go_bipush (q := 29) rfl dX6_type_27 rfl ?_
        refine go_iret dX6_type_29 ?_
        subst hK
        unfold op35; rw [cif_t (by omega), cif_f (by omega)]; exact ⟨_, rfl, rfl, hP, fun c k _ => rfl⟩
    · refine go_bipush (q := 14) rfl dX6_type_12 rfl ?_
      refine go_iret dX6_type_14 ?_
      subst hK
      unfold op35; rw [cif_f (by omega)]; exact ⟨_, rfl, rfl, hP, fun c k _ => rfl⟩
theorem ex36 (hP : PXW w W) : eX6_clearText l D ck ad shA [vR 0] w (Pi (XR w (op36 W))) := by
  have hX : TX w 16 (wL W) (wT W) := hP.2.2
  refine ev_of_goK (own := RX6) (ls := [some (vR 0), none]) (by decide +kernel) rfl rfl (Nat.le_of_ble_eq_true rfl) rkI ?_
  intro K hK
  refine go_aload_n (j := 0) (q := 1) rfl rfl dX6_clearText_0 rfl ?_
  refine go_getR (C0 := RX6) (T := TX6) (N := 7) (ci := 6) (i := 5) (q := 4) rfl igX6 (by first | assumption | rfl) (by decide) fl_X6_45 rfl dX6_clearText_1 rfl ?_
  refine go_getI (C0 := RX2) (T := TX2) (N := 2) (ci := 2) (i := 0) (q := 7) rfl igX2 (by first | assumption | rfl) (by decide) fl_X6_207 rfl dX6_clearText_4 rfl ?_
  refine go_istore_n (j := 1) (q := 8) (ls2 := [_, _]) rfl (by decide) rfl rfl dX6_clearText_7 rfl ?_
  refine go_aload_n (j := 0) (q := 9) rfl rfl dX6_clearText_8 rfl ?_
  refine go_getR (C0 := RX6) (T := TX6) (N := 7) (ci := 6) (i := 5) (q := 12) rfl igX6 (by first | assumption | rfl) (by decide) fl_X6_45 rfl dX6_clearText_9 rfl ?_
  refine go_callVv (as := [_]) (As := []) (rest := []) (n := 0) (q := 15) dX6_clearText_12 lk_X6_213 (ci := 2) (N := 2) (T := TX2) rfl (by first | assumption | rfl) rfl rfl (by decide +kernel) rfl ⟨by decide, by decide⟩ ⟨rfl, rfl⟩ (Nat.le_of_ble_eq_true rfl) (ev_clearX (ch := wT W) rfl) rfl (fun w12 h12 => ?_)
  obtain ⟨h12, f12⟩ := h12
  refine go_iload_n (j := 1) (q := 16) rfl rfl dX6_clearText_15 rfl ?_
  refine go_iret dX6_clearText_16 ?_
  subst hK
  exact ⟨_, rfl, hX.1, PXW_X hP h12 (fun c k z1 z2 => f12 _ _ z1), fun c k z => f12 _ _ (by omega)⟩
theorem ex37 (hP : PXW w W) : eX6_syntaxError l D ck ad shA [vR 0] w (Pi (XR w (op37 W))) := by
  have hX : TX w 16 (wL W) (wT W) := hP.2.2
  refine ev_of_goK (own := RX6) (ls := [some (vR 0)]) (by decide +kernel) rfl rfl (Nat.le_of_ble_eq_true rfl) rkI ?_
  intro K hK
  refine go_aload_n (j := 0) (q := 1) rfl rfl dX6_syntaxError_0 rfl ?_
  refine go_getR (C0 := RX6) (T := TX6) (N := 7) (ci := 6) (i := 5) (q := 4) rfl igX6 (by first | assumption | rfl) (by decide) fl_X6_45 rfl dX6_syntaxError_1 rfl ?_
  refine go_callVi (as := [_]) (As := []) (rest := []) (n := 0) (q := 7) dX6_syntaxError_4 lk_X6_215 (ci := 2) (N := 2) (T := TX2) rfl (by first | assumption | rfl) rfl rfl (by decide +kernel) rfl ⟨by decide, by decide⟩ ⟨rfl, rfl⟩ (Nat.le_of_ble_eq_true rfl) (ev_firstError rfl rfl hX) rfl (fun x4 w4 h4 => ?_)
  obtain ⟨h4, rfl⟩ := h4
  refine go_iret dX6_syntaxError_7 ?_
  subst hK; exact ⟨_, rfl, the_eq h4 (fun u hu => fErr_u hu h4), hP, fun c k _ => rfl⟩
theorem ex38 (hP : PXW w W) : eX6_read l D ck ad shA [vR 0] w (Pi (XR w (op38 W))) := by
  have hX : TX w 16 (wL W) (wT W) := hP.2.2
  refine ev_of_goK (own := RX6) (ls := [some (vR 0)]) (by decide +kernel) rfl rfl (Nat.le_of_ble_eq_true rfl) rkI ?_
  intro K hK
  refine go_aload_n (j := 0) (q := 1) rfl rfl dX6_read_0 rfl ?_
  refine go_getR (C0 := RX6) (T := TX6) (N := 7) (ci := 6) (i := 5) (q := 4) rfl igX6 (by first | assumption | rfl) (by decide) fl_X6_45 rfl dX6_read_1 rfl ?_
  refine go_callVi (as := [_]) (As := []) (rest := []) (n := 0) (q := 7) dX6_read_4 lk_X6_215 (ci := 2) (N := 2) (T := TX2) rfl (by first | assumption | rfl) rfl rfl (by decide +kernel) rfl ⟨by decide, by decide⟩ ⟨rfl, rfl⟩ (Nat.le_of_ble_eq_true rfl) (ev_firstError rfl rfl hX) rfl (fun x4 w4 h4 => ?_)
  obtain ⟨h4, rfl⟩ := h4
  have e4 := the_eq h4 (fun u hu => fErr_u hu h4)
  refine go_bipush (q := 9) rfl dX6_read_7 rfl ?_
  refine go_icmp_eq2 (q := 12) (t := 15) dX6_read_9 (by decide) rfl (by have := hX.2.1; rcases h4 with ⟨i, z1, z2, z3, z4⟩ | ⟨z1, z2⟩ <;> first | omega | (split at z2 <;> omega)) (fun c9 => ?_) (fun c9 => ?_)
  · have hok : (∀ j, j < wL W → okc j (wT W j)) ∧ wL W % 7 = 6 := by
      rcases h4 with ⟨i, z1, z2, z3, z4⟩ | ⟨z1, z2⟩
      · omega
      · refine ⟨z1, ?_⟩
        by_cases q : wL W % 7 = 6
        · exact q
        · rw [if_neg q] at z2; omega
    refine go_aload_n (j := 0) (q := 16) rfl rfl dX6_read_15 rfl ?_
    refine go_callVv (as := [_]) (As := []) (rest := []) (n := 0) (q := 19) dX6_read_16 lk_X6_64 (ci := 6) (N := 7) (T := TX6) rfl (by first | assumption | rfl) rfl rfl (by decide +kernel) rfl ⟨by decide, by decide⟩ ⟨rfl, rfl⟩ (Nat.le_of_ble_eq_true rfl) (ev_saveState hP) rfl (fun w16 h16 => ?_)
    obtain ⟨h16, f16⟩ := h16
    have hX2 : TX w16 16 (wL W) (wT W) := h16.2.2
    refine go_aload_n (j := 0) (q := 20) rfl rfl dX6_read_19 rfl ?_
    refine go_getR (C0 := RX6) (T := TX6) (N := 7) (ci := 6) (i := 5) (q := 23) rfl igX6 (by first | assumption | rfl) (by decide) fl_X6_45 rfl dX6_read_20 rfl ?_
    refine go_aload_n (j := 0) (q := 24) rfl rfl dX6_read_23 rfl ?_
    refine go_getR (C0 := RX6) (T := TX6) (N := 7) (ci := 6) (i := 3) (q := 27) rfl igX6 (by first | assumption | rfl) (by decide) fl_X6_29 rfl dX6_read_24 rfl ?_
    refine go_callVv (as := [_, _]) (As := [_]) (rest := []) (n := 1) (q := 30) dX6_read_27 lk_X6_218 (ci := 2) (N := 2) (T := TX2) rfl (by first | assumption | rfl) rfl rfl (by decide +kernel) rfl ⟨by decide, by decide⟩ ⟨rfl, rfl⟩ (Nat.le_of_ble_eq_true rfl) (ev_drawInto rfl rfl rfl rfl (by omega) hX2 hok.1 hok.2) rfl (fun w27 h27 => ?_)
    obtain ⟨h27, f27⟩ := h27
    have hP27 := PXW_D h16 h27 f27
    refine go_aload_n (j := 0) (q := 31) rfl rfl dX6_read_30 rfl ?_
    refine go_getR (C0 := RX6) (T := TX6) (N := 7) (ci := 6) (i := 5) (q := 34) rfl igX6 (by first | assumption | rfl) (by decide) fl_X6_45 rfl dX6_read_31 rfl ?_
    refine go_callVv (as := [_]) (As := []) (rest := []) (n := 0) (q := 37) dX6_read_34 lk_X6_213 (ci := 2) (N := 2) (T := TX2) rfl (by first | assumption | rfl) rfl rfl (by decide +kernel) rfl ⟨by decide, by decide⟩ ⟨rfl, rfl⟩ (Nat.le_of_ble_eq_true rfl) (ev_clearX (ch := wT W) rfl) rfl (fun w34 h34 => ?_)
    obtain ⟨h34, f34⟩ := h34
    have e34 : w34 10 0 = w27 10 0 := f34 _ _ (by omega)
    refine go_aload_n (j := 0) (q := 38) rfl rfl dX6_read_37 rfl ?_
    refine go_getR (C0 := RX6) (T := TX6) (N := 7) (ci := 6) (i := 3) (q := 41) rfl igX6 (by first | assumption | rfl) (by decide) fl_X6_29 rfl dX6_read_38 rfl ?_
    refine go_getI (C0 := RX1) (T := TX1) (N := 3) (ci := 1) (i := 0) (q := 44) rfl igX1 (by first | assumption | rfl) (by decide) fl_X6_134 rfl dX6_read_41 rfl ?_
    refine go_iret dX6_read_44 ?_
    subst hK
    unfold op38
    rw [cif_t (by rw [← e4]; exact c9)]
    exact ⟨_, rfl, by rw [e34]; exact h27.1, PXW_X hP27 h34 (fun c k z1 z2 => f34 _ _ z1), fun c k z => by rw [f34 _ _ (by omega), f27 _ _ (by omega) (by omega)]; exact f16 _ _ (Or.inr z)⟩
  · refine go_bipush (q := 14) rfl dX6_read_12 rfl ?_
    refine go_iret dX6_read_14 ?_
    subst hK
    unfold op38
    rw [cif_f (by rw [← e4]; exact c9)]; exact ⟨_, rfl, rfl, hP, fun c k _ => rfl⟩
theorem ex39 (hP : PXW w W) : eX6_undo l D ck ad shA [vR 0] w (Pi (XR w (op39 W))) := by
  refine ev_of_goK (own := RX6) (ls := [some (vR 0)]) (by decide +kernel) rfl rfl (Nat.le_of_ble_eq_true rfl) rkI ?_
  intro K hK
  refine go_aload_n (j := 0) (q := 1) rfl rfl dX6_undo_0 rfl ?_
  refine go_getR (C0 := RX6) (T := TX6) (N := 7) (ci := 6) (i := 6) (q := 4) rfl igX6 (by first | assumption | rfl) (by decide) fl_X6_52 rfl dX6_undo_1 rfl ?_
  have h180 : w 18 0 = (wHc W : Int) := hP.2.1.1
  have h186 : wHc W ≤ 6 := hP.2.1.2.1
  refine go_getI (C0 := RX3) (T := TX3) (N := 4) (ci := 3) (i := 0) (q := 7) rfl igX3 (by first | assumption | rfl) (by decide) fl_X6_222 rfl dX6_undo_4 rfl ?_
  refine go_if_ne2 (q := 10) (t := 13) dX6_undo_7 (by decide) rfl (by omega) (fun c7 => ?_) (fun c7 => ?_)
  · have hc1 : 1 ≤ wHc W := by omega
    refine go_aload_n (j := 0) (q := 14) rfl rfl dX6_undo_13 rfl ?_
    refine go_getR (C0 := RX6) (T := TX6) (N := 7) (ci := 6) (i := 6) (q := 17) rfl igX6 (by first | assumption | rfl) (by decide) fl_X6_52 rfl dX6_undo_14 rfl ?_
    refine go_aload_n (j := 0) (q := 18) rfl rfl dX6_undo_17 rfl ?_
    refine go_getR (C0 := RX6) (T := TX6) (N := 7) (ci := 6) (i := 0) (q := 21) rfl igX6 (by first | assumption | rfl) (by decide) fl_X6_10 rfl dX6_undo_18 rfl ?_
    refine go_aload_n (j := 0) (q := 22) rfl rfl dX6_undo_21 rfl ?_
    refine go_getR (C0 := RX6) (T := TX6) (N := 7) (ci := 6) (i := 3) (q := 25) rfl igX6 (by first | assumption | rfl) (by decide) fl_X6_29 rfl dX6_undo_22 rfl ?_
    refine go_callVv (as := [_, _, _]) (As := [_, _]) (rest := []) (n := 2) (q := 28) dX6_undo_25 lk_X6_225 (ci := 3) (N := 4) (T := TX3) rfl (by first | assumption | rfl) rfl rfl (by decide +kernel) rfl ⟨by decide, by decide⟩ ⟨rfl, rfl⟩ (Nat.le_of_ble_eq_true rfl) (ev_restore hP.2.1 hc1) rfl (fun w25 h25 => ?_)
    obtain ⟨h25, s25, f25⟩ := h25
    refine go_aload_n (j := 0) (q := 29) rfl rfl dX6_undo_28 rfl ?_
    refine go_getR (C0 := RX6) (T := TX6) (N := 7) (ci := 6) (i := 6) (q := 32) rfl igX6 (by first | assumption | rfl) (by decide) fl_X6_52 rfl dX6_undo_29 rfl ?_
    refine go_getI (C0 := RX3) (T := TX3) (N := 4) (ci := 3) (i := 0) (q := 35) rfl igX3 (by first | assumption | rfl) (by decide) fl_X6_222 rfl dX6_undo_32 rfl ?_
    refine go_iret dX6_undo_35 ?_
    subst hK
    unfold op39; rw [cif_f (by omega)]
    exact ⟨_, rfl, h25.1, ⟨s25, h25, TX_same hP.2.2 (fun c k z => f25 _ _ (by omega) (by omega) (by omega) (by omega) (by omega))⟩, fun c k z => f25 _ _ (by omega) (by omega) (by omega) (by omega) (by omega)⟩
  · refine go_bipush (q := 12) rfl dX6_undo_10 rfl ?_
    refine go_iret dX6_undo_12 ?_
    subst hK
    unfold op39; rw [cif_t (by omega)]; exact ⟨_, rfl, rfl, hP, fun c k _ => rfl⟩
theorem ev_mix {h v : Int} : eX6_mix l D ck ad shA [vL h, vI v] w (Pl fun r w1 => r = mixZ h v ∧ w = w1) := by
  refine ev_of_goK (own := RX6) (ls := [some (vL h), none, some (vI v)]) (by decide +kernel) rfl rfl (Nat.le_of_ble_eq_true rfl) rkL ?_
  intro K hK
  refine go_ldc2 (n := 31) (q := 3) cn_X6_283 rfl dX6_mix_0 rfl ?_
  refine go_lload_n (j := 0) (q := 4) rfl rfl dX6_mix_3 rfl ?_
  refine go_lmul (q := 5) dX6_mix_4 rfl ?_
  refine go_iload_n (j := 2) (q := 6) rfl rfl dX6_mix_5 rfl ?_
  refine go_i2l (q := 7) dX6_mix_6 rfl ?_
  refine go_ladd (q := 8) dX6_mix_7 rfl ?_
  refine go_lret dX6_mix_8 ?_
  subst hK; exact ⟨_, rfl, rfl, rfl⟩
theorem ex_hsT (hP : PXW w W) {h : Int} : eX6_hashTable l D ck ad shA [vR 0, vL h] w (Pl (XR w (hsT W h, W))) := by
  have hn : 1 ≤ wN W ∧ wN W ≤ 6 := hP.1.1.2.1
  refine ev_of_goK (own := RX6) (ls := [some (vR 0), some (vL h), none, none, none, none, none]) (by decide +kernel) rfl rfl (Nat.le_of_ble_eq_true rfl) rkL ?_
  intro K hK
  refine go_lload_n (j := 1) (q := 1) rfl rfl dX6_hashTable_0 rfl ?_
  refine go_aload_n (j := 0) (q := 2) rfl rfl dX6_hashTable_1 rfl ?_
  refine go_callVi (as := [_]) (As := []) (rest := [_]) (n := 0) (q := 5) dX6_hashTable_2 lk_X6_246 (ci := 6) (N := 7) (T := TX6) rfl (by first | assumption | rfl) rfl rfl (by decide +kernel) rfl ⟨by decide, by decide⟩ ⟨rfl, rfl⟩ (Nat.le_of_ble_eq_true rfl) (ex6 hP) rfl (fun x2 w2 h2 => ?_)
  obtain ⟨rfl, hP2, f2⟩ := h2
  have hT2 : TB w2 1 (wN W) (wF W) := hP2.1.1
  refine go_callSl (as := [_, _]) (rest := []) (n := 2) (q := 8) dX6_hashTable_5 lk_X6_249 rfl (by decide +kernel) rfl ⟨by decide, by decide⟩ ⟨rfl, rfl⟩ (Nat.le_of_ble_eq_true rfl) (ev_mix) rfl (fun x5 w5 h5 => ?_)
  obtain ⟨rfl, rfl⟩ := h5
  refine go_lstore_n (j := 3) (q := 9) (ls2 := [_, _, _, _, _, _, _]) rfl (by decide) rfl rfl dX6_hashTable_8 rfl ?_
  refine go_iconst (q := 10) dX6_hashTable_9 rfl ?_
  refine go_istore (j := 5) (q := 12) (ls2 := [_, _, _, _, _, _, _]) (by decide) rfl rfl dX6_hashTable_10 rfl ?_
  have lp12 : ∀ (m12 : Nat) (x : Nat) (xi hx : Int) (u : Option MV) (ex : xi = x) (hxl : x ≤ wN W) (ehx : hx = fN (fun x h => fN (fun y h => mixZ h (wF W x y : Int)) h (wN W)) (mixZ h (wN W : Int)) x), m12 = wN W - x → gX6_hashTable l D ck ad shA 12 [some (vR 0), some (vL h), none, some (vL hx), none, some (vI xi), u] [] w2 K := by
    intro m12
    induction m12 using Nat.strongRecOn with
    | _ m12 ih12 =>
    intro x xi hx u ex hxl ehx em12
    have g0 := hT2.1
    refine go_iload (j := 5) (q := 14) rfl dX6_hashTable_12 rfl ?_
    refine go_aload_n (j := 0) (q := 15) rfl rfl dX6_hashTable_14 rfl ?_
    refine go_getR (C0 := RX6) (T := TX6) (N := 7) (ci := 6) (i := 0) (q := 18) rfl igX6 (by first | assumption | rfl) (by decide) fl_X6_10 rfl dX6_hashTable_15 rfl ?_
    refine go_getI (C0 := RX5) (T := TX5) (N := 2) (ci := 5) (i := 0) (q := 21) rfl igX5 (by first | assumption | rfl) (by decide) fl_X6_71 rfl dX6_hashTable_18 rfl ?_
    refine go_icmp_ge2 (q := 24) (t := 67) dX6_hashTable_21 (by decide) rfl (by omega) (fun c21 => ?_) (fun c21 => ?_)
    · refine go_iconst (q := 68) dX6_hashTable_67 rfl ?_
      refine go_istore (j := 5) (q := 70) (ls2 := [_, _, _, _, _, _, _]) (by decide) rfl rfl dX6_hashTable_68 rfl ?_
      have lp70 : ∀ (m70 : Nat) (k : Nat) (ki ha : Int) (v : Option MV) (w3 : Mem) (hP3 : PXW w3 W) (f3 : ∀ c k, 45 ≤ c → w3 c k = w c k) (ek : ki = ((k + 1 : Nat) : Int)) (hk : k ≤ 3) (eha : ha = fN (fun k h => mixZ h (vio W ((k + 1 : Nat) : Int))) hx k), m70 = 3 - k → gX6_hashTable l D ck ad shA 70 [some (vR 0), some (vL h), none, some (vL ha), none, some (vI ki), v] [] w3 K := by
        intro m70
        induction m70 using Nat.strongRecOn with
        | _ m70 ih70 =>
        intro k ki ha v w3 hP3 f3 ek hk eha em70
        refine go_iload (j := 5) (q := 72) rfl dX6_hashTable_70 rfl ?_
        refine go_iconst (q := 73) dX6_hashTable_72 rfl ?_
        refine go_icmp_gt2 (q := 76) (t := 93) dX6_hashTable_73 (by decide) rfl (by omega) (fun c73 => ?_) (fun c73 => ?_)
        · refine go_lload_n (j := 3) (q := 94) rfl rfl dX6_hashTable_93 rfl ?_
          refine go_aload_n (j := 0) (q := 95) rfl rfl dX6_hashTable_94 rfl ?_
          refine go_callVi (as := [_]) (As := []) (rest := [_]) (n := 0) (q := 98) dX6_hashTable_95 lk_X6_256 (ci := 6) (N := 7) (T := TX6) rfl (by first | assumption | rfl) rfl rfl (by decide +kernel) rfl ⟨by decide, by decide⟩ ⟨rfl, rfl⟩ (Nat.le_of_ble_eq_true rfl) (ex11 hP3) rfl (fun x95 w95 h95 => ?_)
          obtain ⟨rfl, hP5, f5⟩ := h95
          refine go_callSl (as := [_, _]) (rest := []) (n := 2) (q := 101) dX6_hashTable_98 lk_X6_249 rfl (by decide +kernel) rfl ⟨by decide, by decide⟩ ⟨rfl, rfl⟩ (Nat.le_of_ble_eq_true rfl) (ev_mix) rfl (fun x98 w98 h98 => ?_)
          obtain ⟨rfl, rfl⟩ := h98
          refine go_lstore_n (j := 3) (q := 102) (ls2 := [_, _, _, _, _, _, _]) rfl (by decide) rfl rfl dX6_hashTable_101 rfl ?_
          refine go_lload_n (j := 3) (q := 103) rfl rfl dX6_hashTable_102 rfl ?_
          refine go_aload_n (j := 0) (q := 104) rfl rfl dX6_hashTable_103 rfl ?_
          refine go_callVi (as := [_]) (As := []) (rest := [_]) (n := 0) (q := 107) dX6_hashTable_104 lk_X6_259 (ci := 6) (N := 7) (T := TX6) rfl (by first | assumption | rfl) rfl rfl (by decide +kernel) rfl ⟨by decide, by decide⟩ ⟨rfl, rfl⟩ (Nat.le_of_ble_eq_true rfl) (ex13 hP5) rfl (fun x104 w104 h104 => ?_)
          obtain ⟨rfl, hP6, f6⟩ := h104
          refine go_callSl (as := [_, _]) (rest := []) (n := 2) (q := 110) dX6_hashTable_107 lk_X6_249 rfl (by decide +kernel) rfl ⟨by decide, by decide⟩ ⟨rfl, rfl⟩ (Nat.le_of_ble_eq_true rfl) (ev_mix) rfl (fun x107 w107 h107 => ?_)
          obtain ⟨rfl, rfl⟩ := h107
          refine go_lstore_n (j := 3) (q := 111) (ls2 := [_, _, _, _, _, _, _]) rfl (by decide) rfl rfl dX6_hashTable_110 rfl ?_
          refine go_lload_n (j := 3) (q := 112) rfl rfl dX6_hashTable_111 rfl ?_
          refine go_aload_n (j := 0) (q := 113) rfl rfl dX6_hashTable_112 rfl ?_
          refine go_callVi (as := [_]) (As := []) (rest := [_]) (n := 0) (q := 116) dX6_hashTable_113 lk_X6_262 (ci := 6) (N := 7) (T := TX6) rfl (by first | assumption | rfl) rfl rfl (by decide +kernel) rfl ⟨by decide, by decide⟩ ⟨rfl, rfl⟩ (Nat.le_of_ble_eq_true rfl) (ex15 hP6) rfl (fun x113 w113 h113 => ?_)
          obtain ⟨rfl, hP7, f7⟩ := h113
          refine go_callSl (as := [_, _]) (rest := []) (n := 2) (q := 119) dX6_hashTable_116 lk_X6_249 rfl (by decide +kernel) rfl ⟨by decide, by decide⟩ ⟨rfl, rfl⟩ (Nat.le_of_ble_eq_true rfl) (ev_mix) rfl (fun x116 w116 h116 => ?_)
          obtain ⟨rfl, rfl⟩ := h116
          refine go_lstore_n (j := 3) (q := 120) (ls2 := [_, _, _, _, _, _, _]) rfl (by decide) rfl rfl dX6_hashTable_119 rfl ?_
          refine go_lload_n (j := 3) (q := 121) rfl rfl dX6_hashTable_120 rfl ?_
          refine go_aload_n (j := 0) (q := 122) rfl rfl dX6_hashTable_121 rfl ?_
          refine go_callVi (as := [_]) (As := []) (rest := [_]) (n := 0) (q := 125) dX6_hashTable_122 lk_X6_265 (ci := 6) (N := 7) (T := TX6) rfl (by first | assumption | rfl) rfl rfl (by decide +kernel) rfl ⟨by decide, by decide⟩ ⟨rfl, rfl⟩ (Nat.le_of_ble_eq_true rfl) (ex16 hP7) rfl (fun x122 w122 h122 => ?_)
          obtain ⟨rfl, hP9, f9⟩ := h122
          refine go_callSl (as := [_, _]) (rest := []) (n := 2) (q := 128) dX6_hashTable_125 lk_X6_249 rfl (by decide +kernel) rfl ⟨by decide, by decide⟩ ⟨rfl, rfl⟩ (Nat.le_of_ble_eq_true rfl) (ev_mix) rfl (fun x125 w125 h125 => ?_)
          obtain ⟨rfl, rfl⟩ := h125
          refine go_lstore_n (j := 3) (q := 129) (ls2 := [_, _, _, _, _, _, _]) rfl (by decide) rfl rfl dX6_hashTable_128 rfl ?_
          refine go_lload_n (j := 3) (q := 130) rfl rfl dX6_hashTable_129 rfl ?_
          refine go_aload_n (j := 0) (q := 131) rfl rfl dX6_hashTable_130 rfl ?_
          refine go_callVi (as := [_]) (As := []) (rest := [_]) (n := 0) (q := 134) dX6_hashTable_131 lk_X6_268 (ci := 6) (N := 7) (T := TX6) rfl (by first | assumption | rfl) rfl rfl (by decide +kernel) rfl ⟨by decide, by decide⟩ ⟨rfl, rfl⟩ (Nat.le_of_ble_eq_true rfl) (ex17 hP9) rfl (fun x131 w131 h131 => ?_)
          obtain ⟨rfl, hP10, f10⟩ := h131
          refine go_callSl (as := [_, _]) (rest := []) (n := 2) (q := 137) dX6_hashTable_134 lk_X6_249 rfl (by decide +kernel) rfl ⟨by decide, by decide⟩ ⟨rfl, rfl⟩ (Nat.le_of_ble_eq_true rfl) (ev_mix) rfl (fun x134 w134 h134 => ?_)
          obtain ⟨rfl, rfl⟩ := h134
          refine go_lret dX6_hashTable_137 ?_
          subst hK
          refine ⟨_, rfl, ?_, hP10, fun c k z => by rw [f10 c k z, f9 c k z, f7 c k z, f6 c k z, f5 c k z]; exact f3 c k z⟩
          show _ = hsT W h
          unfold hsT
          rw [eha, ehx, show k = 3 by omega, show x = wN W by omega]; rfl
        · refine go_lload_n (j := 3) (q := 77) rfl rfl dX6_hashTable_76 rfl ?_
          refine go_aload_n (j := 0) (q := 78) rfl rfl dX6_hashTable_77 rfl ?_
          refine go_iload (j := 5) (q := 80) rfl dX6_hashTable_78 rfl ?_
          refine go_callVi (as := [_, _]) (As := [_]) (rest := [_]) (n := 1) (q := 83) dX6_hashTable_80 lk_X6_253 (ci := 6) (N := 7) (T := TX6) rfl (by first | assumption | rfl) rfl rfl (by decide +kernel) rfl ⟨by decide, by decide⟩ ⟨rfl, rfl⟩ (Nat.le_of_ble_eq_true rfl) (ex9 hP3 (x := ki) (by omega)) rfl (fun x80 w80 h80 => ?_)
          obtain ⟨rfl, hP8, f8⟩ := h80
          refine go_callSl (as := [_, _]) (rest := []) (n := 2) (q := 86) dX6_hashTable_83 lk_X6_249 rfl (by decide +kernel) rfl ⟨by decide, by decide⟩ ⟨rfl, rfl⟩ (Nat.le_of_ble_eq_true rfl) (ev_mix) rfl (fun x83 w83 h83 => ?_)
          obtain ⟨rfl, rfl⟩ := h83
          refine go_lstore_n (j := 3) (q := 87) (ls2 := [_, _, _, _, _, _, _]) rfl (by decide) rfl rfl dX6_hashTable_86 rfl ?_
          refine go_iinc (j := 5) (q := 90) (ls2 := [_, _, _, _, _, _, _]) rfl (by decide) rfl rfl dX6_hashTable_87 rfl ?_
          refine go_goto (q := 70) dX6_hashTable_90 (by decide) ?_
          exact ih70 _ (by omega) (k + 1) _ _ _ _ hP8 (fun c k z => by rw [f8 c k z]; exact f3 c k z) (by omega) (by omega) (by rw [fN_s, eha, ek]; unfold op9; rfl) rfl
      exact lp70 _ 0 _ _ _ _ hP2 f2 rfl (by omega) (fN_z _ _).symm rfl
    · refine go_iconst (q := 25) dX6_hashTable_24 rfl ?_
      refine go_istore (j := 6) (q := 27) (ls2 := [_, _, _, _, _, _, _]) (by decide) rfl rfl dX6_hashTable_25 rfl ?_
      have lp27 : ∀ (m27 : Nat) (y : Nat) (yi hy : Int) (ey : yi = y) (hyl : y ≤ wN W) (ehy : hy = fN (fun y h => mixZ h (wF W x y : Int)) hx y), m27 = wN W - y → gX6_hashTable l D ck ad shA 27 [some (vR 0), some (vL h), none, some (vL hy), none, some (vI xi), some (vI yi)] [] w2 K := by
        intro m27
        induction m27 using Nat.strongRecOn with
        | _ m27 ih27 =>
        intro y yi hy ey hyl ehy em27
        refine go_iload (j := 6) (q := 29) rfl dX6_hashTable_27 rfl ?_
        refine go_aload_n (j := 0) (q := 30) rfl rfl dX6_hashTable_29 rfl ?_
        refine go_getR (C0 := RX6) (T := TX6) (N := 7) (ci := 6) (i := 0) (q := 33) rfl igX6 (by first | assumption | rfl) (by decide) fl_X6_10 rfl dX6_hashTable_30 rfl ?_
        refine go_getI (C0 := RX5) (T := TX5) (N := 2) (ci := 5) (i := 0) (q := 36) rfl igX5 (by first | assumption | rfl) (by decide) fl_X6_71 rfl dX6_hashTable_33 rfl ?_
        refine go_icmp_ge2 (q := 39) (t := 61) dX6_hashTable_36 (by decide) rfl (by omega) (fun c36 => ?_) (fun c36 => ?_)
        · refine go_iinc (j := 5) (q := 64) (ls2 := [_, _, _, _, _, _, _]) rfl (by decide) rfl rfl dX6_hashTable_61 rfl ?_
          refine go_goto (q := 12) dX6_hashTable_64 (by decide) ?_
          exact ih12 _ (by omega) (x + 1) _ _ _ (by omega) (by omega) (by rw [fN_s, ehy, ehx, show y = wN W by omega]) rfl
        · refine go_lload_n (j := 3) (q := 40) rfl rfl dX6_hashTable_39 rfl ?_
          refine go_aload_n (j := 0) (q := 41) rfl rfl dX6_hashTable_40 rfl ?_
          refine go_getR (C0 := RX6) (T := TX6) (N := 7) (ci := 6) (i := 0) (q := 44) rfl igX6 (by first | assumption | rfl) (by decide) fl_X6_10 rfl dX6_hashTable_41 rfl ?_
          refine go_iload (j := 5) (q := 46) rfl dX6_hashTable_44 rfl ?_
          refine go_iload (j := 6) (q := 48) rfl dX6_hashTable_46 rfl ?_
          refine go_callVi (as := [_, _, _]) (As := [_, _]) (rest := [_]) (n := 2) (q := 51) dX6_hashTable_48 lk_X6_78 (ci := 5) (N := 2) (T := TX5) rfl (by first | assumption | rfl) rfl rfl (by decide +kernel) rfl ⟨by decide, by decide⟩ ⟨rfl, rfl⟩ (Nat.le_of_ble_eq_true rfl) (ev_times rfl rfl hT2 (x := x) (y := y) ex ey (by omega) (by omega)) rfl (fun x48 w48 h48 => ?_)
          obtain ⟨rfl, rfl⟩ := h48
          refine go_callSl (as := [_, _]) (rest := []) (n := 2) (q := 54) dX6_hashTable_51 lk_X6_249 rfl (by decide +kernel) rfl ⟨by decide, by decide⟩ ⟨rfl, rfl⟩ (Nat.le_of_ble_eq_true rfl) (ev_mix) rfl (fun x51 w51 h51 => ?_)
          obtain ⟨rfl, rfl⟩ := h51
          refine go_lstore_n (j := 3) (q := 55) (ls2 := [_, _, _, _, _, _, _]) rfl (by decide) rfl rfl dX6_hashTable_54 rfl ?_
          refine go_iinc (j := 6) (q := 58) (ls2 := [_, _, _, _, _, _, _]) rfl (by decide) rfl rfl dX6_hashTable_55 rfl ?_
          refine go_goto (q := 27) dX6_hashTable_58 (by decide) ?_
          exact ih27 _ (by omega) (y + 1) _ _ (by omega) (by omega) (by rw [fN_s, ehy]) rfl
      exact lp27 _ 0 0 _ rfl (by omega) (fN_z _ _).symm rfl
  exact lp12 _ 0 0 _ _ rfl (by omega) (fN_z _ _).symm rfl
theorem ex_hsD (hP : PXW w W) {h : Int} : eX6_hashDiagram l D ck ad shA [vR 0, vL h] w (Pl (XR w (hsD W h, W))) := by
  refine ev_of_goK (own := RX6) (ls := [some (vR 0), some (vL h), none, none, none, none, none]) (by decide +kernel) rfl rfl (Nat.le_of_ble_eq_true rfl) rkL ?_
  intro K hK
  refine go_lload_n (j := 1) (q := 1) rfl rfl dX6_hashDiagram_0 rfl ?_
  refine go_aload_n (j := 0) (q := 2) rfl rfl dX6_hashDiagram_1 rfl ?_
  refine go_callVi (as := [_]) (As := []) (rest := [_]) (n := 0) (q := 5) dX6_hashDiagram_2 lk_X6_271 (ci := 6) (N := 7) (T := TX6) rfl (by first | assumption | rfl) rfl rfl (by decide +kernel) rfl ⟨by decide, by decide⟩ ⟨rfl, rfl⟩ (Nat.le_of_ble_eq_true rfl) (ex24 hP) rfl (fun x2 w2 h2 => ?_)
  obtain ⟨rfl, hP2, f2⟩ := h2
  refine go_callSl (as := [_, _]) (rest := []) (n := 2) (q := 8) dX6_hashDiagram_5 lk_X6_249 rfl (by decide +kernel) rfl ⟨by decide, by decide⟩ ⟨rfl, rfl⟩ (Nat.le_of_ble_eq_true rfl) (ev_mix) rfl (fun x5 w5 h5 => ?_)
  obtain ⟨rfl, rfl⟩ := h5
  refine go_lstore_n (j := 3) (q := 9) (ls2 := [_, _, _, _, _, _, _]) rfl (by decide) rfl rfl dX6_hashDiagram_8 rfl ?_
  refine go_lload_n (j := 3) (q := 10) rfl rfl dX6_hashDiagram_9 rfl ?_
  refine go_aload_n (j := 0) (q := 11) rfl rfl dX6_hashDiagram_10 rfl ?_
  refine go_callVi (as := [_]) (As := []) (rest := [_]) (n := 0) (q := 14) dX6_hashDiagram_11 lk_X6_274 (ci := 6) (N := 7) (T := TX6) rfl (by first | assumption | rfl) rfl rfl (by decide +kernel) rfl ⟨by decide, by decide⟩ ⟨rfl, rfl⟩ (Nat.le_of_ble_eq_true rfl) (ex25 hP2) rfl (fun x11 w11 h11 => ?_)
  obtain ⟨rfl, hP3, f3⟩ := h11
  have hD3 : DG w11 10 (wA W) (wC W) (wG W) (wS W) := hP3.1.2
  have hb3 : (1 ≤ wA W ∧ wA W ≤ 7) ∧ wC W ≤ 10 := hD3.2.2.1
  refine go_callSl (as := [_, _]) (rest := []) (n := 2) (q := 17) dX6_hashDiagram_14 lk_X6_249 rfl (by decide +kernel) rfl ⟨by decide, by decide⟩ ⟨rfl, rfl⟩ (Nat.le_of_ble_eq_true rfl) (ev_mix) rfl (fun x14 w14 h14 => ?_)
  obtain ⟨rfl, rfl⟩ := h14
  refine go_lstore_n (j := 3) (q := 18) (ls2 := [_, _, _, _, _, _, _]) rfl (by decide) rfl rfl dX6_hashDiagram_17 rfl ?_
  refine go_iconst (q := 19) dX6_hashDiagram_18 rfl ?_
  refine go_istore (j := 5) (q := 21) (ls2 := [_, _, _, _, _, _, _]) (by decide) rfl rfl dX6_hashDiagram_19 rfl ?_
  have lp21 : ∀ (m21 : Nat) (x : Nat) (xi hx : Int) (u : Option MV) (ex : xi = x) (hxl : x ≤ wC W) (ehx : hx = fN (fun k h => fN (fun p h => mixZ h (prt (wG W) (wS W) k p)) h 4) (mixZ (mixZ h (wA W : Int)) (wC W : Int)) x), m21 = wC W - x → gX6_hashDiagram l D ck ad shA 21 [some (vR 0), some (vL h), none, some (vL hx), none, some (vI xi), u] [] w11 K := by
    intro m21
    induction m21 using Nat.strongRecOn with
    | _ m21 ih21 =>
    intro x xi hx u ex hxl ehx em21
    have g0 := hD3.2.1
    refine go_iload (j := 5) (q := 23) rfl dX6_hashDiagram_21 rfl ?_
    refine go_aload_n (j := 0) (q := 24) rfl rfl dX6_hashDiagram_23 rfl ?_
    refine go_getR (C0 := RX6) (T := TX6) (N := 7) (ci := 6) (i := 3) (q := 27) rfl igX6 (by first | assumption | rfl) (by decide) fl_X6_29 rfl dX6_hashDiagram_24 rfl ?_
    refine go_getI (C0 := RX1) (T := TX1) (N := 3) (ci := 1) (i := 1) (q := 30) rfl igX1 (by first | assumption | rfl) (by decide) fl_X6_154 rfl dX6_hashDiagram_27 rfl ?_
    refine go_icmp_ge2 (q := 33) (t := 70) dX6_hashDiagram_30 (by decide) rfl (by omega) (fun c30 => ?_) (fun c30 => ?_)
    · refine go_lload_n (j := 3) (q := 71) rfl rfl dX6_hashDiagram_70 rfl ?_
      refine go_aload_n (j := 0) (q := 72) rfl rfl dX6_hashDiagram_71 rfl ?_
      refine go_callVi (as := [_]) (As := []) (rest := [_]) (n := 0) (q := 75) dX6_hashDiagram_72 lk_X6_277 (ci := 6) (N := 7) (T := TX6) rfl (by first | assumption | rfl) rfl rfl (by decide +kernel) rfl ⟨by decide, by decide⟩ ⟨rfl, rfl⟩ (Nat.le_of_ble_eq_true rfl) (ex27 hP3) rfl (fun x72 w72 h72 => ?_)
      obtain ⟨rfl, hP5, f5⟩ := h72
      refine go_callSl (as := [_, _]) (rest := []) (n := 2) (q := 78) dX6_hashDiagram_75 lk_X6_249 rfl (by decide +kernel) rfl ⟨by decide, by decide⟩ ⟨rfl, rfl⟩ (Nat.le_of_ble_eq_true rfl) (ev_mix) rfl (fun x75 w75 h75 => ?_)
      obtain ⟨rfl, rfl⟩ := h75
      refine go_lstore_n (j := 3) (q := 79) (ls2 := [_, _, _, _, _, _, _]) rfl (by decide) rfl rfl dX6_hashDiagram_78 rfl ?_
      refine go_lload_n (j := 3) (q := 80) rfl rfl dX6_hashDiagram_79 rfl ?_
      refine go_aload_n (j := 0) (q := 81) rfl rfl dX6_hashDiagram_80 rfl ?_
      refine go_callVi (as := [_]) (As := []) (rest := [_]) (n := 0) (q := 84) dX6_hashDiagram_81 lk_X6_280 (ci := 6) (N := 7) (T := TX6) rfl (by first | assumption | rfl) rfl rfl (by decide +kernel) rfl ⟨by decide, by decide⟩ ⟨rfl, rfl⟩ (Nat.le_of_ble_eq_true rfl) (ex28 hP5) rfl (fun x81 w81 h81 => ?_)
      obtain ⟨rfl, hP6, f6⟩ := h81
      refine go_callSl (as := [_, _]) (rest := []) (n := 2) (q := 87) dX6_hashDiagram_84 lk_X6_249 rfl (by decide +kernel) rfl ⟨by decide, by decide⟩ ⟨rfl, rfl⟩ (Nat.le_of_ble_eq_true rfl) (ev_mix) rfl (fun x84 w84 h84 => ?_)
      obtain ⟨rfl, rfl⟩ := h84
      refine go_lret dX6_hashDiagram_87 ?_
      subst hK
      refine ⟨_, rfl, ?_, hP6, fun c k z => by rw [f6 c k z, f5 c k z, f3 c k z]; exact f2 c k z⟩
      show _ = hsD W h
      unfold hsD
      rw [ehx, show x = wC W by omega]; rfl
    · refine go_iconst (q := 34) dX6_hashDiagram_33 rfl ?_
      refine go_istore (j := 6) (q := 36) (ls2 := [_, _, _, _, _, _, _]) (by decide) rfl rfl dX6_hashDiagram_34 rfl ?_
      have lp36 : ∀ (m36 : Nat) (y : Nat) (yi hy : Int) (ey : yi = y) (hyl : y ≤ 4) (ehy : hy = fN (fun p h => mixZ h (prt (wG W) (wS W) x p)) hx y), m36 = 4 - y → gX6_hashDiagram l D ck ad shA 36 [some (vR 0), some (vL h), none, some (vL hy), none, some (vI xi), some (vI yi)] [] w11 K := by
        intro m36
        induction m36 using Nat.strongRecOn with
        | _ m36 ih36 =>
        intro y yi hy ey hyl ehy em36
        refine go_iload (j := 6) (q := 38) rfl dX6_hashDiagram_36 rfl ?_
        refine go_iconst (q := 39) dX6_hashDiagram_38 rfl ?_
        refine go_icmp_ge2 (q := 42) (t := 64) dX6_hashDiagram_39 (by decide) rfl (by omega) (fun c39 => ?_) (fun c39 => ?_)
        · refine go_iinc (j := 5) (q := 67) (ls2 := [_, _, _, _, _, _, _]) rfl (by decide) rfl rfl dX6_hashDiagram_64 rfl ?_
          refine go_goto (q := 21) dX6_hashDiagram_67 (by decide) ?_
          exact ih21 _ (by omega) (x + 1) _ _ _ (by omega) (by omega) (by rw [fN_s, ehy, ehx, show y = 4 by omega]) rfl
        · refine go_lload_n (j := 3) (q := 43) rfl rfl dX6_hashDiagram_42 rfl ?_
          refine go_aload_n (j := 0) (q := 44) rfl rfl dX6_hashDiagram_43 rfl ?_
          refine go_getR (C0 := RX6) (T := TX6) (N := 7) (ci := 6) (i := 3) (q := 47) rfl igX6 (by first | assumption | rfl) (by decide) fl_X6_29 rfl dX6_hashDiagram_44 rfl ?_
          refine go_iload (j := 5) (q := 49) rfl dX6_hashDiagram_47 rfl ?_
          refine go_iload (j := 6) (q := 51) rfl dX6_hashDiagram_49 rfl ?_
          refine go_callVi (as := [_, _, _]) (As := [_, _]) (rest := [_]) (n := 2) (q := 54) dX6_hashDiagram_51 lk_X6_177 (ci := 1) (N := 3) (T := TX1) rfl (by first | assumption | rfl) rfl rfl (by decide +kernel) rfl ⟨by decide, by decide⟩ ⟨rfl, rfl⟩ (Nat.le_of_ble_eq_true rfl) (ev_part rfl rfl (k := x) (p := y) ex ey (by omega)) rfl (fun x51 w51 h51 => ?_)
          obtain ⟨rfl, rfl⟩ := h51
          refine go_callSl (as := [_, _]) (rest := []) (n := 2) (q := 57) dX6_hashDiagram_54 lk_X6_249 rfl (by decide +kernel) rfl ⟨by decide, by decide⟩ ⟨rfl, rfl⟩ (Nat.le_of_ble_eq_true rfl) (ev_mix) rfl (fun x54 w54 h54 => ?_)
          obtain ⟨rfl, rfl⟩ := h54
          refine go_lstore_n (j := 3) (q := 58) (ls2 := [_, _, _, _, _, _, _]) rfl (by decide) rfl rfl dX6_hashDiagram_57 rfl ?_
          refine go_iinc (j := 6) (q := 61) (ls2 := [_, _, _, _, _, _, _]) rfl (by decide) rfl rfl dX6_hashDiagram_58 rfl ?_
          refine go_goto (q := 36) dX6_hashDiagram_61 (by decide) ?_
          exact ih36 _ (by omega) (y + 1) _ _ (by omega) (by omega) (by rw [fN_s, ehy, prt_eq hD3 (by omega) (by omega)]) rfl
      exact lp36 _ 0 0 _ rfl (by omega) (fN_z _ _).symm rfl
  exact lp21 _ 0 0 _ _ rfl (by omega) (fN_z _ _).symm rfl
theorem ex_hsC (hP : PXW w W) {h : Int} : eX6_hashColourings l D ck ad shA [vR 0, vL h] w (Pl (XR w (hsC W h, W))) := by
  have hT : TB w 1 (wN W) (wF W) := hP.1.1
  have hD : DG w 10 (wA W) (wC W) (wG W) (wS W) := hP.1.2
  refine ev_of_goK (own := RX6) (ls := [some (vR 0), some (vL h), none, none, none, none]) (by decide +kernel) rfl rfl (Nat.le_of_ble_eq_true rfl) rkL ?_
  intro K hK
  refine go_lload_n (j := 1) (q := 1) rfl rfl dX6_hashColourings_0 rfl ?_
  refine go_aload_n (j := 0) (q := 2) rfl rfl dX6_hashColourings_1 rfl ?_
  refine go_getR (C0 := RX6) (T := TX6) (N := 7) (ci := 6) (i := 4) (q := 5) rfl igX6 (by first | assumption | rfl) (by decide) fl_X6_38 rfl dX6_hashColourings_2 rfl ?_
  refine go_callVi (as := [_]) (As := []) (rest := [_]) (n := 0) (q := 8) dX6_hashColourings_5 lk_X6_191 (ci := 0) (N := 6) (T := TX0) rfl (by first | assumption | rfl) rfl rfl (by decide +kernel) rfl ⟨by decide, by decide⟩ ⟨rfl, rfl⟩ (Nat.le_of_ble_eq_true rfl) (ev_tally hT hD) rfl (fun x5 w5 h5 => ?_)
  obtain ⟨rfl, t5, f5⟩ := h5
  refine go_callSl (as := [_, _]) (rest := []) (n := 2) (q := 11) dX6_hashColourings_8 lk_X6_249 rfl (by decide +kernel) rfl ⟨by decide, by decide⟩ ⟨rfl, rfl⟩ (Nat.le_of_ble_eq_true rfl) (ev_mix) rfl (fun x8 w8 h8 => ?_)
  obtain ⟨rfl, rfl⟩ := h8
  refine go_lstore_n (j := 3) (q := 12) (ls2 := [_, _, _, _, _, _]) rfl (by decide) rfl rfl dX6_hashColourings_11 rfl ?_
  refine go_iconst (q := 13) dX6_hashColourings_12 rfl ?_
  refine go_istore (j := 5) (q := 15) (ls2 := [_, _, _, _, _, _]) (by decide) rfl rfl dX6_hashColourings_13 rfl ?_
  have lp15 : ∀ (m15 : Nat) (x : Nat) (xi hx : Int) (ex : xi = ((x + 1 : Nat) : Int)) (hxl : x ≤ 6) (ehx : hx = fN (fun u h => mixZ h (cnW W (eU (wA W) (u + 1)))) (mixZ h (cnW W tt)) x), m15 = 6 - x → gX6_hashColourings l D ck ad shA 15 [some (vR 0), some (vL h), none, some (vL hx), none, some (vI xi)] [] w5 K := by
    intro m15
    induction m15 using Nat.strongRecOn with
    | _ m15 ih15 =>
    intro x xi hx ex hxl ehx em15
    refine go_iload (j := 5) (q := 17) rfl dX6_hashColourings_15 rfl ?_
    refine go_bipush (q := 19) rfl dX6_hashColourings_17 rfl ?_
    refine go_icmp_gt2 (q := 22) (t := 42) dX6_hashColourings_19 (by decide) rfl (by omega) (fun c19 => ?_) (fun c19 => ?_)
    · refine go_lload_n (j := 3) (q := 43) rfl rfl dX6_hashColourings_42 rfl ?_
      refine go_lret dX6_hashColourings_43 ?_
      subst hK
      refine ⟨_, rfl, ?_, PXW_q hP (fun c k z => f5 _ _ (by omega) (by omega) (by omega) (by omega)), fun c k z => f5 _ _ (by omega) (by omega) (by omega) (by omega)⟩
      show _ = hsC W h
      unfold hsC
      rw [ehx, show x = 6 by omega]
    · refine go_lload_n (j := 3) (q := 23) rfl rfl dX6_hashColourings_22 rfl ?_
      refine go_aload_n (j := 0) (q := 24) rfl rfl dX6_hashColourings_23 rfl ?_
      refine go_getR (C0 := RX6) (T := TX6) (N := 7) (ci := 6) (i := 4) (q := 27) rfl igX6 (by first | assumption | rfl) (by decide) fl_X6_38 rfl dX6_hashColourings_24 rfl ?_
      refine go_iload (j := 5) (q := 29) rfl dX6_hashColourings_27 rfl ?_
      refine go_callVi (as := [_, _]) (As := [_]) (rest := [_]) (n := 1) (q := 32) dX6_hashColourings_29 lk_X6_200 (ci := 0) (N := 6) (T := TX0) rfl (by first | assumption | rfl) rfl rfl (by decide +kernel) rfl ⟨by decide, by decide⟩ ⟨rfl, rfl⟩ (Nat.le_of_ble_eq_true rfl) (ev_talliedUsing (u := x + 1) ex (by omega)) rfl (fun x29 w29 h29 => ?_)
      obtain ⟨rfl, rfl⟩ := h29
      refine go_callSl (as := [_, _]) (rest := []) (n := 2) (q := 35) dX6_hashColourings_32 lk_X6_249 rfl (by decide +kernel) rfl ⟨by decide, by decide⟩ ⟨rfl, rfl⟩ (Nat.le_of_ble_eq_true rfl) (ev_mix) rfl (fun x32 w32 h32 => ?_)
      obtain ⟨rfl, rfl⟩ := h32
      refine go_lstore_n (j := 3) (q := 36) (ls2 := [_, _, _, _, _, _]) rfl (by decide) rfl rfl dX6_hashColourings_35 rfl ?_
      refine go_iinc (j := 5) (q := 39) (ls2 := [_, _, _, _, _, _]) rfl (by decide) rfl rfl dX6_hashColourings_36 rfl ?_
      refine go_goto (q := 15) dX6_hashColourings_39 (by decide) ?_
      exact ih15 _ (by omega) (x + 1) _ _ (by omega) (by omega) (by rw [fN_s, ehx, t5 _ (by omega)]; unfold cnW; rfl) rfl
  exact lp15 _ 0 _ _ rfl (by omega) (fN_z _ _).symm rfl
theorem ex40 (hP : PXW w W) : eX6_digest l D ck ad shA [vR 0] w (Pl (XR w (op40 W))) := by
  refine ev_of_goK (own := RX6) (ls := [some (vR 0), none, none]) (by decide +kernel) rfl rfl (Nat.le_of_ble_eq_true rfl) rkL ?_
  intro K hK
  refine go_aload_n (j := 0) (q := 1) rfl rfl dX6_digest_0 rfl ?_
  refine go_ldc2 (n := 3102) (q := 4) cn_X6_228 rfl dX6_digest_1 rfl ?_
  refine go_callVl (as := [_, _]) (As := [_]) (rest := []) (n := 1) (q := 7) dX6_digest_4 lk_X6_230 (ci := 6) (N := 7) (T := TX6) rfl (by first | assumption | rfl) rfl rfl (by decide +kernel) rfl ⟨by decide, by decide⟩ ⟨rfl, rfl⟩ (Nat.le_of_ble_eq_true rfl) (ex_hsT hP) rfl (fun x4 w4 h4 => ?_)
  obtain ⟨rfl, hP4, f4⟩ := h4
  refine go_lstore_n (j := 1) (q := 8) (ls2 := [_, _, _]) rfl (by decide) rfl rfl dX6_digest_7 rfl ?_
  refine go_aload_n (j := 0) (q := 9) rfl rfl dX6_digest_8 rfl ?_
  refine go_lload_n (j := 1) (q := 10) rfl rfl dX6_digest_9 rfl ?_
  refine go_callVl (as := [_, _]) (As := [_]) (rest := []) (n := 1) (q := 13) dX6_digest_10 lk_X6_234 (ci := 6) (N := 7) (T := TX6) rfl (by first | assumption | rfl) rfl rfl (by decide +kernel) rfl ⟨by decide, by decide⟩ ⟨rfl, rfl⟩ (Nat.le_of_ble_eq_true rfl) (ex_hsD hP4) rfl (fun x10 w10 h10 => ?_)
  obtain ⟨rfl, hP10, f10⟩ := h10
  refine go_lstore_n (j := 1) (q := 14) (ls2 := [_, _, _]) rfl (by decide) rfl rfl dX6_digest_13 rfl ?_
  refine go_aload_n (j := 0) (q := 15) rfl rfl dX6_digest_14 rfl ?_
  refine go_lload_n (j := 1) (q := 16) rfl rfl dX6_digest_15 rfl ?_
  refine go_callVl (as := [_, _]) (As := [_]) (rest := []) (n := 1) (q := 19) dX6_digest_16 lk_X6_237 (ci := 6) (N := 7) (T := TX6) rfl (by first | assumption | rfl) rfl rfl (by decide +kernel) rfl ⟨by decide, by decide⟩ ⟨rfl, rfl⟩ (Nat.le_of_ble_eq_true rfl) (ex_hsC hP10) rfl (fun x16 w16 h16 => ?_)
  obtain ⟨rfl, hP16, f16⟩ := h16
  refine go_lret dX6_digest_19 ?_
  subst hK; exact ⟨_, rfl, rfl, hP16, fun c k z => by rw [f16 c k z, f10 c k z]; exact f4 c k z⟩
end KC3
