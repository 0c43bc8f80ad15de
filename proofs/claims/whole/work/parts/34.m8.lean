section M8
variable {l : Launch} {D : va_G} {ck : Nat → ClassId} {ad : Nat → Nat} {w : Mem} {W : WA} {tl p : Nat} {t : Nat → Nat}
theorem em_findError (hX : XM w tl t) : eX7_findError l D ck ad shA [vR 45] w (Pi fun v w1 => fErr tl t v ∧ ∀ c k, ¬ (c = 45 ∧ 10 ≤ k) → w1 c k = w c k) := by
  have h70 := hX.2.1
  refine ev_of_goK (own := RX7) (ls := [some (vR 45)]) (by decide +kernel) rfl rfl (Nat.le_of_ble_eq_true rfl) rkI ?_
  intro K hK
  refine go_aload_n (j := 0) (q := 1) rfl rfl dX7_findError_0 rfl ?_
  refine go_iconst (q := 2) dX7_findError_1 rfl ?_
  refine go_putI (C0 := RX7) (T := TX7) (N := 16) (ci := 7) (i := 10) (q := 5) rfl igX7 (by first | assumption | rfl) (by decide) fl_X7_190 rfl tyX7 tyX7_ok nmX7 rfl rfl dX7_findError_2 rfl ?_
  refine go_aload_n (j := 0) (q := 6) rfl rfl dX7_findError_5 rfl ?_
  refine go_iconst (q := 7) dX7_findError_6 rfl ?_
  refine go_putI (C0 := RX7) (T := TX7) (N := 16) (ci := 7) (i := 11) (q := 10) rfl igX7 (by first | assumption | rfl) (by decide) fl_X7_214 rfl tyX7 tyX7_ok nmX7 rfl rfl dX7_findError_7 rfl ?_
  have lp10 : ∀ (m10 : Nat) (k : Nat) (w1 : Mem) (hk : k ≤ 9) (h10 : w1 45 10 = ((7 * k : Nat) : Int)) (h11 : w1 45 11 = (k : Int)) (hok : ∀ j, j < 7 * k → j < tl ∧ okc j (t j)) (hf : ∀ c k, ¬ (c = 45 ∧ 10 ≤ k) → w1 c k = w c k), m10 = 10 - k → gX7_findError l D ck ad shA 10 [some (vR 45)] [] w1 K := by
    intro m10
    induction m10 using Nat.strongRecOn with
    | _ m10 ih10 =>
    intro k w1 hk h10 h11 hok hf em10
    have hX1 : XM w1 tl t := XM_c hX (hf _ _ (by omega)) (fun k => hf _ _ (by omega))
    refine go_aload_n (j := 0) (q := 11) rfl rfl dX7_findError_10 rfl ?_
    refine go_callVz (as := [_]) (As := []) (rest := []) (n := 0) (q := 14) dX7_findError_11 lk_X7_217 (ci := 7) (N := 16) (T := TX7) rfl (by first | assumption | rfl) rfl rfl (by decide +kernel) rfl ⟨by decide, by decide⟩ ⟨rfl, rfl⟩ (Nat.le_of_ble_eq_true rfl) (em_readsCrossing hX1 hk h10) rfl (fun w11 h11 => ?_) (fun w11 h11 => ?_)
    · obtain ⟨⟨hj, ⟨a10, a11⟩, _⟩, f11⟩ := h11
      have F1 : ∀ c k, ¬ (c = 45 ∧ 10 ≤ k) → w11 c k = w c k := fun c k z => by rw [f11 _ _ z]; exact hf _ _ z
      have hX2 : XM w11 tl t := XM_c hX (F1 _ _ (by omega)) (fun k => F1 _ _ (by omega))
      have t4 := hX2.1
      have hall : ∀ j, j < 7 * k + 6 → j < tl ∧ okc j (t j) := fun j h => by
        by_cases z : j < 7 * k
        · exact hok j z
        · exact hj j h (by omega)
      have hle : 7 * k + 6 ≤ tl := by have := (hall (7 * k + 5) (by omega)).1; omega
      refine go_if_neT (t := 22) dX7_findError_14 (by decide) (by decide) ?_
      refine go_aload_n (j := 0) (q := 23) rfl rfl dX7_findError_22 rfl ?_
      refine go_getI (C0 := RX7) (T := TX7) (N := 16) (ci := 7) (i := 10) (q := 26) rfl igX7 (by first | assumption | rfl) (by decide) fl_X7_190 rfl dX7_findError_23 rfl ?_
      refine go_aload_n (j := 0) (q := 27) rfl rfl dX7_findError_26 rfl ?_
      refine go_getI (C0 := RX7) (T := TX7) (N := 16) (ci := 7) (i := 4) (q := 30) rfl igX7 (by first | assumption | rfl) (by decide) fl_X7_187 rfl dX7_findError_27 rfl ?_
      refine go_icmp_ne2 (q := 33) (t := 36) dX7_findError_30 (by decide) rfl (by omega) (fun c30 => ?_) (fun c30 => ?_)
      · refine go_aload_n (j := 0) (q := 37) rfl rfl dX7_findError_36 rfl ?_
        refine go_getI (C0 := RX7) (T := TX7) (N := 16) (ci := 7) (i := 11) (q := 40) rfl igX7 (by first | assumption | rfl) (by decide) fl_X7_214 rfl dX7_findError_37 rfl ?_
        refine go_bipush (q := 42) rfl dX7_findError_40 rfl ?_
        refine go_icmp_eq2 (q := 45) (t := 54) dX7_findError_42 (by decide) rfl (by omega) (fun c42 => ?_) (fun c42 => ?_)
        · refine go_aload_n (j := 0) (q := 55) rfl rfl dX7_findError_54 rfl ?_
          refine go_getI (C0 := RX7) (T := TX7) (N := 16) (ci := 7) (i := 10) (q := 58) rfl igX7 (by first | assumption | rfl) (by decide) fl_X7_190 rfl dX7_findError_55 rfl ?_
          refine go_iret dX7_findError_58 ?_
          subst hK
          first
          | (have zq := n48
             refine ⟨_, rfl, Or.inl ⟨7 * k + 6, by omega, a48, fun z => n48 ⟨by omega, z.2.2.2.1 (by omega)⟩, fun j h => (hall j h).2⟩, F2⟩)
          | (refine ⟨_, rfl, Or.inl ⟨7 * k + 6, by omega, a10, fun z => by have := z.1; omega, fun j h => (hall j h).2⟩, F1⟩)
        · refine go_aload_n (j := 0) (q := 46) rfl rfl dX7_findError_45 rfl ?_
          refine go_bipush (q := 48) rfl dX7_findError_46 rfl ?_
          refine go_callVz (as := [_, _]) (As := [_]) (rest := []) (n := 1) (q := 51) dX7_findError_48 lk_X7_202 (ci := 7) (N := 16) (T := TX7) rfl (by first | assumption | rfl) rfl rfl (by decide +kernel) rfl ⟨by decide, by decide⟩ ⟨rfl, rfl⟩ (Nat.le_of_ble_eq_true rfl) (em_isNext hX2 a10 (by omega) (ch := 59) rfl (by omega)) rfl (fun w48 h48 => ?_) (fun w48 h48 => ?_)
          · obtain ⟨⟨p48, a48⟩, f48⟩ := h48
            refine go_if_neT (t := 10) dX7_findError_51 (by decide) (by decide) ?_
            exact ih10 _ (by omega) (k + 1) _ (by omega) (by rw [a48]; omega) (by rw [f48 _ _ (by omega), a11, h11]; omega) (fun j h => by
              by_cases z : j < 7 * k + 6
              · exact hall j z
              · have ej : j = 7 * k + 6 := by omega
                subst ej
                exact ⟨p48.1, by unfold okc; omega⟩) (fun c k z => by rw [f48 _ _ (by omega)]; exact F1 _ _ z) rfl
          · obtain ⟨⟨n48, a48⟩, f48⟩ := h48
            have F2 : ∀ c k, ¬ (c = 45 ∧ 10 ≤ k) → w48 c k = w c k := fun c k z => by rw [f48 _ _ (by omega)]; exact F1 _ _ z
            refine go_if_neF (q := 54) (t := 10) dX7_findError_51 rfl (by decide) (by decide) ?_
            refine go_aload_n (j := 0) (q := 55) rfl rfl dX7_findError_54 rfl ?_
            refine go_getI (C0 := RX7) (T := TX7) (N := 16) (ci := 7) (i := 10) (q := 58) rfl igX7 (by first | assumption | rfl) (by decide) fl_X7_190 rfl dX7_findError_55 rfl ?_
            refine go_iret dX7_findError_58 ?_
            subst hK
            first
            | (have zq := n48
               refine ⟨_, rfl, Or.inl ⟨7 * k + 6, by omega, a48, fun z => n48 ⟨by omega, z.2.2.2.1 (by omega)⟩, fun j h => (hall j h).2⟩, F2⟩)
            | (refine ⟨_, rfl, Or.inl ⟨7 * k + 6, by omega, a10, fun z => by have := z.1; omega, fun j h => (hall j h).2⟩, F1⟩)
      · refine go_bipush (q := 35) rfl dX7_findError_33 rfl ?_
        refine go_iret dX7_findError_35 ?_
        subst hK
        have etl : tl = 7 * k + 6 := by omega
        exact ⟨_, rfl, Or.inr ⟨fun j h => (hall j (by omega)).2, by rw [if_pos (by omega)]⟩, F1⟩
    · obtain ⟨⟨q, hq, hj, hnq, a10⟩, f11⟩ := h11
      have F1 : ∀ c k, ¬ (c = 45 ∧ 10 ≤ k) → w11 c k = w c k := fun c k z => by rw [f11 _ _ z]; exact hf _ _ z
      have hall : ∀ j, j < q → j < tl ∧ okc j (t j) := fun j h => by
        by_cases z : j < 7 * k
        · exact hok j z
        · exact hj j h (by omega)
      refine go_if_neF (q := 17) (t := 22) dX7_findError_14 rfl (by decide) (by decide) ?_
      refine go_aload_n (j := 0) (q := 18) rfl rfl dX7_findError_17 rfl ?_
      refine go_getI (C0 := RX7) (T := TX7) (N := 16) (ci := 7) (i := 10) (q := 21) rfl igX7 (by first | assumption | rfl) (by decide) fl_X7_190 rfl dX7_findError_18 rfl ?_
      refine go_iret dX7_findError_21 ?_
      subst hK
      refine ⟨_, rfl, ?_, F1⟩
      by_cases z : q < tl
      · exact Or.inl ⟨q, z, a10, fun z2 => hnq ⟨z, z2⟩, fun j h => (hall j h).2⟩
      · have eq : tl = q := by
          rcases Nat.lt_or_ge tl q with z2 | z2
          · have := (hall tl z2).1; omega
          · omega
        subst eq
        refine Or.inr ⟨fun j h => (hall j h).2, ?_⟩
        rw [if_neg (by omega)]; exact a10
  exact lp10 _ 0 _ (by omega) (by rw [mup_ne (by omega), mup_eq]; rfl) (by rw [mup_eq]; rfl) (fun j h => absurd h (by omega)) (fun c k z => by rw [mup_ne (by omega), mup_ne (by omega)]) rfl
theorem em37 (hP : PMW w W) : eX7_syntaxError l D ck ad shA [vR 45] w (Pi (MR w (op37 W))) := by
  refine ev_of_goK (own := RX7) (ls := [some (vR 45)]) (by decide +kernel) rfl rfl (Nat.le_of_ble_eq_true rfl) rkI ?_
  intro K hK
  refine go_aload_n (j := 0) (q := 1) rfl rfl dX7_syntaxError_0 rfl ?_
  refine go_callVi (as := [_]) (As := []) (rest := []) (n := 0) (q := 4) dX7_syntaxError_1 lk_X7_220 (ci := 7) (N := 16) (T := TX7) rfl (by first | assumption | rfl) rfl rfl (by decide +kernel) rfl ⟨by decide, by decide⟩ ⟨rfl, rfl⟩ (Nat.le_of_ble_eq_true rfl) (em_findError hP.2.2) rfl (fun x1 w1 h1 => ?_)
  obtain ⟨h1, f1⟩ := h1
  refine go_iret dX7_syntaxError_4 ?_
  subst hK; exact ⟨_, rfl, the_eq h1 (fun u hu => fErr_u hu h1), PMW_q hP (fun c k z => f1 _ _ (by omega)), fun c k z => f1 _ _ (by omega)⟩
theorem em38 (hP : PMW w W) : eX7_read l D ck ad shA [vR 45] w (Pi (MR w (op38 W))) := by
  have hX : XM w (wL W) (wT W) := hP.2.2
  have h70 := hX.2.1
  refine ev_of_goK (own := RX7) (ls := [some (vR 45), none, none, none]) (by decide +kernel) rfl rfl (Nat.le_of_ble_eq_true rfl) rkI ?_
  intro K hK
  refine go_aload_n (j := 0) (q := 1) rfl rfl dX7_read_0 rfl ?_
  refine go_callVi (as := [_]) (As := []) (rest := []) (n := 0) (q := 4) dX7_read_1 lk_X7_220 (ci := 7) (N := 16) (T := TX7) rfl (by first | assumption | rfl) rfl rfl (by decide +kernel) rfl ⟨by decide, by decide⟩ ⟨rfl, rfl⟩ (Nat.le_of_ble_eq_true rfl) (em_findError hX) rfl (fun x1 w1 h1 => ?_)
  obtain ⟨h1, f1⟩ := h1
  have e4 := the_eq h1 (fun u hu => fErr_u hu h1)
  have hP1 : PMW w1 W := PMW_q hP (fun c k z => f1 _ _ (by omega))
  refine go_bipush (q := 6) rfl dX7_read_4 rfl ?_
  refine go_icmp_eq2 (q := 9) (t := 12) dX7_read_6 (by decide) rfl (by rcases h1 with ⟨i, z1, z2, z3, z4⟩ | ⟨z1, z2⟩ <;> first | omega | (split at z2 <;> omega)) (fun c6 => ?_) (fun c6 => ?_)
  · have hok : (∀ j, j < wL W → okc j (wT W j)) ∧ wL W % 7 = 6 := by
      rcases h1 with ⟨i, z1, z2, z3, z4⟩ | ⟨z1, z2⟩
      · omega
      · refine ⟨z1, ?_⟩
        by_cases q : wL W % 7 = 6
        · exact q
        · rw [if_neg q] at z2; omega
    obtain ⟨tl, htl⟩ : ∃ tl, tl = wL W := ⟨_, rfl⟩
    obtain ⟨t, ht⟩ : ∃ t, t = wT W := ⟨_, rfl⟩
    rw [← htl, ← ht] at hok
    obtain ⟨c, hc⟩ : ∃ c, c = (tl + 1) / 7 := ⟨_, rfl⟩
    have hlen : tl = 7 * c - 1 ∧ 1 ≤ c ∧ c ≤ 10 := by omega
    have hgb : ∀ k p, k < c → p < 3 → 7 * k + 2 * p < tl ∧ 48 ≤ t (7 * k + 2 * p) ∧ gTx t k p < 7 := by
      intro k p hk hp
      have h3 : 7 * k + 2 * p < tl := by omega
      have h4 := (hok.1 _ h3).2.2.2.2 (by rcases (show p = 0 ∨ p = 1 ∨ p = 2 by omega) with rfl | rfl | rfl <;> omega)
      exact ⟨h3, h4.1, by unfold gTx; omega⟩
    have hmx := mxT_b (g := gTx t) (c := c) (fun k p hk hp => (hgb k p hk hp).2.2)
    have hchl := chF_l hok.1 hok.2
    rw [← hc] at hchl
    have hch6 : ∀ j, chF t j ≤ 6 := fun j => by
      induction j with
      | zero => show 0 ≤ 6; omega
      | succ j ih => rw [chF_s]; split <;> omega
    refine go_aload_n (j := 0) (q := 13) rfl rfl dX7_read_12 rfl ?_
    refine go_callVv (as := [_]) (As := []) (rest := []) (n := 0) (q := 16) dX7_read_13 lk_X7_39 (ci := 7) (N := 16) (T := TX7) rfl (by first | assumption | rfl) rfl rfl (by decide +kernel) rfl ⟨by decide, by decide⟩ ⟨rfl, rfl⟩ (Nat.le_of_ble_eq_true rfl) (em_record hP1) rfl (fun w13 h13 => ?_)
    obtain ⟨hR, fR⟩ := h13
    have hX2 : XM w13 tl t := by rw [htl, ht]; exact hR.2.2
    have tl2 := hX2.1
    refine go_iconst (q := 17) dX7_read_16 rfl ?_
    refine go_istore_n (j := 1) (q := 18) (ls2 := [_, _, _, _]) rfl (by decide) rfl rfl dX7_read_17 rfl ?_
    refine go_iconst (q := 19) dX7_read_18 rfl ?_
    refine go_istore_n (j := 2) (q := 20) (ls2 := [_, _, _, _]) rfl (by decide) rfl rfl dX7_read_19 rfl ?_
    have lp20 : ∀ (m20 : Nat) (k : Nat) (ki mi : Int) (u : Option MV) (ek : ki = k) (hk : k ≤ tl) (em : mi = (chF t k : Nat)), m20 = tl - k → gX7_read l D ck ad shA 20 [some (vR 45), some (vI mi), some (vI ki), u] [] w13 K := by
      intro m20
      induction m20 using Nat.strongRecOn with
      | _ m20 ih20 =>
      intro k ki mi u ek hk em em20
      have h6k := hch6 k
      refine go_iload_n (j := 2) (q := 21) rfl rfl dX7_read_20 rfl ?_
      refine go_aload_n (j := 0) (q := 22) rfl rfl dX7_read_21 rfl ?_
      refine go_getI (C0 := RX7) (T := TX7) (N := 16) (ci := 7) (i := 4) (q := 25) rfl igX7 (by first | assumption | rfl) (by decide) fl_X7_187 rfl dX7_read_22 rfl ?_
      refine go_icmp_ge2 (q := 28) (t := 65) dX7_read_25 (by decide) rfl (by omega) (fun c25 => ?_) (fun c25 => ?_)
      · have emx : mi = (mxT (gTx t) c : Nat) := by rw [em, show k = tl by omega, hchl]
        have hm7 := hmx.1
        refine go_aload_n (j := 0) (q := 66) rfl rfl dX7_read_65 rfl ?_
        refine go_iload_n (j := 1) (q := 67) rfl rfl dX7_read_66 rfl ?_
        refine go_iconst (q := 68) dX7_read_67 rfl ?_
        refine go_iadd (q := 69) dX7_read_68 rfl ?_
        refine go_callVv (as := [_, _]) (As := [_]) (rest := []) (n := 1) (q := 72) dX7_read_69 lk_X7_137 (ci := 7) (N := 16) (T := TX7) rfl (by first | assumption | rfl) rfl rfl (by decide +kernel) rfl ⟨by decide, by decide⟩ ⟨rfl, rfl⟩ (Nat.le_of_ble_eq_true rfl) (em_clears (g := gTx t) (s := sTx t) (x := mxT (gTx t) c + 1) (by omega) (by omega)) rfl (fun w69 h69 => ?_)
        obtain ⟨D69, t69, f69⟩ := h69
        have F69 : ∀ c k, c ≠ 47 → ¬ (c = 45 ∧ k = 2) → c ≠ 46 → w69 c k = w1 c k := fun c k z1 z2 z3 => by rw [f69 _ _ z3]; exact fR _ _ z1 z2
        refine go_aload_n (j := 0) (q := 73) rfl rfl dX7_read_72 rfl ?_
        refine go_iconst (q := 74) dX7_read_73 rfl ?_
        refine go_putI (C0 := RX7) (T := TX7) (N := 16) (ci := 7) (i := 10) (q := 77) rfl igX7 (by first | assumption | rfl) (by decide) fl_X7_190 rfl tyX7 tyX7_ok nmX7 rfl rfl dX7_read_74 rfl ?_
        have lp77 : ∀ (m77 : Nat) (q : Nat) (u2 : Option MV) (w3 : Mem) (hq : q ≤ c) (h10 : w3 45 10 = (if q < c then ((7 * q : Nat) : Int) else (tl : Int))) (hD3 : DMv (w3 46) (mxT (gTx t) c + 1) q (gTx t) (sTx t)) (ht3 : ∀ k, k < 37 → w3 46 k = w13 46 k) (hf3 : ∀ c k, c ≠ 46 → ¬ (c = 45 ∧ 10 ≤ k) → w3 c k = w13 c k), m77 = c - q → gX7_read l D ck ad shA 77 [some (vR 45), some (vI mi), some (vI ki), u2] [] w3 K := by
          intro m77
          induction m77 using Nat.strongRecOn with
          | _ m77 ih77 =>
          intro q u2 w3 hq h10 hD3 ht3 hf3 em77
          have hX3 : XM w3 tl t := XM_c hX2 (hf3 _ _ (by omega) (by omega)) (fun k => hf3 _ _ (by omega) (by omega))
          have tl3 := hX3.1
          refine go_aload_n (j := 0) (q := 78) rfl rfl dX7_read_77 rfl ?_
          refine go_getI (C0 := RX7) (T := TX7) (N := 16) (ci := 7) (i := 10) (q := 81) rfl igX7 (by first | assumption | rfl) (by decide) fl_X7_190 rfl dX7_read_78 rfl ?_
          refine go_aload_n (j := 0) (q := 82) rfl rfl dX7_read_81 rfl ?_
          refine go_getI (C0 := RX7) (T := TX7) (N := 16) (ci := 7) (i := 4) (q := 85) rfl igX7 (by first | assumption | rfl) (by decide) fl_X7_187 rfl dX7_read_82 rfl ?_
          refine go_icmp_ge2 (q := 88) (t := 123) dX7_read_85 (by decide) rfl (by split at h10 <;> omega) (fun c85 => ?_) (fun c85 => ?_)
          · refine go_aload_n (j := 0) (q := 124) rfl rfl dX7_read_123 rfl ?_
            refine go_iconst (q := 125) dX7_read_124 rfl ?_
            refine go_putI (C0 := RX7) (T := TX7) (N := 16) (ci := 7) (i := 4) (q := 128) rfl igX7 (by first | assumption | rfl) (by decide) fl_X7_187 rfl tyX7 tyX7_ok nmX7 rfl rfl dX7_read_125 rfl ?_
            refine go_aload_n (j := 0) (q := 129) rfl rfl dX7_read_128 rfl ?_
            refine go_getR (C0 := RX7) (T := TX7) (N := 16) (ci := 7) (i := 0) (q := 132) rfl igX7 (by first | assumption | rfl) (by decide) fl_X7_7 rfl dX7_read_129 rfl ?_
            refine go_bipush (q := 134) rfl dX7_read_132 rfl ?_
            refine go_iald (j := 37) (q := 135) (by first | assumption | rfl) (wr_eq (by omega)) (by omega) dX7_read_134 rfl ?_
            refine go_iret dX7_read_135 ?_
            subst hK
            have eqc : q = c := by
              rcases Nat.lt_or_ge q c with z | z
              · rw [if_pos z] at h10; omega
              · omega
            unfold op38
            rw [cif_t (by rw [← e4]; exact c6), ← htl, ← ht, ← hc]
            rw [eqc] at hD3
            have hR3 : TMv (w3 46) (wN W) (wF W) := TMv_c hR.1.1 ht3
            have hPn : PMW w3 (psh W (dS W (mxT (gTx t) c + 1) c (gTx t) (sTx t))) := PMW_S hR (S := dS W (mxT (gTx t) c + 1) c (gTx t) (sTx t)) ⟨hR3, hD3⟩ (fun c k z => hf3 _ _ (by omega) (by omega))
            exact ⟨_, rfl, by rw [mup_ne (by omega)]; exact hD3.1, PMW_X hPn ⟨by rw [mup_eq]; rfl, by omega, fun i h => absurd h (Nat.not_lt_zero i)⟩ (fun c k z => mup_ne (by omega)), fun c k z => by rw [mup_ne (by omega), hf3 _ _ (by omega) (by omega), fR _ _ (by omega) (by omega)]; exact f1 _ _ (by omega)⟩
          · have hqc : q < c := by
              rcases Nat.lt_or_ge q c with z | z
              · exact z
              · rw [if_neg (by omega)] at h10; omega
            rw [if_pos hqc] at h10
            refine go_aload_n (j := 0) (q := 89) rfl rfl dX7_read_88 rfl ?_
            refine go_callVz (as := [_]) (As := []) (rest := []) (n := 0) (q := 92) dX7_read_89 lk_X7_217 (ci := 7) (N := 16) (T := TX7) rfl (by first | assumption | rfl) rfl rfl (by decide +kernel) rfl ⟨by decide, by decide⟩ ⟨rfl, rfl⟩ (Nat.le_of_ble_eq_true rfl) (em_readsCrossing hX3 (show q ≤ 9 by omega) h10) rfl (fun w89 h89 => ?_) (fun w89 h89 => ?_)
            · obtain ⟨⟨_, ⟨a10, _⟩, e12, e13, e14, e15⟩, f89⟩ := h89
              have F89 : ∀ c k, c ≠ 46 → ¬ (c = 45 ∧ 10 ≤ k) → w89 c k = w13 c k := fun c k z1 z2 => by rw [f89 _ _ z2]; exact hf3 _ _ z1 z2
              have hX4 : XM w89 tl t := XM_c hX2 (F89 _ _ (by omega) (by omega)) (fun k => F89 _ _ (by omega) (by omega))
              refine go_pop (q := 93) (fun _ z => by cases z) dX7_read_92 rfl ?_
              refine go_aload_n (j := 0) (q := 94) rfl rfl dX7_read_93 rfl ?_
              refine go_bipush (q := 96) rfl dX7_read_94 rfl ?_
              refine go_callVz (as := [_, _]) (As := [_]) (rest := []) (n := 1) (q := 99) dX7_read_96 lk_X7_202 (ci := 7) (N := 16) (T := TX7) rfl (by first | assumption | rfl) rfl rfl (by decide +kernel) rfl ⟨by decide, by decide⟩ ⟨rfl, rfl⟩ (Nat.le_of_ble_eq_true rfl) (em_isNext hX4 a10 (by omega) (ch := 59) rfl (by omega)) rfl (fun w96 h96 => ?_) (fun w96 h96 => ?_)
              · obtain ⟨⟨p96, a96⟩, f96⟩ := h96
                have b96 : w96 45 10 = (if q + 1 < c then ((7 * (q + 1) : Nat) : Int) else (tl : Int)) := by rw [a96, if_pos (by omega)]; omega
                refine go_pop (q := 100) (fun _ z => by cases z) dX7_read_99 rfl ?_
                have D96 : DMv (w96 46) (mxT (gTx t) c + 1) q (gTx t) (sTx t) := DMv_c hD3 (fun k _ _ => by rw [f96 _ _ (by omega), f89 _ _ (by omega)])
                have m0 := hmx.2 q 0 (by omega) (by omega)
                have m1 := hmx.2 q 1 (by omega) (by omega)
                have m2 := hmx.2 q 2 (by omega) (by omega)
                have q0 : w96 45 12 = (gTx t q 0 : Int) := by rw [f96 _ _ (by omega)]; exact e12
                have q1 : w96 45 13 = (gTx t q 1 : Int) := by rw [f96 _ _ (by omega)]; exact e13
                have q2 : w96 45 14 = (gTx t q 2 : Int) := by rw [f96 _ _ (by omega)]; exact e14
                have q3 : w96 45 15 = sTx t q := by rw [f96 _ _ (by omega)]; exact e15
                have s3 : sTx t q = 1 ∨ sTx t q = -1 := by unfold sTx; split; exact Or.inl rfl; exact Or.inr rfl
                refine go_aload_n (j := 0) (q := 101) rfl rfl dX7_read_100 rfl ?_
                refine go_aload_n (j := 0) (q := 102) rfl rfl dX7_read_101 rfl ?_
                refine go_getI (C0 := RX7) (T := TX7) (N := 16) (ci := 7) (i := 12) (q := 105) rfl igX7 (by first | assumption | rfl) (by decide) fl_X7_199 rfl dX7_read_102 rfl ?_
                refine go_aload_n (j := 0) (q := 106) rfl rfl dX7_read_105 rfl ?_
                refine go_getI (C0 := RX7) (T := TX7) (N := 16) (ci := 7) (i := 13) (q := 109) rfl igX7 (by first | assumption | rfl) (by decide) fl_X7_205 rfl dX7_read_106 rfl ?_
                refine go_aload_n (j := 0) (q := 110) rfl rfl dX7_read_109 rfl ?_
                refine go_getI (C0 := RX7) (T := TX7) (N := 16) (ci := 7) (i := 14) (q := 113) rfl igX7 (by first | assumption | rfl) (by decide) fl_X7_208 rfl dX7_read_110 rfl ?_
                refine go_aload_n (j := 0) (q := 114) rfl rfl dX7_read_113 rfl ?_
                refine go_getI (C0 := RX7) (T := TX7) (N := 16) (ci := 7) (i := 15) (q := 117) rfl igX7 (by first | assumption | rfl) (by decide) fl_X7_211 rfl dX7_read_114 rfl ?_
                refine go_callVv (as := [_, _, _, _, _]) (As := [_, _, _, _]) (rest := []) (n := 4) (q := 120) dX7_read_117 lk_X7_140 (ci := 7) (N := 16) (T := TX7) rfl (by first | assumption | rfl) rfl rfl (by decide +kernel) rfl ⟨by decide, by decide⟩ ⟨rfl, rfl⟩ (Nat.le_of_ble_eq_true rfl) (em_adds D96 (by omega) (by omega) (by omega)) rfl (fun w117 h117 => ?_)
                obtain ⟨D117, t117, f117⟩ := h117
                rw [q0, q1, q2, q3, Int.toNat_natCast, Int.toNat_natCast, Int.toNat_natCast] at D117
                refine go_goto (q := 77) dX7_read_120 (by decide) ?_
                exact ih77 _ (by omega) (q + 1) _ _ (by omega) (by rw [f117 _ _ (by omega)]; exact b96) (DMv_g D117 gap_tx) (fun k h => by rw [t117 k h, f96 _ _ (by omega), f89 _ _ (by omega)]; exact ht3 k h) (fun c k z1 z2 => by rw [f117 _ _ z1, f96 _ _ (by omega)]; exact F89 _ _ z1 z2) rfl
              · obtain ⟨⟨n96, a96⟩, f96⟩ := h96
                have b96 : w96 45 10 = (if q + 1 < c then ((7 * (q + 1) : Nat) : Int) else (tl : Int)) := by
                  have : ¬ q + 1 < c := fun z => n96 ⟨by omega, (hok.1 (7 * q + 6) (by omega)).2.2.2.1 (by omega)⟩
                  rw [a96, if_neg this]; omega
                refine go_pop (q := 100) (fun _ z => by cases z) dX7_read_99 rfl ?_
                have D96 : DMv (w96 46) (mxT (gTx t) c + 1) q (gTx t) (sTx t) := DMv_c hD3 (fun k _ _ => by rw [f96 _ _ (by omega), f89 _ _ (by omega)])
                have m0 := hmx.2 q 0 (by omega) (by omega)
                have m1 := hmx.2 q 1 (by omega) (by omega)
                have m2 := hmx.2 q 2 (by omega) (by omega)
                have q0 : w96 45 12 = (gTx t q 0 : Int) := by rw [f96 _ _ (by omega)]; exact e12
                have q1 : w96 45 13 = (gTx t q 1 : Int) := by rw [f96 _ _ (by omega)]; exact e13
                have q2 : w96 45 14 = (gTx t q 2 : Int) := by rw [f96 _ _ (by omega)]; exact e14
                have q3 : w96 45 15 = sTx t q := by rw [f96 _ _ (by omega)]; exact e15
                have s3 : sTx t q = 1 ∨ sTx t q = -1 := by unfold sTx; split; exact Or.inl rfl; exact Or.inr rfl
                refine go_aload_n (j := 0) (q := 101) rfl rfl dX7_read_100 rfl ?_
                refine go_aload_n (j := 0) (q := 102) rfl rfl dX7_read_101 rfl ?_
                refine go_getI (C0 := RX7) (T := TX7) (N := 16) (ci := 7) (i := 12) (q := 105) rfl igX7 (by first | assumption | rfl) (by decide) fl_X7_199 rfl dX7_read_102 rfl ?_
                refine go_aload_n (j := 0) (q := 106) rfl rfl dX7_read_105 rfl ?_
                refine go_getI (C0 := RX7) (T := TX7) (N := 16) (ci := 7) (i := 13) (q := 109) rfl igX7 (by first | assumption | rfl) (by decide) fl_X7_205 rfl dX7_read_106 rfl ?_
                refine go_aload_n (j := 0) (q := 110) rfl rfl dX7_read_109 rfl ?_
                refine go_getI (C0 := RX7) (T := TX7) (N := 16) (ci := 7) (i := 14) (q := 113) rfl igX7 (by first | assumption | rfl) (by decide) fl_X7_208 rfl dX7_read_110 rfl ?_
                refine go_aload_n (j := 0) (q := 114) rfl rfl dX7_read_113 rfl ?_
                refine go_getI (C0 := RX7) (T := TX7) (N := 16) (ci := 7) (i := 15) (q := 117) rfl igX7 (by first | assumption | rfl) (by decide) fl_X7_211 rfl dX7_read_114 rfl ?_
                refine go_callVv (as := [_, _, _, _, _]) (As := [_, _, _, _]) (rest := []) (n := 4) (q := 120) dX7_read_117 lk_X7_140 (ci := 7) (N := 16) (T := TX7) rfl (by first | assumption | rfl) rfl rfl (by decide +kernel) rfl ⟨by decide, by decide⟩ ⟨rfl, rfl⟩ (Nat.le_of_ble_eq_true rfl) (em_adds D96 (by omega) (by omega) (by omega)) rfl (fun w117 h117 => ?_)
                obtain ⟨D117, t117, f117⟩ := h117
                rw [q0, q1, q2, q3, Int.toNat_natCast, Int.toNat_natCast, Int.toNat_natCast] at D117
                refine go_goto (q := 77) dX7_read_120 (by decide) ?_
                exact ih77 _ (by omega) (q + 1) _ _ (by omega) (by rw [f117 _ _ (by omega)]; exact b96) (DMv_g D117 gap_tx) (fun k h => by rw [t117 k h, f96 _ _ (by omega), f89 _ _ (by omega)]; exact ht3 k h) (fun c k z1 z2 => by rw [f117 _ _ z1, f96 _ _ (by omega)]; exact F89 _ _ z1 z2) rfl
            · obtain ⟨⟨q', hq', _, hnq, _⟩, f89⟩ := h89
              exact absurd ⟨by omega, hok.1 q' (by omega)⟩ hnq
        exact lp77 _ 0 _ _ (by omega) (by rw [mup_eq, if_pos (by omega)]; rfl) (DMv_c D69 (fun k _ _ => mup_ne (by omega))) (fun k h => by rw [mup_ne (by omega)]; exact t69 k h) (fun c k z1 z2 => by rw [mup_ne (by omega)]; exact f69 _ _ z1) rfl
      · refine go_aload_n (j := 0) (q := 29) rfl rfl dX7_read_28 rfl ?_
        refine go_getR (C0 := RX7) (T := TX7) (N := 16) (ci := 7) (i := 3) (q := 32) rfl igX7 (by first | assumption | rfl) (by decide) fl_X7_16 rfl dX7_read_29 rfl ?_
        refine go_iload_n (j := 2) (q := 33) rfl rfl dX7_read_32 rfl ?_
        refine go_iald (j := k) (q := 34) (by first | assumption | rfl) (wr_eq (by omega)) (by omega) dX7_read_33 rfl ?_
        have hck := hX2.2.2 k (by omega)
        rw [hck.1]
        refine go_bipush (q := 36) rfl dX7_read_34 rfl ?_
        refine go_isub (q := 37) dX7_read_36 rfl ?_
        refine go_istore_n (j := 3) (q := 38) (ls2 := [_, _, _, _]) rfl (by decide) rfl rfl dX7_read_37 rfl ?_
        refine go_iload_n (j := 3) (q := 39) rfl rfl dX7_read_38 rfl ?_
        refine go_iconst (q := 40) dX7_read_39 rfl ?_
        refine go_bipush (q := 42) rfl dX7_read_40 rfl ?_
        refine go_callSz (as := [_, _, _]) (rest := []) (n := 3) (q := 45) dX7_read_42 lk_X7_35 rfl (by decide +kernel) rfl ⟨by decide, by decide⟩ ⟨rfl, rfl⟩ (Nat.le_of_ble_eq_true rfl) (em_within (by omega)) rfl (fun w42 h42 => ?_) (fun w42 h42 => ?_)
        · obtain ⟨rfl, h42⟩ := h42
          refine go_if_eqF (q := 48) (t := 57) dX7_read_45 rfl (by decide) (by decide) ?_
          refine go_iload_n (j := 3) (q := 49) rfl rfl dX7_read_48 rfl ?_
          refine go_iload_n (j := 1) (q := 50) rfl rfl dX7_read_49 rfl ?_
          refine go_icmp_le2 (q := 53) (t := 57) dX7_read_50 (by decide) rfl (by omega) (fun c50 => ?_) (fun c50 => ?_)
          · have zn : ¬ ((48 ≤ t k ∧ t k ≤ 54) ∧ chF t k < t k - 48) := by omega
            refine go_iload_n (j := 1) (q := 58) rfl rfl dX7_read_57 rfl ?_
            refine go_istore_n (j := 1) (q := 59) (ls2 := [_, _, _, _]) rfl (by decide) rfl rfl dX7_read_58 rfl ?_
            refine go_iinc (j := 2) (q := 62) (ls2 := [_, _, _, _]) rfl (by decide) rfl rfl dX7_read_59 rfl ?_
            refine go_goto (q := 20) dX7_read_62 (by decide) ?_
            first
            | (have zq := zp; exact ih20 _ (by omega) (k + 1) _ _ _ (by omega) (by omega) (by rw [chF_s, if_pos zp]; omega) rfl)
            | (have zq := zn; exact ih20 _ (by omega) (k + 1) _ _ _ (by omega) (by omega) (by rw [chF_s, if_neg zn]; exact em) rfl)
            | exact ih20 _ (by omega) (k + 1) _ _ _ (by omega) (by omega) (by rw [chF_n (by omega)]; exact em) rfl
          · have zp : (48 ≤ t k ∧ t k ≤ 54) ∧ chF t k < t k - 48 := by omega
            refine go_iload_n (j := 3) (q := 54) rfl rfl dX7_read_53 rfl ?_
            refine go_goto (q := 58) dX7_read_54 (by decide) ?_
            refine go_istore_n (j := 1) (q := 59) (ls2 := [_, _, _, _]) rfl (by decide) rfl rfl dX7_read_58 rfl ?_
            refine go_iinc (j := 2) (q := 62) (ls2 := [_, _, _, _]) rfl (by decide) rfl rfl dX7_read_59 rfl ?_
            refine go_goto (q := 20) dX7_read_62 (by decide) ?_
            first
            | (have zq := zp; exact ih20 _ (by omega) (k + 1) _ _ _ (by omega) (by omega) (by rw [chF_s, if_pos zp]; omega) rfl)
            | (have zq := zn; exact ih20 _ (by omega) (k + 1) _ _ _ (by omega) (by omega) (by rw [chF_s, if_neg zn]; exact em) rfl)
            | exact ih20 _ (by omega) (k + 1) _ _ _ (by omega) (by omega) (by rw [chF_n (by omega)]; exact em) rfl
        · obtain ⟨rfl, h42⟩ := h42
          refine go_if_eqT (t := 57) dX7_read_45 (by decide) (by decide) ?_
          refine go_iload_n (j := 1) (q := 58) rfl rfl dX7_read_57 rfl ?_
          refine go_istore_n (j := 1) (q := 59) (ls2 := [_, _, _, _]) rfl (by decide) rfl rfl dX7_read_58 rfl ?_
          refine go_iinc (j := 2) (q := 62) (ls2 := [_, _, _, _]) rfl (by decide) rfl rfl dX7_read_59 rfl ?_
          refine go_goto (q := 20) dX7_read_62 (by decide) ?_
          first
          | (have zq := zp; exact ih20 _ (by omega) (k + 1) _ _ _ (by omega) (by omega) (by rw [chF_s, if_pos zp]; omega) rfl)
          | (have zq := zn; exact ih20 _ (by omega) (k + 1) _ _ _ (by omega) (by omega) (by rw [chF_s, if_neg zn]; exact em) rfl)
          | exact ih20 _ (by omega) (k + 1) _ _ _ (by omega) (by omega) (by rw [chF_n (by omega)]; exact em) rfl
    exact lp20 _ 0 0 0 _ rfl (by omega) rfl rfl
  · refine go_bipush (q := 11) rfl dX7_read_9 rfl ?_
    refine go_iret dX7_read_11 ?_
    subst hK
    unfold op38
    rw [cif_f (by rw [← e4]; exact c6)]; exact ⟨_, rfl, rfl, hP1, fun c k z => f1 _ _ (by omega)⟩
theorem em39 (hP : PMW w W) : eX7_undo l D ck ad shA [vR 45] w (Pi (MR w (op39 W))) := by
  have h2 : w 45 2 = (wHc W : Int) := hP.2.1.1
  have h6 : wHc W ≤ 6 := hP.2.1.2.1
  refine ev_of_goK (own := RX7) (ls := [some (vR 45), none]) (by decide +kernel) rfl rfl (Nat.le_of_ble_eq_true rfl) rkI ?_
  intro K hK
  refine go_aload_n (j := 0) (q := 1) rfl rfl dX7_undo_0 rfl ?_
  refine go_getI (C0 := RX7) (T := TX7) (N := 16) (ci := 7) (i := 2) (q := 4) rfl igX7 (by first | assumption | rfl) (by decide) fl_X7_31 rfl dX7_undo_1 rfl ?_
  refine go_if_ne2 (q := 7) (t := 10) dX7_undo_4 (by decide) rfl (by omega) (fun c4 => ?_) (fun c4 => ?_)
  · obtain ⟨h, hh⟩ : ∃ h, h = wHc W - 1 := ⟨_, rfl⟩
    have hs : SMv (fun k => w 47 (79 * h + k)) (wH W h) := hP.2.1.2.2 h (by show h < wHc W; omega)
    refine go_aload_n (j := 0) (q := 11) rfl rfl dX7_undo_10 rfl ?_
    refine go_dup (q := 12) (fun _ z => by cases z) dX7_undo_11 rfl ?_
    refine go_getI (C0 := RX7) (T := TX7) (N := 16) (ci := 7) (i := 2) (q := 15) rfl igX7 (by first | assumption | rfl) (by decide) fl_X7_31 rfl dX7_undo_12 rfl ?_
    refine go_iconst (q := 16) dX7_undo_15 rfl ?_
    refine go_isub (q := 17) dX7_undo_16 rfl ?_
    refine go_putI (C0 := RX7) (T := TX7) (N := 16) (ci := 7) (i := 2) (q := 20) rfl igX7 (by first | assumption | rfl) (by decide) fl_X7_31 rfl tyX7 tyX7_ok nmX7 rfl rfl dX7_undo_17 rfl ?_
    refine go_iconst (q := 21) dX7_undo_20 rfl ?_
    refine go_istore_n (j := 1) (q := 22) (ls2 := [_, _]) rfl (by decide) rfl rfl dX7_undo_21 rfl ?_
    have lp22 : ∀ (m22 : Nat) (k : Nat) (ki : Int) (w1 : Mem) (ek : ki = k) (hk : k ≤ 79) (h21 : w1 45 2 = (h : Int)) (hi : ∀ j, j < k → w1 46 j = w 47 (79 * h + j)) (hf : ∀ c k, c ≠ 46 → ¬ (c = 45 ∧ k = 2) → w1 c k = w c k), m22 = 79 - k → gX7_undo l D ck ad shA 22 [some (vR 45), some (vI ki)] [] w1 K := by
      intro m22
      induction m22 using Nat.strongRecOn with
      | _ m22 ih22 =>
      intro k ki w1 ek hk h21 hi hf em22
      refine go_iload_n (j := 1) (q := 23) rfl rfl dX7_undo_22 rfl ?_
      refine go_bipush (q := 25) rfl dX7_undo_23 rfl ?_
      refine go_icmp_ge2 (q := 28) (t := 54) dX7_undo_25 (by decide) rfl (by omega) (fun c25 => ?_) (fun c25 => ?_)
      · refine go_aload_n (j := 0) (q := 55) rfl rfl dX7_undo_54 rfl ?_
        refine go_getI (C0 := RX7) (T := TX7) (N := 16) (ci := 7) (i := 2) (q := 58) rfl igX7 (by first | assumption | rfl) (by decide) fl_X7_31 rfl dX7_undo_55 rfl ?_
        refine go_iret dX7_undo_58 ?_
        subst hK
        unfold op39
        rw [cif_f (by omega), ← hh]
        refine ⟨_, rfl, h21, ⟨SMv_c hs (fun k hk2 => hi k (by omega)), ⟨h21, by show h ≤ 6; omega, fun i (hi2 : i < h) => SMv_c (hP.2.1.2.2 i (by show i < wHc W; omega)) (fun k _ => hf _ _ (by omega) (by omega))⟩, XM_c hP.2.2 (hf _ _ (by omega) (by omega)) (fun k => hf _ _ (by omega) (by omega))⟩, fun c k z => hf _ _ (by omega) (by omega)⟩
      · refine go_aload_n (j := 0) (q := 29) rfl rfl dX7_undo_28 rfl ?_
        refine go_getR (C0 := RX7) (T := TX7) (N := 16) (ci := 7) (i := 0) (q := 32) rfl igX7 (by first | assumption | rfl) (by decide) fl_X7_7 rfl dX7_undo_29 rfl ?_
        refine go_iload_n (j := 1) (q := 33) rfl rfl dX7_undo_32 rfl ?_
        refine go_aload_n (j := 0) (q := 34) rfl rfl dX7_undo_33 rfl ?_
        refine go_getR (C0 := RX7) (T := TX7) (N := 16) (ci := 7) (i := 1) (q := 37) rfl igX7 (by first | assumption | rfl) (by decide) fl_X7_13 rfl dX7_undo_34 rfl ?_
        refine go_aload_n (j := 0) (q := 38) rfl rfl dX7_undo_37 rfl ?_
        refine go_getI (C0 := RX7) (T := TX7) (N := 16) (ci := 7) (i := 2) (q := 41) rfl igX7 (by first | assumption | rfl) (by decide) fl_X7_31 rfl dX7_undo_38 rfl ?_
        refine go_bipush (q := 43) rfl dX7_undo_41 rfl ?_
        refine go_imul (q := 44) dX7_undo_43 rfl ?_
        refine go_iload_n (j := 1) (q := 45) rfl rfl dX7_undo_44 rfl ?_
        refine go_iadd (q := 46) dX7_undo_45 rfl ?_
        refine go_iald (j := 79 * h + k) (q := 47) (by first | assumption | rfl) (wr_eq (by omega)) (by omega) dX7_undo_46 rfl ?_
        refine go_iast (j := k) (q := 48) (by first | assumption | rfl) (wr_eq (by omega)) (by omega) dX7_undo_47 rfl ?_
        refine go_iinc (j := 1) (q := 51) (ls2 := [_, _]) rfl (by decide) rfl rfl dX7_undo_48 rfl ?_
        refine go_goto (q := 22) dX7_undo_51 (by decide) ?_
        exact ih22 _ (by omega) (k + 1) _ _ (by omega) (by omega) (by rw [mup_ne (by omega)]; exact h21) (by
          intro j hj
          by_cases q : j = k
          · subst q; rw [mup_eq, hf _ _ (by omega) (by omega)]
          · rw [mup_ne (by omega)]; exact hi j (by omega)) (fun c k z1 z2 => by rw [mup_ne (Or.inl z1)]; exact hf _ _ z1 z2) rfl
    exact lp22 _ 0 0 _ rfl (by omega) (by rw [mup_eq]; omega) (fun j hj => absurd hj (Nat.not_lt_zero j)) (fun c k z1 z2 => mup_ne (by omega)) rfl
  · refine go_bipush (q := 9) rfl dX7_undo_7 rfl ?_
    refine go_iret dX7_undo_9 ?_
    subst hK
    unfold op39; rw [cif_t (by omega)]; exact ⟨_, rfl, rfl, hP, fun c k _ => rfl⟩
theorem em40 (hP : PMW w W) : eX7_digest l D ck ad shA [vR 45] w (Pl (MR w (op40 W))) := by
  have hn : 1 ≤ wN W ∧ wN W ≤ 6 := hP.1.1.2.1
  have hT : TMv (w 46) (wN W) (wF W) := hP.1.1
  have hD : DMv (w 46) (wA W) (wC W) (wG W) (wS W) := hP.1.2
  have hb := hD.2.2.1
  have g0 := hT.1
  have g37 := hD.1
  have g38 := hD.2.1
  refine ev_of_goK (own := RX7) (ls := [some (vR 45), none, none, none, none]) (by decide +kernel) rfl rfl (Nat.le_of_ble_eq_true rfl) rkL ?_
  intro K hK
  refine go_ldc2 (n := 3102) (q := 3) cn_X7_223 rfl dX7_digest_0 rfl ?_
  refine go_lstore_n (j := 1) (q := 4) (ls2 := [_, _, _, _, _]) rfl (by decide) rfl rfl dX7_digest_3 rfl ?_
  refine go_ldc2 (n := 31) (q := 7) cn_X7_225 rfl dX7_digest_4 rfl ?_
  refine go_lload_n (j := 1) (q := 8) rfl rfl dX7_digest_7 rfl ?_
  refine go_lmul (q := 9) dX7_digest_8 rfl ?_
  refine go_aload_n (j := 0) (q := 10) rfl rfl dX7_digest_9 rfl ?_
  refine go_getR (C0 := RX7) (T := TX7) (N := 16) (ci := 7) (i := 0) (q := 13) rfl igX7 (by first | assumption | rfl) (by decide) fl_X7_7 rfl dX7_digest_10 rfl ?_
  refine go_iconst (q := 14) dX7_digest_13 rfl ?_
  refine go_iald (j := 0) (q := 15) (by first | assumption | rfl) (wr_eq (by omega)) (by omega) dX7_digest_14 rfl ?_
  rw [g0]
  refine go_i2l (q := 16) dX7_digest_15 rfl ?_
  refine go_ladd (q := 17) dX7_digest_16 rfl ?_
  refine go_lstore_n (j := 1) (q := 18) (ls2 := [_, _, _, _, _]) rfl (by decide) rfl rfl dX7_digest_17 rfl ?_
  refine go_iconst (q := 19) dX7_digest_18 rfl ?_
  refine go_istore_n (j := 3) (q := 20) (ls2 := [_, _, _, _, _]) rfl (by decide) rfl rfl dX7_digest_19 rfl ?_
  have lp20 : ∀ (m20 : Nat) (x : Nat) (xi hx : Int) (u : Option MV) (ex : xi = x) (hxl : x ≤ wN W) (ehx : hx = fN (fun x h => fN (fun y h => mixZ h (wF W x y : Int)) h (wN W)) (mixZ 3102 (wN W : Int)) x), m20 = wN W - x → gX7_digest l D ck ad shA 20 [some (vR 45), some (vL hx), none, some (vI xi), u] [] w K := by
    intro m20
    induction m20 using Nat.strongRecOn with
    | _ m20 ih20 =>
    intro x xi hx u ex hxl ehx em20
    refine go_iload_n (j := 3) (q := 21) rfl rfl dX7_digest_20 rfl ?_
    refine go_aload_n (j := 0) (q := 22) rfl rfl dX7_digest_21 rfl ?_
    refine go_getR (C0 := RX7) (T := TX7) (N := 16) (ci := 7) (i := 0) (q := 25) rfl igX7 (by first | assumption | rfl) (by decide) fl_X7_7 rfl dX7_digest_22 rfl ?_
    refine go_iconst (q := 26) dX7_digest_25 rfl ?_
    refine go_iald (j := 0) (q := 27) (by first | assumption | rfl) (wr_eq (by omega)) (by omega) dX7_digest_26 rfl ?_
    refine go_icmp_ge2 (q := 30) (t := 71) dX7_digest_27 (by decide) rfl (by omega) (fun c27 => ?_) (fun c27 => ?_)
    · refine go_iconst (q := 72) dX7_digest_71 rfl ?_
      refine go_istore_n (j := 3) (q := 73) (ls2 := [_, _, _, _, _]) rfl (by decide) rfl rfl dX7_digest_72 rfl ?_
      have lp73 : ∀ (m73 : Nat) (k : Nat) (ki ha : Int) (v : Option MV) (ek : ki = ((k + 1 : Nat) : Int)) (hk : k ≤ 3) (eha : ha = fN (fun k h => mixZ h (vio W ((k + 1 : Nat) : Int))) hx k), m73 = 3 - k → gX7_digest l D ck ad shA 73 [some (vR 45), some (vL ha), none, some (vI ki), v] [] w K := by
        intro m73
        induction m73 using Nat.strongRecOn with
        | _ m73 ih73 =>
        intro k ki ha v ek hk eha em73
        refine go_iload_n (j := 3) (q := 74) rfl rfl dX7_digest_73 rfl ?_
        refine go_iconst (q := 75) dX7_digest_74 rfl ?_
        refine go_icmp_gt2 (q := 78) (t := 97) dX7_digest_75 (by decide) rfl (by omega) (fun c75 => ?_) (fun c75 => ?_)
        · refine go_ldc2 (n := 31) (q := 100) cn_X7_225 rfl dX7_digest_97 rfl ?_
          refine go_lload_n (j := 1) (q := 101) rfl rfl dX7_digest_100 rfl ?_
          refine go_lmul (q := 102) dX7_digest_101 rfl ?_
          refine go_aload_n (j := 0) (q := 103) rfl rfl dX7_digest_102 rfl ?_
          refine go_callVi (as := [_]) (As := []) (rest := [_]) (n := 0) (q := 106) dX7_digest_103 lk_X7_103 (ci := 7) (N := 16) (T := TX7) rfl (by first | assumption | rfl) rfl rfl (by decide +kernel) rfl ⟨by decide, by decide⟩ ⟨rfl, rfl⟩ (Nat.le_of_ble_eq_true rfl) (em_componentsOfTable hT) rfl (fun x103 w103 h103 => ?_)
          obtain ⟨rfl, f103⟩ := h103
          have P1 : PMW w103 W := PMW_q hP (fun c k z => f103 _ _ (by omega))
          have T1 : TMv (w103 46) (wN W) (wF W) := P1.1.1
          refine go_i2l (q := 107) dX7_digest_106 rfl ?_
          refine go_ladd (q := 108) dX7_digest_107 rfl ?_
          refine go_lstore_n (j := 1) (q := 109) (ls2 := [_, _, _, _, _]) rfl (by decide) rfl rfl dX7_digest_108 rfl ?_
          refine go_ldc2 (n := 31) (q := 112) cn_X7_225 rfl dX7_digest_109 rfl ?_
          refine go_lload_n (j := 1) (q := 113) rfl rfl dX7_digest_112 rfl ?_
          refine go_lmul (q := 114) dX7_digest_113 rfl ?_
          refine go_aload_n (j := 0) (q := 115) rfl rfl dX7_digest_114 rfl ?_
          refine go_callVi (as := [_]) (As := []) (rest := [_]) (n := 0) (q := 118) dX7_digest_115 lk_X7_109 (ci := 7) (N := 16) (T := TX7) rfl (by first | assumption | rfl) rfl rfl (by decide +kernel) rfl ⟨by decide, by decide⟩ ⟨rfl, rfl⟩ (Nat.le_of_ble_eq_true rfl) (em_fewestGenerators T1) rfl (fun x115 w115 h115 => ?_)
          obtain ⟨rfl, rfl⟩ := h115
          refine go_i2l (q := 119) dX7_digest_118 rfl ?_
          refine go_ladd (q := 120) dX7_digest_119 rfl ?_
          refine go_lstore_n (j := 1) (q := 121) (ls2 := [_, _, _, _, _]) rfl (by decide) rfl rfl dX7_digest_120 rfl ?_
          refine go_ldc2 (n := 31) (q := 124) cn_X7_225 rfl dX7_digest_121 rfl ?_
          refine go_lload_n (j := 1) (q := 125) rfl rfl dX7_digest_124 rfl ?_
          refine go_lmul (q := 126) dX7_digest_125 rfl ?_
          refine go_aload_n (j := 0) (q := 127) rfl rfl dX7_digest_126 rfl ?_
          refine go_callVi (as := [_]) (As := []) (rest := [_]) (n := 0) (q := 130) dX7_digest_127 lk_X7_112 (ci := 7) (N := 16) (T := TX7) rfl (by first | assumption | rfl) rfl rfl (by decide +kernel) rfl ⟨by decide, by decide⟩ ⟨rfl, rfl⟩ (Nat.le_of_ble_eq_true rfl) (em_differentTranslations T1) rfl (fun x127 w127 h127 => ?_)
          obtain ⟨rfl, rfl⟩ := h127
          refine go_i2l (q := 131) dX7_digest_130 rfl ?_
          refine go_ladd (q := 132) dX7_digest_131 rfl ?_
          refine go_lstore_n (j := 1) (q := 133) (ls2 := [_, _, _, _, _]) rfl (by decide) rfl rfl dX7_digest_132 rfl ?_
          refine go_ldc2 (n := 31) (q := 136) cn_X7_225 rfl dX7_digest_133 rfl ?_
          refine go_lload_n (j := 1) (q := 137) rfl rfl dX7_digest_136 rfl ?_
          refine go_lmul (q := 138) dX7_digest_137 rfl ?_
          refine go_aload_n (j := 0) (q := 139) rfl rfl dX7_digest_138 rfl ?_
          refine go_callVi (as := [_]) (As := []) (rest := [_]) (n := 0) (q := 142) dX7_digest_139 lk_X7_127 (ci := 7) (N := 16) (T := TX7) rfl (by first | assumption | rfl) rfl rfl (by decide +kernel) rfl ⟨by decide, by decide⟩ ⟨rfl, rfl⟩ (Nat.le_of_ble_eq_true rfl) (em_groupSize T1) rfl (fun x139 w139 h139 => ?_)
          obtain ⟨rfl, f139⟩ := h139
          have P2 : PMW w139 W := PMW_q P1 (fun c k z => f139 _ _ (by omega) (by omega) (by omega))
          have T2 : TMv (w139 46) (wN W) (wF W) := P2.1.1
          refine go_i2l (q := 143) dX7_digest_142 rfl ?_
          refine go_ladd (q := 144) dX7_digest_143 rfl ?_
          refine go_lstore_n (j := 1) (q := 145) (ls2 := [_, _, _, _, _]) rfl (by decide) rfl rfl dX7_digest_144 rfl ?_
          refine go_ldc2 (n := 31) (q := 148) cn_X7_225 rfl dX7_digest_145 rfl ?_
          refine go_lload_n (j := 1) (q := 149) rfl rfl dX7_digest_148 rfl ?_
          refine go_lmul (q := 150) dX7_digest_149 rfl ?_
          refine go_aload_n (j := 0) (q := 151) rfl rfl dX7_digest_150 rfl ?_
          refine go_callVi (as := [_]) (As := []) (rest := [_]) (n := 0) (q := 154) dX7_digest_151 lk_X7_134 (ci := 7) (N := 16) (T := TX7) rfl (by first | assumption | rfl) rfl rfl (by decide +kernel) rfl ⟨by decide, by decide⟩ ⟨rfl, rfl⟩ (Nat.le_of_ble_eq_true rfl) (em_automorphismsMany T2) rfl (fun x151 w151 h151 => ?_)
          obtain ⟨rfl, f151⟩ := h151
          have P3 : PMW w151 W := PMW_q P2 (fun c k z => f151 _ _ (by omega))
          have D3 : DMv (w151 46) (wA W) (wC W) (wG W) (wS W) := P3.1.2
          have j37 := D3.1
          have j38 := D3.2.1
          obtain ⟨H1, hH1⟩ : ∃ H1, H1 = hsT W 3102 := ⟨_, rfl⟩
          have F3 : ∀ c k, c < 45 → w151 c k = w c k := fun c k z => by rw [f151 _ _ (by omega), f139 _ _ (by omega) (by omega) (by omega)]; exact f103 _ _ (by omega)
          refine go_i2l (q := 155) dX7_digest_154 rfl ?_
          refine go_ladd (q := 156) dX7_digest_155 rfl ?_
          refine go_lstore_n (j := 1) (q := 157) (ls2 := [_, _, _, _, _]) rfl (by decide) rfl rfl dX7_digest_156 rfl ?_
          obtain ⟨H2, hH2⟩ : ∃ H2 : Int, H2 = 31 * (31 * (31 * (31 * (31 * ha + wr ((ccF (wN W) (wF W) (wN W)).1 : Int)) + wr (lgF (wN W) (wF W) (2 ^ wN W) : Int)) + wr (cN (newT (wN W) (wF W)) (wN W) : Int)) + wr (cif (∀ y, y < wN W → prm (wN W) (wF W) y) (grpN (wN W) (wF W) : Int) (-6))) + wr (autN (wN W) (wF W) : Int) := ⟨_, rfl⟩
          rw [← hH2]
          have eH : H2 = hsT W 3102 := by
            unfold hsT
            rw [hH2, eha, ehx, show k = 3 by omega, show x = wN W by omega]
            unfold mixZ op11 op13 op15 op16 op17; rfl
          refine go_ldc2 (n := 31) (q := 160) cn_X7_225 rfl dX7_digest_157 rfl ?_
          refine go_lload_n (j := 1) (q := 161) rfl rfl dX7_digest_160 rfl ?_
          refine go_lmul (q := 162) dX7_digest_161 rfl ?_
          refine go_aload_n (j := 0) (q := 163) rfl rfl dX7_digest_162 rfl ?_
          refine go_getR (C0 := RX7) (T := TX7) (N := 16) (ci := 7) (i := 0) (q := 166) rfl igX7 (by first | assumption | rfl) (by decide) fl_X7_7 rfl dX7_digest_163 rfl ?_
          refine go_bipush (q := 168) rfl dX7_digest_166 rfl ?_
          refine go_iald (j := 37) (q := 169) (by first | assumption | rfl) (wr_eq (by omega)) (by omega) dX7_digest_168 rfl ?_
          rw [j37]
          refine go_i2l (q := 170) dX7_digest_169 rfl ?_
          refine go_ladd (q := 171) dX7_digest_170 rfl ?_
          refine go_lstore_n (j := 1) (q := 172) (ls2 := [_, _, _, _, _]) rfl (by decide) rfl rfl dX7_digest_171 rfl ?_
          refine go_ldc2 (n := 31) (q := 175) cn_X7_225 rfl dX7_digest_172 rfl ?_
          refine go_lload_n (j := 1) (q := 176) rfl rfl dX7_digest_175 rfl ?_
          refine go_lmul (q := 177) dX7_digest_176 rfl ?_
          refine go_aload_n (j := 0) (q := 178) rfl rfl dX7_digest_177 rfl ?_
          refine go_getR (C0 := RX7) (T := TX7) (N := 16) (ci := 7) (i := 0) (q := 181) rfl igX7 (by first | assumption | rfl) (by decide) fl_X7_7 rfl dX7_digest_178 rfl ?_
          refine go_bipush (q := 183) rfl dX7_digest_181 rfl ?_
          refine go_iald (j := 38) (q := 184) (by first | assumption | rfl) (wr_eq (by omega)) (by omega) dX7_digest_183 rfl ?_
          rw [j38]
          refine go_i2l (q := 185) dX7_digest_184 rfl ?_
          refine go_ladd (q := 186) dX7_digest_185 rfl ?_
          refine go_lstore_n (j := 1) (q := 187) (ls2 := [_, _, _, _, _]) rfl (by decide) rfl rfl dX7_digest_186 rfl ?_
          refine go_iconst (q := 188) dX7_digest_187 rfl ?_
          refine go_istore_n (j := 3) (q := 189) (ls2 := [_, _, _, _, _]) rfl (by decide) rfl rfl dX7_digest_188 rfl ?_
          have lp189 : ∀ (m189 : Nat) (q : Nat) (ci hc : Int) (u3 : Option MV) (eq : ci = q) (hql : q ≤ wC W) (ehc : hc = fN (fun k h => fN (fun p h => mixZ h (prt (wG W) (wS W) k p)) h 4) (mixZ (mixZ H2 (wA W : Int)) (wC W : Int)) q), m189 = wC W - q → gX7_digest l D ck ad shA 189 [some (vR 45), some (vL hc), none, some (vI ci), u3] [] w151 K := by
            intro m189
            induction m189 using Nat.strongRecOn with
            | _ m189 ih189 =>
            intro q ci hc u3 eq hql ehc em189
            refine go_iload_n (j := 3) (q := 190) rfl rfl dX7_digest_189 rfl ?_
            refine go_aload_n (j := 0) (q := 191) rfl rfl dX7_digest_190 rfl ?_
            refine go_getR (C0 := RX7) (T := TX7) (N := 16) (ci := 7) (i := 0) (q := 194) rfl igX7 (by first | assumption | rfl) (by decide) fl_X7_7 rfl dX7_digest_191 rfl ?_
            refine go_bipush (q := 196) rfl dX7_digest_194 rfl ?_
            refine go_iald (j := 38) (q := 197) (by first | assumption | rfl) (wr_eq (by omega)) (by omega) dX7_digest_196 rfl ?_
            refine go_icmp_ge2 (q := 200) (t := 236) dX7_digest_197 (by decide) rfl (by omega) (fun c197 => ?_) (fun c197 => ?_)
            · refine go_ldc2 (n := 31) (q := 239) cn_X7_225 rfl dX7_digest_236 rfl ?_
              refine go_lload_n (j := 1) (q := 240) rfl rfl dX7_digest_239 rfl ?_
              refine go_lmul (q := 241) dX7_digest_240 rfl ?_
              refine go_aload_n (j := 0) (q := 242) rfl rfl dX7_digest_241 rfl ?_
              refine go_callVi (as := [_]) (As := []) (rest := [_]) (n := 0) (q := 245) dX7_digest_242 lk_X7_166 (ci := 7) (N := 16) (T := TX7) rfl (by first | assumption | rfl) rfl rfl (by decide +kernel) rfl ⟨by decide, by decide⟩ ⟨rfl, rfl⟩ (Nat.le_of_ble_eq_true rfl) (em_componentsNow D3) rfl (fun x242 w242 h242 => ?_)
              obtain ⟨rfl, f242⟩ := h242
              have P4 : PMW w242 W := PMW_q P3 (fun c k z => f242 _ _ (by omega))
              have D4 : DMv (w242 46) (wA W) (wC W) (wG W) (wS W) := P4.1.2
              have T4 : TMv (w242 46) (wN W) (wF W) := P4.1.1
              refine go_i2l (q := 246) dX7_digest_245 rfl ?_
              refine go_ladd (q := 247) dX7_digest_246 rfl ?_
              refine go_lstore_n (j := 1) (q := 248) (ls2 := [_, _, _, _, _]) rfl (by decide) rfl rfl dX7_digest_247 rfl ?_
              refine go_ldc2 (n := 31) (q := 251) cn_X7_225 rfl dX7_digest_248 rfl ?_
              refine go_lload_n (j := 1) (q := 252) rfl rfl dX7_digest_251 rfl ?_
              refine go_lmul (q := 253) dX7_digest_252 rfl ?_
              refine go_aload_n (j := 0) (q := 254) rfl rfl dX7_digest_253 rfl ?_
              refine go_callVi (as := [_]) (As := []) (rest := [_]) (n := 0) (q := 257) dX7_digest_254 lk_X7_169 (ci := 7) (N := 16) (T := TX7) rfl (by first | assumption | rfl) rfl rfl (by decide +kernel) rfl ⟨by decide, by decide⟩ ⟨rfl, rfl⟩ (Nat.le_of_ble_eq_true rfl) (em_writheNow D4) rfl (fun x254 w254 h254 => ?_)
              obtain ⟨rfl, rfl⟩ := h254
              refine go_i2l (q := 258) dX7_digest_257 rfl ?_
              refine go_ladd (q := 259) dX7_digest_258 rfl ?_
              refine go_lstore_n (j := 1) (q := 260) (ls2 := [_, _, _, _, _]) rfl (by decide) rfl rfl dX7_digest_259 rfl ?_
              obtain ⟨H3, hH3⟩ : ∃ H3 : Int, H3 = 31 * (31 * hc + wr (cif (closedD (wA W) (wC W) (wG W)) ((ccG (cmpD (wA W) (wC W) (wG W)) (wA W)).1 : Int) (-6))) + wr (sumZ (wS W) (wC W) + 100) := ⟨_, rfl⟩
              rw [← hH3]
              have eH3 : H3 = hsD W (hsT W 3102) := by
                unfold hsD
                rw [hH3, ehc, show q = wC W by omega, ← eH]
                unfold mixZ op27 op28; rfl
              refine go_ldc2 (n := 31) (q := 263) cn_X7_225 rfl dX7_digest_260 rfl ?_
              refine go_lload_n (j := 1) (q := 264) rfl rfl dX7_digest_263 rfl ?_
              refine go_lmul (q := 265) dX7_digest_264 rfl ?_
              refine go_aload_n (j := 0) (q := 266) rfl rfl dX7_digest_265 rfl ?_
              refine go_iconst (q := 267) dX7_digest_266 rfl ?_
              refine go_iconst (q := 268) dX7_digest_267 rfl ?_
              refine go_iconst (q := 269) dX7_digest_268 rfl ?_
              refine go_callVi (as := [_, _, _, _]) (As := [_, _, _]) (rest := [_]) (n := 3) (q := 272) dX7_digest_269 lk_X7_184 (ci := 7) (N := 16) (T := TX7) rfl (by first | assumption | rfl) rfl rfl (by decide +kernel) rfl ⟨by decide, by decide⟩ ⟨rfl, rfl⟩ (Nat.le_of_ble_eq_true rfl) (em_counts (x := 0) (y := 0) (E := tt) T4 D4 rfl rfl (by omega) (Or.inl ⟨rfl, rfl⟩)) rfl (fun x269 w269 h269 => ?_)
              obtain ⟨rfl, f269⟩ := h269
              have P5 : PMW w269 W := PMW_q P4 (fun c k z => f269 _ _ (by omega))
              refine go_i2l (q := 273) dX7_digest_272 rfl ?_
              refine go_ladd (q := 274) dX7_digest_273 rfl ?_
              refine go_lstore_n (j := 1) (q := 275) (ls2 := [_, _, _, _, _]) rfl (by decide) rfl rfl dX7_digest_274 rfl ?_
              refine go_iconst (q := 276) dX7_digest_275 rfl ?_
              refine go_istore_n (j := 3) (q := 277) (ls2 := [_, _, _, _, _]) rfl (by decide) rfl rfl dX7_digest_276 rfl ?_
              have lp277 : ∀ (m277 : Nat) (r : Nat) (ui he : Int) (u4 : Option MV) (w5 : Mem) (hP5 : PMW w5 W) (f5 : ∀ c k, c < 45 → w5 c k = w c k) (er : ui = ((r + 1 : Nat) : Int)) (hrl : r ≤ 6) (ehe : he = fN (fun u h => mixZ h (cnW W (eU (wA W) (u + 1)))) (mixZ H3 (cnW W tt)) r), m277 = 6 - r → gX7_digest l D ck ad shA 277 [some (vR 45), some (vL he), none, some (vI ui), u4] [] w5 K := by
                intro m277
                induction m277 using Nat.strongRecOn with
                | _ m277 ih277 =>
                intro r ui he u4 w5 hP5 f5 er hrl ehe em277
                refine go_iload_n (j := 3) (q := 278) rfl rfl dX7_digest_277 rfl ?_
                refine go_bipush (q := 280) rfl dX7_digest_278 rfl ?_
                refine go_icmp_gt2 (q := 283) (t := 304) dX7_digest_280 (by decide) rfl (by omega) (fun c280 => ?_) (fun c280 => ?_)
                · refine go_lload_n (j := 1) (q := 305) rfl rfl dX7_digest_304 rfl ?_
                  refine go_lret dX7_digest_305 ?_
                  subst hK
                  refine ⟨_, rfl, ?_, hP5, f5⟩
                  show he = hsC W (hsD W (hsT W 3102))
                  unfold hsC
                  rw [ehe, show r = 6 by omega, eH3]
                · refine go_ldc2 (n := 31) (q := 286) cn_X7_225 rfl dX7_digest_283 rfl ?_
                  refine go_lload_n (j := 1) (q := 287) rfl rfl dX7_digest_286 rfl ?_
                  refine go_lmul (q := 288) dX7_digest_287 rfl ?_
                  refine go_aload_n (j := 0) (q := 289) rfl rfl dX7_digest_288 rfl ?_
                  refine go_iconst (q := 290) dX7_digest_289 rfl ?_
                  refine go_iload_n (j := 3) (q := 291) rfl rfl dX7_digest_290 rfl ?_
                  refine go_iconst (q := 292) dX7_digest_291 rfl ?_
                  refine go_callVi (as := [_, _, _, _]) (As := [_, _, _]) (rest := [_]) (n := 3) (q := 295) dX7_digest_292 lk_X7_184 (ci := 7) (N := 16) (T := TX7) rfl (by first | assumption | rfl) rfl rfl (by decide +kernel) rfl ⟨by decide, by decide⟩ ⟨rfl, rfl⟩ (Nat.le_of_ble_eq_true rfl) (em_counts (x := r + 1) (y := 0) (E := eU (wA W) (r + 1)) hP5.1.1 hP5.1.2 er rfl (by omega) (Or.inr (Or.inr (Or.inr ⟨rfl, rfl⟩)))) rfl (fun x292 w292 h292 => ?_)
                  obtain ⟨rfl, f292⟩ := h292
                  refine go_i2l (q := 296) dX7_digest_295 rfl ?_
                  refine go_ladd (q := 297) dX7_digest_296 rfl ?_
                  refine go_lstore_n (j := 1) (q := 298) (ls2 := [_, _, _, _, _]) rfl (by decide) rfl rfl dX7_digest_297 rfl ?_
                  refine go_iinc (j := 3) (q := 301) (ls2 := [_, _, _, _, _]) rfl (by decide) rfl rfl dX7_digest_298 rfl ?_
                  refine go_goto (q := 277) dX7_digest_301 (by decide) ?_
                  exact ih277 _ (by omega) (r + 1) _ _ _ _ (PMW_q hP5 (fun c k z => f292 _ _ (by omega))) (fun c k z => by rw [f292 _ _ (by omega)]; exact f5 _ _ z) (by omega) (by omega) (by rw [fN_s, ehe]; unfold mixZ cnW; rfl) rfl
              exact lp277 _ 0 _ _ _ _ P5 (fun c k z => by rw [f269 _ _ (by omega), f242 _ _ (by omega)]; exact F3 _ _ z) rfl (by omega) (by rw [fN_z]; unfold mixZ cnW; rfl) rfl
            · refine go_iconst (q := 201) dX7_digest_200 rfl ?_
              refine go_istore (j := 4) (q := 203) (ls2 := [_, _, _, _, _]) (by decide) rfl rfl dX7_digest_201 rfl ?_
              have lp203 : ∀ (m203 : Nat) (p : Nat) (pi hd : Int) (ep : pi = p) (hpl : p ≤ 4) (ehd : hd = fN (fun p h => mixZ h (prt (wG W) (wS W) q p)) hc p), m203 = 4 - p → gX7_digest l D ck ad shA 203 [some (vR 45), some (vL hd), none, some (vI ci), some (vI pi)] [] w151 K := by
                intro m203
                induction m203 using Nat.strongRecOn with
                | _ m203 ih203 =>
                intro p pi hd ep hpl ehd em203
                refine go_iload (j := 4) (q := 205) rfl dX7_digest_203 rfl ?_
                refine go_iconst (q := 206) dX7_digest_205 rfl ?_
                refine go_icmp_ge2 (q := 209) (t := 230) dX7_digest_206 (by decide) rfl (by omega) (fun c206 => ?_) (fun c206 => ?_)
                · refine go_iinc (j := 3) (q := 233) (ls2 := [_, _, _, _, _]) rfl (by decide) rfl rfl dX7_digest_230 rfl ?_
                  refine go_goto (q := 189) dX7_digest_233 (by decide) ?_
                  exact ih189 _ (by omega) (q + 1) _ _ _ (by omega) (by omega) (by rw [fN_s, ehd, ehc, show p = 4 by omega]) rfl
                · refine go_ldc2 (n := 31) (q := 212) cn_X7_225 rfl dX7_digest_209 rfl ?_
                  refine go_lload_n (j := 1) (q := 213) rfl rfl dX7_digest_212 rfl ?_
                  refine go_lmul (q := 214) dX7_digest_213 rfl ?_
                  refine go_aload_n (j := 0) (q := 215) rfl rfl dX7_digest_214 rfl ?_
                  refine go_iload_n (j := 3) (q := 216) rfl rfl dX7_digest_215 rfl ?_
                  refine go_iload (j := 4) (q := 218) rfl dX7_digest_216 rfl ?_
                  refine go_callVi (as := [_, _, _]) (As := [_, _]) (rest := [_]) (n := 2) (q := 221) dX7_digest_218 lk_X7_153 (ci := 7) (N := 16) (T := TX7) rfl (by first | assumption | rfl) rfl rfl (by decide +kernel) rfl ⟨by decide, by decide⟩ ⟨rfl, rfl⟩ (Nat.le_of_ble_eq_true rfl) (em_crossingPart (k := q) (p := p) eq ep (by omega)) rfl (fun x218 w218 h218 => ?_)
                  obtain ⟨rfl, rfl⟩ := h218
                  refine go_i2l (q := 222) dX7_digest_221 rfl ?_
                  refine go_ladd (q := 223) dX7_digest_222 rfl ?_
                  refine go_lstore_n (j := 1) (q := 224) (ls2 := [_, _, _, _, _]) rfl (by decide) rfl rfl dX7_digest_223 rfl ?_
                  refine go_iinc (j := 4) (q := 227) (ls2 := [_, _, _, _, _]) rfl (by decide) rfl rfl dX7_digest_224 rfl ?_
                  refine go_goto (q := 203) dX7_digest_227 (by decide) ?_
                  exact ih203 _ (by omega) (p + 1) _ _ (by omega) (by omega) (by rw [fN_s, ehd, prt_m D3 (by omega) (by omega)]; unfold mixZ; rfl) rfl
              exact lp203 _ 0 0 _ rfl (by omega) (fN_z _ _).symm rfl
          exact lp189 _ 0 0 _ _ rfl (by omega) (by rw [fN_z]; unfold mixZ; rfl) rfl
        · refine go_ldc2 (n := 31) (q := 81) cn_X7_225 rfl dX7_digest_78 rfl ?_
          refine go_lload_n (j := 1) (q := 82) rfl rfl dX7_digest_81 rfl ?_
          refine go_lmul (q := 83) dX7_digest_82 rfl ?_
          refine go_aload_n (j := 0) (q := 84) rfl rfl dX7_digest_83 rfl ?_
          refine go_iload_n (j := 3) (q := 85) rfl rfl dX7_digest_84 rfl ?_
          refine go_callVi (as := [_, _]) (As := [_]) (rest := [_]) (n := 1) (q := 88) dX7_digest_85 lk_X7_90 (ci := 7) (N := 16) (T := TX7) rfl (by first | assumption | rfl) rfl rfl (by decide +kernel) rfl ⟨by decide, by decide⟩ ⟨rfl, rfl⟩ (Nat.le_of_ble_eq_true rfl) (em_violates hT (k := ki) (by omega)) rfl (fun x85 w85 h85 => ?_)
          obtain ⟨rfl, rfl⟩ := h85
          refine go_i2l (q := 89) dX7_digest_88 rfl ?_
          refine go_ladd (q := 90) dX7_digest_89 rfl ?_
          refine go_lstore_n (j := 1) (q := 91) (ls2 := [_, _, _, _, _]) rfl (by decide) rfl rfl dX7_digest_90 rfl ?_
          refine go_iinc (j := 3) (q := 94) (ls2 := [_, _, _, _, _]) rfl (by decide) rfl rfl dX7_digest_91 rfl ?_
          refine go_goto (q := 73) dX7_digest_94 (by decide) ?_
          exact ih73 _ (by omega) (k + 1) _ _ _ (by omega) (by omega) (by rw [fN_s, eha, ek]; unfold mixZ; rfl) rfl
      exact lp73 _ 0 _ _ _ rfl (by omega) (fN_z _ _).symm rfl
    · refine go_iconst (q := 31) dX7_digest_30 rfl ?_
      refine go_istore (j := 4) (q := 33) (ls2 := [_, _, _, _, _]) (by decide) rfl rfl dX7_digest_31 rfl ?_
      have lp33 : ∀ (m33 : Nat) (y : Nat) (yi hy : Int) (ey : yi = y) (hyl : y ≤ wN W) (ehy : hy = fN (fun y h => mixZ h (wF W x y : Int)) hx y), m33 = wN W - y → gX7_digest l D ck ad shA 33 [some (vR 45), some (vL hy), none, some (vI xi), some (vI yi)] [] w K := by
        intro m33
        induction m33 using Nat.strongRecOn with
        | _ m33 ih33 =>
        intro y yi hy ey hyl ehy em33
        refine go_iload (j := 4) (q := 35) rfl dX7_digest_33 rfl ?_
        refine go_aload_n (j := 0) (q := 36) rfl rfl dX7_digest_35 rfl ?_
        refine go_getR (C0 := RX7) (T := TX7) (N := 16) (ci := 7) (i := 0) (q := 39) rfl igX7 (by first | assumption | rfl) (by decide) fl_X7_7 rfl dX7_digest_36 rfl ?_
        refine go_iconst (q := 40) dX7_digest_39 rfl ?_
        refine go_iald (j := 0) (q := 41) (by first | assumption | rfl) (wr_eq (by omega)) (by omega) dX7_digest_40 rfl ?_
        refine go_icmp_ge2 (q := 44) (t := 65) dX7_digest_41 (by decide) rfl (by omega) (fun c41 => ?_) (fun c41 => ?_)
        · refine go_iinc (j := 3) (q := 68) (ls2 := [_, _, _, _, _]) rfl (by decide) rfl rfl dX7_digest_65 rfl ?_
          refine go_goto (q := 20) dX7_digest_68 (by decide) ?_
          exact ih20 _ (by omega) (x + 1) _ _ _ (by omega) (by omega) (by rw [fN_s, ehy, ehx, show y = wN W by omega]) rfl
        · refine go_ldc2 (n := 31) (q := 47) cn_X7_225 rfl dX7_digest_44 rfl ?_
          refine go_lload_n (j := 1) (q := 48) rfl rfl dX7_digest_47 rfl ?_
          refine go_lmul (q := 49) dX7_digest_48 rfl ?_
          refine go_aload_n (j := 0) (q := 50) rfl rfl dX7_digest_49 rfl ?_
          refine go_iload_n (j := 3) (q := 51) rfl rfl dX7_digest_50 rfl ?_
          refine go_iload (j := 4) (q := 53) rfl dX7_digest_51 rfl ?_
          refine go_callVi (as := [_, _, _]) (As := [_, _]) (rest := [_]) (n := 2) (q := 56) dX7_digest_53 lk_X7_67 (ci := 7) (N := 16) (T := TX7) rfl (by first | assumption | rfl) rfl rfl (by decide +kernel) rfl ⟨by decide, by decide⟩ ⟨rfl, rfl⟩ (Nat.le_of_ble_eq_true rfl) (em_times hT (x := x) (y := y) ex ey (by omega) (by omega)) rfl (fun x53 w53 h53 => ?_)
          obtain ⟨rfl, rfl⟩ := h53
          refine go_i2l (q := 57) dX7_digest_56 rfl ?_
          refine go_ladd (q := 58) dX7_digest_57 rfl ?_
          refine go_lstore_n (j := 1) (q := 59) (ls2 := [_, _, _, _, _]) rfl (by decide) rfl rfl dX7_digest_58 rfl ?_
          refine go_iinc (j := 4) (q := 62) (ls2 := [_, _, _, _, _]) rfl (by decide) rfl rfl dX7_digest_59 rfl ?_
          refine go_goto (q := 33) dX7_digest_62 (by decide) ?_
          exact ih33 _ (by omega) (y + 1) _ _ (by omega) (by omega) (by rw [fN_s, ehy]; unfold mixZ; rfl) rfl
      exact lp33 _ 0 0 _ rfl (by omega) (fN_z _ _).symm rfl
  exact lp20 _ 0 0 _ _ rfl (by omega) (fN_z _ _).symm rfl
end M8
