theorem DMv_g {v : Nat → Int} {a c : Nat} {g g2 : Nat → Nat → Nat} {s s2 : Nat → Int} (h : DMv v a c g s) (he : ∀ k, k < c → g k 0 = g2 k 0 ∧ g k 1 = g2 k 1 ∧ g k 2 = g2 k 2 ∧ s k = s2 k) : DMv v a c g2 s2 := by
  refine ⟨h.1, h.2.1, h.2.2.1, fun k hk => ?_⟩
  obtain ⟨e0, e1, e2, e3⟩ := he k hk
  rw [← e0, ← e1, ← e2, ← e3]
  exact h.2.2.2 k hk
theorem prt_m {v : Nat → Int} {a c k p : Nat} {g : Nat → Nat → Nat} {s : Nat → Int} (hD : DMv v a c g s) (hk : k < c) (hp : p < 4) : v (39 + 4 * k + p) = prt g s k p := by
  have hgk := hD.2.2.2 k hk
  unfold prt
  rcases (show p = 0 ∨ p = 1 ∨ p = 2 ∨ p = 3 by omega) with rfl | rfl | rfl | rfl
  · rw [if_neg (by omega)]; exact hgk.1.1
  · rw [if_neg (by omega)]; exact hgk.1.2.1
  · rw [if_neg (by omega)]; exact hgk.1.2.2.1
  · rw [if_pos rfl]; exact hgk.1.2.2.2
theorem lastA_m {v : Nat → Int} {a c : Nat} {g : Nat → Nat → Nat} {s : Nat → Int} (hD : DMv v a c g s) : ∀ k, k < c → lastA g k < a := fun k hk => by
  have := (hD.2.2.2 k hk).2.1; unfold lastA; omega
theorem lksD_s {g : Nat → Nat → Nat} {s : Nat → Int} {u v k : Nat} : lksD g s u v (k + 1) = if u.testBit (g k 0) = true ∧ v.testBit (g k 1) = true then lksD g s u v k + s k else lksD g s u v k := rfl
section M5
variable {l : Launch} {D : va_G} {ck : Nat → ClassId} {ad : Nat → Nat} {w : Mem} {W : WA} {a c : Nat} {g : Nat → Nat → Nat} {s : Nat → Int}
theorem em_isArc (hD : DMv (w 46) a c g s) {x : Int} (hx : rng x) : eX7_isArc l D ck ad shA [vR 45, vI x] w (Pz (fun w1 => w = w1 ∧ el a x) (fun w1 => w = w1 ∧ ¬ el a x)) := by
  have h0 := hD.1
  have hb := hD.2.2.1
  refine ev_of_goK (own := RX7) (ls := [some (vR 45), some (vI x)]) (by decide +kernel) rfl rfl (Nat.le_of_ble_eq_true rfl) rkZ ?_
  intro K hK
  refine go_iload_n (j := 1) (q := 1) rfl rfl dX7_isArc_0 rfl ?_
  refine go_iconst (q := 2) dX7_isArc_1 rfl ?_
  refine go_aload_n (j := 0) (q := 3) rfl rfl dX7_isArc_2 rfl ?_
  refine go_getR (C0 := RX7) (T := TX7) (N := 16) (ci := 7) (i := 0) (q := 6) rfl igX7 (by first | assumption | rfl) (by decide) fl_X7_7 rfl dX7_isArc_3 rfl ?_
  refine go_bipush (q := 8) rfl dX7_isArc_6 rfl ?_
  refine go_iald (j := 37) (q := 9) (by first | assumption | rfl) (wr_eq (by omega)) (by omega) dX7_isArc_8 rfl ?_
  refine go_iconst (q := 10) dX7_isArc_9 rfl ?_
  refine go_isub (q := 11) dX7_isArc_10 rfl ?_
  refine go_callSz (as := [_, _, _]) (rest := []) (n := 3) (q := 14) dX7_isArc_11 lk_X7_35 rfl (by decide +kernel) rfl ⟨by decide, by decide⟩ ⟨rfl, rfl⟩ (Nat.le_of_ble_eq_true rfl) (em_within (by omega)) rfl (fun w11 h11 => ?_) (fun w11 h11 => ?_)
  · obtain ⟨rfl, h11⟩ := h11
    refine go_iret dX7_isArc_14 ?_
    subst hK; first | exact Or.inl ⟨rfl, rfl, by omega⟩ | exact Or.inr ⟨rfl, rfl, by omega⟩
  · obtain ⟨rfl, h11⟩ := h11
    refine go_iret dX7_isArc_14 ?_
    subst hK; first | exact Or.inl ⟨rfl, rfl, by omega⟩ | exact Or.inr ⟨rfl, rfl, by omega⟩
theorem em_isCrossing (hD : DMv (w 46) a c g s) {x : Int} (hx : rng x) : eX7_isCrossing l D ck ad shA [vR 45, vI x] w (Pz (fun w1 => w = w1 ∧ el c x) (fun w1 => w = w1 ∧ ¬ el c x)) := by
  have h0 := hD.2.1
  have hb := hD.2.2.1
  refine ev_of_goK (own := RX7) (ls := [some (vR 45), some (vI x)]) (by decide +kernel) rfl rfl (Nat.le_of_ble_eq_true rfl) rkZ ?_
  intro K hK
  refine go_iload_n (j := 1) (q := 1) rfl rfl dX7_isCrossing_0 rfl ?_
  refine go_iconst (q := 2) dX7_isCrossing_1 rfl ?_
  refine go_aload_n (j := 0) (q := 3) rfl rfl dX7_isCrossing_2 rfl ?_
  refine go_getR (C0 := RX7) (T := TX7) (N := 16) (ci := 7) (i := 0) (q := 6) rfl igX7 (by first | assumption | rfl) (by decide) fl_X7_7 rfl dX7_isCrossing_3 rfl ?_
  refine go_bipush (q := 8) rfl dX7_isCrossing_6 rfl ?_
  refine go_iald (j := 38) (q := 9) (by first | assumption | rfl) (wr_eq (by omega)) (by omega) dX7_isCrossing_8 rfl ?_
  refine go_iconst (q := 10) dX7_isCrossing_9 rfl ?_
  refine go_isub (q := 11) dX7_isCrossing_10 rfl ?_
  refine go_callSz (as := [_, _, _]) (rest := []) (n := 3) (q := 14) dX7_isCrossing_11 lk_X7_35 rfl (by decide +kernel) rfl ⟨by decide, by decide⟩ ⟨rfl, rfl⟩ (Nat.le_of_ble_eq_true rfl) (em_within (by omega)) rfl (fun w11 h11 => ?_) (fun w11 h11 => ?_)
  · obtain ⟨rfl, h11⟩ := h11
    refine go_iret dX7_isCrossing_14 ?_
    subst hK; first | exact Or.inl ⟨rfl, rfl, by omega⟩ | exact Or.inr ⟨rfl, rfl, by omega⟩
  · obtain ⟨rfl, h11⟩ := h11
    refine go_iret dX7_isCrossing_14 ?_
    subst hK; first | exact Or.inl ⟨rfl, rfl, by omega⟩ | exact Or.inr ⟨rfl, rfl, by omega⟩
theorem em_crossingPart {k p : Nat} {ki pi : Int} (ek : ki = k) (ep : pi = p) (hk : k < 10 ∧ p < 4) : eX7_crossingPart l D ck ad shA [vR 45, vI ki, vI pi] w (Pi fun v w1 => v = w 46 (39 + 4 * k + p) ∧ w = w1) := by
  refine ev_of_goK (own := RX7) (ls := [some (vR 45), some (vI ki), some (vI pi)]) (by decide +kernel) rfl rfl (Nat.le_of_ble_eq_true rfl) rkI ?_
  intro K hK
  refine go_aload_n (j := 0) (q := 1) rfl rfl dX7_crossingPart_0 rfl ?_
  refine go_getR (C0 := RX7) (T := TX7) (N := 16) (ci := 7) (i := 0) (q := 4) rfl igX7 (by first | assumption | rfl) (by decide) fl_X7_7 rfl dX7_crossingPart_1 rfl ?_
  refine go_bipush (q := 6) rfl dX7_crossingPart_4 rfl ?_
  refine go_iconst (q := 7) dX7_crossingPart_6 rfl ?_
  refine go_iload_n (j := 1) (q := 8) rfl rfl dX7_crossingPart_7 rfl ?_
  refine go_imul (q := 9) dX7_crossingPart_8 rfl ?_
  refine go_iadd (q := 10) dX7_crossingPart_9 rfl ?_
  refine go_iload_n (j := 2) (q := 11) rfl rfl dX7_crossingPart_10 rfl ?_
  refine go_iadd (q := 12) dX7_crossingPart_11 rfl ?_
  refine go_iald (j := 39 + 4 * k + p) (q := 13) (by first | assumption | rfl) (wr_eq (by omega)) (by omega) dX7_crossingPart_12 rfl ?_
  refine go_iret dX7_crossingPart_13 ?_
  subst hK; exact ⟨_, rfl, rfl, rfl⟩
theorem em_isSign {x : Int} (hx : rng x) : eX7_isSign l D ck ad shA [vI x] w (Pz (fun w1 => w = w1 ∧ (x = 1 ∨ x = -1)) (fun w1 => w = w1 ∧ ¬ (x = 1 ∨ x = -1))) := by
  refine ev_of_goK (own := RX7) (ls := [some (vI x)]) (by decide +kernel) rfl rfl (Nat.le_of_ble_eq_true rfl) rkZ ?_
  intro K hK
  refine go_iload_n (j := 0) (q := 1) rfl rfl dX7_isSign_0 rfl ?_
  refine go_iconst (q := 2) dX7_isSign_1 rfl ?_
  refine go_icmp_eq2 (q := 5) (t := 10) dX7_isSign_2 (by decide) rfl (by omega) (fun c2 => ?_) (fun c2 => ?_)
  · refine go_iconst (q := 11) dX7_isSign_10 rfl ?_
    refine go_goto (q := 15) dX7_isSign_11 (by decide) ?_
    refine go_iret dX7_isSign_15 ?_
    subst hK; first | exact Or.inl ⟨rfl, rfl, by omega⟩ | exact Or.inr ⟨rfl, rfl, by omega⟩
  · refine go_iload_n (j := 0) (q := 6) rfl rfl dX7_isSign_5 rfl ?_
    refine go_iconst (q := 7) dX7_isSign_6 rfl ?_
    refine go_icmp_ne2 (q := 10) (t := 14) dX7_isSign_7 (by decide) rfl (by omega) (fun c7 => ?_) (fun c7 => ?_)
    · refine go_iconst (q := 15) dX7_isSign_14 rfl ?_
      refine go_iret dX7_isSign_15 ?_
      subst hK; first | exact Or.inl ⟨rfl, rfl, by omega⟩ | exact Or.inr ⟨rfl, rfl, by omega⟩
    · refine go_iconst (q := 11) dX7_isSign_10 rfl ?_
      refine go_goto (q := 15) dX7_isSign_11 (by decide) ?_
      refine go_iret dX7_isSign_15 ?_
      subst hK; first | exact Or.inl ⟨rfl, rfl, by omega⟩ | exact Or.inr ⟨rfl, rfl, by omega⟩
theorem em_adds (hD : DMv (w 46) a c g s) {o i u v : Int} (hx : (0 ≤ o ∧ o < (a : Int)) ∧ (0 ≤ i ∧ i < (a : Int)) ∧ (0 ≤ u ∧ u < (a : Int))) (hv : v = 1 ∨ v = -1) (hc : c < 10) :
    eX7_adds l D ck ad shA [vR 45, vI o, vI i, vI u, vI v] w (Pv fun w1 => DMv (w1 46) a (c + 1) (gap g c o.toNat i.toNat u.toNat) (sap s c v) ∧ (∀ k, k < 37 → w1 46 k = w 46 k) ∧ ∀ c k, c ≠ 46 → w1 c k = w c k) := by
  obtain ⟨h0, h1, ha, hg⟩ := hD
  refine ev_of_goK (own := RX7) (ls := [some (vR 45), some (vI o), some (vI i), some (vI u), some (vI v), none]) (by decide +kernel) rfl rfl (Nat.le_of_ble_eq_true rfl) rkV ?_
  intro K hK
  refine go_bipush (q := 2) rfl dX7_adds_0 rfl ?_
  refine go_iconst (q := 3) dX7_adds_2 rfl ?_
  refine go_aload_n (j := 0) (q := 4) rfl rfl dX7_adds_3 rfl ?_
  refine go_getR (C0 := RX7) (T := TX7) (N := 16) (ci := 7) (i := 0) (q := 7) rfl igX7 (by first | assumption | rfl) (by decide) fl_X7_7 rfl dX7_adds_4 rfl ?_
  refine go_bipush (q := 9) rfl dX7_adds_7 rfl ?_
  refine go_iald (j := 38) (q := 10) (by first | assumption | rfl) (wr_eq (by omega)) (by omega) dX7_adds_9 rfl ?_
  refine go_imul (q := 11) dX7_adds_10 rfl ?_
  refine go_iadd (q := 12) dX7_adds_11 rfl ?_
  refine go_istore (j := 5) (q := 14) (ls2 := [_, _, _, _, _, _]) (by decide) rfl rfl dX7_adds_12 rfl ?_
  refine go_aload_n (j := 0) (q := 15) rfl rfl dX7_adds_14 rfl ?_
  refine go_getR (C0 := RX7) (T := TX7) (N := 16) (ci := 7) (i := 0) (q := 18) rfl igX7 (by first | assumption | rfl) (by decide) fl_X7_7 rfl dX7_adds_15 rfl ?_
  refine go_iload (j := 5) (q := 20) rfl dX7_adds_18 rfl ?_
  refine go_iconst (q := 21) dX7_adds_20 rfl ?_
  refine go_iadd (q := 22) dX7_adds_21 rfl ?_
  refine go_iload_n (j := 1) (q := 23) rfl rfl dX7_adds_22 rfl ?_
  refine go_iast (j := 39 + 4 * c) (q := 24) (by first | assumption | rfl) (wr_eq (by omega)) (by omega) dX7_adds_23 rfl ?_
  refine go_aload_n (j := 0) (q := 25) rfl rfl dX7_adds_24 rfl ?_
  refine go_getR (C0 := RX7) (T := TX7) (N := 16) (ci := 7) (i := 0) (q := 28) rfl igX7 (by first | assumption | rfl) (by decide) fl_X7_7 rfl dX7_adds_25 rfl ?_
  refine go_iload (j := 5) (q := 30) rfl dX7_adds_28 rfl ?_
  refine go_iconst (q := 31) dX7_adds_30 rfl ?_
  refine go_iadd (q := 32) dX7_adds_31 rfl ?_
  refine go_iload_n (j := 2) (q := 33) rfl rfl dX7_adds_32 rfl ?_
  refine go_iast (j := 39 + 4 * c + 1) (q := 34) (by first | assumption | rfl) (wr_eq (by omega)) (by omega) dX7_adds_33 rfl ?_
  refine go_aload_n (j := 0) (q := 35) rfl rfl dX7_adds_34 rfl ?_
  refine go_getR (C0 := RX7) (T := TX7) (N := 16) (ci := 7) (i := 0) (q := 38) rfl igX7 (by first | assumption | rfl) (by decide) fl_X7_7 rfl dX7_adds_35 rfl ?_
  refine go_iload (j := 5) (q := 40) rfl dX7_adds_38 rfl ?_
  refine go_iconst (q := 41) dX7_adds_40 rfl ?_
  refine go_iadd (q := 42) dX7_adds_41 rfl ?_
  refine go_iload_n (j := 3) (q := 43) rfl rfl dX7_adds_42 rfl ?_
  refine go_iast (j := 39 + 4 * c + 2) (q := 44) (by first | assumption | rfl) (wr_eq (by omega)) (by omega) dX7_adds_43 rfl ?_
  refine go_aload_n (j := 0) (q := 45) rfl rfl dX7_adds_44 rfl ?_
  refine go_getR (C0 := RX7) (T := TX7) (N := 16) (ci := 7) (i := 0) (q := 48) rfl igX7 (by first | assumption | rfl) (by decide) fl_X7_7 rfl dX7_adds_45 rfl ?_
  refine go_iload (j := 5) (q := 50) rfl dX7_adds_48 rfl ?_
  refine go_iconst (q := 51) dX7_adds_50 rfl ?_
  refine go_iadd (q := 52) dX7_adds_51 rfl ?_
  refine go_iload (j := 4) (q := 54) rfl dX7_adds_52 rfl ?_
  refine go_iast (j := 39 + 4 * c + 3) (q := 55) (by first | assumption | rfl) (wr_eq (by omega)) (by omega) dX7_adds_54 rfl ?_
  refine go_aload_n (j := 0) (q := 56) rfl rfl dX7_adds_55 rfl ?_
  refine go_getR (C0 := RX7) (T := TX7) (N := 16) (ci := 7) (i := 0) (q := 59) rfl igX7 (by first | assumption | rfl) (by decide) fl_X7_7 rfl dX7_adds_56 rfl ?_
  refine go_bipush (q := 61) rfl dX7_adds_59 rfl ?_
  refine go_dup2 (q := 62) (fun _ z => by cases z) (fun _ z => by cases z) dX7_adds_61 rfl ?_
  refine go_iald (j := 38) (q := 63) (by first | assumption | rfl) (wr_eq (by omega)) (by omega) dX7_adds_62 rfl ?_
  refine go_iconst (q := 64) dX7_adds_63 rfl ?_
  refine go_iadd (q := 65) dX7_adds_64 rfl ?_
  refine go_iast (j := 38) (q := 66) (by first | assumption | rfl) (wr_eq (by omega)) (by omega) dX7_adds_65 rfl ?_
  refine go_vret dX7_adds_66 ?_
  subst hK
  refine ⟨rfl, ⟨?_, ?_, ⟨ha.1, by omega⟩, fun k hk => ?_⟩, fun k hk => ?_, fun c' k h => ?_⟩
  · repeat rw [mup_ne (by omega)]
    exact h0
  · rw [mup_eq]; repeat rw [mup_ne (by omega)]
    rw [h1]; omega
  · by_cases q : k = c
    · subst q
      refine ⟨⟨?_, ?_, ?_, ?_⟩, ?_, ?_⟩
      · rw [mup_ne (by omega), mup_ne (by omega), mup_ne (by omega), mup_ne (by omega), mup_eq]; simp only [gap, if_true]; omega
      · rw [mup_ne (by omega), mup_ne (by omega), mup_ne (by omega), mup_eq]; simp only [gap, if_true]; simp; omega
      · rw [mup_ne (by omega), mup_ne (by omega), mup_eq]; simp [gap]; omega
      · rw [mup_ne (by omega), mup_eq]; simp [sap]
      · simp [gap]; omega
      · simp [sap]; exact hv
    · obtain ⟨⟨q0, q1, q2, q3⟩, q4, q5⟩ := hg k (by omega)
      refine ⟨⟨?_, ?_, ?_, ?_⟩, ?_, ?_⟩
      · repeat rw [mup_ne (by omega)]
        simpa [gap, q] using q0
      · repeat rw [mup_ne (by omega)]
        simpa [gap, q] using q1
      · repeat rw [mup_ne (by omega)]
        simpa [gap, q] using q2
      · repeat rw [mup_ne (by omega)]
        simpa [sap, q] using q3
      · simpa [gap, q] using q4
      · simpa [sap, q] using q5
  · repeat rw [mup_ne (by omega)]
  · repeat rw [mup_ne (by omega)]
theorem em_clears {x : Nat} {xi : Int} (ex : xi = x) (hx : 1 ≤ x ∧ x ≤ 7) : eX7_clears l D ck ad shA [vR 45, vI xi] w (Pv fun w1 => DMv (w1 46) x 0 g s ∧ (∀ k, k < 37 → w1 46 k = w 46 k) ∧ ∀ c k, c ≠ 46 → w1 c k = w c k) := by
  refine ev_of_goK (own := RX7) (ls := [some (vR 45), some (vI xi), none]) (by decide +kernel) rfl rfl (Nat.le_of_ble_eq_true rfl) rkV ?_
  intro K hK
  refine go_aload_n (j := 0) (q := 1) rfl rfl dX7_clears_0 rfl ?_
  refine go_getR (C0 := RX7) (T := TX7) (N := 16) (ci := 7) (i := 0) (q := 4) rfl igX7 (by first | assumption | rfl) (by decide) fl_X7_7 rfl dX7_clears_1 rfl ?_
  refine go_bipush (q := 6) rfl dX7_clears_4 rfl ?_
  refine go_iload_n (j := 1) (q := 7) rfl rfl dX7_clears_6 rfl ?_
  refine go_iast (j := 37) (q := 8) (by first | assumption | rfl) (wr_eq (by omega)) (by omega) dX7_clears_7 rfl ?_
  refine go_aload_n (j := 0) (q := 9) rfl rfl dX7_clears_8 rfl ?_
  refine go_getR (C0 := RX7) (T := TX7) (N := 16) (ci := 7) (i := 0) (q := 12) rfl igX7 (by first | assumption | rfl) (by decide) fl_X7_7 rfl dX7_clears_9 rfl ?_
  refine go_bipush (q := 14) rfl dX7_clears_12 rfl ?_
  refine go_iconst (q := 15) dX7_clears_14 rfl ?_
  refine go_iast (j := 38) (q := 16) (by first | assumption | rfl) (wr_eq (by omega)) (by omega) dX7_clears_15 rfl ?_
  refine go_bipush (q := 18) rfl dX7_clears_16 rfl ?_
  refine go_istore_n (j := 2) (q := 19) (ls2 := [_, _, _]) rfl (by decide) rfl rfl dX7_clears_18 rfl ?_
  have lp19 : ∀ (m19 : Nat) (k : Nat) (ki : Int) (w1 : Mem) (ek : ki = k) (hk : 39 ≤ k ∧ k ≤ 79) (h7 : w1 46 37 = x) (h8 : w1 46 38 = 0) (ht : ∀ k, k < 37 → w1 46 k = w 46 k) (hf : ∀ c k, c ≠ 46 → w1 c k = w c k), m19 = 79 - k → gX7_clears l D ck ad shA 19 [some (vR 45), some (vI xi), some (vI ki)] [] w1 K := by
    intro m19
    induction m19 using Nat.strongRecOn with
    | _ m19 ih19 =>
    intro k ki w1 ek hk h7 h8 ht hf em19
    refine go_iload_n (j := 2) (q := 20) rfl rfl dX7_clears_19 rfl ?_
    refine go_bipush (q := 22) rfl dX7_clears_20 rfl ?_
    refine go_icmp_ge2 (q := 25) (t := 38) dX7_clears_22 (by decide) rfl (by omega) (fun c22 => ?_) (fun c22 => ?_)
    · refine go_vret dX7_clears_38 ?_
      subst hK; exact ⟨rfl, ⟨h7, h8, ⟨hx, by omega⟩, fun k h => absurd h (Nat.not_lt_zero k)⟩, ht, hf⟩
    · refine go_aload_n (j := 0) (q := 26) rfl rfl dX7_clears_25 rfl ?_
      refine go_getR (C0 := RX7) (T := TX7) (N := 16) (ci := 7) (i := 0) (q := 29) rfl igX7 (by first | assumption | rfl) (by decide) fl_X7_7 rfl dX7_clears_26 rfl ?_
      refine go_iload_n (j := 2) (q := 30) rfl rfl dX7_clears_29 rfl ?_
      refine go_iconst (q := 31) dX7_clears_30 rfl ?_
      refine go_iast (j := k) (q := 32) (by first | assumption | rfl) (wr_eq (by omega)) (by omega) dX7_clears_31 rfl ?_
      refine go_iinc (j := 2) (q := 35) (ls2 := [_, _, _]) rfl (by decide) rfl rfl dX7_clears_32 rfl ?_
      refine go_goto (q := 19) dX7_clears_35 (by decide) ?_
      exact ih19 _ (by omega) (k + 1) _ _ (by omega) (by omega) (by rw [mup_ne (by omega)]; exact h7) (by rw [mup_ne (by omega)]; exact h8) (fun k h => by rw [mup_ne (by omega)]; exact ht k h) (fun c k h => by rw [mup_ne (Or.inl h)]; exact hf c k h) rfl
  exact lp19 _ 39 _ _ (by omega) (by omega) (by rw [mup_ne (by omega), mup_eq]; exact ex) (by rw [mup_eq]) (fun k h => by rw [mup_ne (by omega), mup_ne (by omega)]) (fun c k h => by rw [mup_ne (Or.inl h), mup_ne (Or.inl h)]) rfl
theorem em_moves (hD : DMv (w 46) a c g s) {x y : Nat} {xi yi : Int} (ex : xi = x) (ey : yi = y) (hy : x < a ∧ y < a) : eX7_moves l D ck ad shA [vR 45, vI xi, vI yi] w (Pv fun w1 => DMv (w1 46) a c (gmv g x y) s ∧ (∀ k, k < 37 → w1 46 k = w 46 k) ∧ ∀ c k, c ≠ 46 → w1 c k = w c k) := by
  obtain ⟨h0, h1, ha, hg⟩ := hD
  refine ev_of_goK (own := RX7) (ls := [some (vR 45), some (vI xi), some (vI yi), none]) (by decide +kernel) rfl rfl (Nat.le_of_ble_eq_true rfl) rkV ?_
  intro K hK
  refine go_iconst (q := 1) dX7_moves_0 rfl ?_
  refine go_istore_n (j := 3) (q := 2) (ls2 := [_, _, _, _]) rfl (by decide) rfl rfl dX7_moves_1 rfl ?_
  have lp2 : ∀ (m2 : Nat) (k : Nat) (ki : Int) (w1 : Mem) (ek : ki = k) (hk : k ≤ c) (hin : ∀ j, j < k → w1 46 (39 + 4 * j + 1) = (gmv g x y j 1 : Int)) (hfr : ∀ c' k', ¬ (c' = 46 ∧ ∃ j, j < k ∧ k' = 39 + 4 * j + 1) → w1 c' k' = w c' k'), m2 = c - k → gX7_moves l D ck ad shA 2 [some (vR 45), some (vI xi), some (vI yi), some (vI ki)] [] w1 K := by
    intro m2
    induction m2 using Nat.strongRecOn with
    | _ m2 ih2 =>
    intro k ki w1 ek hk hin hfr em2
    have e1 : w1 46 38 = c := by rw [hfr 46 38 (by rintro ⟨-, j, z1, z2⟩; omega)]; exact h1
    refine go_iload_n (j := 3) (q := 3) rfl rfl dX7_moves_2 rfl ?_
    refine go_aload_n (j := 0) (q := 4) rfl rfl dX7_moves_3 rfl ?_
    refine go_getR (C0 := RX7) (T := TX7) (N := 16) (ci := 7) (i := 0) (q := 7) rfl igX7 (by first | assumption | rfl) (by decide) fl_X7_7 rfl dX7_moves_4 rfl ?_
    refine go_bipush (q := 9) rfl dX7_moves_7 rfl ?_
    refine go_iald (j := 38) (q := 10) (by first | assumption | rfl) (wr_eq (by omega)) (by omega) dX7_moves_9 rfl ?_
    refine go_icmp_ge2 (q := 13) (t := 43) dX7_moves_10 (by decide) rfl (by omega) (fun c10 => ?_) (fun c10 => ?_)
    · refine go_vret dX7_moves_43 ?_
      subst hK
      have ekc : k = c := by omega
      refine ⟨rfl, ⟨by rw [hfr _ _ (by rintro ⟨-, j, z1, z2⟩; omega)]; exact h0, e1, ha, fun j hj => ?_⟩, fun k' h => hfr _ _ (by rintro ⟨-, j, z1, z2⟩; omega), fun c' k' h => hfr c' k' (fun ⟨z1, _⟩ => h z1)⟩
      obtain ⟨⟨q0, q1, q2, q3⟩, q4, q5⟩ := hg j hj
      refine ⟨⟨?_, hin j (by omega), ?_, ?_⟩, ⟨?_, ?_, ?_⟩, q5⟩
      · rw [hfr _ _ (by rintro ⟨-, i, z1, z2⟩; omega), q0]; simp [gmv]
      · rw [hfr _ _ (by rintro ⟨-, i, z1, z2⟩; omega), q2]; simp [gmv]
      · rw [hfr _ _ (by rintro ⟨-, i, z1, z2⟩; omega), q3]
      · simp [gmv]; exact q4.1
      · unfold gmv; split
        · exact hy.2
        · exact q4.2.1
      · simp [gmv]; exact q4.2.2
    · refine go_aload_n (j := 0) (q := 14) rfl rfl dX7_moves_13 rfl ?_
      refine go_iload_n (j := 3) (q := 15) rfl rfl dX7_moves_14 rfl ?_
      refine go_iconst (q := 16) dX7_moves_15 rfl ?_
      refine go_callVi (as := [_, _, _]) (As := [_, _]) (rest := []) (n := 2) (q := 19) dX7_moves_16 lk_X7_153 (ci := 7) (N := 16) (T := TX7) rfl (by first | assumption | rfl) rfl rfl (by decide +kernel) rfl ⟨by decide, by decide⟩ ⟨rfl, rfl⟩ (Nat.le_of_ble_eq_true rfl) (em_crossingPart (k := k) (p := 1) ek rfl (by omega)) rfl (fun x16 w16 h16 => ?_)
      obtain ⟨rfl, rfl⟩ := h16
      have hgk := hg k (by omega)
      have e3 : w1 46 (39 + 4 * k + 1) = (g k 1 : Int) := by rw [hfr _ _ (by rintro ⟨-, j, z1, z2⟩; omega)]; exact hgk.1.2.1
      refine go_iload_n (j := 1) (q := 20) rfl rfl dX7_moves_19 rfl ?_
      refine go_icmp_ne2 (q := 23) (t := 37) dX7_moves_20 (by decide) rfl (by omega) (fun c20 => ?_) (fun c20 => ?_)
      · have zn : ¬ g k 1 = x := by omega
        refine go_iinc (j := 3) (q := 40) (ls2 := [_, _, _, _]) rfl (by decide) rfl rfl dX7_moves_37 rfl ?_
        refine go_goto (q := 2) dX7_moves_40 (by decide) ?_
        first
        | (have zq := zp
           exact ih2 _ (by omega) (k + 1) _ _ (by omega) (by omega) (by
            intro j hj
            by_cases z : j = k
            · subst z; rw [mup_eq]; unfold gmv; rw [if_pos ⟨rfl, zp⟩]; exact ey
            · rw [mup_ne (by omega)]; exact hin j (by omega)) (by
            intro c' k' h
            rw [mup_ne ?_]
            · exact hfr c' k' (fun ⟨z1, j, z2, z3⟩ => h ⟨z1, j, by omega, z3⟩)
            · by_cases z : c' = 46
              · exact Or.inr (fun z2 => h ⟨z, k, by omega, z2⟩)
              · exact Or.inl z) rfl)
        | (have zq := zn
           exact ih2 _ (by omega) (k + 1) _ _ (by omega) (by omega) (by
            intro j hj
            by_cases z : j = k
            · subst z; rw [e3]; unfold gmv; rw [if_neg (fun q => zn q.2)]
            · exact hin j (by omega)) (fun c' k' h => hfr c' k' (fun ⟨z1, j, z2, z3⟩ => h ⟨z1, j, by omega, z3⟩)) rfl)
      · have zp : g k 1 = x := by omega
        refine go_aload_n (j := 0) (q := 24) rfl rfl dX7_moves_23 rfl ?_
        refine go_getR (C0 := RX7) (T := TX7) (N := 16) (ci := 7) (i := 0) (q := 27) rfl igX7 (by first | assumption | rfl) (by decide) fl_X7_7 rfl dX7_moves_24 rfl ?_
        refine go_bipush (q := 29) rfl dX7_moves_27 rfl ?_
        refine go_iconst (q := 30) dX7_moves_29 rfl ?_
        refine go_iload_n (j := 3) (q := 31) rfl rfl dX7_moves_30 rfl ?_
        refine go_imul (q := 32) dX7_moves_31 rfl ?_
        refine go_iadd (q := 33) dX7_moves_32 rfl ?_
        refine go_iconst (q := 34) dX7_moves_33 rfl ?_
        refine go_iadd (q := 35) dX7_moves_34 rfl ?_
        refine go_iload_n (j := 2) (q := 36) rfl rfl dX7_moves_35 rfl ?_
        refine go_iast (j := 39 + 4 * k + 1) (q := 37) (by first | assumption | rfl) (wr_eq (by omega)) (by omega) dX7_moves_36 rfl ?_
        refine go_iinc (j := 3) (q := 40) (ls2 := [_, _, _, _]) rfl (by decide) rfl rfl dX7_moves_37 rfl ?_
        refine go_goto (q := 2) dX7_moves_40 (by decide) ?_
        first
        | (have zq := zp
           exact ih2 _ (by omega) (k + 1) _ _ (by omega) (by omega) (by
            intro j hj
            by_cases z : j = k
            · subst z; rw [mup_eq]; unfold gmv; rw [if_pos ⟨rfl, zp⟩]; exact ey
            · rw [mup_ne (by omega)]; exact hin j (by omega)) (by
            intro c' k' h
            rw [mup_ne ?_]
            · exact hfr c' k' (fun ⟨z1, j, z2, z3⟩ => h ⟨z1, j, by omega, z3⟩)
            · by_cases z : c' = 46
              · exact Or.inr (fun z2 => h ⟨z, k, by omega, z2⟩)
              · exact Or.inl z) rfl)
        | (have zq := zn
           exact ih2 _ (by omega) (k + 1) _ _ (by omega) (by omega) (by
            intro j hj
            by_cases z : j = k
            · subst z; rw [e3]; unfold gmv; rw [if_neg (fun q => zn q.2)]
            · exact hin j (by omega)) (fun c' k' h => hfr c' k' (fun ⟨z1, j, z2, z3⟩ => h ⟨z1, j, by omega, z3⟩)) rfl)
  exact lp2 _ 0 0 _ rfl (by omega) (fun j h => absurd h (Nat.not_lt_zero j)) (fun c k h => rfl) rfl
theorem em18 (hP : PMW w W) {x : Int} (hx : rng x) : eX7_newDiagram l D ck ad shA [vR 45, vI x] w (Pi (MR w (op18 W x))) := by
  have hD : DMv (w 46) (wA W) (wC W) (wG W) (wS W) := hP.1.2
  have hb := hD.2.2.1
  have g37 := hD.1
  have g38 := hD.2.1
  refine ev_of_goK (own := RX7) (ls := [some (vR 45), some (vI x), none]) (by decide +kernel) rfl rfl (Nat.le_of_ble_eq_true rfl) rkI ?_
  intro K hK
  refine go_iload_n (j := 1) (q := 1) rfl rfl dX7_newDiagram_0 rfl ?_
  refine go_iconst (q := 2) dX7_newDiagram_1 rfl ?_
  refine go_bipush (q := 4) rfl dX7_newDiagram_2 rfl ?_
  refine go_callSz (as := [_, _, _]) (rest := []) (n := 3) (q := 7) dX7_newDiagram_4 lk_X7_35 rfl (by decide +kernel) rfl ⟨by decide, by decide⟩ ⟨rfl, rfl⟩ (Nat.le_of_ble_eq_true rfl) (em_within (by omega)) rfl (fun w4 h4 => ?_) (fun w4 h4 => ?_)
  · obtain ⟨rfl, h4⟩ := h4
    refine go_if_neT (t := 13) dX7_newDiagram_7 (by decide) (by decide) ?_
    refine go_aload_n (j := 0) (q := 14) rfl rfl dX7_newDiagram_13 rfl ?_
    refine go_callVv (as := [_]) (As := []) (rest := []) (n := 0) (q := 17) dX7_newDiagram_14 lk_X7_39 (ci := 7) (N := 16) (T := TX7) rfl (by first | assumption | rfl) rfl rfl (by decide +kernel) rfl ⟨by decide, by decide⟩ ⟨rfl, rfl⟩ (Nat.le_of_ble_eq_true rfl) (em_record hP) rfl (fun w14 h14 => ?_)
    obtain ⟨hR, fR⟩ := h14
    have hD2 : DMv (w14 46) (wA W) (wC W) (wG W) (wS W) := hR.1.2
    have hT2 : TMv (w14 46) (wN W) (wF W) := hR.1.1
    have k37 := hD2.1
    have k38 := hD2.2.1
    refine go_aload_n (j := 0) (q := 18) rfl rfl dX7_newDiagram_17 rfl ?_
    refine go_getR (C0 := RX7) (T := TX7) (N := 16) (ci := 7) (i := 0) (q := 21) rfl igX7 (by first | assumption | rfl) (by decide) fl_X7_7 rfl dX7_newDiagram_18 rfl ?_
    refine go_bipush (q := 23) rfl dX7_newDiagram_21 rfl ?_
    refine go_iald (j := 37) (q := 24) (by first | assumption | rfl) (wr_eq (by omega)) (by omega) dX7_newDiagram_23 rfl ?_
    refine go_istore_n (j := 2) (q := 25) (ls2 := [_, _, _]) rfl (by decide) rfl rfl dX7_newDiagram_24 rfl ?_
    refine go_aload_n (j := 0) (q := 26) rfl rfl dX7_newDiagram_25 rfl ?_
    refine go_iload_n (j := 1) (q := 27) rfl rfl dX7_newDiagram_26 rfl ?_
    refine go_callVv (as := [_, _]) (As := [_]) (rest := []) (n := 1) (q := 30) dX7_newDiagram_27 lk_X7_137 (ci := 7) (N := 16) (T := TX7) rfl (by first | assumption | rfl) rfl rfl (by decide +kernel) rfl ⟨by decide, by decide⟩ ⟨rfl, rfl⟩ (Nat.le_of_ble_eq_true rfl) (em_clears (g := wG W) (s := wS W) (x := x.toNat) (by omega) (by omega)) rfl (fun w27 h27 => ?_)
    obtain ⟨h27, t27, f27⟩ := h27
    refine go_iload_n (j := 2) (q := 31) rfl rfl dX7_newDiagram_30 rfl ?_
    refine go_iret dX7_newDiagram_31 ?_
    subst hK
    unfold op18
    rw [cif_t (by omega)]
    exact ⟨_, rfl, k37, PMW_S hR (S := dS W _ _ _ _) ⟨TMv_c hT2 t27, h27⟩ (fun c k z => f27 _ _ (by omega)), fun c k z => by rw [f27 _ _ (by omega)]; exact fR _ _ (by omega) (by omega)⟩
  · obtain ⟨rfl, h4⟩ := h4
    refine go_if_neF (q := 10) (t := 13) dX7_newDiagram_7 rfl (by decide) (by decide) ?_
    refine go_bipush (q := 12) rfl dX7_newDiagram_10 rfl ?_
    refine go_iret dX7_newDiagram_12 ?_
    subst hK
    unfold op18
    rw [cif_f (by omega)]
    exact ⟨_, rfl, rfl, hP, fun c k _ => rfl⟩
theorem em19 (hP : PMW w W) {x : Int} (hx : rng x) : eX7_standard l D ck ad shA [vR 45, vI x] w (Pi (MR w (op19 W x))) := by
  have hD : DMv (w 46) (wA W) (wC W) (wG W) (wS W) := hP.1.2
  have hb := hD.2.2.1
  have g37 := hD.1
  have g38 := hD.2.1
  refine ev_of_goK (own := RX7) (ls := [some (vR 45), some (vI x)]) (by decide +kernel) rfl rfl (Nat.le_of_ble_eq_true rfl) rkI ?_
  intro K hK
  have key : ∀ (w12 : Mem) (q : Nat) (ai : Int), x = (q : Int) → q < 6 → q = x.toNat → ai = (sArc q : Int) → PMW w12 (psh W W.1) → (∀ c k, c ≠ 47 → ¬ (c = 45 ∧ k = 2) → w12 c k = w c k) → gX7_standard l D ck ad shA 52 [some (vR 45), some (vI x)] [vI ai, vR 45] w12 K := by
    intro w12 q ai exq hq6 hq ea hR fR
    have hsa := st_a ⟨q, hq6⟩
    simp only at hsa
    have hD2 : DMv (w12 46) (wA W) (wC W) (wG W) (wS W) := hR.1.2
    have hT2 : TMv (w12 46) (wN W) (wF W) := hR.1.1
    refine go_callVv (as := [_, _]) (As := [_]) (rest := []) (n := 1) (q := 55) dX7_standard_52 lk_X7_137 (ci := 7) (N := 16) (T := TX7) rfl (by first | assumption | rfl) rfl rfl (by decide +kernel) rfl ⟨by decide, by decide⟩ ⟨rfl, rfl⟩ (Nat.le_of_ble_eq_true rfl) (em_clears (g := stG q) (s := stS q) (x := sArc q) ea hsa.1) rfl (fun w52 h52 => ?_)
    obtain ⟨D52, t52, F52⟩ := h52
    have T52 : TMv (w52 46) (wN W) (wF W) := TMv_c hT2 t52
    refine go_iload_n (j := 1) (q := 56) rfl rfl dX7_standard_55 rfl ?_
    refine go_ts1 (v := 1) (off := 32) (t := 88) dX7_standard_56 (by decide) rfl (by decide) (fun e56 => ?_) (fun n56_1 => ?_)
    · rw [wr_of (by omega) (by omega)] at e56
      obtain rfl : q = 1 := by omega
      refine go_aload_n (j := 0) (q := 89) rfl rfl dX7_standard_88 rfl ?_
      refine go_iconst (q := 90) dX7_standard_89 rfl ?_
      refine go_iconst (q := 91) dX7_standard_90 rfl ?_
      refine go_iconst (q := 92) dX7_standard_91 rfl ?_
      refine go_iconst (q := 93) dX7_standard_92 rfl ?_
      refine go_callVv (as := [_, _, _, _, _]) (As := [_, _, _, _]) (rest := []) (n := 4) (q := 96) dX7_standard_93 lk_X7_140 (ci := 7) (N := 16) (T := TX7) rfl (by first | assumption | rfl) rfl rfl (by decide +kernel) rfl ⟨by decide, by decide⟩ ⟨rfl, rfl⟩ (Nat.le_of_ble_eq_true rfl) (em_adds D52 (by decide) (by decide) (by decide)) rfl (fun w93 h93 => ?_)
      obtain ⟨D93, t93, f93⟩ := h93
      have T93 : TMv (w93 46) (wN W) (wF W) := TMv_c T52 t93
      have F93 : ∀ c k, c ≠ 46 → w93 c k = w12 c k := fun c k z => (f93 c k z).trans (F52 c k z)
      refine go_aload_n (j := 0) (q := 97) rfl rfl dX7_standard_96 rfl ?_
      refine go_iconst (q := 98) dX7_standard_97 rfl ?_
      refine go_iconst (q := 99) dX7_standard_98 rfl ?_
      refine go_iconst (q := 100) dX7_standard_99 rfl ?_
      refine go_iconst (q := 101) dX7_standard_100 rfl ?_
      refine go_callVv (as := [_, _, _, _, _]) (As := [_, _, _, _]) (rest := []) (n := 4) (q := 104) dX7_standard_101 lk_X7_140 (ci := 7) (N := 16) (T := TX7) rfl (by first | assumption | rfl) rfl rfl (by decide +kernel) rfl ⟨by decide, by decide⟩ ⟨rfl, rfl⟩ (Nat.le_of_ble_eq_true rfl) (em_adds D93 (by decide) (by decide) (by decide)) rfl (fun w101 h101 => ?_)
      obtain ⟨D101, t101, f101⟩ := h101
      have T101 : TMv (w101 46) (wN W) (wF W) := TMv_c T93 t101
      have F101 : ∀ c k, c ≠ 46 → w101 c k = w12 c k := fun c k z => (f101 c k z).trans (F93 c k z)
      refine go_aload_n (j := 0) (q := 105) rfl rfl dX7_standard_104 rfl ?_
      refine go_iconst (q := 106) dX7_standard_105 rfl ?_
      refine go_iconst (q := 107) dX7_standard_106 rfl ?_
      refine go_iconst (q := 108) dX7_standard_107 rfl ?_
      refine go_iconst (q := 109) dX7_standard_108 rfl ?_
      refine go_callVv (as := [_, _, _, _, _]) (As := [_, _, _, _]) (rest := []) (n := 4) (q := 112) dX7_standard_109 lk_X7_140 (ci := 7) (N := 16) (T := TX7) rfl (by first | assumption | rfl) rfl rfl (by decide +kernel) rfl ⟨by decide, by decide⟩ ⟨rfl, rfl⟩ (Nat.le_of_ble_eq_true rfl) (em_adds D101 (by decide) (by decide) (by decide)) rfl (fun w109 h109 => ?_)
      obtain ⟨D109, t109, f109⟩ := h109
      have T109 : TMv (w109 46) (wN W) (wF W) := TMv_c T101 t109
      have F109 : ∀ c k, c ≠ 46 → w109 c k = w12 c k := fun c k z => (f109 c k z).trans (F101 c k z)
      refine go_goto (q := 212) dX7_standard_112 (by decide) ?_
      refine go_aload_n (j := 0) (q := 213) rfl rfl dX7_standard_212 rfl ?_
      refine go_getR (C0 := RX7) (T := TX7) (N := 16) (ci := 7) (i := 0) (q := 216) rfl igX7 (by first | assumption | rfl) (by decide) fl_X7_7 rfl dX7_standard_213 rfl ?_
      refine go_bipush (q := 218) rfl dX7_standard_216 rfl ?_
      refine go_iald (j := 38) (q := 219) (by first | assumption | rfl) (wr_eq (by omega)) (by omega) dX7_standard_218 rfl ?_
      refine go_iret dX7_standard_219 ?_
      subst hK
      unfold op19
      rw [cif_t (by omega), ← hq]
      first
      | (have zq := D109
         have hnew := DMv_g (g2 := stG 1) (s2 := stS 1) D109 (by
           intro k hk
           rcases (show k = 0 ∨ k = 1 ∨ k = 2 by omega) with rfl | rfl | rfl <;> exact ⟨rfl, rfl, rfl, rfl⟩)
         exact ⟨_, rfl, D109.2.1, PMW_S hR (S := dS W (sArc 1) (sCnt 1) (stG 1) (stS 1)) ⟨T109, hnew⟩ (fun c k z => F109 _ _ (by omega)), fun c k z => by rw [F109 _ _ (by omega)]; exact fR _ _ (by omega) (by omega)⟩)
      | (have zq := D144
         have hnew := DMv_g (g2 := stG 2) (s2 := stS 2) D144 (by
           intro k hk
           rcases (show k = 0 ∨ k = 1 ∨ k = 2 ∨ k = 3 by omega) with rfl | rfl | rfl | rfl <;> exact ⟨rfl, rfl, rfl, rfl⟩)
         exact ⟨_, rfl, D144.2.1, PMW_S hR (S := dS W (sArc 2) (sCnt 2) (stG 2) (stS 2)) ⟨T144, hnew⟩ (fun c k z => F144 _ _ (by omega)), fun c k z => by rw [F144 _ _ (by omega)]; exact fR _ _ (by omega) (by omega)⟩)
      | (have zq := D187
         have hnew := DMv_g (g2 := stG 3) (s2 := stS 3) D187 (by
           intro k hk
           rcases (show k = 0 ∨ k = 1 ∨ k = 2 ∨ k = 3 ∨ k = 4 by omega) with rfl | rfl | rfl | rfl | rfl <;> exact ⟨rfl, rfl, rfl, rfl⟩)
         exact ⟨_, rfl, D187.2.1, PMW_S hR (S := dS W (sArc 3) (sCnt 3) (stG 3) (stS 3)) ⟨T187, hnew⟩ (fun c k z => F187 _ _ (by omega)), fun c k z => by rw [F187 _ _ (by omega)]; exact fR _ _ (by omega) (by omega)⟩)
      | (have zq := D206
         have hnew := DMv_g (g2 := stG 4) (s2 := stS 4) D206 (by
           intro k hk
           rcases (show k = 0 ∨ k = 1 by omega) with rfl | rfl <;> exact ⟨rfl, rfl, rfl, rfl⟩)
         exact ⟨_, rfl, D206.2.1, PMW_S hR (S := dS W (sArc 4) (sCnt 4) (stG 4) (stS 4)) ⟨T206, hnew⟩ (fun c k z => F206 _ _ (by omega)), fun c k z => by rw [F206 _ _ (by omega)]; exact fR _ _ (by omega) (by omega)⟩)
      | (have ec0 : sCnt q = 0 := by rcases (show q = 0 ∨ q = 5 by omega) with rfl | rfl <;> rfl
         exact ⟨_, rfl, by rw [ec0]; exact D52.2.1, PMW_S hR (S := dS W (sArc q) (sCnt q) (stG q) (stS q)) ⟨T52, by rw [ec0]; exact D52⟩ (fun c k z => F52 _ _ (by omega)), fun c k z => by rw [F52 _ _ (by omega)]; exact fR _ _ (by omega) (by omega)⟩)
    refine go_ts1 (v := 2) (off := 59) (t := 115) dX7_standard_56 (by decide) rfl (by decide) (fun e56 => ?_) (fun n56_2 => ?_)
    · rw [wr_of (by omega) (by omega)] at e56
      obtain rfl : q = 2 := by omega
      refine go_aload_n (j := 0) (q := 116) rfl rfl dX7_standard_115 rfl ?_
      refine go_iconst (q := 117) dX7_standard_116 rfl ?_
      refine go_iconst (q := 118) dX7_standard_117 rfl ?_
      refine go_iconst (q := 119) dX7_standard_118 rfl ?_
      refine go_iconst (q := 120) dX7_standard_119 rfl ?_
      refine go_callVv (as := [_, _, _, _, _]) (As := [_, _, _, _]) (rest := []) (n := 4) (q := 123) dX7_standard_120 lk_X7_140 (ci := 7) (N := 16) (T := TX7) rfl (by first | assumption | rfl) rfl rfl (by decide +kernel) rfl ⟨by decide, by decide⟩ ⟨rfl, rfl⟩ (Nat.le_of_ble_eq_true rfl) (em_adds D52 (by decide) (by decide) (by decide)) rfl (fun w120 h120 => ?_)
      obtain ⟨D120, t120, f120⟩ := h120
      have T120 : TMv (w120 46) (wN W) (wF W) := TMv_c T52 t120
      have F120 : ∀ c k, c ≠ 46 → w120 c k = w12 c k := fun c k z => (f120 c k z).trans (F52 c k z)
      refine go_aload_n (j := 0) (q := 124) rfl rfl dX7_standard_123 rfl ?_
      refine go_iconst (q := 125) dX7_standard_124 rfl ?_
      refine go_iconst (q := 126) dX7_standard_125 rfl ?_
      refine go_iconst (q := 127) dX7_standard_126 rfl ?_
      refine go_iconst (q := 128) dX7_standard_127 rfl ?_
      refine go_callVv (as := [_, _, _, _, _]) (As := [_, _, _, _]) (rest := []) (n := 4) (q := 131) dX7_standard_128 lk_X7_140 (ci := 7) (N := 16) (T := TX7) rfl (by first | assumption | rfl) rfl rfl (by decide +kernel) rfl ⟨by decide, by decide⟩ ⟨rfl, rfl⟩ (Nat.le_of_ble_eq_true rfl) (em_adds D120 (by decide) (by decide) (by decide)) rfl (fun w128 h128 => ?_)
      obtain ⟨D128, t128, f128⟩ := h128
      have T128 : TMv (w128 46) (wN W) (wF W) := TMv_c T120 t128
      have F128 : ∀ c k, c ≠ 46 → w128 c k = w12 c k := fun c k z => (f128 c k z).trans (F120 c k z)
      refine go_aload_n (j := 0) (q := 132) rfl rfl dX7_standard_131 rfl ?_
      refine go_iconst (q := 133) dX7_standard_132 rfl ?_
      refine go_iconst (q := 134) dX7_standard_133 rfl ?_
      refine go_iconst (q := 135) dX7_standard_134 rfl ?_
      refine go_iconst (q := 136) dX7_standard_135 rfl ?_
      refine go_callVv (as := [_, _, _, _, _]) (As := [_, _, _, _]) (rest := []) (n := 4) (q := 139) dX7_standard_136 lk_X7_140 (ci := 7) (N := 16) (T := TX7) rfl (by first | assumption | rfl) rfl rfl (by decide +kernel) rfl ⟨by decide, by decide⟩ ⟨rfl, rfl⟩ (Nat.le_of_ble_eq_true rfl) (em_adds D128 (by decide) (by decide) (by decide)) rfl (fun w136 h136 => ?_)
      obtain ⟨D136, t136, f136⟩ := h136
      have T136 : TMv (w136 46) (wN W) (wF W) := TMv_c T128 t136
      have F136 : ∀ c k, c ≠ 46 → w136 c k = w12 c k := fun c k z => (f136 c k z).trans (F128 c k z)
      refine go_aload_n (j := 0) (q := 140) rfl rfl dX7_standard_139 rfl ?_
      refine go_iconst (q := 141) dX7_standard_140 rfl ?_
      refine go_iconst (q := 142) dX7_standard_141 rfl ?_
      refine go_iconst (q := 143) dX7_standard_142 rfl ?_
      refine go_iconst (q := 144) dX7_standard_143 rfl ?_
      refine go_callVv (as := [_, _, _, _, _]) (As := [_, _, _, _]) (rest := []) (n := 4) (q := 147) dX7_standard_144 lk_X7_140 (ci := 7) (N := 16) (T := TX7) rfl (by first | assumption | rfl) rfl rfl (by decide +kernel) rfl ⟨by decide, by decide⟩ ⟨rfl, rfl⟩ (Nat.le_of_ble_eq_true rfl) (em_adds D136 (by decide) (by decide) (by decide)) rfl (fun w144 h144 => ?_)
      obtain ⟨D144, t144, f144⟩ := h144
      have T144 : TMv (w144 46) (wN W) (wF W) := TMv_c T136 t144
      have F144 : ∀ c k, c ≠ 46 → w144 c k = w12 c k := fun c k z => (f144 c k z).trans (F136 c k z)
      refine go_goto (q := 212) dX7_standard_147 (by decide) ?_
      refine go_aload_n (j := 0) (q := 213) rfl rfl dX7_standard_212 rfl ?_
      refine go_getR (C0 := RX7) (T := TX7) (N := 16) (ci := 7) (i := 0) (q := 216) rfl igX7 (by first | assumption | rfl) (by decide) fl_X7_7 rfl dX7_standard_213 rfl ?_
      refine go_bipush (q := 218) rfl dX7_standard_216 rfl ?_
      refine go_iald (j := 38) (q := 219) (by first | assumption | rfl) (wr_eq (by omega)) (by omega) dX7_standard_218 rfl ?_
      refine go_iret dX7_standard_219 ?_
      subst hK
      unfold op19
      rw [cif_t (by omega), ← hq]
      first
      | (have zq := D109
         have hnew := DMv_g (g2 := stG 1) (s2 := stS 1) D109 (by
           intro k hk
           rcases (show k = 0 ∨ k = 1 ∨ k = 2 by omega) with rfl | rfl | rfl <;> exact ⟨rfl, rfl, rfl, rfl⟩)
         exact ⟨_, rfl, D109.2.1, PMW_S hR (S := dS W (sArc 1) (sCnt 1) (stG 1) (stS 1)) ⟨T109, hnew⟩ (fun c k z => F109 _ _ (by omega)), fun c k z => by rw [F109 _ _ (by omega)]; exact fR _ _ (by omega) (by omega)⟩)
      | (have zq := D144
         have hnew := DMv_g (g2 := stG 2) (s2 := stS 2) D144 (by
           intro k hk
           rcases (show k = 0 ∨ k = 1 ∨ k = 2 ∨ k = 3 by omega) with rfl | rfl | rfl | rfl <;> exact ⟨rfl, rfl, rfl, rfl⟩)
         exact ⟨_, rfl, D144.2.1, PMW_S hR (S := dS W (sArc 2) (sCnt 2) (stG 2) (stS 2)) ⟨T144, hnew⟩ (fun c k z => F144 _ _ (by omega)), fun c k z => by rw [F144 _ _ (by omega)]; exact fR _ _ (by omega) (by omega)⟩)
      | (have zq := D187
         have hnew := DMv_g (g2 := stG 3) (s2 := stS 3) D187 (by
           intro k hk
           rcases (show k = 0 ∨ k = 1 ∨ k = 2 ∨ k = 3 ∨ k = 4 by omega) with rfl | rfl | rfl | rfl | rfl <;> exact ⟨rfl, rfl, rfl, rfl⟩)
         exact ⟨_, rfl, D187.2.1, PMW_S hR (S := dS W (sArc 3) (sCnt 3) (stG 3) (stS 3)) ⟨T187, hnew⟩ (fun c k z => F187 _ _ (by omega)), fun c k z => by rw [F187 _ _ (by omega)]; exact fR _ _ (by omega) (by omega)⟩)
      | (have zq := D206
         have hnew := DMv_g (g2 := stG 4) (s2 := stS 4) D206 (by
           intro k hk
           rcases (show k = 0 ∨ k = 1 by omega) with rfl | rfl <;> exact ⟨rfl, rfl, rfl, rfl⟩)
         exact ⟨_, rfl, D206.2.1, PMW_S hR (S := dS W (sArc 4) (sCnt 4) (stG 4) (stS 4)) ⟨T206, hnew⟩ (fun c k z => F206 _ _ (by omega)), fun c k z => by rw [F206 _ _ (by omega)]; exact fR _ _ (by omega) (by omega)⟩)
      | (have ec0 : sCnt q = 0 := by rcases (show q = 0 ∨ q = 5 by omega) with rfl | rfl <;> rfl
         exact ⟨_, rfl, by rw [ec0]; exact D52.2.1, PMW_S hR (S := dS W (sArc q) (sCnt q) (stG q) (stS q)) ⟨T52, by rw [ec0]; exact D52⟩ (fun c k z => F52 _ _ (by omega)), fun c k z => by rw [F52 _ _ (by omega)]; exact fR _ _ (by omega) (by omega)⟩)
    refine go_ts1 (v := 3) (off := 94) (t := 150) dX7_standard_56 (by decide) rfl (by decide) (fun e56 => ?_) (fun n56_3 => ?_)
    · rw [wr_of (by omega) (by omega)] at e56
      obtain rfl : q = 3 := by omega
      refine go_aload_n (j := 0) (q := 151) rfl rfl dX7_standard_150 rfl ?_
      refine go_iconst (q := 152) dX7_standard_151 rfl ?_
      refine go_iconst (q := 153) dX7_standard_152 rfl ?_
      refine go_iconst (q := 154) dX7_standard_153 rfl ?_
      refine go_iconst (q := 155) dX7_standard_154 rfl ?_
      refine go_callVv (as := [_, _, _, _, _]) (As := [_, _, _, _]) (rest := []) (n := 4) (q := 158) dX7_standard_155 lk_X7_140 (ci := 7) (N := 16) (T := TX7) rfl (by first | assumption | rfl) rfl rfl (by decide +kernel) rfl ⟨by decide, by decide⟩ ⟨rfl, rfl⟩ (Nat.le_of_ble_eq_true rfl) (em_adds D52 (by decide) (by decide) (by decide)) rfl (fun w155 h155 => ?_)
      obtain ⟨D155, t155, f155⟩ := h155
      have T155 : TMv (w155 46) (wN W) (wF W) := TMv_c T52 t155
      have F155 : ∀ c k, c ≠ 46 → w155 c k = w12 c k := fun c k z => (f155 c k z).trans (F52 c k z)
      refine go_aload_n (j := 0) (q := 159) rfl rfl dX7_standard_158 rfl ?_
      refine go_iconst (q := 160) dX7_standard_159 rfl ?_
      refine go_iconst (q := 161) dX7_standard_160 rfl ?_
      refine go_iconst (q := 162) dX7_standard_161 rfl ?_
      refine go_iconst (q := 163) dX7_standard_162 rfl ?_
      refine go_callVv (as := [_, _, _, _, _]) (As := [_, _, _, _]) (rest := []) (n := 4) (q := 166) dX7_standard_163 lk_X7_140 (ci := 7) (N := 16) (T := TX7) rfl (by first | assumption | rfl) rfl rfl (by decide +kernel) rfl ⟨by decide, by decide⟩ ⟨rfl, rfl⟩ (Nat.le_of_ble_eq_true rfl) (em_adds D155 (by decide) (by decide) (by decide)) rfl (fun w163 h163 => ?_)
      obtain ⟨D163, t163, f163⟩ := h163
      have T163 : TMv (w163 46) (wN W) (wF W) := TMv_c T155 t163
      have F163 : ∀ c k, c ≠ 46 → w163 c k = w12 c k := fun c k z => (f163 c k z).trans (F155 c k z)
      refine go_aload_n (j := 0) (q := 167) rfl rfl dX7_standard_166 rfl ?_
      refine go_iconst (q := 168) dX7_standard_167 rfl ?_
      refine go_iconst (q := 169) dX7_standard_168 rfl ?_
      refine go_iconst (q := 170) dX7_standard_169 rfl ?_
      refine go_iconst (q := 171) dX7_standard_170 rfl ?_
      refine go_callVv (as := [_, _, _, _, _]) (As := [_, _, _, _]) (rest := []) (n := 4) (q := 174) dX7_standard_171 lk_X7_140 (ci := 7) (N := 16) (T := TX7) rfl (by first | assumption | rfl) rfl rfl (by decide +kernel) rfl ⟨by decide, by decide⟩ ⟨rfl, rfl⟩ (Nat.le_of_ble_eq_true rfl) (em_adds D163 (by decide) (by decide) (by decide)) rfl (fun w171 h171 => ?_)
      obtain ⟨D171, t171, f171⟩ := h171
      have T171 : TMv (w171 46) (wN W) (wF W) := TMv_c T163 t171
      have F171 : ∀ c k, c ≠ 46 → w171 c k = w12 c k := fun c k z => (f171 c k z).trans (F163 c k z)
      refine go_aload_n (j := 0) (q := 175) rfl rfl dX7_standard_174 rfl ?_
      refine go_iconst (q := 176) dX7_standard_175 rfl ?_
      refine go_iconst (q := 177) dX7_standard_176 rfl ?_
      refine go_iconst (q := 178) dX7_standard_177 rfl ?_
      refine go_iconst (q := 179) dX7_standard_178 rfl ?_
      refine go_callVv (as := [_, _, _, _, _]) (As := [_, _, _, _]) (rest := []) (n := 4) (q := 182) dX7_standard_179 lk_X7_140 (ci := 7) (N := 16) (T := TX7) rfl (by first | assumption | rfl) rfl rfl (by decide +kernel) rfl ⟨by decide, by decide⟩ ⟨rfl, rfl⟩ (Nat.le_of_ble_eq_true rfl) (em_adds D171 (by decide) (by decide) (by decide)) rfl (fun w179 h179 => ?_)
      obtain ⟨D179, t179, f179⟩ := h179
      have T179 : TMv (w179 46) (wN W) (wF W) := TMv_c T171 t179
      have F179 : ∀ c k, c ≠ 46 → w179 c k = w12 c k := fun c k z => (f179 c k z).trans (F171 c k z)
      refine go_aload_n (j := 0) (q := 183) rfl rfl dX7_standard_182 rfl ?_
      refine go_iconst (q := 184) dX7_standard_183 rfl ?_
      refine go_iconst (q := 185) dX7_standard_184 rfl ?_
      refine go_iconst (q := 186) dX7_standard_185 rfl ?_
      refine go_iconst (q := 187) dX7_standard_186 rfl ?_
      refine go_callVv (as := [_, _, _, _, _]) (As := [_, _, _, _]) (rest := []) (n := 4) (q := 190) dX7_standard_187 lk_X7_140 (ci := 7) (N := 16) (T := TX7) rfl (by first | assumption | rfl) rfl rfl (by decide +kernel) rfl ⟨by decide, by decide⟩ ⟨rfl, rfl⟩ (Nat.le_of_ble_eq_true rfl) (em_adds D179 (by decide) (by decide) (by decide)) rfl (fun w187 h187 => ?_)
      obtain ⟨D187, t187, f187⟩ := h187
      have T187 : TMv (w187 46) (wN W) (wF W) := TMv_c T179 t187
      have F187 : ∀ c k, c ≠ 46 → w187 c k = w12 c k := fun c k z => (f187 c k z).trans (F179 c k z)
      refine go_goto (q := 212) dX7_standard_190 (by decide) ?_
      refine go_aload_n (j := 0) (q := 213) rfl rfl dX7_standard_212 rfl ?_
      refine go_getR (C0 := RX7) (T := TX7) (N := 16) (ci := 7) (i := 0) (q := 216) rfl igX7 (by first | assumption | rfl) (by decide) fl_X7_7 rfl dX7_standard_213 rfl ?_
      refine go_bipush (q := 218) rfl dX7_standard_216 rfl ?_
      refine go_iald (j := 38) (q := 219) (by first | assumption | rfl) (wr_eq (by omega)) (by omega) dX7_standard_218 rfl ?_
      refine go_iret dX7_standard_219 ?_
      subst hK
      unfold op19
      rw [cif_t (by omega), ← hq]
      first
      | (have zq := D109
         have hnew := DMv_g (g2 := stG 1) (s2 := stS 1) D109 (by
           intro k hk
           rcases (show k = 0 ∨ k = 1 ∨ k = 2 by omega) with rfl | rfl | rfl <;> exact ⟨rfl, rfl, rfl, rfl⟩)
         exact ⟨_, rfl, D109.2.1, PMW_S hR (S := dS W (sArc 1) (sCnt 1) (stG 1) (stS 1)) ⟨T109, hnew⟩ (fun c k z => F109 _ _ (by omega)), fun c k z => by rw [F109 _ _ (by omega)]; exact fR _ _ (by omega) (by omega)⟩)
      | (have zq := D144
         have hnew := DMv_g (g2 := stG 2) (s2 := stS 2) D144 (by
           intro k hk
           rcases (show k = 0 ∨ k = 1 ∨ k = 2 ∨ k = 3 by omega) with rfl | rfl | rfl | rfl <;> exact ⟨rfl, rfl, rfl, rfl⟩)
         exact ⟨_, rfl, D144.2.1, PMW_S hR (S := dS W (sArc 2) (sCnt 2) (stG 2) (stS 2)) ⟨T144, hnew⟩ (fun c k z => F144 _ _ (by omega)), fun c k z => by rw [F144 _ _ (by omega)]; exact fR _ _ (by omega) (by omega)⟩)
      | (have zq := D187
         have hnew := DMv_g (g2 := stG 3) (s2 := stS 3) D187 (by
           intro k hk
           rcases (show k = 0 ∨ k = 1 ∨ k = 2 ∨ k = 3 ∨ k = 4 by omega) with rfl | rfl | rfl | rfl | rfl <;> exact ⟨rfl, rfl, rfl, rfl⟩)
         exact ⟨_, rfl, D187.2.1, PMW_S hR (S := dS W (sArc 3) (sCnt 3) (stG 3) (stS 3)) ⟨T187, hnew⟩ (fun c k z => F187 _ _ (by omega)), fun c k z => by rw [F187 _ _ (by omega)]; exact fR _ _ (by omega) (by omega)⟩)
      | (have zq := D206
         have hnew := DMv_g (g2 := stG 4) (s2 := stS 4) D206 (by
           intro k hk
           rcases (show k = 0 ∨ k = 1 by omega) with rfl | rfl <;> exact ⟨rfl, rfl, rfl, rfl⟩)
         exact ⟨_, rfl, D206.2.1, PMW_S hR (S := dS W (sArc 4) (sCnt 4) (stG 4) (stS 4)) ⟨T206, hnew⟩ (fun c k z => F206 _ _ (by omega)), fun c k z => by rw [F206 _ _ (by omega)]; exact fR _ _ (by omega) (by omega)⟩)
      | (have ec0 : sCnt q = 0 := by rcases (show q = 0 ∨ q = 5 by omega) with rfl | rfl <;> rfl
         exact ⟨_, rfl, by rw [ec0]; exact D52.2.1, PMW_S hR (S := dS W (sArc q) (sCnt q) (stG q) (stS q)) ⟨T52, by rw [ec0]; exact D52⟩ (fun c k z => F52 _ _ (by omega)), fun c k z => by rw [F52 _ _ (by omega)]; exact fR _ _ (by omega) (by omega)⟩)
    refine go_ts1 (v := 4) (off := 137) (t := 193) dX7_standard_56 (by decide) rfl (by decide) (fun e56 => ?_) (fun n56_4 => ?_)
    · rw [wr_of (by omega) (by omega)] at e56
      obtain rfl : q = 4 := by omega
      refine go_aload_n (j := 0) (q := 194) rfl rfl dX7_standard_193 rfl ?_
      refine go_iconst (q := 195) dX7_standard_194 rfl ?_
      refine go_iconst (q := 196) dX7_standard_195 rfl ?_
      refine go_iconst (q := 197) dX7_standard_196 rfl ?_
      refine go_iconst (q := 198) dX7_standard_197 rfl ?_
      refine go_callVv (as := [_, _, _, _, _]) (As := [_, _, _, _]) (rest := []) (n := 4) (q := 201) dX7_standard_198 lk_X7_140 (ci := 7) (N := 16) (T := TX7) rfl (by first | assumption | rfl) rfl rfl (by decide +kernel) rfl ⟨by decide, by decide⟩ ⟨rfl, rfl⟩ (Nat.le_of_ble_eq_true rfl) (em_adds D52 (by decide) (by decide) (by decide)) rfl (fun w198 h198 => ?_)
      obtain ⟨D198, t198, f198⟩ := h198
      have T198 : TMv (w198 46) (wN W) (wF W) := TMv_c T52 t198
      have F198 : ∀ c k, c ≠ 46 → w198 c k = w12 c k := fun c k z => (f198 c k z).trans (F52 c k z)
      refine go_aload_n (j := 0) (q := 202) rfl rfl dX7_standard_201 rfl ?_
      refine go_iconst (q := 203) dX7_standard_202 rfl ?_
      refine go_iconst (q := 204) dX7_standard_203 rfl ?_
      refine go_iconst (q := 205) dX7_standard_204 rfl ?_
      refine go_iconst (q := 206) dX7_standard_205 rfl ?_
      refine go_callVv (as := [_, _, _, _, _]) (As := [_, _, _, _]) (rest := []) (n := 4) (q := 209) dX7_standard_206 lk_X7_140 (ci := 7) (N := 16) (T := TX7) rfl (by first | assumption | rfl) rfl rfl (by decide +kernel) rfl ⟨by decide, by decide⟩ ⟨rfl, rfl⟩ (Nat.le_of_ble_eq_true rfl) (em_adds D198 (by decide) (by decide) (by decide)) rfl (fun w206 h206 => ?_)
      obtain ⟨D206, t206, f206⟩ := h206
      have T206 : TMv (w206 46) (wN W) (wF W) := TMv_c T198 t206
      have F206 : ∀ c k, c ≠ 46 → w206 c k = w12 c k := fun c k z => (f206 c k z).trans (F198 c k z)
      refine go_goto (q := 212) dX7_standard_209 (by decide) ?_
      refine go_aload_n (j := 0) (q := 213) rfl rfl dX7_standard_212 rfl ?_
      refine go_getR (C0 := RX7) (T := TX7) (N := 16) (ci := 7) (i := 0) (q := 216) rfl igX7 (by first | assumption | rfl) (by decide) fl_X7_7 rfl dX7_standard_213 rfl ?_
      refine go_bipush (q := 218) rfl dX7_standard_216 rfl ?_
      refine go_iald (j := 38) (q := 219) (by first | assumption | rfl) (wr_eq (by omega)) (by omega) dX7_standard_218 rfl ?_
      refine go_iret dX7_standard_219 ?_
      subst hK
      unfold op19
      rw [cif_t (by omega), ← hq]
      first
      | (have zq := D109
         have hnew := DMv_g (g2 := stG 1) (s2 := stS 1) D109 (by
           intro k hk
           rcases (show k = 0 ∨ k = 1 ∨ k = 2 by omega) with rfl | rfl | rfl <;> exact ⟨rfl, rfl, rfl, rfl⟩)
         exact ⟨_, rfl, D109.2.1, PMW_S hR (S := dS W (sArc 1) (sCnt 1) (stG 1) (stS 1)) ⟨T109, hnew⟩ (fun c k z => F109 _ _ (by omega)), fun c k z => by rw [F109 _ _ (by omega)]; exact fR _ _ (by omega) (by omega)⟩)
      | (have zq := D144
         have hnew := DMv_g (g2 := stG 2) (s2 := stS 2) D144 (by
           intro k hk
           rcases (show k = 0 ∨ k = 1 ∨ k = 2 ∨ k = 3 by omega) with rfl | rfl | rfl | rfl <;> exact ⟨rfl, rfl, rfl, rfl⟩)
         exact ⟨_, rfl, D144.2.1, PMW_S hR (S := dS W (sArc 2) (sCnt 2) (stG 2) (stS 2)) ⟨T144, hnew⟩ (fun c k z => F144 _ _ (by omega)), fun c k z => by rw [F144 _ _ (by omega)]; exact fR _ _ (by omega) (by omega)⟩)
      | (have zq := D187
         have hnew := DMv_g (g2 := stG 3) (s2 := stS 3) D187 (by
           intro k hk
           rcases (show k = 0 ∨ k = 1 ∨ k = 2 ∨ k = 3 ∨ k = 4 by omega) with rfl | rfl | rfl | rfl | rfl <;> exact ⟨rfl, rfl, rfl, rfl⟩)
         exact ⟨_, rfl, D187.2.1, PMW_S hR (S := dS W (sArc 3) (sCnt 3) (stG 3) (stS 3)) ⟨T187, hnew⟩ (fun c k z => F187 _ _ (by omega)), fun c k z => by rw [F187 _ _ (by omega)]; exact fR _ _ (by omega) (by omega)⟩)
      | (have zq := D206
         have hnew := DMv_g (g2 := stG 4) (s2 := stS 4) D206 (by
           intro k hk
           rcases (show k = 0 ∨ k = 1 by omega) with rfl | rfl <;> exact ⟨rfl, rfl, rfl, rfl⟩)
         exact ⟨_, rfl, D206.2.1, PMW_S hR (S := dS W (sArc 4) (sCnt 4) (stG 4) (stS 4)) ⟨T206, hnew⟩ (fun c k z => F206 _ _ (by omega)), fun c k z => by rw [F206 _ _ (by omega)]; exact fR _ _ (by omega) (by omega)⟩)
      | (have ec0 : sCnt q = 0 := by rcases (show q = 0 ∨ q = 5 by omega) with rfl | rfl <;> rfl
         exact ⟨_, rfl, by rw [ec0]; exact D52.2.1, PMW_S hR (S := dS W (sArc q) (sCnt q) (stG q) (stS q)) ⟨T52, by rw [ec0]; exact D52⟩ (fun c k z => F52 _ _ (by omega)), fun c k z => by rw [F52 _ _ (by omega)]; exact fR _ _ (by omega) (by omega)⟩)
    rw [wr_of (by omega) (by omega)] at n56_1 n56_2 n56_3 n56_4
    refine go_tsOut (t := 212) dX7_standard_56 (by rw [wr_of (by omega) (by omega)]; omega) (by decide) ?_
    refine go_aload_n (j := 0) (q := 213) rfl rfl dX7_standard_212 rfl ?_
    refine go_getR (C0 := RX7) (T := TX7) (N := 16) (ci := 7) (i := 0) (q := 216) rfl igX7 (by first | assumption | rfl) (by decide) fl_X7_7 rfl dX7_standard_213 rfl ?_
    refine go_bipush (q := 218) rfl dX7_standard_216 rfl ?_
    refine go_iald (j := 38) (q := 219) (by first | assumption | rfl) (wr_eq (by omega)) (by omega) dX7_standard_218 rfl ?_
    refine go_iret dX7_standard_219 ?_
    subst hK
    unfold op19
    rw [cif_t (by omega), ← hq]
    first
    | (have zq := D109
       have hnew := DMv_g (g2 := stG 1) (s2 := stS 1) D109 (by
         intro k hk
         rcases (show k = 0 ∨ k = 1 ∨ k = 2 by omega) with rfl | rfl | rfl <;> exact ⟨rfl, rfl, rfl, rfl⟩)
       exact ⟨_, rfl, D109.2.1, PMW_S hR (S := dS W (sArc 1) (sCnt 1) (stG 1) (stS 1)) ⟨T109, hnew⟩ (fun c k z => F109 _ _ (by omega)), fun c k z => by rw [F109 _ _ (by omega)]; exact fR _ _ (by omega) (by omega)⟩)
    | (have zq := D144
       have hnew := DMv_g (g2 := stG 2) (s2 := stS 2) D144 (by
         intro k hk
         rcases (show k = 0 ∨ k = 1 ∨ k = 2 ∨ k = 3 by omega) with rfl | rfl | rfl | rfl <;> exact ⟨rfl, rfl, rfl, rfl⟩)
       exact ⟨_, rfl, D144.2.1, PMW_S hR (S := dS W (sArc 2) (sCnt 2) (stG 2) (stS 2)) ⟨T144, hnew⟩ (fun c k z => F144 _ _ (by omega)), fun c k z => by rw [F144 _ _ (by omega)]; exact fR _ _ (by omega) (by omega)⟩)
    | (have zq := D187
       have hnew := DMv_g (g2 := stG 3) (s2 := stS 3) D187 (by
         intro k hk
         rcases (show k = 0 ∨ k = 1 ∨ k = 2 ∨ k = 3 ∨ k = 4 by omega) with rfl | rfl | rfl | rfl | rfl <;> exact ⟨rfl, rfl, rfl, rfl⟩)
       exact ⟨_, rfl, D187.2.1, PMW_S hR (S := dS W (sArc 3) (sCnt 3) (stG 3) (stS 3)) ⟨T187, hnew⟩ (fun c k z => F187 _ _ (by omega)), fun c k z => by rw [F187 _ _ (by omega)]; exact fR _ _ (by omega) (by omega)⟩)
    | (have zq := D206
       have hnew := DMv_g (g2 := stG 4) (s2 := stS 4) D206 (by
         intro k hk
         rcases (show k = 0 ∨ k = 1 by omega) with rfl | rfl <;> exact ⟨rfl, rfl, rfl, rfl⟩)
       exact ⟨_, rfl, D206.2.1, PMW_S hR (S := dS W (sArc 4) (sCnt 4) (stG 4) (stS 4)) ⟨T206, hnew⟩ (fun c k z => F206 _ _ (by omega)), fun c k z => by rw [F206 _ _ (by omega)]; exact fR _ _ (by omega) (by omega)⟩)
    | (have ec0 : sCnt q = 0 := by rcases (show q = 0 ∨ q = 5 by omega) with rfl | rfl <;> rfl
       exact ⟨_, rfl, by rw [ec0]; exact D52.2.1, PMW_S hR (S := dS W (sArc q) (sCnt q) (stG q) (stS q)) ⟨T52, by rw [ec0]; exact D52⟩ (fun c k z => F52 _ _ (by omega)), fun c k z => by rw [F52 _ _ (by omega)]; exact fR _ _ (by omega) (by omega)⟩)
  refine go_iload_n (j := 1) (q := 1) rfl rfl dX7_standard_0 rfl ?_
  refine go_iconst (q := 2) dX7_standard_1 rfl ?_
  refine go_iconst (q := 3) dX7_standard_2 rfl ?_
  refine go_callSz (as := [_, _, _]) (rest := []) (n := 3) (q := 6) dX7_standard_3 lk_X7_35 rfl (by decide +kernel) rfl ⟨by decide, by decide⟩ ⟨rfl, rfl⟩ (Nat.le_of_ble_eq_true rfl) (em_within (by omega)) rfl (fun w3 h3 => ?_) (fun w3 h3 => ?_)
  · obtain ⟨rfl, h3⟩ := h3
    refine go_if_neT (t := 11) dX7_standard_6 (by decide) (by decide) ?_
    refine go_aload_n (j := 0) (q := 12) rfl rfl dX7_standard_11 rfl ?_
    refine go_callVv (as := [_]) (As := []) (rest := []) (n := 0) (q := 15) dX7_standard_12 lk_X7_39 (ci := 7) (N := 16) (T := TX7) rfl (by first | assumption | rfl) rfl rfl (by decide +kernel) rfl ⟨by decide, by decide⟩ ⟨rfl, rfl⟩ (Nat.le_of_ble_eq_true rfl) (em_record hP) rfl (fun w12 h12 => ?_)
    obtain ⟨hR, fR⟩ := h12
    obtain ⟨q, hq⟩ : ∃ q, q = x.toNat := ⟨_, rfl⟩
    have exq : x = (q : Int) := by omega
    have hq6 : q < 6 := by omega
    refine go_aload_n (j := 0) (q := 16) rfl rfl dX7_standard_15 rfl ?_
    refine go_iload_n (j := 1) (q := 17) rfl rfl dX7_standard_16 rfl ?_
    refine go_if_ne2 (q := 20) (t := 24) dX7_standard_17 (by decide) rfl (by omega) (fun c17 => ?_) (fun c17 => ?_)
    · refine go_iload_n (j := 1) (q := 25) rfl rfl dX7_standard_24 rfl ?_
      refine go_iconst (q := 26) dX7_standard_25 rfl ?_
      refine go_icmp_ne2 (q := 29) (t := 33) dX7_standard_26 (by decide) rfl (by omega) (fun c26 => ?_) (fun c26 => ?_)
      · refine go_iload_n (j := 1) (q := 34) rfl rfl dX7_standard_33 rfl ?_
        refine go_iconst (q := 35) dX7_standard_34 rfl ?_
        refine go_icmp_ne2 (q := 38) (t := 42) dX7_standard_35 (by decide) rfl (by omega) (fun c35 => ?_) (fun c35 => ?_)
        · refine go_iload_n (j := 1) (q := 43) rfl rfl dX7_standard_42 rfl ?_
          refine go_iconst (q := 44) dX7_standard_43 rfl ?_
          refine go_icmp_ne2 (q := 47) (t := 51) dX7_standard_44 (by decide) rfl (by omega) (fun c44 => ?_) (fun c44 => ?_)
          · refine go_iconst (q := 52) dX7_standard_51 rfl ?_
            exact key _ q _ exq hq6 hq (by rcases (show q = 0 ∨ q = 1 ∨ q = 2 ∨ q = 3 ∨ q = 4 ∨ q = 5 by omega) with rfl | rfl | rfl | rfl | rfl | rfl <;> first | rfl | omega) hR fR
          · refine go_iconst (q := 48) dX7_standard_47 rfl ?_
            refine go_goto (q := 52) dX7_standard_48 (by decide) ?_
            exact key _ q _ exq hq6 hq (by rcases (show q = 0 ∨ q = 1 ∨ q = 2 ∨ q = 3 ∨ q = 4 ∨ q = 5 by omega) with rfl | rfl | rfl | rfl | rfl | rfl <;> first | rfl | omega) hR fR
        · refine go_iconst (q := 39) dX7_standard_38 rfl ?_
          refine go_goto (q := 52) dX7_standard_39 (by decide) ?_
          exact key _ q _ exq hq6 hq (by rcases (show q = 0 ∨ q = 1 ∨ q = 2 ∨ q = 3 ∨ q = 4 ∨ q = 5 by omega) with rfl | rfl | rfl | rfl | rfl | rfl <;> first | rfl | omega) hR fR
      · refine go_iconst (q := 30) dX7_standard_29 rfl ?_
        refine go_goto (q := 52) dX7_standard_30 (by decide) ?_
        exact key _ q _ exq hq6 hq (by rcases (show q = 0 ∨ q = 1 ∨ q = 2 ∨ q = 3 ∨ q = 4 ∨ q = 5 by omega) with rfl | rfl | rfl | rfl | rfl | rfl <;> first | rfl | omega) hR fR
    · refine go_iconst (q := 21) dX7_standard_20 rfl ?_
      refine go_goto (q := 52) dX7_standard_21 (by decide) ?_
      exact key _ q _ exq hq6 hq (by rcases (show q = 0 ∨ q = 1 ∨ q = 2 ∨ q = 3 ∨ q = 4 ∨ q = 5 by omega) with rfl | rfl | rfl | rfl | rfl | rfl <;> first | rfl | omega) hR fR
  · obtain ⟨rfl, h3⟩ := h3
    refine go_if_neF (q := 9) (t := 11) dX7_standard_6 rfl (by decide) (by decide) ?_
    refine go_iconst (q := 10) dX7_standard_9 rfl ?_
    refine go_iret dX7_standard_10 ?_
    subst hK
    unfold op19
    rw [cif_f (by omega)]
    exact ⟨_, rfl, rfl, hP, fun c k _ => rfl⟩
theorem em20 (hP : PMW w W) {o i u v : Int} (ho : rng o) (hi : rng i) (hu : rng u) (hv : rng v) : eX7_addCrossing l D ck ad shA [vR 45, vI o, vI i, vI u, vI v] w (Pi (MR w (op20 W o i u v))) := by
  have hD : DMv (w 46) (wA W) (wC W) (wG W) (wS W) := hP.1.2
  have hb := hD.2.2.1
  have g37 := hD.1
  have g38 := hD.2.1
  refine ev_of_goK (own := RX7) (ls := [some (vR 45), some (vI o), some (vI i), some (vI u), some (vI v)]) (by decide +kernel) rfl rfl (Nat.le_of_ble_eq_true rfl) rkI ?_
  intro K hK
  refine go_aload_n (j := 0) (q := 1) rfl rfl dX7_addCrossing_0 rfl ?_
  refine go_iload_n (j := 1) (q := 2) rfl rfl dX7_addCrossing_1 rfl ?_
  refine go_callVz (as := [_, _]) (As := [_]) (rest := []) (n := 1) (q := 5) dX7_addCrossing_2 lk_X7_144 (ci := 7) (N := 16) (T := TX7) rfl (by first | assumption | rfl) rfl rfl (by decide +kernel) rfl ⟨by decide, by decide⟩ ⟨rfl, rfl⟩ (Nat.le_of_ble_eq_true rfl) (em_isArc hD ho) rfl (fun w2 h2 => ?_) (fun w2 h2 => ?_)
  · obtain ⟨rfl, h2⟩ := h2
    refine go_if_eqF (q := 8) (t := 24) dX7_addCrossing_5 rfl (by decide) (by decide) ?_
    refine go_aload_n (j := 0) (q := 9) rfl rfl dX7_addCrossing_8 rfl ?_
    refine go_iload_n (j := 2) (q := 10) rfl rfl dX7_addCrossing_9 rfl ?_
    refine go_callVz (as := [_, _]) (As := [_]) (rest := []) (n := 1) (q := 13) dX7_addCrossing_10 lk_X7_144 (ci := 7) (N := 16) (T := TX7) rfl (by first | assumption | rfl) rfl rfl (by decide +kernel) rfl ⟨by decide, by decide⟩ ⟨rfl, rfl⟩ (Nat.le_of_ble_eq_true rfl) (em_isArc hD hi) rfl (fun w10 h10 => ?_) (fun w10 h10 => ?_)
    · obtain ⟨rfl, h10⟩ := h10
      refine go_if_eqF (q := 16) (t := 24) dX7_addCrossing_13 rfl (by decide) (by decide) ?_
      refine go_aload_n (j := 0) (q := 17) rfl rfl dX7_addCrossing_16 rfl ?_
      refine go_iload_n (j := 3) (q := 18) rfl rfl dX7_addCrossing_17 rfl ?_
      refine go_callVz (as := [_, _]) (As := [_]) (rest := []) (n := 1) (q := 21) dX7_addCrossing_18 lk_X7_144 (ci := 7) (N := 16) (T := TX7) rfl (by first | assumption | rfl) rfl rfl (by decide +kernel) rfl ⟨by decide, by decide⟩ ⟨rfl, rfl⟩ (Nat.le_of_ble_eq_true rfl) (em_isArc hD hu) rfl (fun w18 h18 => ?_) (fun w18 h18 => ?_)
      · obtain ⟨rfl, h18⟩ := h18
        refine go_if_neT (t := 26) dX7_addCrossing_21 (by decide) (by decide) ?_
        refine go_iload (j := 4) (q := 28) rfl dX7_addCrossing_26 rfl ?_
        refine go_callSz (as := [_]) (rest := []) (n := 1) (q := 31) dX7_addCrossing_28 lk_X7_147 rfl (by decide +kernel) rfl ⟨by decide, by decide⟩ ⟨rfl, rfl⟩ (Nat.le_of_ble_eq_true rfl) (em_isSign hv) rfl (fun w28 h28 => ?_) (fun w28 h28 => ?_)
        · obtain ⟨rfl, h28⟩ := h28
          refine go_if_neT (t := 37) dX7_addCrossing_31 (by decide) (by decide) ?_
          refine go_aload_n (j := 0) (q := 38) rfl rfl dX7_addCrossing_37 rfl ?_
          refine go_getR (C0 := RX7) (T := TX7) (N := 16) (ci := 7) (i := 0) (q := 41) rfl igX7 (by first | assumption | rfl) (by decide) fl_X7_7 rfl dX7_addCrossing_38 rfl ?_
          refine go_bipush (q := 43) rfl dX7_addCrossing_41 rfl ?_
          refine go_iald (j := 38) (q := 44) (by first | assumption | rfl) (wr_eq (by omega)) (by omega) dX7_addCrossing_43 rfl ?_
          refine go_bipush (q := 46) rfl dX7_addCrossing_44 rfl ?_
          refine go_icmp_ne2 (q := 49) (t := 52) dX7_addCrossing_46 (by decide) rfl (by omega) (fun c46 => ?_) (fun c46 => ?_)
          · refine go_aload_n (j := 0) (q := 53) rfl rfl dX7_addCrossing_52 rfl ?_
            refine go_callVv (as := [_]) (As := []) (rest := []) (n := 0) (q := 56) dX7_addCrossing_53 lk_X7_39 (ci := 7) (N := 16) (T := TX7) rfl (by first | assumption | rfl) rfl rfl (by decide +kernel) rfl ⟨by decide, by decide⟩ ⟨rfl, rfl⟩ (Nat.le_of_ble_eq_true rfl) (em_record hP) rfl (fun w53 h53 => ?_)
            obtain ⟨hR, fR⟩ := h53
            have hD2 : DMv (w53 46) (wA W) (wC W) (wG W) (wS W) := hR.1.2
            have hT2 : TMv (w53 46) (wN W) (wF W) := hR.1.1
            have k37 := hD2.1
            have k38 := hD2.2.1
            refine go_aload_n (j := 0) (q := 57) rfl rfl dX7_addCrossing_56 rfl ?_
            refine go_iload_n (j := 1) (q := 58) rfl rfl dX7_addCrossing_57 rfl ?_
            refine go_iload_n (j := 2) (q := 59) rfl rfl dX7_addCrossing_58 rfl ?_
            refine go_iload_n (j := 3) (q := 60) rfl rfl dX7_addCrossing_59 rfl ?_
            refine go_iload (j := 4) (q := 62) rfl dX7_addCrossing_60 rfl ?_
            refine go_callVv (as := [_, _, _, _, _]) (As := [_, _, _, _]) (rest := []) (n := 4) (q := 65) dX7_addCrossing_62 lk_X7_140 (ci := 7) (N := 16) (T := TX7) rfl (by first | assumption | rfl) rfl rfl (by decide +kernel) rfl ⟨by decide, by decide⟩ ⟨rfl, rfl⟩ (Nat.le_of_ble_eq_true rfl) (em_adds hD2 (by omega) (by omega) (by omega)) rfl (fun w62 h62 => ?_)
            obtain ⟨h62, t62, f62⟩ := h62
            have e62 := h62.2.1
            refine go_aload_n (j := 0) (q := 66) rfl rfl dX7_addCrossing_65 rfl ?_
            refine go_getR (C0 := RX7) (T := TX7) (N := 16) (ci := 7) (i := 0) (q := 69) rfl igX7 (by first | assumption | rfl) (by decide) fl_X7_7 rfl dX7_addCrossing_66 rfl ?_
            refine go_bipush (q := 71) rfl dX7_addCrossing_69 rfl ?_
            refine go_iald (j := 38) (q := 72) (by first | assumption | rfl) (wr_eq (by omega)) (by omega) dX7_addCrossing_71 rfl ?_
            refine go_iconst (q := 73) dX7_addCrossing_72 rfl ?_
            refine go_isub (q := 74) dX7_addCrossing_73 rfl ?_
            refine go_iret dX7_addCrossing_74 ?_
            subst hK
            unfold op20
            rw [cif_t (by omega)]
            rw [cif_t (by omega)]
            rw [cif_t (by omega)]
            exact ⟨_, rfl, by rw [e62]; show _ = ((wC W : Nat) : Int); omega, PMW_S hR (S := dS W _ _ _ _) ⟨TMv_c hT2 t62, h62⟩ (fun c k z => f62 _ _ (by omega)), fun c k z => by rw [f62 _ _ (by omega)]; exact fR _ _ (by omega) (by omega)⟩
          · refine go_bipush (q := 51) rfl dX7_addCrossing_49 rfl ?_
            refine go_iret dX7_addCrossing_51 ?_
            subst hK
            unfold op20
            rw [cif_t (by omega)]
            rw [cif_t (by omega)]
            rw [cif_f (by omega)]
            exact ⟨_, rfl, rfl, hP, fun c k _ => rfl⟩
        · obtain ⟨rfl, h28⟩ := h28
          refine go_if_neF (q := 34) (t := 37) dX7_addCrossing_31 rfl (by decide) (by decide) ?_
          refine go_bipush (q := 36) rfl dX7_addCrossing_34 rfl ?_
          refine go_iret dX7_addCrossing_36 ?_
          subst hK
          unfold op20
          rw [cif_t (by omega)]
          rw [cif_f (by omega)]
          exact ⟨_, rfl, rfl, hP, fun c k _ => rfl⟩
      · obtain ⟨rfl, h18⟩ := h18
        refine go_if_neF (q := 24) (t := 26) dX7_addCrossing_21 rfl (by decide) (by decide) ?_
        refine go_iconst (q := 25) dX7_addCrossing_24 rfl ?_
        refine go_iret dX7_addCrossing_25 ?_
        subst hK
        unfold op20
        rw [cif_f (by omega)]
        exact ⟨_, rfl, rfl, hP, fun c k _ => rfl⟩
    · obtain ⟨rfl, h10⟩ := h10
      refine go_if_eqT (t := 24) dX7_addCrossing_13 (by decide) (by decide) ?_
      refine go_iconst (q := 25) dX7_addCrossing_24 rfl ?_
      refine go_iret dX7_addCrossing_25 ?_
      subst hK
      unfold op20
      rw [cif_f (by omega)]
      exact ⟨_, rfl, rfl, hP, fun c k _ => rfl⟩
  · obtain ⟨rfl, h2⟩ := h2
    refine go_if_eqT (t := 24) dX7_addCrossing_5 (by decide) (by decide) ?_
    refine go_iconst (q := 25) dX7_addCrossing_24 rfl ?_
    refine go_iret dX7_addCrossing_25 ?_
    subst hK
    unfold op20
    rw [cif_f (by omega)]
    exact ⟨_, rfl, rfl, hP, fun c k _ => rfl⟩
theorem em21 (hP : PMW w W) {x : Int} (hx : rng x) : eX7_removeCrossing l D ck ad shA [vR 45, vI x] w (Pi (MR w (op21 W x))) := by
  have hD : DMv (w 46) (wA W) (wC W) (wG W) (wS W) := hP.1.2
  have hb := hD.2.2.1
  have g37 := hD.1
  have g38 := hD.2.1
  refine ev_of_goK (own := RX7) (ls := [some (vR 45), some (vI x), none]) (by decide +kernel) rfl rfl (Nat.le_of_ble_eq_true rfl) rkI ?_
  intro K hK
  refine go_aload_n (j := 0) (q := 1) rfl rfl dX7_removeCrossing_0 rfl ?_
  refine go_iload_n (j := 1) (q := 2) rfl rfl dX7_removeCrossing_1 rfl ?_
  refine go_callVz (as := [_, _]) (As := [_]) (rest := []) (n := 1) (q := 5) dX7_removeCrossing_2 lk_X7_150 (ci := 7) (N := 16) (T := TX7) rfl (by first | assumption | rfl) rfl rfl (by decide +kernel) rfl ⟨by decide, by decide⟩ ⟨rfl, rfl⟩ (Nat.le_of_ble_eq_true rfl) (em_isCrossing hD hx) rfl (fun w2 h2 => ?_) (fun w2 h2 => ?_)
  · obtain ⟨rfl, h2⟩ := h2
    refine go_if_neT (t := 10) dX7_removeCrossing_5 (by decide) (by decide) ?_
    refine go_aload_n (j := 0) (q := 11) rfl rfl dX7_removeCrossing_10 rfl ?_
    refine go_callVv (as := [_]) (As := []) (rest := []) (n := 0) (q := 14) dX7_removeCrossing_11 lk_X7_39 (ci := 7) (N := 16) (T := TX7) rfl (by first | assumption | rfl) rfl rfl (by decide +kernel) rfl ⟨by decide, by decide⟩ ⟨rfl, rfl⟩ (Nat.le_of_ble_eq_true rfl) (em_record hP) rfl (fun w11 h11 => ?_)
    obtain ⟨hR, fR⟩ := h11
    have hD2 : DMv (w11 46) (wA W) (wC W) (wG W) (wS W) := hR.1.2
    have hT2 : TMv (w11 46) (wN W) (wF W) := hR.1.1
    have k37 := hD2.1
    have k38 := hD2.2.1
    refine go_aload_n (j := 0) (q := 15) rfl rfl dX7_removeCrossing_14 rfl ?_
    refine go_getR (C0 := RX7) (T := TX7) (N := 16) (ci := 7) (i := 0) (q := 18) rfl igX7 (by first | assumption | rfl) (by decide) fl_X7_7 rfl dX7_removeCrossing_15 rfl ?_
    refine go_bipush (q := 20) rfl dX7_removeCrossing_18 rfl ?_
    refine go_dup2 (q := 21) (fun _ z => by cases z) (fun _ z => by cases z) dX7_removeCrossing_20 rfl ?_
    refine go_iald (j := 38) (q := 22) (by first | assumption | rfl) (wr_eq (by omega)) (by omega) dX7_removeCrossing_21 rfl ?_
    refine go_iconst (q := 23) dX7_removeCrossing_22 rfl ?_
    refine go_isub (q := 24) dX7_removeCrossing_23 rfl ?_
    refine go_iast (j := 38) (q := 25) (by first | assumption | rfl) (wr_eq (by omega)) (by omega) dX7_removeCrossing_24 rfl ?_
    obtain ⟨q, hq⟩ : ∃ q, q = x.toNat := ⟨_, rfl⟩
    have exq : x = (q : Int) := by omega
    have hqc : q < wC W := by omega
    obtain ⟨c, hc⟩ : ∃ c, c = wC W := ⟨_, rfl⟩
    have hg2 := hD2.2.2.2
    rw [← hc] at hqc hg2 k38 hb
    refine go_bipush (q := 27) rfl dX7_removeCrossing_25 rfl ?_
    refine go_iconst (q := 28) dX7_removeCrossing_27 rfl ?_
    refine go_iload_n (j := 1) (q := 29) rfl rfl dX7_removeCrossing_28 rfl ?_
    refine go_imul (q := 30) dX7_removeCrossing_29 rfl ?_
    refine go_iadd (q := 31) dX7_removeCrossing_30 rfl ?_
    refine go_istore_n (j := 2) (q := 32) (ls2 := [_, _, _]) rfl (by decide) rfl rfl dX7_removeCrossing_31 rfl ?_
    have lp32 : ∀ (m32 : Nat) (j : Nat) (ki : Int) (w1 : Mem) (ek : ki = 39 + 4 * (q : Int) + j) (hj : j ≤ 4 * (c - 1 - q)) (h8 : w1 46 38 = (c : Int) - 1) (hlo : ∀ k, k ≠ 38 → k < 39 + 4 * q → w1 46 k = w11 46 k) (hmid : ∀ i, i < j → w1 46 (39 + 4 * q + i) = w11 46 (39 + 4 * q + i + 4)) (hhi : ∀ k, 39 + 4 * q + j ≤ k → w1 46 k = w11 46 k) (hf : ∀ c k, c ≠ 46 → w1 c k = w11 c k), m32 = 4 * (c - 1 - q) - j → gX7_removeCrossing l D ck ad shA 32 [some (vR 45), some (vI x), some (vI ki)] [] w1 K := by
      intro m32
      induction m32 using Nat.strongRecOn with
      | _ m32 ih32 =>
      intro j ki w1 ek hj h8 hlo hmid hhi hf em32
      refine go_iload_n (j := 2) (q := 33) rfl rfl dX7_removeCrossing_32 rfl ?_
      refine go_bipush (q := 35) rfl dX7_removeCrossing_33 rfl ?_
      refine go_iconst (q := 36) dX7_removeCrossing_35 rfl ?_
      refine go_aload_n (j := 0) (q := 37) rfl rfl dX7_removeCrossing_36 rfl ?_
      refine go_getR (C0 := RX7) (T := TX7) (N := 16) (ci := 7) (i := 0) (q := 40) rfl igX7 (by first | assumption | rfl) (by decide) fl_X7_7 rfl dX7_removeCrossing_37 rfl ?_
      refine go_bipush (q := 42) rfl dX7_removeCrossing_40 rfl ?_
      refine go_iald (j := 38) (q := 43) (by first | assumption | rfl) (wr_eq (by omega)) (by omega) dX7_removeCrossing_42 rfl ?_
      refine go_imul (q := 44) dX7_removeCrossing_43 rfl ?_
      refine go_iadd (q := 45) dX7_removeCrossing_44 rfl ?_
      refine go_icmp_ge2 (q := 48) (t := 68) dX7_removeCrossing_45 (by decide) rfl (by omega) (fun c45 => ?_) (fun c45 => ?_)
      · refine go_aload_n (j := 0) (q := 69) rfl rfl dX7_removeCrossing_68 rfl ?_
        refine go_getR (C0 := RX7) (T := TX7) (N := 16) (ci := 7) (i := 0) (q := 72) rfl igX7 (by first | assumption | rfl) (by decide) fl_X7_7 rfl dX7_removeCrossing_69 rfl ?_
        refine go_bipush (q := 74) rfl dX7_removeCrossing_72 rfl ?_
        refine go_iald (j := 38) (q := 75) (by first | assumption | rfl) (wr_eq (by omega)) (by omega) dX7_removeCrossing_74 rfl ?_
        refine go_iret dX7_removeCrossing_75 ?_
        subst hK
        have ej : j = 4 * (c - 1 - q) := by omega
        have hnew : DMv (w1 46) (wA W) (c - 1) (grm (wG W) q) (srm (wS W) q) := by
          refine ⟨by rw [hlo _ (by omega) (by omega)]; exact k37, by rw [h8]; omega, ⟨hb.1, by omega⟩, fun k hk => ?_⟩
          by_cases p : k < q
          · obtain ⟨⟨q0, q1, q2, q3⟩, q4, q5⟩ := hg2 k (by omega)
            refine ⟨⟨?_, ?_, ?_, ?_⟩, ?_, ?_⟩
            · rw [hlo _ (by omega) (by omega), q0]; simp [grm, p]
            · rw [hlo _ (by omega) (by omega), q1]; simp [grm, p]
            · rw [hlo _ (by omega) (by omega), q2]; simp [grm, p]
            · rw [hlo _ (by omega) (by omega), q3]; simp [srm, p]
            · simpa [grm, p] using q4
            · simpa [srm, p] using q5
          · obtain ⟨⟨q0, q1, q2, q3⟩, q4, q5⟩ := hg2 (k + 1) (by omega)
            refine ⟨⟨?_, ?_, ?_, ?_⟩, ?_, ?_⟩
            · rw [show 39 + 4 * k = 39 + 4 * q + (4 * k - 4 * q) by omega, hmid _ (by omega), show 39 + 4 * q + (4 * k - 4 * q) + 4 = 39 + 4 * (k + 1) by omega, q0]; simp [grm, p]
            · rw [show 39 + 4 * k + 1 = 39 + 4 * q + (4 * k - 4 * q + 1) by omega, hmid _ (by omega), show 39 + 4 * q + (4 * k - 4 * q + 1) + 4 = 39 + 4 * (k + 1) + 1 by omega, q1]; simp [grm, p]
            · rw [show 39 + 4 * k + 2 = 39 + 4 * q + (4 * k - 4 * q + 2) by omega, hmid _ (by omega), show 39 + 4 * q + (4 * k - 4 * q + 2) + 4 = 39 + 4 * (k + 1) + 2 by omega, q2]; simp [grm, p]
            · rw [show 39 + 4 * k + 3 = 39 + 4 * q + (4 * k - 4 * q + 3) by omega, hmid _ (by omega), show 39 + 4 * q + (4 * k - 4 * q + 3) + 4 = 39 + 4 * (k + 1) + 3 by omega, q3]; simp [srm, p]
            · simpa [grm, p] using q4
            · simpa [srm, p] using q5
        have hTn : TMv (w1 46) (wN W) (wF W) := TMv_c hT2 (fun k h => hlo k (by omega) (by omega))
        unfold op21
        rw [cif_t (by omega), ← hc, ← hq]
        exact ⟨_, rfl, by rw [h8]; show _ = ((c - 1 : Nat) : Int); omega, PMW_S hR (S := dS W (wA W) (c - 1) (grm (wG W) q) (srm (wS W) q)) ⟨hTn, hnew⟩ (fun c k z => hf _ _ (by omega)), fun c k z => by rw [hf _ _ (by omega)]; exact fR _ _ (by omega) (by omega)⟩
      · refine go_aload_n (j := 0) (q := 49) rfl rfl dX7_removeCrossing_48 rfl ?_
        refine go_getR (C0 := RX7) (T := TX7) (N := 16) (ci := 7) (i := 0) (q := 52) rfl igX7 (by first | assumption | rfl) (by decide) fl_X7_7 rfl dX7_removeCrossing_49 rfl ?_
        refine go_iload_n (j := 2) (q := 53) rfl rfl dX7_removeCrossing_52 rfl ?_
        refine go_aload_n (j := 0) (q := 54) rfl rfl dX7_removeCrossing_53 rfl ?_
        refine go_getR (C0 := RX7) (T := TX7) (N := 16) (ci := 7) (i := 0) (q := 57) rfl igX7 (by first | assumption | rfl) (by decide) fl_X7_7 rfl dX7_removeCrossing_54 rfl ?_
        refine go_iload_n (j := 2) (q := 58) rfl rfl dX7_removeCrossing_57 rfl ?_
        refine go_iconst (q := 59) dX7_removeCrossing_58 rfl ?_
        refine go_iadd (q := 60) dX7_removeCrossing_59 rfl ?_
        refine go_iald (j := 39 + 4 * q + j + 4) (q := 61) (by first | assumption | rfl) (wr_eq (by omega)) (by omega) dX7_removeCrossing_60 rfl ?_
        refine go_iast (j := 39 + 4 * q + j) (q := 62) (by first | assumption | rfl) (wr_eq (by omega)) (by omega) dX7_removeCrossing_61 rfl ?_
        refine go_iinc (j := 2) (q := 65) (ls2 := [_, _, _]) rfl (by decide) rfl rfl dX7_removeCrossing_62 rfl ?_
        refine go_goto (q := 32) dX7_removeCrossing_65 (by decide) ?_
        exact ih32 _ (by omega) (j + 1) _ _ (by omega) (by omega) (by rw [mup_ne (by omega)]; exact h8) (fun k h h2 => by rw [mup_ne (by omega)]; exact hlo k h h2) (by
          intro i h
          by_cases z : i = j
          · subst z; rw [mup_eq, hhi _ (by omega)]
          · rw [mup_ne (by omega)]; exact hmid i (by omega)) (fun k h => by rw [mup_ne (by omega)]; exact hhi k (by omega)) (fun c k h => by rw [mup_ne (Or.inl h)]; exact hf c k h) rfl
    exact lp32 _ 0 _ _ (by omega) (by omega) (by rw [mup_eq, k38]) (fun k h h2 => mup_ne (Or.inr h)) (fun i h => absurd h (Nat.not_lt_zero i)) (fun k h => mup_ne (by omega)) (fun c k h => mup_ne (Or.inl h)) rfl
  · obtain ⟨rfl, h2⟩ := h2
    refine go_if_neF (q := 8) (t := 10) dX7_removeCrossing_5 rfl (by decide) (by decide) ?_
    refine go_iconst (q := 9) dX7_removeCrossing_8 rfl ?_
    refine go_iret dX7_removeCrossing_9 ?_
    subst hK
    unfold op21
    rw [cif_f (by omega)]
    exact ⟨_, rfl, rfl, hP, fun c k _ => rfl⟩
theorem DMv_arc {v v1 : Nat → Int} {a b c : Nat} {g : Nat → Nat → Nat} {s : Nat → Int} (h : DMv v a c g s) (hb : a ≤ b ∧ b ≤ 7) (h7 : v1 37 = b) (he : ∀ k, 37 < k → v1 k = v k) : DMv v1 b c g s := by
  obtain ⟨h0, h1, ha, hg⟩ := h
  refine ⟨h7, by rw [he _ (by omega)]; exact h1, ⟨by omega, ha.2⟩, fun k hk => ?_⟩
  obtain ⟨⟨q0, q1, q2, q3⟩, q4, q5⟩ := hg k hk
  exact ⟨⟨by rw [he _ (by omega)]; exact q0, by rw [he _ (by omega)]; exact q1, by rw [he _ (by omega)]; exact q2, by rw [he _ (by omega)]; exact q3⟩, by omega, q5⟩
theorem em22 (hP : PMW w W) {x v : Int} (hx : rng x) (hv : rng v) : eX7_kink l D ck ad shA [vR 45, vI x, vI v] w (Pi (MR w (op22 W x v))) := by
  have hD : DMv (w 46) (wA W) (wC W) (wG W) (wS W) := hP.1.2
  have hb := hD.2.2.1
  have g37 := hD.1
  have g38 := hD.2.1
  refine ev_of_goK (own := RX7) (ls := [some (vR 45), some (vI x), some (vI v), none]) (by decide +kernel) rfl rfl (Nat.le_of_ble_eq_true rfl) rkI ?_
  intro K hK
  refine go_aload_n (j := 0) (q := 1) rfl rfl dX7_kink_0 rfl ?_
  refine go_iload_n (j := 1) (q := 2) rfl rfl dX7_kink_1 rfl ?_
  refine go_callVz (as := [_, _]) (As := [_]) (rest := []) (n := 1) (q := 5) dX7_kink_2 lk_X7_144 (ci := 7) (N := 16) (T := TX7) rfl (by first | assumption | rfl) rfl rfl (by decide +kernel) rfl ⟨by decide, by decide⟩ ⟨rfl, rfl⟩ (Nat.le_of_ble_eq_true rfl) (em_isArc hD hx) rfl (fun w2 h2 => ?_) (fun w2 h2 => ?_)
  · obtain ⟨rfl, h2⟩ := h2
    refine go_if_neT (t := 10) dX7_kink_5 (by decide) (by decide) ?_
    refine go_iload_n (j := 2) (q := 11) rfl rfl dX7_kink_10 rfl ?_
    refine go_callSz (as := [_]) (rest := []) (n := 1) (q := 14) dX7_kink_11 lk_X7_147 rfl (by decide +kernel) rfl ⟨by decide, by decide⟩ ⟨rfl, rfl⟩ (Nat.le_of_ble_eq_true rfl) (em_isSign hv) rfl (fun w11 h11 => ?_) (fun w11 h11 => ?_)
    · obtain ⟨rfl, h11⟩ := h11
      refine go_if_neT (t := 20) dX7_kink_14 (by decide) (by decide) ?_
      refine go_aload_n (j := 0) (q := 21) rfl rfl dX7_kink_20 rfl ?_
      refine go_getR (C0 := RX7) (T := TX7) (N := 16) (ci := 7) (i := 0) (q := 24) rfl igX7 (by first | assumption | rfl) (by decide) fl_X7_7 rfl dX7_kink_21 rfl ?_
      refine go_bipush (q := 26) rfl dX7_kink_24 rfl ?_
      refine go_iald (j := 37) (q := 27) (by first | assumption | rfl) (wr_eq (by omega)) (by omega) dX7_kink_26 rfl ?_
      refine go_bipush (q := 29) rfl dX7_kink_27 rfl ?_
      refine go_icmp_eq2 (q := 32) (t := 44) dX7_kink_29 (by decide) rfl (by omega) (fun c29 => ?_) (fun c29 => ?_)
      · refine go_bipush (q := 46) rfl dX7_kink_44 rfl ?_
        refine go_iret dX7_kink_46 ?_
        subst hK
        unfold op22
        rw [cif_t (by omega)]
        rw [cif_t (by omega)]
        rw [cif_f (by omega)]
        exact ⟨_, rfl, rfl, hP, fun c k _ => rfl⟩
      · refine go_aload_n (j := 0) (q := 33) rfl rfl dX7_kink_32 rfl ?_
        refine go_getR (C0 := RX7) (T := TX7) (N := 16) (ci := 7) (i := 0) (q := 36) rfl igX7 (by first | assumption | rfl) (by decide) fl_X7_7 rfl dX7_kink_33 rfl ?_
        refine go_bipush (q := 38) rfl dX7_kink_36 rfl ?_
        refine go_iald (j := 38) (q := 39) (by first | assumption | rfl) (wr_eq (by omega)) (by omega) dX7_kink_38 rfl ?_
        refine go_bipush (q := 41) rfl dX7_kink_39 rfl ?_
        refine go_icmp_ne2 (q := 44) (t := 47) dX7_kink_41 (by decide) rfl (by omega) (fun c41 => ?_) (fun c41 => ?_)
        · refine go_aload_n (j := 0) (q := 48) rfl rfl dX7_kink_47 rfl ?_
          refine go_callVv (as := [_]) (As := []) (rest := []) (n := 0) (q := 51) dX7_kink_48 lk_X7_39 (ci := 7) (N := 16) (T := TX7) rfl (by first | assumption | rfl) rfl rfl (by decide +kernel) rfl ⟨by decide, by decide⟩ ⟨rfl, rfl⟩ (Nat.le_of_ble_eq_true rfl) (em_record hP) rfl (fun w48 h48 => ?_)
          obtain ⟨hR, fR⟩ := h48
          have hD2 : DMv (w48 46) (wA W) (wC W) (wG W) (wS W) := hR.1.2
          have hT2 : TMv (w48 46) (wN W) (wF W) := hR.1.1
          have k37 := hD2.1
          have k38 := hD2.2.1
          refine go_aload_n (j := 0) (q := 52) rfl rfl dX7_kink_51 rfl ?_
          refine go_getR (C0 := RX7) (T := TX7) (N := 16) (ci := 7) (i := 0) (q := 55) rfl igX7 (by first | assumption | rfl) (by decide) fl_X7_7 rfl dX7_kink_52 rfl ?_
          refine go_bipush (q := 57) rfl dX7_kink_55 rfl ?_
          refine go_iald (j := 37) (q := 58) (by first | assumption | rfl) (wr_eq (by omega)) (by omega) dX7_kink_57 rfl ?_
          refine go_istore_n (j := 3) (q := 59) (ls2 := [_, _, _, _]) rfl (by decide) rfl rfl dX7_kink_58 rfl ?_
          refine go_aload_n (j := 0) (q := 60) rfl rfl dX7_kink_59 rfl ?_
          refine go_getR (C0 := RX7) (T := TX7) (N := 16) (ci := 7) (i := 0) (q := 63) rfl igX7 (by first | assumption | rfl) (by decide) fl_X7_7 rfl dX7_kink_60 rfl ?_
          refine go_bipush (q := 65) rfl dX7_kink_63 rfl ?_
          refine go_dup2 (q := 66) (fun _ z => by cases z) (fun _ z => by cases z) dX7_kink_65 rfl ?_
          refine go_iald (j := 37) (q := 67) (by first | assumption | rfl) (wr_eq (by omega)) (by omega) dX7_kink_66 rfl ?_
          refine go_iconst (q := 68) dX7_kink_67 rfl ?_
          refine go_iadd (q := 69) dX7_kink_68 rfl ?_
          refine go_iast (j := 37) (q := 70) (by first | assumption | rfl) (wr_eq (by omega)) (by omega) dX7_kink_69 rfl ?_
          obtain ⟨w3, hw3⟩ : ∃ w3, w3 = mup w48 46 37 (w48 46 37 + 1) := ⟨_, rfl⟩
          rw [← hw3]
          have hD3 : DMv (w3 46) (wA W + 1) (wC W) (wG W) (wS W) := DMv_arc hD2 (by omega) (by rw [hw3, mup_eq]; omega) (fun k h => by rw [hw3, mup_ne (by omega)])
          have hT3 : TMv (w3 46) (wN W) (wF W) := TMv_c hT2 (fun k h => by rw [hw3, mup_ne (by omega)])
          have hF3 : ∀ c k, c ≠ 46 → w3 c k = w48 c k := fun c k h => by rw [hw3, mup_ne (Or.inl h)]
          refine go_aload_n (j := 0) (q := 71) rfl rfl dX7_kink_70 rfl ?_
          refine go_iload_n (j := 1) (q := 72) rfl rfl dX7_kink_71 rfl ?_
          refine go_iload_n (j := 3) (q := 73) rfl rfl dX7_kink_72 rfl ?_
          refine go_callVv (as := [_, _, _]) (As := [_, _]) (rest := []) (n := 2) (q := 76) dX7_kink_73 lk_X7_156 (ci := 7) (N := 16) (T := TX7) rfl (by first | assumption | rfl) rfl rfl (by decide +kernel) rfl ⟨by decide, by decide⟩ ⟨rfl, rfl⟩ (Nat.le_of_ble_eq_true rfl) (em_moves hD3 (x := x.toNat) (y := wA W) (by omega) k37 (by omega)) rfl (fun w73 h73 => ?_)
          obtain ⟨h73, t73, f73⟩ := h73
          refine go_aload_n (j := 0) (q := 77) rfl rfl dX7_kink_76 rfl ?_
          refine go_iload_n (j := 1) (q := 78) rfl rfl dX7_kink_77 rfl ?_
          refine go_iload_n (j := 1) (q := 79) rfl rfl dX7_kink_78 rfl ?_
          refine go_iload_n (j := 3) (q := 80) rfl rfl dX7_kink_79 rfl ?_
          refine go_iload_n (j := 2) (q := 81) rfl rfl dX7_kink_80 rfl ?_
          refine go_callVv (as := [_, _, _, _, _]) (As := [_, _, _, _]) (rest := []) (n := 4) (q := 84) dX7_kink_81 lk_X7_140 (ci := 7) (N := 16) (T := TX7) rfl (by first | assumption | rfl) rfl rfl (by decide +kernel) rfl ⟨by decide, by decide⟩ ⟨rfl, rfl⟩ (Nat.le_of_ble_eq_true rfl) (em_adds h73 (by omega) (by omega) (by omega)) rfl (fun w81 h81 => ?_)
          obtain ⟨h81, t81, f81⟩ := h81
          rw [k37, Int.toNat_natCast] at h81
          have F81 : ∀ c k, c ≠ 46 → w81 c k = w48 c k := fun c k h => by rw [f81 c k h, f73 c k h]; exact hF3 c k h
          refine go_iload_n (j := 3) (q := 85) rfl rfl dX7_kink_84 rfl ?_
          refine go_iret dX7_kink_85 ?_
          subst hK
          unfold op22
          rw [cif_t (by omega)]
          rw [cif_t (by omega)]
          rw [cif_t (by omega)]
          exact ⟨_, rfl, k37, PMW_S hR (S := dS W _ _ _ _) ⟨TMv_c (TMv_c hT3 t73) t81, h81⟩ (fun c k z => F81 _ _ (by omega)), fun c k z => by rw [F81 _ _ (by omega)]; exact fR _ _ (by omega) (by omega)⟩
        · refine go_bipush (q := 46) rfl dX7_kink_44 rfl ?_
          refine go_iret dX7_kink_46 ?_
          subst hK
          unfold op22
          rw [cif_t (by omega)]
          rw [cif_t (by omega)]
          rw [cif_f (by omega)]
          exact ⟨_, rfl, rfl, hP, fun c k _ => rfl⟩
    · obtain ⟨rfl, h11⟩ := h11
      refine go_if_neF (q := 17) (t := 20) dX7_kink_14 rfl (by decide) (by decide) ?_
      refine go_bipush (q := 19) rfl dX7_kink_17 rfl ?_
      refine go_iret dX7_kink_19 ?_
      subst hK
      unfold op22
      rw [cif_t (by omega)]
      rw [cif_f (by omega)]
      exact ⟨_, rfl, rfl, hP, fun c k _ => rfl⟩
  · obtain ⟨rfl, h2⟩ := h2
    refine go_if_neF (q := 8) (t := 10) dX7_kink_5 rfl (by decide) (by decide) ?_
    refine go_iconst (q := 9) dX7_kink_8 rfl ?_
    refine go_iret dX7_kink_9 ?_
    subst hK
    unfold op22
    rw [cif_f (by omega)]
    exact ⟨_, rfl, rfl, hP, fun c k _ => rfl⟩
theorem em23 (hP : PMW w W) {x y : Int} (hx : rng x) (hy : rng y) : eX7_poke l D ck ad shA [vR 45, vI x, vI y] w (Pi (MR w (op23 W x y))) := by
  have hD : DMv (w 46) (wA W) (wC W) (wG W) (wS W) := hP.1.2
  have hb := hD.2.2.1
  have g37 := hD.1
  have g38 := hD.2.1
  refine ev_of_goK (own := RX7) (ls := [some (vR 45), some (vI x), some (vI y), none]) (by decide +kernel) rfl rfl (Nat.le_of_ble_eq_true rfl) rkI ?_
  intro K hK
  refine go_aload_n (j := 0) (q := 1) rfl rfl dX7_poke_0 rfl ?_
  refine go_iload_n (j := 1) (q := 2) rfl rfl dX7_poke_1 rfl ?_
  refine go_callVz (as := [_, _]) (As := [_]) (rest := []) (n := 1) (q := 5) dX7_poke_2 lk_X7_144 (ci := 7) (N := 16) (T := TX7) rfl (by first | assumption | rfl) rfl rfl (by decide +kernel) rfl ⟨by decide, by decide⟩ ⟨rfl, rfl⟩ (Nat.le_of_ble_eq_true rfl) (em_isArc hD hx) rfl (fun w2 h2 => ?_) (fun w2 h2 => ?_)
  · obtain ⟨rfl, h2⟩ := h2
    refine go_if_eqF (q := 8) (t := 16) dX7_poke_5 rfl (by decide) (by decide) ?_
    refine go_aload_n (j := 0) (q := 9) rfl rfl dX7_poke_8 rfl ?_
    refine go_iload_n (j := 2) (q := 10) rfl rfl dX7_poke_9 rfl ?_
    refine go_callVz (as := [_, _]) (As := [_]) (rest := []) (n := 1) (q := 13) dX7_poke_10 lk_X7_144 (ci := 7) (N := 16) (T := TX7) rfl (by first | assumption | rfl) rfl rfl (by decide +kernel) rfl ⟨by decide, by decide⟩ ⟨rfl, rfl⟩ (Nat.le_of_ble_eq_true rfl) (em_isArc hD hy) rfl (fun w10 h10 => ?_) (fun w10 h10 => ?_)
    · obtain ⟨rfl, h10⟩ := h10
      refine go_if_neT (t := 18) dX7_poke_13 (by decide) (by decide) ?_
      refine go_aload_n (j := 0) (q := 19) rfl rfl dX7_poke_18 rfl ?_
      refine go_getR (C0 := RX7) (T := TX7) (N := 16) (ci := 7) (i := 0) (q := 22) rfl igX7 (by first | assumption | rfl) (by decide) fl_X7_7 rfl dX7_poke_19 rfl ?_
      refine go_bipush (q := 24) rfl dX7_poke_22 rfl ?_
      refine go_iald (j := 37) (q := 25) (by first | assumption | rfl) (wr_eq (by omega)) (by omega) dX7_poke_24 rfl ?_
      refine go_iconst (q := 26) dX7_poke_25 rfl ?_
      refine go_icmp_gt2 (q := 29) (t := 41) dX7_poke_26 (by decide) rfl (by omega) (fun c26 => ?_) (fun c26 => ?_)
      · refine go_bipush (q := 43) rfl dX7_poke_41 rfl ?_
        refine go_iret dX7_poke_43 ?_
        subst hK
        unfold op23
        rw [cif_t (by omega)]
        rw [cif_f (by omega)]
        exact ⟨_, rfl, rfl, hP, fun c k _ => rfl⟩
      · refine go_aload_n (j := 0) (q := 30) rfl rfl dX7_poke_29 rfl ?_
        refine go_getR (C0 := RX7) (T := TX7) (N := 16) (ci := 7) (i := 0) (q := 33) rfl igX7 (by first | assumption | rfl) (by decide) fl_X7_7 rfl dX7_poke_30 rfl ?_
        refine go_bipush (q := 35) rfl dX7_poke_33 rfl ?_
        refine go_iald (j := 38) (q := 36) (by first | assumption | rfl) (wr_eq (by omega)) (by omega) dX7_poke_35 rfl ?_
        refine go_bipush (q := 38) rfl dX7_poke_36 rfl ?_
        refine go_icmp_le2 (q := 41) (t := 44) dX7_poke_38 (by decide) rfl (by omega) (fun c38 => ?_) (fun c38 => ?_)
        · refine go_aload_n (j := 0) (q := 45) rfl rfl dX7_poke_44 rfl ?_
          refine go_callVv (as := [_]) (As := []) (rest := []) (n := 0) (q := 48) dX7_poke_45 lk_X7_39 (ci := 7) (N := 16) (T := TX7) rfl (by first | assumption | rfl) rfl rfl (by decide +kernel) rfl ⟨by decide, by decide⟩ ⟨rfl, rfl⟩ (Nat.le_of_ble_eq_true rfl) (em_record hP) rfl (fun w45 h45 => ?_)
          obtain ⟨hR, fR⟩ := h45
          have hD2 : DMv (w45 46) (wA W) (wC W) (wG W) (wS W) := hR.1.2
          have hT2 : TMv (w45 46) (wN W) (wF W) := hR.1.1
          have k37 := hD2.1
          have k38 := hD2.2.1
          refine go_aload_n (j := 0) (q := 49) rfl rfl dX7_poke_48 rfl ?_
          refine go_getR (C0 := RX7) (T := TX7) (N := 16) (ci := 7) (i := 0) (q := 52) rfl igX7 (by first | assumption | rfl) (by decide) fl_X7_7 rfl dX7_poke_49 rfl ?_
          refine go_bipush (q := 54) rfl dX7_poke_52 rfl ?_
          refine go_iald (j := 37) (q := 55) (by first | assumption | rfl) (wr_eq (by omega)) (by omega) dX7_poke_54 rfl ?_
          refine go_istore_n (j := 3) (q := 56) (ls2 := [_, _, _, _]) rfl (by decide) rfl rfl dX7_poke_55 rfl ?_
          refine go_aload_n (j := 0) (q := 57) rfl rfl dX7_poke_56 rfl ?_
          refine go_getR (C0 := RX7) (T := TX7) (N := 16) (ci := 7) (i := 0) (q := 60) rfl igX7 (by first | assumption | rfl) (by decide) fl_X7_7 rfl dX7_poke_57 rfl ?_
          refine go_bipush (q := 62) rfl dX7_poke_60 rfl ?_
          refine go_dup2 (q := 63) (fun _ z => by cases z) (fun _ z => by cases z) dX7_poke_62 rfl ?_
          refine go_iald (j := 37) (q := 64) (by first | assumption | rfl) (wr_eq (by omega)) (by omega) dX7_poke_63 rfl ?_
          refine go_iconst (q := 65) dX7_poke_64 rfl ?_
          refine go_iadd (q := 66) dX7_poke_65 rfl ?_
          refine go_iast (j := 37) (q := 67) (by first | assumption | rfl) (wr_eq (by omega)) (by omega) dX7_poke_66 rfl ?_
          obtain ⟨w3, hw3⟩ : ∃ w3, w3 = mup w45 46 37 (w45 46 37 + 2) := ⟨_, rfl⟩
          rw [← hw3]
          have hD3 : DMv (w3 46) (wA W + 2) (wC W) (wG W) (wS W) := DMv_arc hD2 (by omega) (by rw [hw3, mup_eq]; omega) (fun k h => by rw [hw3, mup_ne (by omega)])
          have hT3 : TMv (w3 46) (wN W) (wF W) := TMv_c hT2 (fun k h => by rw [hw3, mup_ne (by omega)])
          have hF3 : ∀ c k, c ≠ 46 → w3 c k = w45 c k := fun c k h => by rw [hw3, mup_ne (Or.inl h)]
          refine go_aload_n (j := 0) (q := 68) rfl rfl dX7_poke_67 rfl ?_
          refine go_iload_n (j := 1) (q := 69) rfl rfl dX7_poke_68 rfl ?_
          refine go_iload_n (j := 3) (q := 70) rfl rfl dX7_poke_69 rfl ?_
          refine go_iconst (q := 71) dX7_poke_70 rfl ?_
          refine go_iadd (q := 72) dX7_poke_71 rfl ?_
          refine go_callVv (as := [_, _, _]) (As := [_, _]) (rest := []) (n := 2) (q := 75) dX7_poke_72 lk_X7_156 (ci := 7) (N := 16) (T := TX7) rfl (by first | assumption | rfl) rfl rfl (by decide +kernel) rfl ⟨by decide, by decide⟩ ⟨rfl, rfl⟩ (Nat.le_of_ble_eq_true rfl) (em_moves hD3 (x := x.toNat) (y := wA W + 1) (by omega) (by omega) (by omega)) rfl (fun w72 h72 => ?_)
          obtain ⟨h72, t72, f72⟩ := h72
          refine go_aload_n (j := 0) (q := 76) rfl rfl dX7_poke_75 rfl ?_
          refine go_iload_n (j := 2) (q := 77) rfl rfl dX7_poke_76 rfl ?_
          refine go_iload_n (j := 1) (q := 78) rfl rfl dX7_poke_77 rfl ?_
          refine go_iload_n (j := 3) (q := 79) rfl rfl dX7_poke_78 rfl ?_
          refine go_iconst (q := 80) dX7_poke_79 rfl ?_
          refine go_callVv (as := [_, _, _, _, _]) (As := [_, _, _, _]) (rest := []) (n := 4) (q := 83) dX7_poke_80 lk_X7_140 (ci := 7) (N := 16) (T := TX7) rfl (by first | assumption | rfl) rfl rfl (by decide +kernel) rfl ⟨by decide, by decide⟩ ⟨rfl, rfl⟩ (Nat.le_of_ble_eq_true rfl) (em_adds h72 (by omega) (by omega) (by omega)) rfl (fun w80 h80 => ?_)
          obtain ⟨h80, t80, f80⟩ := h80
          rw [k37, Int.toNat_natCast] at h80
          refine go_aload_n (j := 0) (q := 84) rfl rfl dX7_poke_83 rfl ?_
          refine go_iload_n (j := 2) (q := 85) rfl rfl dX7_poke_84 rfl ?_
          refine go_iload_n (j := 3) (q := 86) rfl rfl dX7_poke_85 rfl ?_
          refine go_iload_n (j := 3) (q := 87) rfl rfl dX7_poke_86 rfl ?_
          refine go_iconst (q := 88) dX7_poke_87 rfl ?_
          refine go_iadd (q := 89) dX7_poke_88 rfl ?_
          refine go_iconst (q := 90) dX7_poke_89 rfl ?_
          refine go_callVv (as := [_, _, _, _, _]) (As := [_, _, _, _]) (rest := []) (n := 4) (q := 93) dX7_poke_90 lk_X7_140 (ci := 7) (N := 16) (T := TX7) rfl (by first | assumption | rfl) rfl rfl (by decide +kernel) rfl ⟨by decide, by decide⟩ ⟨rfl, rfl⟩ (Nat.le_of_ble_eq_true rfl) (em_adds h80 (by omega) (by omega) (by omega)) rfl (fun w90 h90 => ?_)
          obtain ⟨h90, t90, f90⟩ := h90
          rw [k37, Int.toNat_natCast, show ((wA W : Int) + 1).toNat = wA W + 1 by omega] at h90
          have F90 : ∀ c k, c ≠ 46 → w90 c k = w45 c k := fun c k h => by rw [f90 c k h, f80 c k h, f72 c k h]; exact hF3 c k h
          refine go_aload_n (j := 0) (q := 94) rfl rfl dX7_poke_93 rfl ?_
          refine go_getR (C0 := RX7) (T := TX7) (N := 16) (ci := 7) (i := 0) (q := 97) rfl igX7 (by first | assumption | rfl) (by decide) fl_X7_7 rfl dX7_poke_94 rfl ?_
          refine go_bipush (q := 99) rfl dX7_poke_97 rfl ?_
          refine go_iald (j := 37) (q := 100) (by first | assumption | rfl) (wr_eq (by omega)) (by omega) dX7_poke_99 rfl ?_
          refine go_iret dX7_poke_100 ?_
          subst hK
          unfold op23
          rw [cif_t (by omega)]
          rw [cif_t (by omega)]
          exact ⟨_, rfl, h90.1, PMW_S hR (S := dS W _ _ _ _) ⟨TMv_c (TMv_c (TMv_c hT3 t72) t80) t90, h90⟩ (fun c k z => F90 _ _ (by omega)), fun c k z => by rw [F90 _ _ (by omega)]; exact fR _ _ (by omega) (by omega)⟩
        · refine go_bipush (q := 43) rfl dX7_poke_41 rfl ?_
          refine go_iret dX7_poke_43 ?_
          subst hK
          unfold op23
          rw [cif_t (by omega)]
          rw [cif_f (by omega)]
          exact ⟨_, rfl, rfl, hP, fun c k _ => rfl⟩
    · obtain ⟨rfl, h10⟩ := h10
      refine go_if_neF (q := 16) (t := 18) dX7_poke_13 rfl (by decide) (by decide) ?_
      refine go_iconst (q := 17) dX7_poke_16 rfl ?_
      refine go_iret dX7_poke_17 ?_
      subst hK
      unfold op23
      rw [cif_f (by omega)]
      exact ⟨_, rfl, rfl, hP, fun c k _ => rfl⟩
  · obtain ⟨rfl, h2⟩ := h2
    refine go_if_eqT (t := 16) dX7_poke_5 (by decide) (by decide) ?_
    refine go_iconst (q := 17) dX7_poke_16 rfl ?_
    refine go_iret dX7_poke_17 ?_
    subst hK
    unfold op23
    rw [cif_f (by omega)]
    exact ⟨_, rfl, rfl, hP, fun c k _ => rfl⟩
theorem em24 (hP : PMW w W) : eX7_arcs l D ck ad shA [vR 45] w (Pi (MR w (op24 W))) := by
  have hD : DMv (w 46) (wA W) (wC W) (wG W) (wS W) := hP.1.2
  have hb := hD.2.2.1
  have g37 := hD.1
  have g38 := hD.2.1
  refine ev_of_goK (own := RX7) (ls := [some (vR 45)]) (by decide +kernel) rfl rfl (Nat.le_of_ble_eq_true rfl) rkI ?_
  intro K hK
  refine go_aload_n (j := 0) (q := 1) rfl rfl dX7_arcs_0 rfl ?_
  refine go_getR (C0 := RX7) (T := TX7) (N := 16) (ci := 7) (i := 0) (q := 4) rfl igX7 (by first | assumption | rfl) (by decide) fl_X7_7 rfl dX7_arcs_1 rfl ?_
  refine go_bipush (q := 6) rfl dX7_arcs_4 rfl ?_
  refine go_iald (j := 37) (q := 7) (by first | assumption | rfl) (wr_eq (by omega)) (by omega) dX7_arcs_6 rfl ?_
  refine go_iret dX7_arcs_7 ?_
  subst hK; exact ⟨_, rfl, hD.1, hP, fun c k _ => rfl⟩
theorem em25 (hP : PMW w W) : eX7_crossings l D ck ad shA [vR 45] w (Pi (MR w (op25 W))) := by
  have hD : DMv (w 46) (wA W) (wC W) (wG W) (wS W) := hP.1.2
  have hb := hD.2.2.1
  have g37 := hD.1
  have g38 := hD.2.1
  refine ev_of_goK (own := RX7) (ls := [some (vR 45)]) (by decide +kernel) rfl rfl (Nat.le_of_ble_eq_true rfl) rkI ?_
  intro K hK
  refine go_aload_n (j := 0) (q := 1) rfl rfl dX7_crossings_0 rfl ?_
  refine go_getR (C0 := RX7) (T := TX7) (N := 16) (ci := 7) (i := 0) (q := 4) rfl igX7 (by first | assumption | rfl) (by decide) fl_X7_7 rfl dX7_crossings_1 rfl ?_
  refine go_bipush (q := 6) rfl dX7_crossings_4 rfl ?_
  refine go_iald (j := 38) (q := 7) (by first | assumption | rfl) (wr_eq (by omega)) (by omega) dX7_crossings_6 rfl ?_
  refine go_iret dX7_crossings_7 ?_
  subst hK; exact ⟨_, rfl, hD.2.1, hP, fun c k _ => rfl⟩
theorem em26 (hP : PMW w W) {x p : Int} (hx : rng x) (hp : rng p) : eX7_crossing l D ck ad shA [vR 45, vI x, vI p] w (Pi (MR w (op26 W x p))) := by
  have hD : DMv (w 46) (wA W) (wC W) (wG W) (wS W) := hP.1.2
  have hb := hD.2.2.1
  have g37 := hD.1
  have g38 := hD.2.1
  refine ev_of_goK (own := RX7) (ls := [some (vR 45), some (vI x), some (vI p)]) (by decide +kernel) rfl rfl (Nat.le_of_ble_eq_true rfl) rkI ?_
  intro K hK
  refine go_aload_n (j := 0) (q := 1) rfl rfl dX7_crossing_0 rfl ?_
  refine go_iload_n (j := 1) (q := 2) rfl rfl dX7_crossing_1 rfl ?_
  refine go_callVz (as := [_, _]) (As := [_]) (rest := []) (n := 1) (q := 5) dX7_crossing_2 lk_X7_150 (ci := 7) (N := 16) (T := TX7) rfl (by first | assumption | rfl) rfl rfl (by decide +kernel) rfl ⟨by decide, by decide⟩ ⟨rfl, rfl⟩ (Nat.le_of_ble_eq_true rfl) (em_isCrossing hD hx) rfl (fun w2 h2 => ?_) (fun w2 h2 => ?_)
  · obtain ⟨rfl, h2⟩ := h2
    refine go_if_neT (t := 10) dX7_crossing_5 (by decide) (by decide) ?_
    refine go_iload_n (j := 2) (q := 11) rfl rfl dX7_crossing_10 rfl ?_
    refine go_iconst (q := 12) dX7_crossing_11 rfl ?_
    refine go_iconst (q := 13) dX7_crossing_12 rfl ?_
    refine go_callSz (as := [_, _, _]) (rest := []) (n := 3) (q := 16) dX7_crossing_13 lk_X7_35 rfl (by decide +kernel) rfl ⟨by decide, by decide⟩ ⟨rfl, rfl⟩ (Nat.le_of_ble_eq_true rfl) (em_within (by omega)) rfl (fun w13 h13 => ?_) (fun w13 h13 => ?_)
    · obtain ⟨rfl, h13⟩ := h13
      refine go_if_eqF (q := 19) (t := 28) dX7_crossing_16 rfl (by decide) (by decide) ?_
      refine go_aload_n (j := 0) (q := 20) rfl rfl dX7_crossing_19 rfl ?_
      refine go_iload_n (j := 1) (q := 21) rfl rfl dX7_crossing_20 rfl ?_
      refine go_iload_n (j := 2) (q := 22) rfl rfl dX7_crossing_21 rfl ?_
      refine go_callVi (as := [_, _, _]) (As := [_, _]) (rest := []) (n := 2) (q := 25) dX7_crossing_22 lk_X7_153 (ci := 7) (N := 16) (T := TX7) rfl (by first | assumption | rfl) rfl rfl (by decide +kernel) rfl ⟨by decide, by decide⟩ ⟨rfl, rfl⟩ (Nat.le_of_ble_eq_true rfl) (em_crossingPart (k := x.toNat) (p := p.toNat) (by omega) (by omega) (by omega)) rfl (fun x22 w22 h22 => ?_)
      obtain ⟨rfl, rfl⟩ := h22
      refine go_goto (q := 30) dX7_crossing_25 (by decide) ?_
      refine go_iret dX7_crossing_30 ?_
      subst hK
      unfold op26
      rw [cif_t (by omega)]
      first
      | (rw [cif_t (by omega)]; exact ⟨_, rfl, prt_m hD (by omega) (by omega), hP, fun c k _ => rfl⟩)
      | (rw [cif_f (by omega)]; exact ⟨_, rfl, rfl, hP, fun c k _ => rfl⟩)
    · obtain ⟨rfl, h13⟩ := h13
      refine go_if_eqT (t := 28) dX7_crossing_16 (by decide) (by decide) ?_
      refine go_bipush (q := 30) rfl dX7_crossing_28 rfl ?_
      refine go_iret dX7_crossing_30 ?_
      subst hK
      unfold op26
      rw [cif_t (by omega)]
      first
      | (rw [cif_t (by omega)]; exact ⟨_, rfl, prt_m hD (by omega) (by omega), hP, fun c k _ => rfl⟩)
      | (rw [cif_f (by omega)]; exact ⟨_, rfl, rfl, hP, fun c k _ => rfl⟩)
  · obtain ⟨rfl, h2⟩ := h2
    refine go_if_neF (q := 8) (t := 10) dX7_crossing_5 rfl (by decide) (by decide) ?_
    refine go_iconst (q := 9) dX7_crossing_8 rfl ?_
    refine go_iret dX7_crossing_9 ?_
    subst hK
    unfold op26
    rw [cif_f (by omega)]
    exact ⟨_, rfl, rfl, hP, fun c k _ => rfl⟩
theorem em_isClosed (hD : DMv (w 46) a c g s) : eX7_isClosed l D ck ad shA [vR 45] w (Pz (fun w1 => w = w1 ∧ closedD a c g) (fun w1 => w = w1 ∧ ¬ closedD a c g)) := by
  obtain ⟨h0, h1, ha, hg⟩ := hD
  refine ev_of_goK (own := RX7) (ls := [some (vR 45), none, none, none, none, none]) (by decide +kernel) rfl rfl (Nat.le_of_ble_eq_true rfl) rkZ ?_
  intro K hK
  refine go_iconst (q := 1) dX7_isClosed_0 rfl ?_
  refine go_istore_n (j := 1) (q := 2) (ls2 := [_, _, _, _, _, _]) rfl (by decide) rfl rfl dX7_isClosed_1 rfl ?_
  refine go_iconst (q := 3) dX7_isClosed_2 rfl ?_
  refine go_istore_n (j := 2) (q := 4) (ls2 := [_, _, _, _, _, _]) rfl (by decide) rfl rfl dX7_isClosed_3 rfl ?_
  have lp4 : ∀ (m4 : Nat) (x : Nat) (xi bi : Int) (u v t : Option MV) (ex : xi = x) (hx : x ≤ a) (hB : (bi = 1 ∧ ∀ j, j < x → cAs g 1 j c ≤ 1 ∧ cAs g 1 j c = cAs g 2 j c) ∨ (bi = 0 ∧ ¬ closedD a c g)), m4 = a - x → gX7_isClosed l D ck ad shA 4 [some (vR 45), some (vI bi), some (vI xi), u, v, t] [] w K := by
    intro m4
    induction m4 using Nat.strongRecOn with
    | _ m4 ih4 =>
    intro x xi bi u v t ex hx hB em4
    refine go_iload_n (j := 2) (q := 5) rfl rfl dX7_isClosed_4 rfl ?_
    refine go_aload_n (j := 0) (q := 6) rfl rfl dX7_isClosed_5 rfl ?_
    refine go_getR (C0 := RX7) (T := TX7) (N := 16) (ci := 7) (i := 0) (q := 9) rfl igX7 (by first | assumption | rfl) (by decide) fl_X7_7 rfl dX7_isClosed_6 rfl ?_
    refine go_bipush (q := 11) rfl dX7_isClosed_9 rfl ?_
    refine go_iald (j := 37) (q := 12) (by first | assumption | rfl) (wr_eq (by omega)) (by omega) dX7_isClosed_11 rfl ?_
    refine go_icmp_ge2 (q := 15) (t := 108) dX7_isClosed_12 (by decide) rfl (by omega) (fun c12 => ?_) (fun c12 => ?_)
    · refine go_iload_n (j := 1) (q := 109) rfl rfl dX7_isClosed_108 rfl ?_
      refine go_iret dX7_isClosed_109 ?_
      subst hK
      rcases hB with ⟨z1, z2⟩ | ⟨z1, z2⟩
      · subst z1; exact Or.inl ⟨rfl, rfl, fun j h => z2 j (by omega)⟩
      · subst z1; exact Or.inr ⟨rfl, rfl, z2⟩
    · refine go_iconst (q := 16) dX7_isClosed_15 rfl ?_
      refine go_istore_n (j := 3) (q := 17) (ls2 := [_, _, _, _, _, _]) rfl (by decide) rfl rfl dX7_isClosed_16 rfl ?_
      refine go_iconst (q := 18) dX7_isClosed_17 rfl ?_
      refine go_istore (j := 4) (q := 20) (ls2 := [_, _, _, _, _, _]) (by decide) rfl rfl dX7_isClosed_18 rfl ?_
      refine go_iconst (q := 21) dX7_isClosed_20 rfl ?_
      refine go_istore (j := 5) (q := 23) (ls2 := [_, _, _, _, _, _]) (by decide) rfl rfl dX7_isClosed_21 rfl ?_
      have lp23 : ∀ (m23 : Nat) (k : Nat) (ki ii oi : Int) (ek : ki = k) (hk : k ≤ c) (ei : ii = (cAs g 1 x k : Nat)) (eo : oi = (cAs g 2 x k : Nat)), m23 = c - k → gX7_isClosed l D ck ad shA 23 [some (vR 45), some (vI bi), some (vI xi), some (vI ii), some (vI oi), some (vI ki)] [] w K := by
        intro m23
        induction m23 using Nat.strongRecOn with
        | _ m23 ih23 =>
        intro k ki ii oi ek hk ei eo em23
        refine go_iload (j := 5) (q := 25) rfl dX7_isClosed_23 rfl ?_
        refine go_aload_n (j := 0) (q := 26) rfl rfl dX7_isClosed_25 rfl ?_
        refine go_getR (C0 := RX7) (T := TX7) (N := 16) (ci := 7) (i := 0) (q := 29) rfl igX7 (by first | assumption | rfl) (by decide) fl_X7_7 rfl dX7_isClosed_26 rfl ?_
        refine go_bipush (q := 31) rfl dX7_isClosed_29 rfl ?_
        refine go_iald (j := 38) (q := 32) (by first | assumption | rfl) (wr_eq (by omega)) (by omega) dX7_isClosed_31 rfl ?_
        refine go_icmp_ge2 (q := 35) (t := 81) dX7_isClosed_32 (by decide) rfl (by omega) (fun c32 => ?_) (fun c32 => ?_)
        · have ekc : k = c := by omega
          subst ekc
          have b1 := cAs_le g 1 x k
          have b2 := cAs_le g 2 x k
          refine go_iload_n (j := 1) (q := 82) rfl rfl dX7_isClosed_81 rfl ?_
          refine go_if_eq2 (q := 85) (t := 100) dX7_isClosed_82 (by decide) rfl (by omega) (fun c82 => ?_) (fun c82 => ?_)
          · refine go_iconst (q := 101) dX7_isClosed_100 rfl ?_
            refine go_istore_n (j := 1) (q := 102) (ls2 := [_, _, _, _, _, _]) rfl (by decide) rfl rfl dX7_isClosed_101 rfl ?_
            refine go_iinc (j := 2) (q := 105) (ls2 := [_, _, _, _, _, _]) rfl (by decide) rfl rfl dX7_isClosed_102 rfl ?_
            refine go_goto (q := 4) dX7_isClosed_105 (by decide) ?_
            first
            | exact ih4 _ (by omega) (x + 1) _ _ _ _ _ (by omega) (by omega) (Or.inl ⟨rfl, by
                rcases hB with ⟨_, z⟩ | ⟨z, _⟩
                · exact fun j h => all_lt (P := fun j => cAs g 1 j k ≤ 1 ∧ cAs g 1 j k = cAs g 2 j k) z (by omega) h
                · omega⟩) rfl
            | exact ih4 _ (by omega) (x + 1) _ _ _ _ _ (by omega) (by omega) (Or.inr ⟨rfl, by
                rcases hB with ⟨z, _⟩ | ⟨_, z⟩
                · exact fun zz => by have := zz x (by omega); omega
                · exact z⟩) rfl
          · refine go_iload_n (j := 3) (q := 86) rfl rfl dX7_isClosed_85 rfl ?_
            refine go_iload (j := 4) (q := 88) rfl dX7_isClosed_86 rfl ?_
            refine go_icmp_ne2 (q := 91) (t := 100) dX7_isClosed_88 (by decide) rfl (by omega) (fun c88 => ?_) (fun c88 => ?_)
            · refine go_iconst (q := 101) dX7_isClosed_100 rfl ?_
              refine go_istore_n (j := 1) (q := 102) (ls2 := [_, _, _, _, _, _]) rfl (by decide) rfl rfl dX7_isClosed_101 rfl ?_
              refine go_iinc (j := 2) (q := 105) (ls2 := [_, _, _, _, _, _]) rfl (by decide) rfl rfl dX7_isClosed_102 rfl ?_
              refine go_goto (q := 4) dX7_isClosed_105 (by decide) ?_
              first
              | exact ih4 _ (by omega) (x + 1) _ _ _ _ _ (by omega) (by omega) (Or.inl ⟨rfl, by
                  rcases hB with ⟨_, z⟩ | ⟨z, _⟩
                  · exact fun j h => all_lt (P := fun j => cAs g 1 j k ≤ 1 ∧ cAs g 1 j k = cAs g 2 j k) z (by omega) h
                  · omega⟩) rfl
              | exact ih4 _ (by omega) (x + 1) _ _ _ _ _ (by omega) (by omega) (Or.inr ⟨rfl, by
                  rcases hB with ⟨z, _⟩ | ⟨_, z⟩
                  · exact fun zz => by have := zz x (by omega); omega
                  · exact z⟩) rfl
            · refine go_iload_n (j := 3) (q := 92) rfl rfl dX7_isClosed_91 rfl ?_
              refine go_iconst (q := 93) dX7_isClosed_92 rfl ?_
              refine go_icmp_gt2 (q := 96) (t := 100) dX7_isClosed_93 (by decide) rfl (by omega) (fun c93 => ?_) (fun c93 => ?_)
              · refine go_iconst (q := 101) dX7_isClosed_100 rfl ?_
                refine go_istore_n (j := 1) (q := 102) (ls2 := [_, _, _, _, _, _]) rfl (by decide) rfl rfl dX7_isClosed_101 rfl ?_
                refine go_iinc (j := 2) (q := 105) (ls2 := [_, _, _, _, _, _]) rfl (by decide) rfl rfl dX7_isClosed_102 rfl ?_
                refine go_goto (q := 4) dX7_isClosed_105 (by decide) ?_
                first
                | exact ih4 _ (by omega) (x + 1) _ _ _ _ _ (by omega) (by omega) (Or.inl ⟨rfl, by
                    rcases hB with ⟨_, z⟩ | ⟨z, _⟩
                    · exact fun j h => all_lt (P := fun j => cAs g 1 j k ≤ 1 ∧ cAs g 1 j k = cAs g 2 j k) z (by omega) h
                    · omega⟩) rfl
                | exact ih4 _ (by omega) (x + 1) _ _ _ _ _ (by omega) (by omega) (Or.inr ⟨rfl, by
                    rcases hB with ⟨z, _⟩ | ⟨_, z⟩
                    · exact fun zz => by have := zz x (by omega); omega
                    · exact z⟩) rfl
              · refine go_iconst (q := 97) dX7_isClosed_96 rfl ?_
                refine go_goto (q := 101) dX7_isClosed_97 (by decide) ?_
                refine go_istore_n (j := 1) (q := 102) (ls2 := [_, _, _, _, _, _]) rfl (by decide) rfl rfl dX7_isClosed_101 rfl ?_
                refine go_iinc (j := 2) (q := 105) (ls2 := [_, _, _, _, _, _]) rfl (by decide) rfl rfl dX7_isClosed_102 rfl ?_
                refine go_goto (q := 4) dX7_isClosed_105 (by decide) ?_
                first
                | exact ih4 _ (by omega) (x + 1) _ _ _ _ _ (by omega) (by omega) (Or.inl ⟨rfl, by
                    rcases hB with ⟨_, z⟩ | ⟨z, _⟩
                    · exact fun j h => all_lt (P := fun j => cAs g 1 j k ≤ 1 ∧ cAs g 1 j k = cAs g 2 j k) z (by omega) h
                    · omega⟩) rfl
                | exact ih4 _ (by omega) (x + 1) _ _ _ _ _ (by omega) (by omega) (Or.inr ⟨rfl, by
                    rcases hB with ⟨z, _⟩ | ⟨_, z⟩
                    · exact fun zz => by have := zz x (by omega); omega
                    · exact z⟩) rfl
        · refine go_iload_n (j := 3) (q := 36) rfl rfl dX7_isClosed_35 rfl ?_
          refine go_aload_n (j := 0) (q := 37) rfl rfl dX7_isClosed_36 rfl ?_
          refine go_iload (j := 5) (q := 39) rfl dX7_isClosed_37 rfl ?_
          refine go_iconst (q := 40) dX7_isClosed_39 rfl ?_
          refine go_callVi (as := [_, _, _]) (As := [_, _]) (rest := [_]) (n := 2) (q := 43) dX7_isClosed_40 lk_X7_153 (ci := 7) (N := 16) (T := TX7) rfl (by first | assumption | rfl) rfl rfl (by decide +kernel) rfl ⟨by decide, by decide⟩ ⟨rfl, rfl⟩ (Nat.le_of_ble_eq_true rfl) (em_crossingPart (k := k) (p := 1) ek rfl (by omega)) rfl (fun x40 w40 h40 => ?_)
          obtain ⟨rfl, rfl⟩ := h40
          have hgk := hg k (by omega)
          refine go_iload_n (j := 2) (q := 44) rfl rfl dX7_isClosed_43 rfl ?_
          refine go_icmp_ne2 (q := 47) (t := 51) dX7_isClosed_44 (by decide) rfl (by omega) (fun c44 => ?_) (fun c44 => ?_)
          · refine go_iconst (q := 52) dX7_isClosed_51 rfl ?_
            refine go_iadd (q := 53) dX7_isClosed_52 rfl ?_
            refine go_istore_n (j := 3) (q := 54) (ls2 := [_, _, _, _, _, _]) rfl (by decide) rfl rfl dX7_isClosed_53 rfl ?_
            refine go_iload (j := 4) (q := 56) rfl dX7_isClosed_54 rfl ?_
            refine go_aload_n (j := 0) (q := 57) rfl rfl dX7_isClosed_56 rfl ?_
            refine go_iload (j := 5) (q := 59) rfl dX7_isClosed_57 rfl ?_
            refine go_iconst (q := 60) dX7_isClosed_59 rfl ?_
            refine go_callVi (as := [_, _, _]) (As := [_, _]) (rest := [_]) (n := 2) (q := 63) dX7_isClosed_60 lk_X7_153 (ci := 7) (N := 16) (T := TX7) rfl (by first | assumption | rfl) rfl rfl (by decide +kernel) rfl ⟨by decide, by decide⟩ ⟨rfl, rfl⟩ (Nat.le_of_ble_eq_true rfl) (em_crossingPart (k := k) (p := 2) ek rfl (by omega)) rfl (fun x60 w60 h60 => ?_)
            obtain ⟨rfl, rfl⟩ := h60
            refine go_iload_n (j := 2) (q := 64) rfl rfl dX7_isClosed_63 rfl ?_
            refine go_icmp_ne2 (q := 67) (t := 71) dX7_isClosed_64 (by decide) rfl (by omega) (fun c64 => ?_) (fun c64 => ?_)
            · refine go_iconst (q := 72) dX7_isClosed_71 rfl ?_
              refine go_iadd (q := 73) dX7_isClosed_72 rfl ?_
              refine go_istore (j := 4) (q := 75) (ls2 := [_, _, _, _, _, _]) (by decide) rfl rfl dX7_isClosed_73 rfl ?_
              refine go_iinc (j := 5) (q := 78) (ls2 := [_, _, _, _, _, _]) rfl (by decide) rfl rfl dX7_isClosed_75 rfl ?_
              refine go_goto (q := 23) dX7_isClosed_78 (by decide) ?_
              exact ih23 _ (by omega) (k + 1) _ _ _ (by omega) (by omega) (by
                have e1 := hgk.1.2.1
                simp only [cAs, cN]
                unfold cAs at ei
                by_cases q : g k 1 = x
                · rw [if_pos (by simp [q])]; omega
                · rw [if_neg (by simp [q])]; omega) (by
                have e1 := hgk.1.2.2.1
                simp only [cAs, cN]
                unfold cAs at eo
                by_cases q : g k 2 = x
                · rw [if_pos (by simp [q])]; omega
                · rw [if_neg (by simp [q])]; omega) rfl
            · refine go_iconst (q := 68) dX7_isClosed_67 rfl ?_
              refine go_goto (q := 72) dX7_isClosed_68 (by decide) ?_
              refine go_iadd (q := 73) dX7_isClosed_72 rfl ?_
              refine go_istore (j := 4) (q := 75) (ls2 := [_, _, _, _, _, _]) (by decide) rfl rfl dX7_isClosed_73 rfl ?_
              refine go_iinc (j := 5) (q := 78) (ls2 := [_, _, _, _, _, _]) rfl (by decide) rfl rfl dX7_isClosed_75 rfl ?_
              refine go_goto (q := 23) dX7_isClosed_78 (by decide) ?_
              exact ih23 _ (by omega) (k + 1) _ _ _ (by omega) (by omega) (by
                have e1 := hgk.1.2.1
                simp only [cAs, cN]
                unfold cAs at ei
                by_cases q : g k 1 = x
                · rw [if_pos (by simp [q])]; omega
                · rw [if_neg (by simp [q])]; omega) (by
                have e1 := hgk.1.2.2.1
                simp only [cAs, cN]
                unfold cAs at eo
                by_cases q : g k 2 = x
                · rw [if_pos (by simp [q])]; omega
                · rw [if_neg (by simp [q])]; omega) rfl
          · refine go_iconst (q := 48) dX7_isClosed_47 rfl ?_
            refine go_goto (q := 52) dX7_isClosed_48 (by decide) ?_
            refine go_iadd (q := 53) dX7_isClosed_52 rfl ?_
            refine go_istore_n (j := 3) (q := 54) (ls2 := [_, _, _, _, _, _]) rfl (by decide) rfl rfl dX7_isClosed_53 rfl ?_
            refine go_iload (j := 4) (q := 56) rfl dX7_isClosed_54 rfl ?_
            refine go_aload_n (j := 0) (q := 57) rfl rfl dX7_isClosed_56 rfl ?_
            refine go_iload (j := 5) (q := 59) rfl dX7_isClosed_57 rfl ?_
            refine go_iconst (q := 60) dX7_isClosed_59 rfl ?_
            refine go_callVi (as := [_, _, _]) (As := [_, _]) (rest := [_]) (n := 2) (q := 63) dX7_isClosed_60 lk_X7_153 (ci := 7) (N := 16) (T := TX7) rfl (by first | assumption | rfl) rfl rfl (by decide +kernel) rfl ⟨by decide, by decide⟩ ⟨rfl, rfl⟩ (Nat.le_of_ble_eq_true rfl) (em_crossingPart (k := k) (p := 2) ek rfl (by omega)) rfl (fun x60 w60 h60 => ?_)
            obtain ⟨rfl, rfl⟩ := h60
            refine go_iload_n (j := 2) (q := 64) rfl rfl dX7_isClosed_63 rfl ?_
            refine go_icmp_ne2 (q := 67) (t := 71) dX7_isClosed_64 (by decide) rfl (by omega) (fun c64 => ?_) (fun c64 => ?_)
            · refine go_iconst (q := 72) dX7_isClosed_71 rfl ?_
              refine go_iadd (q := 73) dX7_isClosed_72 rfl ?_
              refine go_istore (j := 4) (q := 75) (ls2 := [_, _, _, _, _, _]) (by decide) rfl rfl dX7_isClosed_73 rfl ?_
              refine go_iinc (j := 5) (q := 78) (ls2 := [_, _, _, _, _, _]) rfl (by decide) rfl rfl dX7_isClosed_75 rfl ?_
              refine go_goto (q := 23) dX7_isClosed_78 (by decide) ?_
              exact ih23 _ (by omega) (k + 1) _ _ _ (by omega) (by omega) (by
                have e1 := hgk.1.2.1
                simp only [cAs, cN]
                unfold cAs at ei
                by_cases q : g k 1 = x
                · rw [if_pos (by simp [q])]; omega
                · rw [if_neg (by simp [q])]; omega) (by
                have e1 := hgk.1.2.2.1
                simp only [cAs, cN]
                unfold cAs at eo
                by_cases q : g k 2 = x
                · rw [if_pos (by simp [q])]; omega
                · rw [if_neg (by simp [q])]; omega) rfl
            · refine go_iconst (q := 68) dX7_isClosed_67 rfl ?_
              refine go_goto (q := 72) dX7_isClosed_68 (by decide) ?_
              refine go_iadd (q := 73) dX7_isClosed_72 rfl ?_
              refine go_istore (j := 4) (q := 75) (ls2 := [_, _, _, _, _, _]) (by decide) rfl rfl dX7_isClosed_73 rfl ?_
              refine go_iinc (j := 5) (q := 78) (ls2 := [_, _, _, _, _, _]) rfl (by decide) rfl rfl dX7_isClosed_75 rfl ?_
              refine go_goto (q := 23) dX7_isClosed_78 (by decide) ?_
              exact ih23 _ (by omega) (k + 1) _ _ _ (by omega) (by omega) (by
                have e1 := hgk.1.2.1
                simp only [cAs, cN]
                unfold cAs at ei
                by_cases q : g k 1 = x
                · rw [if_pos (by simp [q])]; omega
                · rw [if_neg (by simp [q])]; omega) (by
                have e1 := hgk.1.2.2.1
                simp only [cAs, cN]
                unfold cAs at eo
                by_cases q : g k 2 = x
                · rw [if_pos (by simp [q])]; omega
                · rw [if_neg (by simp [q])]; omega) rfl
      exact lp23 _ 0 0 0 0 rfl (by omega) rfl rfl rfl
  exact lp4 _ 0 0 1 _ _ _ rfl (by omega) (Or.inl ⟨rfl, fun j h => absurd h (Nat.not_lt_zero j)⟩) rfl
theorem em_findParts (hD : DMv (w 46) a c g s) : eX7_findParts l D ck ad shA [vR 45] w (Pv fun w1 => (∃ lab : Nat → Nat, Lok (lkD c g) a lab ∧ (∀ k, k < c → lab (g k 1) = lab (g k 2)) ∧ ∀ i, i < a → w1 51 i = (lab i : Int)) ∧ ∀ c k, c ≠ 51 → w1 c k = w c k) := by
  have hD0 := hD
  obtain ⟨h0, h1, ha, hg⟩ := hD
  refine ev_of_goK (own := RX7) (ls := [some (vR 45), none]) (by decide +kernel) rfl rfl (Nat.le_of_ble_eq_true rfl) rkV ?_
  intro K hK
  refine go_aload_n (j := 0) (q := 1) rfl rfl dX7_findParts_0 rfl ?_
  refine go_aload_n (j := 0) (q := 2) rfl rfl dX7_findParts_1 rfl ?_
  refine go_getR (C0 := RX7) (T := TX7) (N := 16) (ci := 7) (i := 0) (q := 5) rfl igX7 (by first | assumption | rfl) (by decide) fl_X7_7 rfl dX7_findParts_2 rfl ?_
  refine go_bipush (q := 7) rfl dX7_findParts_5 rfl ?_
  refine go_iald (j := 37) (q := 8) (by first | assumption | rfl) (wr_eq (by omega)) (by omega) dX7_findParts_7 rfl ?_
  refine go_callVv (as := [_, _]) (As := [_]) (rest := []) (n := 1) (q := 11) dX7_findParts_8 lk_X7_93 (ci := 7) (N := 16) (T := TX7) rfl (by first | assumption | rfl) rfl rfl (by decide +kernel) rfl ⟨by decide, by decide⟩ ⟨rfl, rfl⟩ (Nat.le_of_ble_eq_true rfl) (em_aloneAll (N := a) h0 ha.1.2) rfl (fun w8 h8 => ?_)
  obtain ⟨a8, f8⟩ := h8
  refine go_iconst (q := 12) dX7_findParts_11 rfl ?_
  refine go_istore_n (j := 1) (q := 13) (ls2 := [_, _]) rfl (by decide) rfl rfl dX7_findParts_12 rfl ?_
  have lp13 : ∀ (m13 : Nat) (k : Nat) (ki : Int) (w1 : Mem) (lab : Nat → Nat) (ek : ki = k) (hk : k ≤ c) (hL : Lok (lkD c g) a lab) (hw : ∀ i, i < a → w1 51 i = (lab i : Int)) (hp : ∀ i, i < k → lab (g i 1) = lab (g i 2)) (hf : ∀ c k, c ≠ 51 → w1 c k = w c k), m13 = c - k → gX7_findParts l D ck ad shA 13 [some (vR 45), some (vI ki)] [] w1 K := by
    intro m13
    induction m13 using Nat.strongRecOn with
    | _ m13 ih13 =>
    intro k ki w1 lab ek hk hL hw hp hf em13
    have hD1 : DMv (w1 46) a c g s := DMv_c hD0 (fun k _ _ => hf _ _ (by omega))
    have g7 := hD1.1
    have g8 := hD1.2.1
    refine go_iload_n (j := 1) (q := 14) rfl rfl dX7_findParts_13 rfl ?_
    refine go_aload_n (j := 0) (q := 15) rfl rfl dX7_findParts_14 rfl ?_
    refine go_getR (C0 := RX7) (T := TX7) (N := 16) (ci := 7) (i := 0) (q := 18) rfl igX7 (by first | assumption | rfl) (by decide) fl_X7_7 rfl dX7_findParts_15 rfl ?_
    refine go_bipush (q := 20) rfl dX7_findParts_18 rfl ?_
    refine go_iald (j := 38) (q := 21) (by first | assumption | rfl) (wr_eq (by omega)) (by omega) dX7_findParts_20 rfl ?_
    refine go_icmp_ge2 (q := 24) (t := 53) dX7_findParts_21 (by decide) rfl (by omega) (fun c21 => ?_) (fun c21 => ?_)
    · refine go_vret dX7_findParts_53 ?_
      subst hK
      exact ⟨rfl, ⟨lab, hL, fun i hi => hp i (by omega), hw⟩, hf⟩
    · refine go_aload_n (j := 0) (q := 25) rfl rfl dX7_findParts_24 rfl ?_
      refine go_aload_n (j := 0) (q := 26) rfl rfl dX7_findParts_25 rfl ?_
      refine go_iload_n (j := 1) (q := 27) rfl rfl dX7_findParts_26 rfl ?_
      refine go_iconst (q := 28) dX7_findParts_27 rfl ?_
      refine go_callVi (as := [_, _, _]) (As := [_, _]) (rest := [_]) (n := 2) (q := 31) dX7_findParts_28 lk_X7_153 (ci := 7) (N := 16) (T := TX7) rfl (by first | assumption | rfl) rfl rfl (by decide +kernel) rfl ⟨by decide, by decide⟩ ⟨rfl, rfl⟩ (Nat.le_of_ble_eq_true rfl) (em_crossingPart (k := k) (p := 1) ek rfl (by omega)) rfl (fun x28 w28 h28 => ?_)
      obtain ⟨rfl, rfl⟩ := h28
      have hgk := hD1.2.2.2 k (by omega)
      refine go_aload_n (j := 0) (q := 32) rfl rfl dX7_findParts_31 rfl ?_
      refine go_iload_n (j := 1) (q := 33) rfl rfl dX7_findParts_32 rfl ?_
      refine go_iconst (q := 34) dX7_findParts_33 rfl ?_
      refine go_callVi (as := [_, _, _]) (As := [_, _]) (rest := [_, _]) (n := 2) (q := 37) dX7_findParts_34 lk_X7_153 (ci := 7) (N := 16) (T := TX7) rfl (by first | assumption | rfl) rfl rfl (by decide +kernel) rfl ⟨by decide, by decide⟩ ⟨rfl, rfl⟩ (Nat.le_of_ble_eq_true rfl) (em_crossingPart (k := k) (p := 2) ek rfl (by omega)) rfl (fun x34 w34 h34 => ?_)
      obtain ⟨rfl, rfl⟩ := h34
      refine go_aload_n (j := 0) (q := 38) rfl rfl dX7_findParts_37 rfl ?_
      refine go_getR (C0 := RX7) (T := TX7) (N := 16) (ci := 7) (i := 0) (q := 41) rfl igX7 (by first | assumption | rfl) (by decide) fl_X7_7 rfl dX7_findParts_38 rfl ?_
      refine go_bipush (q := 43) rfl dX7_findParts_41 rfl ?_
      refine go_iald (j := 37) (q := 44) (by first | assumption | rfl) (wr_eq (by omega)) (by omega) dX7_findParts_43 rfl ?_
      refine go_callVv (as := [_, _, _, _]) (As := [_, _, _]) (rest := []) (n := 3) (q := 47) dX7_findParts_44 lk_X7_97 (ci := 7) (N := 16) (T := TX7) rfl (by first | assumption | rfl) rfl rfl (by decide +kernel) rfl ⟨by decide, by decide⟩ ⟨rfl, rfl⟩ (Nat.le_of_ble_eq_true rfl) (em_joins (N := a) (a := g k 1) (b := g k 2) (lab := lab) g7 ha.1.2 hgk.1.2.1 hgk.1.2.2.1 hgk.2.1.2.1 hgk.2.1.2.2 (fun i hi => (hL i hi).1) hw) rfl (fun w44 h44 => ?_)
      obtain ⟨a44, f44⟩ := h44
      have hj := jn_ok hL hgk.2.1.2.1 hgk.2.1.2.2 ⟨k, by omega, rfl, rfl⟩
      refine go_iinc (j := 1) (q := 50) (ls2 := [_, _]) rfl (by decide) rfl rfl dX7_findParts_47 rfl ?_
      refine go_goto (q := 13) dX7_findParts_50 (by decide) ?_
      exact ih13 _ (by omega) (k + 1) _ _ (jn lab (g k 1) (g k 2)) (by omega) (by omega) hj.1 a44 (by
        intro i h
        by_cases q : i = k
        · rw [q]; exact hj.2.1
        · exact hj.2.2 _ _ (hp i (by omega))) (fun c k h => by rw [f44 c k h]; exact hf c k h) rfl
  exact lp13 _ 0 0 _ (fun k => k) rfl (by omega) Lok_id a8 (fun i h => absurd h (Nat.not_lt_zero i)) f8 rfl
theorem em_componentsNow (hD : DMv (w 46) a c g s) : eX7_componentsNow l D ck ad shA [vR 45] w (Pi fun v w1 => v = cif (closedD a c g) ((ccG (cmpD a c g) a).1 : Int) (-6) ∧ ∀ c k, c ≠ 51 → w1 c k = w c k) := by
  have hgl : ∀ k, k < c → g k 1 < a ∧ g k 2 < a := fun k hk => ⟨(hD.2.2.2 k hk).2.1.2.1, (hD.2.2.2 k hk).2.1.2.2⟩
  refine ev_of_goK (own := RX7) (ls := [some (vR 45)]) (by decide +kernel) rfl rfl (Nat.le_of_ble_eq_true rfl) rkI ?_
  intro K hK
  refine go_aload_n (j := 0) (q := 1) rfl rfl dX7_componentsNow_0 rfl ?_
  refine go_callVz (as := [_]) (As := []) (rest := []) (n := 0) (q := 4) dX7_componentsNow_1 lk_X7_160 (ci := 7) (N := 16) (T := TX7) rfl (by first | assumption | rfl) rfl rfl (by decide +kernel) rfl ⟨by decide, by decide⟩ ⟨rfl, rfl⟩ (Nat.le_of_ble_eq_true rfl) (em_isClosed hD) rfl (fun w1 h1 => ?_) (fun w1 h1 => ?_)
  · obtain ⟨rfl, h1⟩ := h1
    refine go_if_neT (t := 10) dX7_componentsNow_4 (by decide) (by decide) ?_
    refine go_aload_n (j := 0) (q := 11) rfl rfl dX7_componentsNow_10 rfl ?_
    refine go_callVv (as := [_]) (As := []) (rest := []) (n := 0) (q := 14) dX7_componentsNow_11 lk_X7_163 (ci := 7) (N := 16) (T := TX7) rfl (by first | assumption | rfl) rfl rfl (by decide +kernel) rfl ⟨by decide, by decide⟩ ⟨rfl, rfl⟩ (Nat.le_of_ble_eq_true rfl) (em_findParts hD) rfl (fun w11 h11 => ?_)
    obtain ⟨⟨lab, hL, hp, hw⟩, f11⟩ := h11
    have hD1 : DMv (w11 46) a c g s := DMv_c hD (fun k _ _ => f11 _ _ (by omega))
    refine go_aload_n (j := 0) (q := 15) rfl rfl dX7_componentsNow_14 rfl ?_
    refine go_aload_n (j := 0) (q := 16) rfl rfl dX7_componentsNow_15 rfl ?_
    refine go_getR (C0 := RX7) (T := TX7) (N := 16) (ci := 7) (i := 0) (q := 19) rfl igX7 (by first | assumption | rfl) (by decide) fl_X7_7 rfl dX7_componentsNow_16 rfl ?_
    refine go_bipush (q := 21) rfl dX7_componentsNow_19 rfl ?_
    refine go_iald (j := 37) (q := 22) (by first | assumption | rfl) (wr_eq (by omega)) (by omega) dX7_componentsNow_21 rfl ?_
    refine go_callVi (as := [_, _]) (As := [_]) (rest := []) (n := 1) (q := 25) dX7_componentsNow_22 lk_X7_100 (ci := 7) (N := 16) (T := TX7) rfl (by first | assumption | rfl) rfl rfl (by decide +kernel) rfl ⟨by decide, by decide⟩ ⟨rfl, rfl⟩ (Nat.le_of_ble_eq_true rfl) (em_partsMany (N := a) (lab := lab) hD1.1 hD.2.2.1.1.2 (fun i hi => (hL i hi).1) hw) rfl (fun x22 w22 h22 => ?_)
    obtain ⟨rfl, rfl⟩ := h22
    refine go_iret dX7_componentsNow_25 ?_
    subst hK; exact ⟨_, rfl, by rw [cif_t h1, ccD_parts hD.2.2.1.1.2 hgl hL hp], f11⟩
  · obtain ⟨rfl, h1⟩ := h1
    refine go_if_neF (q := 7) (t := 10) dX7_componentsNow_4 rfl (by decide) (by decide) ?_
    refine go_bipush (q := 9) rfl dX7_componentsNow_7 rfl ?_
    refine go_iret dX7_componentsNow_9 ?_
    subst hK; exact ⟨_, rfl, (cif_f h1).symm, fun c k _ => rfl⟩
theorem em_writheNow (hD : DMv (w 46) a c g s) : eX7_writheNow l D ck ad shA [vR 45] w (Pi fun v w1 => v = sumZ s c + 100 ∧ w = w1) := by
  obtain ⟨h0, h1, ha, hg⟩ := hD
  refine ev_of_goK (own := RX7) (ls := [some (vR 45), none, none]) (by decide +kernel) rfl rfl (Nat.le_of_ble_eq_true rfl) rkI ?_
  intro K hK
  refine go_bipush (q := 2) rfl dX7_writheNow_0 rfl ?_
  refine go_istore_n (j := 1) (q := 3) (ls2 := [_, _, _]) rfl (by decide) rfl rfl dX7_writheNow_2 rfl ?_
  refine go_iconst (q := 4) dX7_writheNow_3 rfl ?_
  refine go_istore_n (j := 2) (q := 5) (ls2 := [_, _, _]) rfl (by decide) rfl rfl dX7_writheNow_4 rfl ?_
  have lp5 : ∀ (m5 : Nat) (k : Nat) (ki vi : Int) (ek : ki = k) (hk : k ≤ c) (ev : vi = sumZ s k + 100), m5 = c - k → gX7_writheNow l D ck ad shA 5 [some (vR 45), some (vI vi), some (vI ki)] [] w K := by
    intro m5
    induction m5 using Nat.strongRecOn with
    | _ m5 ih5 =>
    intro k ki vi ek hk ev em5
    refine go_iload_n (j := 2) (q := 6) rfl rfl dX7_writheNow_5 rfl ?_
    refine go_aload_n (j := 0) (q := 7) rfl rfl dX7_writheNow_6 rfl ?_
    refine go_getR (C0 := RX7) (T := TX7) (N := 16) (ci := 7) (i := 0) (q := 10) rfl igX7 (by first | assumption | rfl) (by decide) fl_X7_7 rfl dX7_writheNow_7 rfl ?_
    refine go_bipush (q := 12) rfl dX7_writheNow_10 rfl ?_
    refine go_iald (j := 38) (q := 13) (by first | assumption | rfl) (wr_eq (by omega)) (by omega) dX7_writheNow_12 rfl ?_
    refine go_icmp_ge2 (q := 16) (t := 31) dX7_writheNow_13 (by decide) rfl (by omega) (fun c13 => ?_) (fun c13 => ?_)
    · refine go_iload_n (j := 1) (q := 32) rfl rfl dX7_writheNow_31 rfl ?_
      refine go_iret dX7_writheNow_32 ?_
      subst hK; exact ⟨_, rfl, by rw [ev, show k = c by omega], rfl⟩
    · refine go_iload_n (j := 1) (q := 17) rfl rfl dX7_writheNow_16 rfl ?_
      refine go_aload_n (j := 0) (q := 18) rfl rfl dX7_writheNow_17 rfl ?_
      refine go_iload_n (j := 2) (q := 19) rfl rfl dX7_writheNow_18 rfl ?_
      refine go_iconst (q := 20) dX7_writheNow_19 rfl ?_
      refine go_callVi (as := [_, _, _]) (As := [_, _]) (rest := [_]) (n := 2) (q := 23) dX7_writheNow_20 lk_X7_153 (ci := 7) (N := 16) (T := TX7) rfl (by first | assumption | rfl) rfl rfl (by decide +kernel) rfl ⟨by decide, by decide⟩ ⟨rfl, rfl⟩ (Nat.le_of_ble_eq_true rfl) (em_crossingPart (k := k) (p := 3) ek rfl (by omega)) rfl (fun x20 w20 h20 => ?_)
      obtain ⟨rfl, rfl⟩ := h20
      refine go_iadd (q := 24) dX7_writheNow_23 rfl ?_
      refine go_istore_n (j := 1) (q := 25) (ls2 := [_, _, _]) rfl (by decide) rfl rfl dX7_writheNow_24 rfl ?_
      refine go_iinc (j := 2) (q := 28) (ls2 := [_, _, _]) rfl (by decide) rfl rfl dX7_writheNow_25 rfl ?_
      refine go_goto (q := 5) dX7_writheNow_28 (by decide) ?_
      exact ih5 _ (by omega) (k + 1) _ _ (by omega) (by omega) (by rw [ev, (hg k (by omega)).1.2.2.2]; show _ = (sumZ s k + s k) + 100; omega) rfl
  exact lp5 _ 0 0 100 rfl (by omega) rfl rfl
theorem em27 (hP : PMW w W) : eX7_components l D ck ad shA [vR 45] w (Pi (MR w (op27 W))) := by
  have hD : DMv (w 46) (wA W) (wC W) (wG W) (wS W) := hP.1.2
  have hb := hD.2.2.1
  have g37 := hD.1
  have g38 := hD.2.1
  refine ev_of_goK (own := RX7) (ls := [some (vR 45)]) (by decide +kernel) rfl rfl (Nat.le_of_ble_eq_true rfl) rkI ?_
  intro K hK
  refine go_aload_n (j := 0) (q := 1) rfl rfl dX7_components_0 rfl ?_
  refine go_callVi (as := [_]) (As := []) (rest := []) (n := 0) (q := 4) dX7_components_1 lk_X7_166 (ci := 7) (N := 16) (T := TX7) rfl (by first | assumption | rfl) rfl rfl (by decide +kernel) rfl ⟨by decide, by decide⟩ ⟨rfl, rfl⟩ (Nat.le_of_ble_eq_true rfl) (em_componentsNow hD) rfl (fun x1 w1 h1 => ?_)
  obtain ⟨rfl, f1⟩ := h1
  refine go_iret dX7_components_4 ?_
  subst hK; exact ⟨_, rfl, rfl, PMW_q hP (fun c k z => f1 _ _ (by omega)), fun c k z => f1 _ _ (by omega)⟩
theorem em28 (hP : PMW w W) : eX7_writhe l D ck ad shA [vR 45] w (Pi (MR w (op28 W))) := by
  have hD : DMv (w 46) (wA W) (wC W) (wG W) (wS W) := hP.1.2
  have hb := hD.2.2.1
  have g37 := hD.1
  have g38 := hD.2.1
  refine ev_of_goK (own := RX7) (ls := [some (vR 45)]) (by decide +kernel) rfl rfl (Nat.le_of_ble_eq_true rfl) rkI ?_
  intro K hK
  refine go_aload_n (j := 0) (q := 1) rfl rfl dX7_writhe_0 rfl ?_
  refine go_callVi (as := [_]) (As := []) (rest := []) (n := 0) (q := 4) dX7_writhe_1 lk_X7_169 (ci := 7) (N := 16) (T := TX7) rfl (by first | assumption | rfl) rfl rfl (by decide +kernel) rfl ⟨by decide, by decide⟩ ⟨rfl, rfl⟩ (Nat.le_of_ble_eq_true rfl) (em_writheNow hD) rfl (fun x1 w1 h1 => ?_)
  obtain ⟨rfl, rfl⟩ := h1
  refine go_iret dX7_writhe_4 ?_
  subst hK; exact ⟨_, rfl, rfl, hP, fun c k _ => rfl⟩
theorem em29 (hP : PMW w W) {x y : Int} (hx : rng x) (hy : rng y) : eX7_linking l D ck ad shA [vR 45, vI x, vI y] w (Pi (MR w (op29 W x y))) := by
  have hD : DMv (w 46) (wA W) (wC W) (wG W) (wS W) := hP.1.2
  have hb := hD.2.2.1
  have g37 := hD.1
  have g38 := hD.2.1
  refine ev_of_goK (own := RX7) (ls := [some (vR 45), some (vI x), some (vI y), none, none, none]) (by decide +kernel) rfl rfl (Nat.le_of_ble_eq_true rfl) rkI ?_
  intro K hK
  refine go_aload_n (j := 0) (q := 1) rfl rfl dX7_linking_0 rfl ?_
  refine go_iload_n (j := 1) (q := 2) rfl rfl dX7_linking_1 rfl ?_
  refine go_callVz (as := [_, _]) (As := [_]) (rest := []) (n := 1) (q := 5) dX7_linking_2 lk_X7_144 (ci := 7) (N := 16) (T := TX7) rfl (by first | assumption | rfl) rfl rfl (by decide +kernel) rfl ⟨by decide, by decide⟩ ⟨rfl, rfl⟩ (Nat.le_of_ble_eq_true rfl) (em_isArc hD hx) rfl (fun w2 h2 => ?_) (fun w2 h2 => ?_)
  · obtain ⟨rfl, h2⟩ := h2
    refine go_if_eqF (q := 8) (t := 16) dX7_linking_5 rfl (by decide) (by decide) ?_
    refine go_aload_n (j := 0) (q := 9) rfl rfl dX7_linking_8 rfl ?_
    refine go_iload_n (j := 2) (q := 10) rfl rfl dX7_linking_9 rfl ?_
    refine go_callVz (as := [_, _]) (As := [_]) (rest := []) (n := 1) (q := 13) dX7_linking_10 lk_X7_144 (ci := 7) (N := 16) (T := TX7) rfl (by first | assumption | rfl) rfl rfl (by decide +kernel) rfl ⟨by decide, by decide⟩ ⟨rfl, rfl⟩ (Nat.le_of_ble_eq_true rfl) (em_isArc hD hy) rfl (fun w10 h10 => ?_) (fun w10 h10 => ?_)
    · obtain ⟨rfl, h10⟩ := h10
      refine go_if_neT (t := 18) dX7_linking_13 (by decide) (by decide) ?_
      refine go_aload_n (j := 0) (q := 19) rfl rfl dX7_linking_18 rfl ?_
      refine go_callVz (as := [_]) (As := []) (rest := []) (n := 0) (q := 22) dX7_linking_19 lk_X7_160 (ci := 7) (N := 16) (T := TX7) rfl (by first | assumption | rfl) rfl rfl (by decide +kernel) rfl ⟨by decide, by decide⟩ ⟨rfl, rfl⟩ (Nat.le_of_ble_eq_true rfl) (em_isClosed hD) rfl (fun w19 h19 => ?_) (fun w19 h19 => ?_)
      · obtain ⟨rfl, h19⟩ := h19
        refine go_if_neT (t := 28) dX7_linking_22 (by decide) (by decide) ?_
        obtain ⟨p, hp⟩ : ∃ p, p = x.toNat := ⟨_, rfl⟩
        obtain ⟨q, hq⟩ : ∃ q, q = y.toNat := ⟨_, rfl⟩
        have exp : x = (p : Int) ∧ p < wA W := by omega
        have exq : y = (q : Int) ∧ q < wA W := by omega
        have hgl : ∀ k, k < wC W → wG W k 1 < wA W ∧ wG W k 2 < wA W := fun k hk => ⟨(hD.2.2.2 k hk).2.1.2.1, (hD.2.2.2 k hk).2.1.2.2⟩
        refine go_aload_n (j := 0) (q := 29) rfl rfl dX7_linking_28 rfl ?_
        refine go_callVv (as := [_]) (As := []) (rest := []) (n := 0) (q := 32) dX7_linking_29 lk_X7_163 (ci := 7) (N := 16) (T := TX7) rfl (by first | assumption | rfl) rfl rfl (by decide +kernel) rfl ⟨by decide, by decide⟩ ⟨rfl, rfl⟩ (Nat.le_of_ble_eq_true rfl) (em_findParts hD) rfl (fun w29 h29 => ?_)
        obtain ⟨⟨lab, hL, hlp, hw⟩, f29⟩ := h29
        have hD1 : DMv (w29 46) (wA W) (wC W) (wG W) (wS W) := DMv_c hD (fun k _ _ => f29 _ _ (by omega))
        have j38 := hD1.2.1
        have hlk : ∀ u v, lkD (wC W) (wG W) u v → lab u = lab v := fun u v ⟨k, hk, e1, e2⟩ => by rw [e1, e2]; exact hlp k hk
        have hbx : ∀ u, u < wA W → ((cmpD (wA W) (wC W) (wG W) p).testBit u = true ↔ lab u = lab p) := fun u hu => by
          rw [cmpD_bit hb.1.2 hgl exp.2, lab_iff hL hlk hu exp.2]
          exact ⟨fun z => cnn_sy z.2, fun z => ⟨hu, cnn_sy z⟩⟩
        have hby : ∀ u, u < wA W → ((cmpD (wA W) (wC W) (wG W) q).testBit u = true ↔ lab u = lab q) := fun u hu => by
          rw [cmpD_bit hb.1.2 hgl exq.2, lab_iff hL hlk hu exq.2]
          exact ⟨fun z => cnn_sy z.2, fun z => ⟨hu, cnn_sy z⟩⟩
        have wp := hw p exp.2
        have wq := hw q exq.2
        have lp := (hL p exp.2).1
        have lq := (hL q exq.2).1
        refine go_bipush (q := 34) rfl dX7_linking_32 rfl ?_
        refine go_istore_n (j := 3) (q := 35) (ls2 := [_, _, _, _, _, _]) rfl (by decide) rfl rfl dX7_linking_34 rfl ?_
        refine go_iconst (q := 36) dX7_linking_35 rfl ?_
        refine go_istore (j := 4) (q := 38) (ls2 := [_, _, _, _, _, _]) (by decide) rfl rfl dX7_linking_36 rfl ?_
        have lp38 : ∀ (m38 : Nat) (k : Nat) (ki vi : Int) (u : Option MV) (ek : ki = k) (hk : k ≤ wC W) (ev : vi = lksD (wG W) (wS W) (cmpD (wA W) (wC W) (wG W) p) (cmpD (wA W) (wC W) (wG W) q) k + 100), m38 = wC W - k → gX7_linking l D ck ad shA 38 [some (vR 45), some (vI x), some (vI y), some (vI vi), some (vI ki), u] [] w29 K := by
          intro m38
          induction m38 using Nat.strongRecOn with
          | _ m38 ih38 =>
          intro k ki vi u ek hk ev em38
          refine go_iload (j := 4) (q := 40) rfl dX7_linking_38 rfl ?_
          refine go_aload_n (j := 0) (q := 41) rfl rfl dX7_linking_40 rfl ?_
          refine go_getR (C0 := RX7) (T := TX7) (N := 16) (ci := 7) (i := 0) (q := 44) rfl igX7 (by first | assumption | rfl) (by decide) fl_X7_7 rfl dX7_linking_41 rfl ?_
          refine go_bipush (q := 46) rfl dX7_linking_44 rfl ?_
          refine go_iald (j := 38) (q := 47) (by first | assumption | rfl) (wr_eq (by omega)) (by omega) dX7_linking_46 rfl ?_
          refine go_icmp_ge2 (q := 50) (t := 124) dX7_linking_47 (by decide) rfl (by omega) (fun c47 => ?_) (fun c47 => ?_)
          · refine go_iload_n (j := 3) (q := 125) rfl rfl dX7_linking_124 rfl ?_
            refine go_iret dX7_linking_125 ?_
            subst hK
            unfold op29
            rw [cif_t (by omega), cif_t h19, ← hp, ← hq]
            exact ⟨_, rfl, by rw [ev, show k = wC W by omega], PMW_q hP (fun c k z => f29 _ _ (by omega)), fun c k z => f29 _ _ (by omega)⟩
          · refine go_aload_n (j := 0) (q := 51) rfl rfl dX7_linking_50 rfl ?_
            refine go_getR (C0 := RX7) (T := TX7) (N := 16) (ci := 7) (i := 8) (q := 54) rfl igX7 (by first | assumption | rfl) (by decide) fl_X7_25 rfl dX7_linking_51 rfl ?_
            refine go_aload_n (j := 0) (q := 55) rfl rfl dX7_linking_54 rfl ?_
            refine go_iload (j := 4) (q := 57) rfl dX7_linking_55 rfl ?_
            refine go_iconst (q := 58) dX7_linking_57 rfl ?_
            refine go_callVi (as := [_, _, _]) (As := [_, _]) (rest := [_]) (n := 2) (q := 61) dX7_linking_58 lk_X7_153 (ci := 7) (N := 16) (T := TX7) rfl (by first | assumption | rfl) rfl rfl (by decide +kernel) rfl ⟨by decide, by decide⟩ ⟨rfl, rfl⟩ (Nat.le_of_ble_eq_true rfl) (em_crossingPart (k := k) (p := 0) ek rfl (by omega)) rfl (fun x58 w58 h58 => ?_)
            obtain ⟨rfl, rfl⟩ := h58
            have hgk := hD1.2.2.2 k (by omega)
            have e0 : w29 46 (39 + 4 * k + 0) = (wG W k 0 : Int) := hgk.1.1
            have wo := hw _ hgk.2.1.1
            have wi := hw _ hgk.2.1.2.1
            have lo := (hL _ hgk.2.1.1).1
            have li := (hL _ hgk.2.1.2.1).1
            have bo := hbx _ hgk.2.1.1
            have bi := hby _ hgk.2.1.2.1
            refine go_iald (j := wG W k 0) (q := 62) (by first | assumption | rfl) (wr_eq (by omega)) (by omega) dX7_linking_61 rfl ?_
            refine go_aload_n (j := 0) (q := 63) rfl rfl dX7_linking_62 rfl ?_
            refine go_getR (C0 := RX7) (T := TX7) (N := 16) (ci := 7) (i := 8) (q := 66) rfl igX7 (by first | assumption | rfl) (by decide) fl_X7_25 rfl dX7_linking_63 rfl ?_
            refine go_iload_n (j := 1) (q := 67) rfl rfl dX7_linking_66 rfl ?_
            refine go_iald (j := p) (q := 68) (by first | assumption | rfl) (wr_eq (by omega)) (by omega) dX7_linking_67 rfl ?_
            refine go_icmp_ne2 (q := 71) (t := 96) dX7_linking_68 (by decide) rfl (by omega) (fun c68 => ?_) (fun c68 => ?_)
            · have zn : ¬ ((cmpD (wA W) (wC W) (wG W) p).testBit (wG W k 0) = true ∧ (cmpD (wA W) (wC W) (wG W) q).testBit (wG W k 1) = true) := fun z => by have := bo.mp z.1; omega
              refine go_iconst (q := 97) dX7_linking_96 rfl ?_
              refine go_istore (j := 5) (q := 99) (ls2 := [_, _, _, _, _, _]) (by decide) rfl rfl dX7_linking_97 rfl ?_
              refine go_iload_n (j := 3) (q := 100) rfl rfl dX7_linking_99 rfl ?_
              refine go_iload (j := 5) (q := 102) rfl dX7_linking_100 rfl ?_
              refine go_if_eqT (t := 115) dX7_linking_102 (by decide) (by decide) ?_
              refine go_iconst (q := 116) dX7_linking_115 rfl ?_
              refine go_iadd (q := 117) dX7_linking_116 rfl ?_
              refine go_istore_n (j := 3) (q := 118) (ls2 := [_, _, _, _, _, _]) rfl (by decide) rfl rfl dX7_linking_117 rfl ?_
              refine go_iinc (j := 4) (q := 121) (ls2 := [_, _, _, _, _, _]) rfl (by decide) rfl rfl dX7_linking_118 rfl ?_
              refine go_goto (q := 38) dX7_linking_121 (by decide) ?_
              first
              | (have zq := zn
                 exact ih38 _ (by omega) (k + 1) _ _ _ (by omega) (by omega) (by rw [lksD_s, if_neg zn, ev]; omega) rfl)
              | (have zq := zp
                 exact ih38 _ (by omega) (k + 1) _ _ _ (by omega) (by omega) (by rw [lksD_s, if_pos zp, ev, hgk.1.2.2.2]; omega) rfl)
            · refine go_aload_n (j := 0) (q := 72) rfl rfl dX7_linking_71 rfl ?_
              refine go_getR (C0 := RX7) (T := TX7) (N := 16) (ci := 7) (i := 8) (q := 75) rfl igX7 (by first | assumption | rfl) (by decide) fl_X7_25 rfl dX7_linking_72 rfl ?_
              refine go_aload_n (j := 0) (q := 76) rfl rfl dX7_linking_75 rfl ?_
              refine go_iload (j := 4) (q := 78) rfl dX7_linking_76 rfl ?_
              refine go_iconst (q := 79) dX7_linking_78 rfl ?_
              refine go_callVi (as := [_, _, _]) (As := [_, _]) (rest := [_]) (n := 2) (q := 82) dX7_linking_79 lk_X7_153 (ci := 7) (N := 16) (T := TX7) rfl (by first | assumption | rfl) rfl rfl (by decide +kernel) rfl ⟨by decide, by decide⟩ ⟨rfl, rfl⟩ (Nat.le_of_ble_eq_true rfl) (em_crossingPart (k := k) (p := 1) ek rfl (by omega)) rfl (fun x79 w79 h79 => ?_)
              obtain ⟨rfl, rfl⟩ := h79
              rw [hgk.1.2.1]
              refine go_iald (j := wG W k 1) (q := 83) (by first | assumption | rfl) (wr_eq (by omega)) (by omega) dX7_linking_82 rfl ?_
              refine go_aload_n (j := 0) (q := 84) rfl rfl dX7_linking_83 rfl ?_
              refine go_getR (C0 := RX7) (T := TX7) (N := 16) (ci := 7) (i := 8) (q := 87) rfl igX7 (by first | assumption | rfl) (by decide) fl_X7_25 rfl dX7_linking_84 rfl ?_
              refine go_iload_n (j := 2) (q := 88) rfl rfl dX7_linking_87 rfl ?_
              refine go_iald (j := q) (q := 89) (by first | assumption | rfl) (wr_eq (by omega)) (by omega) dX7_linking_88 rfl ?_
              refine go_icmp_ne2 (q := 92) (t := 96) dX7_linking_89 (by decide) rfl (by omega) (fun c89 => ?_) (fun c89 => ?_)
              · have zn : ¬ ((cmpD (wA W) (wC W) (wG W) p).testBit (wG W k 0) = true ∧ (cmpD (wA W) (wC W) (wG W) q).testBit (wG W k 1) = true) := fun z => by have := bi.mp z.2; omega
                refine go_iconst (q := 97) dX7_linking_96 rfl ?_
                refine go_istore (j := 5) (q := 99) (ls2 := [_, _, _, _, _, _]) (by decide) rfl rfl dX7_linking_97 rfl ?_
                refine go_iload_n (j := 3) (q := 100) rfl rfl dX7_linking_99 rfl ?_
                refine go_iload (j := 5) (q := 102) rfl dX7_linking_100 rfl ?_
                refine go_if_eqT (t := 115) dX7_linking_102 (by decide) (by decide) ?_
                refine go_iconst (q := 116) dX7_linking_115 rfl ?_
                refine go_iadd (q := 117) dX7_linking_116 rfl ?_
                refine go_istore_n (j := 3) (q := 118) (ls2 := [_, _, _, _, _, _]) rfl (by decide) rfl rfl dX7_linking_117 rfl ?_
                refine go_iinc (j := 4) (q := 121) (ls2 := [_, _, _, _, _, _]) rfl (by decide) rfl rfl dX7_linking_118 rfl ?_
                refine go_goto (q := 38) dX7_linking_121 (by decide) ?_
                first
                | (have zq := zn
                   exact ih38 _ (by omega) (k + 1) _ _ _ (by omega) (by omega) (by rw [lksD_s, if_neg zn, ev]; omega) rfl)
                | (have zq := zp
                   exact ih38 _ (by omega) (k + 1) _ _ _ (by omega) (by omega) (by rw [lksD_s, if_pos zp, ev, hgk.1.2.2.2]; omega) rfl)
              · have zp : (cmpD (wA W) (wC W) (wG W) p).testBit (wG W k 0) = true ∧ (cmpD (wA W) (wC W) (wG W) q).testBit (wG W k 1) = true := ⟨bo.mpr (by omega), bi.mpr (by omega)⟩
                refine go_iconst (q := 93) dX7_linking_92 rfl ?_
                refine go_goto (q := 97) dX7_linking_93 (by decide) ?_
                refine go_istore (j := 5) (q := 99) (ls2 := [_, _, _, _, _, _]) (by decide) rfl rfl dX7_linking_97 rfl ?_
                refine go_iload_n (j := 3) (q := 100) rfl rfl dX7_linking_99 rfl ?_
                refine go_iload (j := 5) (q := 102) rfl dX7_linking_100 rfl ?_
                refine go_if_eqF (q := 105) (t := 115) dX7_linking_102 rfl (by decide) (by decide) ?_
                refine go_aload_n (j := 0) (q := 106) rfl rfl dX7_linking_105 rfl ?_
                refine go_iload (j := 4) (q := 108) rfl dX7_linking_106 rfl ?_
                refine go_iconst (q := 109) dX7_linking_108 rfl ?_
                refine go_callVi (as := [_, _, _]) (As := [_, _]) (rest := [_]) (n := 2) (q := 112) dX7_linking_109 lk_X7_153 (ci := 7) (N := 16) (T := TX7) rfl (by first | assumption | rfl) rfl rfl (by decide +kernel) rfl ⟨by decide, by decide⟩ ⟨rfl, rfl⟩ (Nat.le_of_ble_eq_true rfl) (em_crossingPart (k := k) (p := 3) ek rfl (by omega)) rfl (fun x109 w109 h109 => ?_)
                obtain ⟨rfl, rfl⟩ := h109
                refine go_goto (q := 116) dX7_linking_112 (by decide) ?_
                refine go_iadd (q := 117) dX7_linking_116 rfl ?_
                refine go_istore_n (j := 3) (q := 118) (ls2 := [_, _, _, _, _, _]) rfl (by decide) rfl rfl dX7_linking_117 rfl ?_
                refine go_iinc (j := 4) (q := 121) (ls2 := [_, _, _, _, _, _]) rfl (by decide) rfl rfl dX7_linking_118 rfl ?_
                refine go_goto (q := 38) dX7_linking_121 (by decide) ?_
                first
                | (have zq := zn
                   exact ih38 _ (by omega) (k + 1) _ _ _ (by omega) (by omega) (by rw [lksD_s, if_neg zn, ev]; omega) rfl)
                | (have zq := zp
                   exact ih38 _ (by omega) (k + 1) _ _ _ (by omega) (by omega) (by rw [lksD_s, if_pos zp, ev, hgk.1.2.2.2]; omega) rfl)
        exact lp38 _ 0 0 100 _ rfl (by omega) rfl rfl
      · obtain ⟨rfl, h19⟩ := h19
        refine go_if_neF (q := 25) (t := 28) dX7_linking_22 rfl (by decide) (by decide) ?_
        refine go_bipush (q := 27) rfl dX7_linking_25 rfl ?_
        refine go_iret dX7_linking_27 ?_
        subst hK
        unfold op29; rw [cif_t (by omega), cif_f h19]; exact ⟨_, rfl, rfl, hP, fun c k _ => rfl⟩
    · obtain ⟨rfl, h10⟩ := h10
      refine go_if_neF (q := 16) (t := 18) dX7_linking_13 rfl (by decide) (by decide) ?_
      refine go_iconst (q := 17) dX7_linking_16 rfl ?_
      refine go_iret dX7_linking_17 ?_
      subst hK
      unfold op29; rw [cif_f (by omega)]; exact ⟨_, rfl, rfl, hP, fun c k _ => rfl⟩
  · obtain ⟨rfl, h2⟩ := h2
    refine go_if_eqT (t := 16) dX7_linking_5 (by decide) (by decide) ?_
    refine go_iconst (q := 17) dX7_linking_16 rfl ?_
    refine go_iret dX7_linking_17 ?_
    subst hK
    unfold op29; rw [cif_f (by omega)]; exact ⟨_, rfl, rfl, hP, fun c k _ => rfl⟩
end M5
