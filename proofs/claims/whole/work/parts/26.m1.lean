/-! the reference's cells: 45 itself, 46 state, 47 history, 48 text, 49 found, 50 image, 51 part, 52 colours -/
def TMv (v : Nat → Int) (n : Nat) (f : Nat → Nat → Nat) : Prop := v 0 = (n : Int) ∧ (1 ≤ n ∧ n ≤ 6) ∧ ∀ x y, x < n → y < n → v (1 + 6 * x + y) = (f x y : Int) ∧ f x y < n
def DMv (v : Nat → Int) (a c : Nat) (g : Nat → Nat → Nat) (s : Nat → Int) : Prop := v 37 = (a : Int) ∧ v 38 = (c : Int) ∧ ((1 ≤ a ∧ a ≤ 7) ∧ c ≤ 10) ∧
  ∀ k, k < c → (v (39 + 4 * k) = (g k 0 : Int) ∧ v (39 + 4 * k + 1) = (g k 1 : Int) ∧ v (39 + 4 * k + 2) = (g k 2 : Int) ∧ v (39 + 4 * k + 3) = s k) ∧ (g k 0 < a ∧ g k 1 < a ∧ g k 2 < a) ∧ (s k = 1 ∨ s k = -1)
def SMv (v : Nat → Int) (S : SS) : Prop := TMv v S.1.1 S.1.2 ∧ DMv v S.2.1.1 S.2.1.2 S.2.2.1 S.2.2.2
def HM (w : Mem) (hc : Nat) (H : Nat → SS) : Prop := w 45 2 = (hc : Int) ∧ hc ≤ 6 ∧ ∀ i, i < hc → SMv (fun k => w 47 (79 * i + k)) (H i)
def XM (w : Mem) (l : Nat) (t : Nat → Nat) : Prop := w 45 4 = (l : Int) ∧ l ≤ 70 ∧ ∀ i, i < l → w 48 i = (t i : Int) ∧ 33 ≤ t i ∧ t i ≤ 126
def PMW (w : Mem) (W : WA) : Prop := SMv (w 46) W.1 ∧ HM w W.2.1.1 W.2.1.2 ∧ XM w W.2.2.1 W.2.2.2
def MR (w : Mem) (r : Int × WA) : Int → Mem → Prop := fun v w1 => v = r.1 ∧ PMW w1 r.2 ∧ ∀ c k, c < 45 → w1 c k = w c k
theorem TMv_c {v v1 : Nat → Int} {n : Nat} {f : Nat → Nat → Nat} (h : TMv v n f) (he : ∀ k, k < 37 → v1 k = v k) : TMv v1 n f :=
  ⟨by rw [he _ (by omega)]; exact h.1, h.2.1, fun x y hx hy => by have := h.2.1; rw [he _ (by omega)]; exact h.2.2 x y hx hy⟩
theorem DMv_c {v v1 : Nat → Int} {a c : Nat} {g : Nat → Nat → Nat} {s : Nat → Int} (h : DMv v a c g s) (he : ∀ k, 37 ≤ k → k < 79 → v1 k = v k) : DMv v1 a c g s :=
  ⟨by rw [he _ (by omega) (by omega)]; exact h.1, by rw [he _ (by omega) (by omega)]; exact h.2.1, h.2.2.1, fun k hk => by
    have := h.2.2.1
    rw [he _ (by omega) (by omega), he _ (by omega) (by omega), he _ (by omega) (by omega), he _ (by omega) (by omega)]; exact h.2.2.2 k hk⟩
theorem SMv_c {v v1 : Nat → Int} {S : SS} (h : SMv v S) (he : ∀ k, k < 79 → v1 k = v k) : SMv v1 S := ⟨TMv_c h.1 (fun k hk => he k (by omega)), DMv_c h.2 (fun k _ hk => he k hk)⟩
theorem HM_c {w w1 : Mem} {hc : Nat} {H : Nat → SS} (h : HM w hc H) (he : w1 45 2 = w 45 2) (h7 : ∀ k, w1 47 k = w 47 k) : HM w1 hc H :=
  ⟨by rw [he]; exact h.1, h.2.1, fun i hi => SMv_c (h.2.2 i hi) (fun k _ => h7 _)⟩
theorem XM_c {w w1 : Mem} {l : Nat} {t : Nat → Nat} (h : XM w l t) (he : w1 45 4 = w 45 4) (h8 : ∀ k, w1 48 k = w 48 k) : XM w1 l t :=
  ⟨by rw [he]; exact h.1, h.2.1, fun i hi => by rw [h8]; exact h.2.2 i hi⟩
theorem PMW_q {w w1 : Mem} {W : WA} (h : PMW w W) (he : ∀ c k, (c = 46 ∨ c = 47 ∨ c = 48 ∨ (c = 45 ∧ (k = 2 ∨ k = 4))) → w1 c k = w c k) : PMW w1 W :=
  ⟨SMv_c h.1 (fun k _ => he _ _ (by omega)), HM_c h.2.1 (he _ _ (by omega)) (fun k => he _ _ (by omega)), XM_c h.2.2 (he _ _ (by omega)) (fun k => he _ _ (by omega))⟩
theorem PMW_S {w w1 : Mem} {W : WA} {S : SS} (h : PMW w W) (hS : SMv (w1 46) S) (he : ∀ c k, (c = 47 ∨ c = 48 ∨ (c = 45 ∧ (k = 2 ∨ k = 4))) → w1 c k = w c k) : PMW w1 (S, W.2) :=
  ⟨hS, HM_c h.2.1 (he _ _ (by omega)) (fun k => he _ _ (by omega)), XM_c h.2.2 (he _ _ (by omega)) (fun k => he _ _ (by omega))⟩
def lowFrom (j n : Nat) (P : Nat → Prop) (v : Int) : Prop := (∃ z : Nat, (j ≤ z ∧ z < n) ∧ v = z ∧ P z ∧ ∀ i, j ≤ i → i < z → ¬ P i) ∨ (v = -6 ∧ ∀ i, j ≤ i → i < n → ¬ P i)
theorem lowF_n {n : Nat} {P : Nat → Prop} : lowFrom n n P (-6) := Or.inr ⟨rfl, fun i h1 h2 => absurd h1 (by omega)⟩
theorem lowF_t {j n : Nat} {P : Nat → Prop} {v : Int} (hj : j < n) (hP : P j) (hv : v = j) : lowFrom j n P v := Or.inl ⟨j, ⟨Nat.le_refl j, hj⟩, hv, hP, fun i h1 h2 => absurd h1 (by omega)⟩
theorem lowF_f {j n : Nat} {P : Nat → Prop} {v : Int} (h : lowFrom (j + 1) n P v) (hP : ¬ P j) : lowFrom j n P v := by
  rcases h with ⟨z, h1, h2, h3, h4⟩ | ⟨h1, h2⟩
  · refine Or.inl ⟨z, by omega, h2, h3, fun i q1 q2 => ?_⟩
    by_cases q : i = j
    · rw [q]; exact hP
    · exact h4 i (by omega) q2
  · refine Or.inr ⟨h1, fun i q1 q2 => ?_⟩
    by_cases q : i = j
    · rw [q]; exact hP
    · exact h2 i (by omega) q2
theorem lowF_0 {n : Nat} {P : Nat → Prop} {v : Int} (h : lowFrom 0 n P v) : isLowP n P v := by
  rcases h with ⟨z, h1, h2, h3, h4⟩ | ⟨h1, h2⟩
  · exact Or.inl ⟨z, h1.2, h2, h3, fun i q => h4 i (Nat.zero_le i) q⟩
  · exact Or.inr ⟨h1, fun i q => h2 i (Nat.zero_le i) q⟩
theorem lowF_b {j n : Nat} {P : Nat → Prop} {v : Int} (h : lowFrom j n P v) : v = -6 ∨ (0 ≤ v ∧ v < n) := by
  rcases h with ⟨z, h1, h2, h3, h4⟩ | ⟨h1, h2⟩
  · right; omega
  · left; exact h1
theorem mk_b : ∀ a : Fin 128, ∀ b : Fin 7, (b : Nat) ≠ 0 → (let x : Int := (a : Nat) - 64
    let y : Int := (b : Nat)
    (x.tmod y + y).tmod y = x % y ∧ (-6 ≤ x.tmod y ∧ x.tmod y ≤ 6)) := by decide +kernel
section M1
variable {l : Launch} {D : va_G} {ck : Nat → ClassId} {ad : Nat → Nat} {w : Mem} {W : WA} {n : Nat} {f : Nat → Nat → Nat}
theorem em_within {x y z : Int} (hx : (rng x ∧ rng y) ∧ rng z) : eX7_within l D ck ad shA [vI x, vI y, vI z] w (Pz (fun w1 => w = w1 ∧ (y ≤ x ∧ x ≤ z)) (fun w1 => w = w1 ∧ ¬ (y ≤ x ∧ x ≤ z))) := by
  refine ev_of_goK (own := RX7) (ls := [some (vI x), some (vI y), some (vI z)]) (by decide +kernel) rfl rfl (Nat.le_of_ble_eq_true rfl) rkZ ?_
  intro K hK
  refine go_iload_n (j := 0) (q := 1) rfl rfl dX7_within_0 rfl ?_
  refine go_iload_n (j := 1) (q := 2) rfl rfl dX7_within_1 rfl ?_
  refine go_icmp_lt2 (q := 5) (t := 14) dX7_within_2 (by decide) rfl (by omega) (fun c2 => ?_) (fun c2 => ?_)
  · refine go_iconst (q := 15) dX7_within_14 rfl ?_
    refine go_iret dX7_within_15 ?_
    subst hK; first | exact Or.inl ⟨rfl, rfl, by omega⟩ | exact Or.inr ⟨rfl, rfl, by omega⟩
  · refine go_iload_n (j := 0) (q := 6) rfl rfl dX7_within_5 rfl ?_
    refine go_iload_n (j := 2) (q := 7) rfl rfl dX7_within_6 rfl ?_
    refine go_icmp_gt2 (q := 10) (t := 14) dX7_within_7 (by decide) rfl (by omega) (fun c7 => ?_) (fun c7 => ?_)
    · refine go_iconst (q := 15) dX7_within_14 rfl ?_
      refine go_iret dX7_within_15 ?_
      subst hK; first | exact Or.inl ⟨rfl, rfl, by omega⟩ | exact Or.inr ⟨rfl, rfl, by omega⟩
    · refine go_iconst (q := 11) dX7_within_10 rfl ?_
      refine go_goto (q := 15) dX7_within_11 (by decide) ?_
      refine go_iret dX7_within_15 ?_
      subst hK; first | exact Or.inl ⟨rfl, rfl, by omega⟩ | exact Or.inr ⟨rfl, rfl, by omega⟩
theorem em_bits {m : Nat} {mi : Int} (em : mi = m) (hm : m < 64) : eX7_bits l D ck ad shA [vI mi] w (Pi fun v w1 => v = (pc m : Int) ∧ w = w1) := by
  refine ev_of_goK (own := RX7) (ls := [some (vI mi), none, none]) (by decide +kernel) rfl rfl (Nat.le_of_ble_eq_true rfl) rkI ?_
  intro K hK
  refine go_iconst (q := 1) dX7_bits_0 rfl ?_
  refine go_istore_n (j := 1) (q := 2) (ls2 := [_, _, _]) rfl (by decide) rfl rfl dX7_bits_1 rfl ?_
  refine go_iconst (q := 3) dX7_bits_2 rfl ?_
  refine go_istore_n (j := 2) (q := 4) (ls2 := [_, _, _]) rfl (by decide) rfl rfl dX7_bits_3 rfl ?_
  have lp4 : ∀ (m4 : Nat) (k : Nat) (ki ci : Int) (ek : ki = k) (hk : k ≤ 6) (ec : ci = (cN (fun i => m.testBit i) k : Nat)), m4 = 6 - k → gX7_bits l D ck ad shA 4 [some (vI mi), some (vI ci), some (vI ki)] [] w K := by
    intro m4
    induction m4 using Nat.strongRecOn with
    | _ m4 ih4 =>
    intro k ki ci ek hk ec em4
    refine go_iload_n (j := 2) (q := 5) rfl rfl dX7_bits_4 rfl ?_
    refine go_bipush (q := 7) rfl dX7_bits_5 rfl ?_
    refine go_icmp_ge2 (q := 10) (t := 24) dX7_bits_7 (by decide) rfl (by omega) (fun c7 => ?_) (fun c7 => ?_)
    · refine go_iload_n (j := 1) (q := 25) rfl rfl dX7_bits_24 rfl ?_
      refine go_iret dX7_bits_25 ?_
      subst hK
      refine ⟨_, rfl, ?_, rfl⟩
      have h6 : m.testBit 6 = false := Nat.testBit_lt_two_pow (by omega)
      rw [ec, show k = 6 by omega]
      show _ = ((cN (fun i => m.testBit i) 6 + (if m.testBit 6 then 1 else 0) : Nat) : Int)
      rw [h6]; rfl
    · have hb := bit_eq (a := m) (k := k) (by omega) (by omega)
      rw [← em, ← ek] at hb
      refine go_iload_n (j := 1) (q := 11) rfl rfl dX7_bits_10 rfl ?_
      refine go_iload_n (j := 0) (q := 12) rfl rfl dX7_bits_11 rfl ?_
      refine go_iload_n (j := 2) (q := 13) rfl rfl dX7_bits_12 rfl ?_
      refine go_ishr (q := 14) dX7_bits_13 rfl ?_
      refine go_iconst (q := 15) dX7_bits_14 rfl ?_
      refine go_iand (q := 16) dX7_bits_15 rfl ?_
      rw [hb]
      refine go_iadd (q := 17) dX7_bits_16 rfl ?_
      refine go_istore_n (j := 1) (q := 18) (ls2 := [_, _, _]) rfl (by decide) rfl rfl dX7_bits_17 rfl ?_
      refine go_iinc (j := 2) (q := 21) (ls2 := [_, _, _]) rfl (by decide) rfl rfl dX7_bits_18 rfl ?_
      refine go_goto (q := 4) dX7_bits_21 (by decide) ?_
      exact ih4 _ (by omega) (k + 1) _ _ (by omega) (by omega) (by simp only [cN]; split <;> omega) rfl
  exact lp4 _ 0 0 0 rfl (by omega) rfl rfl
theorem em_record (hP : PMW w W) : eX7_record l D ck ad shA [vR 45] w (Pv fun w1 => PMW w1 (psh W W.1) ∧ ∀ c k, c ≠ 47 → ¬ (c = 45 ∧ k = 2) → w1 c k = w c k) := by
  obtain ⟨hS, ⟨h0, h6, hh⟩, hX⟩ := id hP
  have h0' : w 45 2 = (wHc W : Int) := h0
  have h6' : wHc W ≤ 6 := h6
  refine ev_of_goK (own := RX7) (ls := [some (vR 45), none]) (by decide +kernel) rfl rfl (Nat.le_of_ble_eq_true rfl) rkV ?_
  intro K hK
  have key : ∀ (w2 : Mem) (r : Nat) (H2 : Nat → SS) (u : Option MV), r ≤ 5 → w2 45 2 = (r : Int) → (∀ i, i < r → SMv (fun k => w2 47 (79 * i + k)) (H2 i)) → (∀ c k, c ≠ 47 → ¬ (c = 45 ∧ k = 2) → w2 c k = w c k) → r + 1 = min (wHc W + 1) 6 → (∀ i, i < r → hpush (wHc W) (wH W) W.1 i = H2 i) → hpush (wHc W) (wH W) W.1 r = W.1 →
      gX7_record l D ck ad shA 49 [some (vR 45), u] [] w2 K := by
    intro w2 r H2 u hr hr2 hsl hfr hmin hp1 hp2
    refine go_iconst (q := 50) dX7_record_49 rfl ?_
    refine go_istore_n (j := 1) (q := 51) (ls2 := [_, _]) rfl (by decide) rfl rfl dX7_record_50 rfl ?_
    have lp51 : ∀ (m51 : Nat) (k : Nat) (ki : Int) (w3 : Mem) (ek : ki = k) (hk : k ≤ 79) (hn : ∀ j, j < k → w3 47 (79 * r + j) = w2 46 j) (ho : ∀ j, j < 79 * r → w3 47 j = w2 47 j) (hf : ∀ c k, c ≠ 47 → w3 c k = w2 c k), m51 = 79 - k → gX7_record l D ck ad shA 51 [some (vR 45), some (vI ki)] [] w3 K := by
      intro m51
      induction m51 using Nat.strongRecOn with
      | _ m51 ih51 =>
      intro k ki w3 ek hk hn ho hf em51
      have e2 : w3 45 2 = (r : Int) := by rw [hf _ _ (by omega)]; exact hr2
      refine go_iload_n (j := 1) (q := 52) rfl rfl dX7_record_51 rfl ?_
      refine go_bipush (q := 54) rfl dX7_record_52 rfl ?_
      refine go_icmp_ge2 (q := 57) (t := 83) dX7_record_54 (by decide) rfl (by omega) (fun c54 => ?_) (fun c54 => ?_)
      · refine go_aload_n (j := 0) (q := 84) rfl rfl dX7_record_83 rfl ?_
        refine go_dup (q := 85) (fun _ z => by cases z) dX7_record_84 rfl ?_
        refine go_getI (C0 := RX7) (T := TX7) (N := 16) (ci := 7) (i := 2) (q := 88) rfl igX7 (by first | assumption | rfl) (by decide) fl_X7_31 rfl dX7_record_85 rfl ?_
        refine go_iconst (q := 89) dX7_record_88 rfl ?_
        refine go_iadd (q := 90) dX7_record_89 rfl ?_
        refine go_putI (C0 := RX7) (T := TX7) (N := 16) (ci := 7) (i := 2) (q := 93) rfl igX7 (by first | assumption | rfl) (by decide) fl_X7_31 rfl tyX7 tyX7_ok nmX7 rfl rfl dX7_record_90 rfl ?_
        refine go_vret dX7_record_93 ?_
        subst hK
        have ek9 : k = 79 := by omega
        subst ek9
        refine ⟨rfl, ⟨SMv_c hS (fun k hk => by rw [mup_ne (by omega), hf _ _ (by omega), hfr _ _ (by omega) (by omega)]), ⟨by rw [mup_eq, e2]; show _ = ((min (wHc W + 1) 6 : Nat) : Int); omega, by show min (wHc W + 1) 6 ≤ 6; omega, fun i hi => ?_⟩, XM_c hX (by rw [mup_ne (by omega), hf _ _ (by omega), hfr _ _ (by omega) (by omega)]) (fun k => by rw [mup_ne (by omega), hf _ _ (by omega), hfr _ _ (by omega) (by omega)])⟩, fun c k z1 z2 => by rw [mup_ne (by omega), hf _ _ z1, hfr _ _ z1 z2]⟩
        have hi' : i < min (wHc W + 1) 6 := hi
        show SMv _ (hpush (wHc W) (wH W) W.1 i)
        by_cases q : i = r
        · rw [q, hp2]
          exact SMv_c hS (fun k hk => by rw [mup_ne (by omega), hn k (by omega), hfr _ _ (by omega) (by omega)])
        · rw [hp1 i (by omega)]
          exact SMv_c (hsl i (by omega)) (fun k hk => by rw [mup_ne (by omega), ho _ (by omega)])
      · refine go_aload_n (j := 0) (q := 58) rfl rfl dX7_record_57 rfl ?_
        refine go_getR (C0 := RX7) (T := TX7) (N := 16) (ci := 7) (i := 1) (q := 61) rfl igX7 (by first | assumption | rfl) (by decide) fl_X7_13 rfl dX7_record_58 rfl ?_
        refine go_aload_n (j := 0) (q := 62) rfl rfl dX7_record_61 rfl ?_
        refine go_getI (C0 := RX7) (T := TX7) (N := 16) (ci := 7) (i := 2) (q := 65) rfl igX7 (by first | assumption | rfl) (by decide) fl_X7_31 rfl dX7_record_62 rfl ?_
        refine go_bipush (q := 67) rfl dX7_record_65 rfl ?_
        refine go_imul (q := 68) dX7_record_67 rfl ?_
        refine go_iload_n (j := 1) (q := 69) rfl rfl dX7_record_68 rfl ?_
        refine go_iadd (q := 70) dX7_record_69 rfl ?_
        refine go_aload_n (j := 0) (q := 71) rfl rfl dX7_record_70 rfl ?_
        refine go_getR (C0 := RX7) (T := TX7) (N := 16) (ci := 7) (i := 0) (q := 74) rfl igX7 (by first | assumption | rfl) (by decide) fl_X7_7 rfl dX7_record_71 rfl ?_
        refine go_iload_n (j := 1) (q := 75) rfl rfl dX7_record_74 rfl ?_
        refine go_iald (j := k) (q := 76) (by first | assumption | rfl) (wr_eq (by omega)) (by omega) dX7_record_75 rfl ?_
        refine go_iast (j := 79 * r + k) (q := 77) (by first | assumption | rfl) (wr_eq (by omega)) (by omega) dX7_record_76 rfl ?_
        refine go_iinc (j := 1) (q := 80) (ls2 := [_, _]) rfl (by decide) rfl rfl dX7_record_77 rfl ?_
        refine go_goto (q := 51) dX7_record_80 (by decide) ?_
        exact ih51 _ (by omega) (k + 1) _ _ (by omega) (by omega) (by
          intro j h
          by_cases q : j = k
          · subst q; rw [mup_eq, hf _ _ (by omega)]
          · rw [mup_ne (by omega)]; exact hn j (by omega)) (fun j h => by rw [mup_ne (by omega)]; exact ho j h) (fun c k h => by rw [mup_ne (Or.inl h)]; exact hf c k h) rfl
    exact lp51 _ 0 0 _ rfl (by omega) (fun j h => absurd h (Nat.not_lt_zero j)) (fun j h => rfl) (fun c k h => rfl) rfl
  refine go_aload_n (j := 0) (q := 1) rfl rfl dX7_record_0 rfl ?_
  refine go_getI (C0 := RX7) (T := TX7) (N := 16) (ci := 7) (i := 2) (q := 4) rfl igX7 (by first | assumption | rfl) (by decide) fl_X7_31 rfl dX7_record_1 rfl ?_
  refine go_bipush (q := 6) rfl dX7_record_4 rfl ?_
  refine go_icmp_ne2 (q := 9) (t := 49) dX7_record_6 (by decide) rfl (by omega) (fun c6 => ?_) (fun c6 => ?_)
  · first
    | (have e5 : k = 395 := by omega
       subst e5
       refine key _ 5 (fun i => wH W (i + 1)) _ (by omega) (by rw [mup_eq, hf _ _ (by omega)]; omega) (fun i hi => ?_) (fun c k z1 z2 => by rw [mup_ne (by omega), hf _ _ z1]) (by omega) (fun i hi => by unfold hpush; rw [if_neg (by omega)]; exact if_neg (by omega)) (by unfold hpush; rw [if_neg (by omega)]; exact if_pos rfl)
       exact SMv_c (hh (i + 1) (by show i + 1 < wHc W; omega)) (fun k hk => by rw [mup_ne (by omega), hn _ (by omega)]; congr 1; omega))
    | exact key w (wHc W) (wH W) _ (by omega) h0 hh (fun c k _ _ => rfl) (by omega) (fun i hi => by unfold hpush; rw [if_pos (by omega)]; exact if_neg (by omega)) (by unfold hpush; rw [if_pos (by omega)]; exact if_pos rfl)
  · refine go_iconst (q := 10) dX7_record_9 rfl ?_
    refine go_istore_n (j := 1) (q := 11) (ls2 := [_, _]) rfl (by decide) rfl rfl dX7_record_10 rfl ?_
    have lp11 : ∀ (m11 : Nat) (k : Nat) (ki : Int) (w1 : Mem) (ek : ki = k) (hk : k ≤ 395) (hn : ∀ j, j < k → w1 47 j = w 47 (j + 79)) (ho : ∀ j, k ≤ j → w1 47 j = w 47 j) (hf : ∀ c k, c ≠ 47 → w1 c k = w c k), m11 = 395 - k → gX7_record l D ck ad shA 11 [some (vR 45), some (vI ki)] [] w1 K := by
      intro m11
      induction m11 using Nat.strongRecOn with
      | _ m11 ih11 =>
      intro k ki w1 ek hk hn ho hf em11
      refine go_iload_n (j := 1) (q := 12) rfl rfl dX7_record_11 rfl ?_
      refine go_sipush (q := 15) rfl dX7_record_12 rfl ?_
      refine go_icmp_ge2 (q := 18) (t := 39) dX7_record_15 (by decide) rfl (by omega) (fun c15 => ?_) (fun c15 => ?_)
      · refine go_aload_n (j := 0) (q := 40) rfl rfl dX7_record_39 rfl ?_
        refine go_dup (q := 41) (fun _ z => by cases z) dX7_record_40 rfl ?_
        refine go_getI (C0 := RX7) (T := TX7) (N := 16) (ci := 7) (i := 2) (q := 44) rfl igX7 (by first | assumption | rfl) (by decide) fl_X7_31 rfl dX7_record_41 rfl ?_
        refine go_iconst (q := 45) dX7_record_44 rfl ?_
        refine go_isub (q := 46) dX7_record_45 rfl ?_
        refine go_putI (C0 := RX7) (T := TX7) (N := 16) (ci := 7) (i := 2) (q := 49) rfl igX7 (by first | assumption | rfl) (by decide) fl_X7_31 rfl tyX7 tyX7_ok nmX7 rfl rfl dX7_record_46 rfl ?_
        first
        | (have e5 : k = 395 := by omega
           subst e5
           refine key _ 5 (fun i => wH W (i + 1)) _ (by omega) (by rw [mup_eq, hf _ _ (by omega)]; omega) (fun i hi => ?_) (fun c k z1 z2 => by rw [mup_ne (by omega), hf _ _ z1]) (by omega) (fun i hi => by unfold hpush; rw [if_neg (by omega)]; exact if_neg (by omega)) (by unfold hpush; rw [if_neg (by omega)]; exact if_pos rfl)
           exact SMv_c (hh (i + 1) (by show i + 1 < wHc W; omega)) (fun k hk => by rw [mup_ne (by omega), hn _ (by omega)]; congr 1; omega))
        | exact key w (wHc W) (wH W) _ (by omega) h0 hh (fun c k _ _ => rfl) (by omega) (fun i hi => by unfold hpush; rw [if_pos (by omega)]; exact if_neg (by omega)) (by unfold hpush; rw [if_pos (by omega)]; exact if_pos rfl)
      · refine go_aload_n (j := 0) (q := 19) rfl rfl dX7_record_18 rfl ?_
        refine go_getR (C0 := RX7) (T := TX7) (N := 16) (ci := 7) (i := 1) (q := 22) rfl igX7 (by first | assumption | rfl) (by decide) fl_X7_13 rfl dX7_record_19 rfl ?_
        refine go_iload_n (j := 1) (q := 23) rfl rfl dX7_record_22 rfl ?_
        refine go_aload_n (j := 0) (q := 24) rfl rfl dX7_record_23 rfl ?_
        refine go_getR (C0 := RX7) (T := TX7) (N := 16) (ci := 7) (i := 1) (q := 27) rfl igX7 (by first | assumption | rfl) (by decide) fl_X7_13 rfl dX7_record_24 rfl ?_
        refine go_iload_n (j := 1) (q := 28) rfl rfl dX7_record_27 rfl ?_
        refine go_bipush (q := 30) rfl dX7_record_28 rfl ?_
        refine go_iadd (q := 31) dX7_record_30 rfl ?_
        refine go_iald (j := k + 79) (q := 32) (by first | assumption | rfl) (wr_eq (by omega)) (by omega) dX7_record_31 rfl ?_
        refine go_iast (j := k) (q := 33) (by first | assumption | rfl) (wr_eq (by omega)) (by omega) dX7_record_32 rfl ?_
        refine go_iinc (j := 1) (q := 36) (ls2 := [_, _]) rfl (by decide) rfl rfl dX7_record_33 rfl ?_
        refine go_goto (q := 11) dX7_record_36 (by decide) ?_
        exact ih11 _ (by omega) (k + 1) _ _ (by omega) (by omega) (by
          intro j h
          by_cases q : j = k
          · subst q; rw [mup_eq, ho _ (by omega)]
          · rw [mup_ne (by omega)]; exact hn j (by omega)) (fun j h => by rw [mup_ne (by omega)]; exact ho j (by omega)) (fun c k h => by rw [mup_ne (Or.inl h)]; exact hf c k h) rfl
    exact lp11 _ 0 0 _ rfl (by omega) (fun j h => absurd h (Nat.not_lt_zero j)) (fun j h => rfl) (fun c k h => rfl) rfl
theorem em_isElement (hT : TMv (w 46) n f) {x : Int} (hx : rng x) : eX7_isElement l D ck ad shA [vR 45, vI x] w (Pz (fun w1 => w = w1 ∧ el n x) (fun w1 => w = w1 ∧ ¬ el n x)) := by
  have h0 := hT.1
  have hn := hT.2.1
  refine ev_of_goK (own := RX7) (ls := [some (vR 45), some (vI x)]) (by decide +kernel) rfl rfl (Nat.le_of_ble_eq_true rfl) rkZ ?_
  intro K hK
  refine go_iload_n (j := 1) (q := 1) rfl rfl dX7_isElement_0 rfl ?_
  refine go_iconst (q := 2) dX7_isElement_1 rfl ?_
  refine go_aload_n (j := 0) (q := 3) rfl rfl dX7_isElement_2 rfl ?_
  refine go_getR (C0 := RX7) (T := TX7) (N := 16) (ci := 7) (i := 0) (q := 6) rfl igX7 (by first | assumption | rfl) (by decide) fl_X7_7 rfl dX7_isElement_3 rfl ?_
  refine go_iconst (q := 7) dX7_isElement_6 rfl ?_
  refine go_iald (j := 0) (q := 8) (by first | assumption | rfl) (wr_eq (by omega)) (by omega) dX7_isElement_7 rfl ?_
  refine go_iconst (q := 9) dX7_isElement_8 rfl ?_
  refine go_isub (q := 10) dX7_isElement_9 rfl ?_
  refine go_callSz (as := [_, _, _]) (rest := []) (n := 3) (q := 13) dX7_isElement_10 lk_X7_35 rfl (by decide +kernel) rfl ⟨by decide, by decide⟩ ⟨rfl, rfl⟩ (Nat.le_of_ble_eq_true rfl) (em_within (by omega)) rfl (fun w10 h10 => ?_) (fun w10 h10 => ?_)
  · obtain ⟨rfl, h10⟩ := h10
    refine go_iret dX7_isElement_13 ?_
    subst hK; first | exact Or.inl ⟨rfl, rfl, by omega⟩ | exact Or.inr ⟨rfl, rfl, by omega⟩
  · obtain ⟨rfl, h10⟩ := h10
    refine go_iret dX7_isElement_13 ?_
    subst hK; first | exact Or.inl ⟨rfl, rfl, by omega⟩ | exact Or.inr ⟨rfl, rfl, by omega⟩
theorem em_times (hT : TMv (w 46) n f) {x y : Nat} {xi yi : Int} (ex : xi = x) (ey : yi = y) (hx : x < n) (hy : y < n) : eX7_times l D ck ad shA [vR 45, vI xi, vI yi] w (Pi fun v w1 => v = (f x y : Int) ∧ w = w1) := by
  have hn := hT.2.1
  refine ev_of_goK (own := RX7) (ls := [some (vR 45), some (vI xi), some (vI yi)]) (by decide +kernel) rfl rfl (Nat.le_of_ble_eq_true rfl) rkI ?_
  intro K hK
  refine go_aload_n (j := 0) (q := 1) rfl rfl dX7_times_0 rfl ?_
  refine go_getR (C0 := RX7) (T := TX7) (N := 16) (ci := 7) (i := 0) (q := 4) rfl igX7 (by first | assumption | rfl) (by decide) fl_X7_7 rfl dX7_times_1 rfl ?_
  refine go_iconst (q := 5) dX7_times_4 rfl ?_
  refine go_bipush (q := 7) rfl dX7_times_5 rfl ?_
  refine go_iload_n (j := 1) (q := 8) rfl rfl dX7_times_7 rfl ?_
  refine go_imul (q := 9) dX7_times_8 rfl ?_
  refine go_iadd (q := 10) dX7_times_9 rfl ?_
  refine go_iload_n (j := 2) (q := 11) rfl rfl dX7_times_10 rfl ?_
  refine go_iadd (q := 12) dX7_times_11 rfl ?_
  refine go_iald (j := 1 + 6 * x + y) (q := 13) (by first | assumption | rfl) (wr_eq (by omega)) (by omega) dX7_times_12 rfl ?_
  refine go_iret dX7_times_13 ?_
  subst hK; exact ⟨_, rfl, (hT.2.2 x y hx hy).1, rfl⟩
theorem em_setTimes {x y : Nat} {xi yi v : Int} (ex : xi = x) (ey : yi = y) (hx : x < 6) (hy : y < 6) : eX7_setTimes l D ck ad shA [vR 45, vI xi, vI yi, vI v] w (Pv fun w1 => w1 = mup w 46 (1 + 6 * x + y) v) := by
  refine ev_of_goK (own := RX7) (ls := [some (vR 45), some (vI xi), some (vI yi), some (vI v)]) (by decide +kernel) rfl rfl (Nat.le_of_ble_eq_true rfl) rkV ?_
  intro K hK
  refine go_aload_n (j := 0) (q := 1) rfl rfl dX7_setTimes_0 rfl ?_
  refine go_getR (C0 := RX7) (T := TX7) (N := 16) (ci := 7) (i := 0) (q := 4) rfl igX7 (by first | assumption | rfl) (by decide) fl_X7_7 rfl dX7_setTimes_1 rfl ?_
  refine go_iconst (q := 5) dX7_setTimes_4 rfl ?_
  refine go_bipush (q := 7) rfl dX7_setTimes_5 rfl ?_
  refine go_iload_n (j := 1) (q := 8) rfl rfl dX7_setTimes_7 rfl ?_
  refine go_imul (q := 9) dX7_setTimes_8 rfl ?_
  refine go_iadd (q := 10) dX7_setTimes_9 rfl ?_
  refine go_iload_n (j := 2) (q := 11) rfl rfl dX7_setTimes_10 rfl ?_
  refine go_iadd (q := 12) dX7_setTimes_11 rfl ?_
  refine go_iload_n (j := 3) (q := 13) rfl rfl dX7_setTimes_12 rfl ?_
  refine go_iast (j := 1 + 6 * x + y) (q := 14) (by first | assumption | rfl) (wr_eq (by omega)) (by omega) dX7_setTimes_13 rfl ?_
  refine go_vret dX7_setTimes_14 ?_
  subst hK; exact ⟨rfl, rfl⟩
theorem em_makes (hP : PMW w W) {s : Nat} {si p q : Int} (es : si = s) (hs : 1 ≤ s ∧ s ≤ 6) (hp : -1 ≤ p ∧ p ≤ 5) (eq : q = 1 - p) : eX7_makes l D ck ad shA [vR 45, vI si, vI p, vI q] w (Pi (MR w ((wN W : Int), psh W (tS W s (linF s p))))) := by
  refine ev_of_goK (own := RX7) (ls := [some (vR 45), some (vI si), some (vI p), some (vI q), none, none, none, none]) (by decide +kernel) rfl rfl (Nat.le_of_ble_eq_true rfl) rkI ?_
  intro K hK
  refine go_aload_n (j := 0) (q := 1) rfl rfl dX7_makes_0 rfl ?_
  refine go_callVv (as := [_]) (As := []) (rest := []) (n := 0) (q := 4) dX7_makes_1 lk_X7_39 (ci := 7) (N := 16) (T := TX7) rfl (by first | assumption | rfl) rfl rfl (by decide +kernel) rfl ⟨by decide, by decide⟩ ⟨rfl, rfl⟩ (Nat.le_of_ble_eq_true rfl) (em_record hP) rfl (fun w1 h1 => ?_)
  obtain ⟨hP1, f1⟩ := h1
  have hT1 : TMv (w1 46) (wN W) (wF W) := hP1.1.1
  have e1 := hT1.1
  refine go_aload_n (j := 0) (q := 5) rfl rfl dX7_makes_4 rfl ?_
  refine go_getR (C0 := RX7) (T := TX7) (N := 16) (ci := 7) (i := 0) (q := 8) rfl igX7 (by first | assumption | rfl) (by decide) fl_X7_7 rfl dX7_makes_5 rfl ?_
  refine go_iconst (q := 9) dX7_makes_8 rfl ?_
  refine go_iald (j := 0) (q := 10) (by first | assumption | rfl) (wr_eq (by omega)) (by omega) dX7_makes_9 rfl ?_
  refine go_istore (j := 4) (q := 12) (ls2 := [_, _, _, _, _, _, _, _]) (by decide) rfl rfl dX7_makes_10 rfl ?_
  refine go_aload_n (j := 0) (q := 13) rfl rfl dX7_makes_12 rfl ?_
  refine go_getR (C0 := RX7) (T := TX7) (N := 16) (ci := 7) (i := 0) (q := 16) rfl igX7 (by first | assumption | rfl) (by decide) fl_X7_7 rfl dX7_makes_13 rfl ?_
  refine go_iconst (q := 17) dX7_makes_16 rfl ?_
  refine go_iload_n (j := 1) (q := 18) rfl rfl dX7_makes_17 rfl ?_
  refine go_iast (j := 0) (q := 19) (by first | assumption | rfl) (wr_eq (by omega)) (by omega) dX7_makes_18 rfl ?_
  refine go_iconst (q := 20) dX7_makes_19 rfl ?_
  refine go_istore (j := 5) (q := 22) (ls2 := [_, _, _, _, _, _, _, _]) (by decide) rfl rfl dX7_makes_20 rfl ?_
  have lp22 : ∀ (m22 : Nat) (x : Nat) (xi : Int) (u v : Option MV) (w2 : Mem) (ex : xi = x) (hx : x ≤ 6) (h0 : w2 46 0 = s) (hd : ∀ i j, i < x → j < 6 → i < s → j < s → w2 46 (1 + 6 * i + j) = (linF s p i j : Int)) (ho : ∀ k, 37 ≤ k → w2 46 k = w1 46 k) (hf : ∀ c k, c ≠ 46 → w2 c k = w1 c k), m22 = 6 - x → gX7_makes l D ck ad shA 22 [some (vR 45), some (vI si), some (vI p), some (vI q), (some (vI (w1 46 0))), some (vI xi), u, v] [] w2 K := by
    intro m22
    induction m22 using Nat.strongRecOn with
    | _ m22 ih22 =>
    intro x xi u v w2 ex hx h0 hd ho hf em22
    refine go_iload (j := 5) (q := 24) rfl dX7_makes_22 rfl ?_
    refine go_bipush (q := 26) rfl dX7_makes_24 rfl ?_
    refine go_icmp_ge2 (q := 29) (t := 94) dX7_makes_26 (by decide) rfl (by omega) (fun c26 => ?_) (fun c26 => ?_)
    · refine go_iload (j := 4) (q := 96) rfl dX7_makes_94 rfl ?_
      refine go_iret dX7_makes_96 ?_
      subst hK
      have hlt : ∀ x y, linF s p x y < s := fun x y => by
        have h1 := Int.emod_nonneg (p * (x : Int) + (1 - p) * (y : Int)) (b := (s : Int)) (by omega)
        have h2 := Int.emod_lt_of_pos (p * (x : Int) + (1 - p) * (y : Int)) (b := (s : Int)) (by omega)
        unfold linF; omega
      refine ⟨_, rfl, e1, PMW_S hP1 (S := tS W s (linF s p)) ⟨⟨h0, hs, fun i j (hi : i < s) (hj : j < s) => ⟨hd i j (by omega) (by omega) hi hj, hlt i j⟩⟩, DMv_c hP1.1.2 (fun k a1 a2 => ho k a1)⟩ (fun c k z => hf _ _ (by omega)), fun c k z => by rw [hf _ _ (by omega)]; exact f1 _ _ (by omega) (by omega)⟩
    · refine go_iconst (q := 30) dX7_makes_29 rfl ?_
      refine go_istore (j := 6) (q := 32) (ls2 := [_, _, _, _, _, _, _, _]) (by decide) rfl rfl dX7_makes_30 rfl ?_
      have lp32 : ∀ (m32 : Nat) (y : Nat) (yi : Int) (v2 : Option MV) (w3 : Mem) (ey : yi = y) (hy : y ≤ 6) (h03 : w3 46 0 = s) (hd3 : ∀ i j, i ≤ x → j < 6 → (i = x → j < y) → i < s → j < s → w3 46 (1 + 6 * i + j) = (linF s p i j : Int)) (ho3 : ∀ k, 37 ≤ k → w3 46 k = w1 46 k) (hf3 : ∀ c k, c ≠ 46 → w3 c k = w1 c k), m32 = 6 - y → gX7_makes l D ck ad shA 32 [some (vR 45), some (vI si), some (vI p), some (vI q), (some (vI (w1 46 0))), some (vI xi), some (vI yi), v2] [] w3 K := by
        intro m32
        induction m32 using Nat.strongRecOn with
        | _ m32 ih32 =>
        intro y yi v2 w3 ey hy h03 hd3 ho3 hf3 em32
        refine go_iload (j := 6) (q := 34) rfl dX7_makes_32 rfl ?_
        refine go_bipush (q := 36) rfl dX7_makes_34 rfl ?_
        refine go_icmp_ge2 (q := 39) (t := 88) dX7_makes_36 (by decide) rfl (by omega) (fun c36 => ?_) (fun c36 => ?_)
        · refine go_iinc (j := 5) (q := 91) (ls2 := [_, _, _, _, _, _, _, _]) rfl (by decide) rfl rfl dX7_makes_88 rfl ?_
          refine go_goto (q := 22) dX7_makes_91 (by decide) ?_
          exact ih22 _ (by omega) (x + 1) _ _ _ _ (by omega) (by omega) h03 (fun i j a1 a2 a4 a5 => hd3 i j (by omega) a2 (by omega) a4 a5) ho3 hf3 rfl
        · have b1 := linb (p := p) (x := xi) (by omega)
          have b2 := linb (p := 1 - p) (x := yi) (by omega)
          rw [← eq] at b2
          obtain ⟨z, hz⟩ : ∃ z : Nat, p * xi + q * yi = (z : Int) - 64 := ⟨(p * xi + q * yi + 64).toNat, by omega⟩
          have hmk := mk_b ⟨z, by omega⟩ ⟨s, by omega⟩ (by show s ≠ 0; omega)
          simp only [← hz, ← es] at hmk
          have hnn := Int.emod_nonneg (p * xi + q * yi) (b := si) (by omega)
          have elin : (linF s p x y : Int) = (p * xi + q * yi) % si := by
            have : linF s p x y = ((p * (x : Int) + (1 - p) * (y : Int)) % (s : Int)).toNat := rfl
            rw [this, ← ex, ← ey, ← es, ← eq]; omega
          refine go_iload_n (j := 2) (q := 40) rfl rfl dX7_makes_39 rfl ?_
          refine go_iload (j := 5) (q := 42) rfl dX7_makes_40 rfl ?_
          refine go_imul (q := 43) dX7_makes_42 rfl ?_
          refine go_iload_n (j := 3) (q := 44) rfl rfl dX7_makes_43 rfl ?_
          refine go_iload (j := 6) (q := 46) rfl dX7_makes_44 rfl ?_
          refine go_imul (q := 47) dX7_makes_46 rfl ?_
          refine go_iadd (q := 48) dX7_makes_47 rfl ?_
          refine go_iload_n (j := 1) (q := 49) rfl rfl dX7_makes_48 rfl ?_
          refine go_irem2 (q := 50) (by omega) (by omega) dX7_makes_49 rfl ?_
          refine go_istore (j := 7) (q := 52) (ls2 := [_, _, _, _, _, _, _, _]) (by decide) rfl rfl dX7_makes_50 rfl ?_
          refine go_aload_n (j := 0) (q := 53) rfl rfl dX7_makes_52 rfl ?_
          refine go_iload (j := 5) (q := 55) rfl dX7_makes_53 rfl ?_
          refine go_iload (j := 6) (q := 57) rfl dX7_makes_55 rfl ?_
          refine go_iload (j := 5) (q := 59) rfl dX7_makes_57 rfl ?_
          refine go_iload_n (j := 1) (q := 60) rfl rfl dX7_makes_59 rfl ?_
          refine go_icmp_ge2 (q := 63) (t := 78) dX7_makes_60 (by decide) rfl (by omega) (fun c60 => ?_) (fun c60 => ?_)
          · refine go_iconst (q := 79) dX7_makes_78 rfl ?_
            refine go_callVv (as := [_, _, _, _]) (As := [_, _, _]) (rest := []) (n := 3) (q := 82) dX7_makes_79 lk_X7_42 (ci := 7) (N := 16) (T := TX7) rfl (by first | assumption | rfl) rfl rfl (by decide +kernel) rfl ⟨by decide, by decide⟩ ⟨rfl, rfl⟩ (Nat.le_of_ble_eq_true rfl) (em_setTimes (x := x) (y := y) ex ey (by omega) (by omega)) rfl (fun w79 h79 => ?_)
            subst h79
            refine go_iinc (j := 6) (q := 85) (ls2 := [_, _, _, _, _, _, _, _]) rfl (by decide) rfl rfl dX7_makes_82 rfl ?_
            refine go_goto (q := 32) dX7_makes_85 (by decide) ?_
            exact ih32 _ (by omega) (y + 1) _ _ _ (by omega) (by omega) (by rw [mup_ne (by omega)]; exact h03) (by
              intro i j a1 a2 a3 a4 a5
              by_cases z : i = x ∧ j = y
              · rw [z.1, z.2, mup_eq]
                first
                | (rw [elin]; exact hmk.1)
                | omega
              · rw [mup_ne (by omega)]; exact hd3 i j a1 a2 (fun zz => by have := a3 zz; omega) a4 a5) (fun k h => by rw [mup_ne (by omega)]; exact ho3 k h) (fun c k h => by rw [mup_ne (Or.inl h)]; exact hf3 c k h) rfl
          · refine go_iload (j := 6) (q := 65) rfl dX7_makes_63 rfl ?_
            refine go_iload_n (j := 1) (q := 66) rfl rfl dX7_makes_65 rfl ?_
            refine go_icmp_ge2 (q := 69) (t := 78) dX7_makes_66 (by decide) rfl (by omega) (fun c66 => ?_) (fun c66 => ?_)
            · refine go_iconst (q := 79) dX7_makes_78 rfl ?_
              refine go_callVv (as := [_, _, _, _]) (As := [_, _, _]) (rest := []) (n := 3) (q := 82) dX7_makes_79 lk_X7_42 (ci := 7) (N := 16) (T := TX7) rfl (by first | assumption | rfl) rfl rfl (by decide +kernel) rfl ⟨by decide, by decide⟩ ⟨rfl, rfl⟩ (Nat.le_of_ble_eq_true rfl) (em_setTimes (x := x) (y := y) ex ey (by omega) (by omega)) rfl (fun w79 h79 => ?_)
              subst h79
              refine go_iinc (j := 6) (q := 85) (ls2 := [_, _, _, _, _, _, _, _]) rfl (by decide) rfl rfl dX7_makes_82 rfl ?_
              refine go_goto (q := 32) dX7_makes_85 (by decide) ?_
              exact ih32 _ (by omega) (y + 1) _ _ _ (by omega) (by omega) (by rw [mup_ne (by omega)]; exact h03) (by
                intro i j a1 a2 a3 a4 a5
                by_cases z : i = x ∧ j = y
                · rw [z.1, z.2, mup_eq]
                  first
                  | (rw [elin]; exact hmk.1)
                  | omega
                · rw [mup_ne (by omega)]; exact hd3 i j a1 a2 (fun zz => by have := a3 zz; omega) a4 a5) (fun k h => by rw [mup_ne (by omega)]; exact ho3 k h) (fun c k h => by rw [mup_ne (Or.inl h)]; exact hf3 c k h) rfl
            · refine go_iload (j := 7) (q := 71) rfl dX7_makes_69 rfl ?_
              refine go_iload_n (j := 1) (q := 72) rfl rfl dX7_makes_71 rfl ?_
              refine go_iadd (q := 73) dX7_makes_72 rfl ?_
              refine go_iload_n (j := 1) (q := 74) rfl rfl dX7_makes_73 rfl ?_
              refine go_irem2 (q := 75) (by omega) (by omega) dX7_makes_74 rfl ?_
              refine go_goto (q := 79) dX7_makes_75 (by decide) ?_
              refine go_callVv (as := [_, _, _, _]) (As := [_, _, _]) (rest := []) (n := 3) (q := 82) dX7_makes_79 lk_X7_42 (ci := 7) (N := 16) (T := TX7) rfl (by first | assumption | rfl) rfl rfl (by decide +kernel) rfl ⟨by decide, by decide⟩ ⟨rfl, rfl⟩ (Nat.le_of_ble_eq_true rfl) (em_setTimes (x := x) (y := y) ex ey (by omega) (by omega)) rfl (fun w79 h79 => ?_)
              subst h79
              refine go_iinc (j := 6) (q := 85) (ls2 := [_, _, _, _, _, _, _, _]) rfl (by decide) rfl rfl dX7_makes_82 rfl ?_
              refine go_goto (q := 32) dX7_makes_85 (by decide) ?_
              exact ih32 _ (by omega) (y + 1) _ _ _ (by omega) (by omega) (by rw [mup_ne (by omega)]; exact h03) (by
                intro i j a1 a2 a3 a4 a5
                by_cases z : i = x ∧ j = y
                · rw [z.1, z.2, mup_eq]
                  first
                  | (rw [elin]; exact hmk.1)
                  | omega
                · rw [mup_ne (by omega)]; exact hd3 i j a1 a2 (fun zz => by have := a3 zz; omega) a4 a5) (fun k h => by rw [mup_ne (by omega)]; exact ho3 k h) (fun c k h => by rw [mup_ne (Or.inl h)]; exact hf3 c k h) rfl
      exact lp32 _ 0 0 _ _ rfl (by omega) h0 (fun i j a1 a2 a3 a4 a5 => hd i j (by omega) a2 a4 a5) ho hf rfl
  exact lp22 _ 0 0 _ _ _ rfl (by omega) (by rw [mup_eq]; exact es) (fun i j h => absurd h (Nat.not_lt_zero i)) (fun k h => mup_ne (by omega)) (fun c k h => mup_ne (Or.inl h)) rfl
theorem em_makesTrivial (hP : PMW w W) {s : Nat} {si : Int} (es : si = s) (hs : 1 ≤ s ∧ s ≤ 6) : eX7_makesTrivial l D ck ad shA [vR 45, vI si] w (Pi (MR w ((wN W : Int), psh W (tS W s (linF s 1))))) := by
  refine ev_of_goK (own := RX7) (ls := [some (vR 45), some (vI si)]) (by decide +kernel) rfl rfl (Nat.le_of_ble_eq_true rfl) rkI ?_
  intro K hK
  refine go_aload_n (j := 0) (q := 1) rfl rfl dX7_makesTrivial_0 rfl ?_
  refine go_iload_n (j := 1) (q := 2) rfl rfl dX7_makesTrivial_1 rfl ?_
  refine go_iconst (q := 3) dX7_makesTrivial_2 rfl ?_
  refine go_iconst (q := 4) dX7_makesTrivial_3 rfl ?_
  refine go_callVi (as := [_, _, _, _]) (As := [_, _, _]) (rest := []) (n := 3) (q := 7) dX7_makesTrivial_4 lk_X7_46 (ci := 7) (N := 16) (T := TX7) rfl (by first | assumption | rfl) rfl rfl (by decide +kernel) rfl ⟨by decide, by decide⟩ ⟨rfl, rfl⟩ (Nat.le_of_ble_eq_true rfl) (em_makes hP es hs (by omega) (by omega)) rfl (fun x4 w4 h4 => ?_)
  skip
  refine go_iret dX7_makesTrivial_7 ?_
  subst hK; exact ⟨_, rfl, h4⟩
theorem em0 (hP : PMW w W) {x : Int} (hx : rng x) : eX7_trivial l D ck ad shA [vR 45, vI x] w (Pi (MR w (op0 W x))) := by
  refine ev_of_goK (own := RX7) (ls := [some (vR 45), some (vI x)]) (by decide +kernel) rfl rfl (Nat.le_of_ble_eq_true rfl) rkI ?_
  intro K hK
  refine go_iload_n (j := 1) (q := 1) rfl rfl dX7_trivial_0 rfl ?_
  refine go_iconst (q := 2) dX7_trivial_1 rfl ?_
  refine go_bipush (q := 4) rfl dX7_trivial_2 rfl ?_
  refine go_callSz (as := [_, _, _]) (rest := []) (n := 3) (q := 7) dX7_trivial_4 lk_X7_35 rfl (by decide +kernel) rfl ⟨by decide, by decide⟩ ⟨rfl, rfl⟩ (Nat.le_of_ble_eq_true rfl) (em_within (by omega)) rfl (fun w4 h4 => ?_) (fun w4 h4 => ?_)
  · obtain ⟨rfl, h4⟩ := h4
    refine go_if_eqF (q := 10) (t := 18) dX7_trivial_7 rfl (by decide) (by decide) ?_
    refine go_aload_n (j := 0) (q := 11) rfl rfl dX7_trivial_10 rfl ?_
    refine go_iload_n (j := 1) (q := 12) rfl rfl dX7_trivial_11 rfl ?_
    refine go_callVi (as := [_, _]) (As := [_]) (rest := []) (n := 1) (q := 15) dX7_trivial_12 lk_X7_50 (ci := 7) (N := 16) (T := TX7) rfl (by first | assumption | rfl) rfl rfl (by decide +kernel) rfl ⟨by decide, by decide⟩ ⟨rfl, rfl⟩ (Nat.le_of_ble_eq_true rfl) (em_makesTrivial hP (s := x.toNat) (by omega) (by omega)) rfl (fun x12 w12 h12 => ?_)
    skip
    refine go_goto (q := 20) dX7_trivial_15 (by decide) ?_
    refine go_iret dX7_trivial_20 ?_
    subst hK
    unfold op0
    first
    | (rw [cif_t (by omega)]; exact ⟨_, rfl, h12⟩)
    | (rw [cif_f (by omega)]; exact ⟨_, rfl, rfl, hP, fun c k _ => rfl⟩)
  · obtain ⟨rfl, h4⟩ := h4
    refine go_if_eqT (t := 18) dX7_trivial_7 (by decide) (by decide) ?_
    refine go_bipush (q := 20) rfl dX7_trivial_18 rfl ?_
    refine go_iret dX7_trivial_20 ?_
    subst hK
    unfold op0
    first
    | (rw [cif_t (by omega)]; exact ⟨_, rfl, h12⟩)
    | (rw [cif_f (by omega)]; exact ⟨_, rfl, rfl, hP, fun c k _ => rfl⟩)
theorem em1 (hP : PMW w W) {x : Int} (hx : rng x) : eX7_dihedral l D ck ad shA [vR 45, vI x] w (Pi (MR w (op1 W x))) := by
  refine ev_of_goK (own := RX7) (ls := [some (vR 45), some (vI x)]) (by decide +kernel) rfl rfl (Nat.le_of_ble_eq_true rfl) rkI ?_
  intro K hK
  refine go_iload_n (j := 1) (q := 1) rfl rfl dX7_dihedral_0 rfl ?_
  refine go_iconst (q := 2) dX7_dihedral_1 rfl ?_
  refine go_bipush (q := 4) rfl dX7_dihedral_2 rfl ?_
  refine go_callSz (as := [_, _, _]) (rest := []) (n := 3) (q := 7) dX7_dihedral_4 lk_X7_35 rfl (by decide +kernel) rfl ⟨by decide, by decide⟩ ⟨rfl, rfl⟩ (Nat.le_of_ble_eq_true rfl) (em_within (by omega)) rfl (fun w4 h4 => ?_) (fun w4 h4 => ?_)
  · obtain ⟨rfl, h4⟩ := h4
    refine go_if_eqF (q := 10) (t := 20) dX7_dihedral_7 rfl (by decide) (by decide) ?_
    refine go_aload_n (j := 0) (q := 11) rfl rfl dX7_dihedral_10 rfl ?_
    refine go_iload_n (j := 1) (q := 12) rfl rfl dX7_dihedral_11 rfl ?_
    refine go_iconst (q := 13) dX7_dihedral_12 rfl ?_
    refine go_iconst (q := 14) dX7_dihedral_13 rfl ?_
    refine go_callVi (as := [_, _, _, _]) (As := [_, _, _]) (rest := []) (n := 3) (q := 17) dX7_dihedral_14 lk_X7_46 (ci := 7) (N := 16) (T := TX7) rfl (by first | assumption | rfl) rfl rfl (by decide +kernel) rfl ⟨by decide, by decide⟩ ⟨rfl, rfl⟩ (Nat.le_of_ble_eq_true rfl) (em_makes hP (s := x.toNat) (by omega) (by omega) (by omega) (by omega)) rfl (fun x14 w14 h14 => ?_)
    skip
    refine go_goto (q := 22) dX7_dihedral_17 (by decide) ?_
    refine go_iret dX7_dihedral_22 ?_
    subst hK
    unfold op1
    first
    | (rw [cif_t (by omega)]; exact ⟨_, rfl, h14⟩)
    | (rw [cif_f (by omega)]; exact ⟨_, rfl, rfl, hP, fun c k _ => rfl⟩)
  · obtain ⟨rfl, h4⟩ := h4
    refine go_if_eqT (t := 20) dX7_dihedral_7 (by decide) (by decide) ?_
    refine go_bipush (q := 22) rfl dX7_dihedral_20 rfl ?_
    refine go_iret dX7_dihedral_22 ?_
    subst hK
    unfold op1
    first
    | (rw [cif_t (by omega)]; exact ⟨_, rfl, h14⟩)
    | (rw [cif_f (by omega)]; exact ⟨_, rfl, rfl, hP, fun c k _ => rfl⟩)
theorem em2 (hP : PMW w W) {x y : Int} (hx : rng x) (hy : rng y) : eX7_linear l D ck ad shA [vR 45, vI x, vI y] w (Pi (MR w (op2 W x y))) := by
  refine ev_of_goK (own := RX7) (ls := [some (vR 45), some (vI x), some (vI y)]) (by decide +kernel) rfl rfl (Nat.le_of_ble_eq_true rfl) rkI ?_
  intro K hK
  refine go_iload_n (j := 1) (q := 1) rfl rfl dX7_linear_0 rfl ?_
  refine go_iconst (q := 2) dX7_linear_1 rfl ?_
  refine go_bipush (q := 4) rfl dX7_linear_2 rfl ?_
  refine go_callSz (as := [_, _, _]) (rest := []) (n := 3) (q := 7) dX7_linear_4 lk_X7_35 rfl (by decide +kernel) rfl ⟨by decide, by decide⟩ ⟨rfl, rfl⟩ (Nat.le_of_ble_eq_true rfl) (em_within (by omega)) rfl (fun w4 h4 => ?_) (fun w4 h4 => ?_)
  · obtain ⟨rfl, h4⟩ := h4
    refine go_if_eqF (q := 10) (t := 31) dX7_linear_7 rfl (by decide) (by decide) ?_
    refine go_iload_n (j := 2) (q := 11) rfl rfl dX7_linear_10 rfl ?_
    refine go_iconst (q := 12) dX7_linear_11 rfl ?_
    refine go_iconst (q := 13) dX7_linear_12 rfl ?_
    refine go_callSz (as := [_, _, _]) (rest := []) (n := 3) (q := 16) dX7_linear_13 lk_X7_35 rfl (by decide +kernel) rfl ⟨by decide, by decide⟩ ⟨rfl, rfl⟩ (Nat.le_of_ble_eq_true rfl) (em_within (by omega)) rfl (fun w13 h13 => ?_) (fun w13 h13 => ?_)
    · obtain ⟨rfl, h13⟩ := h13
      refine go_if_eqF (q := 19) (t := 31) dX7_linear_16 rfl (by decide) (by decide) ?_
      refine go_aload_n (j := 0) (q := 20) rfl rfl dX7_linear_19 rfl ?_
      refine go_iload_n (j := 1) (q := 21) rfl rfl dX7_linear_20 rfl ?_
      refine go_iload_n (j := 2) (q := 22) rfl rfl dX7_linear_21 rfl ?_
      refine go_iconst (q := 23) dX7_linear_22 rfl ?_
      refine go_iload_n (j := 2) (q := 24) rfl rfl dX7_linear_23 rfl ?_
      refine go_isub (q := 25) dX7_linear_24 rfl ?_
      refine go_callVi (as := [_, _, _, _]) (As := [_, _, _]) (rest := []) (n := 3) (q := 28) dX7_linear_25 lk_X7_46 (ci := 7) (N := 16) (T := TX7) rfl (by first | assumption | rfl) rfl rfl (by decide +kernel) rfl ⟨by decide, by decide⟩ ⟨rfl, rfl⟩ (Nat.le_of_ble_eq_true rfl) (em_makes hP (s := x.toNat) (by omega) (by omega) (by omega) (by omega)) rfl (fun x25 w25 h25 => ?_)
      skip
      refine go_goto (q := 33) dX7_linear_28 (by decide) ?_
      refine go_iret dX7_linear_33 ?_
      subst hK
      unfold op2
      first
      | (rw [cif_t (by omega)]; exact ⟨_, rfl, h25⟩)
      | (rw [cif_f (by omega)]; exact ⟨_, rfl, rfl, hP, fun c k _ => rfl⟩)
    · obtain ⟨rfl, h13⟩ := h13
      refine go_if_eqT (t := 31) dX7_linear_16 (by decide) (by decide) ?_
      refine go_bipush (q := 33) rfl dX7_linear_31 rfl ?_
      refine go_iret dX7_linear_33 ?_
      subst hK
      unfold op2
      first
      | (rw [cif_t (by omega)]; exact ⟨_, rfl, h25⟩)
      | (rw [cif_f (by omega)]; exact ⟨_, rfl, rfl, hP, fun c k _ => rfl⟩)
  · obtain ⟨rfl, h4⟩ := h4
    refine go_if_eqT (t := 31) dX7_linear_7 (by decide) (by decide) ?_
    refine go_bipush (q := 33) rfl dX7_linear_31 rfl ?_
    refine go_iret dX7_linear_33 ?_
    subst hK
    unfold op2
    first
    | (rw [cif_t (by omega)]; exact ⟨_, rfl, h25⟩)
    | (rw [cif_f (by omega)]; exact ⟨_, rfl, rfl, hP, fun c k _ => rfl⟩)
end M1
