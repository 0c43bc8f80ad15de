section TAB1
variable {l : Launch} {D : va_G} {ck : Nat → ClassId} {ad : Nat → Nat} {sh : List Shp} {t n : Nat} {f : Nat → Nat → Nat} {w : Mem}
theorem ev_has (ht1 : sh[t]? = some (oTab t)) (hT : TB w t n f) {x : Int} (hx : -2147483648 ≤ x ∧ x < 2147483648) :
    eX5_has l D ck ad sh [vR t, vI x] w (Pz (fun w1 => w = w1 ∧ (0 ≤ x ∧ x < n)) (fun w1 => w = w1 ∧ ¬ (0 ≤ x ∧ x < n))) := by
  obtain ⟨h0, hn, hf⟩ := hT
  refine ev_of_go (own := RX5) (ls := [some (vR t), some (vI x)]) (by decide +kernel) rfl rfl (Nat.le_of_ble_eq_true rfl) rkZ ?_
  refine go_iload_n (j := 1) (q := 1) rfl rfl dX5_has_0 rfl ?_
  refine go_if_lt2 (q := 4) (t := 16) dX5_has_1 (by decide) rfl (by omega) (fun c1 => ?_) (fun c1 => ?_)
  · refine go_iconst (q := 17) dX5_has_16 rfl ?_
    refine go_iret dX5_has_17 ?_
    first | exact Or.inl ⟨rfl, rfl, by omega⟩ | exact Or.inr ⟨rfl, rfl, by omega⟩
  · refine go_iload_n (j := 1) (q := 5) rfl rfl dX5_has_4 rfl ?_
    refine go_aload_n (j := 0) (q := 6) rfl rfl dX5_has_5 rfl ?_
    refine go_getI (C0 := RX5) (T := TX5) (N := 2) (ci := 5) (i := 0) (q := 9) rfl igX5 (by first | assumption | rfl) (by decide) fl_X5_9 rfl dX5_has_6 rfl ?_
    refine go_icmp_ge2 (q := 12) (t := 16) dX5_has_9 (by decide) rfl (by omega) (fun c9 => ?_) (fun c9 => ?_)
    · refine go_iconst (q := 17) dX5_has_16 rfl ?_
      refine go_iret dX5_has_17 ?_
      first | exact Or.inl ⟨rfl, rfl, by omega⟩ | exact Or.inr ⟨rfl, rfl, by omega⟩
    · refine go_iconst (q := 13) dX5_has_12 rfl ?_
      refine go_goto (q := 17) dX5_has_13 (by decide) ?_
      refine go_iret dX5_has_17 ?_
      first | exact Or.inl ⟨rfl, rfl, by omega⟩ | exact Or.inr ⟨rfl, rfl, by omega⟩
theorem ev_times (ht1 : sh[t]? = some (oTab t)) (ht2 : sh[t + 1]? = some (rInt 36)) (hT : TB w t n f) {x y : Nat} {xi yi : Int} (ex : xi = x) (ey : yi = y) (hx : x < n) (hy : y < n) :
    eX5_times l D ck ad sh [vR t, vI xi, vI yi] w (Pi fun v w1 => v = (f x y : Int) ∧ w = w1) := by
  obtain ⟨h0, hn, hf⟩ := hT
  refine ev_of_go (own := RX5) (ls := [some (vR t), some (vI xi), some (vI yi)]) (by decide +kernel) rfl rfl (Nat.le_of_ble_eq_true rfl) rkI ?_
  refine go_aload_n (j := 0) (q := 1) rfl rfl dX5_times_0 rfl ?_
  refine go_getR (C0 := RX5) (T := TX5) (N := 2) (ci := 5) (i := 1) (q := 4) rfl igX5 (by first | assumption | rfl) (by decide) fl_X5_15 rfl dX5_times_1 rfl ?_
  refine go_bipush (q := 6) rfl dX5_times_4 rfl ?_
  refine go_iload_n (j := 1) (q := 7) rfl rfl dX5_times_6 rfl ?_
  refine go_imul (q := 8) dX5_times_7 rfl ?_
  refine go_iload_n (j := 2) (q := 9) rfl rfl dX5_times_8 rfl ?_
  refine go_iadd (q := 10) dX5_times_9 rfl ?_
  refine go_iald (j := 6 * x + y) (q := 11) (by first | assumption | rfl) (wr_eq (by omega)) (by omega) dX5_times_10 rfl ?_
  refine go_iret dX5_times_11 ?_
  exact ⟨_, rfl, (hf x y hx hy).1, rfl⟩
theorem ev_put (ht1 : sh[t]? = some (oTab t)) (ht2 : sh[t + 1]? = some (rInt 36)) {x y : Nat} {xi yi v : Int} (ex : xi = x) (ey : yi = y) (hx : x < 6) (hy : y < 6) :
    eX5_put l D ck ad sh [vR t, vI xi, vI yi, vI v] w (Pv fun w1 => w1 = mup w (t + 1) (6 * x + y) v) := by
  refine ev_of_go (own := RX5) (ls := [some (vR t), some (vI xi), some (vI yi), some (vI v)]) (by decide +kernel) rfl rfl (Nat.le_of_ble_eq_true rfl) rkV ?_
  refine go_aload_n (j := 0) (q := 1) rfl rfl dX5_put_0 rfl ?_
  refine go_getR (C0 := RX5) (T := TX5) (N := 2) (ci := 5) (i := 1) (q := 4) rfl igX5 (by first | assumption | rfl) (by decide) fl_X5_15 rfl dX5_put_1 rfl ?_
  refine go_bipush (q := 6) rfl dX5_put_4 rfl ?_
  refine go_iload_n (j := 1) (q := 7) rfl rfl dX5_put_6 rfl ?_
  refine go_imul (q := 8) dX5_put_7 rfl ?_
  refine go_iload_n (j := 2) (q := 9) rfl rfl dX5_put_8 rfl ?_
  refine go_iadd (q := 10) dX5_put_9 rfl ?_
  refine go_iload_n (j := 3) (q := 11) rfl rfl dX5_put_10 rfl ?_
  refine go_iast (j := 6 * x + y) (q := 12) (by first | assumption | rfl) (wr_eq (by omega)) (by omega) dX5_put_11 rfl ?_
  refine go_vret dX5_put_12 ?_
  exact ⟨rfl, rfl⟩
theorem ev_lowestFactor (ht1 : sh[t]? = some (oTab t)) (ht2 : sh[t + 1]? = some (rInt 36)) (hT : TB w t n f) {x y : Nat} {xi yi : Int} (ex : xi = x) (ey : yi = y) (hx : x < n) (hy : y < n) :
    eX5_lowestFactor l D ck ad sh [vR t, vI xi, vI yi] w (Pi fun v w1 => isLowP n (fun z => f z y = x) v ∧ w = w1) := by
  have hT0 := hT
  obtain ⟨h0, hn, hf⟩ := hT
  refine ev_of_go (own := RX5) (ls := [some (vR t), some (vI xi), some (vI yi), none]) (by decide +kernel) rfl rfl (Nat.le_of_ble_eq_true rfl) rkI ?_
  have lp : ∀ (m z : Nat) (zi : Int), zi = z → n ≤ m + z → z ≤ n → (∀ i, i < z → ¬ f i y = x) → gX5_lowestFactor l D ck ad sh 2 [some (vR t), some (vI xi), some (vI yi), some (vI zi)] [] w (Pi fun v w1 => isLowP n (fun z => f z y = x) v ∧ w = w1) := by
    intro m
    induction m with
    | zero =>
      intro z zi ez hz hz2 hi
      refine go_iload_n (j := 3) (q := 3) rfl rfl dX5_lowestFactor_2 rfl ?_
      refine go_aload_n (j := 0) (q := 4) rfl rfl dX5_lowestFactor_3 rfl ?_
      refine go_getI (C0 := RX5) (T := TX5) (N := 2) (ci := 5) (i := 0) (q := 7) rfl igX5 (by first | assumption | rfl) (by decide) fl_X5_9 rfl dX5_lowestFactor_4 rfl ?_
      refine go_icmp_ge2 (q := 10) (t := 28) dX5_lowestFactor_7 (by decide) rfl (by omega) (fun c7 => ?_) (fun c7 => ?_)
      · refine go_bipush (q := 30) rfl dX5_lowestFactor_28 rfl ?_
        refine go_iret dX5_lowestFactor_30 ?_
        exact ⟨_, rfl, Or.inr ⟨rfl, fun i h => hi i (by omega)⟩, rfl⟩
      · exact absurd c7 (by omega)
    | succ m ih =>
      intro z zi ez hz hz2 hi
      refine go_iload_n (j := 3) (q := 3) rfl rfl dX5_lowestFactor_2 rfl ?_
      refine go_aload_n (j := 0) (q := 4) rfl rfl dX5_lowestFactor_3 rfl ?_
      refine go_getI (C0 := RX5) (T := TX5) (N := 2) (ci := 5) (i := 0) (q := 7) rfl igX5 (by first | assumption | rfl) (by decide) fl_X5_9 rfl dX5_lowestFactor_4 rfl ?_
      refine go_icmp_ge2 (q := 10) (t := 28) dX5_lowestFactor_7 (by decide) rfl (by omega) (fun c7 => ?_) (fun c7 => ?_)
      · refine go_bipush (q := 30) rfl dX5_lowestFactor_28 rfl ?_
        refine go_iret dX5_lowestFactor_30 ?_
        exact ⟨_, rfl, Or.inr ⟨rfl, fun i h => hi i (by omega)⟩, rfl⟩
      · refine go_aload_n (j := 0) (q := 11) rfl rfl dX5_lowestFactor_10 rfl ?_
        refine go_iload_n (j := 3) (q := 12) rfl rfl dX5_lowestFactor_11 rfl ?_
        refine go_iload_n (j := 2) (q := 13) rfl rfl dX5_lowestFactor_12 rfl ?_
        refine go_callVi (as := [_, _, _]) (As := [_, _]) (rest := []) (n := 2) (q := 16) dX5_lowestFactor_13 lk_X5_54 (ci := 5) (N := 2) (T := TX5) rfl (by first | assumption | rfl) rfl rfl (by decide +kernel) rfl ⟨by decide, by decide⟩ ⟨rfl, rfl⟩ (Nat.le_of_ble_eq_true rfl) (ev_times ht1 ht2 hT0 (x := z) (y := y) ez ey (by omega) hy) rfl (fun x13 w13 h13 => ?_)
        obtain ⟨rfl, rfl⟩ := h13
        refine go_iload_n (j := 1) (q := 17) rfl rfl dX5_lowestFactor_16 rfl ?_
        refine go_icmp_ne2 (q := 20) (t := 22) dX5_lowestFactor_17 (by decide) rfl (by have := (hf z y (by omega) hy).2; omega) (fun c17 => ?_) (fun c17 => ?_)
        · refine go_iinc (j := 3) (q := 25) (ls2 := [_, _, _, _]) rfl (by decide) rfl rfl dX5_lowestFactor_22 rfl ?_
          refine go_goto (q := 2) dX5_lowestFactor_25 (by decide) ?_
          exact ih (z + 1) _ (by omega) (by omega) (by omega) (fun i h => all_lt hi (by omega) h)
        · refine go_iload_n (j := 3) (q := 21) rfl rfl dX5_lowestFactor_20 rfl ?_
          refine go_iret dX5_lowestFactor_21 ?_
          exact ⟨_, rfl, Or.inl ⟨z, by omega, ez, by omega, hi⟩, rfl⟩
  refine go_iconst (q := 1) dX5_lowestFactor_0 rfl ?_
  refine go_istore_n (j := 3) (q := 2) (ls2 := [_, _, _, _]) rfl (by decide) rfl rfl dX5_lowestFactor_1 rfl ?_
  exact lp n 0 0 rfl (by omega) (by omega) (fun i h => absurd h (Nat.not_lt_zero i))
theorem ev_firstNotIdempotent (ht1 : sh[t]? = some (oTab t)) (ht2 : sh[t + 1]? = some (rInt 36)) (hT : TB w t n f) :
    eX5_firstNotIdempotent l D ck ad sh [vR t] w (Pi fun v w1 => isLowP n (fun z => ¬ f z z = z) v ∧ w = w1) := by
  have hT0 := hT
  obtain ⟨h0, hn, hf⟩ := hT
  refine ev_of_go (own := RX5) (ls := [some (vR t), none]) (by decide +kernel) rfl rfl (Nat.le_of_ble_eq_true rfl) rkI ?_
  have lp : ∀ (m z : Nat) (zi : Int), zi = z → n ≤ m + z → z ≤ n → (∀ i, i < z → ¬ ¬ f i i = i) → gX5_firstNotIdempotent l D ck ad sh 2 [some (vR t), some (vI zi)] [] w (Pi fun v w1 => isLowP n (fun z => ¬ f z z = z) v ∧ w = w1) := by
    intro m
    induction m with
    | zero =>
      intro z zi ez hz hz2 hi
      refine go_iload_n (j := 1) (q := 3) rfl rfl dX5_firstNotIdempotent_2 rfl ?_
      refine go_aload_n (j := 0) (q := 4) rfl rfl dX5_firstNotIdempotent_3 rfl ?_
      refine go_getI (C0 := RX5) (T := TX5) (N := 2) (ci := 5) (i := 0) (q := 7) rfl igX5 (by first | assumption | rfl) (by decide) fl_X5_9 rfl dX5_firstNotIdempotent_4 rfl ?_
      refine go_icmp_ge2 (q := 10) (t := 28) dX5_firstNotIdempotent_7 (by decide) rfl (by omega) (fun c7 => ?_) (fun c7 => ?_)
      · refine go_bipush (q := 30) rfl dX5_firstNotIdempotent_28 rfl ?_
        refine go_iret dX5_firstNotIdempotent_30 ?_
        exact ⟨_, rfl, Or.inr ⟨rfl, fun i h => hi i (by omega)⟩, rfl⟩
      · exact absurd c7 (by omega)
    | succ m ih =>
      intro z zi ez hz hz2 hi
      refine go_iload_n (j := 1) (q := 3) rfl rfl dX5_firstNotIdempotent_2 rfl ?_
      refine go_aload_n (j := 0) (q := 4) rfl rfl dX5_firstNotIdempotent_3 rfl ?_
      refine go_getI (C0 := RX5) (T := TX5) (N := 2) (ci := 5) (i := 0) (q := 7) rfl igX5 (by first | assumption | rfl) (by decide) fl_X5_9 rfl dX5_firstNotIdempotent_4 rfl ?_
      refine go_icmp_ge2 (q := 10) (t := 28) dX5_firstNotIdempotent_7 (by decide) rfl (by omega) (fun c7 => ?_) (fun c7 => ?_)
      · refine go_bipush (q := 30) rfl dX5_firstNotIdempotent_28 rfl ?_
        refine go_iret dX5_firstNotIdempotent_30 ?_
        exact ⟨_, rfl, Or.inr ⟨rfl, fun i h => hi i (by omega)⟩, rfl⟩
      · refine go_aload_n (j := 0) (q := 11) rfl rfl dX5_firstNotIdempotent_10 rfl ?_
        refine go_iload_n (j := 1) (q := 12) rfl rfl dX5_firstNotIdempotent_11 rfl ?_
        refine go_iload_n (j := 1) (q := 13) rfl rfl dX5_firstNotIdempotent_12 rfl ?_
        refine go_callVi (as := [_, _, _]) (As := [_, _]) (rest := []) (n := 2) (q := 16) dX5_firstNotIdempotent_13 lk_X5_54 (ci := 5) (N := 2) (T := TX5) rfl (by first | assumption | rfl) rfl rfl (by decide +kernel) rfl ⟨by decide, by decide⟩ ⟨rfl, rfl⟩ (Nat.le_of_ble_eq_true rfl) (ev_times ht1 ht2 hT0 (x := z) (y := z) ez ez (by omega) (by omega)) rfl (fun x13 w13 h13 => ?_)
        obtain ⟨rfl, rfl⟩ := h13
        refine go_iload_n (j := 1) (q := 17) rfl rfl dX5_firstNotIdempotent_16 rfl ?_
        refine go_icmp_eq2 (q := 20) (t := 22) dX5_firstNotIdempotent_17 (by decide) rfl (by have := (hf z z (by omega) (by omega)).2; omega) (fun c17 => ?_) (fun c17 => ?_)
        · refine go_iinc (j := 1) (q := 25) (ls2 := [_, _]) rfl (by decide) rfl rfl dX5_firstNotIdempotent_22 rfl ?_
          refine go_goto (q := 2) dX5_firstNotIdempotent_25 (by decide) ?_
          exact ih (z + 1) _ (by omega) (by omega) (by omega) (fun i h => all_lt hi (by omega) h)
        · refine go_iload_n (j := 1) (q := 21) rfl rfl dX5_firstNotIdempotent_20 rfl ?_
          refine go_iret dX5_firstNotIdempotent_21 ?_
          exact ⟨_, rfl, Or.inl ⟨z, by omega, ez, by omega, hi⟩, rfl⟩
  refine go_iconst (q := 1) dX5_firstNotIdempotent_0 rfl ?_
  refine go_istore_n (j := 1) (q := 2) (ls2 := [_, _]) rfl (by decide) rfl rfl dX5_firstNotIdempotent_1 rfl ?_
  exact lp n 0 0 rfl (by omega) (by omega) (fun i h => absurd h (Nat.not_lt_zero i))
theorem ev_allElements (ht1 : sh[t]? = some (oTab t)) (hT : TB w t n f) :
    eX5_allElements l D ck ad sh [vR t] w (Pi fun v w1 => v = ((2 ^ n - 1 : Nat) : Int) ∧ w = w1) := by
  obtain ⟨h0, hn, hf⟩ := hT
  refine ev_of_go (own := RX5) (ls := [some (vR t)]) (by decide +kernel) rfl rfl (Nat.le_of_ble_eq_true rfl) rkI ?_
  refine go_iconst (q := 1) dX5_allElements_0 rfl ?_
  refine go_aload_n (j := 0) (q := 2) rfl rfl dX5_allElements_1 rfl ?_
  refine go_getI (C0 := RX5) (T := TX5) (N := 2) (ci := 5) (i := 0) (q := 5) rfl igX5 (by first | assumption | rfl) (by decide) fl_X5_9 rfl dX5_allElements_2 rfl ?_
  refine go_ishl (q := 6) dX5_allElements_5 rfl ?_
  refine go_iconst (q := 7) dX5_allElements_6 rfl ?_
  refine go_isub (q := 8) dX5_allElements_7 rfl ?_
  refine go_iret dX5_allElements_8 ?_
  refine ⟨_, rfl, ?_, rfl⟩
  rw [h0, shl_eq (by omega)]
  have := Nat.one_le_two_pow (n := n)
  omega
theorem ev_isPermutation (ht1 : sh[t]? = some (oTab t)) (ht2 : sh[t + 1]? = some (rInt 36)) (hT : TB w t n f) {y : Nat} {yi : Int} (ey : yi = y) (hy : y < n) :
    eX5_isPermutation l D ck ad sh [vR t, vI yi] w (Pz (fun w1 => w = w1 ∧ prm n f y) (fun w1 => w = w1 ∧ ¬ prm n f y)) := by
  have hT0 := hT
  obtain ⟨h0, hn, hf⟩ := hT
  have mlt : ∀ z, z ≤ n → msk (fun x => f x y) z < 2 ^ n := by
    intro z
    induction z with
    | zero => intro _; exact Nat.two_pow_pos n
    | succ z ih => intro hz; exact or_lt (ih (by omega)) (two_lt (hf z y (by omega) hy).2)
  have h64 : 2 ^ n ≤ 2 ^ 6 := Nat.pow_le_pow_right (by decide) hn.2
  refine ev_of_go (own := RX5) (ls := [some (vR t), some (vI yi), none, none]) (by decide +kernel) rfl rfl (Nat.le_of_ble_eq_true rfl) rkZ ?_
  have lp : ∀ (m z : Nat) (zi : Int) (im : Int), zi = z → n ≤ m + z → z ≤ n → im = (msk (fun x => f x y) z : Nat) → gX5_isPermutation l D ck ad sh 4 [some (vR t), some (vI yi), some (vI im), some (vI zi)] [] w (Pz (fun w1 => w = w1 ∧ prm n f y) (fun w1 => w = w1 ∧ ¬ prm n f y)) := by
    intro m
    induction m with
    | zero =>
      intro z zi im ez hz hz2 ei
      refine go_iload_n (j := 3) (q := 5) rfl rfl dX5_isPermutation_4 rfl ?_
      refine go_aload_n (j := 0) (q := 6) rfl rfl dX5_isPermutation_5 rfl ?_
      refine go_getI (C0 := RX5) (T := TX5) (N := 2) (ci := 5) (i := 0) (q := 9) rfl igX5 (by first | assumption | rfl) (by decide) fl_X5_9 rfl dX5_isPermutation_6 rfl ?_
      refine go_icmp_ge2 (q := 12) (t := 29) dX5_isPermutation_9 (by decide) rfl (by omega) (fun c9 => ?_) (fun c9 => ?_)
      · refine go_iload_n (j := 2) (q := 30) rfl rfl dX5_isPermutation_29 rfl ?_
        refine go_aload_n (j := 0) (q := 31) rfl rfl dX5_isPermutation_30 rfl ?_
        refine go_callVi (as := [_]) (As := []) (rest := [_]) (n := 0) (q := 34) dX5_isPermutation_31 lk_X5_61 (ci := 5) (N := 2) (T := TX5) rfl (by first | assumption | rfl) rfl rfl (by decide +kernel) rfl ⟨by decide, by decide⟩ ⟨rfl, rfl⟩ (Nat.le_of_ble_eq_true rfl) (ev_allElements ht1 hT0) rfl (fun x31 w31 h31 => ?_)
        obtain ⟨rfl, rfl⟩ := h31
        have e0 : z = n := by omega
        have h2 := mlt n (by omega)
        subst e0
        refine go_icmp_ne2 (q := 37) (t := 41) dX5_isPermutation_34 (by decide) rfl (by omega) (fun c34 => ?_) (fun c34 => ?_)
        · refine go_iconst (q := 42) dX5_isPermutation_41 rfl ?_
          refine go_iret dX5_isPermutation_42 ?_
          first | exact Or.inl ⟨rfl, rfl, by unfold prm; omega⟩ | exact Or.inr ⟨rfl, rfl, by unfold prm; omega⟩
        · refine go_iconst (q := 38) dX5_isPermutation_37 rfl ?_
          refine go_goto (q := 42) dX5_isPermutation_38 (by decide) ?_
          refine go_iret dX5_isPermutation_42 ?_
          first | exact Or.inl ⟨rfl, rfl, by unfold prm; omega⟩ | exact Or.inr ⟨rfl, rfl, by unfold prm; omega⟩
      · exact absurd c9 (by omega)
    | succ m ih =>
      intro z zi im ez hz hz2 ei
      refine go_iload_n (j := 3) (q := 5) rfl rfl dX5_isPermutation_4 rfl ?_
      refine go_aload_n (j := 0) (q := 6) rfl rfl dX5_isPermutation_5 rfl ?_
      refine go_getI (C0 := RX5) (T := TX5) (N := 2) (ci := 5) (i := 0) (q := 9) rfl igX5 (by first | assumption | rfl) (by decide) fl_X5_9 rfl dX5_isPermutation_6 rfl ?_
      refine go_icmp_ge2 (q := 12) (t := 29) dX5_isPermutation_9 (by decide) rfl (by omega) (fun c9 => ?_) (fun c9 => ?_)
      · refine go_iload_n (j := 2) (q := 30) rfl rfl dX5_isPermutation_29 rfl ?_
        refine go_aload_n (j := 0) (q := 31) rfl rfl dX5_isPermutation_30 rfl ?_
        refine go_callVi (as := [_]) (As := []) (rest := [_]) (n := 0) (q := 34) dX5_isPermutation_31 lk_X5_61 (ci := 5) (N := 2) (T := TX5) rfl (by first | assumption | rfl) rfl rfl (by decide +kernel) rfl ⟨by decide, by decide⟩ ⟨rfl, rfl⟩ (Nat.le_of_ble_eq_true rfl) (ev_allElements ht1 hT0) rfl (fun x31 w31 h31 => ?_)
        obtain ⟨rfl, rfl⟩ := h31
        have e0 : z = n := by omega
        have h2 := mlt n (by omega)
        subst e0
        refine go_icmp_ne2 (q := 37) (t := 41) dX5_isPermutation_34 (by decide) rfl (by omega) (fun c34 => ?_) (fun c34 => ?_)
        · refine go_iconst (q := 42) dX5_isPermutation_41 rfl ?_
          refine go_iret dX5_isPermutation_42 ?_
          first | exact Or.inl ⟨rfl, rfl, by unfold prm; omega⟩ | exact Or.inr ⟨rfl, rfl, by unfold prm; omega⟩
        · refine go_iconst (q := 38) dX5_isPermutation_37 rfl ?_
          refine go_goto (q := 42) dX5_isPermutation_38 (by decide) ?_
          refine go_iret dX5_isPermutation_42 ?_
          first | exact Or.inl ⟨rfl, rfl, by unfold prm; omega⟩ | exact Or.inr ⟨rfl, rfl, by unfold prm; omega⟩
      · refine go_iload_n (j := 2) (q := 13) rfl rfl dX5_isPermutation_12 rfl ?_
        refine go_iconst (q := 14) dX5_isPermutation_13 rfl ?_
        refine go_aload_n (j := 0) (q := 15) rfl rfl dX5_isPermutation_14 rfl ?_
        refine go_iload_n (j := 3) (q := 16) rfl rfl dX5_isPermutation_15 rfl ?_
        refine go_iload_n (j := 1) (q := 17) rfl rfl dX5_isPermutation_16 rfl ?_
        refine go_callVi (as := [_, _, _]) (As := [_, _]) (rest := [_, _]) (n := 2) (q := 20) dX5_isPermutation_17 lk_X5_54 (ci := 5) (N := 2) (T := TX5) rfl (by first | assumption | rfl) rfl rfl (by decide +kernel) rfl ⟨by decide, by decide⟩ ⟨rfl, rfl⟩ (Nat.le_of_ble_eq_true rfl) (ev_times ht1 ht2 hT0 (x := z) (y := y) ez ey (by omega) hy) rfl (fun x17 w17 h17 => ?_)
        obtain ⟨rfl, rfl⟩ := h17
        refine go_ishl (q := 21) dX5_isPermutation_20 rfl ?_
        refine go_ior (q := 22) dX5_isPermutation_21 rfl ?_
        refine go_istore_n (j := 2) (q := 23) (ls2 := [_, _, _, _]) rfl (by decide) rfl rfl dX5_isPermutation_22 rfl ?_
        refine go_iinc (j := 3) (q := 26) (ls2 := [_, _, _, _]) rfl (by decide) rfl rfl dX5_isPermutation_23 rfl ?_
        refine go_goto (q := 4) dX5_isPermutation_26 (by decide) ?_
        refine ih (z + 1) _ _ (by omega) (by omega) (by omega) ?_
        have h1 := (hf z y (by omega) hy).2
        have h2 := mlt z (by omega)
        have h3 : 2 ^ f z y < 2 ^ n := two_lt h1
        rw [ei, shl_eq (by omega), or_eq (by omega) (by omega)]
        rfl
  refine go_iconst (q := 1) dX5_isPermutation_0 rfl ?_
  refine go_istore_n (j := 2) (q := 2) (ls2 := [_, _, _, _]) rfl (by decide) rfl rfl dX5_isPermutation_1 rfl ?_
  refine go_iconst (q := 3) dX5_isPermutation_2 rfl ?_
  refine go_istore_n (j := 3) (q := 4) (ls2 := [_, _, _, _]) rfl (by decide) rfl rfl dX5_isPermutation_3 rfl ?_
  exact lp n 0 0 _ rfl (by omega) (by omega) rfl
theorem ev_firstNoPermutation (ht1 : sh[t]? = some (oTab t)) (ht2 : sh[t + 1]? = some (rInt 36)) (hT : TB w t n f) :
    eX5_firstNoPermutation l D ck ad sh [vR t] w (Pi fun v w1 => isLowP n (fun z => ¬ prm n f z) v ∧ w = w1) := by
  have hT0 := hT
  obtain ⟨h0, hn, hf⟩ := hT
  refine ev_of_go (own := RX5) (ls := [some (vR t), none]) (by decide +kernel) rfl rfl (Nat.le_of_ble_eq_true rfl) rkI ?_
  have lp : ∀ (m z : Nat) (zi : Int), zi = z → n ≤ m + z → z ≤ n → (∀ i, i < z → ¬ ¬ prm n f i) → gX5_firstNoPermutation l D ck ad sh 2 [some (vR t), some (vI zi)] [] w (Pi fun v w1 => isLowP n (fun z => ¬ prm n f z) v ∧ w = w1) := by
    intro m
    induction m with
    | zero =>
      intro z zi ez hz hz2 hi
      refine go_iload_n (j := 1) (q := 3) rfl rfl dX5_firstNoPermutation_2 rfl ?_
      refine go_aload_n (j := 0) (q := 4) rfl rfl dX5_firstNoPermutation_3 rfl ?_
      refine go_getI (C0 := RX5) (T := TX5) (N := 2) (ci := 5) (i := 0) (q := 7) rfl igX5 (by first | assumption | rfl) (by decide) fl_X5_9 rfl dX5_firstNoPermutation_4 rfl ?_
      refine go_icmp_ge2 (q := 10) (t := 26) dX5_firstNoPermutation_7 (by decide) rfl (by omega) (fun c7 => ?_) (fun c7 => ?_)
      · refine go_bipush (q := 28) rfl dX5_firstNoPermutation_26 rfl ?_
        refine go_iret dX5_firstNoPermutation_28 ?_
        exact ⟨_, rfl, Or.inr ⟨rfl, fun i h => hi i (by omega)⟩, rfl⟩
      · exact absurd c7 (by omega)
    | succ m ih =>
      intro z zi ez hz hz2 hi
      refine go_iload_n (j := 1) (q := 3) rfl rfl dX5_firstNoPermutation_2 rfl ?_
      refine go_aload_n (j := 0) (q := 4) rfl rfl dX5_firstNoPermutation_3 rfl ?_
      refine go_getI (C0 := RX5) (T := TX5) (N := 2) (ci := 5) (i := 0) (q := 7) rfl igX5 (by first | assumption | rfl) (by decide) fl_X5_9 rfl dX5_firstNoPermutation_4 rfl ?_
      refine go_icmp_ge2 (q := 10) (t := 26) dX5_firstNoPermutation_7 (by decide) rfl (by omega) (fun c7 => ?_) (fun c7 => ?_)
      · refine go_bipush (q := 28) rfl dX5_firstNoPermutation_26 rfl ?_
        refine go_iret dX5_firstNoPermutation_28 ?_
        exact ⟨_, rfl, Or.inr ⟨rfl, fun i h => hi i (by omega)⟩, rfl⟩
      · refine go_aload_n (j := 0) (q := 11) rfl rfl dX5_firstNoPermutation_10 rfl ?_
        refine go_iload_n (j := 1) (q := 12) rfl rfl dX5_firstNoPermutation_11 rfl ?_
        refine go_callVz (as := [_, _]) (As := [_]) (rest := []) (n := 1) (q := 15) dX5_firstNoPermutation_12 lk_X5_57 (ci := 5) (N := 2) (T := TX5) rfl (by first | assumption | rfl) rfl rfl (by decide +kernel) rfl ⟨by decide, by decide⟩ ⟨rfl, rfl⟩ (Nat.le_of_ble_eq_true rfl) (ev_isPermutation ht1 ht2 hT0 (y := z) ez (by omega)) rfl (fun w12 h12 => ?_) (fun w12 h12 => ?_)
        · obtain ⟨rfl, h12⟩ := h12
          refine go_if_neT (t := 20) dX5_firstNoPermutation_15 (by decide) (by decide) ?_
          refine go_iinc (j := 1) (q := 23) (ls2 := [_, _]) rfl (by decide) rfl rfl dX5_firstNoPermutation_20 rfl ?_
          refine go_goto (q := 2) dX5_firstNoPermutation_23 (by decide) ?_
          exact ih (z + 1) _ (by omega) (by omega) (by omega) (fun i h => all_lt hi (fun q => q h12) h)
        · obtain ⟨rfl, h12⟩ := h12
          refine go_if_neF (q := 18) (t := 20) dX5_firstNoPermutation_15 rfl (by decide) (by decide) ?_
          refine go_iload_n (j := 1) (q := 19) rfl rfl dX5_firstNoPermutation_18 rfl ?_
          refine go_iret dX5_firstNoPermutation_19 ?_
          exact ⟨_, rfl, Or.inl ⟨z, by omega, ez, h12, hi⟩, rfl⟩
  refine go_iconst (q := 1) dX5_firstNoPermutation_0 rfl ?_
  refine go_istore_n (j := 1) (q := 2) (ls2 := [_, _]) rfl (by decide) rfl rfl dX5_firstNoPermutation_1 rfl ?_
  exact lp n 0 0 rfl (by omega) (by omega) (fun i h => absurd h (Nat.not_lt_zero i))
end TAB1
