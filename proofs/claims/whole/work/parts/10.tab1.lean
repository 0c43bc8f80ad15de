section TAB1
variable {l : Launch} {D : va_G} {ck : Nat → ClassId} {ad : Nat → Nat} {sh : List Shp} {t n : Nat} {f : Nat → Nat → Nat} {w : Mem}
theorem ev_has (ht1 : sh[t]? = some (oTab t)) (hT : TB w t n f) {x : Int} (hx : -2147483648 ≤ x ∧ x < 2147483648) :
    eX5_has l D ck ad sh [vR t, vI x] w (Pz (fun w1 => w1 = w ∧ (0 ≤ x ∧ x < n)) (fun w1 => w1 = w ∧ ¬ (0 ≤ x ∧ x < n))) := by
  obtain ⟨h0, hn, hf⟩ := hT
  refine ev_of_go (own := RX5) (ls := [some (vR t), some (vI x)]) (by decide +kernel) rfl rfl (Nat.le_of_ble_eq_true rfl) (fun r w2 h => by rcases h with ⟨rfl, -⟩ | ⟨rfl, -⟩; exact Or.inr rfl; exact Or.inl rfl) ?_
  refine go_iload_n (j := 1) (q := 1) rfl rfl dX5_has_0 rfl ?_
  refine go_if_lt2 (q := 4) (t := 16) dX5_has_1 (by decide) rfl (by omega) (fun c1 => ?_) (fun c1 => ?_)
  · refine go_iconst (q := 17) dX5_has_16 rfl ?_
    refine go_iret dX5_has_17 ?_
    first | exact Or.inl ⟨rfl, rfl, by omega⟩ | exact Or.inr ⟨rfl, rfl, by omega⟩
  · refine go_iload_n (j := 1) (q := 5) rfl rfl dX5_has_4 rfl ?_
    refine go_aload_n (j := 0) (q := 6) rfl rfl dX5_has_5 rfl ?_
    refine go_getI (C0 := RX5) (T := TX5) (N := 2) (ci := 5) (i := 0) (q := 9) rfl igX5 (by first | assumption | rfl) (by decide) fl_X5_9 rfl dX5_has_6 rfl ?_
    refine go_icmp_ge2 (q := 12) (t := 16) dX5_has_9 (by decide) rfl (by omega) (fun c9 => ?_) (fun c9 => ?_)
    · refine go_iconst (q := 17) dX5_has_16 rfl ?_
      refine go_iret dX5_has_17 ?_
      first | exact Or.inl ⟨rfl, rfl, by omega⟩ | exact Or.inr ⟨rfl, rfl, by omega⟩
    · refine go_iconst (q := 13) dX5_has_12 rfl ?_
      refine go_goto (q := 17) dX5_has_13 (by decide) ?_
      refine go_iret dX5_has_17 ?_
      first | exact Or.inl ⟨rfl, rfl, by omega⟩ | exact Or.inr ⟨rfl, rfl, by omega⟩
theorem ev_times (ht1 : sh[t]? = some (oTab t)) (ht2 : sh[t + 1]? = some (rInt 36)) (hT : TB w t n f) {x y : Nat} {xi yi : Int} (ex : xi = x) (ey : yi = y) (hx : x < n) (hy : y < n) :
    eX5_times l D ck ad sh [vR t, vI xi, vI yi] w (Pi fun v w1 => v = (f x y : Int) ∧ w1 = w) := by
  obtain ⟨h0, hn, hf⟩ := hT
  refine ev_of_go (own := RX5) (ls := [some (vR t), some (vI xi), some (vI yi)]) (by decide +kernel) rfl rfl (Nat.le_of_ble_eq_true rfl) (fun r w2 ⟨v, h, _⟩ => ⟨v, h⟩) ?_
  refine go_aload_n (j := 0) (q := 1) rfl rfl dX5_times_0 rfl ?_
  refine go_getR (C0 := RX5) (T := TX5) (N := 2) (ci := 5) (i := 1) (q := 4) rfl igX5 (by first | assumption | rfl) (by decide) fl_X5_15 rfl dX5_times_1 rfl ?_
  refine go_bipush (q := 6) rfl dX5_times_4 rfl ?_
  refine go_iload_n (j := 1) (q := 7) rfl rfl dX5_times_6 rfl ?_
  refine go_imul (q := 8) dX5_times_7 rfl ?_
  refine go_iload_n (j := 2) (q := 9) rfl rfl dX5_times_8 rfl ?_
  refine go_iadd (q := 10) dX5_times_9 rfl ?_
  refine go_iald (j := 6 * x + y) (q := 11) (by first | assumption | rfl) (wr_eq (by omega)) (by omega) dX5_times_10 rfl ?_
  refine go_iret dX5_times_11 ?_
  exact ⟨_, rfl, (hf x y hx hy).1, rfl⟩
theorem ev_put (ht1 : sh[t]? = some (oTab t)) (ht2 : sh[t + 1]? = some (rInt 36)) {x y : Nat} {xi yi v : Int} (ex : xi = x) (ey : yi = y) (hx : x < 6) (hy : y < 6) :
    eX5_put l D ck ad sh [vR t, vI xi, vI yi, vI v] w (Pv fun w1 => w1 = mup w (t + 1) (6 * x + y) v) := by
  refine ev_of_go (own := RX5) (ls := [some (vR t), some (vI xi), some (vI yi), some (vI v)]) (by decide +kernel) rfl rfl (Nat.le_of_ble_eq_true rfl) (fun r w2 h => h.1) ?_
  refine go_aload_n (j := 0) (q := 1) rfl rfl dX5_put_0 rfl ?_
  refine go_getR (C0 := RX5) (T := TX5) (N := 2) (ci := 5) (i := 1) (q := 4) rfl igX5 (by first | assumption | rfl) (by decide) fl_X5_15 rfl dX5_put_1 rfl ?_
  refine go_bipush (q := 6) rfl dX5_put_4 rfl ?_
  refine go_iload_n (j := 1) (q := 7) rfl rfl dX5_put_6 rfl ?_
  refine go_imul (q := 8) dX5_put_7 rfl ?_
  refine go_iload_n (j := 2) (q := 9) rfl rfl dX5_put_8 rfl ?_
  refine go_iadd (q := 10) dX5_put_9 rfl ?_
  refine go_iload_n (j := 3) (q := 11) rfl rfl dX5_put_10 rfl ?_
  refine go_iast (j := 6 * x + y) (q := 12) (by first | assumption | rfl) (wr_eq (by omega)) (by omega) dX5_put_11 rfl ?_
  refine go_vret dX5_put_12 ?_
  exact ⟨rfl, rfl⟩
/-- the lowest z with z * y = x, or -6 -/
def isLow (n : Nat) (f : Nat → Nat → Nat) (x y : Nat) (v : Int) : Prop := (∃ z : Nat, z < n ∧ v = z ∧ f z y = x ∧ ∀ i, i < z → f i y ≠ x) ∨ (v = -6 ∧ ∀ i, i < n → f i y ≠ x)
theorem ev_lowestFactor (ht1 : sh[t]? = some (oTab t)) (ht2 : sh[t + 1]? = some (rInt 36)) (hT : TB w t n f) {x y : Nat} {xi yi : Int} (ex : xi = x) (ey : yi = y) (hx : x < n) (hy : y < n) :
    eX5_lowestFactor l D ck ad sh [vR t, vI xi, vI yi] w (Pi fun v w1 => isLow n f x y v ∧ w1 = w) := by
  have hT0 := hT
  obtain ⟨h0, hn, hf⟩ := hT
  refine ev_of_go (own := RX5) (ls := [some (vR t), some (vI xi), some (vI yi), none]) (by decide +kernel) rfl rfl (Nat.le_of_ble_eq_true rfl) (fun r w2 ⟨v, h, _⟩ => ⟨v, h⟩) ?_
  have lp : ∀ (m z : Nat) (zi : Int), zi = z → m + z = n → (∀ i, i < z → f i y ≠ x) → gX5_lowestFactor l D ck ad sh 2 [some (vR t), some (vI xi), some (vI yi), some (vI zi)] [] w (Pi fun v w1 => isLow n f x y v ∧ w1 = w) := by
    intro m
    induction m with
    | zero =>
      intro z zi ez hz hi
      refine go_iload_n (j := 3) (q := 3) rfl rfl dX5_lowestFactor_2 rfl ?_
      refine go_aload_n (j := 0) (q := 4) rfl rfl dX5_lowestFactor_3 rfl ?_
      refine go_getI (C0 := RX5) (T := TX5) (N := 2) (ci := 5) (i := 0) (q := 7) rfl igX5 (by first | assumption | rfl) (by decide) fl_X5_9 rfl dX5_lowestFactor_4 rfl ?_
      refine go_icmp_ge2 (q := 10) (t := 28) dX5_lowestFactor_7 (by decide) rfl (by omega) (fun c7 => ?_) (fun c7 => ?_)
      · refine go_bipush (q := 30) rfl dX5_lowestFactor_28 rfl ?_
        refine go_iret dX5_lowestFactor_30 ?_
        exact ⟨_, rfl, Or.inr ⟨rfl, fun i h => hi i (by omega)⟩, rfl⟩
      · omega
    | succ m ih =>
      intro z zi ez hz hi
      refine go_iload_n (j := 3) (q := 3) rfl rfl dX5_lowestFactor_2 rfl ?_
      refine go_aload_n (j := 0) (q := 4) rfl rfl dX5_lowestFactor_3 rfl ?_
      refine go_getI (C0 := RX5) (T := TX5) (N := 2) (ci := 5) (i := 0) (q := 7) rfl igX5 (by first | assumption | rfl) (by decide) fl_X5_9 rfl dX5_lowestFactor_4 rfl ?_
      refine go_icmp_ge2 (q := 10) (t := 28) dX5_lowestFactor_7 (by decide) rfl (by omega) (fun c7 => ?_) (fun c7 => ?_)
      · omega
      · refine go_aload_n (j := 0) (q := 11) rfl rfl dX5_lowestFactor_10 rfl ?_
        refine go_iload_n (j := 3) (q := 12) rfl rfl dX5_lowestFactor_11 rfl ?_
        refine go_iload_n (j := 2) (q := 13) rfl rfl dX5_lowestFactor_12 rfl ?_
        refine go_callVi (as := [_, _, _]) (As := [_, _]) (rest := []) (n := 2) (q := 16) dX5_lowestFactor_13 lk_X5_54 (ci := 5) (N := 2) (T := TX5) rfl (by first | assumption | rfl) rfl rfl (by decide +kernel) rfl ⟨by decide, by decide⟩ ⟨rfl, rfl⟩ (by decide) (ev_times ht1 ht2 hT0 (x := z) (y := y) ez ey (by omega) hy) rfl (fun x13 w13 h13 => ?_)
        obtain ⟨rfl, rfl⟩ := h13
        refine go_iload_n (j := 1) (q := 17) rfl rfl dX5_lowestFactor_16 rfl ?_
        refine go_icmp_ne2 (q := 20) (t := 22) dX5_lowestFactor_17 (by decide) rfl (by have := (hf z y (by omega) hy).2; omega) (fun c17 => ?_) (fun c17 => ?_)
        · refine go_iinc (j := 3) (q := 25) (ls2 := [_, _, _, _]) rfl (by decide) rfl rfl dX5_lowestFactor_22 rfl ?_
          refine go_goto (q := 2) dX5_lowestFactor_25 (by decide) ?_
          refine ih (z + 1) _ (by omega) (by omega) (fun i h => ?_)
            rcases Nat.lt_succ_iff_lt_or_eq.mp h with h | rfl
            · exact hi i h
            · omega
        · refine go_iload_n (j := 3) (q := 21) rfl rfl dX5_lowestFactor_20 rfl ?_
          refine go_iret dX5_lowestFactor_21 ?_
          exact ⟨_, rfl, Or.inl ⟨z, by omega, ez, by omega, hi⟩, rfl⟩
  refine go_iconst (q := 1) dX5_lowestFactor_0 rfl ?_
  refine go_istore_n (j := 3) (q := 2) (ls2 := [_, _, _, _]) rfl (by decide) rfl rfl dX5_lowestFactor_1 rfl ?_
  exact lp n 0 0 rfl (by omega) (fun i h => absurd h (Nat.not_lt_zero i))
end TAB1
