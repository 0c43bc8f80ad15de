/-! rounds over two places -/
def rnd2 (g : Nat → Nat → Nat → Nat) (n m : Nat) : Nat := fN (fun a m => fN (fun b m => g a b m) m n) m n
def stR (f : Nat → Nat → Nat) (a b m : Nat) : Nat := if m.testBit a then m ||| 2 ^ f a b else m
def stK (f : Nat → Nat → Nat) (a b m : Nat) : Nat := if m.testBit a = true ∧ m.testBit b = true then m ||| 2 ^ f a b else m
def lnk (f : Nat → Nat → Nat) (a b : Nat) : Nat := 2 ^ a ||| 2 ^ f a b
def stC (f : Nat → Nat → Nat) (a b m : Nat) : Nat := if m &&& lnk f a b = 0 then m else m ||| lnk f a b
def bad3 (f : Nat → Nat → Nat) (x y z : Nat) : Prop := ¬ f (f x y) z = f (f x z) (f y z)
def isLow3 (n : Nat) (f : Nat → Nat → Nat) (v : Int) : Prop :=
  (∃ x y z : Nat, (x < n ∧ y < n ∧ z < n) ∧ v = 100 * x + 10 * y + z ∧ bad3 f x y z ∧ ∀ i j k, i < n → j < n → k < n → (i < x ∨ (i = x ∧ (j < y ∨ (j = y ∧ k < z)))) → ¬ bad3 f i j k) ∨
  (v = -6 ∧ ∀ i j k, i < n → j < n → k < n → ¬ bad3 f i j k)
def idA (n : Nat) (f : Nat → Nat → Nat) (y k : Nat) : Prop := ∀ x, x < n → itN (fun z => f z y) x k = x
def smT (n : Nat) (f : Nat → Nat → Nat) (y z : Nat) : Prop := ∀ x, x < n → f x y = f x z
theorem itN_lt {n : Nat} {r : Nat → Nat} (h : ∀ i, i < n → r i < n) {m : Nat} (hm : m < n) : ∀ k, itN r m k < n
  | 0 => hm
  | k + 1 => h _ (itN_lt h hm k)
section TAB2
variable {l : Launch} {D : va_G} {ck : Nat → ClassId} {ad : Nat → Nat} {sh : List Shp} {t n : Nat} {f : Nat → Nat → Nat} {w : Mem}
theorem ev_firstNotDistributive (ht1 : sh[t]? = some (oTab t)) (ht2 : sh[t + 1]? = some (rInt 36)) (hT : TB w t n f) :
    eX5_firstNotDistributive l D ck ad sh [vR t] w (Pi fun v w1 => isLow3 n f v ∧ w = w1) := by
  have hT0 := hT
  obtain ⟨h0, hn, hf⟩ := hT
  refine ev_of_go (own := RX5) (ls := [some (vR t), none, none, none]) (by decide +kernel) rfl rfl (Nat.le_of_ble_eq_true rfl) rkI ?_
  generalize hK : (Pi fun v w1 => isLow3 n f v ∧ w = w1) = K
  have hr : ∀ i j, i < n → j < n → f i j < n := fun i j hi hj => (hf i j hi hj).2
  have lp3 : ∀ (x y : Nat) (xi yi : Int), xi = x → yi = y → x < n → y < n → (∀ i j k, i < n → j < n → k < n → (i < x ∨ (i = x ∧ j < y)) → ¬ bad3 f i j k) →
      ((∀ k, k < n → ¬ bad3 f x y k) → ∀ zi : Int, gX5_firstNotDistributive l D ck ad sh 78 [some (vR t), some (vI xi), some (vI yi), some (vI zi)] [] w K) →
      ∀ (m z : Nat) (zi : Int), zi = z → n ≤ m + z → z ≤ n → (∀ i, i < z → ¬ bad3 f x y i) → gX5_firstNotDistributive l D ck ad sh 22 [some (vR t), some (vI xi), some (vI yi), some (vI zi)] [] w K := by
    intro x y xi yi ex ey hx hy ha hk m
    induction m with
    | zero =>
      intro z zi ez hz hz2 hi
      refine go_iload_n (j := 3) (q := 23) rfl rfl dX5_firstNotDistributive_22 rfl ?_
      refine go_aload_n (j := 0) (q := 24) rfl rfl dX5_firstNotDistributive_23 rfl ?_
      refine go_getI (C0 := RX5) (T := TX5) (N := 2) (ci := 5) (i := 0) (q := 27) rfl igX5 (by first | assumption | rfl) (by decide) fl_X5_9 rfl dX5_firstNotDistributive_24 rfl ?_
      refine go_icmp_ge2 (q := 30) (t := 78) dX5_firstNotDistributive_27 (by decide) rfl (by omega) (fun c27 => ?_) (fun c27 => ?_)
      · exact hk (fun k h => hi k (by omega)) _
      · exact absurd c27 (by omega)
    | succ m ih =>
      intro z zi ez hz hz2 hi
      refine go_iload_n (j := 3) (q := 23) rfl rfl dX5_firstNotDistributive_22 rfl ?_
      refine go_aload_n (j := 0) (q := 24) rfl rfl dX5_firstNotDistributive_23 rfl ?_
      refine go_getI (C0 := RX5) (T := TX5) (N := 2) (ci := 5) (i := 0) (q := 27) rfl igX5 (by first | assumption | rfl) (by decide) fl_X5_9 rfl dX5_firstNotDistributive_24 rfl ?_
      refine go_icmp_ge2 (q := 30) (t := 78) dX5_firstNotDistributive_27 (by decide) rfl (by omega) (fun c27 => ?_) (fun c27 => ?_)
      · exact hk (fun k h => hi k (by omega)) _
      · refine go_aload_n (j := 0) (q := 31) rfl rfl dX5_firstNotDistributive_30 rfl ?_
        refine go_aload_n (j := 0) (q := 32) rfl rfl dX5_firstNotDistributive_31 rfl ?_
        refine go_iload_n (j := 1) (q := 33) rfl rfl dX5_firstNotDistributive_32 rfl ?_
        refine go_iload_n (j := 2) (q := 34) rfl rfl dX5_firstNotDistributive_33 rfl ?_
        refine go_callVi (as := [_, _, _]) (As := [_, _]) (rest := [_]) (n := 2) (q := 37) dX5_firstNotDistributive_34 lk_X5_54 (ci := 5) (N := 2) (T := TX5) rfl (by first | assumption | rfl) rfl rfl (by decide +kernel) rfl ⟨by decide, by decide⟩ ⟨rfl, rfl⟩ (Nat.le_of_ble_eq_true rfl) (ev_times ht1 ht2 hT0 (x := x) (y := y) ex ey (by omega) (by omega)) rfl (fun x34 w34 h34 => ?_)
        obtain ⟨rfl, rfl⟩ := h34
        refine go_iload_n (j := 3) (q := 38) rfl rfl dX5_firstNotDistributive_37 rfl ?_
        refine go_callVi (as := [_, _, _]) (As := [_, _]) (rest := []) (n := 2) (q := 41) dX5_firstNotDistributive_38 lk_X5_54 (ci := 5) (N := 2) (T := TX5) rfl (by first | assumption | rfl) rfl rfl (by decide +kernel) rfl ⟨by decide, by decide⟩ ⟨rfl, rfl⟩ (Nat.le_of_ble_eq_true rfl) (ev_times ht1 ht2 hT0 (x := f x y) (y := z) rfl ez (hr _ _ (by omega) (by omega)) (by omega)) rfl (fun x38 w38 h38 => ?_)
        obtain ⟨rfl, rfl⟩ := h38
        refine go_aload_n (j := 0) (q := 42) rfl rfl dX5_firstNotDistributive_41 rfl ?_
        refine go_aload_n (j := 0) (q := 43) rfl rfl dX5_firstNotDistributive_42 rfl ?_
        refine go_iload_n (j := 1) (q := 44) rfl rfl dX5_firstNotDistributive_43 rfl ?_
        refine go_iload_n (j := 3) (q := 45) rfl rfl dX5_firstNotDistributive_44 rfl ?_
        refine go_callVi (as := [_, _, _]) (As := [_, _]) (rest := [_, _]) (n := 2) (q := 48) dX5_firstNotDistributive_45 lk_X5_54 (ci := 5) (N := 2) (T := TX5) rfl (by first | assumption | rfl) rfl rfl (by decide +kernel) rfl ⟨by decide, by decide⟩ ⟨rfl, rfl⟩ (Nat.le_of_ble_eq_true rfl) (ev_times ht1 ht2 hT0 (x := x) (y := z) ex ez (by omega) (by omega)) rfl (fun x45 w45 h45 => ?_)
        obtain ⟨rfl, rfl⟩ := h45
        refine go_aload_n (j := 0) (q := 49) rfl rfl dX5_firstNotDistributive_48 rfl ?_
        refine go_iload_n (j := 2) (q := 50) rfl rfl dX5_firstNotDistributive_49 rfl ?_
        refine go_iload_n (j := 3) (q := 51) rfl rfl dX5_firstNotDistributive_50 rfl ?_
        refine go_callVi (as := [_, _, _]) (As := [_, _]) (rest := [_, _, _]) (n := 2) (q := 54) dX5_firstNotDistributive_51 lk_X5_54 (ci := 5) (N := 2) (T := TX5) rfl (by first | assumption | rfl) rfl rfl (by decide +kernel) rfl ⟨by decide, by decide⟩ ⟨rfl, rfl⟩ (Nat.le_of_ble_eq_true rfl) (ev_times ht1 ht2 hT0 (x := y) (y := z) ey ez (by omega) (by omega)) rfl (fun x51 w51 h51 => ?_)
        obtain ⟨rfl, rfl⟩ := h51
        refine go_callVi (as := [_, _, _]) (As := [_, _]) (rest := [_]) (n := 2) (q := 57) dX5_firstNotDistributive_54 lk_X5_54 (ci := 5) (N := 2) (T := TX5) rfl (by first | assumption | rfl) rfl rfl (by decide +kernel) rfl ⟨by decide, by decide⟩ ⟨rfl, rfl⟩ (Nat.le_of_ble_eq_true rfl) (ev_times ht1 ht2 hT0 (x := f x z) (y := f y z) rfl rfl (hr _ _ (by omega) (by omega)) (hr _ _ (by omega) (by omega))) rfl (fun x54 w54 h54 => ?_)
        obtain ⟨rfl, rfl⟩ := h54
        have b1 := hr (f x y) z (hr _ _ (by omega) (by omega)) (by omega)
        have b2 := hr (f x z) (f y z) (hr _ _ (by omega) (by omega)) (hr _ _ (by omega) (by omega))
        refine go_icmp_eq2 (q := 60) (t := 72) dX5_firstNotDistributive_57 (by decide) rfl (by omega) (fun c57 => ?_) (fun c57 => ?_)
        · refine go_iinc (j := 3) (q := 75) (ls2 := [_, _, _, _]) rfl (by decide) rfl rfl dX5_firstNotDistributive_72 rfl ?_
          refine go_goto (q := 22) dX5_firstNotDistributive_75 (by decide) ?_
          exact ih (z + 1) _ (by omega) (by omega) (by omega) (fun i h => all_lt hi (by unfold bad3; omega) h)
        · refine go_bipush (q := 62) rfl dX5_firstNotDistributive_60 rfl ?_
          refine go_iload_n (j := 1) (q := 63) rfl rfl dX5_firstNotDistributive_62 rfl ?_
          refine go_imul (q := 64) dX5_firstNotDistributive_63 rfl ?_
          refine go_bipush (q := 66) rfl dX5_firstNotDistributive_64 rfl ?_
          refine go_iload_n (j := 2) (q := 67) rfl rfl dX5_firstNotDistributive_66 rfl ?_
          refine go_imul (q := 68) dX5_firstNotDistributive_67 rfl ?_
          refine go_iadd (q := 69) dX5_firstNotDistributive_68 rfl ?_
          refine go_iload_n (j := 3) (q := 70) rfl rfl dX5_firstNotDistributive_69 rfl ?_
          refine go_iadd (q := 71) dX5_firstNotDistributive_70 rfl ?_
          refine go_iret dX5_firstNotDistributive_71 ?_
          subst hK
          refine ⟨_, rfl, Or.inl ⟨x, y, z, ⟨hx, hy, by omega⟩, by omega, by unfold bad3; omega, ?_⟩, rfl⟩
          intro i j k h1 h2 h3 h4
          rcases h4 with h4 | ⟨h4, h5 | ⟨h5, h6⟩⟩
          · exact ha i j k h1 h2 h3 (Or.inl h4)
          · exact ha i j k h1 h2 h3 (Or.inr ⟨h4, h5⟩)
          · subst h4; subst h5; exact hi k h6
  have lp2 : ∀ (x : Nat) (xi : Int), xi = x → x < n → (∀ i j k, i < n → j < n → k < n → i < x → ¬ bad3 f i j k) →
      ((∀ j k, j < n → k < n → ¬ bad3 f x j k) → ∀ (yi : Int) (u : Option MV), gX5_firstNotDistributive l D ck ad sh 84 [some (vR t), some (vI xi), some (vI yi), u] [] w K) →
      ∀ (m y : Nat) (yi : Int) (u : Option MV), yi = y → n ≤ m + y → y ≤ n → (∀ j, j < y → ∀ k, k < n → ¬ bad3 f x j k) → gX5_firstNotDistributive l D ck ad sh 12 [some (vR t), some (vI xi), some (vI yi), u] [] w K := by
    intro x xi ex hx ha hk m
    induction m with
    | zero =>
      intro y yi u ey hz hz2 hi
      refine go_iload_n (j := 2) (q := 13) rfl rfl dX5_firstNotDistributive_12 rfl ?_
      refine go_aload_n (j := 0) (q := 14) rfl rfl dX5_firstNotDistributive_13 rfl ?_
      refine go_getI (C0 := RX5) (T := TX5) (N := 2) (ci := 5) (i := 0) (q := 17) rfl igX5 (by first | assumption | rfl) (by decide) fl_X5_9 rfl dX5_firstNotDistributive_14 rfl ?_
      refine go_icmp_ge2 (q := 20) (t := 84) dX5_firstNotDistributive_17 (by decide) rfl (by omega) (fun c17 => ?_) (fun c17 => ?_)
      · exact hk (fun j k h1 h2 => hi j (by omega) k h2) _ _
      · exact absurd c17 (by omega)
    | succ m ih =>
      intro y yi u ey hz hz2 hi
      refine go_iload_n (j := 2) (q := 13) rfl rfl dX5_firstNotDistributive_12 rfl ?_
      refine go_aload_n (j := 0) (q := 14) rfl rfl dX5_firstNotDistributive_13 rfl ?_
      refine go_getI (C0 := RX5) (T := TX5) (N := 2) (ci := 5) (i := 0) (q := 17) rfl igX5 (by first | assumption | rfl) (by decide) fl_X5_9 rfl dX5_firstNotDistributive_14 rfl ?_
      refine go_icmp_ge2 (q := 20) (t := 84) dX5_firstNotDistributive_17 (by decide) rfl (by omega) (fun c17 => ?_) (fun c17 => ?_)
      · exact hk (fun j k h1 h2 => hi j (by omega) k h2) _ _
      · refine go_iconst (q := 21) dX5_firstNotDistributive_20 rfl ?_
        refine go_istore_n (j := 3) (q := 22) (ls2 := [_, _, _, _]) rfl (by decide) rfl rfl dX5_firstNotDistributive_21 rfl ?_
        refine lp3 x y xi yi ex ey hx (by omega) ?_ ?_ n 0 0 rfl (by omega) (by omega) (fun i h => absurd h (Nat.not_lt_zero i))
        · intro i j k h1 h2 h3 h4
          rcases h4 with h4 | ⟨h4, h5⟩
          · exact ha i j k h1 h2 h3 h4
          · subst h4; exact hi j h5 k h3
        · intro h1 zi
          refine go_iinc (j := 2) (q := 81) (ls2 := [_, _, _, _]) rfl (by decide) rfl rfl dX5_firstNotDistributive_78 rfl ?_
          refine go_goto (q := 12) dX5_firstNotDistributive_81 (by decide) ?_
          exact ih (y + 1) _ _ (by omega) (by omega) (by omega) (fun j h => all_lt (P := fun j => ∀ k, k < n → ¬ bad3 f x j k) hi h1 h)
  have lp1 : ∀ (m x : Nat) (xi : Int) (u v : Option MV), xi = x → n ≤ m + x → x ≤ n → (∀ i, i < x → ∀ j k, j < n → k < n → ¬ bad3 f i j k) → gX5_firstNotDistributive l D ck ad sh 2 [some (vR t), some (vI xi), u, v] [] w K := by
    intro m
    induction m with
    | zero =>
      intro x xi u v ex hz hz2 hi
      refine go_iload_n (j := 1) (q := 3) rfl rfl dX5_firstNotDistributive_2 rfl ?_
      refine go_aload_n (j := 0) (q := 4) rfl rfl dX5_firstNotDistributive_3 rfl ?_
      refine go_getI (C0 := RX5) (T := TX5) (N := 2) (ci := 5) (i := 0) (q := 7) rfl igX5 (by first | assumption | rfl) (by decide) fl_X5_9 rfl dX5_firstNotDistributive_4 rfl ?_
      refine go_icmp_ge2 (q := 10) (t := 90) dX5_firstNotDistributive_7 (by decide) rfl (by omega) (fun c7 => ?_) (fun c7 => ?_)
      · refine go_bipush (q := 92) rfl dX5_firstNotDistributive_90 rfl ?_
        refine go_iret dX5_firstNotDistributive_92 ?_
        subst hK
        exact ⟨_, rfl, Or.inr ⟨rfl, fun i j k h1 h2 h3 => hi i (by omega) j k h2 h3⟩, rfl⟩
      · exact absurd c7 (by omega)
    | succ m ih =>
      intro x xi u v ex hz hz2 hi
      refine go_iload_n (j := 1) (q := 3) rfl rfl dX5_firstNotDistributive_2 rfl ?_
      refine go_aload_n (j := 0) (q := 4) rfl rfl dX5_firstNotDistributive_3 rfl ?_
      refine go_getI (C0 := RX5) (T := TX5) (N := 2) (ci := 5) (i := 0) (q := 7) rfl igX5 (by first | assumption | rfl) (by decide) fl_X5_9 rfl dX5_firstNotDistributive_4 rfl ?_
      refine go_icmp_ge2 (q := 10) (t := 90) dX5_firstNotDistributive_7 (by decide) rfl (by omega) (fun c7 => ?_) (fun c7 => ?_)
      · refine go_bipush (q := 92) rfl dX5_firstNotDistributive_90 rfl ?_
        refine go_iret dX5_firstNotDistributive_92 ?_
        subst hK
        exact ⟨_, rfl, Or.inr ⟨rfl, fun i j k h1 h2 h3 => hi i (by omega) j k h2 h3⟩, rfl⟩
      · refine go_iconst (q := 11) dX5_firstNotDistributive_10 rfl ?_
        refine go_istore_n (j := 2) (q := 12) (ls2 := [_, _, _, _]) rfl (by decide) rfl rfl dX5_firstNotDistributive_11 rfl ?_
        refine lp2 x xi ex (by omega) (fun i j k h1 h2 h3 h4 => hi i h4 j k h2 h3) ?_ n 0 0 _ rfl (by omega) (by omega) (fun i h => absurd h (Nat.not_lt_zero i))
        intro h1 yi u2
        refine go_iinc (j := 1) (q := 87) (ls2 := [_, _, _, _]) rfl (by decide) rfl rfl dX5_firstNotDistributive_84 rfl ?_
        refine go_goto (q := 2) dX5_firstNotDistributive_87 (by decide) ?_
        exact ih (x + 1) _ _ _ (by omega) (by omega) (by omega) (fun j h => all_lt (P := fun i => ∀ j k, j < n → k < n → ¬ bad3 f i j k) hi h1 h)
  refine go_iconst (q := 1) dX5_firstNotDistributive_0 rfl ?_
  refine go_istore_n (j := 1) (q := 2) (ls2 := [_, _, _, _]) rfl (by decide) rfl rfl dX5_firstNotDistributive_1 rfl ?_
  exact lp1 n 0 0 _ _ rfl (by omega) (by omega) (fun i h => absurd h (Nat.not_lt_zero i))
theorem ev_reachedFrom (ht1 : sh[t]? = some (oTab t)) (ht2 : sh[t + 1]? = some (rInt 36)) (hT : TB w t n f) {x : Nat} {xi : Int} (ex : xi = x) (hx : x < n) :
    eX5_reachedFrom l D ck ad sh [vR t, vI xi] w (Pi fun v w1 => v = ((itN (rnd2 (stR f) n) (2 ^ x) n : Nat) : Int) ∧ w = w1) := by
  have hT0 := hT
  obtain ⟨h0, hn, hf⟩ := hT
  refine ev_of_go (own := RX5) (ls := [some (vR t), some (vI xi), none, none, none, none]) (by decide +kernel) rfl rfl (Nat.le_of_ble_eq_true rfl) rkI ?_
  generalize hK : (Pi fun v w1 => v = ((itN (rnd2 (stR f) n) (2 ^ x) n : Nat) : Int) ∧ w = w1) = K
  have hr : ∀ i j, i < n → j < n → f i j < n := fun i j hi hj => (hf i j hi hj).2
  have h64 : 2 ^ n ≤ 2 ^ 6 := Nat.pow_le_pow_right (by decide) hn.2
  have lp3 : ∀ (ki ai : Int) (a M : Nat), ai = a → a < n → (∀ (ci bi : Int) (c : Nat), ci = c → c < 2 ^ n → c = fN (fun b m => stR f a b m) M n → gX5_reachedFrom l D ck ad sh 67 [some (vR t), some (vI xi), some (vI ci), some (vI ki), some (vI ai), some (vI bi)] [] w K) →
      ∀ (m b : Nat) (bi ci : Int) (c : Nat), bi = b → n ≤ m + b → b ≤ n → ci = c → c < 2 ^ n → c = fN (fun b m => stR f a b m) M b → gX5_reachedFrom l D ck ad sh 29 [some (vR t), some (vI xi), some (vI ci), some (vI ki), some (vI ai), some (vI bi)] [] w K := by
    intro ki ai a M ea hal hk m
    induction m with
    | zero =>
      intro b bi ci c eb hz hz2 ec hc efo
      refine go_iload (j := 5) (q := 31) rfl dX5_reachedFrom_29 rfl ?_
      refine go_aload_n (j := 0) (q := 32) rfl rfl dX5_reachedFrom_31 rfl ?_
      refine go_getI (C0 := RX5) (T := TX5) (N := 2) (ci := 5) (i := 0) (q := 35) rfl igX5 (by first | assumption | rfl) (by decide) fl_X5_9 rfl dX5_reachedFrom_32 rfl ?_
      refine go_icmp_ge2 (q := 38) (t := 67) dX5_reachedFrom_35 (by decide) rfl (by omega) (fun c35 => ?_) (fun c35 => ?_)
      · exact hk _ _ c ec hc (by rw [efo]; congr 1; omega)
      · exact absurd c35 (by omega)
    | succ m ih =>
      intro b bi ci c eb hz hz2 ec hc efo
      refine go_iload (j := 5) (q := 31) rfl dX5_reachedFrom_29 rfl ?_
      refine go_aload_n (j := 0) (q := 32) rfl rfl dX5_reachedFrom_31 rfl ?_
      refine go_getI (C0 := RX5) (T := TX5) (N := 2) (ci := 5) (i := 0) (q := 35) rfl igX5 (by first | assumption | rfl) (by decide) fl_X5_9 rfl dX5_reachedFrom_32 rfl ?_
      refine go_icmp_ge2 (q := 38) (t := 67) dX5_reachedFrom_35 (by decide) rfl (by omega) (fun c35 => ?_) (fun c35 => ?_)
      · exact hk _ _ c ec hc (by rw [efo]; congr 1; omega)
      · have hb1 := bit_eq (a := c) (k := a) (by omega) (by omega)
        rw [← ec, ← ea] at hb1
        refine go_iload_n (j := 2) (q := 39) rfl rfl dX5_reachedFrom_38 rfl ?_
        refine go_iload (j := 4) (q := 41) rfl dX5_reachedFrom_39 rfl ?_
        refine go_ishr (q := 42) dX5_reachedFrom_41 rfl ?_
        refine go_iconst (q := 43) dX5_reachedFrom_42 rfl ?_
        refine go_iand (q := 44) dX5_reachedFrom_43 rfl ?_
        refine go_iconst (q := 45) dX5_reachedFrom_44 rfl ?_
        refine go_icmp_ne2 (q := 48) (t := 61) dX5_reachedFrom_45 (by decide) rfl (by rw [hb1]; split <;> omega) (fun c45 => ?_) (fun c45 => ?_)
        · have hbt : ¬ c.testBit a = true := by rw [hb1] at c45; intro q; rw [if_pos q] at c45; omega
          refine go_iinc (j := 5) (q := 64) (ls2 := [_, _, _, _, _, _]) rfl (by decide) rfl rfl dX5_reachedFrom_61 rfl ?_
          refine go_goto (q := 29) dX5_reachedFrom_64 (by decide) ?_
          first
          | exact ih (b + 1) _ ci c (by omega) (by omega) (by omega) ec hc (by show c = stR f a b _; rw [← efo, stR, if_neg hbt])
          | (have h2 := two_lt (hr a b hal (by omega))
             exact ih (b + 1) _ _ (c ||| 2 ^ f a b) (by omega) (by omega) (by omega) (by rw [ec, shl_eq (by have := hr a b hal (by omega); omega), or_eq (by omega) (by omega)]) (or_lt hc h2) (by show c ||| 2 ^ f a b = stR f a b _; rw [← efo, stR, if_pos hbt]))
        · have hbt : c.testBit a = true := by rw [hb1] at c45; by_cases q : c.testBit a = true; exact q; rw [if_neg q] at c45; omega
          refine go_iload_n (j := 2) (q := 49) rfl rfl dX5_reachedFrom_48 rfl ?_
          refine go_iconst (q := 50) dX5_reachedFrom_49 rfl ?_
          refine go_aload_n (j := 0) (q := 51) rfl rfl dX5_reachedFrom_50 rfl ?_
          refine go_iload (j := 4) (q := 53) rfl dX5_reachedFrom_51 rfl ?_
          refine go_iload (j := 5) (q := 55) rfl dX5_reachedFrom_53 rfl ?_
          refine go_callVi (as := [_, _, _]) (As := [_, _]) (rest := [_, _]) (n := 2) (q := 58) dX5_reachedFrom_55 lk_X5_54 (ci := 5) (N := 2) (T := TX5) rfl (by first | assumption | rfl) rfl rfl (by decide +kernel) rfl ⟨by decide, by decide⟩ ⟨rfl, rfl⟩ (Nat.le_of_ble_eq_true rfl) (ev_times ht1 ht2 hT0 (x := a) (y := b) ea eb (by omega) (by omega)) rfl (fun x55 w55 h55 => ?_)
          obtain ⟨rfl, rfl⟩ := h55
          refine go_ishl (q := 59) dX5_reachedFrom_58 rfl ?_
          refine go_ior (q := 60) dX5_reachedFrom_59 rfl ?_
          refine go_istore_n (j := 2) (q := 61) (ls2 := [_, _, _, _, _, _]) rfl (by decide) rfl rfl dX5_reachedFrom_60 rfl ?_
          refine go_iinc (j := 5) (q := 64) (ls2 := [_, _, _, _, _, _]) rfl (by decide) rfl rfl dX5_reachedFrom_61 rfl ?_
          refine go_goto (q := 29) dX5_reachedFrom_64 (by decide) ?_
          first
          | exact ih (b + 1) _ ci c (by omega) (by omega) (by omega) ec hc (by show c = stR f a b _; rw [← efo, stR, if_neg hbt])
          | (have h2 := two_lt (hr a b hal (by omega))
             exact ih (b + 1) _ _ (c ||| 2 ^ f a b) (by omega) (by omega) (by omega) (by rw [ec, shl_eq (by have := hr a b hal (by omega); omega), or_eq (by omega) (by omega)]) (or_lt hc h2) (by show c ||| 2 ^ f a b = stR f a b _; rw [← efo, stR, if_pos hbt]))
  have lp2 : ∀ (ki : Int) (M : Nat), (∀ (ci ai : Int) (u : Option MV) (c : Nat), ci = c → c < 2 ^ n → c = rnd2 (stR f) n M → gX5_reachedFrom l D ck ad sh 73 [some (vR t), some (vI xi), some (vI ci), some (vI ki), some (vI ai), u] [] w K) →
      ∀ (m a : Nat) (ai ci : Int) (c : Nat) (u : Option MV), ai = a → n ≤ m + a → a ≤ n → ci = c → c < 2 ^ n → c = fN (fun a m => fN (fun b m => stR f a b m) m n) M a → gX5_reachedFrom l D ck ad sh 17 [some (vR t), some (vI xi), some (vI ci), some (vI ki), some (vI ai), u] [] w K := by
    intro ki M hk m
    induction m with
    | zero =>
      intro a ai ci c u ea hz hz2 ec hc efo
      refine go_iload (j := 4) (q := 19) rfl dX5_reachedFrom_17 rfl ?_
      refine go_aload_n (j := 0) (q := 20) rfl rfl dX5_reachedFrom_19 rfl ?_
      refine go_getI (C0 := RX5) (T := TX5) (N := 2) (ci := 5) (i := 0) (q := 23) rfl igX5 (by first | assumption | rfl) (by decide) fl_X5_9 rfl dX5_reachedFrom_20 rfl ?_
      refine go_icmp_ge2 (q := 26) (t := 73) dX5_reachedFrom_23 (by decide) rfl (by omega) (fun c23 => ?_) (fun c23 => ?_)
      · exact hk _ _ _ c ec hc (by rw [efo, show a = n by omega]; rfl)
      · exact absurd c23 (by omega)
    | succ m ih =>
      intro a ai ci c u ea hz hz2 ec hc efo
      refine go_iload (j := 4) (q := 19) rfl dX5_reachedFrom_17 rfl ?_
      refine go_aload_n (j := 0) (q := 20) rfl rfl dX5_reachedFrom_19 rfl ?_
      refine go_getI (C0 := RX5) (T := TX5) (N := 2) (ci := 5) (i := 0) (q := 23) rfl igX5 (by first | assumption | rfl) (by decide) fl_X5_9 rfl dX5_reachedFrom_20 rfl ?_
      refine go_icmp_ge2 (q := 26) (t := 73) dX5_reachedFrom_23 (by decide) rfl (by omega) (fun c23 => ?_) (fun c23 => ?_)
      · exact hk _ _ _ c ec hc (by rw [efo, show a = n by omega]; rfl)
      · refine go_iconst (q := 27) dX5_reachedFrom_26 rfl ?_
        refine go_istore (j := 5) (q := 29) (ls2 := [_, _, _, _, _, _]) (by decide) rfl rfl dX5_reachedFrom_27 rfl ?_
        refine lp3 ki ai a c ea (by omega) ?_ n 0 0 ci c rfl (by omega) (by omega) ec hc rfl
        intro ci2 bi2 c2 ec2 hc2 efo2
        refine go_iinc (j := 4) (q := 70) (ls2 := [_, _, _, _, _, _]) rfl (by decide) rfl rfl dX5_reachedFrom_67 rfl ?_
        refine go_goto (q := 17) dX5_reachedFrom_70 (by decide) ?_
        exact ih (a + 1) _ ci2 c2 _ (by omega) (by omega) (by omega) ec2 hc2 (by rw [efo2, efo]; rfl)
  have lp1 : ∀ (m k : Nat) (ki ci : Int) (c : Nat) (u v : Option MV), ki = k → n ≤ m + k → k ≤ n → ci = c → c < 2 ^ n → c = itN (rnd2 (stR f) n) (2 ^ x) k → gX5_reachedFrom l D ck ad sh 6 [some (vR t), some (vI xi), some (vI ci), some (vI ki), u, v] [] w K := by
    intro m
    induction m with
    | zero =>
      intro k ki ci c u v ek hz hz2 ec hc efo
      refine go_iload_n (j := 3) (q := 7) rfl rfl dX5_reachedFrom_6 rfl ?_
      refine go_aload_n (j := 0) (q := 8) rfl rfl dX5_reachedFrom_7 rfl ?_
      refine go_getI (C0 := RX5) (T := TX5) (N := 2) (ci := 5) (i := 0) (q := 11) rfl igX5 (by first | assumption | rfl) (by decide) fl_X5_9 rfl dX5_reachedFrom_8 rfl ?_
      refine go_icmp_ge2 (q := 14) (t := 79) dX5_reachedFrom_11 (by decide) rfl (by omega) (fun c11 => ?_) (fun c11 => ?_)
      · refine go_iload_n (j := 2) (q := 80) rfl rfl dX5_reachedFrom_79 rfl ?_
        refine go_iret dX5_reachedFrom_80 ?_
        subst hK
        exact ⟨_, rfl, by rw [ec, efo, show k = n by omega], rfl⟩
      · exact absurd c11 (by omega)
    | succ m ih =>
      intro k ki ci c u v ek hz hz2 ec hc efo
      refine go_iload_n (j := 3) (q := 7) rfl rfl dX5_reachedFrom_6 rfl ?_
      refine go_aload_n (j := 0) (q := 8) rfl rfl dX5_reachedFrom_7 rfl ?_
      refine go_getI (C0 := RX5) (T := TX5) (N := 2) (ci := 5) (i := 0) (q := 11) rfl igX5 (by first | assumption | rfl) (by decide) fl_X5_9 rfl dX5_reachedFrom_8 rfl ?_
      refine go_icmp_ge2 (q := 14) (t := 79) dX5_reachedFrom_11 (by decide) rfl (by omega) (fun c11 => ?_) (fun c11 => ?_)
      · refine go_iload_n (j := 2) (q := 80) rfl rfl dX5_reachedFrom_79 rfl ?_
        refine go_iret dX5_reachedFrom_80 ?_
        subst hK
        exact ⟨_, rfl, by rw [ec, efo, show k = n by omega], rfl⟩
      · refine go_iconst (q := 15) dX5_reachedFrom_14 rfl ?_
        refine go_istore (j := 4) (q := 17) (ls2 := [_, _, _, _, _, _]) (by decide) rfl rfl dX5_reachedFrom_15 rfl ?_
        refine lp2 ki c ?_ n 0 0 ci c _ rfl (by omega) (by omega) ec hc rfl
        intro ci2 ai2 u2 c2 ec2 hc2 efo2
        refine go_iinc (j := 3) (q := 76) (ls2 := [_, _, _, _, _, _]) rfl (by decide) rfl rfl dX5_reachedFrom_73 rfl ?_
        refine go_goto (q := 6) dX5_reachedFrom_76 (by decide) ?_
        exact ih (k + 1) _ ci2 c2 _ _ (by omega) (by omega) (by omega) ec2 hc2 (by rw [efo2, efo]; rfl)
  refine go_iconst (q := 1) dX5_reachedFrom_0 rfl ?_
  refine go_iload_n (j := 1) (q := 2) rfl rfl dX5_reachedFrom_1 rfl ?_
  refine go_ishl (q := 3) dX5_reachedFrom_2 rfl ?_
  refine go_istore_n (j := 2) (q := 4) (ls2 := [_, _, _, _, _, _]) rfl (by decide) rfl rfl dX5_reachedFrom_3 rfl ?_
  refine go_iconst (q := 5) dX5_reachedFrom_4 rfl ?_
  refine go_istore_n (j := 3) (q := 6) (ls2 := [_, _, _, _, _, _]) rfl (by decide) rfl rfl dX5_reachedFrom_5 rfl ?_
  exact lp1 n 0 0 _ (2 ^ x) _ _ rfl (by omega) (by omega) (by rw [ex, shl_eq (by omega)]) (two_lt hx) rfl
theorem ev_closureOf (ht1 : sh[t]? = some (oTab t)) (ht2 : sh[t + 1]? = some (rInt 36)) (hT : TB w t n f) {x : Nat} {xi : Int} (ex : xi = x) (hx : x < 2 ^ n) :
    eX5_closureOf l D ck ad sh [vR t, vI xi] w (Pi fun v w1 => v = ((itN (rnd2 (stK f) n) (x) n : Nat) : Int) ∧ w = w1) := by
  have hT0 := hT
  obtain ⟨h0, hn, hf⟩ := hT
  refine ev_of_go (own := RX5) (ls := [some (vR t), some (vI xi), none, none, none, none]) (by decide +kernel) rfl rfl (Nat.le_of_ble_eq_true rfl) rkI ?_
  generalize hK : (Pi fun v w1 => v = ((itN (rnd2 (stK f) n) (x) n : Nat) : Int) ∧ w = w1) = K
  have hr : ∀ i j, i < n → j < n → f i j < n := fun i j hi hj => (hf i j hi hj).2
  have h64 : 2 ^ n ≤ 2 ^ 6 := Nat.pow_le_pow_right (by decide) hn.2
  have lp3 : ∀ (ki ai : Int) (a M : Nat), ai = a → a < n → (∀ (ci bi : Int) (c : Nat), ci = c → c < 2 ^ n → c = fN (fun b m => stK f a b m) M n → gX5_closureOf l D ck ad sh 75 [some (vR t), some (vI xi), some (vI ci), some (vI ki), some (vI ai), some (vI bi)] [] w K) →
      ∀ (m b : Nat) (bi ci : Int) (c : Nat), bi = b → n ≤ m + b → b ≤ n → ci = c → c < 2 ^ n → c = fN (fun b m => stK f a b m) M b → gX5_closureOf l D ck ad sh 27 [some (vR t), some (vI xi), some (vI ci), some (vI ki), some (vI ai), some (vI bi)] [] w K := by
    intro ki ai a M ea hal hk m
    induction m with
    | zero =>
      intro b bi ci c eb hz hz2 ec hc efo
      refine go_iload (j := 5) (q := 29) rfl dX5_closureOf_27 rfl ?_
      refine go_aload_n (j := 0) (q := 30) rfl rfl dX5_closureOf_29 rfl ?_
      refine go_getI (C0 := RX5) (T := TX5) (N := 2) (ci := 5) (i := 0) (q := 33) rfl igX5 (by first | assumption | rfl) (by decide) fl_X5_9 rfl dX5_closureOf_30 rfl ?_
      refine go_icmp_ge2 (q := 36) (t := 75) dX5_closureOf_33 (by decide) rfl (by omega) (fun c33 => ?_) (fun c33 => ?_)
      · exact hk _ _ c ec hc (by rw [efo]; congr 1; omega)
      · exact absurd c33 (by omega)
    | succ m ih =>
      intro b bi ci c eb hz hz2 ec hc efo
      refine go_iload (j := 5) (q := 29) rfl dX5_closureOf_27 rfl ?_
      refine go_aload_n (j := 0) (q := 30) rfl rfl dX5_closureOf_29 rfl ?_
      refine go_getI (C0 := RX5) (T := TX5) (N := 2) (ci := 5) (i := 0) (q := 33) rfl igX5 (by first | assumption | rfl) (by decide) fl_X5_9 rfl dX5_closureOf_30 rfl ?_
      refine go_icmp_ge2 (q := 36) (t := 75) dX5_closureOf_33 (by decide) rfl (by omega) (fun c33 => ?_) (fun c33 => ?_)
      · exact hk _ _ c ec hc (by rw [efo]; congr 1; omega)
      · have hb1 := bit_eq (a := c) (k := a) (by omega) (by omega)
        rw [← ec, ← ea] at hb1
        have hb2 := bit_eq (a := c) (k := b) (by omega) (by omega)
        rw [← ec, ← eb] at hb2
        refine go_iload_n (j := 2) (q := 37) rfl rfl dX5_closureOf_36 rfl ?_
        refine go_iload (j := 4) (q := 39) rfl dX5_closureOf_37 rfl ?_
        refine go_ishr (q := 40) dX5_closureOf_39 rfl ?_
        refine go_iconst (q := 41) dX5_closureOf_40 rfl ?_
        refine go_iand (q := 42) dX5_closureOf_41 rfl ?_
        refine go_iconst (q := 43) dX5_closureOf_42 rfl ?_
        refine go_icmp_ne2 (q := 46) (t := 69) dX5_closureOf_43 (by decide) rfl (by rw [hb1]; split <;> omega) (fun c43 => ?_) (fun c43 => ?_)
        · have hbt : ¬ (c.testBit a = true ∧ c.testBit b = true) := by rw [hb1] at c43; intro q; rw [if_pos q.1] at c43; omega
          refine go_iinc (j := 5) (q := 72) (ls2 := [_, _, _, _, _, _]) rfl (by decide) rfl rfl dX5_closureOf_69 rfl ?_
          refine go_goto (q := 27) dX5_closureOf_72 (by decide) ?_
          first
          | exact ih (b + 1) _ ci c (by omega) (by omega) (by omega) ec hc (by show c = stK f a b _; rw [← efo, stK, if_neg hbt])
          | (have h2 := two_lt (hr a b hal (by omega))
             exact ih (b + 1) _ _ (c ||| 2 ^ f a b) (by omega) (by omega) (by omega) (by rw [ec, shl_eq (by have := hr a b hal (by omega); omega), or_eq (by omega) (by omega)]) (or_lt hc h2) (by show c ||| 2 ^ f a b = stK f a b _; rw [← efo, stK, if_pos hbt]))
        · refine go_iload_n (j := 2) (q := 47) rfl rfl dX5_closureOf_46 rfl ?_
          refine go_iload (j := 5) (q := 49) rfl dX5_closureOf_47 rfl ?_
          refine go_ishr (q := 50) dX5_closureOf_49 rfl ?_
          refine go_iconst (q := 51) dX5_closureOf_50 rfl ?_
          refine go_iand (q := 52) dX5_closureOf_51 rfl ?_
          refine go_iconst (q := 53) dX5_closureOf_52 rfl ?_
          refine go_icmp_ne2 (q := 56) (t := 69) dX5_closureOf_53 (by decide) rfl (by rw [hb2]; split <;> omega) (fun c53 => ?_) (fun c53 => ?_)
          · have hbt : ¬ (c.testBit a = true ∧ c.testBit b = true) := by rw [hb2] at c53; intro q; rw [if_pos q.2] at c53; omega
            refine go_iinc (j := 5) (q := 72) (ls2 := [_, _, _, _, _, _]) rfl (by decide) rfl rfl dX5_closureOf_69 rfl ?_
            refine go_goto (q := 27) dX5_closureOf_72 (by decide) ?_
            first
            | exact ih (b + 1) _ ci c (by omega) (by omega) (by omega) ec hc (by show c = stK f a b _; rw [← efo, stK, if_neg hbt])
            | (have h2 := two_lt (hr a b hal (by omega))
               exact ih (b + 1) _ _ (c ||| 2 ^ f a b) (by omega) (by omega) (by omega) (by rw [ec, shl_eq (by have := hr a b hal (by omega); omega), or_eq (by omega) (by omega)]) (or_lt hc h2) (by show c ||| 2 ^ f a b = stK f a b _; rw [← efo, stK, if_pos hbt]))
          · have hbt : c.testBit a = true ∧ c.testBit b = true := by
              rw [hb1] at c43; rw [hb2] at c53
              constructor
              · by_cases q : c.testBit a = true; exact q; rw [if_neg q] at c43; omega
              · by_cases q : c.testBit b = true; exact q; rw [if_neg q] at c53; omega
            refine go_iload_n (j := 2) (q := 57) rfl rfl dX5_closureOf_56 rfl ?_
            refine go_iconst (q := 58) dX5_closureOf_57 rfl ?_
            refine go_aload_n (j := 0) (q := 59) rfl rfl dX5_closureOf_58 rfl ?_
            refine go_iload (j := 4) (q := 61) rfl dX5_closureOf_59 rfl ?_
            refine go_iload (j := 5) (q := 63) rfl dX5_closureOf_61 rfl ?_
            refine go_callVi (as := [_, _, _]) (As := [_, _]) (rest := [_, _]) (n := 2) (q := 66) dX5_closureOf_63 lk_X5_54 (ci := 5) (N := 2) (T := TX5) rfl (by first | assumption | rfl) rfl rfl (by decide +kernel) rfl ⟨by decide, by decide⟩ ⟨rfl, rfl⟩ (Nat.le_of_ble_eq_true rfl) (ev_times ht1 ht2 hT0 (x := a) (y := b) ea eb (by omega) (by omega)) rfl (fun x63 w63 h63 => ?_)
            obtain ⟨rfl, rfl⟩ := h63
            refine go_ishl (q := 67) dX5_closureOf_66 rfl ?_
            refine go_ior (q := 68) dX5_closureOf_67 rfl ?_
            refine go_istore_n (j := 2) (q := 69) (ls2 := [_, _, _, _, _, _]) rfl (by decide) rfl rfl dX5_closureOf_68 rfl ?_
            refine go_iinc (j := 5) (q := 72) (ls2 := [_, _, _, _, _, _]) rfl (by decide) rfl rfl dX5_closureOf_69 rfl ?_
            refine go_goto (q := 27) dX5_closureOf_72 (by decide) ?_
            first
            | exact ih (b + 1) _ ci c (by omega) (by omega) (by omega) ec hc (by show c = stK f a b _; rw [← efo, stK, if_neg hbt])
            | (have h2 := two_lt (hr a b hal (by omega))
               exact ih (b + 1) _ _ (c ||| 2 ^ f a b) (by omega) (by omega) (by omega) (by rw [ec, shl_eq (by have := hr a b hal (by omega); omega), or_eq (by omega) (by omega)]) (or_lt hc h2) (by show c ||| 2 ^ f a b = stK f a b _; rw [← efo, stK, if_pos hbt]))
  have lp2 : ∀ (ki : Int) (M : Nat), (∀ (ci ai : Int) (u : Option MV) (c : Nat), ci = c → c < 2 ^ n → c = rnd2 (stK f) n M → gX5_closureOf l D ck ad sh 81 [some (vR t), some (vI xi), some (vI ci), some (vI ki), some (vI ai), u] [] w K) →
      ∀ (m a : Nat) (ai ci : Int) (c : Nat) (u : Option MV), ai = a → n ≤ m + a → a ≤ n → ci = c → c < 2 ^ n → c = fN (fun a m => fN (fun b m => stK f a b m) m n) M a → gX5_closureOf l D ck ad sh 15 [some (vR t), some (vI xi), some (vI ci), some (vI ki), some (vI ai), u] [] w K := by
    intro ki M hk m
    induction m with
    | zero =>
      intro a ai ci c u ea hz hz2 ec hc efo
      refine go_iload (j := 4) (q := 17) rfl dX5_closureOf_15 rfl ?_
      refine go_aload_n (j := 0) (q := 18) rfl rfl dX5_closureOf_17 rfl ?_
      refine go_getI (C0 := RX5) (T := TX5) (N := 2) (ci := 5) (i := 0) (q := 21) rfl igX5 (by first | assumption | rfl) (by decide) fl_X5_9 rfl dX5_closureOf_18 rfl ?_
      refine go_icmp_ge2 (q := 24) (t := 81) dX5_closureOf_21 (by decide) rfl (by omega) (fun c21 => ?_) (fun c21 => ?_)
      · exact hk _ _ _ c ec hc (by rw [efo, show a = n by omega]; rfl)
      · exact absurd c21 (by omega)
    | succ m ih =>
      intro a ai ci c u ea hz hz2 ec hc efo
      refine go_iload (j := 4) (q := 17) rfl dX5_closureOf_15 rfl ?_
      refine go_aload_n (j := 0) (q := 18) rfl rfl dX5_closureOf_17 rfl ?_
      refine go_getI (C0 := RX5) (T := TX5) (N := 2) (ci := 5) (i := 0) (q := 21) rfl igX5 (by first | assumption | rfl) (by decide) fl_X5_9 rfl dX5_closureOf_18 rfl ?_
      refine go_icmp_ge2 (q := 24) (t := 81) dX5_closureOf_21 (by decide) rfl (by omega) (fun c21 => ?_) (fun c21 => ?_)
      · exact hk _ _ _ c ec hc (by rw [efo, show a = n by omega]; rfl)
      · refine go_iconst (q := 25) dX5_closureOf_24 rfl ?_
        refine go_istore (j := 5) (q := 27) (ls2 := [_, _, _, _, _, _]) (by decide) rfl rfl dX5_closureOf_25 rfl ?_
        refine lp3 ki ai a c ea (by omega) ?_ n 0 0 ci c rfl (by omega) (by omega) ec hc rfl
        intro ci2 bi2 c2 ec2 hc2 efo2
        refine go_iinc (j := 4) (q := 78) (ls2 := [_, _, _, _, _, _]) rfl (by decide) rfl rfl dX5_closureOf_75 rfl ?_
        refine go_goto (q := 15) dX5_closureOf_78 (by decide) ?_
        exact ih (a + 1) _ ci2 c2 _ (by omega) (by omega) (by omega) ec2 hc2 (by rw [efo2, efo]; rfl)
  have lp1 : ∀ (m k : Nat) (ki ci : Int) (c : Nat) (u v : Option MV), ki = k → n ≤ m + k → k ≤ n → ci = c → c < 2 ^ n → c = itN (rnd2 (stK f) n) (x) k → gX5_closureOf l D ck ad sh 4 [some (vR t), some (vI xi), some (vI ci), some (vI ki), u, v] [] w K := by
    intro m
    induction m with
    | zero =>
      intro k ki ci c u v ek hz hz2 ec hc efo
      refine go_iload_n (j := 3) (q := 5) rfl rfl dX5_closureOf_4 rfl ?_
      refine go_aload_n (j := 0) (q := 6) rfl rfl dX5_closureOf_5 rfl ?_
      refine go_getI (C0 := RX5) (T := TX5) (N := 2) (ci := 5) (i := 0) (q := 9) rfl igX5 (by first | assumption | rfl) (by decide) fl_X5_9 rfl dX5_closureOf_6 rfl ?_
      refine go_icmp_ge2 (q := 12) (t := 87) dX5_closureOf_9 (by decide) rfl (by omega) (fun c9 => ?_) (fun c9 => ?_)
      · refine go_iload_n (j := 2) (q := 88) rfl rfl dX5_closureOf_87 rfl ?_
        refine go_iret dX5_closureOf_88 ?_
        subst hK
        exact ⟨_, rfl, by rw [ec, efo, show k = n by omega], rfl⟩
      · exact absurd c9 (by omega)
    | succ m ih =>
      intro k ki ci c u v ek hz hz2 ec hc efo
      refine go_iload_n (j := 3) (q := 5) rfl rfl dX5_closureOf_4 rfl ?_
      refine go_aload_n (j := 0) (q := 6) rfl rfl dX5_closureOf_5 rfl ?_
      refine go_getI (C0 := RX5) (T := TX5) (N := 2) (ci := 5) (i := 0) (q := 9) rfl igX5 (by first | assumption | rfl) (by decide) fl_X5_9 rfl dX5_closureOf_6 rfl ?_
      refine go_icmp_ge2 (q := 12) (t := 87) dX5_closureOf_9 (by decide) rfl (by omega) (fun c9 => ?_) (fun c9 => ?_)
      · refine go_iload_n (j := 2) (q := 88) rfl rfl dX5_closureOf_87 rfl ?_
        refine go_iret dX5_closureOf_88 ?_
        subst hK
        exact ⟨_, rfl, by rw [ec, efo, show k = n by omega], rfl⟩
      · refine go_iconst (q := 13) dX5_closureOf_12 rfl ?_
        refine go_istore (j := 4) (q := 15) (ls2 := [_, _, _, _, _, _]) (by decide) rfl rfl dX5_closureOf_13 rfl ?_
        refine lp2 ki c ?_ n 0 0 ci c _ rfl (by omega) (by omega) ec hc rfl
        intro ci2 ai2 u2 c2 ec2 hc2 efo2
        refine go_iinc (j := 3) (q := 84) (ls2 := [_, _, _, _, _, _]) rfl (by decide) rfl rfl dX5_closureOf_81 rfl ?_
        refine go_goto (q := 4) dX5_closureOf_84 (by decide) ?_
        exact ih (k + 1) _ ci2 c2 _ _ (by omega) (by omega) (by omega) ec2 hc2 (by rw [efo2, efo]; rfl)
  refine go_iload_n (j := 1) (q := 1) rfl rfl dX5_closureOf_0 rfl ?_
  refine go_istore_n (j := 2) (q := 2) (ls2 := [_, _, _, _, _, _]) rfl (by decide) rfl rfl dX5_closureOf_1 rfl ?_
  refine go_iconst (q := 3) dX5_closureOf_2 rfl ?_
  refine go_istore_n (j := 3) (q := 4) (ls2 := [_, _, _, _, _, _]) rfl (by decide) rfl rfl dX5_closureOf_3 rfl ?_
  exact lp1 n 0 0 _ (x) _ _ rfl (by omega) (by omega) (ex) (hx) rfl
theorem ev_componentOf (ht1 : sh[t]? = some (oTab t)) (ht2 : sh[t + 1]? = some (rInt 36)) (hT : TB w t n f) {x : Nat} {xi : Int} (ex : xi = x) (hx : x < n) :
    eX5_componentOf l D ck ad sh [vR t, vI xi] w (Pi fun v w1 => v = ((itN (rnd2 (stC f) n) (2 ^ x) n : Nat) : Int) ∧ w = w1) := by
  have hT0 := hT
  obtain ⟨h0, hn, hf⟩ := hT
  refine ev_of_go (own := RX5) (ls := [some (vR t), some (vI xi), none, none, none, none, none]) (by decide +kernel) rfl rfl (Nat.le_of_ble_eq_true rfl) rkI ?_
  generalize hK : (Pi fun v w1 => v = ((itN (rnd2 (stC f) n) (2 ^ x) n : Nat) : Int) ∧ w = w1) = K
  have hr : ∀ i j, i < n → j < n → f i j < n := fun i j hi hj => (hf i j hi hj).2
  have h64 : 2 ^ n ≤ 2 ^ 6 := Nat.pow_le_pow_right (by decide) hn.2
  have lp3 : ∀ (ki ai : Int) (a M : Nat), ai = a → a < n → (∀ (ci bi : Int) (u6 : Option MV) (c : Nat), ci = c → c < 2 ^ n → c = fN (fun b m => stC f a b m) M n → gX5_componentOf l D ck ad sh 73 [some (vR t), some (vI xi), some (vI ci), some (vI ki), some (vI ai), some (vI bi), u6] [] w K) →
      ∀ (m b : Nat) (bi ci : Int) (c : Nat) (u6 : Option MV), bi = b → n ≤ m + b → b ≤ n → ci = c → c < 2 ^ n → c = fN (fun b m => stC f a b m) M b → gX5_componentOf l D ck ad sh 29 [some (vR t), some (vI xi), some (vI ci), some (vI ki), some (vI ai), some (vI bi), u6] [] w K := by
    intro ki ai a M ea hal hk m
    induction m with
    | zero =>
      intro b bi ci c u6 eb hz hz2 ec hc efo
      refine go_iload (j := 5) (q := 31) rfl dX5_componentOf_29 rfl ?_
      refine go_aload_n (j := 0) (q := 32) rfl rfl dX5_componentOf_31 rfl ?_
      refine go_getI (C0 := RX5) (T := TX5) (N := 2) (ci := 5) (i := 0) (q := 35) rfl igX5 (by first | assumption | rfl) (by decide) fl_X5_9 rfl dX5_componentOf_32 rfl ?_
      refine go_icmp_ge2 (q := 38) (t := 73) dX5_componentOf_35 (by decide) rfl (by omega) (fun c35 => ?_) (fun c35 => ?_)
      · exact hk _ _ _ c ec hc (by rw [efo]; congr 1; omega)
      · exact absurd c35 (by omega)
    | succ m ih =>
      intro b bi ci c u6 eb hz hz2 ec hc efo
      refine go_iload (j := 5) (q := 31) rfl dX5_componentOf_29 rfl ?_
      refine go_aload_n (j := 0) (q := 32) rfl rfl dX5_componentOf_31 rfl ?_
      refine go_getI (C0 := RX5) (T := TX5) (N := 2) (ci := 5) (i := 0) (q := 35) rfl igX5 (by first | assumption | rfl) (by decide) fl_X5_9 rfl dX5_componentOf_32 rfl ?_
      refine go_icmp_ge2 (q := 38) (t := 73) dX5_componentOf_35 (by decide) rfl (by omega) (fun c35 => ?_) (fun c35 => ?_)
      · exact hk _ _ _ c ec hc (by rw [efo]; congr 1; omega)
      · have hfb := hr a b hal (by omega)
        have h2 := two_lt hfb
        have h3 := two_lt hal
        have hll : lnk f a b < 2 ^ n := or_lt h3 h2
        refine go_iconst (q := 39) dX5_componentOf_38 rfl ?_
        refine go_iload (j := 4) (q := 41) rfl dX5_componentOf_39 rfl ?_
        refine go_ishl (q := 42) dX5_componentOf_41 rfl ?_
        refine go_iconst (q := 43) dX5_componentOf_42 rfl ?_
        refine go_aload_n (j := 0) (q := 44) rfl rfl dX5_componentOf_43 rfl ?_
        refine go_iload (j := 4) (q := 46) rfl dX5_componentOf_44 rfl ?_
        refine go_iload (j := 5) (q := 48) rfl dX5_componentOf_46 rfl ?_
        refine go_callVi (as := [_, _, _]) (As := [_, _]) (rest := [_, _]) (n := 2) (q := 51) dX5_componentOf_48 lk_X5_54 (ci := 5) (N := 2) (T := TX5) rfl (by first | assumption | rfl) rfl rfl (by decide +kernel) rfl ⟨by decide, by decide⟩ ⟨rfl, rfl⟩ (Nat.le_of_ble_eq_true rfl) (ev_times ht1 ht2 hT0 (x := a) (y := b) ea eb (by omega) (by omega)) rfl (fun x48 w48 h48 => ?_)
        obtain ⟨rfl, rfl⟩ := h48
        refine go_ishl (q := 52) dX5_componentOf_51 rfl ?_
        refine go_ior (q := 53) dX5_componentOf_52 rfl ?_
        have hlk : orZ (shlZ 1 ai) (shlZ 1 (f a b : Nat)) = (lnk f a b : Nat) := by rw [ea, shl_eq (by omega), shl_eq (by omega), or_eq (by omega) (by omega)]; rfl
        refine go_istore (j := 6) (q := 55) (ls2 := [_, _, _, _, _, _, _]) (by decide) rfl rfl dX5_componentOf_53 rfl ?_
        refine go_iload_n (j := 2) (q := 56) rfl rfl dX5_componentOf_55 rfl ?_
        refine go_iload (j := 6) (q := 58) rfl dX5_componentOf_56 rfl ?_
        refine go_iand (q := 59) dX5_componentOf_58 rfl ?_
        have hb1 : andZ ci (orZ (shlZ 1 ai) (shlZ 1 (f a b : Nat))) = ((c &&& lnk f a b : Nat) : Int) := by rw [hlk, ec, and_eq (by omega) (by omega)]
        have hb2 : c &&& lnk f a b ≤ c := Nat.and_le_left
        refine go_if_eq2 (q := 62) (t := 67) dX5_componentOf_59 (by decide) rfl (by rw [hb1]; omega) (fun c59 => ?_) (fun c59 => ?_)
        · refine go_iinc (j := 5) (q := 70) (ls2 := [_, _, _, _, _, _, _]) rfl (by decide) rfl rfl dX5_componentOf_67 rfl ?_
          refine go_goto (q := 29) dX5_componentOf_70 (by decide) ?_
          first
          | exact ih (b + 1) _ ci c _ (by omega) (by omega) (by omega) ec hc (by show c = stC f a b _; rw [← efo, stC, if_pos (by rw [hb1] at c59; omega)])
          | exact ih (b + 1) _ _ (c ||| lnk f a b) _ (by omega) (by omega) (by omega) (by rw [hlk, ec, or_eq (by omega) (by omega)]) (or_lt hc hll) (by show c ||| lnk f a b = stC f a b _; rw [← efo, stC, if_neg (by rw [hb1] at c59; omega)])
        · refine go_iload_n (j := 2) (q := 63) rfl rfl dX5_componentOf_62 rfl ?_
          refine go_iload (j := 6) (q := 65) rfl dX5_componentOf_63 rfl ?_
          refine go_ior (q := 66) dX5_componentOf_65 rfl ?_
          refine go_istore_n (j := 2) (q := 67) (ls2 := [_, _, _, _, _, _, _]) rfl (by decide) rfl rfl dX5_componentOf_66 rfl ?_
          refine go_iinc (j := 5) (q := 70) (ls2 := [_, _, _, _, _, _, _]) rfl (by decide) rfl rfl dX5_componentOf_67 rfl ?_
          refine go_goto (q := 29) dX5_componentOf_70 (by decide) ?_
          first
          | exact ih (b + 1) _ ci c _ (by omega) (by omega) (by omega) ec hc (by show c = stC f a b _; rw [← efo, stC, if_pos (by rw [hb1] at c59; omega)])
          | exact ih (b + 1) _ _ (c ||| lnk f a b) _ (by omega) (by omega) (by omega) (by rw [hlk, ec, or_eq (by omega) (by omega)]) (or_lt hc hll) (by show c ||| lnk f a b = stC f a b _; rw [← efo, stC, if_neg (by rw [hb1] at c59; omega)])
  have lp2 : ∀ (ki : Int) (M : Nat), (∀ (ci ai : Int) (u : Option MV) (u6 : Option MV) (c : Nat), ci = c → c < 2 ^ n → c = rnd2 (stC f) n M → gX5_componentOf l D ck ad sh 79 [some (vR t), some (vI xi), some (vI ci), some (vI ki), some (vI ai), u, u6] [] w K) →
      ∀ (m a : Nat) (ai ci : Int) (c : Nat) (u : Option MV) (u6 : Option MV), ai = a → n ≤ m + a → a ≤ n → ci = c → c < 2 ^ n → c = fN (fun a m => fN (fun b m => stC f a b m) m n) M a → gX5_componentOf l D ck ad sh 17 [some (vR t), some (vI xi), some (vI ci), some (vI ki), some (vI ai), u, u6] [] w K := by
    intro ki M hk m
    induction m with
    | zero =>
      intro a ai ci c u u6 ea hz hz2 ec hc efo
      refine go_iload (j := 4) (q := 19) rfl dX5_componentOf_17 rfl ?_
      refine go_aload_n (j := 0) (q := 20) rfl rfl dX5_componentOf_19 rfl ?_
      refine go_getI (C0 := RX5) (T := TX5) (N := 2) (ci := 5) (i := 0) (q := 23) rfl igX5 (by first | assumption | rfl) (by decide) fl_X5_9 rfl dX5_componentOf_20 rfl ?_
      refine go_icmp_ge2 (q := 26) (t := 79) dX5_componentOf_23 (by decide) rfl (by omega) (fun c23 => ?_) (fun c23 => ?_)
      · exact hk _ _ _ _ c ec hc (by rw [efo, show a = n by omega]; rfl)
      · exact absurd c23 (by omega)
    | succ m ih =>
      intro a ai ci c u u6 ea hz hz2 ec hc efo
      refine go_iload (j := 4) (q := 19) rfl dX5_componentOf_17 rfl ?_
      refine go_aload_n (j := 0) (q := 20) rfl rfl dX5_componentOf_19 rfl ?_
      refine go_getI (C0 := RX5) (T := TX5) (N := 2) (ci := 5) (i := 0) (q := 23) rfl igX5 (by first | assumption | rfl) (by decide) fl_X5_9 rfl dX5_componentOf_20 rfl ?_
      refine go_icmp_ge2 (q := 26) (t := 79) dX5_componentOf_23 (by decide) rfl (by omega) (fun c23 => ?_) (fun c23 => ?_)
      · exact hk _ _ _ _ c ec hc (by rw [efo, show a = n by omega]; rfl)
      · refine go_iconst (q := 27) dX5_componentOf_26 rfl ?_
        refine go_istore (j := 5) (q := 29) (ls2 := [_, _, _, _, _, _, _]) (by decide) rfl rfl dX5_componentOf_27 rfl ?_
        refine lp3 ki ai a c ea (by omega) ?_ n 0 0 ci c _ rfl (by omega) (by omega) ec hc rfl
        intro ci2 bi2 u6 c2 ec2 hc2 efo2
        refine go_iinc (j := 4) (q := 76) (ls2 := [_, _, _, _, _, _, _]) rfl (by decide) rfl rfl dX5_componentOf_73 rfl ?_
        refine go_goto (q := 17) dX5_componentOf_76 (by decide) ?_
        exact ih (a + 1) _ ci2 c2 _ _ (by omega) (by omega) (by omega) ec2 hc2 (by rw [efo2, efo]; rfl)
  have lp1 : ∀ (m k : Nat) (ki ci : Int) (c : Nat) (u v : Option MV) (u6 : Option MV), ki = k → n ≤ m + k → k ≤ n → ci = c → c < 2 ^ n → c = itN (rnd2 (stC f) n) (2 ^ x) k → gX5_componentOf l D ck ad sh 6 [some (vR t), some (vI xi), some (vI ci), some (vI ki), u, v, u6] [] w K := by
    intro m
    induction m with
    | zero =>
      intro k ki ci c u v u6 ek hz hz2 ec hc efo
      refine go_iload_n (j := 3) (q := 7) rfl rfl dX5_componentOf_6 rfl ?_
      refine go_aload_n (j := 0) (q := 8) rfl rfl dX5_componentOf_7 rfl ?_
      refine go_getI (C0 := RX5) (T := TX5) (N := 2) (ci := 5) (i := 0) (q := 11) rfl igX5 (by first | assumption | rfl) (by decide) fl_X5_9 rfl dX5_componentOf_8 rfl ?_
      refine go_icmp_ge2 (q := 14) (t := 85) dX5_componentOf_11 (by decide) rfl (by omega) (fun c11 => ?_) (fun c11 => ?_)
      · refine go_iload_n (j := 2) (q := 86) rfl rfl dX5_componentOf_85 rfl ?_
        refine go_iret dX5_componentOf_86 ?_
        subst hK
        exact ⟨_, rfl, by rw [ec, efo, show k = n by omega], rfl⟩
      · exact absurd c11 (by omega)
    | succ m ih =>
      intro k ki ci c u v u6 ek hz hz2 ec hc efo
      refine go_iload_n (j := 3) (q := 7) rfl rfl dX5_componentOf_6 rfl ?_
      refine go_aload_n (j := 0) (q := 8) rfl rfl dX5_componentOf_7 rfl ?_
      refine go_getI (C0 := RX5) (T := TX5) (N := 2) (ci := 5) (i := 0) (q := 11) rfl igX5 (by first | assumption | rfl) (by decide) fl_X5_9 rfl dX5_componentOf_8 rfl ?_
      refine go_icmp_ge2 (q := 14) (t := 85) dX5_componentOf_11 (by decide) rfl (by omega) (fun c11 => ?_) (fun c11 => ?_)
      · refine go_iload_n (j := 2) (q := 86) rfl rfl dX5_componentOf_85 rfl ?_
        refine go_iret dX5_componentOf_86 ?_
        subst hK
        exact ⟨_, rfl, by rw [ec, efo, show k = n by omega], rfl⟩
      · refine go_iconst (q := 15) dX5_componentOf_14 rfl ?_
        refine go_istore (j := 4) (q := 17) (ls2 := [_, _, _, _, _, _, _]) (by decide) rfl rfl dX5_componentOf_15 rfl ?_
        refine lp2 ki c ?_ n 0 0 ci c _ _ rfl (by omega) (by omega) ec hc rfl
        intro ci2 ai2 u2 u6 c2 ec2 hc2 efo2
        refine go_iinc (j := 3) (q := 82) (ls2 := [_, _, _, _, _, _, _]) rfl (by decide) rfl rfl dX5_componentOf_79 rfl ?_
        refine go_goto (q := 6) dX5_componentOf_82 (by decide) ?_
        exact ih (k + 1) _ ci2 c2 _ _ _ (by omega) (by omega) (by omega) ec2 hc2 (by rw [efo2, efo]; rfl)
  refine go_iconst (q := 1) dX5_componentOf_0 rfl ?_
  refine go_iload_n (j := 1) (q := 2) rfl rfl dX5_componentOf_1 rfl ?_
  refine go_ishl (q := 3) dX5_componentOf_2 rfl ?_
  refine go_istore_n (j := 2) (q := 4) (ls2 := [_, _, _, _, _, _, _]) rfl (by decide) rfl rfl dX5_componentOf_3 rfl ?_
  refine go_iconst (q := 5) dX5_componentOf_4 rfl ?_
  refine go_istore_n (j := 3) (q := 6) (ls2 := [_, _, _, _, _, _, _]) rfl (by decide) rfl rfl dX5_componentOf_5 rfl ?_
  exact lp1 n 0 0 _ (2 ^ x) _ _ _ rfl (by omega) (by omega) (by rw [ex, shl_eq (by omega)]) (two_lt hx) rfl
end TAB2
