theorem rg32 (a : Int32) : -2147483648 ≤ a.toInt ∧ a.toInt < 2147483648 := by
  have h1 := Int32.le_toInt a
  have h2 := Int32.toInt_lt a
  omega
theorem bitc_b : ∀ a : Fin 128, (let x : Int := ((a : Nat) : Int)
    let v1 := x - andZ (ushrZ x 1) 1431655765
    let v2 := andZ v1 858993459 + andZ (ushrZ v1 2) 858993459
    let v3 := andZ (v2 + ushrZ v2 4) 252645135
    let v4 := v3 + ushrZ v3 8
    let v5 := v4 + ushrZ v4 16
    andZ v5 63) = (pc a : Int) := by decide +kernel
theorem fm_b : ∀ a : Fin 128, ∀ b : Fin 7, (b : Nat) ≠ 0 → (let x : Int := (a : Nat) - 64
    let y : Int := (b : Nat)
    (xorZ x y < 0 → ¬ x.tmod y = 0 → x.tmod y + y = x % y) ∧ (0 ≤ xorZ x y → x.tmod y = x % y) ∧ (x.tmod y = 0 → x.tmod y = x % y) ∧ (-6 ≤ x.tmod y ∧ x.tmod y ≤ 6)) := by decide +kernel
theorem rnd2_lt {n : Nat} {g : Nat → Nat → Nat → Nat} (h : ∀ a b c, a < n → b < n → c < 2 ^ n → g a b c < 2 ^ n) {m : Nat} (hm : m < 2 ^ n) : rnd2 g n m < 2 ^ n := by
  have h1 : ∀ k, k ≤ n → ∀ a c, a < n → c < 2 ^ n → fN (fun b m => g a b m) c k < 2 ^ n := by
    intro k
    induction k with
    | zero => intro _ a c _ hc; exact hc
    | succ k ih => intro hk a c ha hc; exact h a k _ ha (by omega) (ih (by omega) a c ha hc)
  have h2 : ∀ k, k ≤ n → fN (fun a m => fN (fun b m => g a b m) m n) m k < 2 ^ n := by
    intro k
    induction k with
    | zero => intro _; exact hm
    | succ k ih => intro hk; exact h1 n (Nat.le_refl n) k _ (by omega) (ih (by omega))
  exact h2 n (Nat.le_refl n)
theorem stC_lt {n : Nat} {f : Nat → Nat → Nat} (hr : ∀ i j, i < n → j < n → f i j < n) : ∀ a b c, a < n → b < n → c < 2 ^ n → stC f a b c < 2 ^ n := by
  intro a b c ha hb hc
  unfold stC; split
  · exact hc
  · exact or_lt hc (or_lt (two_lt ha) (two_lt (hr a b ha hb)))
theorem stK_lt {n : Nat} {f : Nat → Nat → Nat} (hr : ∀ i j, i < n → j < n → f i j < n) : ∀ a b c, a < n → b < n → c < 2 ^ n → stK f a b c < 2 ^ n := by
  intro a b c ha hb hc
  unfold stK; split
  · exact or_lt hc (two_lt (hr a b ha hb))
  · exact hc
theorem stR_lt {n : Nat} {f : Nat → Nat → Nat} (hr : ∀ i j, i < n → j < n → f i j < n) : ∀ a b c, a < n → b < n → c < 2 ^ n → stR f a b c < 2 ^ n := by
  intro a b c ha hb hc
  unfold stR; split
  · exact or_lt hc (two_lt (hr a b ha hb))
  · exact hc
theorem itr_lt {N : Nat} {r : Nat → Nat} (h : ∀ m, m < N → r m < N) {m : Nat} (hm : m < N) (k : Nat) : itN r m k < N := itN_lt h hm k
def cmpT (n : Nat) (f : Nat → Nat → Nat) (x : Nat) : Nat := itN (rnd2 (stC f) n) (2 ^ x) n
def cloT (n : Nat) (f : Nat → Nat → Nat) (s : Nat) : Nat := itN (rnd2 (stK f) n) s n
def ccF (n : Nat) (f : Nat → Nat → Nat) (k : Nat) : Nat × Nat := fN (fun x (p : Nat × Nat) => if p.2.testBit x = true then p else (p.1 + 1, p.2 ||| cmpT n f x)) (0, 0) k
def lgF (n : Nat) (f : Nat → Nat → Nat) (k : Nat) : Nat := fN (fun s a => if cloT n f s = 2 ^ n - 1 then (if a ≤ pc s then a else pc s) else a) n k
def ordT (n : Nat) (f : Nat → Nat → Nat) (y : Nat) (v : Int) : Prop := (¬ prm n f y ∧ v = -6) ∨ (prm n f y ∧ ∃ o : Nat, v = o ∧ (1 ≤ o ∧ o ≤ 6) ∧ (∀ j, 1 ≤ j → j < o → ¬ idA n f y j) ∧ (o = 6 ∨ idA n f y o))
section JDK
variable {l : Launch} {D : va_G} {ck : Nat → ClassId} {ad : Nat → Nat} {sh : List Shp} {w : Mem}
theorem ev_bitCount {m : Nat} {mi : Int} (em : mi = m) (hm : m < 128) : eJ6_bitCount_0f7a4 l D ck ad sh [vI mi] w (Pi fun v w1 => v = (pc m : Int) ∧ w = w1) := by
  subst em
  refine ev_of_go (own := RJ6) (ls := [some (vI m)]) (by decide +kernel) rfl rfl (Nat.le_of_ble_eq_true rfl) rkI ?_
  refine go_iload_n (j := 0) (q := 1) rfl rfl dJ6_bitCount_0f7a4_0 rfl ?_
  refine go_iload_n (j := 0) (q := 2) rfl rfl dJ6_bitCount_0f7a4_1 rfl ?_
  refine go_iconst (q := 3) dJ6_bitCount_0f7a4_2 rfl ?_
  refine go_iushr (q := 4) dJ6_bitCount_0f7a4_3 rfl ?_
  refine go_ldcw (n := 1431655765) (q := 7) cn_J6_265 rfl dJ6_bitCount_0f7a4_4 rfl ?_
  refine go_iand (q := 8) dJ6_bitCount_0f7a4_7 rfl ?_
  refine go_isub (q := 9) dJ6_bitCount_0f7a4_8 rfl ?_
  refine go_istore_n (j := 0) (q := 10) (ls2 := [_]) rfl (by decide) rfl rfl dJ6_bitCount_0f7a4_9 rfl ?_
  refine go_iload_n (j := 0) (q := 11) rfl rfl dJ6_bitCount_0f7a4_10 rfl ?_
  refine go_ldcw (n := 858993459) (q := 14) cn_J6_266 rfl dJ6_bitCount_0f7a4_11 rfl ?_
  refine go_iand (q := 15) dJ6_bitCount_0f7a4_14 rfl ?_
  refine go_iload_n (j := 0) (q := 16) rfl rfl dJ6_bitCount_0f7a4_15 rfl ?_
  refine go_iconst (q := 17) dJ6_bitCount_0f7a4_16 rfl ?_
  refine go_iushr (q := 18) dJ6_bitCount_0f7a4_17 rfl ?_
  refine go_ldcw (n := 858993459) (q := 21) cn_J6_266 rfl dJ6_bitCount_0f7a4_18 rfl ?_
  refine go_iand (q := 22) dJ6_bitCount_0f7a4_21 rfl ?_
  refine go_iadd (q := 23) dJ6_bitCount_0f7a4_22 rfl ?_
  refine go_istore_n (j := 0) (q := 24) (ls2 := [_]) rfl (by decide) rfl rfl dJ6_bitCount_0f7a4_23 rfl ?_
  refine go_iload_n (j := 0) (q := 25) rfl rfl dJ6_bitCount_0f7a4_24 rfl ?_
  refine go_iload_n (j := 0) (q := 26) rfl rfl dJ6_bitCount_0f7a4_25 rfl ?_
  refine go_iconst (q := 27) dJ6_bitCount_0f7a4_26 rfl ?_
  refine go_iushr (q := 28) dJ6_bitCount_0f7a4_27 rfl ?_
  refine go_iadd (q := 29) dJ6_bitCount_0f7a4_28 rfl ?_
  refine go_ldcw (n := 252645135) (q := 32) cn_J6_267 rfl dJ6_bitCount_0f7a4_29 rfl ?_
  refine go_iand (q := 33) dJ6_bitCount_0f7a4_32 rfl ?_
  refine go_istore_n (j := 0) (q := 34) (ls2 := [_]) rfl (by decide) rfl rfl dJ6_bitCount_0f7a4_33 rfl ?_
  refine go_iload_n (j := 0) (q := 35) rfl rfl dJ6_bitCount_0f7a4_34 rfl ?_
  refine go_iload_n (j := 0) (q := 36) rfl rfl dJ6_bitCount_0f7a4_35 rfl ?_
  refine go_bipush (q := 38) rfl dJ6_bitCount_0f7a4_36 rfl ?_
  refine go_iushr (q := 39) dJ6_bitCount_0f7a4_38 rfl ?_
  refine go_iadd (q := 40) dJ6_bitCount_0f7a4_39 rfl ?_
  refine go_istore_n (j := 0) (q := 41) (ls2 := [_]) rfl (by decide) rfl rfl dJ6_bitCount_0f7a4_40 rfl ?_
  refine go_iload_n (j := 0) (q := 42) rfl rfl dJ6_bitCount_0f7a4_41 rfl ?_
  refine go_iload_n (j := 0) (q := 43) rfl rfl dJ6_bitCount_0f7a4_42 rfl ?_
  refine go_bipush (q := 45) rfl dJ6_bitCount_0f7a4_43 rfl ?_
  refine go_iushr (q := 46) dJ6_bitCount_0f7a4_45 rfl ?_
  refine go_iadd (q := 47) dJ6_bitCount_0f7a4_46 rfl ?_
  refine go_istore_n (j := 0) (q := 48) (ls2 := [_]) rfl (by decide) rfl rfl dJ6_bitCount_0f7a4_47 rfl ?_
  refine go_iload_n (j := 0) (q := 49) rfl rfl dJ6_bitCount_0f7a4_48 rfl ?_
  refine go_bipush (q := 51) rfl dJ6_bitCount_0f7a4_49 rfl ?_
  refine go_iand (q := 52) dJ6_bitCount_0f7a4_51 rfl ?_
  refine go_iret dJ6_bitCount_0f7a4_52 ?_
  exact ⟨_, rfl, bitc_b ⟨m, hm⟩, rfl⟩
theorem ev_min {x y : Int} (hx : (-2147483648 ≤ x ∧ x < 2147483648) ∧ (-2147483648 ≤ y ∧ y < 2147483648)) : eJ9_min_7cf53 l D ck ad sh [vI x, vI y] w (Pi fun v w1 => ((x ≤ y ∧ v = x) ∨ (y < x ∧ v = y)) ∧ w = w1) := by
  refine ev_of_go (own := RJ9) (ls := [some (vI x), some (vI y)]) (by decide +kernel) rfl rfl (Nat.le_of_ble_eq_true rfl) rkI ?_
  refine go_iload_n (j := 0) (q := 1) rfl rfl dJ9_min_7cf53_0 rfl ?_
  refine go_iload_n (j := 1) (q := 2) rfl rfl dJ9_min_7cf53_1 rfl ?_
  refine go_icmp_gt2 (q := 5) (t := 9) dJ9_min_7cf53_2 (by decide) rfl (by omega) (fun c2 => ?_) (fun c2 => ?_)
  · refine go_iload_n (j := 1) (q := 10) rfl rfl dJ9_min_7cf53_9 rfl ?_
    refine go_iret dJ9_min_7cf53_10 ?_
    exact ⟨_, rfl, by omega, rfl⟩
  · refine go_iload_n (j := 0) (q := 6) rfl rfl dJ9_min_7cf53_5 rfl ?_
    refine go_goto (q := 10) dJ9_min_7cf53_6 (by decide) ?_
    refine go_iret dJ9_min_7cf53_10 ?_
    exact ⟨_, rfl, by omega, rfl⟩
theorem ev_max {x y : Int} (hx : (-2147483648 ≤ x ∧ x < 2147483648) ∧ (-2147483648 ≤ y ∧ y < 2147483648)) : eJ9_max_7cf53 l D ck ad sh [vI x, vI y] w (Pi fun v w1 => ((y ≤ x ∧ v = x) ∨ (x < y ∧ v = y)) ∧ w = w1) := by
  refine ev_of_go (own := RJ9) (ls := [some (vI x), some (vI y)]) (by decide +kernel) rfl rfl (Nat.le_of_ble_eq_true rfl) rkI ?_
  refine go_iload_n (j := 0) (q := 1) rfl rfl dJ9_max_7cf53_0 rfl ?_
  refine go_iload_n (j := 1) (q := 2) rfl rfl dJ9_max_7cf53_1 rfl ?_
  refine go_icmp_lt2 (q := 5) (t := 9) dJ9_max_7cf53_2 (by decide) rfl (by omega) (fun c2 => ?_) (fun c2 => ?_)
  · refine go_iload_n (j := 1) (q := 10) rfl rfl dJ9_max_7cf53_9 rfl ?_
    refine go_iret dJ9_max_7cf53_10 ?_
    exact ⟨_, rfl, by omega, rfl⟩
  · refine go_iload_n (j := 0) (q := 6) rfl rfl dJ9_max_7cf53_5 rfl ?_
    refine go_goto (q := 10) dJ9_max_7cf53_6 (by decide) ?_
    refine go_iret dJ9_max_7cf53_10 ?_
    exact ⟨_, rfl, by omega, rfl⟩
theorem ev_floorMod {x : Int} {y : Nat} {yi : Int} (ey : yi = y) (hx : -64 ≤ x ∧ x < 64) (hy : 1 ≤ y ∧ y ≤ 6) : eJ9_floorMod_7cf53 l D ck ad sh [vI x, vI yi] w (Pi fun v w1 => v = x % (y : Int) ∧ w = w1) := by
  subst ey
  obtain ⟨a, ha⟩ : ∃ a : Nat, x = (a : Int) - 64 := ⟨(x + 64).toNat, by omega⟩
  have hb := fm_b ⟨a, by omega⟩ ⟨y, by omega⟩ (by show y ≠ 0; omega)
  simp only [← ha] at hb
  have hrx : -2147483648 ≤ xorZ x (y : Int) ∧ xorZ x (y : Int) < 2147483648 := rg32 _
  refine ev_of_go (own := RJ9) (ls := [some (vI x), some (vI y), none]) (by decide +kernel) rfl rfl (Nat.le_of_ble_eq_true rfl) rkI ?_
  refine go_iload_n (j := 0) (q := 1) rfl rfl dJ9_floorMod_7cf53_0 rfl ?_
  refine go_iload_n (j := 1) (q := 2) rfl rfl dJ9_floorMod_7cf53_1 rfl ?_
  refine go_irem2 (q := 3) (by omega) (by omega) dJ9_floorMod_7cf53_2 rfl ?_
  refine go_istore_n (j := 2) (q := 4) (ls2 := [_, _, _]) rfl (by decide) rfl rfl dJ9_floorMod_7cf53_3 rfl ?_
  refine go_iload_n (j := 0) (q := 5) rfl rfl dJ9_floorMod_7cf53_4 rfl ?_
  refine go_iload_n (j := 1) (q := 6) rfl rfl dJ9_floorMod_7cf53_5 rfl ?_
  refine go_ixor (q := 7) dJ9_floorMod_7cf53_6 rfl ?_
  refine go_if_ge2 (q := 10) (t := 18) dJ9_floorMod_7cf53_7 (by decide) rfl (by omega) (fun c7 => ?_) (fun c7 => ?_)
  · refine go_iload_n (j := 2) (q := 19) rfl rfl dJ9_floorMod_7cf53_18 rfl ?_
    refine go_iret dJ9_floorMod_7cf53_19 ?_
    first | exact ⟨_, rfl, hb.2.1 c7, rfl⟩ | exact ⟨_, rfl, hb.2.2.1 c11, rfl⟩
  · refine go_iload_n (j := 2) (q := 11) rfl rfl dJ9_floorMod_7cf53_10 rfl ?_
    refine go_if_eq2 (q := 14) (t := 18) dJ9_floorMod_7cf53_11 (by decide) rfl (by omega) (fun c11 => ?_) (fun c11 => ?_)
    · refine go_iload_n (j := 2) (q := 19) rfl rfl dJ9_floorMod_7cf53_18 rfl ?_
      refine go_iret dJ9_floorMod_7cf53_19 ?_
      first | exact ⟨_, rfl, hb.2.1 c7, rfl⟩ | exact ⟨_, rfl, hb.2.2.1 c11, rfl⟩
    · refine go_iload_n (j := 2) (q := 15) rfl rfl dJ9_floorMod_7cf53_14 rfl ?_
      refine go_iload_n (j := 1) (q := 16) rfl rfl dJ9_floorMod_7cf53_15 rfl ?_
      refine go_iadd (q := 17) dJ9_floorMod_7cf53_16 rfl ?_
      refine go_iret dJ9_floorMod_7cf53_17 ?_
      exact ⟨_, rfl, hb.1 c7 c11, rfl⟩
end JDK
section TAB3
variable {l : Launch} {D : va_G} {ck : Nat → ClassId} {ad : Nat → Nat} {sh : List Shp} {t n : Nat} {f : Nat → Nat → Nat} {w : Mem}
theorem ev_countComponents (ht1 : sh[t]? = some (oTab t)) (ht2 : sh[t + 1]? = some (rInt 36)) (hT : TB w t n f) :
    eX5_countComponents l D ck ad sh [vR t] w (Pi fun v w1 => v = ((ccF n f n).1 : Int) ∧ w = w1) := by
  have hT0 := hT
  obtain ⟨h0, hn, hf⟩ := hT
  have hr : ∀ i j, i < n → j < n → f i j < n := fun i j hi hj => (hf i j hi hj).2
  have h64 : 2 ^ n ≤ 2 ^ 6 := Nat.pow_le_pow_right (by decide) hn.2
  have hcl : ∀ x, x < n → cmpT n f x < 2 ^ n := fun x hx => itr_lt (fun m hm => rnd2_lt (stC_lt hr) hm) (two_lt hx) n
  refine ev_of_go (own := RX5) (ls := [some (vR t), none, none, none]) (by decide +kernel) rfl rfl (Nat.le_of_ble_eq_true rfl) rkI ?_
  have lp : ∀ (m z : Nat) (zi ni si : Int) (p : Nat × Nat), zi = z → n ≤ m + z → z ≤ n → p = ccF n f z → ni = p.1 → si = p.2 → p.2 < 2 ^ n → p.1 ≤ z → gX5_countComponents l D ck ad sh 6 [some (vR t), some (vI ni), some (vI si), some (vI zi)] [] w (Pi fun v w1 => v = ((ccF n f n).1 : Int) ∧ w = w1) := by
    intro m
    induction m with
    | zero =>
      intro z zi ni si p ez hz hz2 ep en es hp hp1
      refine go_iload_n (j := 3) (q := 7) rfl rfl dX5_countComponents_6 rfl ?_
      refine go_aload_n (j := 0) (q := 8) rfl rfl dX5_countComponents_7 rfl ?_
      refine go_getI (C0 := RX5) (T := TX5) (N := 2) (ci := 5) (i := 0) (q := 11) rfl igX5 (by first | assumption | rfl) (by decide) fl_X5_9 rfl dX5_countComponents_8 rfl ?_
      refine go_icmp_ge2 (q := 14) (t := 39) dX5_countComponents_11 (by decide) rfl (by omega) (fun c11 => ?_) (fun c11 => ?_)
      · refine go_iload_n (j := 1) (q := 40) rfl rfl dX5_countComponents_39 rfl ?_
        refine go_iret dX5_countComponents_40 ?_
        exact ⟨_, rfl, by rw [en, ep, show z = n by omega], rfl⟩
      · exact absurd c11 (by omega)
    | succ m ih =>
      intro z zi ni si p ez hz hz2 ep en es hp hp1
      refine go_iload_n (j := 3) (q := 7) rfl rfl dX5_countComponents_6 rfl ?_
      refine go_aload_n (j := 0) (q := 8) rfl rfl dX5_countComponents_7 rfl ?_
      refine go_getI (C0 := RX5) (T := TX5) (N := 2) (ci := 5) (i := 0) (q := 11) rfl igX5 (by first | assumption | rfl) (by decide) fl_X5_9 rfl dX5_countComponents_8 rfl ?_
      refine go_icmp_ge2 (q := 14) (t := 39) dX5_countComponents_11 (by decide) rfl (by omega) (fun c11 => ?_) (fun c11 => ?_)
      · refine go_iload_n (j := 1) (q := 40) rfl rfl dX5_countComponents_39 rfl ?_
        refine go_iret dX5_countComponents_40 ?_
        exact ⟨_, rfl, by rw [en, ep, show z = n by omega], rfl⟩
      · have hb1 := bit_eq (a := p.2) (k := z) (by omega) (by omega)
        rw [← es, ← ez] at hb1
        refine go_iload_n (j := 2) (q := 15) rfl rfl dX5_countComponents_14 rfl ?_
        refine go_iload_n (j := 3) (q := 16) rfl rfl dX5_countComponents_15 rfl ?_
        refine go_ishr (q := 17) dX5_countComponents_16 rfl ?_
        refine go_iconst (q := 18) dX5_countComponents_17 rfl ?_
        refine go_iand (q := 19) dX5_countComponents_18 rfl ?_
        refine go_if_ne2 (q := 22) (t := 33) dX5_countComponents_19 (by decide) rfl (by rw [hb1]; split <;> omega) (fun c19 => ?_) (fun c19 => ?_)
        · have hbt : p.2.testBit z = true := by rw [hb1] at c19; by_cases q : p.2.testBit z = true; exact q; rw [if_neg q] at c19; omega
          refine go_iinc (j := 3) (q := 36) (ls2 := [_, _, _, _]) rfl (by decide) rfl rfl dX5_countComponents_33 rfl ?_
          refine go_goto (q := 6) dX5_countComponents_36 (by decide) ?_
          first
          | exact ih (z + 1) _ _ _ p (by omega) (by omega) (by omega) (by show _ = (if (ccF n f z).2.testBit z = true then ccF n f z else _); rw [← ep, if_pos hbt]) en es hp (by omega)
          | exact ih (z + 1) _ _ _ (p.1 + 1, p.2 ||| cmpT n f z) (by omega) (by omega) (by omega) (by show _ = (if (ccF n f z).2.testBit z = true then _ else ((ccF n f z).1 + 1, (ccF n f z).2 ||| cmpT n f z)); rw [← ep, if_neg hbt]) (by simp only; omega) (by have h5 := hcl z (by omega); rw [es]; exact or_eq (by omega) (by show cmpT n f z < 128; omega)) (or_lt hp (hcl z (by omega))) (by simp only; omega)
        · have hbt : ¬ p.2.testBit z = true := by rw [hb1] at c19; intro q; rw [if_pos q] at c19; omega
          refine go_iinc (j := 1) (q := 25) (ls2 := [_, _, _, _]) rfl (by decide) rfl rfl dX5_countComponents_22 rfl ?_
          refine go_iload_n (j := 2) (q := 26) rfl rfl dX5_countComponents_25 rfl ?_
          refine go_aload_n (j := 0) (q := 27) rfl rfl dX5_countComponents_26 rfl ?_
          refine go_iload_n (j := 3) (q := 28) rfl rfl dX5_countComponents_27 rfl ?_
          refine go_callVi (as := [_, _]) (As := [_]) (rest := [_]) (n := 1) (q := 31) dX5_countComponents_28 lk_X5_65 (ci := 5) (N := 2) (T := TX5) rfl (by first | assumption | rfl) rfl rfl (by decide +kernel) rfl ⟨by decide, by decide⟩ ⟨rfl, rfl⟩ (Nat.le_of_ble_eq_true rfl) (ev_componentOf ht1 ht2 hT0 (x := z) ez (by omega)) rfl (fun x28 w28 h28 => ?_)
          obtain ⟨rfl, rfl⟩ := h28
          refine go_ior (q := 32) dX5_countComponents_31 rfl ?_
          refine go_istore_n (j := 2) (q := 33) (ls2 := [_, _, _, _]) rfl (by decide) rfl rfl dX5_countComponents_32 rfl ?_
          refine go_iinc (j := 3) (q := 36) (ls2 := [_, _, _, _]) rfl (by decide) rfl rfl dX5_countComponents_33 rfl ?_
          refine go_goto (q := 6) dX5_countComponents_36 (by decide) ?_
          first
          | exact ih (z + 1) _ _ _ p (by omega) (by omega) (by omega) (by show _ = (if (ccF n f z).2.testBit z = true then ccF n f z else _); rw [← ep, if_pos hbt]) en es hp (by omega)
          | exact ih (z + 1) _ _ _ (p.1 + 1, p.2 ||| cmpT n f z) (by omega) (by omega) (by omega) (by show _ = (if (ccF n f z).2.testBit z = true then _ else ((ccF n f z).1 + 1, (ccF n f z).2 ||| cmpT n f z)); rw [← ep, if_neg hbt]) (by simp only; omega) (by have h5 := hcl z (by omega); rw [es]; exact or_eq (by omega) (by show cmpT n f z < 128; omega)) (or_lt hp (hcl z (by omega))) (by simp only; omega)
  refine go_iconst (q := 1) dX5_countComponents_0 rfl ?_
  refine go_istore_n (j := 1) (q := 2) (ls2 := [_, _, _, _]) rfl (by decide) rfl rfl dX5_countComponents_1 rfl ?_
  refine go_iconst (q := 3) dX5_countComponents_2 rfl ?_
  refine go_istore_n (j := 2) (q := 4) (ls2 := [_, _, _, _]) rfl (by decide) rfl rfl dX5_countComponents_3 rfl ?_
  refine go_iconst (q := 5) dX5_countComponents_4 rfl ?_
  refine go_istore_n (j := 3) (q := 6) (ls2 := [_, _, _, _]) rfl (by decide) rfl rfl dX5_countComponents_5 rfl ?_
  exact lp n 0 0 0 0 (0, 0) rfl (by omega) (by omega) rfl rfl rfl (Nat.two_pow_pos n) (Nat.le_refl 0)
theorem ev_leastGenerators (ht1 : sh[t]? = some (oTab t)) (ht2 : sh[t + 1]? = some (rInt 36)) (hT : TB w t n f) :
    eX5_leastGenerators l D ck ad sh [vR t] w (Pi fun v w1 => v = (lgF n f (2 ^ n) : Int) ∧ w = w1) := by
  have hT0 := hT
  obtain ⟨h0, hn, hf⟩ := hT
  have hr : ∀ i j, i < n → j < n → f i j < n := fun i j hi hj => (hf i j hi hj).2
  have h64 : 2 ^ n ≤ 2 ^ 6 := Nat.pow_le_pow_right (by decide) hn.2
  have h2p := Nat.one_le_two_pow (n := n)
  have hcl : ∀ x, x < 2 ^ n → cloT n f x < 2 ^ n := fun x hx => itr_lt (fun m hm => rnd2_lt (stK_lt hr) hm) hx n
  refine ev_of_go (own := RX5) (ls := [some (vR t), none, none]) (by decide +kernel) rfl rfl (Nat.le_of_ble_eq_true rfl) rkI ?_
  have lp : ∀ (m z : Nat) (zi ai : Int) (a : Nat), zi = z → 2 ^ n ≤ m + z → z ≤ 2 ^ n → a = lgF n f z → ai = a → a ≤ n → gX5_leastGenerators l D ck ad sh 7 [some (vR t), some (vI ai), some (vI zi)] [] w (Pi fun v w1 => v = (lgF n f (2 ^ n) : Int) ∧ w = w1) := by
    intro m
    induction m with
    | zero =>
      intro z zi ai a ez hz hz2 ea eai ha
      refine go_iload_n (j := 2) (q := 8) rfl rfl dX5_leastGenerators_7 rfl ?_
      refine go_aload_n (j := 0) (q := 9) rfl rfl dX5_leastGenerators_8 rfl ?_
      refine go_callVi (as := [_]) (As := []) (rest := [_]) (n := 0) (q := 12) dX5_leastGenerators_9 lk_X5_61 (ci := 5) (N := 2) (T := TX5) rfl (by first | assumption | rfl) rfl rfl (by decide +kernel) rfl ⟨by decide, by decide⟩ ⟨rfl, rfl⟩ (Nat.le_of_ble_eq_true rfl) (ev_allElements ht1 hT0) rfl (fun x9 w9 h9 => ?_)
      obtain ⟨rfl, rfl⟩ := h9
      refine go_icmp_gt2 (q := 15) (t := 42) dX5_leastGenerators_12 (by decide) rfl (by omega) (fun c12 => ?_) (fun c12 => ?_)
      · refine go_iload_n (j := 1) (q := 43) rfl rfl dX5_leastGenerators_42 rfl ?_
        refine go_iret dX5_leastGenerators_43 ?_
        exact ⟨_, rfl, by rw [eai, ea, show z = 2 ^ n by omega], rfl⟩
      · exact absurd c12 (by omega)
    | succ m ih =>
      intro z zi ai a ez hz hz2 ea eai ha
      refine go_iload_n (j := 2) (q := 8) rfl rfl dX5_leastGenerators_7 rfl ?_
      refine go_aload_n (j := 0) (q := 9) rfl rfl dX5_leastGenerators_8 rfl ?_
      refine go_callVi (as := [_]) (As := []) (rest := [_]) (n := 0) (q := 12) dX5_leastGenerators_9 lk_X5_61 (ci := 5) (N := 2) (T := TX5) rfl (by first | assumption | rfl) rfl rfl (by decide +kernel) rfl ⟨by decide, by decide⟩ ⟨rfl, rfl⟩ (Nat.le_of_ble_eq_true rfl) (ev_allElements ht1 hT0) rfl (fun x9 w9 h9 => ?_)
      obtain ⟨rfl, rfl⟩ := h9
      refine go_icmp_gt2 (q := 15) (t := 42) dX5_leastGenerators_12 (by decide) rfl (by omega) (fun c12 => ?_) (fun c12 => ?_)
      · refine go_iload_n (j := 1) (q := 43) rfl rfl dX5_leastGenerators_42 rfl ?_
        refine go_iret dX5_leastGenerators_43 ?_
        exact ⟨_, rfl, by rw [eai, ea, show z = 2 ^ n by omega], rfl⟩
      · refine go_aload_n (j := 0) (q := 16) rfl rfl dX5_leastGenerators_15 rfl ?_
        refine go_iload_n (j := 2) (q := 17) rfl rfl dX5_leastGenerators_16 rfl ?_
        refine go_callVi (as := [_, _]) (As := [_]) (rest := []) (n := 1) (q := 20) dX5_leastGenerators_17 lk_X5_69 (ci := 5) (N := 2) (T := TX5) rfl (by first | assumption | rfl) rfl rfl (by decide +kernel) rfl ⟨by decide, by decide⟩ ⟨rfl, rfl⟩ (Nat.le_of_ble_eq_true rfl) (ev_closureOf ht1 ht2 hT0 (x := z) ez (by omega)) rfl (fun x17 w17 h17 => ?_)
        obtain ⟨rfl, rfl⟩ := h17
        have hc1 := hcl z (by omega)
        refine go_aload_n (j := 0) (q := 21) rfl rfl dX5_leastGenerators_20 rfl ?_
        refine go_callVi (as := [_]) (As := []) (rest := [_]) (n := 0) (q := 24) dX5_leastGenerators_21 lk_X5_61 (ci := 5) (N := 2) (T := TX5) rfl (by first | assumption | rfl) rfl rfl (by decide +kernel) rfl ⟨by decide, by decide⟩ ⟨rfl, rfl⟩ (Nat.le_of_ble_eq_true rfl) (ev_allElements ht1 hT0) rfl (fun x21 w21 h21 => ?_)
        obtain ⟨rfl, rfl⟩ := h21
        refine go_icmp_ne2 (q := 27) (t := 36) dX5_leastGenerators_24 (by decide) rfl (by show (_ ∧ (((cloT n f z : Nat) : Int) < _)) ∧ _; omega) (fun c24 => ?_) (fun c24 => ?_)
        · refine go_iinc (j := 2) (q := 39) (ls2 := [_, _, _]) rfl (by decide) rfl rfl dX5_leastGenerators_36 rfl ?_
          refine go_goto (q := 7) dX5_leastGenerators_39 (by decide) ?_
          first
          | exact ih (z + 1) _ _ a (by omega) (by omega) (by omega) (by show _ = (if cloT n f z = 2 ^ n - 1 then _ else lgF n f z); rw [← ea, if_neg (fun q => c24 (by show ((cloT n f z : Nat) : Int) = _; rw [q]))]) eai ha
          | exact ih (z + 1) _ _ (if a ≤ pc z then a else pc z) (by omega) (by omega) (by omega) (by show _ = (if cloT n f z = 2 ^ n - 1 then (if lgF n f z ≤ pc z then lgF n f z else pc z) else _); rw [if_pos (show cloT n f z = 2 ^ n - 1 from Int.ofNat.inj c24), ← ea]) (by split <;> omega) (by split <;> omega)
        · refine go_iload_n (j := 1) (q := 28) rfl rfl dX5_leastGenerators_27 rfl ?_
          refine go_iload_n (j := 2) (q := 29) rfl rfl dX5_leastGenerators_28 rfl ?_
          refine go_callSi (as := [_]) (rest := [_]) (n := 1) (q := 32) dX5_leastGenerators_29 lk_X5_72 rfl (by decide +kernel) rfl ⟨by decide, by decide⟩ ⟨rfl, rfl⟩ (Nat.le_of_ble_eq_true rfl) (ev_bitCount (m := z) ez (by omega)) rfl (fun x29 w29 h29 => ?_)
          obtain ⟨rfl, rfl⟩ := h29
          have hp1 := (pc_full (N := n) (a := z) (by omega) (by omega)).1
          refine go_callSi (as := [_, _]) (rest := []) (n := 2) (q := 35) dX5_leastGenerators_32 lk_X5_45 rfl (by decide +kernel) rfl ⟨by decide, by decide⟩ ⟨rfl, rfl⟩ (Nat.le_of_ble_eq_true rfl) (ev_min (by omega)) rfl (fun x32 w32 h32 => ?_)
          obtain ⟨h32, rfl⟩ := h32
          refine go_istore_n (j := 1) (q := 36) (ls2 := [_, _, _]) rfl (by decide) rfl rfl dX5_leastGenerators_35 rfl ?_
          refine go_iinc (j := 2) (q := 39) (ls2 := [_, _, _]) rfl (by decide) rfl rfl dX5_leastGenerators_36 rfl ?_
          refine go_goto (q := 7) dX5_leastGenerators_39 (by decide) ?_
          first
          | exact ih (z + 1) _ _ a (by omega) (by omega) (by omega) (by show _ = (if cloT n f z = 2 ^ n - 1 then _ else lgF n f z); rw [← ea, if_neg (fun q => c24 (by show ((cloT n f z : Nat) : Int) = _; rw [q]))]) eai ha
          | exact ih (z + 1) _ _ (if a ≤ pc z then a else pc z) (by omega) (by omega) (by omega) (by show _ = (if cloT n f z = 2 ^ n - 1 then (if lgF n f z ≤ pc z then lgF n f z else pc z) else _); rw [if_pos (show cloT n f z = 2 ^ n - 1 from Int.ofNat.inj c24), ← ea]) (by split <;> omega) (by split <;> omega)
  refine go_aload_n (j := 0) (q := 1) rfl rfl dX5_leastGenerators_0 rfl ?_
  refine go_getI (C0 := RX5) (T := TX5) (N := 2) (ci := 5) (i := 0) (q := 4) rfl igX5 (by first | assumption | rfl) (by decide) fl_X5_9 rfl dX5_leastGenerators_1 rfl ?_
  refine go_istore_n (j := 1) (q := 5) (ls2 := [_, _, _]) rfl (by decide) rfl rfl dX5_leastGenerators_4 rfl ?_
  refine go_iconst (q := 6) dX5_leastGenerators_5 rfl ?_
  refine go_istore_n (j := 2) (q := 7) (ls2 := [_, _, _]) rfl (by decide) rfl rfl dX5_leastGenerators_6 rfl ?_
  exact lp (2 ^ n) 0 0 _ n rfl (by omega) (by omega) rfl h0 (Nat.le_refl n)
theorem ev_isIdentityAfter (ht1 : sh[t]? = some (oTab t)) (ht2 : sh[t + 1]? = some (rInt 36)) (hT : TB w t n f) {y k : Nat} {yi ki : Int} (ey : yi = y) (hy : y < n) (ek : ki = k) (hk : k < 100) :
    eX5_isIdentityAfter l D ck ad sh [vR t, vI yi, vI ki] w (Pz (fun w1 => w = w1 ∧ idA n f y k) (fun w1 => w = w1 ∧ ¬ idA n f y k)) := by
  have hT0 := hT
  obtain ⟨h0, hn, hf⟩ := hT
  have hr : ∀ i j, i < n → j < n → f i j < n := fun i j hi hj => (hf i j hi hj).2
  refine ev_of_go (own := RX5) (ls := [some (vR t), some (vI yi), some (vI ki), none, none, none]) (by decide +kernel) rfl rfl (Nat.le_of_ble_eq_true rfl) rkZ ?_
  generalize hK : (Pz (fun w1 => w = w1 ∧ idA n f y k) (fun w1 => w = w1 ∧ ¬ idA n f y k)) = K
  have lp2 : ∀ (x : Nat) (xi : Int), x < n → (∀ (gi si : Int), gi = (itN (fun z => f z y) x k : Nat) → gX5_isIdentityAfter l D ck ad sh 37 [some (vR t), some (vI yi), some (vI ki), some (vI xi), some (vI gi), some (vI si)] [] w K) →
      ∀ (m s : Nat) (si gi : Int) (g : Nat), si = s → k ≤ m + s → s ≤ k → gi = g → g < n → g = itN (fun z => f z y) x s → gX5_isIdentityAfter l D ck ad sh 16 [some (vR t), some (vI yi), some (vI ki), some (vI xi), some (vI gi), some (vI si)] [] w K := by
    intro x xi hx hk2 m
    induction m with
    | zero =>
      intro s si gi g es hz hz2 eg hg eit
      refine go_iload (j := 5) (q := 18) rfl dX5_isIdentityAfter_16 rfl ?_
      refine go_iload_n (j := 2) (q := 19) rfl rfl dX5_isIdentityAfter_18 rfl ?_
      refine go_icmp_ge2 (q := 22) (t := 37) dX5_isIdentityAfter_19 (by decide) rfl (by omega) (fun c19 => ?_) (fun c19 => ?_)
      · exact hk2 _ _ (by rw [eg, eit, show s = k by omega])
      · exact absurd c19 (by omega)
    | succ m ih =>
      intro s si gi g es hz hz2 eg hg eit
      refine go_iload (j := 5) (q := 18) rfl dX5_isIdentityAfter_16 rfl ?_
      refine go_iload_n (j := 2) (q := 19) rfl rfl dX5_isIdentityAfter_18 rfl ?_
      refine go_icmp_ge2 (q := 22) (t := 37) dX5_isIdentityAfter_19 (by decide) rfl (by omega) (fun c19 => ?_) (fun c19 => ?_)
      · exact hk2 _ _ (by rw [eg, eit, show s = k by omega])
      · refine go_aload_n (j := 0) (q := 23) rfl rfl dX5_isIdentityAfter_22 rfl ?_
        refine go_iload (j := 4) (q := 25) rfl dX5_isIdentityAfter_23 rfl ?_
        refine go_iload_n (j := 1) (q := 26) rfl rfl dX5_isIdentityAfter_25 rfl ?_
        refine go_callVi (as := [_, _, _]) (As := [_, _]) (rest := []) (n := 2) (q := 29) dX5_isIdentityAfter_26 lk_X5_54 (ci := 5) (N := 2) (T := TX5) rfl (by first | assumption | rfl) rfl rfl (by decide +kernel) rfl ⟨by decide, by decide⟩ ⟨rfl, rfl⟩ (Nat.le_of_ble_eq_true rfl) (ev_times ht1 ht2 hT0 (x := g) (y := y) eg ey hg hy) rfl (fun x26 w26 h26 => ?_)
        obtain ⟨rfl, rfl⟩ := h26
        refine go_istore (j := 4) (q := 31) (ls2 := [_, _, _, _, _, _]) (by decide) rfl rfl dX5_isIdentityAfter_29 rfl ?_
        refine go_iinc (j := 5) (q := 34) (ls2 := [_, _, _, _, _, _]) rfl (by decide) rfl rfl dX5_isIdentityAfter_31 rfl ?_
        refine go_goto (q := 16) dX5_isIdentityAfter_34 (by decide) ?_
        exact ih (s + 1) _ _ (f g y) (by omega) (by omega) (by omega) rfl (hr _ _ hg hy) (by rw [eit]; rfl)
  have lp1 : ∀ (m x : Nat) (xi : Int) (u v : Option MV), xi = x → n ≤ m + x → x ≤ n → (∀ i, i < x → itN (fun z => f z y) i k = i) → gX5_isIdentityAfter l D ck ad sh 2 [some (vR t), some (vI yi), some (vI ki), some (vI xi), u, v] [] w K := by
    intro m
    induction m with
    | zero =>
      intro x xi u v ex hz hz2 hi
      refine go_iload_n (j := 3) (q := 3) rfl rfl dX5_isIdentityAfter_2 rfl ?_
      refine go_aload_n (j := 0) (q := 4) rfl rfl dX5_isIdentityAfter_3 rfl ?_
      refine go_getI (C0 := RX5) (T := TX5) (N := 2) (ci := 5) (i := 0) (q := 7) rfl igX5 (by first | assumption | rfl) (by decide) fl_X5_9 rfl dX5_isIdentityAfter_4 rfl ?_
      refine go_icmp_ge2 (q := 10) (t := 51) dX5_isIdentityAfter_7 (by decide) rfl (by omega) (fun c7 => ?_) (fun c7 => ?_)
      · refine go_iconst (q := 52) dX5_isIdentityAfter_51 rfl ?_
        refine go_iret dX5_isIdentityAfter_52 ?_
        subst hK; exact Or.inl ⟨rfl, rfl, fun i h => hi i (by omega)⟩
      · exact absurd c7 (by omega)
    | succ m ih =>
      intro x xi u v ex hz hz2 hi
      refine go_iload_n (j := 3) (q := 3) rfl rfl dX5_isIdentityAfter_2 rfl ?_
      refine go_aload_n (j := 0) (q := 4) rfl rfl dX5_isIdentityAfter_3 rfl ?_
      refine go_getI (C0 := RX5) (T := TX5) (N := 2) (ci := 5) (i := 0) (q := 7) rfl igX5 (by first | assumption | rfl) (by decide) fl_X5_9 rfl dX5_isIdentityAfter_4 rfl ?_
      refine go_icmp_ge2 (q := 10) (t := 51) dX5_isIdentityAfter_7 (by decide) rfl (by omega) (fun c7 => ?_) (fun c7 => ?_)
      · refine go_iconst (q := 52) dX5_isIdentityAfter_51 rfl ?_
        refine go_iret dX5_isIdentityAfter_52 ?_
        subst hK; exact Or.inl ⟨rfl, rfl, fun i h => hi i (by omega)⟩
      · refine go_iload_n (j := 3) (q := 11) rfl rfl dX5_isIdentityAfter_10 rfl ?_
        refine go_istore (j := 4) (q := 13) (ls2 := [_, _, _, _, _, _]) (by decide) rfl rfl dX5_isIdentityAfter_11 rfl ?_
        refine go_iconst (q := 14) dX5_isIdentityAfter_13 rfl ?_
        refine go_istore (j := 5) (q := 16) (ls2 := [_, _, _, _, _, _]) (by decide) rfl rfl dX5_isIdentityAfter_14 rfl ?_
        refine lp2 x xi (by omega) ?_ k 0 0 xi x rfl (by omega) (by omega) ex (by omega) rfl
        intro gi si eg
        have hgl : itN (fun z => f z y) x k < n := itN_lt (fun i h => hr i y h hy) (by omega) k
        refine go_iload (j := 4) (q := 39) rfl dX5_isIdentityAfter_37 rfl ?_
        refine go_iload_n (j := 3) (q := 40) rfl rfl dX5_isIdentityAfter_39 rfl ?_
        refine go_icmp_eq2 (q := 43) (t := 45) dX5_isIdentityAfter_40 (by decide) rfl (by omega) (fun c40 => ?_) (fun c40 => ?_)
        · refine go_iinc (j := 3) (q := 48) (ls2 := [_, _, _, _, _, _]) rfl (by decide) rfl rfl dX5_isIdentityAfter_45 rfl ?_
          refine go_goto (q := 2) dX5_isIdentityAfter_48 (by decide) ?_
          exact ih (x + 1) _ _ _ (by omega) (by omega) (by omega) (fun i h => all_lt (P := fun i => itN (fun z => f z y) i k = i) hi (by omega) h)
        · refine go_iconst (q := 44) dX5_isIdentityAfter_43 rfl ?_
          refine go_iret dX5_isIdentityAfter_44 ?_
          subst hK
          exact Or.inr ⟨rfl, rfl, fun q => c40 (by have := q x (by omega); omega)⟩
  refine go_iconst (q := 1) dX5_isIdentityAfter_0 rfl ?_
  refine go_istore_n (j := 3) (q := 2) (ls2 := [_, _, _, _, _, _]) rfl (by decide) rfl rfl dX5_isIdentityAfter_1 rfl ?_
  exact lp1 n 0 0 _ _ rfl (by omega) (by omega) (fun i h => absurd h (Nat.not_lt_zero i))
theorem ev_orderOfTranslation (ht1 : sh[t]? = some (oTab t)) (ht2 : sh[t + 1]? = some (rInt 36)) (hT : TB w t n f) {y : Nat} {yi : Int} (ey : yi = y) (hy : y < n) :
    eX5_orderOfTranslation l D ck ad sh [vR t, vI yi] w (Pi fun v w1 => ordT n f y v ∧ w = w1) := by
  have hT0 := hT
  obtain ⟨h0, hn, hf⟩ := hT
  refine ev_of_go (own := RX5) (ls := [some (vR t), some (vI yi), none]) (by decide +kernel) rfl rfl (Nat.le_of_ble_eq_true rfl) rkI ?_
  have lp : prm n f y → ∀ (m o : Nat) (oi : Int), oi = o → 6 ≤ m + o → 1 ≤ o → o ≤ 6 → (∀ j, 1 ≤ j → j < o → ¬ idA n f y j) → gX5_orderOfTranslation l D ck ad sh 13 [some (vR t), some (vI yi), some (vI oi)] [] w (Pi fun v w1 => ordT n f y v ∧ w = w1) := by
    intro h2 m
    induction m with
    | zero =>
      intro o oi eo hz ho1 ho2 hi
      refine go_iload_n (j := 2) (q := 14) rfl rfl dX5_orderOfTranslation_13 rfl ?_
      refine go_bipush (q := 16) rfl dX5_orderOfTranslation_14 rfl ?_
      refine go_icmp_ge2 (q := 19) (t := 34) dX5_orderOfTranslation_16 (by decide) rfl (by omega) (fun c16 => ?_) (fun c16 => ?_)
      · refine go_iload_n (j := 2) (q := 35) rfl rfl dX5_orderOfTranslation_34 rfl ?_
        refine go_iret dX5_orderOfTranslation_35 ?_
        first
        | exact ⟨_, rfl, Or.inr ⟨h2, o, eo, ⟨ho1, ho2⟩, hi, Or.inl (by omega)⟩, rfl⟩
        | exact ⟨_, rfl, Or.inr ⟨h2, o, eo, ⟨ho1, ho2⟩, hi, Or.inr h22⟩, rfl⟩
      · exact absurd c16 (by omega)
    | succ m ih =>
      intro o oi eo hz ho1 ho2 hi
      refine go_iload_n (j := 2) (q := 14) rfl rfl dX5_orderOfTranslation_13 rfl ?_
      refine go_bipush (q := 16) rfl dX5_orderOfTranslation_14 rfl ?_
      refine go_icmp_ge2 (q := 19) (t := 34) dX5_orderOfTranslation_16 (by decide) rfl (by omega) (fun c16 => ?_) (fun c16 => ?_)
      · refine go_iload_n (j := 2) (q := 35) rfl rfl dX5_orderOfTranslation_34 rfl ?_
        refine go_iret dX5_orderOfTranslation_35 ?_
        first
        | exact ⟨_, rfl, Or.inr ⟨h2, o, eo, ⟨ho1, ho2⟩, hi, Or.inl (by omega)⟩, rfl⟩
        | exact ⟨_, rfl, Or.inr ⟨h2, o, eo, ⟨ho1, ho2⟩, hi, Or.inr h22⟩, rfl⟩
      · refine go_aload_n (j := 0) (q := 20) rfl rfl dX5_orderOfTranslation_19 rfl ?_
        refine go_iload_n (j := 1) (q := 21) rfl rfl dX5_orderOfTranslation_20 rfl ?_
        refine go_iload_n (j := 2) (q := 22) rfl rfl dX5_orderOfTranslation_21 rfl ?_
        refine go_callVz (as := [_, _, _]) (As := [_, _]) (rest := []) (n := 2) (q := 25) dX5_orderOfTranslation_22 lk_X5_77 (ci := 5) (N := 2) (T := TX5) rfl (by first | assumption | rfl) rfl rfl (by decide +kernel) rfl ⟨by decide, by decide⟩ ⟨rfl, rfl⟩ (Nat.le_of_ble_eq_true rfl) (ev_isIdentityAfter ht1 ht2 hT0 (y := y) (k := o) ey hy eo (by omega)) rfl (fun w22 h22 => ?_) (fun w22 h22 => ?_)
        · obtain ⟨rfl, h22⟩ := h22
          refine go_if_neT (t := 34) dX5_orderOfTranslation_25 (by decide) (by decide) ?_
          refine go_iload_n (j := 2) (q := 35) rfl rfl dX5_orderOfTranslation_34 rfl ?_
          refine go_iret dX5_orderOfTranslation_35 ?_
          first
          | exact ⟨_, rfl, Or.inr ⟨h2, o, eo, ⟨ho1, ho2⟩, hi, Or.inl (by omega)⟩, rfl⟩
          | exact ⟨_, rfl, Or.inr ⟨h2, o, eo, ⟨ho1, ho2⟩, hi, Or.inr h22⟩, rfl⟩
        · obtain ⟨rfl, h22⟩ := h22
          refine go_if_neF (q := 28) (t := 34) dX5_orderOfTranslation_25 rfl (by decide) (by decide) ?_
          refine go_iinc (j := 2) (q := 31) (ls2 := [_, _, _]) rfl (by decide) rfl rfl dX5_orderOfTranslation_28 rfl ?_
          refine go_goto (q := 13) dX5_orderOfTranslation_31 (by decide) ?_
          refine ih (o + 1) _ (by omega) (by omega) (by omega) (by omega) (fun j h1 h => ?_)
          rcases Nat.lt_succ_iff_lt_or_eq.mp h with h | rfl
          · exact hi j h1 h
          · exact h22
  refine go_aload_n (j := 0) (q := 1) rfl rfl dX5_orderOfTranslation_0 rfl ?_
  refine go_iload_n (j := 1) (q := 2) rfl rfl dX5_orderOfTranslation_1 rfl ?_
  refine go_callVz (as := [_, _]) (As := [_]) (rest := []) (n := 1) (q := 5) dX5_orderOfTranslation_2 lk_X5_57 (ci := 5) (N := 2) (T := TX5) rfl (by first | assumption | rfl) rfl rfl (by decide +kernel) rfl ⟨by decide, by decide⟩ ⟨rfl, rfl⟩ (Nat.le_of_ble_eq_true rfl) (ev_isPermutation ht1 ht2 hT0 (y := y) ey hy) rfl (fun w2 h2 => ?_) (fun w2 h2 => ?_)
  · obtain ⟨rfl, h2⟩ := h2
    refine go_if_neT (t := 11) dX5_orderOfTranslation_5 (by decide) (by decide) ?_
    refine go_iconst (q := 12) dX5_orderOfTranslation_11 rfl ?_
    refine go_istore_n (j := 2) (q := 13) (ls2 := [_, _, _]) rfl (by decide) rfl rfl dX5_orderOfTranslation_12 rfl ?_
    exact lp h2 6 1 _ rfl (by omega) (by omega) (by omega) (fun j h1 h => by omega)
  · obtain ⟨rfl, h2⟩ := h2
    refine go_if_neF (q := 8) (t := 11) dX5_orderOfTranslation_5 rfl (by decide) (by decide) ?_
    refine go_bipush (q := 10) rfl dX5_orderOfTranslation_8 rfl ?_
    refine go_iret dX5_orderOfTranslation_10 ?_
    exact ⟨_, rfl, Or.inl ⟨h2, rfl⟩, rfl⟩
theorem ev_sameTranslation (ht1 : sh[t]? = some (oTab t)) (ht2 : sh[t + 1]? = some (rInt 36)) (hT : TB w t n f) {y z : Nat} {yi zi : Int} (ey : yi = y) (hy : y < n) (ez : zi = z) (hz : z < n) :
    eX5_sameTranslation l D ck ad sh [vR t, vI yi, vI zi] w (Pz (fun w1 => w = w1 ∧ smT n f y z) (fun w1 => w = w1 ∧ ¬ smT n f y z)) := by
  have hT0 := hT
  obtain ⟨h0, hn, hf⟩ := hT
  refine ev_of_go (own := RX5) (ls := [some (vR t), some (vI yi), some (vI zi), none]) (by decide +kernel) rfl rfl (Nat.le_of_ble_eq_true rfl) rkZ ?_
  have lp : ∀ (m x : Nat) (xi : Int), xi = x → n ≤ m + x → x ≤ n → (∀ i, i < x → f i y = f i z) → gX5_sameTranslation l D ck ad sh 2 [some (vR t), some (vI yi), some (vI zi), some (vI xi)] [] w (Pz (fun w1 => w = w1 ∧ smT n f y z) (fun w1 => w = w1 ∧ ¬ smT n f y z)) := by
    intro m
    induction m with
    | zero =>
      intro x xi ex hx hx2 hi
      refine go_iload_n (j := 3) (q := 3) rfl rfl dX5_sameTranslation_2 rfl ?_
      refine go_aload_n (j := 0) (q := 4) rfl rfl dX5_sameTranslation_3 rfl ?_
      refine go_getI (C0 := RX5) (T := TX5) (N := 2) (ci := 5) (i := 0) (q := 7) rfl igX5 (by first | assumption | rfl) (by decide) fl_X5_9 rfl dX5_sameTranslation_4 rfl ?_
      refine go_icmp_ge2 (q := 10) (t := 33) dX5_sameTranslation_7 (by decide) rfl (by omega) (fun c7 => ?_) (fun c7 => ?_)
      · refine go_iconst (q := 34) dX5_sameTranslation_33 rfl ?_
        refine go_iret dX5_sameTranslation_34 ?_
        exact Or.inl ⟨rfl, rfl, fun i h => hi i (by omega)⟩
      · exact absurd c7 (by omega)
    | succ m ih =>
      intro x xi ex hx hx2 hi
      refine go_iload_n (j := 3) (q := 3) rfl rfl dX5_sameTranslation_2 rfl ?_
      refine go_aload_n (j := 0) (q := 4) rfl rfl dX5_sameTranslation_3 rfl ?_
      refine go_getI (C0 := RX5) (T := TX5) (N := 2) (ci := 5) (i := 0) (q := 7) rfl igX5 (by first | assumption | rfl) (by decide) fl_X5_9 rfl dX5_sameTranslation_4 rfl ?_
      refine go_icmp_ge2 (q := 10) (t := 33) dX5_sameTranslation_7 (by decide) rfl (by omega) (fun c7 => ?_) (fun c7 => ?_)
      · refine go_iconst (q := 34) dX5_sameTranslation_33 rfl ?_
        refine go_iret dX5_sameTranslation_34 ?_
        exact Or.inl ⟨rfl, rfl, fun i h => hi i (by omega)⟩
      · refine go_aload_n (j := 0) (q := 11) rfl rfl dX5_sameTranslation_10 rfl ?_
        refine go_iload_n (j := 3) (q := 12) rfl rfl dX5_sameTranslation_11 rfl ?_
        refine go_iload_n (j := 1) (q := 13) rfl rfl dX5_sameTranslation_12 rfl ?_
        refine go_callVi (as := [_, _, _]) (As := [_, _]) (rest := []) (n := 2) (q := 16) dX5_sameTranslation_13 lk_X5_54 (ci := 5) (N := 2) (T := TX5) rfl (by first | assumption | rfl) rfl rfl (by decide +kernel) rfl ⟨by decide, by decide⟩ ⟨rfl, rfl⟩ (Nat.le_of_ble_eq_true rfl) (ev_times ht1 ht2 hT0 (x := x) (y := y) ex ey (by omega) hy) rfl (fun x13 w13 h13 => ?_)
        obtain ⟨rfl, rfl⟩ := h13
        refine go_aload_n (j := 0) (q := 17) rfl rfl dX5_sameTranslation_16 rfl ?_
        refine go_iload_n (j := 3) (q := 18) rfl rfl dX5_sameTranslation_17 rfl ?_
        refine go_iload_n (j := 2) (q := 19) rfl rfl dX5_sameTranslation_18 rfl ?_
        refine go_callVi (as := [_, _, _]) (As := [_, _]) (rest := [_]) (n := 2) (q := 22) dX5_sameTranslation_19 lk_X5_54 (ci := 5) (N := 2) (T := TX5) rfl (by first | assumption | rfl) rfl rfl (by decide +kernel) rfl ⟨by decide, by decide⟩ ⟨rfl, rfl⟩ (Nat.le_of_ble_eq_true rfl) (ev_times ht1 ht2 hT0 (x := x) (y := z) ex ez (by omega) hz) rfl (fun x19 w19 h19 => ?_)
        obtain ⟨rfl, rfl⟩ := h19
        have b1 := (hf x y (by omega) hy).2
        have b2 := (hf x z (by omega) hz).2
        refine go_icmp_eq2 (q := 25) (t := 27) dX5_sameTranslation_22 (by decide) rfl (by omega) (fun c22 => ?_) (fun c22 => ?_)
        · refine go_iinc (j := 3) (q := 30) (ls2 := [_, _, _, _]) rfl (by decide) rfl rfl dX5_sameTranslation_27 rfl ?_
          refine go_goto (q := 2) dX5_sameTranslation_30 (by decide) ?_
          exact ih (x + 1) _ (by omega) (by omega) (by omega) (fun i h => all_lt (P := fun i => f i y = f i z) hi (by omega) h)
        · refine go_iconst (q := 26) dX5_sameTranslation_25 rfl ?_
          refine go_iret dX5_sameTranslation_26 ?_
          exact Or.inr ⟨rfl, rfl, fun q => c22 (by have := q x (by omega); omega)⟩
  refine go_iconst (q := 1) dX5_sameTranslation_0 rfl ?_
  refine go_istore_n (j := 3) (q := 2) (ls2 := [_, _, _, _]) rfl (by decide) rfl rfl dX5_sameTranslation_1 rfl ?_
  exact lp n 0 0 rfl (by omega) (by omega) (fun i h => absurd h (Nat.not_lt_zero i))
theorem ev_isNewTranslation (ht1 : sh[t]? = some (oTab t)) (ht2 : sh[t + 1]? = some (rInt 36)) (hT : TB w t n f) {y : Nat} {yi : Int} (ey : yi = y) (hy : y < n) :
    eX5_isNewTranslation l D ck ad sh [vR t, vI yi] w (Pz (fun w1 => w = w1 ∧ ∀ k, k < y → ¬ smT n f k y) (fun w1 => w = w1 ∧ ¬ ∀ k, k < y → ¬ smT n f k y)) := by
  have hT0 := hT
  obtain ⟨h0, hn, hf⟩ := hT
  refine ev_of_go (own := RX5) (ls := [some (vR t), some (vI yi), none]) (by decide +kernel) rfl rfl (Nat.le_of_ble_eq_true rfl) rkZ ?_
  have lp : ∀ (m x : Nat) (xi : Int), xi = x → y ≤ m + x → x ≤ y → (∀ i, i < x → ¬ smT n f i y) → gX5_isNewTranslation l D ck ad sh 2 [some (vR t), some (vI yi), some (vI xi)] [] w (Pz (fun w1 => w = w1 ∧ ∀ k, k < y → ¬ smT n f k y) (fun w1 => w = w1 ∧ ¬ ∀ k, k < y → ¬ smT n f k y)) := by
    intro m
    induction m with
    | zero =>
      intro x xi ex hx hx2 hi
      refine go_iload_n (j := 2) (q := 3) rfl rfl dX5_isNewTranslation_2 rfl ?_
      refine go_iload_n (j := 1) (q := 4) rfl rfl dX5_isNewTranslation_3 rfl ?_
      refine go_icmp_ge2 (q := 7) (t := 24) dX5_isNewTranslation_4 (by decide) rfl (by omega) (fun c4 => ?_) (fun c4 => ?_)
      · refine go_iconst (q := 25) dX5_isNewTranslation_24 rfl ?_
        refine go_iret dX5_isNewTranslation_25 ?_
        exact Or.inl ⟨rfl, rfl, fun i h => hi i (by omega)⟩
      · exact absurd c4 (by omega)
    | succ m ih =>
      intro x xi ex hx hx2 hi
      refine go_iload_n (j := 2) (q := 3) rfl rfl dX5_isNewTranslation_2 rfl ?_
      refine go_iload_n (j := 1) (q := 4) rfl rfl dX5_isNewTranslation_3 rfl ?_
      refine go_icmp_ge2 (q := 7) (t := 24) dX5_isNewTranslation_4 (by decide) rfl (by omega) (fun c4 => ?_) (fun c4 => ?_)
      · refine go_iconst (q := 25) dX5_isNewTranslation_24 rfl ?_
        refine go_iret dX5_isNewTranslation_25 ?_
        exact Or.inl ⟨rfl, rfl, fun i h => hi i (by omega)⟩
      · refine go_aload_n (j := 0) (q := 8) rfl rfl dX5_isNewTranslation_7 rfl ?_
        refine go_iload_n (j := 2) (q := 9) rfl rfl dX5_isNewTranslation_8 rfl ?_
        refine go_iload_n (j := 1) (q := 10) rfl rfl dX5_isNewTranslation_9 rfl ?_
        refine go_callVz (as := [_, _, _]) (As := [_, _]) (rest := []) (n := 2) (q := 13) dX5_isNewTranslation_10 lk_X5_84 (ci := 5) (N := 2) (T := TX5) rfl (by first | assumption | rfl) rfl rfl (by decide +kernel) rfl ⟨by decide, by decide⟩ ⟨rfl, rfl⟩ (Nat.le_of_ble_eq_true rfl) (ev_sameTranslation ht1 ht2 hT0 (y := x) (z := y) ex (by omega) ey hy) rfl (fun w10 h10 => ?_) (fun w10 h10 => ?_)
        · obtain ⟨rfl, h10⟩ := h10
          refine go_if_eqF (q := 16) (t := 18) dX5_isNewTranslation_13 rfl (by decide) (by decide) ?_
          refine go_iconst (q := 17) dX5_isNewTranslation_16 rfl ?_
          refine go_iret dX5_isNewTranslation_17 ?_
          exact Or.inr ⟨rfl, rfl, fun q => q x (by omega) h10⟩
        · obtain ⟨rfl, h10⟩ := h10
          refine go_if_eqT (t := 18) dX5_isNewTranslation_13 (by decide) (by decide) ?_
          refine go_iinc (j := 2) (q := 21) (ls2 := [_, _, _]) rfl (by decide) rfl rfl dX5_isNewTranslation_18 rfl ?_
          refine go_goto (q := 2) dX5_isNewTranslation_21 (by decide) ?_
          exact ih (x + 1) _ (by omega) (by omega) (by omega) (fun i h => all_lt (P := fun i => ¬ smT n f i y) hi h10 h)
  refine go_iconst (q := 1) dX5_isNewTranslation_0 rfl ?_
  refine go_istore_n (j := 2) (q := 2) (ls2 := [_, _, _]) rfl (by decide) rfl rfl dX5_isNewTranslation_1 rfl ?_
  exact lp y 0 0 rfl (by omega) (by omega) (fun i h => absurd h (Nat.not_lt_zero i))
noncomputable def newT (n : Nat) (f : Nat → Nat → Nat) (y : Nat) : Bool := @decide (∀ k, k < y → ¬ smT n f k y) (Classical.propDecidable _)
theorem newT_iff {n : Nat} {f : Nat → Nat → Nat} {y : Nat} : newT n f y = true ↔ ∀ k, k < y → ¬ smT n f k y := by unfold newT; exact @decide_eq_true_iff _ (Classical.propDecidable _)
theorem ev_countTranslations (ht1 : sh[t]? = some (oTab t)) (ht2 : sh[t + 1]? = some (rInt 36)) (hT : TB w t n f) :
    eX5_countTranslations l D ck ad sh [vR t] w (Pi fun v w1 => v = (cN (newT n f) n : Int) ∧ w = w1) := by
  have hT0 := hT
  obtain ⟨h0, hn, hf⟩ := hT
  refine ev_of_go (own := RX5) (ls := [some (vR t), none, none]) (by decide +kernel) rfl rfl (Nat.le_of_ble_eq_true rfl) rkI ?_
  have lp : ∀ (m y : Nat) (yi ci : Int), yi = y → n ≤ m + y → y ≤ n → ci = (cN (newT n f) y : Nat) → gX5_countTranslations l D ck ad sh 4 [some (vR t), some (vI ci), some (vI yi)] [] w (Pi fun v w1 => v = (cN (newT n f) n : Int) ∧ w = w1) := by
    intro m
    induction m with
    | zero =>
      intro y yi ci ey hx hx2 ec
      refine go_iload_n (j := 2) (q := 5) rfl rfl dX5_countTranslations_4 rfl ?_
      refine go_aload_n (j := 0) (q := 6) rfl rfl dX5_countTranslations_5 rfl ?_
      refine go_getI (C0 := RX5) (T := TX5) (N := 2) (ci := 5) (i := 0) (q := 9) rfl igX5 (by first | assumption | rfl) (by decide) fl_X5_9 rfl dX5_countTranslations_6 rfl ?_
      refine go_icmp_ge2 (q := 12) (t := 29) dX5_countTranslations_9 (by decide) rfl (by omega) (fun c9 => ?_) (fun c9 => ?_)
      · refine go_iload_n (j := 1) (q := 30) rfl rfl dX5_countTranslations_29 rfl ?_
        refine go_iret dX5_countTranslations_30 ?_
        exact ⟨_, rfl, by rw [ec, show y = n by omega], rfl⟩
      · exact absurd c9 (by omega)
    | succ m ih =>
      intro y yi ci ey hx hx2 ec
      refine go_iload_n (j := 2) (q := 5) rfl rfl dX5_countTranslations_4 rfl ?_
      refine go_aload_n (j := 0) (q := 6) rfl rfl dX5_countTranslations_5 rfl ?_
      refine go_getI (C0 := RX5) (T := TX5) (N := 2) (ci := 5) (i := 0) (q := 9) rfl igX5 (by first | assumption | rfl) (by decide) fl_X5_9 rfl dX5_countTranslations_6 rfl ?_
      refine go_icmp_ge2 (q := 12) (t := 29) dX5_countTranslations_9 (by decide) rfl (by omega) (fun c9 => ?_) (fun c9 => ?_)
      · refine go_iload_n (j := 1) (q := 30) rfl rfl dX5_countTranslations_29 rfl ?_
        refine go_iret dX5_countTranslations_30 ?_
        exact ⟨_, rfl, by rw [ec, show y = n by omega], rfl⟩
      · refine go_aload_n (j := 0) (q := 13) rfl rfl dX5_countTranslations_12 rfl ?_
        refine go_iload_n (j := 2) (q := 14) rfl rfl dX5_countTranslations_13 rfl ?_
        refine go_callVz (as := [_, _]) (As := [_]) (rest := []) (n := 1) (q := 17) dX5_countTranslations_14 lk_X5_81 (ci := 5) (N := 2) (T := TX5) rfl (by first | assumption | rfl) rfl rfl (by decide +kernel) rfl ⟨by decide, by decide⟩ ⟨rfl, rfl⟩ (Nat.le_of_ble_eq_true rfl) (ev_isNewTranslation ht1 ht2 hT0 (y := y) ey (by omega)) rfl (fun w14 h14 => ?_) (fun w14 h14 => ?_)
        · obtain ⟨rfl, h14⟩ := h14
          refine go_if_eqF (q := 20) (t := 23) dX5_countTranslations_17 rfl (by decide) (by decide) ?_
          refine go_iinc (j := 1) (q := 23) (ls2 := [_, _, _]) rfl (by decide) rfl rfl dX5_countTranslations_20 rfl ?_
          refine go_iinc (j := 2) (q := 26) (ls2 := [_, _, _]) rfl (by decide) rfl rfl dX5_countTranslations_23 rfl ?_
          refine go_goto (q := 4) dX5_countTranslations_26 (by decide) ?_
          first
          | exact ih (y + 1) _ _ (by omega) (by omega) (by omega) (by have q := newT_iff.mpr h14; simp only [cN, if_pos q]; omega)
          | exact ih (y + 1) _ _ (by omega) (by omega) (by omega) (by have q : ¬ newT n f y = true := fun q => h14 (newT_iff.mp q); simp only [cN, if_neg q]; omega)
        · obtain ⟨rfl, h14⟩ := h14
          refine go_if_eqT (t := 23) dX5_countTranslations_17 (by decide) (by decide) ?_
          refine go_iinc (j := 2) (q := 26) (ls2 := [_, _, _]) rfl (by decide) rfl rfl dX5_countTranslations_23 rfl ?_
          refine go_goto (q := 4) dX5_countTranslations_26 (by decide) ?_
          first
          | exact ih (y + 1) _ _ (by omega) (by omega) (by omega) (by have q := newT_iff.mpr h14; simp only [cN, if_pos q]; omega)
          | exact ih (y + 1) _ _ (by omega) (by omega) (by omega) (by have q : ¬ newT n f y = true := fun q => h14 (newT_iff.mp q); simp only [cN, if_neg q]; omega)
  refine go_iconst (q := 1) dX5_countTranslations_0 rfl ?_
  refine go_istore_n (j := 1) (q := 2) (ls2 := [_, _, _]) rfl (by decide) rfl rfl dX5_countTranslations_1 rfl ?_
  refine go_iconst (q := 3) dX5_countTranslations_2 rfl ?_
  refine go_istore_n (j := 2) (q := 4) (ls2 := [_, _, _]) rfl (by decide) rfl rfl dX5_countTranslations_3 rfl ?_
  exact lp n 0 0 0 rfl (by omega) (by omega) rfl
end TAB3
