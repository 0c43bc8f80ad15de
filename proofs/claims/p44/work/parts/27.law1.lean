/-! the law's own methods, first part -/
theorem and31 (x : Int) : 0 ≤ andZ x 2147483647 ∧ andZ x 2147483647 < 2147483648 := by
  have h2 := rg32 (Int32.ofInt x &&& Int32.ofInt 2147483647)
  have e : (Int32.ofInt x &&& Int32.ofInt 2147483647).toInt = ((Int32.ofInt x &&& Int32.ofInt 2147483647).toBitVec.toNat : Int) := by
    apply BitVec.toInt_eq_toNat_of_msb
    rw [Int32.toBitVec_and, BitVec.msb_and]
    have : (Int32.ofInt 2147483647).toBitVec.msb = false := by decide +kernel
    rw [this, Bool.and_false]
  unfold andZ
  rw [e] at h2 ⊢
  omega
theorem ones_b : ∀ a : Fin 128, (a : Nat) ≠ 0 → andZ ((a : Nat) : Int) (((a : Nat) : Int) - 1) = (((a : Nat) &&& ((a : Nat) - 1) : Nat) : Int) ∧ pc ((a : Nat) &&& ((a : Nat) - 1)) + 1 = pc a := by decide +kernel
theorem pc_0 : pc 0 = 0 := by decide +kernel
theorem sb_le {a b : Nat} (h : sb a b) : a ≤ b := by
  have : a ≤ a ||| b := Nat.left_le_or
  rw [h] at this; exact this
def msr (m : Nat) (b : Int) : Nat := 2 * (128 - m) + (if b = (m : Int) then 0 else 1)
theorem msr_lt {m c : Nat} {b : Int} (hm : m < 128) (hc : c < 128) (h : m ≤ c) (hb : b ≠ (m : Int)) : msr c (m : Int) < msr m b := by
  unfold msr
  rw [if_neg hb]
  split <;> omega
theorem cubZ {n : Nat} (h : 1 ≤ n ∧ n ≤ 6) : (n : Int) * n = ((n * n : Nat) : Int) ∧ (n : Int) * n * n = ((n * n * n : Nat) : Int) ∧ (1 ≤ n * n ∧ n * n ≤ 36) ∧ (1 ≤ n * n * n ∧ n * n * n ≤ 216) := by
  rcases (show n = 1 ∨ n = 2 ∨ n = 3 ∨ n = 4 ∨ n = 5 ∨ n = 6 by omega) with rfl | rfl | rfl | rfl | rfl | rfl <;> decide
theorem dig3 {n k i j l : Nat} (hn : 1 ≤ n) (hj : j < n) (hl : l < n) (h : i < k / (n * n) ∨ (i = k / (n * n) ∧ (j < k / n % n ∨ (j = k / n % n ∧ l < k % n)))) :
    (i * n + j) * n + l < k ∧ ((i * n + j) * n + l) / (n * n) = i ∧ ((i * n + j) * n + l) / n % n = j ∧ ((i * n + j) * n + l) % n = l := by
  have e1 : ((i * n + j) * n + l) / n = i * n + j := by
    rw [Nat.mul_comm, Nat.mul_add_div (by omega), Nat.div_eq_of_lt hl]; rfl
  have e2 : (i * n + j) / n = i := by
    rw [Nat.mul_comm, Nat.mul_add_div (by omega), Nat.div_eq_of_lt hj]; rfl
  have e3 : ((i * n + j) * n + l) % n = l := by rw [Nat.mul_comm, Nat.mul_add_mod, Nat.mod_eq_of_lt hl]
  have e4 : (i * n + j) % n = j := by rw [Nat.mul_comm, Nat.mul_add_mod, Nat.mod_eq_of_lt hj]
  refine ⟨?_, by rw [← Nat.div_div_eq_div_mul, e1, e2], by rw [e1, e4], e3⟩
  rw [← Nat.div_div_eq_div_mul] at h
  apply Classical.byContradiction
  intro hge
  have h1 : k / n ≤ ((i * n + j) * n + l) / n := Nat.div_le_div_right (by omega)
  rw [e1] at h1
  have h2 : k / n / n ≤ (i * n + j) / n := Nat.div_le_div_right h1
  rw [e2] at h2
  have d1 := Nat.div_add_mod (k / n) n
  have d2 := Nat.div_add_mod k n
  rcases h with h | ⟨h, h3⟩
  · omega
  · rw [← h, Nat.mul_comm] at d1
    rcases h3 with h3 | ⟨h3, h4⟩
    · omega
    · rw [← h3] at d1
      rw [← d1, Nat.mul_comm] at d2
      omega
theorem fix_eq {N : Nat} (hN : N ≤ 7) {r : Nat → Nat} {cl : Nat → Prop} (h1 : ∀ m, sb m (r m)) (h2 : ∀ m, m < 2 ^ N → r m < 2 ^ N) (h3 : ∀ m, m < 2 ^ N → r m = m → cl m)
    (h4 : ∀ m S, sb m S → cl S → sb (r m) S) {m0 m : Nat} (hm : m0 < 2 ^ N) (ha : sb m0 m) (hb : ∀ S, sb m0 S → cl S → sb m S) (hc : cl m) : itN r m0 N = m := by
  obtain ⟨a1, a2, a3, a4⟩ := rounds hN h1 h2 h3 h4 hm (Nat.le_refl N)
  exact sb_as (a4 m ha hc) (hb _ a1 a3)
def clK (n : Nat) (f : Nat → Nat → Nat) (S : Nat) : Prop := S < 2 ^ n ∧ ∀ a b, S.testBit a = true → S.testBit b = true → S.testBit (f a b) = true
def clR (n : Nat) (f : Nat → Nat → Nat) (S : Nat) : Prop := S < 2 ^ n ∧ ∀ a b, b < n → S.testBit a = true → S.testBit (f a b) = true
def clB (n : Nat) (f : Nat → Nat → Nat) (S : Nat) : Prop := S < 2 ^ n ∧ ∀ a b, a < n → b < n → (S.testBit a = true ↔ S.testBit (f a b) = true)
theorem bit_lt {S n a : Nat} (h : S < 2 ^ n) (hb : S.testBit a = true) : a < n := by
  rcases Nat.lt_or_ge a n with q | q
  · exact q
  · have : S < 2 ^ a := Nat.lt_of_lt_of_le h (Nat.pow_le_pow_right (by decide) q)
    rw [Nat.testBit_lt_two_pow this] at hb; cases hb
theorem or_bit {m i : Nat} (h : m ||| 2 ^ i = m) : m.testBit i = true := by
  rw [← h, Nat.testBit_or, Nat.testBit_two_pow]; simp
theorem stK_fixb {f : Nat → Nat → Nat} {a b m : Nat} (h : stK f a b m = m) (ha : m.testBit a = true) (hb : m.testBit b = true) : m.testBit (f a b) = true := by
  unfold stK at h; rw [if_pos ⟨ha, hb⟩] at h; exact or_bit h
theorem stR_fixb {f : Nat → Nat → Nat} {a b m : Nat} (h : stR f a b m = m) (ha : m.testBit a = true) : m.testBit (f a b) = true := by
  unfold stR at h; rw [if_pos ha] at h; exact or_bit h
theorem stK_leastb {n : Nat} {f : Nat → Nat → Nat} {a b m S : Nat} (hS : clK n f S) (h : sb m S) : sb (stK f a b m) S := by
  unfold stK; split
  · next q => exact sb_or h (sb_two.mpr (hS.2 a b (sb_iff.mp h a q.1) (sb_iff.mp h b q.2)))
  · exact h
theorem stR_leastb {n : Nat} {f : Nat → Nat → Nat} {a b m S : Nat} (hb : b < n) (hS : clR n f S) (h : sb m S) : sb (stR f a b m) S := by
  unfold stR; split
  · next q => exact sb_or h (sb_two.mpr (hS.2 a b hb (sb_iff.mp h a q)))
  · exact h
theorem clo_fix {n : Nat} {f : Nat → Nat → Nat} (hn : n ≤ 6) (hr : ∀ i j, i < n → j < n → f i j < n) {s m : Nat} (hs : s < 2 ^ n) (ha : sb s m) (hb : ∀ S, sb s S → clK n f S → sb m S) (hc : clK n f m) : cloT n f s = m :=
  fix_eq (by omega) (rnd2_ext stK_ext n) (fun m hm => rnd2_lt (stK_lt hr) hm) (fun m hm e => ⟨hm, fun a b h1 h2 => stK_fixb (rnd2_fix stK_ext e a b (bit_lt hm h1) (bit_lt hm h2)) h1 h2⟩)
    (fun m S hm hS => fN_least (g := fun a m => fN (fun b m => stK f a b m) m n) (n := n) (fun a m _ hm => fN_least (g := fun b m => stK f a b m) (n := n) (fun b m _ hm => stK_leastb hS hm) hm n (Nat.le_refl n)) hm n (Nat.le_refl n)) hs ha hb hc
theorem rch_fix {n : Nat} {f : Nat → Nat → Nat} (hn : n ≤ 6) (hr : ∀ i j, i < n → j < n → f i j < n) {s m : Nat} (hs : s < 2 ^ n) (ha : sb s m) (hb : ∀ S, sb s S → clR n f S → sb m S) (hc : clR n f m) : itN (rnd2 (stR f) n) s n = m :=
  fix_eq (by omega) (rnd2_ext stR_ext n) (fun m hm => rnd2_lt (stR_lt hr) hm) (fun m hm e => ⟨hm, fun a b h2 h1 => stR_fixb (rnd2_fix stR_ext e a b (bit_lt hm h1) h2) h1⟩)
    (fun m S hm hS => fN_least (g := fun a m => fN (fun b m => stR f a b m) m n) (n := n) (fun a m _ hm => fN_least (g := fun b m => stR f a b m) (n := n) (fun b m hb hm => stR_leastb hb hS hm) hm n (Nat.le_refl n)) hm n (Nat.le_refl n)) hs ha hb hc
theorem cmp_fix {n : Nat} {f : Nat → Nat → Nat} (hn : n ≤ 6) (hr : ∀ i j, i < n → j < n → f i j < n) {x m : Nat} (hx : x < n) (ha : sb (2 ^ x) m) (hb : ∀ S, sb (2 ^ x) S → clB n f S → sb m S) (hc : clB n f m) : cmpT n f x = m :=
  fix_eq (by omega) (rnd2_ext stC_ext n) (fun m hm => rnd2_lt (stC_lt hr) hm) (fun m hm e => ⟨hm, fun a b h1 h2 => stC_cl (rnd2_fix stC_ext e a b h1 h2)⟩)
    (fun m S hm hS => fN_least (g := fun a m => fN (fun b m => stC f a b m) m n) (n := n) (fun a m h1 hm => fN_least (g := fun b m => stC f a b m) (n := n) (fun b m h2 hm => stC_least (hS.2 a b h1 h2) hm) hm n (Nat.le_refl n)) hm n (Nat.le_refl n)) (two_lt hx) ha hb hc
/-- a step forth and back -/
def stB (f : Nat → Nat → Nat) (a b m : Nat) : Nat := if (stR f a b m).testBit (f a b) = true then stR f a b m ||| 2 ^ a else stR f a b m
theorem stB_ext {f : Nat → Nat → Nat} (a b m : Nat) : sb m (stB f a b m) := by
  unfold stB; split
  · exact sb_tr (stR_ext a b m) (sb_l _ _)
  · exact stR_ext a b m
theorem stB_lt {n : Nat} {f : Nat → Nat → Nat} (hr : ∀ i j, i < n → j < n → f i j < n) : ∀ a b c, a < n → b < n → c < 2 ^ n → stB f a b c < 2 ^ n := by
  intro a b c ha hb hc
  unfold stB; split
  · exact or_lt (stR_lt hr a b c ha hb hc) (two_lt ha)
  · exact stR_lt hr a b c ha hb hc
theorem stB_cl {f : Nat → Nat → Nat} {a b m : Nat} (h : stB f a b m = m) : m.testBit a = true ↔ m.testBit (f a b) = true := by
  have h1 : sb (stR f a b m) (stB f a b m) := by unfold stB; split; exact sb_l _ _; exact sb_rf _
  rw [h] at h1
  have e : stR f a b m = m := sb_as h1 (stR_ext a b m)
  constructor
  · exact stR_fixb e
  · intro q
    unfold stB at h
    rw [e, if_pos q] at h
    exact or_bit h
theorem stB_least {f : Nat → Nat → Nat} {a b m S : Nat} (hS : S.testBit a = true ↔ S.testBit (f a b) = true) (h : sb m S) : sb (stB f a b m) S := by
  have h1 : sb (stR f a b m) S := by
    unfold stR; split
    · next q => exact sb_or h (sb_two.mpr (hS.mp (sb_iff.mp h a q)))
    · exact h
  unfold stB; split
  · next q => exact sb_or h1 (sb_two.mpr (hS.mpr (sb_iff.mp h1 _ q)))
  · exact h1
theorem cN_all {p : Nat → Bool} : ∀ n, cN p n = n ↔ ∀ i, i < n → p i = true
  | 0 => ⟨fun _ i h => absurd h (Nat.not_lt_zero i), fun _ => rfl⟩
  | n + 1 => by
    have ih := cN_all (p := p) n
    have h1 := cN_le p n
    simp only [cN]
    constructor
    · intro e i hi
      by_cases q : p n = true
      · rw [if_pos q] at e
        by_cases z : i = n
        · rw [z]; exact q
        · exact ih.mp (by omega) i (by omega)
      · rw [if_neg q] at e; omega
    · intro h
      rw [if_pos (h n (by omega)), ih.mpr (fun i hi => h i (by omega))]
theorem and2_b : ∀ m : Fin 128, ∀ a : Fin 8, ∀ b : Fin 8, andZ (andZ (shrZ ((m : Nat) : Int) ((a : Nat) : Int)) (shrZ ((m : Nat) : Int) ((b : Nat) : Int))) 1 = (if (m : Nat).testBit a = true ∧ (m : Nat).testBit b = true then 1 else 0) := by decide +kernel
theorem and2_eq {m a b : Nat} (hm : m < 128) (ha : a < 8) (hb : b < 8) : andZ (andZ (shrZ (m : Int) (a : Int)) (shrZ (m : Int) (b : Int))) 1 = (if m.testBit a = true ∧ m.testBit b = true then 1 else 0) := and2_b ⟨m, hm⟩ ⟨a, ha⟩ ⟨b, hb⟩
section LAW1
variable {l : Launch} {D : va_G} {ck : Nat → ClassId} {ad : Nat → Nat} {sh : List Shp} {w : Mem} {n : Nat} {f : Nat → Nat → Nat}
theorem el_cell {k : Int} (hk : 0 ≤ k ∧ k < 1000) : eL_cell l D ck ad shA [vR 2000, vI k] w (Pi fun v w1 => w = w1) := by
  refine ev_of_goK (own := RL) (ls := [some (vR 2000), some (vI k)]) (by decide +kernel) rfl rfl (Nat.le_of_ble_eq_true rfl) rkI ?_
  intro K hK
  refine go_iload_n (j := 1) (q := 1) rfl rfl dL_cell_0 rfl ?_
  refine go_aload_n (j := 0) (q := 2) rfl rfl dL_cell_1 rfl ?_
  refine go_slenb (q := 3) dL_cell_2 rfl (fun hL2 => ?_)
  refine go_icmp_ge2 (q := 6) (t := 12) dL_cell_3 (by decide) rfl (by omega) (fun c3 => ?_) (fun c3 => ?_)
  · refine go_ldc (n := 1033861973) (q := 14) cn_L_7 rfl dL_cell_12 rfl ?_
    refine go_iload_n (j := 1) (q := 15) rfl rfl dL_cell_14 rfl ?_
    refine go_iconst (q := 16) dL_cell_15 rfl ?_
    refine go_iadd (q := 17) dL_cell_16 rfl ?_
    refine go_imul (q := 18) dL_cell_17 rfl ?_
    refine go_ldc (n := 650699943) (q := 20) cn_L_8 rfl dL_cell_18 rfl ?_
    refine go_iadd (q := 21) dL_cell_20 rfl ?_
    refine go_iret dL_cell_21 ?_
    subst hK; exact ⟨_, rfl, rfl⟩
  · refine go_aload_n (j := 0) (q := 7) rfl rfl dL_cell_6 rfl ?_
    refine go_iload_n (j := 1) (q := 8) rfl rfl dL_cell_7 rfl ?_
    refine go_sld (j := k.toNat) (q := 9) (wr_eq (by omega)) (by omega) dL_cell_8 rfl (fun v8 hv8 => ?_)
    refine go_goto (q := 21) dL_cell_9 (by decide) ?_
    refine go_iret dL_cell_21 ?_
    subst hK; exact ⟨_, rfl, rfl⟩
theorem el_low {v u : Int} (hu : 1 ≤ u ∧ u < 1000) : eL_low l D ck ad sh [vI v, vI u] w (Pi fun r w1 => (0 ≤ r ∧ r < u) ∧ w = w1) := by
  have h31 := and31 v
  refine ev_of_goK (own := RL) (ls := [some (vI v), some (vI u)]) (by decide +kernel) rfl rfl (Nat.le_of_ble_eq_true rfl) rkI ?_
  intro K hK
  refine go_iload_n (j := 0) (q := 1) rfl rfl dL_low_0 rfl ?_
  refine go_ldc (n := 2147483647) (q := 3) cn_L_9 rfl dL_low_1 rfl ?_
  refine go_iand (q := 4) dL_low_3 rfl ?_
  refine go_iload_n (j := 1) (q := 5) rfl rfl dL_low_4 rfl ?_
  refine go_irem2 (q := 6) (by omega) (by omega) dL_low_5 rfl ?_
  refine go_iret dL_low_6 ?_
  subst hK
  refine ⟨_, rfl, ?_, rfl⟩
  rw [Int.tmod_eq_emod_of_nonneg h31.1]
  exact ⟨Int.emod_nonneg _ (by omega), Int.emod_lt_of_pos _ (by omega)⟩
theorem el_ones {m : Nat} {mi : Int} (em : mi = m) (hm : m < 128) : eL_ones l D ck ad sh [vI mi] w (Pi fun v w1 => v = (pc m : Int) ∧ w = w1) := by
  refine ev_of_goK (own := RL) (ls := [some (vI mi), none, none]) (by decide +kernel) rfl rfl (Nat.le_of_ble_eq_true rfl) rkI ?_
  intro K hK
  refine go_iconst (q := 1) dL_ones_0 rfl ?_
  refine go_istore_n (j := 1) (q := 2) (ls2 := [_, _, _]) rfl (by decide) rfl rfl dL_ones_1 rfl ?_
  refine go_iload_n (j := 0) (q := 3) rfl rfl dL_ones_2 rfl ?_
  refine go_istore_n (j := 2) (q := 4) (ls2 := [_, _, _]) rfl (by decide) rfl rfl dL_ones_3 rfl ?_
  have lp4 : ∀ (m4 : Nat) (v : Nat) (vi ci : Int) (ev : vi = v) (hv : v < 128) (ec : ci = (pc m : Int) - pc v), m4 = v → gL_ones l D ck ad sh 4 [some (vI mi), some (vI ci), some (vI vi)] [] w K := by
    intro m4
    induction m4 using Nat.strongRecOn with
    | _ m4 ih4 =>
    intro v vi ci ev hv ec em4
    refine go_iload_n (j := 2) (q := 5) rfl rfl dL_ones_4 rfl ?_
    refine go_if_eq2 (q := 8) (t := 20) dL_ones_5 (by decide) rfl (by omega) (fun c5 => ?_) (fun c5 => ?_)
    · refine go_iload_n (j := 1) (q := 21) rfl rfl dL_ones_20 rfl ?_
      refine go_iret dL_ones_21 ?_
      subst hK
      have e0 : v = 0 := by omega
      subst e0
      exact ⟨_, rfl, by rw [ec, pc_0]; omega, rfl⟩
    · have hb := ones_b ⟨v, hv⟩ (by show v ≠ 0; omega)
      simp only at hb
      have hle : v &&& (v - 1) ≤ v - 1 := Nat.and_le_right
      refine go_iinc (j := 1) (q := 11) (ls2 := [_, _, _]) rfl (by decide) rfl rfl dL_ones_8 rfl ?_
      refine go_iload_n (j := 2) (q := 12) rfl rfl dL_ones_11 rfl ?_
      refine go_iload_n (j := 2) (q := 13) rfl rfl dL_ones_12 rfl ?_
      refine go_iconst (q := 14) dL_ones_13 rfl ?_
      refine go_isub (q := 15) dL_ones_14 rfl ?_
      refine go_iand (q := 16) dL_ones_15 rfl ?_
      rw [ev, hb.1]
      refine go_istore_n (j := 2) (q := 17) (ls2 := [_, _, _]) rfl (by decide) rfl rfl dL_ones_16 rfl ?_
      refine go_goto (q := 4) dL_ones_17 (by decide) ?_
      exact ih4 _ (by omega) (v &&& (v - 1)) _ _ rfl (by omega) (by have := hb.2; omega) rfl
  exact lp4 _ m _ _ em hm (by omega) rfl
theorem el_column {y : Nat} {yi : Int} (ey : yi = y) (hy : y < n) (hT : TB w 45 n f) : eL_column l D ck ad shA [vI yi, vR 45, vR 46] w (Pi fun v w1 => v = (msk (fun x => f x y) n : Int) ∧ w = w1) := by
  have g0 := hT.1
  have hn := hT.2.1
  have h64 : 2 ^ n ≤ 2 ^ 6 := Nat.pow_le_pow_right (by decide) hn.2
  have hml := fun x (hx : x ≤ n) => msk_lt (g := fun x => f x y) (n := n) x (fun i hi => (hT.2.2 i y (by omega) hy).2)
  refine ev_of_goK (own := RL) (ls := [some (vI yi), some (vR 45), some (vR 46), none, none]) (by decide +kernel) rfl rfl (Nat.le_of_ble_eq_true rfl) rkI ?_
  intro K hK
  refine go_iconst (q := 1) dL_column_0 rfl ?_
  refine go_istore_n (j := 3) (q := 2) (ls2 := [_, _, _, _, _]) rfl (by decide) rfl rfl dL_column_1 rfl ?_
  refine go_iconst (q := 3) dL_column_2 rfl ?_
  refine go_istore (j := 4) (q := 5) (ls2 := [_, _, _, _, _]) (by decide) rfl rfl dL_column_3 rfl ?_
  have lp5 : ∀ (m5 : Nat) (x : Nat) (xi si : Int) (ex : xi = x) (hx : x ≤ n) (es : si = (msk (fun x => f x y) x : Nat)), m5 = n - x → gL_column l D ck ad shA 5 [some (vI yi), some (vR 45), some (vR 46), some (vI si), some (vI xi)] [] w K := by
    intro m5
    induction m5 using Nat.strongRecOn with
    | _ m5 ih5 =>
    intro x xi si ex hx es em5
    refine go_iload (j := 4) (q := 7) rfl dL_column_5 rfl ?_
    refine go_aload_n (j := 1) (q := 8) rfl rfl dL_column_7 rfl ?_
    refine go_iconst (q := 9) dL_column_8 rfl ?_
    refine go_iald (j := 0) (q := 10) (by first | assumption | rfl) (wr_eq (by omega)) (by omega) dL_column_9 rfl ?_
    refine go_icmp_ge2 (q := 13) (t := 33) dL_column_10 (by decide) rfl (by omega) (fun c10 => ?_) (fun c10 => ?_)
    · refine go_iload_n (j := 3) (q := 34) rfl rfl dL_column_33 rfl ?_
      refine go_iret dL_column_34 ?_
      subst hK; exact ⟨_, rfl, by rw [es, show x = n by omega], rfl⟩
    · have hd := hT.2.2 x y (by omega) hy
      have hm := hml x (by omega)
      have h2 := two_lt hd.2
      refine go_iload_n (j := 3) (q := 14) rfl rfl dL_column_13 rfl ?_
      refine go_iconst (q := 15) dL_column_14 rfl ?_
      refine go_aload_n (j := 2) (q := 16) rfl rfl dL_column_15 rfl ?_
      refine go_bipush (q := 18) rfl dL_column_16 rfl ?_
      refine go_iload (j := 4) (q := 20) rfl dL_column_18 rfl ?_
      refine go_imul (q := 21) dL_column_20 rfl ?_
      refine go_iload_n (j := 0) (q := 22) rfl rfl dL_column_21 rfl ?_
      refine go_iadd (q := 23) dL_column_22 rfl ?_
      refine go_iald (j := 6 * x + y) (q := 24) (by first | assumption | rfl) (wr_eq (by omega)) (by omega) dL_column_23 rfl ?_
      rw [show w 46 (6 * x + y) = (f x y : Int) from hd.1]
      refine go_ishl (q := 25) dL_column_24 rfl ?_
      refine go_ior (q := 26) dL_column_25 rfl ?_
      refine go_istore_n (j := 3) (q := 27) (ls2 := [_, _, _, _, _]) rfl (by decide) rfl rfl dL_column_26 rfl ?_
      refine go_iinc (j := 4) (q := 30) (ls2 := [_, _, _, _, _]) rfl (by decide) rfl rfl dL_column_27 rfl ?_
      refine go_goto (q := 5) dL_column_30 (by decide) ?_
      exact ih5 _ (by omega) (x + 1) _ _ (by omega) (by omega) (by rw [es, shl_eq (by omega), or_eq (by omega) (by omega)]; rfl) rfl
  exact lp5 _ 0 _ _ rfl (by omega) rfl rfl
theorem el_vio1 (hT : TB w 45 n f) : eL_violation l D ck ad shA [vI 1, vR 45, vR 46] w (Pi fun v w1 => isLowP n (fun z => ¬ f z z = z) v ∧ w = w1) := by
  have g0 : w 45 0 = (n : Int) := hT.1
  have hn := hT.2.1
  obtain ⟨c1, c2, c3, c4⟩ := cubZ hn
  refine ev_of_goK (own := RL) (ls := [some (vI 1), some (vR 45), some (vR 46), none, none, none, none, none]) (by decide +kernel) rfl rfl (Nat.le_of_ble_eq_true rfl) rkI ?_
  intro K hK
  refine go_aload_n (j := 1) (q := 1) rfl rfl dL_violation_0 rfl ?_
  refine go_iconst (q := 2) dL_violation_1 rfl ?_
  refine go_iald (j := 0) (q := 3) (by first | assumption | rfl) (wr_eq (by omega)) (by omega) dL_violation_2 rfl ?_
  rw [g0]
  refine go_istore_n (j := 3) (q := 4) (ls2 := [_, _, _, _, _, _, _, _]) rfl (by decide) rfl rfl dL_violation_3 rfl ?_
  refine go_iconst (q := 5) dL_violation_4 rfl ?_
  refine go_istore (j := 4) (q := 7) (ls2 := [_, _, _, _, _, _, _, _]) (by decide) rfl rfl dL_violation_5 rfl ?_
  have lp7 : ∀ (m7 : Nat) (x : Nat) (xi : Int) (a b c : Option MV) (ex : xi = x) (hx : x ≤ n) (hi : ∀ i, i < x → ¬ ¬ f i i = i), m7 = n - x → gL_violation l D ck ad shA 7 [some (vI 1), some (vR 45), some (vR 46), (some (vI ((n : Nat) : Int))), some (vI xi), a, b, c] [] w K := by
    intro m7
    induction m7 using Nat.strongRecOn with
    | _ m7 ih7 =>
    intro x xi a b c ex hx hi em7
    refine go_iload (j := 4) (q := 9) rfl dL_violation_7 rfl ?_
    refine go_iload_n (j := 3) (q := 10) rfl rfl dL_violation_9 rfl ?_
    refine go_icmp_ge2 (q := 13) (t := 61) dL_violation_10 (by decide) rfl (by omega) (fun c10 => ?_) (fun c10 => ?_)
    · refine go_iconst (q := 62) dL_violation_61 rfl ?_
      refine go_istore (j := 4) (q := 64) (ls2 := [_, _, _, _, _, _, _, _]) (by decide) rfl rfl dL_violation_62 rfl ?_
      refine go_iload (j := 4) (q := 66) rfl dL_violation_64 rfl ?_
      refine go_iload_n (j := 3) (q := 67) rfl rfl dL_violation_66 rfl ?_
      refine go_iload_n (j := 3) (q := 68) rfl rfl dL_violation_67 rfl ?_
      refine go_imul (q := 69) dL_violation_68 rfl ?_
      refine go_iload_n (j := 3) (q := 70) rfl rfl dL_violation_69 rfl ?_
      refine go_imul (q := 71) dL_violation_70 rfl ?_
      rw [show (n : Int) * n * n = ((n * n * n : Nat) : Int) from c2]
      refine go_icmp_ge2 (q := 74) (t := 169) dL_violation_71 (by decide) rfl (by omega) (fun c71 => ?_) (fun c71 => ?_)
      · refine go_bipush (q := 171) rfl dL_violation_169 rfl ?_
        refine go_iret dL_violation_171 ?_
        subst hK; exact ⟨_, rfl, Or.inr ⟨rfl, fun i h => hi i (by omega)⟩, rfl⟩
      · refine go_iload_n (j := 0) (q := 75) rfl rfl dL_violation_74 rfl ?_
        refine go_iconst (q := 76) dL_violation_75 rfl ?_
        refine go_icmp_ne2 (q := 79) (t := 169) dL_violation_76 (by decide) rfl (by omega) (fun c76 => ?_) (fun c76 => ?_)
        · refine go_bipush (q := 171) rfl dL_violation_169 rfl ?_
          refine go_iret dL_violation_171 ?_
          subst hK; exact ⟨_, rfl, Or.inr ⟨rfl, fun i h => hi i (by omega)⟩, rfl⟩
        · exact absurd c76 (by omega)
    · refine go_iload_n (j := 0) (q := 14) rfl rfl dL_violation_13 rfl ?_
      refine go_iconst (q := 15) dL_violation_14 rfl ?_
      refine go_icmp_ge2 (q := 18) (t := 61) dL_violation_15 (by decide) rfl (by omega) (fun c15 => ?_) (fun c15 => ?_)
      · exact absurd c15 (by omega)
      · refine go_iload_n (j := 0) (q := 19) rfl rfl dL_violation_18 rfl ?_
        refine go_iconst (q := 20) dL_violation_19 rfl ?_
        refine go_icmp_ne2 (q := 23) (t := 38) dL_violation_20 (by decide) rfl (by omega) (fun c20 => ?_) (fun c20 => ?_)
        · exact absurd c20 (by omega)
        · refine go_aload_n (j := 2) (q := 24) rfl rfl dL_violation_23 rfl ?_
          refine go_bipush (q := 26) rfl dL_violation_24 rfl ?_
          refine go_iload (j := 4) (q := 28) rfl dL_violation_26 rfl ?_
          refine go_imul (q := 29) dL_violation_28 rfl ?_
          have hd := hT.2.2 x x (by omega) (by omega)
          have hd1 : w 46 (7 * x) = (f x x : Int) := by have := hd.1; rw [show 6 * x + x = 7 * x by omega] at this; exact this
          refine go_iald (j := 7 * x) (q := 30) (by first | assumption | rfl) (wr_eq (by omega)) (by omega) dL_violation_29 rfl ?_
          rw [hd1]
          refine go_iload (j := 4) (q := 32) rfl dL_violation_30 rfl ?_
          refine go_icmp_eq2 (q := 35) (t := 55) dL_violation_32 (by decide) rfl (by omega) (fun c32 => ?_) (fun c32 => ?_)
          · refine go_iinc (j := 4) (q := 58) (ls2 := [_, _, _, _, _, _, _, _]) rfl (by decide) rfl rfl dL_violation_55 rfl ?_
            refine go_goto (q := 7) dL_violation_58 (by decide) ?_
            exact ih7 _ (by omega) (x + 1) _ _ _ _ (by omega) (by omega) (fun i h => all_lt hi (by omega) h) rfl
          · refine go_goto (q := 52) dL_violation_35 (by decide) ?_
            refine go_iload (j := 4) (q := 54) rfl dL_violation_52 rfl ?_
            refine go_iret dL_violation_54 ?_
            subst hK; exact ⟨_, rfl, Or.inl ⟨x, by omega, ex, by omega, hi⟩, rfl⟩
  exact lp7 _ 0 _ _ _ _ rfl (by omega) (fun i h => absurd h (Nat.not_lt_zero i)) rfl
theorem el_vio2 (hT : TB w 45 n f) : eL_violation l D ck ad shA [vI 2, vR 45, vR 46] w (Pi fun v w1 => isLowP n (fun z => ¬ prm n f z) v ∧ w = w1) := by
  have g0 : w 45 0 = (n : Int) := hT.1
  have hn := hT.2.1
  obtain ⟨c1, c2, c3, c4⟩ := cubZ hn
  have h64 : 2 ^ n ≤ 2 ^ 6 := Nat.pow_le_pow_right (by decide) hn.2
  refine ev_of_goK (own := RL) (ls := [some (vI 2), some (vR 45), some (vR 46), none, none, none, none, none]) (by decide +kernel) rfl rfl (Nat.le_of_ble_eq_true rfl) rkI ?_
  intro K hK
  refine go_aload_n (j := 1) (q := 1) rfl rfl dL_violation_0 rfl ?_
  refine go_iconst (q := 2) dL_violation_1 rfl ?_
  refine go_iald (j := 0) (q := 3) (by first | assumption | rfl) (wr_eq (by omega)) (by omega) dL_violation_2 rfl ?_
  rw [g0]
  refine go_istore_n (j := 3) (q := 4) (ls2 := [_, _, _, _, _, _, _, _]) rfl (by decide) rfl rfl dL_violation_3 rfl ?_
  refine go_iconst (q := 5) dL_violation_4 rfl ?_
  refine go_istore (j := 4) (q := 7) (ls2 := [_, _, _, _, _, _, _, _]) (by decide) rfl rfl dL_violation_5 rfl ?_
  have lp7 : ∀ (m7 : Nat) (x : Nat) (xi : Int) (a b c : Option MV) (ex : xi = x) (hx : x ≤ n) (hi : ∀ i, i < x → ¬ ¬ prm n f i), m7 = n - x → gL_violation l D ck ad shA 7 [some (vI 2), some (vR 45), some (vR 46), (some (vI ((n : Nat) : Int))), some (vI xi), a, b, c] [] w K := by
    intro m7
    induction m7 using Nat.strongRecOn with
    | _ m7 ih7 =>
    intro x xi a b c ex hx hi em7
    refine go_iload (j := 4) (q := 9) rfl dL_violation_7 rfl ?_
    refine go_iload_n (j := 3) (q := 10) rfl rfl dL_violation_9 rfl ?_
    refine go_icmp_ge2 (q := 13) (t := 61) dL_violation_10 (by decide) rfl (by omega) (fun c10 => ?_) (fun c10 => ?_)
    · refine go_iconst (q := 62) dL_violation_61 rfl ?_
      refine go_istore (j := 4) (q := 64) (ls2 := [_, _, _, _, _, _, _, _]) (by decide) rfl rfl dL_violation_62 rfl ?_
      refine go_iload (j := 4) (q := 66) rfl dL_violation_64 rfl ?_
      refine go_iload_n (j := 3) (q := 67) rfl rfl dL_violation_66 rfl ?_
      refine go_iload_n (j := 3) (q := 68) rfl rfl dL_violation_67 rfl ?_
      refine go_imul (q := 69) dL_violation_68 rfl ?_
      refine go_iload_n (j := 3) (q := 70) rfl rfl dL_violation_69 rfl ?_
      refine go_imul (q := 71) dL_violation_70 rfl ?_
      rw [show (n : Int) * n * n = ((n * n * n : Nat) : Int) from c2]
      refine go_icmp_ge2 (q := 74) (t := 169) dL_violation_71 (by decide) rfl (by omega) (fun c71 => ?_) (fun c71 => ?_)
      · refine go_bipush (q := 171) rfl dL_violation_169 rfl ?_
        refine go_iret dL_violation_171 ?_
        subst hK; exact ⟨_, rfl, Or.inr ⟨rfl, fun i h => hi i (by omega)⟩, rfl⟩
      · refine go_iload_n (j := 0) (q := 75) rfl rfl dL_violation_74 rfl ?_
        refine go_iconst (q := 76) dL_violation_75 rfl ?_
        refine go_icmp_ne2 (q := 79) (t := 169) dL_violation_76 (by decide) rfl (by omega) (fun c76 => ?_) (fun c76 => ?_)
        · refine go_bipush (q := 171) rfl dL_violation_169 rfl ?_
          refine go_iret dL_violation_171 ?_
          subst hK; exact ⟨_, rfl, Or.inr ⟨rfl, fun i h => hi i (by omega)⟩, rfl⟩
        · exact absurd c76 (by omega)
    · refine go_iload_n (j := 0) (q := 14) rfl rfl dL_violation_13 rfl ?_
      refine go_iconst (q := 15) dL_violation_14 rfl ?_
      refine go_icmp_ge2 (q := 18) (t := 61) dL_violation_15 (by decide) rfl (by omega) (fun c15 => ?_) (fun c15 => ?_)
      · exact absurd c15 (by omega)
      · refine go_iload_n (j := 0) (q := 19) rfl rfl dL_violation_18 rfl ?_
        refine go_iconst (q := 20) dL_violation_19 rfl ?_
        refine go_icmp_ne2 (q := 23) (t := 38) dL_violation_20 (by decide) rfl (by omega) (fun c20 => ?_) (fun c20 => ?_)
        · have hml := msk_lt (g := fun z => f z x) (n := n) n (fun i hi => (hT.2.2 i x hi (by omega)).2)
          have hpf := pc_full (N := n) (by omega) hml
          have hpa := pc_all ⟨n, by omega⟩
          simp only at hpa
          have hiff : prm n f x ↔ n ≤ pc (msk (fun z => f z x) n) := ⟨fun h => by unfold prm at h; rw [h]; omega, fun h => hpf.2 h⟩
          refine go_iload (j := 4) (q := 40) rfl dL_violation_38 rfl ?_
          refine go_aload_n (j := 1) (q := 41) rfl rfl dL_violation_40 rfl ?_
          refine go_aload_n (j := 2) (q := 42) rfl rfl dL_violation_41 rfl ?_
          refine go_callSi (as := [_, _, _]) (rest := []) (n := 3) (q := 45) dL_violation_42 lk_L_10 rfl (by decide +kernel) rfl ⟨by decide, by decide⟩ ⟨rfl, rfl⟩ (Nat.le_of_ble_eq_true rfl) (el_column (y := x) ex (by omega) hT) rfl (fun x42 w42 h42 => ?_)
          obtain ⟨rfl, rfl⟩ := h42
          refine go_callSi (as := [_]) (rest := []) (n := 1) (q := 48) dL_violation_45 lk_L_16 rfl (by decide +kernel) rfl ⟨by decide, by decide⟩ ⟨rfl, rfl⟩ (Nat.le_of_ble_eq_true rfl) (el_ones (m := msk (fun z => f z x) n) rfl (by omega)) rfl (fun x45 w45 h45 => ?_)
          obtain ⟨rfl, rfl⟩ := h45
          refine go_iload_n (j := 3) (q := 49) rfl rfl dL_violation_48 rfl ?_
          refine go_icmp_ge2 (q := 52) (t := 55) dL_violation_49 (by decide) rfl (by omega) (fun c49 => ?_) (fun c49 => ?_)
          · refine go_iinc (j := 4) (q := 58) (ls2 := [_, _, _, _, _, _, _, _]) rfl (by decide) rfl rfl dL_violation_55 rfl ?_
            refine go_goto (q := 7) dL_violation_58 (by decide) ?_
            exact ih7 _ (by omega) (x + 1) _ _ _ _ (by omega) (by omega) (fun i h => all_lt hi (fun q => q (hiff.mpr (by omega))) h) rfl
          · refine go_iload (j := 4) (q := 54) rfl dL_violation_52 rfl ?_
            refine go_iret dL_violation_54 ?_
            subst hK; exact ⟨_, rfl, Or.inl ⟨x, by omega, ex, fun q => by have := hiff.mp q; omega, hi⟩, rfl⟩
        · exact absurd c20 (by omega)
  exact lp7 _ 0 _ _ _ _ rfl (by omega) (fun i h => absurd h (Nat.not_lt_zero i)) rfl
theorem el_vio3 (hT : TB w 45 n f) : eL_violation l D ck ad shA [vI 3, vR 45, vR 46] w (Pi fun v w1 => isLow3 n f v ∧ w = w1) := by
  have g0 : w 45 0 = (n : Int) := hT.1
  have hn := hT.2.1
  obtain ⟨c1, c2, c3, c4⟩ := cubZ hn
  refine ev_of_goK (own := RL) (ls := [some (vI 3), some (vR 45), some (vR 46), none, none, none, none, none]) (by decide +kernel) rfl rfl (Nat.le_of_ble_eq_true rfl) rkI ?_
  intro K hK
  refine go_aload_n (j := 1) (q := 1) rfl rfl dL_violation_0 rfl ?_
  refine go_iconst (q := 2) dL_violation_1 rfl ?_
  refine go_iald (j := 0) (q := 3) (by first | assumption | rfl) (wr_eq (by omega)) (by omega) dL_violation_2 rfl ?_
  rw [g0]
  refine go_istore_n (j := 3) (q := 4) (ls2 := [_, _, _, _, _, _, _, _]) rfl (by decide) rfl rfl dL_violation_3 rfl ?_
  refine go_iconst (q := 5) dL_violation_4 rfl ?_
  refine go_istore (j := 4) (q := 7) (ls2 := [_, _, _, _, _, _, _, _]) (by decide) rfl rfl dL_violation_5 rfl ?_
  refine go_iload (j := 4) (q := 9) rfl dL_violation_7 rfl ?_
  refine go_iload_n (j := 3) (q := 10) rfl rfl dL_violation_9 rfl ?_
  refine go_icmp_ge2 (q := 13) (t := 61) dL_violation_10 (by decide) rfl (by omega) (fun c10 => ?_) (fun c10 => ?_)
  · exact absurd c10 (by omega)
  · refine go_iload_n (j := 0) (q := 14) rfl rfl dL_violation_13 rfl ?_
    refine go_iconst (q := 15) dL_violation_14 rfl ?_
    refine go_icmp_ge2 (q := 18) (t := 61) dL_violation_15 (by decide) rfl (by omega) (fun c15 => ?_) (fun c15 => ?_)
    · refine go_iconst (q := 62) dL_violation_61 rfl ?_
      refine go_istore (j := 4) (q := 64) (ls2 := [_, _, _, _, _, _, _, _]) (by decide) rfl rfl dL_violation_62 rfl ?_
      have lp64 : ∀ (m64 : Nat) (k : Nat) (ki : Int) (a b c : Option MV) (ek : ki = k) (hk : k ≤ n * n * n) (hb : ∀ j, j < k → ¬ bad3 f (j / (n * n)) (j / n % n) (j % n)), m64 = n * n * n - k → gL_violation l D ck ad shA 64 [some (vI 3), some (vR 45), some (vR 46), (some (vI ((n : Nat) : Int))), some (vI ki), a, b, c] [] w K := by
        intro m64
        induction m64 using Nat.strongRecOn with
        | _ m64 ih64 =>
        intro k ki a b c ek hk hb em64
        refine go_iload (j := 4) (q := 66) rfl dL_violation_64 rfl ?_
        refine go_iload_n (j := 3) (q := 67) rfl rfl dL_violation_66 rfl ?_
        refine go_iload_n (j := 3) (q := 68) rfl rfl dL_violation_67 rfl ?_
        refine go_imul (q := 69) dL_violation_68 rfl ?_
        refine go_iload_n (j := 3) (q := 70) rfl rfl dL_violation_69 rfl ?_
        refine go_imul (q := 71) dL_violation_70 rfl ?_
        rw [show (n : Int) * n * n = ((n * n * n : Nat) : Int) from c2]
        refine go_icmp_ge2 (q := 74) (t := 169) dL_violation_71 (by decide) rfl (by omega) (fun c71 => ?_) (fun c71 => ?_)
        · refine go_bipush (q := 171) rfl dL_violation_169 rfl ?_
          refine go_iret dL_violation_171 ?_
          subst hK
          refine ⟨_, rfl, Or.inr ⟨rfl, fun i j k2 h1 h2 h3 => ?_⟩, rfl⟩
          have hlt : i < (n * n * n) / (n * n) := by rw [Nat.mul_div_cancel_left n (show 0 < n * n by omega)]; exact h1
          obtain ⟨q1, q2, q3, q4⟩ := dig3 (k := n * n * n) (by omega) h2 h3 (Or.inl hlt)
          have := hb ((i * n + j) * n + k2) (by omega)
          rw [q2, q3, q4] at this; exact this
        · refine go_iload_n (j := 0) (q := 75) rfl rfl dL_violation_74 rfl ?_
          refine go_iconst (q := 76) dL_violation_75 rfl ?_
          refine go_icmp_ne2 (q := 79) (t := 169) dL_violation_76 (by decide) rfl (by omega) (fun c76 => ?_) (fun c76 => ?_)
          · exact absurd (by omega : (3 : Int) = 3) c76
          · obtain ⟨x, hx⟩ : ∃ x, x = k / (n * n) := ⟨_, rfl⟩
            obtain ⟨y, hy⟩ : ∃ y, y = k / n % n := ⟨_, rfl⟩
            obtain ⟨z, hz⟩ : ∃ z, z = k % n := ⟨_, rfl⟩
            have hxl : x < n := by rw [hx]; exact Nat.div_lt_of_lt_mul (by omega)
            have hyl : y < n := by rw [hy]; exact Nat.mod_lt _ (by omega)
            have hzl : z < n := by rw [hz]; exact Nat.mod_lt _ (by omega)
            have e84 : ki.tdiv ((n * n : Nat) : Int) = (x : Int) := by rw [ek, hx]; exact (Int.ofNat_tdiv _ _).symm
            obtain ⟨kn, hkn0⟩ : ∃ kn, kn = k / n := ⟨_, rfl⟩
            have e90 : ki.tdiv (n : Int) = (kn : Int) := by rw [ek, hkn0]; exact (Int.ofNat_tdiv _ _).symm
            have e92 : (kn : Int).tmod (n : Int) = (y : Int) := by rw [hy, hkn0]; exact (Int.ofNat_tmod _ _).symm
            have e98 : ki.tmod (n : Int) = (z : Int) := by rw [ek, hz]; exact (Int.ofNat_tmod _ _).symm
            have hkn : kn ≤ k := by rw [hkn0]; exact Nat.div_le_self _ _
            have d1 := hT.2.2 x y hxl hyl
            have d2 := hT.2.2 x z hxl hzl
            have d3 := hT.2.2 y z hyl hzl
            have d4 := hT.2.2 (f x y) z d1.2 hzl
            have d5 := hT.2.2 (f x z) (f y z) d2.2 d3.2
            refine go_iload (j := 4) (q := 81) rfl dL_violation_79 rfl ?_
            refine go_iload_n (j := 3) (q := 82) rfl rfl dL_violation_81 rfl ?_
            refine go_iload_n (j := 3) (q := 83) rfl rfl dL_violation_82 rfl ?_
            refine go_imul (q := 84) dL_violation_83 rfl ?_
            rw [c1]
            refine go_idiv2 (q := 85) (by omega) (by omega) dL_violation_84 rfl ?_
            rw [e84]
            refine go_istore (j := 5) (q := 87) (ls2 := [_, _, _, _, _, _, _, _]) (by decide) rfl rfl dL_violation_85 rfl ?_
            refine go_iload (j := 4) (q := 89) rfl dL_violation_87 rfl ?_
            refine go_iload_n (j := 3) (q := 90) rfl rfl dL_violation_89 rfl ?_
            refine go_idiv2 (q := 91) (by omega) (by omega) dL_violation_90 rfl ?_
            rw [e90]
            refine go_iload_n (j := 3) (q := 92) rfl rfl dL_violation_91 rfl ?_
            refine go_irem2 (q := 93) (by omega) (by omega) dL_violation_92 rfl ?_
            rw [e92]
            refine go_istore (j := 6) (q := 95) (ls2 := [_, _, _, _, _, _, _, _]) (by decide) rfl rfl dL_violation_93 rfl ?_
            refine go_iload (j := 4) (q := 97) rfl dL_violation_95 rfl ?_
            refine go_iload_n (j := 3) (q := 98) rfl rfl dL_violation_97 rfl ?_
            refine go_irem2 (q := 99) (by omega) (by omega) dL_violation_98 rfl ?_
            rw [e98]
            refine go_istore (j := 7) (q := 101) (ls2 := [_, _, _, _, _, _, _, _]) (by decide) rfl rfl dL_violation_99 rfl ?_
            refine go_aload_n (j := 2) (q := 102) rfl rfl dL_violation_101 rfl ?_
            refine go_bipush (q := 104) rfl dL_violation_102 rfl ?_
            refine go_aload_n (j := 2) (q := 105) rfl rfl dL_violation_104 rfl ?_
            refine go_bipush (q := 107) rfl dL_violation_105 rfl ?_
            refine go_iload (j := 5) (q := 109) rfl dL_violation_107 rfl ?_
            refine go_imul (q := 110) dL_violation_109 rfl ?_
            refine go_iload (j := 6) (q := 112) rfl dL_violation_110 rfl ?_
            refine go_iadd (q := 113) dL_violation_112 rfl ?_
            refine go_iald (j := 6 * x + y) (q := 114) (by first | assumption | rfl) (wr_eq (by omega)) (by omega) dL_violation_113 rfl ?_
            rw [show w 46 (6 * x + y) = (f x y : Int) from d1.1]
            refine go_imul (q := 115) dL_violation_114 rfl ?_
            refine go_iload (j := 7) (q := 117) rfl dL_violation_115 rfl ?_
            refine go_iadd (q := 118) dL_violation_117 rfl ?_
            refine go_iald (j := 6 * f x y + z) (q := 119) (by first | assumption | rfl) (wr_eq (by omega)) (by omega) dL_violation_118 rfl ?_
            rw [show w 46 (6 * f x y + z) = (f (f x y) z : Int) from d4.1]
            refine go_aload_n (j := 2) (q := 120) rfl rfl dL_violation_119 rfl ?_
            refine go_bipush (q := 122) rfl dL_violation_120 rfl ?_
            refine go_aload_n (j := 2) (q := 123) rfl rfl dL_violation_122 rfl ?_
            refine go_bipush (q := 125) rfl dL_violation_123 rfl ?_
            refine go_iload (j := 5) (q := 127) rfl dL_violation_125 rfl ?_
            refine go_imul (q := 128) dL_violation_127 rfl ?_
            refine go_iload (j := 7) (q := 130) rfl dL_violation_128 rfl ?_
            refine go_iadd (q := 131) dL_violation_130 rfl ?_
            refine go_iald (j := 6 * x + z) (q := 132) (by first | assumption | rfl) (wr_eq (by omega)) (by omega) dL_violation_131 rfl ?_
            rw [show w 46 (6 * x + z) = (f x z : Int) from d2.1]
            refine go_imul (q := 133) dL_violation_132 rfl ?_
            refine go_aload_n (j := 2) (q := 134) rfl rfl dL_violation_133 rfl ?_
            refine go_bipush (q := 136) rfl dL_violation_134 rfl ?_
            refine go_iload (j := 6) (q := 138) rfl dL_violation_136 rfl ?_
            refine go_imul (q := 139) dL_violation_138 rfl ?_
            refine go_iload (j := 7) (q := 141) rfl dL_violation_139 rfl ?_
            refine go_iadd (q := 142) dL_violation_141 rfl ?_
            refine go_iald (j := 6 * y + z) (q := 143) (by first | assumption | rfl) (wr_eq (by omega)) (by omega) dL_violation_142 rfl ?_
            rw [show w 46 (6 * y + z) = (f y z : Int) from d3.1]
            refine go_iadd (q := 144) dL_violation_143 rfl ?_
            refine go_iald (j := 6 * f x z + f y z) (q := 145) (by first | assumption | rfl) (wr_eq (by omega)) (by omega) dL_violation_144 rfl ?_
            rw [show w 46 (6 * f x z + f y z) = (f (f x z) (f y z) : Int) from d5.1]
            refine go_icmp_eq2 (q := 148) (t := 163) dL_violation_145 (by decide) rfl (by omega) (fun c145 => ?_) (fun c145 => ?_)
            · refine go_iinc (j := 4) (q := 166) (ls2 := [_, _, _, _, _, _, _, _]) rfl (by decide) rfl rfl dL_violation_163 rfl ?_
              refine go_goto (q := 64) dL_violation_166 (by decide) ?_
              exact ih64 _ (by omega) (k + 1) _ _ _ _ (by omega) (by omega) (fun i h => all_lt (P := fun j => ¬ bad3 f (j / (n * n)) (j / n % n) (j % n)) hb (by rw [← hx, ← hy, ← hz]; unfold bad3; omega) h) rfl
            · refine go_bipush (q := 150) rfl dL_violation_148 rfl ?_
              refine go_iload (j := 5) (q := 152) rfl dL_violation_150 rfl ?_
              refine go_imul (q := 153) dL_violation_152 rfl ?_
              refine go_bipush (q := 155) rfl dL_violation_153 rfl ?_
              refine go_iload (j := 6) (q := 157) rfl dL_violation_155 rfl ?_
              refine go_imul (q := 158) dL_violation_157 rfl ?_
              refine go_iadd (q := 159) dL_violation_158 rfl ?_
              refine go_iload (j := 7) (q := 161) rfl dL_violation_159 rfl ?_
              refine go_iadd (q := 162) dL_violation_161 rfl ?_
              refine go_iret dL_violation_162 ?_
              subst hK
              refine ⟨_, rfl, Or.inl ⟨x, y, z, ⟨hxl, hyl, hzl⟩, by omega, by unfold bad3; omega, ?_⟩, rfl⟩
              intro i j k2 h1 h2 h3 h4
              rw [hx, hy, hz] at h4
              obtain ⟨q1, q2, q3, q4⟩ := dig3 (by omega) h2 h3 h4
              have := hb ((i * n + j) * n + k2) q1
              rw [q2, q3, q4] at this; exact this
      exact lp64 _ 0 _ _ _ _ rfl (by omega) (fun i h => absurd h (Nat.not_lt_zero i)) rfl
    · exact absurd c15 (by omega)
theorem el_closure {s : Nat} {si : Int} (es : si = s) (hs : s < 2 ^ n) (hT : TB w 45 n f) : eL_closure l D ck ad shA [vI si, vR 45, vR 46] w (Pi fun v w1 => v = (cloT n f s : Int) ∧ w = w1) := by
  have g0 : w 45 0 = (n : Int) := hT.1
  have hn := hT.2.1
  have h64 : 2 ^ n ≤ 2 ^ 6 := Nat.pow_le_pow_right (by decide) hn.2
  have hr : ∀ i j, i < n → j < n → f i j < n := fun i j hi hj => (hT.2.2 i j hi hj).2
  refine ev_of_goK (own := RL) (ls := [some (vI si), some (vR 45), some (vR 46), none, none, none]) (by decide +kernel) rfl rfl (Nat.le_of_ble_eq_true rfl) rkI ?_
  intro K hK
  refine go_iload_n (j := 0) (q := 1) rfl rfl dL_closure_0 rfl ?_
  refine go_istore_n (j := 3) (q := 2) (ls2 := [_, _, _, _, _, _]) rfl (by decide) rfl rfl dL_closure_1 rfl ?_
  refine go_iconst (q := 3) dL_closure_2 rfl ?_
  refine go_istore (j := 4) (q := 5) (ls2 := [_, _, _, _, _, _]) (by decide) rfl rfl dL_closure_3 rfl ?_
  have lp5 : ∀ (m5 : Nat) (m : Nat) (mi bi : Int) (a : Option MV) (em : mi = m) (hm : m < 2 ^ n) (hb1 : -1 ≤ bi ∧ bi < 128) (ha : sb s m) (hl : ∀ S, sb s S → clK n f S → sb m S) (hb : bi = -1 ∨ ∃ M : Nat, bi = M ∧ m = fN (fun k m => stK f (k / 6) (k % 6) m) M 36), m5 = msr m bi → gL_closure l D ck ad shA 5 [some (vI si), some (vR 45), some (vR 46), some (vI mi), some (vI bi), a] [] w K := by
    intro m5
    induction m5 using Nat.strongRecOn with
    | _ m5 ih5 =>
    intro m mi bi a em hm hb1 ha hl hb em5
    refine go_iload_n (j := 3) (q := 6) rfl rfl dL_closure_5 rfl ?_
    refine go_iload (j := 4) (q := 8) rfl dL_closure_6 rfl ?_
    refine go_icmp_eq2 (q := 11) (t := 63) dL_closure_8 (by decide) rfl (by omega) (fun c8 => ?_) (fun c8 => ?_)
    · refine go_iload_n (j := 3) (q := 64) rfl rfl dL_closure_63 rfl ?_
      refine go_iret dL_closure_64 ?_
      subst hK
      have hcl : clK n f m := by
        rcases hb with hb | ⟨M, h1, h2⟩
        · omega
        · have eM : M = m := by omega
          subst eM
          refine ⟨hm, fun a b q1 q2 => ?_⟩
          have ha1 := bit_lt hm q1
          have hb2 := bit_lt hm q2
          have := fN_fix (fun k m => stK_ext (k / 6) (k % 6) m) 36 h2.symm (6 * a + b) (by omega)
          rw [show (6 * a + b) / 6 = a by omega, show (6 * a + b) % 6 = b by omega] at this
          exact stK_fixb this q1 q2
      exact ⟨_, rfl, by rw [clo_fix hn.2 hr hs ha hl hcl]; exact em, rfl⟩
    · refine go_iload_n (j := 3) (q := 12) rfl rfl dL_closure_11 rfl ?_
      refine go_istore (j := 4) (q := 14) (ls2 := [_, _, _, _, _, _]) (by decide) rfl rfl dL_closure_12 rfl ?_
      refine go_iconst (q := 15) dL_closure_14 rfl ?_
      refine go_istore (j := 5) (q := 17) (ls2 := [_, _, _, _, _, _]) (by decide) rfl rfl dL_closure_15 rfl ?_
      have lp17 : ∀ (m17 : Nat) (k c : Nat) (ki ci : Int) (ek : ki = k) (hk : k ≤ 36) (ec : ci = c) (hc : c < 2 ^ n) (efo : c = fN (fun k m => stK f (k / 6) (k % 6) m) m k), m17 = 36 - k → gL_closure l D ck ad shA 17 [some (vI si), some (vR 45), some (vR 46), some (vI ci), some (vI mi), some (vI ki)] [] w K := by
        intro m17
        induction m17 using Nat.strongRecOn with
        | _ m17 ih17 =>
        intro k c ki ci ek hk ec hc efo em17
        refine go_iload (j := 5) (q := 19) rfl dL_closure_17 rfl ?_
        refine go_bipush (q := 21) rfl dL_closure_19 rfl ?_
        refine go_icmp_ge2 (q := 24) (t := 60) dL_closure_21 (by decide) rfl (by omega) (fun c21 => ?_) (fun c21 => ?_)
        · refine go_goto (q := 5) dL_closure_60 (by decide) ?_
          exact ih5 _ (by rw [em5, em]; exact msr_lt (by omega) (by omega) (by rw [efo]; exact sb_le (fN_ext (fun k m => stK_ext _ _ m) m k)) (by omega)) c _ _ _ ec hc (by omega) (by rw [efo]; exact sb_tr ha (fN_ext (fun k m => stK_ext _ _ m) m k)) (by
            intro S h1 h2
            rw [efo]
            exact fN_least (n := 36) (fun k m _ hm => stK_leastb h2 hm) (hl S h1 h2) k hk) (Or.inr ⟨m, em, by rw [efo, show k = 36 by omega]⟩) rfl
        · have e29 : ki.tdiv 6 = ((k / 6 : Nat) : Int) := by rw [ek]; exact (Int.ofNat_tdiv _ 6).symm
          have e36 : ki.tmod 6 = ((k % 6 : Nat) : Int) := by rw [ek]; exact (Int.ofNat_tmod _ 6).symm
          have hb1 := and2_eq (m := c) (a := k / 6) (b := k % 6) (by omega) (by omega) (by omega)
          rw [← ec, ← e29, ← e36] at hb1
          refine go_iload_n (j := 3) (q := 25) rfl rfl dL_closure_24 rfl ?_
          refine go_iload (j := 5) (q := 27) rfl dL_closure_25 rfl ?_
          refine go_bipush (q := 29) rfl dL_closure_27 rfl ?_
          refine go_idiv2 (q := 30) (by omega) (by omega) dL_closure_29 rfl ?_
          refine go_ishr (q := 31) dL_closure_30 rfl ?_
          refine go_iload_n (j := 3) (q := 32) rfl rfl dL_closure_31 rfl ?_
          refine go_iload (j := 5) (q := 34) rfl dL_closure_32 rfl ?_
          refine go_bipush (q := 36) rfl dL_closure_34 rfl ?_
          refine go_irem2 (q := 37) (by omega) (by omega) dL_closure_36 rfl ?_
          refine go_ishr (q := 38) dL_closure_37 rfl ?_
          refine go_iand (q := 39) dL_closure_38 rfl ?_
          refine go_iconst (q := 40) dL_closure_39 rfl ?_
          refine go_iand (q := 41) dL_closure_40 rfl ?_
          refine go_iconst (q := 42) dL_closure_41 rfl ?_
          refine go_icmp_ne2 (q := 45) (t := 54) dL_closure_42 (by decide) rfl (by rw [hb1]; split <;> omega) (fun c42 => ?_) (fun c42 => ?_)
          · have hbt : ¬ (c.testBit (k / 6) = true ∧ c.testBit (k % 6) = true) := by rw [hb1] at c42; intro q; rw [if_pos q] at c42; omega
            refine go_iinc (j := 5) (q := 57) (ls2 := [_, _, _, _, _, _]) rfl (by decide) rfl rfl dL_closure_54 rfl ?_
            refine go_goto (q := 17) dL_closure_57 (by decide) ?_
            first
            | exact ih17 _ (by omega) (k + 1) c _ _ (by omega) (by omega) ec hc (by show c = stK f (k / 6) (k % 6) _; rw [← efo, stK, if_neg hbt]) rfl
            | exact ih17 _ (by omega) (k + 1) (c ||| 2 ^ f (k / 6) (k % 6)) _ _ (by omega) (by omega) (by rw [ec, shl_eq (by omega), or_eq (by omega) (by omega)]) (or_lt hc h2) (by show c ||| 2 ^ f (k / 6) (k % 6) = stK f (k / 6) (k % 6) _; rw [← efo, stK, if_pos hbt]) rfl
          · have hbt : c.testBit (k / 6) = true ∧ c.testBit (k % 6) = true := by rw [hb1] at c42; by_cases q : c.testBit (k / 6) = true ∧ c.testBit (k % 6) = true; exact q; rw [if_neg q] at c42; omega
            have hd := hT.2.2 (k / 6) (k % 6) (bit_lt hc hbt.1) (bit_lt hc hbt.2)
            have hd1 : w 46 k = (f (k / 6) (k % 6) : Int) := by have := hd.1; rw [show 6 * (k / 6) + k % 6 = k by omega] at this; exact this
            have h2 := two_lt hd.2
            refine go_iload_n (j := 3) (q := 46) rfl rfl dL_closure_45 rfl ?_
            refine go_iconst (q := 47) dL_closure_46 rfl ?_
            refine go_aload_n (j := 2) (q := 48) rfl rfl dL_closure_47 rfl ?_
            refine go_iload (j := 5) (q := 50) rfl dL_closure_48 rfl ?_
            refine go_iald (j := k) (q := 51) (by first | assumption | rfl) (wr_eq (by omega)) (by omega) dL_closure_50 rfl ?_
            rw [hd1]
            refine go_ishl (q := 52) dL_closure_51 rfl ?_
            refine go_ior (q := 53) dL_closure_52 rfl ?_
            refine go_istore_n (j := 3) (q := 54) (ls2 := [_, _, _, _, _, _]) rfl (by decide) rfl rfl dL_closure_53 rfl ?_
            refine go_iinc (j := 5) (q := 57) (ls2 := [_, _, _, _, _, _]) rfl (by decide) rfl rfl dL_closure_54 rfl ?_
            refine go_goto (q := 17) dL_closure_57 (by decide) ?_
            first
            | exact ih17 _ (by omega) (k + 1) c _ _ (by omega) (by omega) ec hc (by show c = stK f (k / 6) (k % 6) _; rw [← efo, stK, if_neg hbt]) rfl
            | exact ih17 _ (by omega) (k + 1) (c ||| 2 ^ f (k / 6) (k % 6)) _ _ (by omega) (by omega) (by rw [ec, shl_eq (by omega), or_eq (by omega) (by omega)]) (or_lt hc h2) (by show c ||| 2 ^ f (k / 6) (k % 6) = stK f (k / 6) (k % 6) _; rw [← efo, stK, if_pos hbt]) rfl
      exact lp17 _ 0 m _ _ rfl (by omega) em hm rfl rfl
  exact lp5 _ s _ _ _ es hs (by omega) (sb_rf s) (fun S h _ => h) (Or.inl rfl) rfl
end LAW1
