theorem ev_of_goK {l : Launch} {D : va_G} {ck : Nat → ClassId} {ad : Nat → Nat} {sh : List Shp} {y : MethodName} {own : String} {cc : ByteArray} {nL : Nat} {ret : Option FieldType} {R : Room} {as : List MV} {ls : List (Option MV)} {w : Mem} {K : Post} (hy : plainFor y = true) (ho : y.cls = own)
    (hls : ls = ils as ++ List.replicate (nL - (ils as).length) none) (hn : (ils as).length ≤ nL) (hret : ∀ r w2, K r w2 → retOk ret r) (h : ∀ K' : Post, K' = K → Go l D ck ad sh own cc nL R 0 (VW D ck ad sh) 0 ls [] w K') : Ev l D ck ad sh y cc nL ret R as w K := ev_of_go hy ho hls hn hret (h K rfl)
theorem ev_of_goBK {B : Nat} {l : Launch} {D : va_G} {ck : Nat → ClassId} {ad : Nat → Nat} {sh : List Shp} {y : MethodName} {own : String} {cc : ByteArray} {nL : Nat} {ret : Option FieldType} {R : Room} {as : List MV} {ls : List (Option MV)} {w : Mem} {K : Post} (hB : B ≤ R.cells ∧ 64 * B ≤ R.slots) (hy : plainFor y = true) (ho : y.cls = own)
    (hls : ls = ils as ++ List.replicate (nL - (ils as).length) none) (hn : (ils as).length ≤ nL) (hret : ∀ r w2, K r w2 → retOk ret r) (h : ∀ K' : Post, K' = K → Go l D ck ad sh own cc nL R B (VW D ck ad sh) 0 ls [] w K') : Ev l D ck ad sh y cc nL ret R as w K := ev_of_goB hB hy ho hls hn hret (h K rfl)
theorem mup_eq (w : Mem) (c k : Nat) (v : Int) : mup w c k v c k = v := by simp [mup]
theorem mup_ne {w : Mem} {c k c' k' : Nat} {v : Int} (h : c' ≠ c ∨ k' ≠ k) : mup w c k v c' k' = w c' k' := by
  unfold mup; rw [if_neg]; rintro ⟨h1, h2⟩; rcases h with h | h <;> contradiction
theorem mcpy_in {w : Mem} {b0 sp b1 dp n k : Nat} (h : dp ≤ k ∧ k < dp + n) : mcpy w b0 sp b1 dp n b1 k = w b0 (sp + (k - dp)) := by unfold mcpy; rw [if_pos ⟨rfl, h.1, h.2⟩]
theorem mcpy_out {w : Mem} {b0 sp b1 dp n c k : Nat} (h : c ≠ b1 ∨ k < dp ∨ dp + n ≤ k) : mcpy w b0 sp b1 dp n c k = w c k := by
  unfold mcpy; rw [if_neg]; rintro ⟨h1, h2, h3⟩; omega
theorem linb {p x : Int} (h : (-5 ≤ p ∧ p ≤ 6) ∧ (0 ≤ x ∧ x ≤ 5)) : -30 ≤ p * x ∧ p * x ≤ 30 := by
  have : x = 0 ∨ x = 1 ∨ x = 2 ∨ x = 3 ∨ x = 4 ∨ x = 5 := by omega
  rcases this with rfl | rfl | rfl | rfl | rfl | rfl <;> omega
def linF (s : Nat) (p : Int) (x y : Nat) : Nat := ((p * (x : Int) + (1 - p) * (y : Int)) % (s : Int)).toNat
/-- pairs of points by number -/
def pnum (p a b : Nat) : Nat := a * (2 * p - a - 1) / 2 + b - a - 1
def pA (p x : Nat) : Nat := if p = 2 then 0 else if p = 3 then [0, 0, 1].getD x 0 else [0, 0, 0, 1, 1, 2].getD x 0
def pB (p x : Nat) : Nat := if p = 2 then 1 else if p = 3 then [1, 2, 2].getD x 0 else [1, 2, 3, 2, 3, 3].getD x 0
def swp (x a b : Nat) : Nat := if x = a then b else if x = b then a else x
def trF (p x y : Nat) : Nat :=
  let u := swp (pA p x) (pA p y) (pB p y)
  let v := swp (pB p x) (pA p y) (pB p y)
  pnum p (min u v) (max u v)
theorem pn_b : ∀ p : Fin 5, ∀ a : Fin 5, ∀ b : Fin 5, 2 ≤ (p : Nat) → (a : Nat) < b → (b : Nat) < p →
    pA p (pnum p a b) = a ∧ pB p (pnum p a b) = b ∧ pnum p a b < p * (p - 1) / 2 ∧ pnum p a (b + 1) = pnum p a b + 1 := by decide +kernel
theorem pn_e : ∀ p : Fin 5, ∀ a : Fin 5, 2 ≤ (p : Nat) → (a : Nat) < p → pnum p a p = pnum p (a + 1) (a + 2) := by decide +kernel
theorem pn_0 : ∀ p : Fin 5, 2 ≤ (p : Nat) → pnum p 0 1 = 0 ∧ pnum p p ((p : Nat) + 1) = (p : Nat) * ((p : Nat) - 1) / 2 ∧ 1 ≤ (p : Nat) * ((p : Nat) - 1) / 2 ∧ (p : Nat) * ((p : Nat) - 1) / 2 ≤ 6 := by decide +kernel
theorem tdv2 {a : Nat} : ((a : Nat) : Int).tdiv 2 = ((a / 2 : Nat) : Int) := by rw [Int.tdiv_eq_ediv_of_nonneg (by omega)]; omega
theorem tr_b : ∀ p : Fin 5, ∀ a : Fin 5, ∀ b : Fin 5, ∀ c : Fin 5, ∀ d : Fin 5, 2 ≤ (p : Nat) → (a : Nat) < b → (b : Nat) < p → (c : Nat) < d → (d : Nat) < p →
    swp a c d < p ∧ swp b c d < p ∧ swp a c d ≠ swp b c d := by decide +kernel
section TAB4
variable {l : Launch} {D : va_G} {ck : Nat → ClassId} {ad : Nat → Nat} {sh : List Shp} {t n : Nat} {f : Nat → Nat → Nat} {w : Mem}
theorem ev_copyT {u : Nat} (ht1 : sh[t]? = some (oTab t)) (ht2 : sh[t + 1]? = some (rInt 36)) (hu1 : sh[u]? = some (oTab u)) (hu2 : sh[u + 1]? = some (rInt 36)) (hne : u ≠ t ∧ u ≠ t + 1 ∧ u + 1 ≠ t) :
    eX5_copyFrom l D ck ad sh [vR t, vR u] w (Pv fun w1 => w1 t 0 = w u 0 ∧ (∀ k, k < 36 → w1 (t + 1) k = w (u + 1) k) ∧ ∀ c k, c ≠ t → c ≠ t + 1 → w1 c k = w c k) := by
  refine ev_of_goK (own := RX5) (ls := [some (vR t), some (vR u)]) (by decide +kernel) rfl rfl (Nat.le_of_ble_eq_true rfl) rkV ?_
  intro K hK
  refine go_aload_n (j := 0) (q := 1) rfl rfl dX5_copyFrom_0 rfl ?_
  refine go_aload_n (j := 1) (q := 2) rfl rfl dX5_copyFrom_1 rfl ?_
  refine go_getI (C0 := RX5) (T := TX5) (N := 2) (ci := 5) (i := 0) (q := 5) rfl igX5 (by first | assumption | rfl) (by decide) fl_X5_9 rfl dX5_copyFrom_2 rfl ?_
  refine go_putI (C0 := RX5) (T := TX5) (N := 2) (ci := 5) (i := 0) (q := 8) rfl igX5 (by first | assumption | rfl) (by decide) fl_X5_9 rfl tyX5 tyX5_ok nmX5 rfl rfl dX5_copyFrom_5 rfl ?_
  refine go_aload_n (j := 1) (q := 9) rfl rfl dX5_copyFrom_8 rfl ?_
  refine go_getR (C0 := RX5) (T := TX5) (N := 2) (ci := 5) (i := 1) (q := 12) rfl igX5 (by first | assumption | rfl) (by decide) fl_X5_15 rfl dX5_copyFrom_9 rfl ?_
  refine go_iconst (q := 13) dX5_copyFrom_12 rfl ?_
  refine go_aload_n (j := 0) (q := 14) rfl rfl dX5_copyFrom_13 rfl ?_
  refine go_getR (C0 := RX5) (T := TX5) (N := 2) (ci := 5) (i := 1) (q := 17) rfl igX5 (by first | assumption | rfl) (by decide) fl_X5_15 rfl dX5_copyFrom_14 rfl ?_
  refine go_iconst (q := 18) dX5_copyFrom_17 rfl ?_
  refine go_aload_n (j := 0) (q := 19) rfl rfl dX5_copyFrom_18 rfl ?_
  refine go_getR (C0 := RX5) (T := TX5) (N := 2) (ci := 5) (i := 1) (q := 22) rfl igX5 (by first | assumption | rfl) (by decide) fl_X5_15 rfl dX5_copyFrom_19 rfl ?_
  refine go_alen (q := 23) (by first | assumption | rfl) rfl dX5_copyFrom_22 rfl ?_
  refine go_acopy (sp := 0) (dp := 0) (n := 36) (q := 26) lk_X5_19 (by first | assumption | rfl) (by first | assumption | rfl) (wr_eq (by omega)) (wr_eq (by omega)) (wr_eq (by omega)) (by omega) (by omega) (by decide) (Nat.le_of_ble_eq_true rfl) dX5_copyFrom_23 rfl ?_
  refine go_vret dX5_copyFrom_26 ?_
  subst hK
  refine ⟨rfl, ?_, fun k hk => ?_, fun c k h1 h2 => ?_⟩
  · rw [mcpy_out (by omega), mup_eq]
  · rw [mcpy_in (by omega), mup_ne (by omega)]; congr 1; omega
  · rw [mcpy_out (by omega), mup_ne (by omega)]
theorem ev_fillLinear (ht1 : sh[t]? = some (oTab t)) (ht2 : sh[t + 1]? = some (rInt 36)) {s : Nat} {si p : Int} (es : si = s) (hs : 1 ≤ s ∧ s ≤ 6) (hp : -1 ≤ p ∧ p ≤ 5) :
    eX5_fillLinear l D ck ad sh [vR t, vI si, vI p] w (Pv fun w1 => TB w1 t s (linF s p) ∧ ∀ c k, c ≠ t → c ≠ t + 1 → w1 c k = w c k) := by
  refine ev_of_goK (own := RX5) (ls := [some (vR t), some (vI si), some (vI p), none, none]) (by decide +kernel) rfl rfl (Nat.le_of_ble_eq_true rfl) rkV ?_
  intro K hK
  have hlt : ∀ x y, linF s p x y < s := fun x y => by
    have h1 := Int.emod_nonneg (p * (x : Int) + (1 - p) * (y : Int)) (b := (s : Int)) (by omega)
    have h2 := Int.emod_lt_of_pos (p * (x : Int) + (1 - p) * (y : Int)) (b := (s : Int)) (by omega)
    unfold linF; omega
  refine go_aload_n (j := 0) (q := 1) rfl rfl dX5_fillLinear_0 rfl ?_
  refine go_iload_n (j := 1) (q := 2) rfl rfl dX5_fillLinear_1 rfl ?_
  refine go_putI (C0 := RX5) (T := TX5) (N := 2) (ci := 5) (i := 0) (q := 5) rfl igX5 (by first | assumption | rfl) (by decide) fl_X5_9 rfl tyX5 tyX5_ok nmX5 rfl rfl dX5_fillLinear_2 rfl ?_
  refine go_iconst (q := 6) dX5_fillLinear_5 rfl ?_
  refine go_istore_n (j := 3) (q := 7) (ls2 := [_, _, _, _, _]) rfl (by decide) rfl rfl dX5_fillLinear_6 rfl ?_
  have lp7 : ∀ (m7 : Nat) (x : Nat) (xi : Int) (u : Option MV) (w1 : Mem) (ex : xi = x) (hx : x ≤ s) (h0 : w1 t 0 = s) (hd : ∀ i j, i < x → j < s → w1 (t + 1) (6 * i + j) = (linF s p i j : Int)) (hf : ∀ c k, c ≠ t → c ≠ t + 1 → w1 c k = w c k), m7 = s - x → gX5_fillLinear l D ck ad sh 7 [some (vR t), some (vI si), some (vI p), some (vI xi), u] [] w1 K := by
    intro m7
    induction m7 using Nat.strongRecOn with
    | _ m7 ih7 =>
    intro x xi u w1 ex hx h0 hd hf em7
    refine go_iload_n (j := 3) (q := 8) rfl rfl dX5_fillLinear_7 rfl ?_
    refine go_iload_n (j := 1) (q := 9) rfl rfl dX5_fillLinear_8 rfl ?_
    refine go_icmp_ge2 (q := 12) (t := 54) dX5_fillLinear_9 (by decide) rfl (by omega) (fun c9 => ?_) (fun c9 => ?_)
    · refine go_vret dX5_fillLinear_54 ?_
      subst hK
      refine ⟨rfl, ⟨h0, hs, fun i j hi hj => ⟨hd i j (by omega) hj, hlt i j⟩⟩, hf⟩
    · refine go_iconst (q := 13) dX5_fillLinear_12 rfl ?_
      refine go_istore (j := 4) (q := 15) (ls2 := [_, _, _, _, _]) (by decide) rfl rfl dX5_fillLinear_13 rfl ?_
      have lp15 : ∀ (m15 : Nat) (y : Nat) (yi : Int) (w2 : Mem) (ey : yi = y) (hy : y ≤ s) (h02 : w2 t 0 = s) (hd2 : ∀ i j, i ≤ x → j < s → (i = x → j < y) → w2 (t + 1) (6 * i + j) = (linF s p i j : Int)) (hf2 : ∀ c k, c ≠ t → c ≠ t + 1 → w2 c k = w c k), m15 = s - y → gX5_fillLinear l D ck ad sh 15 [some (vR t), some (vI si), some (vI p), some (vI xi), some (vI yi)] [] w2 K := by
        intro m15
        induction m15 using Nat.strongRecOn with
        | _ m15 ih15 =>
        intro y yi w2 ey hy h02 hd2 hf2 em15
        refine go_iload (j := 4) (q := 17) rfl dX5_fillLinear_15 rfl ?_
        refine go_iload_n (j := 1) (q := 18) rfl rfl dX5_fillLinear_17 rfl ?_
        refine go_icmp_ge2 (q := 21) (t := 48) dX5_fillLinear_18 (by decide) rfl (by omega) (fun c18 => ?_) (fun c18 => ?_)
        · refine go_iinc (j := 3) (q := 51) (ls2 := [_, _, _, _, _]) rfl (by decide) rfl rfl dX5_fillLinear_48 rfl ?_
          refine go_goto (q := 7) dX5_fillLinear_51 (by decide) ?_
          exact ih7 _ (by omega) (x + 1) _ _ _ (by omega) (by omega) h02 (fun i j hi hj => hd2 i j (by omega) hj (by omega)) hf2 rfl
        · have b1 := linb (p := p) (x := xi) (by omega)
          have b2 := linb (p := 1 - p) (x := yi) (by omega)
          refine go_aload_n (j := 0) (q := 22) rfl rfl dX5_fillLinear_21 rfl ?_
          refine go_iload_n (j := 3) (q := 23) rfl rfl dX5_fillLinear_22 rfl ?_
          refine go_iload (j := 4) (q := 25) rfl dX5_fillLinear_23 rfl ?_
          refine go_iload_n (j := 2) (q := 26) rfl rfl dX5_fillLinear_25 rfl ?_
          refine go_iload_n (j := 3) (q := 27) rfl rfl dX5_fillLinear_26 rfl ?_
          refine go_imul (q := 28) dX5_fillLinear_27 rfl ?_
          refine go_iconst (q := 29) dX5_fillLinear_28 rfl ?_
          refine go_iload_n (j := 2) (q := 30) rfl rfl dX5_fillLinear_29 rfl ?_
          refine go_isub (q := 31) dX5_fillLinear_30 rfl ?_
          refine go_iload (j := 4) (q := 33) rfl dX5_fillLinear_31 rfl ?_
          refine go_imul (q := 34) dX5_fillLinear_33 rfl ?_
          refine go_iadd (q := 35) dX5_fillLinear_34 rfl ?_
          refine go_iload_n (j := 1) (q := 36) rfl rfl dX5_fillLinear_35 rfl ?_
          refine go_callSi (as := [_, _]) (rest := [_, _, _]) (n := 2) (q := 39) dX5_fillLinear_36 lk_X5_25 rfl (by decide +kernel) rfl ⟨by decide, by decide⟩ ⟨rfl, rfl⟩ (Nat.le_of_ble_eq_true rfl) (ev_floorMod (y := s) es (by omega) hs) rfl (fun x36 w36 h36 => ?_)
          obtain ⟨rfl, rfl⟩ := h36
          refine go_callVv (as := [_, _, _, _]) (As := [_, _, _]) (rest := []) (n := 3) (q := 42) dX5_fillLinear_39 lk_X5_31 (ci := 5) (N := 2) (T := TX5) rfl (by first | assumption | rfl) rfl rfl (by decide +kernel) rfl ⟨by decide, by decide⟩ ⟨rfl, rfl⟩ (Nat.le_of_ble_eq_true rfl) (ev_put ht1 ht2 (x := x) (y := y) ex ey (by omega) (by omega)) rfl (fun w39 h39 => ?_)
          subst h39
          refine go_iinc (j := 4) (q := 45) (ls2 := [_, _, _, _, _]) rfl (by decide) rfl rfl dX5_fillLinear_42 rfl ?_
          refine go_goto (q := 15) dX5_fillLinear_45 (by decide) ?_
          exact ih15 _ (by omega) (y + 1) _ _ (by omega) (by omega) (by rw [mup_ne (by omega)]; exact h02) (by
            intro i j hi hj hz
            by_cases q : i = x ∧ j = y
            · rw [q.1, q.2, mup_eq]; rw [ex, ey]
              have h1 := Int.emod_nonneg (p * (x : Int) + (1 - p) * (y : Int)) (b := (s : Int)) (by omega)
              unfold linF; omega
            · rw [mup_ne (by omega)]; exact hd2 i j hi hj (fun z => by have := hz z; omega)) (fun c k h1 h2 => by rw [mup_ne (Or.inl h2)]; exact hf2 c k h1 h2) rfl
      exact lp15 _ 0 0 _ rfl (by omega) h0 (fun i j hi hj hz => hd i j (by omega) hj) hf rfl
  exact lp7 _ 0 0 _ _ rfl (by omega) (by rw [mup_eq, es]) (fun i j h => absurd h (Nat.not_lt_zero i)) (fun c k h1 h2 => mup_ne (Or.inl h1)) rfl
theorem ev_pairNumber {a b p : Nat} {ai bi pi : Int} (ea : ai = a) (eb : bi = b) (ep : pi = p) (hab : a < b) (hbp : b < p) (hp : p ≤ 4) :
    eX5_pairNumber l D ck ad sh [vI ai, vI bi, vI pi] w (Pi fun v w1 => v = (pnum p a b : Int) ∧ w = w1) := by
  refine ev_of_goK (own := RX5) (ls := [some (vI ai), some (vI bi), some (vI pi)]) (by decide +kernel) rfl rfl (Nat.le_of_ble_eq_true rfl) rkI ?_
  intro K hK
  have ha : a = 0 ∨ a = 1 ∨ a = 2 := by omega
  have hm : ai * (2 * pi - ai - 1) = ((a * (2 * p - a - 1) : Nat) : Int) ∧ a * (2 * p - a - 1) ≤ 28 := by
    rcases ha with rfl | rfl | rfl <;> (subst ea ep; constructor <;> omega)
  have e2 : ai * (2 * pi - ai - 1) = ai * (2 * pi - ai - 1) := rfl
  refine go_iload_n (j := 0) (q := 1) rfl rfl dX5_pairNumber_0 rfl ?_
  refine go_iconst (q := 2) dX5_pairNumber_1 rfl ?_
  refine go_iload_n (j := 2) (q := 3) rfl rfl dX5_pairNumber_2 rfl ?_
  refine go_imul (q := 4) dX5_pairNumber_3 rfl ?_
  refine go_iload_n (j := 0) (q := 5) rfl rfl dX5_pairNumber_4 rfl ?_
  refine go_isub (q := 6) dX5_pairNumber_5 rfl ?_
  refine go_iconst (q := 7) dX5_pairNumber_6 rfl ?_
  refine go_isub (q := 8) dX5_pairNumber_7 rfl ?_
  refine go_imul (q := 9) dX5_pairNumber_8 rfl ?_
  refine go_iconst (q := 10) dX5_pairNumber_9 rfl ?_
  refine go_idiv2 (q := 11) (by rw [hm.1]; omega) (by omega) dX5_pairNumber_10 rfl ?_
  refine go_iload_n (j := 1) (q := 12) rfl rfl dX5_pairNumber_11 rfl ?_
  refine go_iadd (q := 13) dX5_pairNumber_12 rfl ?_
  refine go_iload_n (j := 0) (q := 14) rfl rfl dX5_pairNumber_13 rfl ?_
  refine go_isub (q := 15) dX5_pairNumber_14 rfl ?_
  refine go_iconst (q := 16) dX5_pairNumber_15 rfl ?_
  refine go_isub (q := 17) dX5_pairNumber_16 rfl ?_
  refine go_iret dX5_pairNumber_17 ?_
  subst hK
  refine ⟨_, rfl, ?_, rfl⟩
  rw [hm.1, tdv2]
  unfold pnum
  omega
theorem ev_swapped {x a b : Nat} {xi ai bi : Int} (ex : xi = x) (ea : ai = a) (eb : bi = b) (hx : x < 5 ∧ a < 5 ∧ b < 5) :
    eX5_swapped l D ck ad sh [vI xi, vI ai, vI bi] w (Pi fun v w1 => v = (swp x a b : Int) ∧ w = w1) := by
  refine ev_of_goK (own := RX5) (ls := [some (vI xi), some (vI ai), some (vI bi)]) (by decide +kernel) rfl rfl (Nat.le_of_ble_eq_true rfl) rkI ?_
  intro K hK
  refine go_iload_n (j := 0) (q := 1) rfl rfl dX5_swapped_0 rfl ?_
  refine go_iload_n (j := 1) (q := 2) rfl rfl dX5_swapped_1 rfl ?_
  refine go_icmp_ne2 (q := 5) (t := 7) dX5_swapped_2 (by decide) rfl (by omega) (fun c2 => ?_) (fun c2 => ?_)
  · refine go_iload_n (j := 0) (q := 8) rfl rfl dX5_swapped_7 rfl ?_
    refine go_iload_n (j := 2) (q := 9) rfl rfl dX5_swapped_8 rfl ?_
    refine go_icmp_ne2 (q := 12) (t := 16) dX5_swapped_9 (by decide) rfl (by omega) (fun c9 => ?_) (fun c9 => ?_)
    · refine go_iload_n (j := 0) (q := 17) rfl rfl dX5_swapped_16 rfl ?_
      refine go_iret dX5_swapped_17 ?_
      subst hK
      refine ⟨_, rfl, ?_, rfl⟩
      unfold swp
      repeat' split
      all_goals omega
    · refine go_iload_n (j := 1) (q := 13) rfl rfl dX5_swapped_12 rfl ?_
      refine go_goto (q := 17) dX5_swapped_13 (by decide) ?_
      refine go_iret dX5_swapped_17 ?_
      subst hK
      refine ⟨_, rfl, ?_, rfl⟩
      unfold swp
      repeat' split
      all_goals omega
  · refine go_iload_n (j := 2) (q := 6) rfl rfl dX5_swapped_5 rfl ?_
    refine go_iret dX5_swapped_6 ?_
    subst hK
    refine ⟨_, rfl, ?_, rfl⟩
    unfold swp
    repeat' split
    all_goals omega
theorem ev_fillTranslation (ht1 : sh[t]? = some (oTab t)) (ht2 : sh[t + 1]? = some (rInt 36)) {a b p : Nat} {ai bi pi : Int} (ea : ai = a) (eb : bi = b) (ep : pi = p) (hab : a < b) (hbp : b < p) (hp : 2 ≤ p ∧ p ≤ 4) :
    eX5_fillTranslation l D ck ad sh [vR t, vI ai, vI bi, vI pi] w (Pv fun w1 => (∀ x, x < p * (p - 1) / 2 → w1 (t + 1) (6 * x + pnum p a b) = (trF p x (pnum p a b) : Int)) ∧ ∀ c k, (c = t + 1 → ∀ x, x < 6 → k ≠ 6 * x + pnum p a b) → w1 c k = w c k) := by
  refine ev_of_goK (own := RX5) (ls := [some (vR t), some (vI ai), some (vI bi), some (vI pi), none, none, none, none, none]) (by decide +kernel) rfl rfl (Nat.le_of_ble_eq_true rfl) rkV ?_
  intro K hK
  have hab0 := pn_b ⟨p, by omega⟩ ⟨a, by omega⟩ ⟨b, by omega⟩ hp.1 hab hbp
  have hp0 := pn_0 ⟨p, by omega⟩ hp.1
  simp only at hab0 hp0
  generalize hy : pnum p a b = y at *
  refine go_iload_n (j := 1) (q := 1) rfl rfl dX5_fillTranslation_0 rfl ?_
  refine go_iload_n (j := 2) (q := 2) rfl rfl dX5_fillTranslation_1 rfl ?_
  refine go_iload_n (j := 3) (q := 3) rfl rfl dX5_fillTranslation_2 rfl ?_
  refine go_callSi (as := [_, _, _]) (rest := []) (n := 3) (q := 6) dX5_fillTranslation_3 lk_X5_38 rfl (by decide +kernel) rfl ⟨by decide, by decide⟩ ⟨rfl, rfl⟩ (Nat.le_of_ble_eq_true rfl) (ev_pairNumber ea eb ep hab hbp hp.2) rfl (fun x3 w3 h3 => ?_)
  obtain ⟨rfl, rfl⟩ := h3
  refine go_istore (j := 4) (q := 8) (ls2 := [_, _, _, _, _, _, _, _, _]) (by decide) rfl rfl dX5_fillTranslation_6 rfl ?_
  refine go_iconst (q := 9) dX5_fillTranslation_8 rfl ?_
  refine go_istore (j := 5) (q := 11) (ls2 := [_, _, _, _, _, _, _, _, _]) (by decide) rfl rfl dX5_fillTranslation_9 rfl ?_
  have lp11 : ∀ (m11 : Nat) (c : Nat) (ci : Int) (u1 u2 u3 : Option MV) (w1 : Mem) (ec : ci = c) (hc : c ≤ p) (hd : ∀ x, x < pnum p c (c + 1) → w1 (t + 1) (6 * x + y) = (trF p x y : Int)) (hf : ∀ c k, (c = t + 1 → ∀ x, x < 6 → k ≠ 6 * x + y) → w1 c k = w c k), m11 = p - c → gX5_fillTranslation l D ck ad sh 11 [some (vR t), some (vI ai), some (vI bi), some (vI pi), (some (vI (y : Nat))), some (vI ci), u1, u2, u3] [] w1 K := by
    intro m11
    induction m11 using Nat.strongRecOn with
    | _ m11 ih11 =>
    intro c ci u1 u2 u3 w1 ec hc hd hf em11
    refine go_iload (j := 5) (q := 13) rfl dX5_fillTranslation_11 rfl ?_
    refine go_iload_n (j := 3) (q := 14) rfl rfl dX5_fillTranslation_13 rfl ?_
    refine go_icmp_ge2 (q := 17) (t := 91) dX5_fillTranslation_14 (by decide) rfl (by omega) (fun c14 => ?_) (fun c14 => ?_)
    · refine go_vret dX5_fillTranslation_91 ?_
      subst hK
      refine ⟨rfl, fun x hx => hd x ?_, hf⟩
      rw [show c = p by omega, hp0.2.1]; exact hx
    · refine go_iload (j := 5) (q := 19) rfl dX5_fillTranslation_17 rfl ?_
      refine go_iconst (q := 20) dX5_fillTranslation_19 rfl ?_
      refine go_iadd (q := 21) dX5_fillTranslation_20 rfl ?_
      refine go_istore (j := 6) (q := 23) (ls2 := [_, _, _, _, _, _, _, _, _]) (by decide) rfl rfl dX5_fillTranslation_21 rfl ?_
      have lp23 : ∀ (m23 : Nat) (e : Nat) (ei : Int) (v1 v2 : Option MV) (w2 : Mem) (ee : ei = e) (he : c < e ∧ e ≤ p) (hd2 : ∀ x, x < pnum p c e → w2 (t + 1) (6 * x + y) = (trF p x y : Int)) (hf2 : ∀ c k, (c = t + 1 → ∀ x, x < 6 → k ≠ 6 * x + y) → w2 c k = w c k), m23 = p - e → gX5_fillTranslation l D ck ad sh 23 [some (vR t), some (vI ai), some (vI bi), some (vI pi), (some (vI (y : Nat))), some (vI ci), some (vI ei), v1, v2] [] w2 K := by
        intro m23
        induction m23 using Nat.strongRecOn with
        | _ m23 ih23 =>
        intro e ei v1 v2 w2 ee he hd2 hf2 em23
        refine go_iload (j := 6) (q := 25) rfl dX5_fillTranslation_23 rfl ?_
        refine go_iload_n (j := 3) (q := 26) rfl rfl dX5_fillTranslation_25 rfl ?_
        refine go_icmp_ge2 (q := 29) (t := 85) dX5_fillTranslation_26 (by decide) rfl (by omega) (fun c26 => ?_) (fun c26 => ?_)
        · refine go_iinc (j := 5) (q := 88) (ls2 := [_, _, _, _, _, _, _, _, _]) rfl (by decide) rfl rfl dX5_fillTranslation_85 rfl ?_
          refine go_goto (q := 11) dX5_fillTranslation_88 (by decide) ?_
          exact ih11 _ (by omega) (c + 1) _ _ _ _ _ (by omega) (by omega) (by
            have := pn_e ⟨p, by omega⟩ ⟨c, by omega⟩ hp.1 (by simp only; omega)
            simp only at this
            rw [← this, show p = e by omega]; rw [show e = p by omega] at hd2 ⊢; exact hd2) hf2 rfl
        · refine go_iload (j := 5) (q := 31) rfl dX5_fillTranslation_29 rfl ?_
          refine go_iload_n (j := 1) (q := 32) rfl rfl dX5_fillTranslation_31 rfl ?_
          refine go_iload_n (j := 2) (q := 33) rfl rfl dX5_fillTranslation_32 rfl ?_
          refine go_callSi (as := [_, _, _]) (rest := []) (n := 3) (q := 36) dX5_fillTranslation_33 lk_X5_42 rfl (by decide +kernel) rfl ⟨by decide, by decide⟩ ⟨rfl, rfl⟩ (Nat.le_of_ble_eq_true rfl) (ev_swapped ec ea eb (by omega)) rfl (fun x33 w33 h33 => ?_)
          obtain ⟨rfl, rfl⟩ := h33
          refine go_istore (j := 7) (q := 38) (ls2 := [_, _, _, _, _, _, _, _, _]) (by decide) rfl rfl dX5_fillTranslation_36 rfl ?_
          refine go_iload (j := 6) (q := 40) rfl dX5_fillTranslation_38 rfl ?_
          refine go_iload_n (j := 1) (q := 41) rfl rfl dX5_fillTranslation_40 rfl ?_
          refine go_iload_n (j := 2) (q := 42) rfl rfl dX5_fillTranslation_41 rfl ?_
          refine go_callSi (as := [_, _, _]) (rest := []) (n := 3) (q := 45) dX5_fillTranslation_42 lk_X5_42 rfl (by decide +kernel) rfl ⟨by decide, by decide⟩ ⟨rfl, rfl⟩ (Nat.le_of_ble_eq_true rfl) (ev_swapped ee ea eb (by omega)) rfl (fun x42 w42 h42 => ?_)
          obtain ⟨rfl, rfl⟩ := h42
          refine go_istore (j := 8) (q := 47) (ls2 := [_, _, _, _, _, _, _, _, _]) (by decide) rfl rfl dX5_fillTranslation_45 rfl ?_
          have hce := pn_b ⟨p, by omega⟩ ⟨c, by omega⟩ ⟨e, by omega⟩ hp.1 (by simp only; omega) (by simp only; omega)
          simp only at hce
          have hsw := tr_b ⟨p, by omega⟩ ⟨c, by omega⟩ ⟨e, by omega⟩ ⟨a, by omega⟩ ⟨b, by omega⟩ hp.1 (by simp only; omega) (by simp only; omega) hab hbp
          simp only at hsw
          refine go_aload_n (j := 0) (q := 48) rfl rfl dX5_fillTranslation_47 rfl ?_
          refine go_iload (j := 5) (q := 50) rfl dX5_fillTranslation_48 rfl ?_
          refine go_iload (j := 6) (q := 52) rfl dX5_fillTranslation_50 rfl ?_
          refine go_iload_n (j := 3) (q := 53) rfl rfl dX5_fillTranslation_52 rfl ?_
          refine go_callSi (as := [_, _, _]) (rest := [_]) (n := 3) (q := 56) dX5_fillTranslation_53 lk_X5_38 rfl (by decide +kernel) rfl ⟨by decide, by decide⟩ ⟨rfl, rfl⟩ (Nat.le_of_ble_eq_true rfl) (ev_pairNumber ec ee ep (by omega) (by omega) hp.2) rfl (fun x53 w53 h53 => ?_)
          obtain ⟨rfl, rfl⟩ := h53
          refine go_iload (j := 4) (q := 58) rfl dX5_fillTranslation_56 rfl ?_
          refine go_iload (j := 7) (q := 60) rfl dX5_fillTranslation_58 rfl ?_
          refine go_iload (j := 8) (q := 62) rfl dX5_fillTranslation_60 rfl ?_
          refine go_callSi (as := [_, _]) (rest := [_, _, _]) (n := 2) (q := 65) dX5_fillTranslation_62 lk_X5_45 rfl (by decide +kernel) rfl ⟨by decide, by decide⟩ ⟨rfl, rfl⟩ (Nat.le_of_ble_eq_true rfl) (ev_min (by omega)) rfl (fun x62 w62 h62 => ?_)
          obtain ⟨h62, rfl⟩ := h62
          refine go_iload (j := 7) (q := 67) rfl dX5_fillTranslation_65 rfl ?_
          refine go_iload (j := 8) (q := 69) rfl dX5_fillTranslation_67 rfl ?_
          refine go_callSi (as := [_, _]) (rest := [_, _, _, _]) (n := 2) (q := 72) dX5_fillTranslation_69 lk_X5_48 rfl (by decide +kernel) rfl ⟨by decide, by decide⟩ ⟨rfl, rfl⟩ (Nat.le_of_ble_eq_true rfl) (ev_max (by omega)) rfl (fun x69 w69 h69 => ?_)
          obtain ⟨h69, rfl⟩ := h69
          refine go_iload_n (j := 3) (q := 73) rfl rfl dX5_fillTranslation_72 rfl ?_
          refine go_callSi (as := [_, _, _]) (rest := [_, _, _]) (n := 3) (q := 76) dX5_fillTranslation_73 lk_X5_38 rfl (by decide +kernel) rfl ⟨by decide, by decide⟩ ⟨rfl, rfl⟩ (Nat.le_of_ble_eq_true rfl) (ev_pairNumber (a := min (swp c a b) (swp e a b)) (b := max (swp c a b) (swp e a b)) (by omega) (by omega) ep (by omega) (by omega) hp.2) rfl (fun x73 w73 h73 => ?_)
          obtain ⟨rfl, rfl⟩ := h73
          refine go_callVv (as := [_, _, _, _]) (As := [_, _, _]) (rest := []) (n := 3) (q := 79) dX5_fillTranslation_76 lk_X5_31 (ci := 5) (N := 2) (T := TX5) rfl (by first | assumption | rfl) rfl rfl (by decide +kernel) rfl ⟨by decide, by decide⟩ ⟨rfl, rfl⟩ (Nat.le_of_ble_eq_true rfl) (ev_put ht1 ht2 (x := pnum p c e) (y := y) rfl rfl (by omega) (by omega)) rfl (fun w76 h76 => ?_)
          subst h76
          refine go_iinc (j := 6) (q := 82) (ls2 := [_, _, _, _, _, _, _, _, _]) rfl (by decide) rfl rfl dX5_fillTranslation_79 rfl ?_
          refine go_goto (q := 23) dX5_fillTranslation_82 (by decide) ?_
          exact ih23 _ (by omega) (e + 1) _ _ _ _ (by omega) (by omega) (by
            intro x hx
            rw [hce.2.2.2] at hx
            by_cases q : x = pnum p c e
            · rw [q, mup_eq]
              have : trF p (pnum p c e) y = pnum p (min (swp c a b) (swp e a b)) (max (swp c a b) (swp e a b)) := by
                unfold trF; rw [hce.1, hce.2.1, hab0.1, hab0.2.1]
              rw [this]
            · rw [mup_ne (by omega)]; exact hd2 x (by omega)) (by
            intro c' k' h
            rw [mup_ne ?_]
            · exact hf2 c' k' h
            · by_cases q : c' = t + 1
              · exact Or.inr (h q _ (by omega))
              · exact Or.inl q) rfl
      exact lp23 _ (c + 1) _ _ _ _ (by omega) (by omega) hd hf rfl
  rw [hy]; exact lp11 _ 0 0 _ _ _ _ rfl (by omega) (fun x h => by rw [show pnum p 0 (0 + 1) = 0 from hp0.1] at h; omega) (fun c k h => rfl) rfl
theorem ev_fillTranspositions (ht1 : sh[t]? = some (oTab t)) (ht2 : sh[t + 1]? = some (rInt 36)) {p : Nat} {pi : Int} (ep : pi = p) (hp : 2 ≤ p ∧ p ≤ 4) :
    eX5_fillTranspositions l D ck ad sh [vR t, vI pi] w (Pv fun w1 => TB w1 t (p * (p - 1) / 2) (trF p) ∧ ∀ c k, c ≠ t → c ≠ t + 1 → w1 c k = w c k) := by
  refine ev_of_goK (own := RX5) (ls := [some (vR t), some (vI pi), none, none]) (by decide +kernel) rfl rfl (Nat.le_of_ble_eq_true rfl) rkV ?_
  intro K hK
  have hp0 := pn_0 ⟨p, by omega⟩ hp.1
  simp only at hp0
  have hq : p = 2 ∨ p = 3 ∨ p = 4 := by omega
  have hm : pi * (pi - 1) = ((p * (p - 1) : Nat) : Int) ∧ p * (p - 1) ≤ 12 := by
    rcases hq with rfl | rfl | rfl <;> (subst ep; constructor <;> simp)
  have hlt : ∀ x y, x < p * (p - 1) / 2 → y < p * (p - 1) / 2 → trF p x y < p * (p - 1) / 2 := by
    have : ∀ p : Fin 5, ∀ x : Fin 6, ∀ y : Fin 6, 2 ≤ (p : Nat) → (x : Nat) < p * (p - 1) / 2 → (y : Nat) < p * (p - 1) / 2 → trF p x y < p * (p - 1) / 2 := by decide +kernel
    intro x y hx hy
    exact this ⟨p, by omega⟩ ⟨x, by omega⟩ ⟨y, by omega⟩ hp.1 hx hy
  refine go_aload_n (j := 0) (q := 1) rfl rfl dX5_fillTranspositions_0 rfl ?_
  refine go_iload_n (j := 1) (q := 2) rfl rfl dX5_fillTranspositions_1 rfl ?_
  refine go_iload_n (j := 1) (q := 3) rfl rfl dX5_fillTranspositions_2 rfl ?_
  refine go_iconst (q := 4) dX5_fillTranspositions_3 rfl ?_
  refine go_isub (q := 5) dX5_fillTranspositions_4 rfl ?_
  refine go_imul (q := 6) dX5_fillTranspositions_5 rfl ?_
  refine go_iconst (q := 7) dX5_fillTranspositions_6 rfl ?_
  refine go_idiv2 (q := 8) (by rw [hm.1]; omega) (by omega) dX5_fillTranspositions_7 rfl ?_
  refine go_putI (C0 := RX5) (T := TX5) (N := 2) (ci := 5) (i := 0) (q := 11) rfl igX5 (by first | assumption | rfl) (by decide) fl_X5_9 rfl tyX5 tyX5_ok nmX5 rfl rfl dX5_fillTranspositions_8 rfl ?_
  refine go_iconst (q := 12) dX5_fillTranspositions_11 rfl ?_
  refine go_istore_n (j := 2) (q := 13) (ls2 := [_, _, _, _]) rfl (by decide) rfl rfl dX5_fillTranspositions_12 rfl ?_
  have lp13 : ∀ (m13 : Nat) (a : Nat) (ai : Int) (u1 : Option MV) (w1 : Mem) (ea : ai = a) (ha : a ≤ p) (h0 : w1 t 0 = (p * (p - 1) / 2 : Nat)) (hd : ∀ x y, x < p * (p - 1) / 2 → y < pnum p a (a + 1) → w1 (t + 1) (6 * x + y) = (trF p x y : Int)) (hf : ∀ c k, c ≠ t → c ≠ t + 1 → w1 c k = w c k), m13 = p - a → gX5_fillTranspositions l D ck ad sh 13 [some (vR t), some (vI pi), some (vI ai), u1] [] w1 K := by
    intro m13
    induction m13 using Nat.strongRecOn with
    | _ m13 ih13 =>
    intro a ai u1 w1 ea ha h0 hd hf em13
    refine go_iload_n (j := 2) (q := 14) rfl rfl dX5_fillTranspositions_13 rfl ?_
    refine go_iload_n (j := 1) (q := 15) rfl rfl dX5_fillTranspositions_14 rfl ?_
    refine go_icmp_ge2 (q := 18) (t := 46) dX5_fillTranspositions_15 (by decide) rfl (by omega) (fun c15 => ?_) (fun c15 => ?_)
    · refine go_vret dX5_fillTranspositions_46 ?_
      subst hK
      refine ⟨rfl, ⟨h0, ⟨hp0.2.2.1, hp0.2.2.2⟩, fun x y hx hy => ⟨hd x y hx ?_, hlt x y hx hy⟩⟩, hf⟩
      rw [show a = p by omega, hp0.2.1]; exact hy
    · refine go_iload_n (j := 2) (q := 19) rfl rfl dX5_fillTranspositions_18 rfl ?_
      refine go_iconst (q := 20) dX5_fillTranspositions_19 rfl ?_
      refine go_iadd (q := 21) dX5_fillTranspositions_20 rfl ?_
      refine go_istore_n (j := 3) (q := 22) (ls2 := [_, _, _, _]) rfl (by decide) rfl rfl dX5_fillTranspositions_21 rfl ?_
      have lp22 : ∀ (m22 : Nat) (b : Nat) (bi : Int) (w2 : Mem) (eb : bi = b) (hb : a < b ∧ b ≤ p) (h02 : w2 t 0 = (p * (p - 1) / 2 : Nat)) (hd2 : ∀ x y, x < p * (p - 1) / 2 → y < pnum p a b → w2 (t + 1) (6 * x + y) = (trF p x y : Int)) (hf2 : ∀ c k, c ≠ t → c ≠ t + 1 → w2 c k = w c k), m22 = p - b → gX5_fillTranspositions l D ck ad sh 22 [some (vR t), some (vI pi), some (vI ai), some (vI bi)] [] w2 K := by
        intro m22
        induction m22 using Nat.strongRecOn with
        | _ m22 ih22 =>
        intro b bi w2 eb hb h02 hd2 hf2 em22
        refine go_iload_n (j := 3) (q := 23) rfl rfl dX5_fillTranspositions_22 rfl ?_
        refine go_iload_n (j := 1) (q := 24) rfl rfl dX5_fillTranspositions_23 rfl ?_
        refine go_icmp_ge2 (q := 27) (t := 40) dX5_fillTranspositions_24 (by decide) rfl (by omega) (fun c24 => ?_) (fun c24 => ?_)
        · refine go_iinc (j := 2) (q := 43) (ls2 := [_, _, _, _]) rfl (by decide) rfl rfl dX5_fillTranspositions_40 rfl ?_
          refine go_goto (q := 13) dX5_fillTranspositions_43 (by decide) ?_
          exact ih13 _ (by omega) (a + 1) _ _ _ (by omega) (by omega) h02 (by
            have := pn_e ⟨p, by omega⟩ ⟨a, by omega⟩ hp.1 (by simp only; omega)
            simp only at this
            rw [← this]; rw [show b = p by omega] at hd2; exact hd2) hf2 rfl
        · refine go_aload_n (j := 0) (q := 28) rfl rfl dX5_fillTranspositions_27 rfl ?_
          refine go_iload_n (j := 2) (q := 29) rfl rfl dX5_fillTranspositions_28 rfl ?_
          refine go_iload_n (j := 3) (q := 30) rfl rfl dX5_fillTranspositions_29 rfl ?_
          refine go_iload_n (j := 1) (q := 31) rfl rfl dX5_fillTranspositions_30 rfl ?_
          refine go_callVv (as := [_, _, _, _]) (As := [_, _, _]) (rest := []) (n := 3) (q := 34) dX5_fillTranspositions_31 lk_X5_35 (ci := 5) (N := 2) (T := TX5) rfl (by first | assumption | rfl) rfl rfl (by decide +kernel) rfl ⟨by decide, by decide⟩ ⟨rfl, rfl⟩ (Nat.le_of_ble_eq_true rfl) (ev_fillTranslation ht1 ht2 ea eb ep hb.1 (by omega) hp) rfl (fun w31 h31 => ?_)
          obtain ⟨h31, g31⟩ := h31
          have hce := pn_b ⟨p, by omega⟩ ⟨a, by omega⟩ ⟨b, by omega⟩ hp.1 (by simp only; omega) (by simp only; omega)
          simp only at hce
          refine go_iinc (j := 3) (q := 37) (ls2 := [_, _, _, _]) rfl (by decide) rfl rfl dX5_fillTranspositions_34 rfl ?_
          refine go_goto (q := 22) dX5_fillTranspositions_37 (by decide) ?_
          exact ih22 _ (by omega) (b + 1) _ _ (by omega) (by omega) (by rw [g31 t 0 (fun z => by omega)]; exact h02) (by
            intro x y hx hy
            rw [hce.2.2.2] at hy
            by_cases q : y = pnum p a b
            · rw [q]; exact h31 x hx
            · rw [g31 _ _ (fun _ x' hx' => by omega)]; exact hd2 x y hx (by omega)) (fun c k h1 h2 => by rw [g31 c k (fun z => absurd z h2)]; exact hf2 c k h1 h2) rfl
      exact lp22 _ (a + 1) _ _ (by omega) (by omega) h0 hd hf rfl
  exact lp13 _ 0 0 _ _ rfl (by omega) (by rw [mup_eq, hm.1, tdv2]) (fun x y h1 h2 => by rw [show pnum p 0 (0 + 1) = 0 from hp0.1] at h2; omega) (fun c k h1 h2 => mup_ne (Or.inl h1)) rfl
/-- the lowest z below n with P, as a number -/
noncomputable def lowN (n : Nat) (P : Nat → Prop) : Nat := by
  classical exact if h : ∃ z, z < n ∧ P z ∧ ∀ i, i < z → ¬ P i then Classical.choose h else 0
theorem lowN_eq {n z : Nat} {P : Nat → Prop} (hz : z < n) (hP : P z) (hl : ∀ i, i < z → ¬ P i) : lowN n P = z := by
  have h : ∃ z, z < n ∧ P z ∧ ∀ i, i < z → ¬ P i := ⟨z, hz, hP, hl⟩
  unfold lowN
  rw [dif_pos h]
  have hc := Classical.choose_spec h
  rcases Nat.lt_trichotomy (Classical.choose h) z with q | q | q
  · exact absurd hc.2.1 (hl _ q)
  · exact q
  · exact absurd hP (hc.2.2 _ q)
noncomputable def invF (n : Nat) (f : Nat → Nat → Nat) (x y : Nat) : Nat := lowN n (fun z => f z y = x)
/-- numbers of places (x, y) with x below a, or x = a and y below b, with P -/
def c2N (p : Nat → Nat → Bool) (n : Nat) : Nat → Nat
  | 0 => 0
  | a + 1 => c2N p n a + cN (p a) n
theorem prm_hit {n : Nat} {f : Nat → Nat → Nat} {y x : Nat} (h : prm n f y) (hx : x < n) : ∃ z, z < n ∧ f z y = x := by
  have h1 : (msk (fun x => f x y) n).testBit x = true := by
    unfold prm at h; rw [h, Nat.testBit_two_pow_sub_one]; simpa using hx
  have h2 : ∀ k, (msk (fun x => f x y) k).testBit x = true → ∃ z, z < k ∧ f z y = x := by
    intro k
    induction k with
    | zero => intro q; simp [msk, fN] at q
    | succ k ih =>
      intro q
      have e : msk (fun x => f x y) (k + 1) = msk (fun x => f x y) k ||| 2 ^ (f k y) := rfl
      rw [e, Nat.testBit_or, Bool.or_eq_true, Nat.testBit_two_pow] at q
      rcases q with q | q
      · obtain ⟨z, h3, h4⟩ := ih q; exact ⟨z, by omega, h4⟩
      · exact ⟨k, by omega, by simpa using q⟩
  exact h2 n h1
theorem low_ex {n : Nat} {P : Nat → Prop} (h : ∃ z, z < n ∧ P z) : ∃ z, z < n ∧ P z ∧ ∀ i, i < z → ¬ P i := by
  obtain ⟨z, h1, h2⟩ := h
  induction z using Nat.strongRecOn with
  | _ z ih =>
    by_cases q : ∃ i, i < z ∧ P i
    · obtain ⟨i, h3, h4⟩ := q
      exact ih i h3 (by omega) h4
    · exact ⟨z, h1, h2, fun i hi hp => q ⟨i, hi, hp⟩⟩
theorem invF_lt {n : Nat} {f : Nat → Nat → Nat} {x y : Nat} (h : prm n f y) (hx : x < n) : invF n f x y < n := by
  obtain ⟨z, h1, h2, h3⟩ := low_ex (prm_hit h hx)
  unfold invF; rw [lowN_eq h1 h2 h3]; exact h1
theorem isLow_inv {n : Nat} {f : Nat → Nat → Nat} {x y : Nat} {v : Int} (h : prm n f y) (hx : x < n) (hv : isLowP n (fun z => f z y = x) v) : v = (invF n f x y : Int) := by
  rcases hv with ⟨z, h1, h2, h3, h4⟩ | ⟨h1, h2⟩
  · unfold invF; rw [lowN_eq h1 h3 h4]; exact h2
  · obtain ⟨z, h3, h4⟩ := prm_hit h hx
    exact absurd h4 (h2 z h3)
theorem ev_fillInverse {u : Nat} (ht1 : sh[t]? = some (oTab t)) (ht2 : sh[t + 1]? = some (rInt 36)) (hu1 : sh[u]? = some (oTab u)) (hu2 : sh[u + 1]? = some (rInt 36)) (hne : u ≠ t ∧ u ≠ t + 1 ∧ u + 1 ≠ t) (hT : TB w u n f) (h0 : w t 0 = n) (hpr : ∀ y, y < n → prm n f y) :
    eX5_fillInverse l D ck ad sh [vR t, vR u] w (Pi fun v w1 => v = (c2N (fun x y => decide (invF n f x y ≠ f x y)) n n : Int) ∧ TB w1 t n (invF n f) ∧ ∀ c k, c ≠ t → c ≠ t + 1 → w1 c k = w c k) := by
  have hn := hT.2.1
  refine ev_of_goK (own := RX5) (ls := [some (vR t), some (vR u), none, none, none, none]) (by decide +kernel) rfl rfl (Nat.le_of_ble_eq_true rfl) rkI ?_
  intro K hK
  refine go_iconst (q := 1) dX5_fillInverse_0 rfl ?_
  refine go_istore_n (j := 2) (q := 2) (ls2 := [_, _, _, _, _, _]) rfl (by decide) rfl rfl dX5_fillInverse_1 rfl ?_
  refine go_iconst (q := 3) dX5_fillInverse_2 rfl ?_
  refine go_istore_n (j := 3) (q := 4) (ls2 := [_, _, _, _, _, _]) rfl (by decide) rfl rfl dX5_fillInverse_3 rfl ?_
  have lp4 : ∀ (m4 : Nat) (x : Nat) (xi ci : Int) (u1 u2 : Option MV) (w1 : Mem) (ex : xi = x) (hx : x ≤ n) (ec : ci = c2N (fun x y => decide (invF n f x y ≠ f x y)) n x) (h01 : w1 t 0 = n) (hd : ∀ i j, i < x → j < n → w1 (t + 1) (6 * i + j) = (invF n f i j : Int)) (hf : ∀ c k, c ≠ t → c ≠ t + 1 → w1 c k = w c k), m4 = n - x → gX5_fillInverse l D ck ad sh 4 [some (vR t), some (vR u), some (vI ci), some (vI xi), u1, u2] [] w1 K := by
    intro m4
    induction m4 using Nat.strongRecOn with
    | _ m4 ih4 =>
    intro x xi ci u1 u2 w1 ex hx ec h01 hd hf em4
    refine go_iload_n (j := 3) (q := 5) rfl rfl dX5_fillInverse_4 rfl ?_
    refine go_aload_n (j := 0) (q := 6) rfl rfl dX5_fillInverse_5 rfl ?_
    refine go_getI (C0 := RX5) (T := TX5) (N := 2) (ci := 5) (i := 0) (q := 9) rfl igX5 (by first | assumption | rfl) (by decide) fl_X5_9 rfl dX5_fillInverse_6 rfl ?_
    refine go_icmp_ge2 (q := 12) (t := 69) dX5_fillInverse_9 (by decide) rfl (by omega) (fun c9 => ?_) (fun c9 => ?_)
    · refine go_iload_n (j := 2) (q := 70) rfl rfl dX5_fillInverse_69 rfl ?_
      refine go_iret dX5_fillInverse_70 ?_
      subst hK
      refine ⟨_, rfl, by rw [ec, show x = n by omega], ⟨h01, hn, fun i j hi hj => ⟨hd i j (by omega) hj, invF_lt (hpr j hj) hi⟩⟩, hf⟩
    · refine go_iconst (q := 13) dX5_fillInverse_12 rfl ?_
      refine go_istore (j := 4) (q := 15) (ls2 := [_, _, _, _, _, _]) (by decide) rfl rfl dX5_fillInverse_13 rfl ?_
      have lp15 : ∀ (m15 : Nat) (y : Nat) (yi ci2 : Int) (u3 : Option MV) (w2 : Mem) (ey : yi = y) (hy : y ≤ n) (ec2 : ci2 = (c2N (fun x y => decide (invF n f x y ≠ f x y)) n x + cN (fun y => decide (invF n f x y ≠ f x y)) y : Nat)) (h02 : w2 t 0 = n) (hd2 : ∀ i j, i ≤ x → j < n → (i = x → j < y) → w2 (t + 1) (6 * i + j) = (invF n f i j : Int)) (hf2 : ∀ c k, c ≠ t → c ≠ t + 1 → w2 c k = w c k), m15 = n - y → gX5_fillInverse l D ck ad sh 15 [some (vR t), some (vR u), some (vI ci2), some (vI xi), some (vI yi), u3] [] w2 K := by
        intro m15
        induction m15 using Nat.strongRecOn with
        | _ m15 ih15 =>
        intro y yi ci2 u3 w2 ey hy ec2 h02 hd2 hf2 em15
        refine go_iload (j := 4) (q := 17) rfl dX5_fillInverse_15 rfl ?_
        refine go_aload_n (j := 0) (q := 18) rfl rfl dX5_fillInverse_17 rfl ?_
        refine go_getI (C0 := RX5) (T := TX5) (N := 2) (ci := 5) (i := 0) (q := 21) rfl igX5 (by first | assumption | rfl) (by decide) fl_X5_9 rfl dX5_fillInverse_18 rfl ?_
        refine go_icmp_ge2 (q := 24) (t := 63) dX5_fillInverse_21 (by decide) rfl (by omega) (fun c21 => ?_) (fun c21 => ?_)
        · refine go_iinc (j := 3) (q := 66) (ls2 := [_, _, _, _, _, _]) rfl (by decide) rfl rfl dX5_fillInverse_63 rfl ?_
          refine go_goto (q := 4) dX5_fillInverse_66 (by decide) ?_
          exact ih4 _ (by omega) (x + 1) _ _ _ _ _ (by omega) (by omega) (by rw [ec2, show y = n by omega]; rfl) h02 (fun i j hi hj => hd2 i j (by omega) hj (by omega)) hf2 rfl
        · have hT2 : TB w2 u n f := ⟨by rw [hf2 u 0 hne.1 hne.2.1]; exact hT.1, hn, fun i j hi hj => by rw [hf2 (u + 1) _ hne.2.2 (by omega)]; exact hT.2.2 i j hi hj⟩
          refine go_aload_n (j := 1) (q := 25) rfl rfl dX5_fillInverse_24 rfl ?_
          refine go_iload_n (j := 3) (q := 26) rfl rfl dX5_fillInverse_25 rfl ?_
          refine go_iload (j := 4) (q := 28) rfl dX5_fillInverse_26 rfl ?_
          refine go_callVi (as := [_, _, _]) (As := [_, _]) (rest := []) (n := 2) (q := 31) dX5_fillInverse_28 lk_X5_51 (ci := 5) (N := 2) (T := TX5) rfl (by first | assumption | rfl) rfl rfl (by decide +kernel) rfl ⟨by decide, by decide⟩ ⟨rfl, rfl⟩ (Nat.le_of_ble_eq_true rfl) (ev_lowestFactor hu1 hu2 hT2 (x := x) (y := y) ex ey (by omega) (by omega)) rfl (fun x28 w28 h28 => ?_)
          obtain ⟨h28, rfl⟩ := h28
          have e28 := isLow_inv (hpr y (by omega)) (by omega) h28
          have l28 := invF_lt (f := f) (hpr y (by omega)) (show x < n by omega)
          have hT3 : TB (mup w2 (t + 1) (6 * x + y) x28) u n f := ⟨by rw [mup_ne (by omega)]; exact hT2.1, hn, fun i j hi hj => by rw [mup_ne (by omega)]; exact hT2.2.2 i j hi hj⟩
          have b3 := (hT.2.2 x y (by omega) (by omega)).2
          refine go_istore (j := 5) (q := 33) (ls2 := [_, _, _, _, _, _]) (by decide) rfl rfl dX5_fillInverse_31 rfl ?_
          refine go_aload_n (j := 0) (q := 34) rfl rfl dX5_fillInverse_33 rfl ?_
          refine go_iload_n (j := 3) (q := 35) rfl rfl dX5_fillInverse_34 rfl ?_
          refine go_iload (j := 4) (q := 37) rfl dX5_fillInverse_35 rfl ?_
          refine go_iload (j := 5) (q := 39) rfl dX5_fillInverse_37 rfl ?_
          refine go_callVv (as := [_, _, _, _]) (As := [_, _, _]) (rest := []) (n := 3) (q := 42) dX5_fillInverse_39 lk_X5_31 (ci := 5) (N := 2) (T := TX5) rfl (by first | assumption | rfl) rfl rfl (by decide +kernel) rfl ⟨by decide, by decide⟩ ⟨rfl, rfl⟩ (Nat.le_of_ble_eq_true rfl) (ev_put ht1 ht2 (x := x) (y := y) ex ey (by omega) (by omega)) rfl (fun w39 h39 => ?_)
          subst h39
          refine go_iload (j := 5) (q := 44) rfl dX5_fillInverse_42 rfl ?_
          refine go_aload_n (j := 1) (q := 45) rfl rfl dX5_fillInverse_44 rfl ?_
          refine go_iload_n (j := 3) (q := 46) rfl rfl dX5_fillInverse_45 rfl ?_
          refine go_iload (j := 4) (q := 48) rfl dX5_fillInverse_46 rfl ?_
          refine go_callVi (as := [_, _, _]) (As := [_, _]) (rest := [_]) (n := 2) (q := 51) dX5_fillInverse_48 lk_X5_54 (ci := 5) (N := 2) (T := TX5) rfl (by first | assumption | rfl) rfl rfl (by decide +kernel) rfl ⟨by decide, by decide⟩ ⟨rfl, rfl⟩ (Nat.le_of_ble_eq_true rfl) (ev_times hu1 hu2 hT3 (x := x) (y := y) ex ey (by omega) (by omega)) rfl (fun x48 w48 h48 => ?_)
          obtain ⟨rfl, rfl⟩ := h48
          refine go_icmp_eq2 (q := 54) (t := 57) dX5_fillInverse_51 (by decide) rfl (by omega) (fun c51 => ?_) (fun c51 => ?_)
          · refine go_iinc (j := 4) (q := 60) (ls2 := [_, _, _, _, _, _]) rfl (by decide) rfl rfl dX5_fillInverse_57 rfl ?_
            refine go_goto (q := 15) dX5_fillInverse_60 (by decide) ?_
            exact ih15 _ (by omega) (y + 1) _ _ _ _ (by omega) (by omega) (by
              simp only [cN]
              by_cases q : invF n f x y = f x y
              · rw [if_neg (by simp [q])]; omega
              · rw [if_pos (by simp [q])]; omega) (by rw [mup_ne (by omega)]; exact h02) (by
              intro i j hi hj hz
              by_cases q : i = x ∧ j = y
              · rw [q.1, q.2, mup_eq]; exact e28
              · rw [mup_ne (by omega)]; exact hd2 i j hi hj (fun z => by have := hz z; omega)) (fun c k h1 h2 => by rw [mup_ne (Or.inl h2)]; exact hf2 c k h1 h2) rfl
          · refine go_iinc (j := 2) (q := 57) (ls2 := [_, _, _, _, _, _]) rfl (by decide) rfl rfl dX5_fillInverse_54 rfl ?_
            refine go_iinc (j := 4) (q := 60) (ls2 := [_, _, _, _, _, _]) rfl (by decide) rfl rfl dX5_fillInverse_57 rfl ?_
            refine go_goto (q := 15) dX5_fillInverse_60 (by decide) ?_
            exact ih15 _ (by omega) (y + 1) _ _ _ _ (by omega) (by omega) (by
              simp only [cN]
              by_cases q : invF n f x y = f x y
              · rw [if_neg (by simp [q])]; omega
              · rw [if_pos (by simp [q])]; omega) (by rw [mup_ne (by omega)]; exact h02) (by
              intro i j hi hj hz
              by_cases q : i = x ∧ j = y
              · rw [q.1, q.2, mup_eq]; exact e28
              · rw [mup_ne (by omega)]; exact hd2 i j hi hj (fun z => by have := hz z; omega)) (fun c k h1 h2 => by rw [mup_ne (Or.inl h2)]; exact hf2 c k h1 h2) rfl
      exact lp15 _ 0 0 _ _ _ rfl (by omega) (by rw [ec]; simp [cN]) h01 (fun i j hi hj hz => hd i j (by omega) hj) hf rfl
  exact lp4 _ 0 0 0 _ _ _ rfl (by omega) rfl h0 (fun i j h => absurd h (Nat.not_lt_zero i)) (fun c k h1 h2 => rfl) rfl
end TAB4
