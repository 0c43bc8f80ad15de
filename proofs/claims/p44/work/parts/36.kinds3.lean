/-! pairs of points as masks -/
def PM (p k : Nat) : Nat := 2 ^ pA p k ||| 2 ^ pB p k
def VV (p i j : Nat) : Nat := if pc (PM p i &&& PM p j) = 1 then PM p i ^^^ PM p j else PM p i
def rsT (p i j k : Nat) : Nat := fN (fun k t => if PM p k = VV p i j then k else t) 0 k
theorem PM_b : ∀ p : Fin 5, ∀ k : Fin 6, PM p k < 16 := by decide +kernel
theorem VV_b : ∀ p : Fin 5, ∀ i : Fin 6, ∀ j : Fin 6, VV p i j < 16 := by decide +kernel
theorem rs_b : ∀ p : Fin 5, 2 ≤ (p : Nat) → ∀ i : Fin 6, ∀ j : Fin 6, (i : Nat) < (p : Nat) * ((p : Nat) - 1) / 2 → (j : Nat) < (p : Nat) * ((p : Nat) - 1) / 2 → rsT p i j ((p : Nat) * ((p : Nat) - 1) / 2) = trF p i j ∧ trF p i j < (p : Nat) * ((p : Nat) - 1) / 2 := by decide +kernel
theorem rsT_le {p i j : Nat} : ∀ k, rsT p i j k ≤ k
  | 0 => Nat.le_refl 0
  | k + 1 => by
    have := rsT_le (p := p) (i := i) (j := j) k
    show (if PM p k = VV p i j then k else rsT p i j k) ≤ k + 1
    split <;> omega
theorem xor_b : ∀ a : Fin 16, ∀ b : Fin 16, xorZ ((a : Nat) : Int) ((b : Nat) : Int) = (((a : Nat) ^^^ (b : Nat) : Nat) : Int) := by decide +kernel
theorem xor_eq {a b : Nat} (ha : a < 16) (hb : b < 16) : xorZ (a : Int) (b : Int) = ((a ^^^ b : Nat) : Int) := xor_b ⟨a, ha⟩ ⟨b, hb⟩
theorem ppm {p : Nat} (hp : 2 ≤ p ∧ p ≤ 4) : (((p : Nat) : Int) * (((p : Nat) : Int) - 1)).tdiv 2 = ((p * (p - 1) / 2 : Nat) : Int) ∧ 2 ≤ ((p : Nat) : Int) * (((p : Nat) : Int) - 1) ∧ ((p : Nat) : Int) * (((p : Nat) : Int) - 1) ≤ 12 ∧ 1 ≤ p * (p - 1) / 2 ∧ p * (p - 1) / 2 ≤ 6 := by
  rcases (show p = 2 ∨ p = 3 ∨ p = 4 by omega) with rfl | rfl | rfl <;> decide
/-! counts over all places -/
theorem cN_add {p : Nat → Bool} {a : Nat} : ∀ b, cN p (a + b) = cN p a + cN (fun i => p (a + i)) b
  | 0 => rfl
  | b + 1 => by
    show cN p (a + b) + (if p (a + b) then 1 else 0) = cN p a + (cN (fun i => p (a + i)) b + (if p (a + b) then 1 else 0))
    rw [cN_add b]; omega
theorem cN_sq {n : Nat} {q : Nat → Nat → Bool} {P : Nat → Bool} (hn : n ≤ 6) (h1 : ∀ x y, x < n → y < n → P (6 * x + y) = q x y) (h2 : ∀ x y, x < 6 → y < 6 → ¬ (x < n ∧ y < n) → P (6 * x + y) = false) : cN P 36 = c2N q n n := by
  have row : ∀ x, x < 6 → cN (fun i => P (6 * x + i)) 6 = if x < n then cN (q x) n else 0 := by
    intro x hx6
    by_cases hx : x < n
    · rw [if_pos hx]
      have e : cN (fun i => P (6 * x + i)) 6 = cN (fun i => P (6 * x + i)) n := cN_gap2 hn (fun r h3 h4 => h2 x r hx6 h4 (by omega))
      rw [e]
      exact cN_congr (fun i hi => h1 x i hx hi)
    · rw [if_neg hx]
      exact (cN_eq0 6).mpr (fun i hi => by rw [h2 x i hx6 hi (by omega)]; simp)
  have key : ∀ a, a ≤ 6 → cN P (6 * a) = if a ≤ n then c2N q n a else c2N q n n := by
    intro a
    induction a with
    | zero => intro _; rw [if_pos (Nat.zero_le n)]; rfl
    | succ a ih =>
      intro ha
      rw [show 6 * (a + 1) = 6 * a + 6 by omega, cN_add, ih (by omega), row a (by omega)]
      by_cases h3 : a < n
      · rw [if_pos (by omega), if_pos h3, if_pos (by omega)]; rfl
      · rw [if_neg h3]
        by_cases h4 : a = n
        · rw [if_pos (by omega), if_neg (by omega), h4]; rfl
        · rw [if_neg (by omega), if_neg (by omega)]; rfl
  have := key 6 (Nat.le_refl 6)
  rw [show 6 * 6 = 36 from rfl] at this
  rw [this]
  by_cases h : 6 ≤ n
  · rw [if_pos h, show n = 6 by omega]
  · rw [if_neg h]
theorem c2N_le {p : Nat → Nat → Bool} {n : Nat} (hn : n ≤ 6) : ∀ a, c2N p n a ≤ 6 * a
  | 0 => Nat.le_refl 0
  | a + 1 => by
    have := c2N_le (p := p) hn a
    have h2 := cN_le (p a) n
    show c2N p n a + cN (p a) n ≤ 6 * (a + 1)
    omega
/-- a column of a permutation: each element comes from one alone -/
theorem prm_inj {n y i j : Nat} {f : Nat → Nat → Nat} (hn : n ≤ 6) (hr : ∀ i, i < n → f i y < n) (hp : prm n f y) (hi : i < n) (hj : j < n) (e : f i y = f j y) : i = j := by
  have h := ((msk_full (g := fun x => f x y) hn (fun i hi => by have := hr i hi; omega)).mp hp).2
  rcases Nat.lt_trichotomy i j with q | q | q
  · exact absurd e (h i j q hj)
  · exact q
  · exact absurd e.symm (h j i q hi)
theorem invF_at {n : Nat} {f : Nat → Nat → Nat} {x y : Nat} (h : prm n f y) (hx : x < n) : invF n f x y < n ∧ f (invF n f x y) y = x := by
  obtain ⟨z, h1, h2, h3⟩ := low_ex (prm_hit h hx)
  unfold invF; rw [lowN_eq h1 h2 h3]; exact ⟨h1, h2⟩
section LAW10
variable {l : Launch} {D : va_G} {ck : Nat → ClassId} {ad : Nat → Nat} {w : Mem} {W : WA} {B : Nat} {K : Post} {ti xi yi ki ni fi ai bi : Int}
theorem lk_tr (hN : NxL l D ck ad B ti K) (hP : PXW w W) (hX : LX w W) :
    gL_law l D ck ad shA (B + 1) VT 331 [some (vR 2000), some (vR 0), some (vR 45), some (vR 46), some (vR 47), some (vI ti), some (vI xi), some (vI yi), some (vI ki), some (vI ni), some (vI fi), some (vI ai), some (vI bi), none, none, none, none, none, none, none, none] [] w K := by
  have g0 : w 45 0 = (wN W : Int) := hX.1.1
  have hn0 := hX.1.2.1
  refine go_iconst (q := 332) dL_law_331 rfl ?_
  refine go_iload (j := 7) (q := 334) rfl dL_law_332 rfl ?_
  refine go_iconst (q := 335) dL_law_334 rfl ?_
  refine go_callSi (as := [_, _]) (rest := [_]) (n := 2) (q := 338) dL_law_335 lk_L_29 rfl (by decide +kernel) rfl ⟨by decide, by decide⟩ ⟨rfl, rfl⟩ (Nat.le_of_ble_eq_true rfl) (el_low (by omega)) rfl (fun x335 w335 h335 => ?_)
  obtain ⟨h335, rfl⟩ := h335
  obtain ⟨p, hp⟩ : ∃ p : Nat, 2 + x335 = (p : Int) := ⟨(2 + x335).toNat, by omega⟩
  have hpp := ppm (p := p) (by omega)
  refine go_iadd (q := 339) dL_law_338 rfl ?_
  rw [hp]
  refine go_istore (j := 13) (q := 341) (ls2 := [_, _, _, _, _, _, _, _, _, _, _, _, _, _, _, _, _, _, _, _, _]) (by decide) rfl rfl dL_law_339 rfl ?_
  refine go_iload (j := 13) (q := 343) rfl dL_law_341 rfl ?_
  refine go_iload (j := 13) (q := 345) rfl dL_law_343 rfl ?_
  refine go_iconst (q := 346) dL_law_345 rfl ?_
  refine go_isub (q := 347) dL_law_346 rfl ?_
  refine go_imul (q := 348) dL_law_347 rfl ?_
  refine go_iconst (q := 349) dL_law_348 rfl ?_
  refine go_idiv2 (q := 350) (by omega) (by omega) dL_law_349 rfl ?_
  rw [hpp.1]
  obtain ⟨m, hm⟩ : ∃ m, m = p * (p - 1) / 2 := ⟨_, rfl⟩
  rw [← hm] at hpp ⊢
  refine go_istore (j := 14) (q := 352) (ls2 := [_, _, _, _, _, _, _, _, _, _, _, _, _, _, _, _, _, _, _, _, _]) (by decide) rfl rfl dL_law_350 rfl ?_
  refine go_aload_n (j := 1) (q := 353) rfl rfl dL_law_352 rfl ?_
  refine go_iload (j := 13) (q := 355) rfl dL_law_353 rfl ?_
  refine go_callVi (as := [_, _]) (As := [_]) (rest := []) (n := 1) (q := 358) dL_law_355 lk_L_144 (ci := 6) (N := 7) (T := TX6) rfl (by first | assumption | rfl) rfl rfl (by decide +kernel) rfl ⟨by decide, by decide⟩ ⟨rfl, rfl⟩ (Nat.le_of_ble_eq_true rfl) (ex3 hP (by omega)) rfl (fun x355 w355 h355 => ?_)
  obtain ⟨e355, hP355, f355⟩ := h355
  have hX355 := LX_same hX (fun c k h1 _ => f355 c k h1)
  have eo : op3 W (p : Int) = ((m : Int), psh W (tS W m (trF p))) := by unfold op3; rw [cif_t (by omega)]; simp only [Int.toNat_natCast]; rw [← hm]
  rw [eo] at e355 hP355
  have e355b : x355 = (m : Int) := e355
  refine go_iload (j := 14) (q := 360) rfl dL_law_358 rfl ?_
  refine go_icmp_eq2 (q := 363) (t := 365) dL_law_360 (by decide) rfl (by omega) (fun c360 => ?_) (fun c360 => ?_)
  · refine go_aload_n (j := 2) (q := 366) rfl rfl dL_law_365 rfl ?_
    refine go_iconst (q := 367) dL_law_366 rfl ?_
    refine go_iload (j := 14) (q := 369) rfl dL_law_367 rfl ?_
    refine go_iast (j := 0) (q := 370) (by first | assumption | rfl) (wr_eq (by omega)) (by omega) dL_law_369 rfl ?_
    refine go_iconst (q := 371) dL_law_370 rfl ?_
    refine go_istore (j := 15) (q := 373) (ls2 := [_, _, _, _, _, _, _, _, _, _, _, _, _, _, _, _, _, _, _, _, _]) (by decide) rfl rfl dL_law_371 rfl ?_
    have lp373 : ∀ (m373 : Nat) (i : Nat) (ii : Int) (w1 : Mem) (ei : ii = i) (hi : i ≤ 36) (f1 : ∀ c k, c ≠ 46 → w1 c k = mup w355 45 0 (m : Int) c k) (hz : ∀ j, j < i → w1 46 j = 0), m373 = 36 - i → gL_law l D ck ad shA (B + 1) VT 373 [some (vR 2000), some (vR 0), some (vR 45), some (vR 46), some (vR 47), some (vI ti), some (vI xi), some (vI yi), some (vI ki), some (vI ni), some (vI fi), some (vI ai), some (vI bi), (some (vI ((p : Nat) : Int))), (some (vI ((m : Nat) : Int))), some (vI ii), none, none, none, none, none] [] w1 K := by
      intro m373
      induction m373 using Nat.strongRecOn with
      | _ m373 ih373 =>
      intro i ii w1 ei hi f1 hz em373
      refine go_iload (j := 15) (q := 375) rfl dL_law_373 rfl ?_
      refine go_bipush (q := 377) rfl dL_law_375 rfl ?_
      refine go_icmp_ge2 (q := 380) (t := 391) dL_law_377 (by decide) rfl (by omega) (fun c377 => ?_) (fun c377 => ?_)
      · refine go_bipush (q := 393) rfl dL_law_391 rfl ?_
        refine go_newa (n := 48) (N := 6) (q := 395) shA_len (by decide) ⟨by decide +kernel, by decide⟩ rfl rfl shA_ne dL_law_393 rfl (fun x393 => ?_)
        have hs48 : (shA ++ [rInt 6])[48]? = some (rInt 6) := rfl
        have hs46 : (shA ++ [rInt 6])[46]? = some (rInt 36) := rfl
        have hz36 : ∀ j, j < 36 → mz w1 48 46 j = 0 := fun j hj => by rw [mz_ne (by omega)]; exact hz j (by omega)
        have f2 : ∀ c k, c ≠ 46 → c ≠ 48 → mz w1 48 c k = mup w355 45 0 (m : Int) c k := fun c k h1 h2 => by rw [mz_ne h2]; exact f1 c k h1
        have hp0 := pn_0 ⟨p, by omega⟩ (by show 2 ≤ p; omega)
        simp only at hp0
        have hmlt := fun k (hk : k < 6) => PM_b ⟨p, by omega⟩ ⟨k, hk⟩
        have hvlt := fun i j (hi : i < 6) (hj : j < 6) => VV_b ⟨p, by omega⟩ ⟨i, hi⟩ ⟨j, hj⟩
        simp only at hmlt hvlt
        refine go_astore (j := 15) (q := 397) (ls2 := [_, _, _, _, _, _, _, _, _, _, _, _, _, _, _, _, _, _, _, _, _]) (by decide) rfl rfl dL_law_395 rfl ?_
        refine go_iconst (q := 398) dL_law_397 rfl ?_
        refine go_istore (j := 16) (q := 400) (ls2 := [_, _, _, _, _, _, _, _, _, _, _, _, _, _, _, _, _, _, _, _, _]) (by decide) rfl rfl dL_law_398 rfl ?_
        refine go_iconst (q := 401) dL_law_400 rfl ?_
        refine go_istore (j := 17) (q := 403) (ls2 := [_, _, _, _, _, _, _, _, _, _, _, _, _, _, _, _, _, _, _, _, _]) (by decide) rfl rfl dL_law_401 rfl ?_
        have lp403 : ∀ (m403 : Nat) (i : Nat) (ci ii : Int) (o18 : Option MV) (w3 : Mem) (ei : ii = i) (hi : i ≤ p) (ec : ci = (pnum p i (i + 1) : Nat)) (f3 : ∀ c k, c ≠ 48 → w3 c k = mz w1 48 c k) (hpm : ∀ k, k < pnum p i (i + 1) → w3 48 k = (PM p k : Int)), m403 = p - i → gL_law l D ck (adx ad 48 x393) (shA ++ [rInt 6]) B VT 403 [some (vR 2000), some (vR 0), some (vR 45), some (vR 46), some (vR 47), some (vI ti), some (vI xi), some (vI yi), some (vI ki), some (vI ni), some (vI fi), some (vI ai), some (vI bi), (some (vI ((p : Nat) : Int))), (some (vI ((m : Nat) : Int))), some (vR 48), some (vI ci), some (vI ii), o18, none, none] [] w3 K := by
          intro m403
          induction m403 using Nat.strongRecOn with
          | _ m403 ih403 =>
          intro i ci ii o18 w3 ei hi ec f3 hpm em403
          refine go_iload (j := 17) (q := 405) rfl dL_law_403 rfl ?_
          refine go_iload (j := 13) (q := 407) rfl dL_law_405 rfl ?_
          refine go_icmp_ge2 (q := 410) (t := 452) dL_law_407 (by decide) rfl (by omega) (fun c407 => ?_) (fun c407 => ?_)
          · have hpmm : ∀ k, k < m → w3 48 k = (PM p k : Int) := fun k hk => hpm k (by rw [show i = p by omega, hp0.2.1]; omega)
            have hz3 : ∀ j, j < 36 → w3 46 j = 0 := fun j hj => by rw [f3 _ _ (by omega)]; exact hz36 j hj
            have f3b : ∀ c k, c ≠ 46 → c ≠ 48 → w3 c k = mup w355 45 0 (m : Int) c k := fun c k h1 h2 => by rw [f3 c k h2]; exact f2 c k h1 h2
            refine go_iconst (q := 453) dL_law_452 rfl ?_
            refine go_istore (j := 17) (q := 455) (ls2 := [_, _, _, _, _, _, _, _, _, _, _, _, _, _, _, _, _, _, _, _, _]) (by decide) rfl rfl dL_law_453 rfl ?_
            have lp455 : ∀ (m455 : Nat) (i : Nat) (ii2 : Int) (o18 o19 o20 : Option MV) (w5 : Mem) (ei : ii2 = i) (hi : i ≤ m) (f5 : ∀ c k, c ≠ 46 → w5 c k = w3 c k) (hd5 : ∀ x y, x < m → y < m → w5 46 (6 * x + y) = ((if x < i then trF p x y else 0 : Nat) : Int)), m455 = m - i → gL_law l D ck (adx ad 48 x393) (shA ++ [rInt 6]) B VT 455 [some (vR 2000), some (vR 0), some (vR 45), some (vR 46), some (vR 47), some (vI ti), some (vI xi), some (vI yi), some (vI ki), some (vI ni), some (vI fi), some (vI ai), some (vI bi), (some (vI ((p : Nat) : Int))), (some (vI ((m : Nat) : Int))), some (vR 48), some (vI ci), some (vI ii2), o18, o19, o20] [] w5 K := by
              intro m455
              induction m455 using Nat.strongRecOn with
              | _ m455 ih455 =>
              intro i ii2 o18 o19 o20 w5 ei hi f5 hd5 em455
              refine go_iload (j := 17) (q := 457) rfl dL_law_455 rfl ?_
              refine go_iload (j := 14) (q := 459) rfl dL_law_457 rfl ?_
              refine go_icmp_ge2 (q := 462) (t := 574) dL_law_459 (by decide) rfl (by omega) (fun c459 => ?_) (fun c459 => ?_)
              · refine go_goto (q := 1576) dL_law_574 (by decide) ?_
                refine go_drop (n := 48) (ls2 := [_, _, _, _, _, _, _, _, _, _, _, _, _, _, _, none, _, _, _, _, _]) shA_len (by decide) rfl shA_ne rfl ?_
                refine hN _ _ _ _ _ _ _ _ _ _ _ _ _ _ _ w5 (psh W (tS W m (trF p))) (PXW_q hP355 (fun c k h => by rw [f5 c k (by omega), f3b c k (by omega) (by omega), mup_ne (by omega)])) ⟨⟨by rw [f5 _ _ (by omega), f3b _ _ (by omega) (by omega), mup_eq]; rfl, ⟨by show 1 ≤ m; omega, by show m ≤ 6; omega⟩, fun x y hx hy => ?_⟩, by rw [f5 _ _ (by omega), f3b _ _ (by omega) (by omega), mup_ne (by omega)]; exact hX355.2.1, LC_same hX355.2.2 (by rw [f5 _ _ (by omega), f3b _ _ (by omega) (by omega), mup_ne (by omega)]) (fun k => by rw [f5 _ _ (by omega), f3b _ _ (by omega) (by omega), mup_ne (by omega)])⟩
                change x < m at hx
                change y < m at hy
                have h1 := hd5 x y hx hy
                rw [if_pos (by omega)] at h1
                have hrs := rs_b ⟨p, by omega⟩ (by show 2 ≤ p; omega) ⟨x, by omega⟩ ⟨y, by omega⟩ (by show x < p * (p - 1) / 2; omega) (by show y < p * (p - 1) / 2; omega)
                simp only at hrs
                rw [← hm] at hrs
                exact ⟨h1, hrs.2⟩
              · refine go_iconst (q := 463) dL_law_462 rfl ?_
                refine go_istore (j := 18) (q := 465) (ls2 := [_, _, _, _, _, _, _, _, _, _, _, _, _, _, _, _, _, _, _, _, _]) (by decide) rfl rfl dL_law_463 rfl ?_
                have lp465 : ∀ (m465 : Nat) (j : Nat) (jj : Int) (o19 o20 : Option MV) (w6 : Mem) (ej : jj = j) (hj : j ≤ m) (f6 : ∀ c k, c ≠ 46 → w6 c k = w3 c k) (hd6 : ∀ x y, x < m → y < m → w6 46 (6 * x + y) = ((if x < i ∨ (x = i ∧ y < j) then trF p x y else 0 : Nat) : Int)), m465 = m - j → gL_law l D ck (adx ad 48 x393) (shA ++ [rInt 6]) B VT 465 [some (vR 2000), some (vR 0), some (vR 45), some (vR 46), some (vR 47), some (vI ti), some (vI xi), some (vI yi), some (vI ki), some (vI ni), some (vI fi), some (vI ai), some (vI bi), (some (vI ((p : Nat) : Int))), (some (vI ((m : Nat) : Int))), some (vR 48), some (vI ci), some (vI ii2), some (vI jj), o19, o20] [] w6 K := by
                  intro m465
                  induction m465 using Nat.strongRecOn with
                  | _ m465 ih465 =>
                  intro j jj o19 o20 w6 ej hj f6 hd6 em465
                  refine go_iload (j := 18) (q := 467) rfl dL_law_465 rfl ?_
                  refine go_iload (j := 14) (q := 469) rfl dL_law_467 rfl ?_
                  refine go_icmp_ge2 (q := 472) (t := 568) dL_law_469 (by decide) rfl (by omega) (fun c469 => ?_) (fun c469 => ?_)
                  · refine go_iinc (j := 17) (q := 571) (ls2 := [_, _, _, _, _, _, _, _, _, _, _, _, _, _, _, _, _, _, _, _, _]) rfl (by decide) rfl rfl dL_law_568 rfl ?_
                    refine go_goto (q := 455) dL_law_571 (by decide) ?_
                    exact ih455 _ (by omega) (i + 1) _ _ _ _ _ (by omega) (by omega) f6 (fun x y hx hy => by
                      rw [hd6 x y hx hy]
                      by_cases q : x < i ∨ (x = i ∧ y < j)
                      · rw [if_pos q, if_pos (by omega)]
                      · rw [if_neg q, if_neg (by omega)]) rfl
                  · have hmi : w6 48 i = (PM p i : Int) := by rw [f6 _ _ (by omega)]; exact hpmm i (by omega)
                    have hmj : w6 48 j = (PM p j : Int) := by rw [f6 _ _ (by omega)]; exact hpmm j (by omega)
                    have li := hmlt i (by omega)
                    have lj := hmlt j (by omega)
                    have land : PM p i &&& PM p j < 16 := Nat.lt_of_le_of_lt Nat.and_le_left li
                    have hrs := rs_b ⟨p, by omega⟩ (by show 2 ≤ p; omega) ⟨i, by omega⟩ ⟨j, by omega⟩ (by show i < p * (p - 1) / 2; omega) (by show j < p * (p - 1) / 2; omega)
                    simp only at hrs
                    rw [← hm] at hrs
                    have lpc := cN_le (fun q => (PM p i &&& PM p j).testBit q) 7
                    have lpc2 : pc (PM p i &&& PM p j) ≤ 7 := lpc
                    have lvv := hvlt i j (by omega) (by omega)
                    refine go_aload (j := 15) (q := 474) rfl dL_law_472 rfl ?_
                    refine go_iload (j := 17) (q := 476) rfl dL_law_474 rfl ?_
                    refine go_iald (j := i) (q := 477) (by first | assumption | rfl) (wr_eq (by omega)) (by omega) dL_law_476 rfl ?_
                    rw [hmi]
                    refine go_aload (j := 15) (q := 479) rfl dL_law_477 rfl ?_
                    refine go_iload (j := 18) (q := 481) rfl dL_law_479 rfl ?_
                    refine go_iald (j := j) (q := 482) (by first | assumption | rfl) (wr_eq (by omega)) (by omega) dL_law_481 rfl ?_
                    rw [hmj]
                    refine go_iand (q := 483) dL_law_482 rfl ?_
                    rw [and_eq (by omega) (by omega)]
                    refine go_callSi (as := [_]) (rest := []) (n := 1) (q := 486) dL_law_483 lk_L_16 rfl (by decide +kernel) rfl ⟨by decide, by decide⟩ ⟨rfl, rfl⟩ (Nat.le_of_ble_eq_true rfl) (el_ones (m := PM p i &&& PM p j) rfl (by omega)) rfl (fun x483 w483 h483 => ?_)
                    obtain ⟨rfl, rfl⟩ := h483
                    refine go_iconst (q := 487) dL_law_486 rfl ?_
                    refine go_icmp_ne2 (q := 490) (t := 504) dL_law_487 (by decide) rfl (by omega) (fun c487 => ?_) (fun c487 => ?_)
                    · have hvv : PM p i = VV p i j := by unfold VV; rw [if_neg (by omega)]
                      refine go_aload (j := 15) (q := 506) rfl dL_law_504 rfl ?_
                      refine go_iload (j := 17) (q := 508) rfl dL_law_506 rfl ?_
                      refine go_iald (j := i) (q := 509) (by first | assumption | rfl) (wr_eq (by omega)) (by omega) dL_law_508 rfl ?_
                      try rw [hmi]
                      refine go_istore (j := 19) (q := 511) (ls2 := [_, _, _, _, _, _, _, _, _, _, _, _, _, _, _, _, _, _, _, _, _]) (by decide) rfl rfl dL_law_509 rfl ?_
                      refine go_iconst (q := 512) dL_law_511 rfl ?_
                      refine go_istore (j := 20) (q := 514) (ls2 := [_, _, _, _, _, _, _, _, _, _, _, _, _, _, _, _, _, _, _, _, _]) (by decide) rfl rfl dL_law_512 rfl ?_
                      have lp514 : ∀ (m514 : Nat) (k : Nat) (vi kk : Int) (w7 : Mem) (ek : kk = k) (hk : k ≤ m) (evi : vi = (VV p i j : Int)) (f7 : ∀ c k, c ≠ 46 → w7 c k = w3 c k) (hd7 : ∀ x y, x < m → y < m → w7 46 (6 * x + y) = ((if x = i ∧ y = j then rsT p i j k else if x < i ∨ (x = i ∧ y < j) then trF p x y else 0 : Nat) : Int)), m514 = m - k → gL_law l D ck (adx ad 48 x393) (shA ++ [rInt 6]) B VT 514 [some (vR 2000), some (vR 0), some (vR 45), some (vR 46), some (vR 47), some (vI ti), some (vI xi), some (vI yi), some (vI ki), some (vI ni), some (vI fi), some (vI ai), some (vI bi), (some (vI ((p : Nat) : Int))), (some (vI ((m : Nat) : Int))), some (vR 48), some (vI ci), some (vI ii2), some (vI jj), some (vI vi), some (vI kk)] [] w7 K := by
                        intro m514
                        induction m514 using Nat.strongRecOn with
                        | _ m514 ih514 =>
                        intro k vi kk w7 ek hk evi f7 hd7 em514
                        refine go_iload (j := 20) (q := 516) rfl dL_law_514 rfl ?_
                        refine go_iload (j := 14) (q := 518) rfl dL_law_516 rfl ?_
                        refine go_icmp_ge2 (q := 521) (t := 562) dL_law_518 (by decide) rfl (by omega) (fun c518 => ?_) (fun c518 => ?_)
                        · refine go_iinc (j := 18) (q := 565) (ls2 := [_, _, _, _, _, _, _, _, _, _, _, _, _, _, _, _, _, _, _, _, _]) rfl (by decide) rfl rfl dL_law_562 rfl ?_
                          refine go_goto (q := 465) dL_law_565 (by decide) ?_
                          exact ih465 _ (by omega) (j + 1) _ _ _ _ (by omega) (by omega) f7 (fun x y hx hy => by
                            rw [hd7 x y hx hy]
                            by_cases q : x = i ∧ y = j
                            · rw [if_pos q, if_pos (by omega), show k = m by omega, hrs.1, q.1, q.2]
                            · rw [if_neg q]
                              by_cases q2 : x < i ∨ (x = i ∧ y < j)
                              · rw [if_pos q2, if_pos (by omega)]
                              · rw [if_neg q2, if_neg (by omega)]) rfl
                        · have hmk : w7 48 k = (PM p k : Int) := by rw [f7 _ _ (by omega)]; exact hpmm k (by omega)
                          have lk := hmlt k (by omega)
                          have hij := hd7 i j (by omega) (by omega)
                          rw [if_pos ⟨rfl, rfl⟩] at hij
                          have lrs := rsT_le (p := p) (i := i) (j := j) k
                          have hst : rsT p i j (k + 1) = if PM p k = VV p i j then k else rsT p i j k := rfl
                          refine go_aload_n (j := 3) (q := 522) rfl rfl dL_law_521 rfl ?_
                          refine go_bipush (q := 524) rfl dL_law_522 rfl ?_
                          refine go_iload (j := 17) (q := 526) rfl dL_law_524 rfl ?_
                          refine go_imul (q := 527) dL_law_526 rfl ?_
                          refine go_iload (j := 18) (q := 529) rfl dL_law_527 rfl ?_
                          refine go_iadd (q := 530) dL_law_529 rfl ?_
                          refine go_aload (j := 15) (q := 532) rfl dL_law_530 rfl ?_
                          refine go_iload (j := 20) (q := 534) rfl dL_law_532 rfl ?_
                          refine go_iald (j := k) (q := 535) (by first | assumption | rfl) (wr_eq (by omega)) (by omega) dL_law_534 rfl ?_
                          rw [hmk]
                          refine go_iload (j := 19) (q := 537) rfl dL_law_535 rfl ?_
                          refine go_icmp_ne2 (q := 540) (t := 545) dL_law_537 (by decide) rfl (by omega) (fun c537 => ?_) (fun c537 => ?_)
                          · rw [if_neg (by omega)] at hst
                            refine go_aload_n (j := 3) (q := 546) rfl rfl dL_law_545 rfl ?_
                            refine go_bipush (q := 548) rfl dL_law_546 rfl ?_
                            refine go_iload (j := 17) (q := 550) rfl dL_law_548 rfl ?_
                            refine go_imul (q := 551) dL_law_550 rfl ?_
                            refine go_iload (j := 18) (q := 553) rfl dL_law_551 rfl ?_
                            refine go_iadd (q := 554) dL_law_553 rfl ?_
                            refine go_iald (j := 6 * i + j) (q := 555) (by first | assumption | rfl) (wr_eq (by omega)) (by omega) dL_law_554 rfl ?_
                            try rw [hij]
                            refine go_iast (j := 6 * i + j) (q := 556) (by first | assumption | rfl) (wr_eq (by omega)) (by omega) dL_law_555 rfl ?_
                            refine go_iinc (j := 20) (q := 559) (ls2 := [_, _, _, _, _, _, _, _, _, _, _, _, _, _, _, _, _, _, _, _, _]) rfl (by decide) rfl rfl dL_law_556 rfl ?_
                            refine go_goto (q := 514) dL_law_559 (by decide) ?_
                            exact ih514 _ (by omega) (k + 1) _ _ _ (by omega) (by omega) evi (fun c k h => by rw [mup_ne (Or.inl h)]; exact f7 c k h) (fun x y hx hy => by
                              by_cases q : x = i ∧ y = j
                              · (rw [q.1, q.2, mup_eq, if_pos ⟨rfl, rfl⟩, hst]) <;> omega
                              · rw [mup_ne (by omega), hd7 x y hx hy, if_neg q, if_neg q]) rfl
                          · rw [if_pos (by omega)] at hst
                            refine go_iload (j := 20) (q := 542) rfl dL_law_540 rfl ?_
                            refine go_goto (q := 555) dL_law_542 (by decide) ?_
                            try rw [hij]
                            refine go_iast (j := 6 * i + j) (q := 556) (by first | assumption | rfl) (wr_eq (by omega)) (by omega) dL_law_555 rfl ?_
                            refine go_iinc (j := 20) (q := 559) (ls2 := [_, _, _, _, _, _, _, _, _, _, _, _, _, _, _, _, _, _, _, _, _]) rfl (by decide) rfl rfl dL_law_556 rfl ?_
                            refine go_goto (q := 514) dL_law_559 (by decide) ?_
                            exact ih514 _ (by omega) (k + 1) _ _ _ (by omega) (by omega) evi (fun c k h => by rw [mup_ne (Or.inl h)]; exact f7 c k h) (fun x y hx hy => by
                              by_cases q : x = i ∧ y = j
                              · (rw [q.1, q.2, mup_eq, if_pos ⟨rfl, rfl⟩, hst]) <;> omega
                              · rw [mup_ne (by omega), hd7 x y hx hy, if_neg q, if_neg q]) rfl
                      exact lp514 _ 0 _ _ _ rfl (by omega) (by rw [hvv]) f6 (fun x y hx hy => by
                        rw [hd6 x y hx hy]
                        by_cases q : x = i ∧ y = j
                        · rw [if_pos q, if_neg (by omega)]; rfl
                        · rw [if_neg q]) rfl
                    · have hvv : PM p i ^^^ PM p j = VV p i j := by unfold VV; rw [if_pos (by omega)]
                      refine go_aload (j := 15) (q := 492) rfl dL_law_490 rfl ?_
                      refine go_iload (j := 17) (q := 494) rfl dL_law_492 rfl ?_
                      refine go_iald (j := i) (q := 495) (by first | assumption | rfl) (wr_eq (by omega)) (by omega) dL_law_494 rfl ?_
                      rw [hmi]
                      refine go_aload (j := 15) (q := 497) rfl dL_law_495 rfl ?_
                      refine go_iload (j := 18) (q := 499) rfl dL_law_497 rfl ?_
                      refine go_iald (j := j) (q := 500) (by first | assumption | rfl) (wr_eq (by omega)) (by omega) dL_law_499 rfl ?_
                      rw [hmj]
                      refine go_ixor (q := 501) dL_law_500 rfl ?_
                      rw [xor_eq (by omega) (by omega)]
                      refine go_goto (q := 509) dL_law_501 (by decide) ?_
                      try rw [hmi]
                      refine go_istore (j := 19) (q := 511) (ls2 := [_, _, _, _, _, _, _, _, _, _, _, _, _, _, _, _, _, _, _, _, _]) (by decide) rfl rfl dL_law_509 rfl ?_
                      refine go_iconst (q := 512) dL_law_511 rfl ?_
                      refine go_istore (j := 20) (q := 514) (ls2 := [_, _, _, _, _, _, _, _, _, _, _, _, _, _, _, _, _, _, _, _, _]) (by decide) rfl rfl dL_law_512 rfl ?_
                      have lp514 : ∀ (m514 : Nat) (k : Nat) (vi kk : Int) (w7 : Mem) (ek : kk = k) (hk : k ≤ m) (evi : vi = (VV p i j : Int)) (f7 : ∀ c k, c ≠ 46 → w7 c k = w3 c k) (hd7 : ∀ x y, x < m → y < m → w7 46 (6 * x + y) = ((if x = i ∧ y = j then rsT p i j k else if x < i ∨ (x = i ∧ y < j) then trF p x y else 0 : Nat) : Int)), m514 = m - k → gL_law l D ck (adx ad 48 x393) (shA ++ [rInt 6]) B VT 514 [some (vR 2000), some (vR 0), some (vR 45), some (vR 46), some (vR 47), some (vI ti), some (vI xi), some (vI yi), some (vI ki), some (vI ni), some (vI fi), some (vI ai), some (vI bi), (some (vI ((p : Nat) : Int))), (some (vI ((m : Nat) : Int))), some (vR 48), some (vI ci), some (vI ii2), some (vI jj), some (vI vi), some (vI kk)] [] w7 K := by
                        intro m514
                        induction m514 using Nat.strongRecOn with
                        | _ m514 ih514 =>
                        intro k vi kk w7 ek hk evi f7 hd7 em514
                        refine go_iload (j := 20) (q := 516) rfl dL_law_514 rfl ?_
                        refine go_iload (j := 14) (q := 518) rfl dL_law_516 rfl ?_
                        refine go_icmp_ge2 (q := 521) (t := 562) dL_law_518 (by decide) rfl (by omega) (fun c518 => ?_) (fun c518 => ?_)
                        · refine go_iinc (j := 18) (q := 565) (ls2 := [_, _, _, _, _, _, _, _, _, _, _, _, _, _, _, _, _, _, _, _, _]) rfl (by decide) rfl rfl dL_law_562 rfl ?_
                          refine go_goto (q := 465) dL_law_565 (by decide) ?_
                          exact ih465 _ (by omega) (j + 1) _ _ _ _ (by omega) (by omega) f7 (fun x y hx hy => by
                            rw [hd7 x y hx hy]
                            by_cases q : x = i ∧ y = j
                            · rw [if_pos q, if_pos (by omega), show k = m by omega, hrs.1, q.1, q.2]
                            · rw [if_neg q]
                              by_cases q2 : x < i ∨ (x = i ∧ y < j)
                              · rw [if_pos q2, if_pos (by omega)]
                              · rw [if_neg q2, if_neg (by omega)]) rfl
                        · have hmk : w7 48 k = (PM p k : Int) := by rw [f7 _ _ (by omega)]; exact hpmm k (by omega)
                          have lk := hmlt k (by omega)
                          have hij := hd7 i j (by omega) (by omega)
                          rw [if_pos ⟨rfl, rfl⟩] at hij
                          have lrs := rsT_le (p := p) (i := i) (j := j) k
                          have hst : rsT p i j (k + 1) = if PM p k = VV p i j then k else rsT p i j k := rfl
                          refine go_aload_n (j := 3) (q := 522) rfl rfl dL_law_521 rfl ?_
                          refine go_bipush (q := 524) rfl dL_law_522 rfl ?_
                          refine go_iload (j := 17) (q := 526) rfl dL_law_524 rfl ?_
                          refine go_imul (q := 527) dL_law_526 rfl ?_
                          refine go_iload (j := 18) (q := 529) rfl dL_law_527 rfl ?_
                          refine go_iadd (q := 530) dL_law_529 rfl ?_
                          refine go_aload (j := 15) (q := 532) rfl dL_law_530 rfl ?_
                          refine go_iload (j := 20) (q := 534) rfl dL_law_532 rfl ?_
                          refine go_iald (j := k) (q := 535) (by first | assumption | rfl) (wr_eq (by omega)) (by omega) dL_law_534 rfl ?_
                          rw [hmk]
                          refine go_iload (j := 19) (q := 537) rfl dL_law_535 rfl ?_
                          refine go_icmp_ne2 (q := 540) (t := 545) dL_law_537 (by decide) rfl (by omega) (fun c537 => ?_) (fun c537 => ?_)
                          · rw [if_neg (by omega)] at hst
                            refine go_aload_n (j := 3) (q := 546) rfl rfl dL_law_545 rfl ?_
                            refine go_bipush (q := 548) rfl dL_law_546 rfl ?_
                            refine go_iload (j := 17) (q := 550) rfl dL_law_548 rfl ?_
                            refine go_imul (q := 551) dL_law_550 rfl ?_
                            refine go_iload (j := 18) (q := 553) rfl dL_law_551 rfl ?_
                            refine go_iadd (q := 554) dL_law_553 rfl ?_
                            refine go_iald (j := 6 * i + j) (q := 555) (by first | assumption | rfl) (wr_eq (by omega)) (by omega) dL_law_554 rfl ?_
                            try rw [hij]
                            refine go_iast (j := 6 * i + j) (q := 556) (by first | assumption | rfl) (wr_eq (by omega)) (by omega) dL_law_555 rfl ?_
                            refine go_iinc (j := 20) (q := 559) (ls2 := [_, _, _, _, _, _, _, _, _, _, _, _, _, _, _, _, _, _, _, _, _]) rfl (by decide) rfl rfl dL_law_556 rfl ?_
                            refine go_goto (q := 514) dL_law_559 (by decide) ?_
                            exact ih514 _ (by omega) (k + 1) _ _ _ (by omega) (by omega) evi (fun c k h => by rw [mup_ne (Or.inl h)]; exact f7 c k h) (fun x y hx hy => by
                              by_cases q : x = i ∧ y = j
                              · (rw [q.1, q.2, mup_eq, if_pos ⟨rfl, rfl⟩, hst]) <;> omega
                              · rw [mup_ne (by omega), hd7 x y hx hy, if_neg q, if_neg q]) rfl
                          · rw [if_pos (by omega)] at hst
                            refine go_iload (j := 20) (q := 542) rfl dL_law_540 rfl ?_
                            refine go_goto (q := 555) dL_law_542 (by decide) ?_
                            try rw [hij]
                            refine go_iast (j := 6 * i + j) (q := 556) (by first | assumption | rfl) (wr_eq (by omega)) (by omega) dL_law_555 rfl ?_
                            refine go_iinc (j := 20) (q := 559) (ls2 := [_, _, _, _, _, _, _, _, _, _, _, _, _, _, _, _, _, _, _, _, _]) rfl (by decide) rfl rfl dL_law_556 rfl ?_
                            refine go_goto (q := 514) dL_law_559 (by decide) ?_
                            exact ih514 _ (by omega) (k + 1) _ _ _ (by omega) (by omega) evi (fun c k h => by rw [mup_ne (Or.inl h)]; exact f7 c k h) (fun x y hx hy => by
                              by_cases q : x = i ∧ y = j
                              · (rw [q.1, q.2, mup_eq, if_pos ⟨rfl, rfl⟩, hst]) <;> omega
                              · rw [mup_ne (by omega), hd7 x y hx hy, if_neg q, if_neg q]) rfl
                      exact lp514 _ 0 _ _ _ rfl (by omega) (by rw [hvv]) f6 (fun x y hx hy => by
                        rw [hd6 x y hx hy]
                        by_cases q : x = i ∧ y = j
                        · rw [if_pos q, if_neg (by omega)]; rfl
                        · rw [if_neg q]) rfl
                exact lp465 _ 0 _ _ _ _ rfl (by omega) f5 (fun x y hx hy => by
                  rw [hd5 x y hx hy]
                  by_cases q : x < i
                  · rw [if_pos q, if_pos (Or.inl q)]
                  · rw [if_neg q, if_neg (by omega)]) rfl
            exact lp455 _ 0 _ _ _ _ _ rfl (by omega) (fun c k _ => rfl) (fun x y hx hy => by rw [if_neg (by omega)]; exact hz3 _ (by omega)) rfl
          · refine go_iload (j := 17) (q := 412) rfl dL_law_410 rfl ?_
            refine go_iconst (q := 413) dL_law_412 rfl ?_
            refine go_iadd (q := 414) dL_law_413 rfl ?_
            refine go_istore (j := 18) (q := 416) (ls2 := [_, _, _, _, _, _, _, _, _, _, _, _, _, _, _, _, _, _, _, _, _]) (by decide) rfl rfl dL_law_414 rfl ?_
            have lp416 : ∀ (m416 : Nat) (j : Nat) (di ji : Int) (w4 : Mem) (ej : ji = j) (hj : i + 1 ≤ j ∧ j ≤ p) (ed : di = (pnum p i j : Nat)) (f4 : ∀ c k, c ≠ 48 → w4 c k = mz w1 48 c k) (hpm4 : ∀ k, k < pnum p i j → w4 48 k = (PM p k : Int)), m416 = p - j → gL_law l D ck (adx ad 48 x393) (shA ++ [rInt 6]) B VT 416 [some (vR 2000), some (vR 0), some (vR 45), some (vR 46), some (vR 47), some (vI ti), some (vI xi), some (vI yi), some (vI ki), some (vI ni), some (vI fi), some (vI ai), some (vI bi), (some (vI ((p : Nat) : Int))), (some (vI ((m : Nat) : Int))), some (vR 48), some (vI di), some (vI ii), some (vI ji), none, none] [] w4 K := by
              intro m416
              induction m416 using Nat.strongRecOn with
              | _ m416 ih416 =>
              intro j di ji w4 ej hj ed f4 hpm4 em416
              refine go_iload (j := 18) (q := 418) rfl dL_law_416 rfl ?_
              refine go_iload (j := 13) (q := 420) rfl dL_law_418 rfl ?_
              refine go_icmp_ge2 (q := 423) (t := 446) dL_law_420 (by decide) rfl (by omega) (fun c420 => ?_) (fun c420 => ?_)
              · refine go_iinc (j := 17) (q := 449) (ls2 := [_, _, _, _, _, _, _, _, _, _, _, _, _, _, _, _, _, _, _, _, _]) rfl (by decide) rfl rfl dL_law_446 rfl ?_
                refine go_goto (q := 403) dL_law_449 (by decide) ?_
                exact ih403 _ (by omega) (i + 1) _ _ _ _ (by omega) (by omega) (by
                  have := pn_e ⟨p, by omega⟩ ⟨i, by omega⟩ (by show 2 ≤ p; omega) (by show i < p; omega)
                  simp only at this
                  rw [ed, show j = p by omega, this]) f4 (by
                  have := pn_e ⟨p, by omega⟩ ⟨i, by omega⟩ (by show 2 ≤ p; omega) (by show i < p; omega)
                  simp only at this
                  intro k hk
                  rw [show i + 1 + 1 = i + 2 from rfl, ← this] at hk
                  exact hpm4 k (by rw [show j = p by omega]; exact hk)) rfl
              · have hpb := pn_b ⟨p, by omega⟩ ⟨i, by omega⟩ ⟨j, by omega⟩ (by show 2 ≤ p; omega) (by show i < j; omega) (by show j < p; omega)
                simp only at hpb
                have hpl : pnum p i j < m := by rw [hm]; exact hpb.2.2.1
                have ePM : PM p (pnum p i j) = 2 ^ i ||| 2 ^ j := by unfold PM; rw [hpb.1, hpb.2.1]
                have t1 := two_lt (show i < 4 by omega)
                have t2 := two_lt (show j < 4 by omega)
                refine go_aload (j := 15) (q := 425) rfl dL_law_423 rfl ?_
                refine go_iload (j := 16) (q := 427) rfl dL_law_425 rfl ?_
                refine go_iinc (j := 16) (q := 430) (ls2 := [_, _, _, _, _, _, _, _, _, _, _, _, _, _, _, _, _, _, _, _, _]) rfl (by decide) rfl rfl dL_law_427 rfl ?_
                refine go_iconst (q := 431) dL_law_430 rfl ?_
                refine go_iload (j := 17) (q := 433) rfl dL_law_431 rfl ?_
                refine go_ishl (q := 434) dL_law_433 rfl ?_
                rw [show shlZ 1 ii = ((2 ^ i : Nat) : Int) by rw [ei, shl_eq (by omega)]]
                refine go_iconst (q := 435) dL_law_434 rfl ?_
                refine go_iload (j := 18) (q := 437) rfl dL_law_435 rfl ?_
                refine go_ishl (q := 438) dL_law_437 rfl ?_
                rw [show shlZ 1 ji = ((2 ^ j : Nat) : Int) by rw [ej, shl_eq (by omega)]]
                refine go_ior (q := 439) dL_law_438 rfl ?_
                rw [or_eq (by omega) (by omega), ← ePM]
                refine go_iast (j := pnum p i j) (q := 440) (by first | assumption | rfl) (wr_eq (by omega)) (by omega) dL_law_439 rfl ?_
                refine go_iinc (j := 18) (q := 443) (ls2 := [_, _, _, _, _, _, _, _, _, _, _, _, _, _, _, _, _, _, _, _, _]) rfl (by decide) rfl rfl dL_law_440 rfl ?_
                refine go_goto (q := 416) dL_law_443 (by decide) ?_
                exact ih416 _ (by omega) (j + 1) _ _ _ (by omega) (by omega) (by rw [hpb.2.2.2]; omega) (fun c k h => by rw [mup_ne (Or.inl h)]; exact f4 c k h) (by
                  intro k hk
                  rw [hpb.2.2.2] at hk
                  by_cases q : k = pnum p i j
                  · rw [q, mup_eq]
                  · rw [mup_ne (by omega)]; exact hpm4 k (by omega)) rfl
            exact lp416 _ (i + 1) _ _ _ (by omega) (by omega) ec f3 hpm rfl
        exact lp403 _ 0 _ _ _ _ rfl (by omega) (by rw [hp0.1]; rfl) (fun c k _ => rfl) (fun k hk => by rw [hp0.1] at hk; omega) rfl
      · refine go_aload_n (j := 3) (q := 381) rfl rfl dL_law_380 rfl ?_
        refine go_iload (j := 15) (q := 383) rfl dL_law_381 rfl ?_
        refine go_iconst (q := 384) dL_law_383 rfl ?_
        refine go_iast (j := i) (q := 385) (by first | assumption | rfl) (wr_eq (by omega)) (by omega) dL_law_384 rfl ?_
        refine go_iinc (j := 15) (q := 388) (ls2 := [_, _, _, _, _, _, _, _, _, _, _, _, _, _, _, _, _, _, _, _, _]) rfl (by decide) rfl rfl dL_law_385 rfl ?_
        refine go_goto (q := 373) dL_law_388 (by decide) ?_
        exact ih373 _ (by omega) (i + 1) _ _ (by omega) (by omega) (fun c k h => by rw [mup_ne (Or.inl h)]; exact f1 c k h) (by
          intro j hj
          by_cases q : j = i
          · rw [q, mup_eq]
          · rw [mup_ne (by omega)]; exact hz j (by omega)) rfl
    exact lp373 _ 0 _ _ rfl (by omega) (fun c k _ => rfl) (fun j h => absurd h (Nat.not_lt_zero j)) rfl
  · exact absurd e355b c360
theorem lk_inv1 (hN : NxL l D ck ad B ti K) (hP : PXW w W) (hX : LX w W) (hcan : ∀ y, y < wN W → prm (wN W) (wF W) y) :
    gL_law l D ck ad shA (B + 1) VT 684 [some (vR 2000), some (vR 0), some (vR 45), some (vR 46), some (vR 47), some (vI ti), some (vI xi), some (vI yi), some (vI ki), some (vI ni), some (vI fi), some (vI ai), some (vI bi), some (vI 1), none, none, none, none, none, none, none] [] w K := by
  have g0 : w 45 0 = (wN W : Int) := hX.1.1
  have hn := hX.1.2.1
  have hr : ∀ i j, i < wN W → j < wN W → wF W i j < wN W := fun i j hi hj => (hX.1.2.2 i j hi hj).2
  refine go_iconst (q := 685) dL_law_684 rfl ?_
  refine go_istore (j := 14) (q := 687) (ls2 := [_, _, _, _, _, _, _, _, _, _, _, _, _, _, _, _, _, _, _, _, _]) (by decide) rfl rfl dL_law_685 rfl ?_
  refine go_bipush (q := 689) rfl dL_law_687 rfl ?_
  refine go_newa (n := 48) (N := 36) (q := 691) shA_len (by decide) ⟨by decide +kernel, by decide⟩ rfl rfl shA_ne dL_law_689 rfl (fun x689 => ?_)
  have hs48 : (shA ++ [rInt 36])[48]? = some (rInt 36) := rfl
  have hs46 : (shA ++ [rInt 36])[46]? = some (rInt 36) := rfl
  have hs45 : (shA ++ [rInt 36])[45]? = some (rInt 3) := rfl
  have hs0 : (shA ++ [rInt 36])[0]? = some (.inl (6, [some 1, some 3, some 5, some 10, some 12, some 16, some 18])) := rfl
  refine go_astore (j := 15) (q := 693) (ls2 := [_, _, _, _, _, _, _, _, _, _, _, _, _, _, _, _, _, _, _, _, _]) (by decide) rfl rfl dL_law_691 rfl ?_
  refine go_iconst (q := 694) dL_law_693 rfl ?_
  refine go_istore (j := 16) (q := 696) (ls2 := [_, _, _, _, _, _, _, _, _, _, _, _, _, _, _, _, _, _, _, _, _]) (by decide) rfl rfl dL_law_694 rfl ?_
  have lp696 : ∀ (m696 : Nat) (i : Nat) (ii : Int) (w1 : Mem) (ei : ii = i) (hi : i ≤ 36) (f1 : ∀ c k, c ≠ 48 → w1 c k = w c k) (hd1 : ∀ k, k < i → w1 48 k = w 46 k), m696 = 36 - i → gL_law l D ck (adx ad 48 x689) (shA ++ [rInt 36]) B VT 696 [some (vR 2000), some (vR 0), some (vR 45), some (vR 46), some (vR 47), some (vI ti), some (vI xi), some (vI yi), some (vI ki), some (vI ni), some (vI fi), some (vI ai), some (vI bi), some (vI 1), some (vI 0), some (vR 48), some (vI ii), none, none, none, none] [] w1 K := by
    intro m696
    induction m696 using Nat.strongRecOn with
    | _ m696 ih696 =>
    intro i ii w1 ei hi f1 hd1 em696
    refine go_iload (j := 16) (q := 698) rfl dL_law_696 rfl ?_
    refine go_bipush (q := 700) rfl dL_law_698 rfl ?_
    refine go_icmp_ge2 (q := 703) (t := 718) dL_law_700 (by decide) rfl (by omega) (fun c700 => ?_) (fun c700 => ?_)
    · refine go_iconst (q := 719) dL_law_718 rfl ?_
      refine go_istore (j := 16) (q := 721) (ls2 := [_, _, _, _, _, _, _, _, _, _, _, _, _, _, _, _, _, _, _, _, _]) (by decide) rfl rfl dL_law_719 rfl ?_
      have lp721 : ∀ (m721 : Nat) (i : Nat) (xi2 : Int) (o17 : Option MV) (w2 : Mem) (ei : xi2 = i) (hi : i ≤ wN W) (f2 : ∀ c k, c ≠ 46 → w2 c k = w1 c k) (hd2 : ∀ x y, x < i → y < wN W → w2 46 (6 * wF W x y + y) = (x : Int)) (ho2 : ∀ k, k < 36 → ¬ (k / 6 < wN W ∧ k % 6 < wN W) → w2 46 k = w 46 k), m721 = wN W - i → gL_law l D ck (adx ad 48 x689) (shA ++ [rInt 36]) B VT 721 [some (vR 2000), some (vR 0), some (vR 45), some (vR 46), some (vR 47), some (vI ti), some (vI xi), some (vI yi), some (vI ki), some (vI ni), some (vI fi), some (vI ai), some (vI bi), some (vI 1), some (vI 0), some (vR 48), some (vI xi2), o17, none, none, none] [] w2 K := by
        intro m721
        induction m721 using Nat.strongRecOn with
        | _ m721 ih721 =>
        intro i xi2 o17 w2 ei hi f2 hd2 ho2 em721
        have g02 : w2 45 0 = (wN W : Int) := by rw [f2 _ _ (by omega), f1 _ _ (by omega)]; exact g0
        refine go_iload (j := 16) (q := 723) rfl dL_law_721 rfl ?_
        refine go_aload_n (j := 2) (q := 724) rfl rfl dL_law_723 rfl ?_
        refine go_iconst (q := 725) dL_law_724 rfl ?_
        refine go_iald (j := 0) (q := 726) (by first | assumption | rfl) (wr_eq (by omega)) (by omega) dL_law_725 rfl ?_
        refine go_icmp_ge2 (q := 729) (t := 778) dL_law_726 (by decide) rfl (by omega) (fun c726 => ?_) (fun c726 => ?_)
        · have hinv : ∀ x y, x < wN W → y < wN W → w2 46 (6 * x + y) = (invF (wN W) (wF W) x y : Int) := fun x y hx hy => by
            have hi2 := invF_at (hcan y hy) hx
            have := hd2 (invF (wN W) (wF W) x y) y (by omega) hy
            rw [hi2.2] at this; exact this
          have hold : ∀ k, k < 36 → w2 48 k = w 46 k := fun k hk => by rw [f2 _ _ (by omega)]; exact hd1 k (by omega)
          refine go_iconst (q := 779) dL_law_778 rfl ?_
          refine go_istore (j := 16) (q := 781) (ls2 := [_, _, _, _, _, _, _, _, _, _, _, _, _, _, _, _, _, _, _, _, _]) (by decide) rfl rfl dL_law_779 rfl ?_
          have lp781 : ∀ (m781 : Nat) (k : Nat) (ci kk : Int) (o17 : Option MV) (ek : kk = k) (hk : k ≤ 36) (ec : ci = (cN (fun k => decide (w2 46 k ≠ w 46 k)) k : Nat)), m781 = 36 - k → gL_law l D ck (adx ad 48 x689) (shA ++ [rInt 36]) B VT 781 [some (vR 2000), some (vR 0), some (vR 45), some (vR 46), some (vR 47), some (vI ti), some (vI xi), some (vI yi), some (vI ki), some (vI ni), some (vI fi), some (vI ai), some (vI bi), some (vI 1), some (vI ci), some (vR 48), some (vI kk), o17, none, none, none] [] w2 K := by
            intro m781
            induction m781 using Nat.strongRecOn with
            | _ m781 ih781 =>
            intro k ci kk o17 ek hk ec em781
            refine go_iload (j := 16) (q := 783) rfl dL_law_781 rfl ?_
            refine go_bipush (q := 785) rfl dL_law_783 rfl ?_
            refine go_icmp_ge2 (q := 788) (t := 816) dL_law_785 (by decide) rfl (by omega) (fun c785 => ?_) (fun c785 => ?_)
            · have hPm : PXW w2 W := PXW_q hP (fun c k h => by rw [f2 c k (by omega), f1 c k (by omega)])
              refine go_aload_n (j := 1) (q := 817) rfl rfl dL_law_816 rfl ?_
              refine go_callVi (as := [_]) (As := []) (rest := []) (n := 0) (q := 820) dL_law_817 lk_L_151 (ci := 6) (N := 7) (T := TX6) rfl (by first | assumption | rfl) rfl rfl (by decide +kernel) rfl ⟨by decide, by decide⟩ ⟨rfl, rfl⟩ (Nat.le_of_ble_eq_true rfl) (lift_XR rfl (ex5 hPm)) rfl (fun x817 w817 h817 => ?_)
              obtain ⟨e817, hP817, f817⟩ := h817
              have eo : op5 W = ((c2N (fun x y => decide (invF (wN W) (wF W) x y ≠ wF W x y)) (wN W) (wN W) : Int), psh W (tS W (wN W) (invF (wN W) (wF W)))) := by unfold op5; rw [cif_t hcan]
              rw [eo] at e817 hP817
              have hcnt : cN (fun k => decide (w2 46 k ≠ w 46 k)) 36 = c2N (fun x y => decide (invF (wN W) (wF W) x y ≠ wF W x y)) (wN W) (wN W) := cN_sq hn.2 (fun x y hx hy => by
                have h2 : w 46 (6 * x + y) = (wF W x y : Int) := (hX.1.2.2 x y hx hy).1
                simp only [hinv x y hx hy, h2]
                congr 1
                exact propext ⟨fun q z => q (by rw [z]), fun q z => q (by omega)⟩) (fun x y hx hy h => by
                simp only [ho2 (6 * x + y) (by omega) (by rw [show (6 * x + y) / 6 = x by omega, show (6 * x + y) % 6 = y by omega]; exact h)]; simp)
              have hcl2 := c2N_le (p := fun x y => decide (invF (wN W) (wF W) x y ≠ wF W x y)) hn.2 (wN W)
              have e817b : x817 = ci := by rw [ec, show k = 36 by omega, hcnt]; exact e817
              have hci : ci = ((c2N (fun x y => decide (invF (wN W) (wF W) x y ≠ wF W x y)) (wN W) (wN W) : Nat) : Int) := by rw [ec, show k = 36 by omega, hcnt]
              refine go_iload (j := 13) (q := 822) rfl dL_law_820 rfl ?_
              refine go_if_eqF (q := 825) (t := 830) dL_law_822 rfl (by decide) (by decide) ?_
              refine go_iload (j := 14) (q := 827) rfl dL_law_825 rfl ?_
              refine go_goto (q := 832) dL_law_827 (by decide) ?_
              refine go_icmp_eq2 (q := 835) (t := 837) dL_law_832 (by decide) rfl (by omega) (fun c832 => ?_) (fun c832 => ?_)
              · refine go_goto (q := 1576) dL_law_837 (by decide) ?_
                refine go_drop (n := 48) (ls2 := [_, _, _, _, _, _, _, _, _, _, _, _, _, _, _, none, _, _, _, _, _]) shA_len (by decide) rfl shA_ne rfl ?_
                refine hN _ _ _ _ _ _ _ _ _ _ _ _ _ _ _ w817 (psh W (tS W (wN W) (invF (wN W) (wF W)))) hP817 ⟨⟨by rw [f817 _ _ (by omega), g02]; rfl, hn, fun x y hx hy => ?_⟩, by rw [f817 _ _ (by omega), f2 _ _ (by omega), f1 _ _ (by omega)]; exact hX.2.1, LC_same hX.2.2 (by rw [f817 _ _ (by omega), f2 _ _ (by omega), f1 _ _ (by omega)]) (fun k => by rw [f817 _ _ (by omega), f2 _ _ (by omega), f1 _ _ (by omega)])⟩
                change x < wN W at hx
                change y < wN W at hy
                exact ⟨by rw [f817 _ _ (by omega)]; exact hinv x y hx hy, (invF_at (hcan y hy) hx).1⟩
              · exact absurd e817b c832
            · have hcl := cN_le (fun k => decide (w2 46 k ≠ w 46 k)) k
              have hok := hold k (by omega)
              have hiff : wr (w2 46 k) = wr (w 46 k) ↔ w2 46 k = w 46 k := by
                by_cases q : k / 6 < wN W ∧ k % 6 < wN W
                · have h1 := hinv (k / 6) (k % 6) q.1 q.2
                  have h2 := hX.1.2.2 (k / 6) (k % 6) q.1 q.2
                  have h3 := (invF_at (hcan _ q.2) q.1).1
                  rw [show 6 * (k / 6) + k % 6 = k by omega] at h1 h2
                  have h4 : w 46 k = (wF W (k / 6) (k % 6) : Int) := h2.1
                  rw [wr_of (by omega) (by omega), wr_of (by omega) (by omega)]
                · rw [ho2 k (by omega) q]; simp
              refine go_iload (j := 14) (q := 790) rfl dL_law_788 rfl ?_
              refine go_aload_n (j := 3) (q := 791) rfl rfl dL_law_790 rfl ?_
              refine go_iload (j := 16) (q := 793) rfl dL_law_791 rfl ?_
              refine go_iald (j := k) (q := 794) (by first | assumption | rfl) (wr_eq (by omega)) (by omega) dL_law_793 rfl ?_
              refine go_aload (j := 15) (q := 796) rfl dL_law_794 rfl ?_
              refine go_iload (j := 16) (q := 798) rfl dL_law_796 rfl ?_
              refine go_iald (j := k) (q := 799) (by first | assumption | rfl) (wr_eq (by omega)) (by omega) dL_law_798 rfl ?_
              rw [hok]
              refine go_icmp_ne (q := 802) (t := 806) dL_law_799 (by decide) rfl (fun c799 => ?_) (fun c799 => ?_)
              · have hne : w2 46 k ≠ w 46 k := fun z => c799 (hiff.mpr z)
                have hs1 : ci + 1 = (cN (fun k => decide (w2 46 k ≠ w 46 k)) (k + 1) : Nat) := by
                  simp only [cN]
                  rw [if_pos (by simp [hne])]; omega
                refine go_iconst (q := 807) dL_law_806 rfl ?_
                refine go_iadd (q := 808) dL_law_807 rfl ?_
                refine go_istore (j := 14) (q := 810) (ls2 := [_, _, _, _, _, _, _, _, _, _, _, _, _, _, _, _, _, _, _, _, _]) (by decide) rfl rfl dL_law_808 rfl ?_
                refine go_iinc (j := 16) (q := 813) (ls2 := [_, _, _, _, _, _, _, _, _, _, _, _, _, _, _, _, _, _, _, _, _]) rfl (by decide) rfl rfl dL_law_810 rfl ?_
                refine go_goto (q := 781) dL_law_813 (by decide) ?_
                exact ih781 _ (by omega) (k + 1) _ _ _ (by omega) (by omega) hs1 rfl
              · have heq : w2 46 k = w 46 k := hiff.mp (Classical.not_not.mp c799)
                have hs1 : ci + 0 = (cN (fun k => decide (w2 46 k ≠ w 46 k)) (k + 1) : Nat) := by
                  simp only [cN]
                  rw [if_neg (by simp [heq])]; omega
                refine go_iconst (q := 803) dL_law_802 rfl ?_
                refine go_goto (q := 807) dL_law_803 (by decide) ?_
                refine go_iadd (q := 808) dL_law_807 rfl ?_
                refine go_istore (j := 14) (q := 810) (ls2 := [_, _, _, _, _, _, _, _, _, _, _, _, _, _, _, _, _, _, _, _, _]) (by decide) rfl rfl dL_law_808 rfl ?_
                refine go_iinc (j := 16) (q := 813) (ls2 := [_, _, _, _, _, _, _, _, _, _, _, _, _, _, _, _, _, _, _, _, _]) rfl (by decide) rfl rfl dL_law_810 rfl ?_
                refine go_goto (q := 781) dL_law_813 (by decide) ?_
                exact ih781 _ (by omega) (k + 1) _ _ _ (by omega) (by omega) hs1 rfl
          exact lp781 _ 0 _ _ _ rfl (by omega) rfl rfl
        · refine go_iload (j := 13) (q := 731) rfl dL_law_729 rfl ?_
          refine go_if_eqF (q := 734) (t := 778) dL_law_731 rfl (by decide) (by decide) ?_
          refine go_iconst (q := 735) dL_law_734 rfl ?_
          refine go_istore (j := 17) (q := 737) (ls2 := [_, _, _, _, _, _, _, _, _, _, _, _, _, _, _, _, _, _, _, _, _]) (by decide) rfl rfl dL_law_735 rfl ?_
          have lp737 : ∀ (m737 : Nat) (j : Nat) (yi2 : Int) (w3 : Mem) (ej : yi2 = j) (hj : j ≤ wN W) (f3 : ∀ c k, c ≠ 46 → w3 c k = w1 c k) (hd3 : ∀ x y, (x < i ∨ (x = i ∧ y < j)) → y < wN W → w3 46 (6 * wF W x y + y) = (x : Int)) (ho3 : ∀ k, k < 36 → ¬ (k / 6 < wN W ∧ k % 6 < wN W) → w3 46 k = w 46 k), m737 = wN W - j → gL_law l D ck (adx ad 48 x689) (shA ++ [rInt 36]) B VT 737 [some (vR 2000), some (vR 0), some (vR 45), some (vR 46), some (vR 47), some (vI ti), some (vI xi), some (vI yi), some (vI ki), some (vI ni), some (vI fi), some (vI ai), some (vI bi), some (vI 1), some (vI 0), some (vR 48), some (vI xi2), some (vI yi2), none, none, none] [] w3 K := by
            intro m737
            induction m737 using Nat.strongRecOn with
            | _ m737 ih737 =>
            intro j yi2 w3 ej hj f3 hd3 ho3 em737
            have g03 : w3 45 0 = (wN W : Int) := by rw [f3 _ _ (by omega), f1 _ _ (by omega)]; exact g0
            refine go_iload (j := 17) (q := 739) rfl dL_law_737 rfl ?_
            refine go_aload_n (j := 2) (q := 740) rfl rfl dL_law_739 rfl ?_
            refine go_iconst (q := 741) dL_law_740 rfl ?_
            refine go_iald (j := 0) (q := 742) (by first | assumption | rfl) (wr_eq (by omega)) (by omega) dL_law_741 rfl ?_
            refine go_icmp_ge2 (q := 745) (t := 772) dL_law_742 (by decide) rfl (by omega) (fun c742 => ?_) (fun c742 => ?_)
            · refine go_iinc (j := 16) (q := 775) (ls2 := [_, _, _, _, _, _, _, _, _, _, _, _, _, _, _, _, _, _, _, _, _]) rfl (by decide) rfl rfl dL_law_772 rfl ?_
              refine go_goto (q := 721) dL_law_775 (by decide) ?_
              exact ih721 _ (by omega) (i + 1) _ _ _ (by omega) (by omega) f3 (fun x y hx hy => hd3 x y (by omega) hy) ho3 rfl
            · have hd := hX.1.2.2 i j (by omega) (by omega)
              have e48 : w3 48 (6 * i + j) = (wF W i j : Int) := by rw [f3 _ _ (by omega), hd1 _ (by omega)]; exact hd.1
              refine go_aload_n (j := 3) (q := 746) rfl rfl dL_law_745 rfl ?_
              refine go_bipush (q := 748) rfl dL_law_746 rfl ?_
              refine go_aload (j := 15) (q := 750) rfl dL_law_748 rfl ?_
              refine go_bipush (q := 752) rfl dL_law_750 rfl ?_
              refine go_iload (j := 16) (q := 754) rfl dL_law_752 rfl ?_
              refine go_imul (q := 755) dL_law_754 rfl ?_
              refine go_iload (j := 17) (q := 757) rfl dL_law_755 rfl ?_
              refine go_iadd (q := 758) dL_law_757 rfl ?_
              refine go_iald (j := 6 * i + j) (q := 759) (by first | assumption | rfl) (wr_eq (by omega)) (by omega) dL_law_758 rfl ?_
              rw [e48]
              refine go_imul (q := 760) dL_law_759 rfl ?_
              refine go_iload (j := 17) (q := 762) rfl dL_law_760 rfl ?_
              refine go_iadd (q := 763) dL_law_762 rfl ?_
              refine go_iload (j := 16) (q := 765) rfl dL_law_763 rfl ?_
              refine go_iast (j := 6 * wF W i j + j) (q := 766) (by first | assumption | rfl) (wr_eq (by omega)) (by omega) dL_law_765 rfl ?_
              refine go_iinc (j := 17) (q := 769) (ls2 := [_, _, _, _, _, _, _, _, _, _, _, _, _, _, _, _, _, _, _, _, _]) rfl (by decide) rfl rfl dL_law_766 rfl ?_
              refine go_goto (q := 737) dL_law_769 (by decide) ?_
              exact ih737 _ (by omega) (j + 1) _ _ (by omega) (by omega) (fun c k h => by rw [mup_ne (Or.inl h)]; exact f3 c k h) (by
                intro x y hx hy
                by_cases q : x = i ∧ y = j
                · rw [q.1, q.2, mup_eq]; exact ei
                · rw [mup_ne (Or.inr (by
                    intro e
                    have h1 := hr x y (by omega) hy
                    have hyj : y = j := by omega
                    subst hyj
                    have hf : wF W x y = wF W i y := by omega
                    exact q ⟨prm_inj hn.2 (fun i hi => hr i y hi hy) (hcan y hy) (by omega) (by omega) hf, rfl⟩))]
                  exact hd3 x y (by omega) hy) (fun k hk h => by
                rw [mup_ne (Or.inr (by intro e; apply h; subst e; exact ⟨by omega, by omega⟩))]; exact ho3 k hk h) rfl
          exact lp737 _ 0 _ _ rfl (by omega) f2 (fun x y h hy => hd2 x y (by omega) hy) ho2 rfl
      exact lp721 _ 0 _ _ _ rfl (by omega) (fun c k _ => rfl) (fun x y h => absurd h (Nat.not_lt_zero x)) (fun k _ _ => f1 _ _ (by omega)) rfl
    · refine go_aload (j := 15) (q := 705) rfl dL_law_703 rfl ?_
      refine go_iload (j := 16) (q := 707) rfl dL_law_705 rfl ?_
      refine go_aload_n (j := 3) (q := 708) rfl rfl dL_law_707 rfl ?_
      refine go_iload (j := 16) (q := 710) rfl dL_law_708 rfl ?_
      refine go_iald (j := i) (q := 711) (by first | assumption | rfl) (wr_eq (by omega)) (by omega) dL_law_710 rfl ?_
      refine go_iast (j := i) (q := 712) (by first | assumption | rfl) (wr_eq (by omega)) (by omega) dL_law_711 rfl ?_
      refine go_iinc (j := 16) (q := 715) (ls2 := [_, _, _, _, _, _, _, _, _, _, _, _, _, _, _, _, _, _, _, _, _]) rfl (by decide) rfl rfl dL_law_712 rfl ?_
      refine go_goto (q := 696) dL_law_715 (by decide) ?_
      exact ih696 _ (by omega) (i + 1) _ _ (by omega) (by omega) (fun c k h => by rw [mup_ne (Or.inl h)]; exact f1 c k h) (by
        intro k hk
        by_cases q : k = i
        · rw [q, mup_eq]; exact f1 _ _ (by omega)
        · rw [mup_ne (by omega)]; exact hd1 k (by omega)) rfl
  exact lp696 _ 0 _ _ rfl (by omega) (fun c k h => mz_ne h) (fun j h => absurd h (Nat.not_lt_zero j)) rfl
theorem lk_inv0 (hN : NxL l D ck ad B ti K) (hP : PXW w W) (hX : LX w W) (hcan : ¬ ∀ y, y < wN W → prm (wN W) (wF W) y) :
    gL_law l D ck ad shA (B + 1) VT 684 [some (vR 2000), some (vR 0), some (vR 45), some (vR 46), some (vR 47), some (vI ti), some (vI xi), some (vI yi), some (vI ki), some (vI ni), some (vI fi), some (vI ai), some (vI bi), some (vI 0), none, none, none, none, none, none, none] [] w K := by
  have g0 : w 45 0 = (wN W : Int) := hX.1.1
  have hn := hX.1.2.1
  have hr : ∀ i j, i < wN W → j < wN W → wF W i j < wN W := fun i j hi hj => (hX.1.2.2 i j hi hj).2
  refine go_iconst (q := 685) dL_law_684 rfl ?_
  refine go_istore (j := 14) (q := 687) (ls2 := [_, _, _, _, _, _, _, _, _, _, _, _, _, _, _, _, _, _, _, _, _]) (by decide) rfl rfl dL_law_685 rfl ?_
  refine go_bipush (q := 689) rfl dL_law_687 rfl ?_
  refine go_newa (n := 48) (N := 36) (q := 691) shA_len (by decide) ⟨by decide +kernel, by decide⟩ rfl rfl shA_ne dL_law_689 rfl (fun x689 => ?_)
  have hs48 : (shA ++ [rInt 36])[48]? = some (rInt 36) := rfl
  have hs46 : (shA ++ [rInt 36])[46]? = some (rInt 36) := rfl
  have hs45 : (shA ++ [rInt 36])[45]? = some (rInt 3) := rfl
  have hs0 : (shA ++ [rInt 36])[0]? = some (.inl (6, [some 1, some 3, some 5, some 10, some 12, some 16, some 18])) := rfl
  refine go_astore (j := 15) (q := 693) (ls2 := [_, _, _, _, _, _, _, _, _, _, _, _, _, _, _, _, _, _, _, _, _]) (by decide) rfl rfl dL_law_691 rfl ?_
  refine go_iconst (q := 694) dL_law_693 rfl ?_
  refine go_istore (j := 16) (q := 696) (ls2 := [_, _, _, _, _, _, _, _, _, _, _, _, _, _, _, _, _, _, _, _, _]) (by decide) rfl rfl dL_law_694 rfl ?_
  have lp696 : ∀ (m696 : Nat) (i : Nat) (ii : Int) (w1 : Mem) (ei : ii = i) (hi : i ≤ 36) (f1 : ∀ c k, c ≠ 48 → w1 c k = w c k) (hd1 : ∀ k, k < i → w1 48 k = w 46 k), m696 = 36 - i → gL_law l D ck (adx ad 48 x689) (shA ++ [rInt 36]) B VT 696 [some (vR 2000), some (vR 0), some (vR 45), some (vR 46), some (vR 47), some (vI ti), some (vI xi), some (vI yi), some (vI ki), some (vI ni), some (vI fi), some (vI ai), some (vI bi), some (vI 0), some (vI 0), some (vR 48), some (vI ii), none, none, none, none] [] w1 K := by
    intro m696
    induction m696 using Nat.strongRecOn with
    | _ m696 ih696 =>
    intro i ii w1 ei hi f1 hd1 em696
    refine go_iload (j := 16) (q := 698) rfl dL_law_696 rfl ?_
    refine go_bipush (q := 700) rfl dL_law_698 rfl ?_
    refine go_icmp_ge2 (q := 703) (t := 718) dL_law_700 (by decide) rfl (by omega) (fun c700 => ?_) (fun c700 => ?_)
    · refine go_iconst (q := 719) dL_law_718 rfl ?_
      refine go_istore (j := 16) (q := 721) (ls2 := [_, _, _, _, _, _, _, _, _, _, _, _, _, _, _, _, _, _, _, _, _]) (by decide) rfl rfl dL_law_719 rfl ?_
      have g02 : w1 45 0 = (wN W : Int) := by rw [f1 _ _ (by omega)]; exact g0
      refine go_iload (j := 16) (q := 723) rfl dL_law_721 rfl ?_
      refine go_aload_n (j := 2) (q := 724) rfl rfl dL_law_723 rfl ?_
      refine go_iconst (q := 725) dL_law_724 rfl ?_
      refine go_iald (j := 0) (q := 726) (by first | assumption | rfl) (wr_eq (by omega)) (by omega) dL_law_725 rfl ?_
      refine go_icmp_ge2 (q := 729) (t := 778) dL_law_726 (by decide) rfl (by omega) (fun c726 => ?_) (fun c726 => ?_)
      · have hold : ∀ k, k < 36 → w1 48 k = w 46 k := fun k hk => hd1 k (by omega)
        have hsame : ∀ k, w1 46 k = w 46 k := fun k => f1 _ _ (by omega)
        refine go_iconst (q := 779) dL_law_778 rfl ?_
        refine go_istore (j := 16) (q := 781) (ls2 := [_, _, _, _, _, _, _, _, _, _, _, _, _, _, _, _, _, _, _, _, _]) (by decide) rfl rfl dL_law_779 rfl ?_
        have lp781 : ∀ (m781 : Nat) (k : Nat) (ci kk : Int) (ek : kk = k) (hk : k ≤ 36) (ec : ci = (cN (fun k => decide (w1 46 k ≠ w 46 k)) k : Nat)), m781 = 36 - k → gL_law l D ck (adx ad 48 x689) (shA ++ [rInt 36]) B VT 781 [some (vR 2000), some (vR 0), some (vR 45), some (vR 46), some (vR 47), some (vI ti), some (vI xi), some (vI yi), some (vI ki), some (vI ni), some (vI fi), some (vI ai), some (vI bi), some (vI 0), some (vI ci), some (vR 48), some (vI kk), none, none, none, none] [] w1 K := by
          intro m781
          induction m781 using Nat.strongRecOn with
          | _ m781 ih781 =>
          intro k ci kk ek hk ec em781
          refine go_iload (j := 16) (q := 783) rfl dL_law_781 rfl ?_
          refine go_bipush (q := 785) rfl dL_law_783 rfl ?_
          refine go_icmp_ge2 (q := 788) (t := 816) dL_law_785 (by decide) rfl (by omega) (fun c785 => ?_) (fun c785 => ?_)
          · have hPm : PXW w1 W := PXW_q hP (fun c k h => by rw [f1 c k (by omega)])
            refine go_aload_n (j := 1) (q := 817) rfl rfl dL_law_816 rfl ?_
            refine go_callVi (as := [_]) (As := []) (rest := []) (n := 0) (q := 820) dL_law_817 lk_L_151 (ci := 6) (N := 7) (T := TX6) rfl (by first | assumption | rfl) rfl rfl (by decide +kernel) rfl ⟨by decide, by decide⟩ ⟨rfl, rfl⟩ (Nat.le_of_ble_eq_true rfl) (lift_XR rfl (ex5 hPm)) rfl (fun x817 w817 h817 => ?_)
            obtain ⟨e817, hP817, f817⟩ := h817
            have eo : op5 W = (-3, W) := by unfold op5; rw [cif_f hcan]
            rw [eo] at e817 hP817
            have e817b : x817 = -3 := e817
            refine go_iload (j := 13) (q := 822) rfl dL_law_820 rfl ?_
            refine go_if_eqT (t := 830) dL_law_822 (by decide) (by decide) ?_
            refine go_bipush (q := 832) rfl dL_law_830 rfl ?_
            refine go_icmp_eq2 (q := 835) (t := 837) dL_law_832 (by decide) rfl (by omega) (fun c832 => ?_) (fun c832 => ?_)
            · refine go_goto (q := 1576) dL_law_837 (by decide) ?_
              refine go_drop (n := 48) (ls2 := [_, _, _, _, _, _, _, _, _, _, _, _, _, _, _, none, _, _, _, _, _]) shA_len (by decide) rfl shA_ne rfl ?_
              exact hN _ _ _ _ _ _ _ _ _ _ _ _ _ _ _ w817 W hP817 (LX_same hX (fun c k h1 h2 => by rw [f817 c k h1]; exact f1 c k (by omega)))
            · exact absurd e817b c832
          · have hcl := cN_le (fun k => decide (w1 46 k ≠ w 46 k)) k
            have hok := hold k (by omega)
            have hiff : wr (w1 46 k) = wr (w 46 k) ↔ w1 46 k = w 46 k := by rw [hsame k]; simp
            refine go_iload (j := 14) (q := 790) rfl dL_law_788 rfl ?_
            refine go_aload_n (j := 3) (q := 791) rfl rfl dL_law_790 rfl ?_
            refine go_iload (j := 16) (q := 793) rfl dL_law_791 rfl ?_
            refine go_iald (j := k) (q := 794) (by first | assumption | rfl) (wr_eq (by omega)) (by omega) dL_law_793 rfl ?_
            refine go_aload (j := 15) (q := 796) rfl dL_law_794 rfl ?_
            refine go_iload (j := 16) (q := 798) rfl dL_law_796 rfl ?_
            refine go_iald (j := k) (q := 799) (by first | assumption | rfl) (wr_eq (by omega)) (by omega) dL_law_798 rfl ?_
            rw [hok]
            refine go_icmp_ne (q := 802) (t := 806) dL_law_799 (by decide) rfl (fun c799 => ?_) (fun c799 => ?_)
            · have hne : w1 46 k ≠ w 46 k := fun z => c799 (hiff.mpr z)
              have hs1 : ci + 1 = (cN (fun k => decide (w1 46 k ≠ w 46 k)) (k + 1) : Nat) := by
                simp only [cN]
                rw [if_pos (by simp [hne])]; omega
              refine go_iconst (q := 807) dL_law_806 rfl ?_
              refine go_iadd (q := 808) dL_law_807 rfl ?_
              refine go_istore (j := 14) (q := 810) (ls2 := [_, _, _, _, _, _, _, _, _, _, _, _, _, _, _, _, _, _, _, _, _]) (by decide) rfl rfl dL_law_808 rfl ?_
              refine go_iinc (j := 16) (q := 813) (ls2 := [_, _, _, _, _, _, _, _, _, _, _, _, _, _, _, _, _, _, _, _, _]) rfl (by decide) rfl rfl dL_law_810 rfl ?_
              refine go_goto (q := 781) dL_law_813 (by decide) ?_
              exact ih781 _ (by omega) (k + 1) _ _ (by omega) (by omega) hs1 rfl
            · have heq : w1 46 k = w 46 k := hiff.mp (Classical.not_not.mp c799)
              have hs1 : ci + 0 = (cN (fun k => decide (w1 46 k ≠ w 46 k)) (k + 1) : Nat) := by
                simp only [cN]
                rw [if_neg (by simp [heq])]; omega
              refine go_iconst (q := 803) dL_law_802 rfl ?_
              refine go_goto (q := 807) dL_law_803 (by decide) ?_
              refine go_iadd (q := 808) dL_law_807 rfl ?_
              refine go_istore (j := 14) (q := 810) (ls2 := [_, _, _, _, _, _, _, _, _, _, _, _, _, _, _, _, _, _, _, _, _]) (by decide) rfl rfl dL_law_808 rfl ?_
              refine go_iinc (j := 16) (q := 813) (ls2 := [_, _, _, _, _, _, _, _, _, _, _, _, _, _, _, _, _, _, _, _, _]) rfl (by decide) rfl rfl dL_law_810 rfl ?_
              refine go_goto (q := 781) dL_law_813 (by decide) ?_
              exact ih781 _ (by omega) (k + 1) _ _ (by omega) (by omega) hs1 rfl
        exact lp781 _ 0 _ _ rfl (by omega) rfl rfl
      · refine go_iload (j := 13) (q := 731) rfl dL_law_729 rfl ?_
        refine go_if_eqT (t := 778) dL_law_731 (by decide) (by decide) ?_
        have hold : ∀ k, k < 36 → w1 48 k = w 46 k := fun k hk => hd1 k (by omega)
        have hsame : ∀ k, w1 46 k = w 46 k := fun k => f1 _ _ (by omega)
        refine go_iconst (q := 779) dL_law_778 rfl ?_
        refine go_istore (j := 16) (q := 781) (ls2 := [_, _, _, _, _, _, _, _, _, _, _, _, _, _, _, _, _, _, _, _, _]) (by decide) rfl rfl dL_law_779 rfl ?_
        have lp781 : ∀ (m781 : Nat) (k : Nat) (ci kk : Int) (ek : kk = k) (hk : k ≤ 36) (ec : ci = (cN (fun k => decide (w1 46 k ≠ w 46 k)) k : Nat)), m781 = 36 - k → gL_law l D ck (adx ad 48 x689) (shA ++ [rInt 36]) B VT 781 [some (vR 2000), some (vR 0), some (vR 45), some (vR 46), some (vR 47), some (vI ti), some (vI xi), some (vI yi), some (vI ki), some (vI ni), some (vI fi), some (vI ai), some (vI bi), some (vI 0), some (vI ci), some (vR 48), some (vI kk), none, none, none, none] [] w1 K := by
          intro m781
          induction m781 using Nat.strongRecOn with
          | _ m781 ih781 =>
          intro k ci kk ek hk ec em781
          refine go_iload (j := 16) (q := 783) rfl dL_law_781 rfl ?_
          refine go_bipush (q := 785) rfl dL_law_783 rfl ?_
          refine go_icmp_ge2 (q := 788) (t := 816) dL_law_785 (by decide) rfl (by omega) (fun c785 => ?_) (fun c785 => ?_)
          · have hPm : PXW w1 W := PXW_q hP (fun c k h => by rw [f1 c k (by omega)])
            refine go_aload_n (j := 1) (q := 817) rfl rfl dL_law_816 rfl ?_
            refine go_callVi (as := [_]) (As := []) (rest := []) (n := 0) (q := 820) dL_law_817 lk_L_151 (ci := 6) (N := 7) (T := TX6) rfl (by first | assumption | rfl) rfl rfl (by decide +kernel) rfl ⟨by decide, by decide⟩ ⟨rfl, rfl⟩ (Nat.le_of_ble_eq_true rfl) (lift_XR rfl (ex5 hPm)) rfl (fun x817 w817 h817 => ?_)
            obtain ⟨e817, hP817, f817⟩ := h817
            have eo : op5 W = (-3, W) := by unfold op5; rw [cif_f hcan]
            rw [eo] at e817 hP817
            have e817b : x817 = -3 := e817
            refine go_iload (j := 13) (q := 822) rfl dL_law_820 rfl ?_
            refine go_if_eqT (t := 830) dL_law_822 (by decide) (by decide) ?_
            refine go_bipush (q := 832) rfl dL_law_830 rfl ?_
            refine go_icmp_eq2 (q := 835) (t := 837) dL_law_832 (by decide) rfl (by omega) (fun c832 => ?_) (fun c832 => ?_)
            · refine go_goto (q := 1576) dL_law_837 (by decide) ?_
              refine go_drop (n := 48) (ls2 := [_, _, _, _, _, _, _, _, _, _, _, _, _, _, _, none, _, _, _, _, _]) shA_len (by decide) rfl shA_ne rfl ?_
              exact hN _ _ _ _ _ _ _ _ _ _ _ _ _ _ _ w817 W hP817 (LX_same hX (fun c k h1 h2 => by rw [f817 c k h1]; exact f1 c k (by omega)))
            · exact absurd e817b c832
          · have hcl := cN_le (fun k => decide (w1 46 k ≠ w 46 k)) k
            have hok := hold k (by omega)
            have hiff : wr (w1 46 k) = wr (w 46 k) ↔ w1 46 k = w 46 k := by rw [hsame k]; simp
            refine go_iload (j := 14) (q := 790) rfl dL_law_788 rfl ?_
            refine go_aload_n (j := 3) (q := 791) rfl rfl dL_law_790 rfl ?_
            refine go_iload (j := 16) (q := 793) rfl dL_law_791 rfl ?_
            refine go_iald (j := k) (q := 794) (by first | assumption | rfl) (wr_eq (by omega)) (by omega) dL_law_793 rfl ?_
            refine go_aload (j := 15) (q := 796) rfl dL_law_794 rfl ?_
            refine go_iload (j := 16) (q := 798) rfl dL_law_796 rfl ?_
            refine go_iald (j := k) (q := 799) (by first | assumption | rfl) (wr_eq (by omega)) (by omega) dL_law_798 rfl ?_
            rw [hok]
            refine go_icmp_ne (q := 802) (t := 806) dL_law_799 (by decide) rfl (fun c799 => ?_) (fun c799 => ?_)
            · have hne : w1 46 k ≠ w 46 k := fun z => c799 (hiff.mpr z)
              have hs1 : ci + 1 = (cN (fun k => decide (w1 46 k ≠ w 46 k)) (k + 1) : Nat) := by
                simp only [cN]
                rw [if_pos (by simp [hne])]; omega
              refine go_iconst (q := 807) dL_law_806 rfl ?_
              refine go_iadd (q := 808) dL_law_807 rfl ?_
              refine go_istore (j := 14) (q := 810) (ls2 := [_, _, _, _, _, _, _, _, _, _, _, _, _, _, _, _, _, _, _, _, _]) (by decide) rfl rfl dL_law_808 rfl ?_
              refine go_iinc (j := 16) (q := 813) (ls2 := [_, _, _, _, _, _, _, _, _, _, _, _, _, _, _, _, _, _, _, _, _]) rfl (by decide) rfl rfl dL_law_810 rfl ?_
              refine go_goto (q := 781) dL_law_813 (by decide) ?_
              exact ih781 _ (by omega) (k + 1) _ _ (by omega) (by omega) hs1 rfl
            · have heq : w1 46 k = w 46 k := hiff.mp (Classical.not_not.mp c799)
              have hs1 : ci + 0 = (cN (fun k => decide (w1 46 k ≠ w 46 k)) (k + 1) : Nat) := by
                simp only [cN]
                rw [if_neg (by simp [heq])]; omega
              refine go_iconst (q := 803) dL_law_802 rfl ?_
              refine go_goto (q := 807) dL_law_803 (by decide) ?_
              refine go_iadd (q := 808) dL_law_807 rfl ?_
              refine go_istore (j := 14) (q := 810) (ls2 := [_, _, _, _, _, _, _, _, _, _, _, _, _, _, _, _, _, _, _, _, _]) (by decide) rfl rfl dL_law_808 rfl ?_
              refine go_iinc (j := 16) (q := 813) (ls2 := [_, _, _, _, _, _, _, _, _, _, _, _, _, _, _, _, _, _, _, _, _]) rfl (by decide) rfl rfl dL_law_810 rfl ?_
              refine go_goto (q := 781) dL_law_813 (by decide) ?_
              exact ih781 _ (by omega) (k + 1) _ _ (by omega) (by omega) hs1 rfl
        exact lp781 _ 0 _ _ rfl (by omega) rfl rfl
    · refine go_aload (j := 15) (q := 705) rfl dL_law_703 rfl ?_
      refine go_iload (j := 16) (q := 707) rfl dL_law_705 rfl ?_
      refine go_aload_n (j := 3) (q := 708) rfl rfl dL_law_707 rfl ?_
      refine go_iload (j := 16) (q := 710) rfl dL_law_708 rfl ?_
      refine go_iald (j := i) (q := 711) (by first | assumption | rfl) (wr_eq (by omega)) (by omega) dL_law_710 rfl ?_
      refine go_iast (j := i) (q := 712) (by first | assumption | rfl) (wr_eq (by omega)) (by omega) dL_law_711 rfl ?_
      refine go_iinc (j := 16) (q := 715) (ls2 := [_, _, _, _, _, _, _, _, _, _, _, _, _, _, _, _, _, _, _, _, _]) rfl (by decide) rfl rfl dL_law_712 rfl ?_
      refine go_goto (q := 696) dL_law_715 (by decide) ?_
      exact ih696 _ (by omega) (i + 1) _ _ (by omega) (by omega) (fun c k h => by rw [mup_ne (Or.inl h)]; exact f1 c k h) (by
        intro k hk
        by_cases q : k = i
        · rw [q, mup_eq]; exact f1 _ _ (by omega)
        · rw [mup_ne (by omega)]; exact hd1 k (by omega)) rfl
  exact lp696 _ 0 _ _ rfl (by omega) (fun c k h => mz_ne h) (fun j h => absurd h (Nat.not_lt_zero j)) rfl
theorem lk_inv (hN : NxL l D ck ad B ti K) (hP : PXW w W) (hX : LX w W) :
    gL_law l D ck ad shA (B + 1) VT 666 [some (vR 2000), some (vR 0), some (vR 45), some (vR 46), some (vR 47), some (vI ti), some (vI xi), some (vI yi), some (vI ki), some (vI ni), some (vI fi), some (vI ai), some (vI bi), none, none, none, none, none, none, none, none] [] w K := by
  have g0 : w 45 0 = (wN W : Int) := hX.1.1
  have hn := hX.1.2.1
  have hr : ∀ i j, i < wN W → j < wN W → wF W i j < wN W := fun i j hi hj => (hX.1.2.2 i j hi hj).2
  refine go_iconst (q := 667) dL_law_666 rfl ?_
  refine go_aload_n (j := 2) (q := 668) rfl rfl dL_law_667 rfl ?_
  refine go_aload_n (j := 3) (q := 669) rfl rfl dL_law_668 rfl ?_
  refine go_callSi (as := [_, _, _]) (rest := []) (n := 3) (q := 672) dL_law_669 lk_L_22 rfl (by decide +kernel) rfl ⟨by decide, by decide⟩ ⟨rfl, rfl⟩ (Nat.le_of_ble_eq_true rfl) (el_vio2 hX.1) rfl (fun x669 w669 h669 => ?_)
  obtain ⟨h669, rfl⟩ := h669
  refine go_bipush (q := 674) rfl dL_law_672 rfl ?_
  refine go_icmp_ne2 (q := 677) (t := 681) dL_law_674 (by decide) rfl (by rcases h669 with ⟨z, z1, z2, z3, z4⟩ | ⟨z1, z2⟩ <;> omega) (fun c674 => ?_) (fun c674 => ?_)
  · have hcan : ¬ ∀ y, y < wN W → prm (wN W) (wF W) y := by
      rcases h669 with ⟨z, z1, z2, z3, z4⟩ | ⟨z1, z2⟩
      · exact fun q => z3 (q z z1)
      · omega
    refine go_iconst (q := 682) dL_law_681 rfl ?_
    first
    | (refine go_istore (j := 13) (q := 684) (ls2 := [_, _, _, _, _, _, _, _, _, _, _, _, _, _, _, _, _, _, _, _, _]) (by decide) rfl rfl dL_law_682 rfl ?_
       exact lk_inv1 hN hP hX hcan)
    | (refine go_istore (j := 13) (q := 684) (ls2 := [_, _, _, _, _, _, _, _, _, _, _, _, _, _, _, _, _, _, _, _, _]) (by decide) rfl rfl dL_law_682 rfl ?_
       exact lk_inv0 hN hP hX hcan)
  · have hcan : ∀ y, y < wN W → prm (wN W) (wF W) y := by
      rcases h669 with ⟨z, z1, z2, z3, z4⟩ | ⟨z1, z2⟩
      · omega
      · exact fun y hy => Classical.not_not.mp (z2 y hy)
    refine go_iconst (q := 678) dL_law_677 rfl ?_
    refine go_goto (q := 682) dL_law_678 (by decide) ?_
    first
    | (refine go_istore (j := 13) (q := 684) (ls2 := [_, _, _, _, _, _, _, _, _, _, _, _, _, _, _, _, _, _, _, _, _]) (by decide) rfl rfl dL_law_682 rfl ?_
       exact lk_inv1 hN hP hX hcan)
    | (refine go_istore (j := 13) (q := 684) (ls2 := [_, _, _, _, _, _, _, _, _, _, _, _, _, _, _, _, _, _, _, _, _]) (by decide) rfl rfl dL_law_682 rfl ?_
       exact lk_inv0 hN hP hX hcan)
end LAW10
