theorem prt_LC {w : Mem} {c k p : Nat} {g : Nat → Nat → Nat} {s : Nat → Int} (h : LC w c g s) (hk : k < c) (hp : p < 4) : w 47 (4 * k + p) = prt g s k p := by
  have hg := h.2.2 k hk
  unfold prt
  rcases (show p = 0 ∨ p = 1 ∨ p = 2 ∨ p = 3 by omega) with rfl | rfl | rfl | rfl
  · rw [if_neg (by omega)]; exact hg.1
  · rw [if_neg (by omega)]; exact hg.2.1
  · rw [if_neg (by omega)]; exact hg.2.2.1
  · rw [if_pos rfl]; exact hg.2.2.2
theorem ccG_step {n k : Nat} {lk : Nat → Nat → Prop} {cmp : Nat → Nat} (h : ∀ x y, x < n → ((cmp x).testBit y = true ↔ y < n ∧ cnn lk x y)) (hk : k < n) : (ccG cmp (k + 1)).2 = (ccG cmp k).2 ||| cmp k := by
  obtain ⟨-, h1⟩ := ccG_eq h k (by omega)
  obtain ⟨-, h2⟩ := ccG_eq h (k + 1) (by omega)
  apply Nat.eq_of_testBit_eq
  intro y
  have key : (ccG cmp (k + 1)).2.testBit y = true ↔ ((ccG cmp k).2 ||| cmp k).testBit y = true := by
    rw [h2 y, Nat.testBit_or, Bool.or_eq_true, h1 y, h k y hk]
    constructor
    · rintro ⟨h5, j, h6, h7⟩
      by_cases z : j = k
      · subst z; exact Or.inr ⟨h5, h7⟩
      · exact Or.inl ⟨h5, j, by omega, h7⟩
    · rintro (⟨h5, j, h6, h7⟩ | ⟨h5, h7⟩)
      · exact ⟨h5, j, by omega, h7⟩
      · exact ⟨h5, k, by omega, h7⟩
  cases h3 : (ccG cmp (k + 1)).2.testBit y <;> cases h4 : ((ccG cmp k).2 ||| cmp k).testBit y <;> rw [h3, h4] at key <;> simp at key <;> rfl
theorem ccG_one {cmp : Nat → Nat} {k : Nat} : (ccG cmp (k + 1)).1 = (ccG cmp k).1 + (if (ccG cmp k).2.testBit k = true then 0 else 1) := by
  show (if (ccG cmp k).2.testBit k = true then ccG cmp k else ((ccG cmp k).1 + 1, (ccG cmp k).2 ||| cmp k)).1 = _
  split <;> simp
theorem ccG_le {cmp : Nat → Nat} : ∀ k, (ccG cmp k).1 ≤ k
  | 0 => Nat.le_refl 0
  | k + 1 => by
    have := ccG_le (cmp := cmp) k
    rw [ccG_one]; split <;> omega
theorem and22 {u v x y : Nat} (hu : u < 128) (hv : v < 128) (hx : x < 8) (hy : y < 8) : andZ (andZ (shrZ (u : Int) (x : Int)) (shrZ (v : Int) (y : Int))) 1 = (if u.testBit x = true ∧ v.testBit y = true then 1 else 0) := by
  have h1 : u / 2 ^ x < 128 := Nat.lt_of_le_of_lt (Nat.div_le_self _ _) hu
  have h2 : v / 2 ^ y < 128 := Nat.lt_of_le_of_lt (Nat.div_le_self _ _) hv
  have h3 : u / 2 ^ x &&& v / 2 ^ y < 128 := Nat.lt_of_le_of_lt Nat.and_le_left h1
  rw [shrN (by omega) (by omega), shrN (by omega) (by omega), and_eq h1 h2]
  have h4 := bit_eq (a := u / 2 ^ x &&& v / 2 ^ y) (k := 0) h3 (by decide)
  have h5 : shrZ ((u / 2 ^ x &&& v / 2 ^ y : Nat) : Int) ((0 : Nat) : Int) = ((u / 2 ^ x &&& v / 2 ^ y : Nat) : Int) := by rw [shrN (by omega) (by decide)]; simp
  rw [h5] at h4
  rw [h4, Nat.testBit_and, Nat.testBit_div_two_pow, Nat.testBit_div_two_pow, Nat.zero_add, Nat.zero_add]
  cases u.testBit x <;> cases v.testBit y <;> simp
theorem lgF_1 {n : Nat} {f : Nat → Nat → Nat} (hn : 1 ≤ n) : lgF n f 1 = n := by
  show (if cloT n f 0 = 2 ^ n - 1 then (if n ≤ pc 0 then n else pc 0) else n) = n
  rw [if_neg]
  have h0 : cloT n f 0 = 0 := clo_0 n
  rw [h0]
  have : 2 ^ 1 ≤ 2 ^ n := Nat.pow_le_pow_right (by decide) hn
  omega
theorem lgF_le {n : Nat} {f : Nat → Nat → Nat} : ∀ k, lgF n f k ≤ n
  | 0 => Nat.le_refl n
  | k + 1 => by
    have := lgF_le (n := n) (f := f) k
    show (if cloT n f k = 2 ^ n - 1 then (if lgF n f k ≤ pc k then lgF n f k else pc k) else lgF n f k) ≤ n
    split
    · split <;> omega
    · exact this
theorem ccF_le {n : Nat} {f : Nat → Nat → Nat} : ∀ k, (ccF n f k).1 ≤ k
  | 0 => Nat.le_refl 0
  | k + 1 => by
    have := ccF_le (n := n) (f := f) k
    show (if (ccF n f k).2.testBit k = true then ccF n f k else ((ccF n f k).1 + 1, (ccF n f k).2 ||| cmpT n f k)).1 ≤ k + 1
    split
    · omega
    · show (ccF n f k).1 + 1 ≤ k + 1; omega
theorem lksD_s {g : Nat → Nat → Nat} {s : Nat → Int} {u v c : Nat} : lksD g s u v (c + 1) = if u.testBit (g c 0) = true ∧ v.testBit (g c 1) = true then lksD g s u v c + s c else lksD g s u v c := rfl
/-- the lowest one, sought from behind -/
def lowD (n u : Nat) (P : Nat → Prop) (v : Int) : Prop := (v = -6 ∧ ∀ i, u ≤ i → i < n → ¬ P i) ∨ ∃ i : Nat, (u ≤ i ∧ i < n) ∧ v = i ∧ P i ∧ ∀ j, u ≤ j → j < i → ¬ P j
theorem lowD_0 {n : Nat} {P : Nat → Prop} {v : Int} (h : lowD n 0 P v) : isLowP n P v := by
  rcases h with ⟨h1, h2⟩ | ⟨i, h1, h2, h3, h4⟩
  · exact Or.inr ⟨h1, fun i hi => h2 i (Nat.zero_le i) hi⟩
  · exact Or.inl ⟨i, h1.2, h2, h3, fun j hj => h4 j (Nat.zero_le j) hj⟩
theorem lowD_y {n u : Nat} {P : Nat → Prop} (hu : u < n) (hp : P u) : lowD n u P (u : Int) := Or.inr ⟨u, ⟨Nat.le_refl u, hu⟩, rfl, hp, fun j h1 h2 => absurd h2 (Nat.not_lt.mpr h1)⟩
theorem lowD_n {n u : Nat} {P : Nat → Prop} {v : Int} (hp : ¬ P u) (h : lowD n (u + 1) P v) : lowD n u P v := by
  rcases h with ⟨h1, h2⟩ | ⟨i, h1, h2, h3, h4⟩
  · refine Or.inl ⟨h1, fun i h3 h4 => ?_⟩
    by_cases q : i = u
    · rw [q]; exact hp
    · exact h2 i (by omega) h4
  · refine Or.inr ⟨i, ⟨by omega, h1.2⟩, h2, h3, fun j h5 h6 => ?_⟩
    by_cases q : j = u
    · rw [q]; exact hp
    · exact h4 j (by omega) h6
theorem grp_720 {n : Nat} {f : Nat → Nat → Nat} (hn : 1 ≤ n ∧ n ≤ 6) (hf : ∀ i j, i < n → j < n → f i j < n) (hp : ∀ y, y < n → prm n f y) : grpN n f ≤ 720 := by
  have key : ∀ k, goodQ n (bfsH n f k) := by
    intro k
    induction k with
    | zero => exact goodQ_0 hn.2
    | succ k ih =>
      show goodQ n (if k < (bfsH n f k).length then bfsY f ((bfsH n f k).getD k []) (bfsH n f k) n else bfsH n f k)
      split
      · next h =>
        have hpp := ih.2 _ (gD_mem h)
        have k2 : ∀ y, y ≤ n → goodQ n (bfsY f ((bfsH n f k).getD k []) (bfsH n f k) y) := by
          intro y
          induction y with
          | zero => intro _; exact ih
          | succ y ih2 => intro h2; exact goodQ_step hn.2 hf (hp y (by omega)) hpp (by omega) (ih2 (by omega))
        exact k2 n (Nat.le_refl n)
      · exact ih
  exact goodQ_len hn (key 720)
section LAW7
variable {l : Launch} {D : va_G} {ck : Nat → ClassId} {ad : Nat → Nat} {sh : List Shp} {w : Mem} {W : WA}
theorem el_same (hP0 : PXW w W) (hX0 : LX w W) {xi : Int} : eL_same l D ck ad shA [vR 0, vI xi, vR 45, vR 46, vR 47] w (Pz (fun w1 => PXW w1 W ∧ ∀ c k, 45 ≤ c → c < 48 → w1 c k = w c k) (fun _ => False)) := by
  have g0 : w 45 0 = ((wN W) : Int) := hX0.1.1
  have g1 : w 45 1 = ((wA W) : Int) := hX0.2.1
  have g2 : w 45 2 = ((wC W) : Int) := hX0.2.2.1
  have hn := hX0.1.2.1
  have hB := LB_of hP0
  have ha := hB.1
  have hc10 := hX0.2.2.2.1
  have h64 : 2 ^ (wN W) ≤ 2 ^ 6 := Nat.pow_le_pow_right (by decide) hn.2
  have h1p := Nat.one_le_two_pow (n := (wN W))
  have hr : ∀ i j, i < (wN W) → j < (wN W) → (wF W) i j < (wN W) := fun i j hi hj => (hX0.1.2.2 i j hi hj).2
  have hcT : ∀ x, x < (wN W) → cmpT (wN W) (wF W) x < 2 ^ (wN W) := fun x hx => itr_lt (fun m hm => rnd2_lt (stC_lt hr) hm) (two_lt hx) (wN W)
  have hclT : ∀ x, x < 2 ^ (wN W) → cloT (wN W) (wF W) x < 2 ^ (wN W) := fun x hx => itr_lt (fun m hm => rnd2_lt (stK_lt hr) hm) hx (wN W)
  have h128 : 2 ^ (wA W) ≤ 2 ^ 7 := Nat.pow_le_pow_right (by decide) ha.2
  have hg12 : ∀ k, k < (wC W) → (wG W) k 1 < (wA W) ∧ (wG W) k 2 < (wA W) := fun k hk => ⟨(hB.2 k hk).1.2.1, (hB.2 k hk).1.2.2⟩
  have hcD : ∀ x, x < (wA W) → cmpD (wA W) (wC W) (wG W) x < 2 ^ (wA W) := fun x hx => cmpD_lt hg12 hx
  have hbD : ∀ x y, x < (wA W) → ((cmpD (wA W) (wC W) (wG W) x).testBit y = true ↔ y < (wA W) ∧ cnn (lkD (wC W) (wG W)) x y) := fun x y hx => cmpD_bit ha.2 hg12 hx
  refine ev_of_goBK (B := 2) ⟨Nat.le_of_ble_eq_true rfl, Nat.le_of_ble_eq_true rfl⟩ (own := RL) (ls := [some (vR 0), some (vI xi), some (vR 45), some (vR 46), some (vR 47), none, none, none, none, none, none, none, none, none, none, none, none, none]) (by decide +kernel) rfl rfl (Nat.le_of_ble_eq_true rfl) rkZ ?_
  intro K hK
  have tail : ∀ (w0 : Mem) (ui vi ni si ki : Int) (o11 o12 o13 o14 o15 o16 o17 : Option MV), PXW w0 W → LX w0 W → (∀ c k, 45 ≤ c → c < 48 → w0 c k = w c k) → gL_same l D ck ad shA 0 (VW D ck ad shA) 405 [some (vR 0), some (vI xi), some (vR 45), some (vR 46), some (vR 47), some (vI ((wN W) : Int)), some (vI ui), some (vI vi), some (vI ni), some (vI si), some (vI ki), o11, o12, o13, o14, o15, o16, o17] [] w0 K := by
    intro w0 ui vi ni si ki o11 o12 o13 o14 o15 o16 o17 hP0 hX0 F0
    have g00 : w0 45 0 = ((wN W) : Int) := hX0.1.1
    have g01 : w0 45 1 = ((wA W) : Int) := hX0.2.1
    have g02 : w0 45 2 = ((wC W) : Int) := hX0.2.2.1
    refine go_bipush (q := 407) rfl dL_same_405 rfl ?_
    refine go_istore (j := 11) (q := 409) (ls2 := [_, _, _, _, _, _, _, _, _, _, _, _, _, _, _, _, _, _]) (by decide) rfl rfl dL_same_407 rfl ?_
    refine go_iconst (q := 410) dL_same_409 rfl ?_
    refine go_istore (j := 12) (q := 412) (ls2 := [_, _, _, _, _, _, _, _, _, _, _, _, _, _, _, _, _, _]) (by decide) rfl rfl dL_same_410 rfl ?_
    refine go_iconst (q := 413) dL_same_412 rfl ?_
    refine go_istore (j := 13) (q := 415) (ls2 := [_, _, _, _, _, _, _, _, _, _, _, _, _, _, _, _, _, _]) (by decide) rfl rfl dL_same_413 rfl ?_
    refine go_iconst (q := 416) dL_same_415 rfl ?_
    refine go_istore (j := 14) (q := 418) (ls2 := [_, _, _, _, _, _, _, _, _, _, _, _, _, _, _, _, _, _]) (by decide) rfl rfl dL_same_416 rfl ?_
    have lp418 : ∀ (m418 : Nat) (k : Nat) (ti ci di yi : Int) (o15 o16 o17 : Option MV) (w1 : Mem) (ek : yi = k) (hk : k ≤ (wC W)) (et : ti = sumZ (wS W) k + 100) (eci : ci = 0) (edi : di = 0) (hP1 : PXW w1 W) (hX1 : LX w1 W) (F1 : ∀ c k, 45 ≤ c → c < 48 → w1 c k = w c k), m418 = (wC W) - k → gL_same l D ck ad shA 0 (VW D ck ad shA) 418 [some (vR 0), some (vI xi), some (vR 45), some (vR 46), some (vR 47), (some (vI ((wN W) : Int))), some (vI ui), some (vI vi), some (vI ni), some (vI si), some (vI ki), some (vI ti), some (vI ci), some (vI di), some (vI yi), o15, o16, o17] [] w1 K := by
      intro m418
      induction m418 using Nat.strongRecOn with
      | _ m418 ih418 =>
      intro k ti ci di yi o15 o16 o17 w1 ek hk et eci edi hP1 hX1 F1 em418
      have g12 : w1 45 2 = ((wC W) : Int) := hX1.2.2.1
      refine go_iload (j := 14) (q := 420) rfl dL_same_418 rfl ?_
      refine go_aload_n (j := 2) (q := 421) rfl rfl dL_same_420 rfl ?_
      refine go_iconst (q := 422) dL_same_421 rfl ?_
      refine go_iald (j := 2) (q := 423) (by first | assumption | rfl) (wr_eq (by omega)) (by omega) dL_same_422 rfl ?_
      refine go_icmp_ge2 (q := 426) (t := 484) dL_same_423 (by decide) rfl (by omega) (fun c423 => ?_) (fun c423 => ?_)
      · have hts : ti = sumZ (wS W) (wC W) + 100 := by rw [et, show k = (wC W) by omega]
        have g11 : w1 45 1 = ((wA W) : Int) := hX1.2.1
        refine go_iconst (q := 485) dL_same_484 rfl ?_
        refine go_istore (j := 14) (q := 487) (ls2 := [_, _, _, _, _, _, _, _, _, _, _, _, _, _, _, _, _, _]) (by decide) rfl rfl dL_same_485 rfl ?_
        have lp487 : ∀ (m487 : Nat) (x : Nat) (ci2 di2 yi2 : Int) (o15 o16 o17 : Option MV) (ex : yi2 = x) (hx : x ≤ (wA W)) (ec : ci2 = ((ccG (cmpD (wA W) (wC W) (wG W)) x).1 : Nat)) (ed : di2 = ((ccG (cmpD (wA W) (wC W) (wG W)) x).2 : Nat)) (hd : (ccG (cmpD (wA W) (wC W) (wG W)) x).2 < 2 ^ (wA W)), m487 = (wA W) - x → gL_same l D ck ad shA 0 (VW D ck ad shA) 487 [some (vR 0), some (vI xi), some (vR 45), some (vR 46), some (vR 47), (some (vI ((wN W) : Int))), some (vI ui), some (vI vi), some (vI ni), some (vI si), some (vI ki), some (vI ti), some (vI ci2), some (vI di2), some (vI yi2), o15, o16, o17] [] w1 K := by
          intro m487
          induction m487 using Nat.strongRecOn with
          | _ m487 ih487 =>
          intro x ci2 di2 yi2 o15 o16 o17 ex hx ec ed hd em487
          have hcl := ccG_le (cmp := cmpD (wA W) (wC W) (wG W)) x
          refine go_iload (j := 14) (q := 489) rfl dL_same_487 rfl ?_
          refine go_aload_n (j := 2) (q := 490) rfl rfl dL_same_489 rfl ?_
          refine go_iconst (q := 491) dL_same_490 rfl ?_
          refine go_iald (j := 1) (q := 492) (by first | assumption | rfl) (wr_eq (by omega)) (by omega) dL_same_491 rfl ?_
          refine go_icmp_ge2 (q := 495) (t := 534) dL_same_492 (by decide) rfl (by omega) (fun c492 => ?_) (fun c492 => ?_)
          · have hcc : ci2 = ((ccG (cmpD (wA W) (wC W) (wG W)) (wA W)).1 : Nat) := by rw [ec, show x = (wA W) by omega]
            refine go_iload_n (j := 1) (q := 535) rfl rfl dL_same_534 rfl ?_
            refine go_iconst (q := 536) dL_same_535 rfl ?_
            refine go_ishr (q := 537) dL_same_536 rfl ?_
            refine go_aload_n (j := 2) (q := 538) rfl rfl dL_same_537 rfl ?_
            refine go_iconst (q := 539) dL_same_538 rfl ?_
            refine go_iald (j := 1) (q := 540) (by first | assumption | rfl) (wr_eq (by omega)) (by omega) dL_same_539 rfl ?_
            refine go_callSi (as := [_, _]) (rest := []) (n := 2) (q := 543) dL_same_540 lk_L_29 rfl (by decide +kernel) rfl ⟨by decide, by decide⟩ ⟨rfl, rfl⟩ (Nat.le_of_ble_eq_true rfl) (el_low (by omega)) rfl (fun x540 w540 h540 => ?_)
            obtain ⟨h540, rfl⟩ := h540
            refine go_istore (j := 14) (q := 545) (ls2 := [_, _, _, _, _, _, _, _, _, _, _, _, _, _, _, _, _, _]) (by decide) rfl rfl dL_same_543 rfl ?_
            refine go_iload_n (j := 1) (q := 546) rfl rfl dL_same_545 rfl ?_
            refine go_bipush (q := 548) rfl dL_same_546 rfl ?_
            refine go_ishr (q := 549) dL_same_548 rfl ?_
            refine go_aload_n (j := 2) (q := 550) rfl rfl dL_same_549 rfl ?_
            refine go_iconst (q := 551) dL_same_550 rfl ?_
            refine go_iald (j := 1) (q := 552) (by first | assumption | rfl) (wr_eq (by omega)) (by omega) dL_same_551 rfl ?_
            refine go_callSi (as := [_, _]) (rest := []) (n := 2) (q := 555) dL_same_552 lk_L_29 rfl (by decide +kernel) rfl ⟨by decide, by decide⟩ ⟨rfl, rfl⟩ (Nat.le_of_ble_eq_true rfl) (el_low (by omega)) rfl (fun x552 w552 h552 => ?_)
            obtain ⟨h552, rfl⟩ := h552
            refine go_istore (j := 15) (q := 557) (ls2 := [_, _, _, _, _, _, _, _, _, _, _, _, _, _, _, _, _, _]) (by decide) rfl rfl dL_same_555 rfl ?_
            have hca := hcD x540.toNat (by omega)
            have hcb := hcD x552.toNat (by omega)
            refine go_bipush (q := 559) rfl dL_same_557 rfl ?_
            refine go_istore (j := 16) (q := 561) (ls2 := [_, _, _, _, _, _, _, _, _, _, _, _, _, _, _, _, _, _]) (by decide) rfl rfl dL_same_559 rfl ?_
            refine go_iconst (q := 562) dL_same_561 rfl ?_
            refine go_istore (j := 17) (q := 564) (ls2 := [_, _, _, _, _, _, _, _, _, _, _, _, _, _, _, _, _, _]) (by decide) rfl rfl dL_same_562 rfl ?_
            have lp564 : ∀ (m564 : Nat) (k3 : Nat) (li yi3 : Int) (ek3 : yi3 = k3) (hk3 : k3 ≤ (wC W)) (el : li = lksD (wG W) (wS W) (cmpD (wA W) (wC W) (wG W) x540.toNat) (cmpD (wA W) (wC W) (wG W) x552.toNat) k3 + 100) (hlr : 100 - (k3 : Int) ≤ li ∧ li ≤ 100 + (k3 : Int)), m564 = (wC W) - k3 → gL_same l D ck ad shA 0 (VW D ck ad shA) 564 [some (vR 0), some (vI xi), some (vR 45), some (vR 46), some (vR 47), (some (vI ((wN W) : Int))), some (vI ui), some (vI vi), some (vI ni), some (vI si), some (vI ki), some (vI ti), some (vI ci2), some (vI di2), some (vI x540), some (vI x552), some (vI li), some (vI yi3)] [] w1 K := by
              intro m564
              induction m564 using Nat.strongRecOn with
              | _ m564 ih564 =>
              intro k3 li yi3 ek3 hk3 el hlr em564
              refine go_iload (j := 17) (q := 566) rfl dL_same_564 rfl ?_
              refine go_aload_n (j := 2) (q := 567) rfl rfl dL_same_566 rfl ?_
              refine go_iconst (q := 568) dL_same_567 rfl ?_
              refine go_iald (j := 2) (q := 569) (by first | assumption | rfl) (wr_eq (by omega)) (by omega) dL_same_568 rfl ?_
              refine go_icmp_ge2 (q := 572) (t := 637) dL_same_569 (by decide) rfl (by omega) (fun c569 => ?_) (fun c569 => ?_)
              · have hlk : li = lksD (wG W) (wS W) (cmpD (wA W) (wC W) (wG W) x540.toNat) (cmpD (wA W) (wC W) (wG W) x552.toNat) (wC W) + 100 := by rw [el, show k3 = (wC W) by omega]
                have hccl := ccG_le (cmp := cmpD (wA W) (wC W) (wG W)) (wA W)
                have hsr : -10 ≤ sumZ (wS W) (wC W) ∧ sumZ (wS W) (wC W) ≤ 10 := by
                  have key : ∀ k, k ≤ (wC W) → -(k : Int) ≤ sumZ (wS W) k ∧ sumZ (wS W) k ≤ k := by
                    intro k
                    induction k with
                    | zero => intro _; exact ⟨Int.le_refl 0, Int.le_refl 0⟩
                    | succ k ih =>
                      intro h
                      have h1 := ih (by omega)
                      have h2 := (hB.2 k (by omega)).2
                      have h3 : sumZ (wS W) (k + 1) = sumZ (wS W) k + (wS W) k := rfl
                      omega
                  have := key (wC W) (Nat.le_refl _)
                  omega
                refine go_aload_n (j := 2) (q := 638) rfl rfl dL_same_637 rfl ?_
                refine go_aload (j := 4) (q := 640) rfl dL_same_638 rfl ?_
                refine go_callSz (as := [_, _]) (rest := []) (n := 2) (q := 643) dL_same_640 lk_L_111 rfl (by decide +kernel) rfl ⟨by decide, by decide⟩ ⟨rfl, rfl⟩ (Nat.le_of_ble_eq_true rfl) (el_closed hX1.2.2 hB) rfl (fun w640 h640 => ?_) (fun w640 h640 => ?_)
                · obtain ⟨rfl, h640⟩ := h640
                  refine go_istore (j := 17) (q := 645) (ls2 := [_, _, _, _, _, _, _, _, _, _, _, _, _, _, _, _, _, _]) (by decide) rfl rfl dL_same_643 rfl ?_
                  refine go_aload_n (j := 0) (q := 646) rfl rfl dL_same_645 rfl ?_
                  refine go_callVi (as := [_]) (As := []) (rest := []) (n := 0) (q := 649) dL_same_646 lk_L_115 (ci := 6) (N := 7) (T := TX6) rfl (by first | assumption | rfl) rfl rfl (by decide +kernel) rfl ⟨by decide, by decide⟩ ⟨rfl, rfl⟩ (Nat.le_of_ble_eq_true rfl) (ex24 hP1) rfl (fun x646 w646 h646 => ?_)
                  obtain ⟨e646, hP646, f646⟩ := h646
                  have hP646 : PXW w646 W := hP646
                  have hX646 : LX w646 W := LX_same hX1 (fun c k h1 h2 => f646 c k h1)
                  have F646 : ∀ c k, 45 ≤ c → c < 48 → w646 c k = w c k := fun c k h1 h2 => by rw [f646 c k h1]; exact F1 c k h1 h2
                  have q646 : x646 = ((wA W) : Int) := e646
                  have g646 : w646 45 1 = ((wA W) : Int) := hX646.2.1
                  refine go_aload_n (j := 2) (q := 650) rfl rfl dL_same_649 rfl ?_
                  refine go_iconst (q := 651) dL_same_650 rfl ?_
                  refine go_iald (j := 1) (q := 652) (by first | assumption | rfl) (wr_eq (by omega)) (by omega) dL_same_651 rfl ?_
                  refine go_icmp_ne2 (q := 655) (t := 743) dL_same_652 (by decide) rfl (by omega) (fun c652 => ?_) (fun c652 => ?_)
                  · exact absurd (q646.trans g646.symm) c652
                  · refine go_aload_n (j := 0) (q := 656) rfl rfl dL_same_655 rfl ?_
                    refine go_callVi (as := [_]) (As := []) (rest := []) (n := 0) (q := 659) dL_same_656 lk_L_118 (ci := 6) (N := 7) (T := TX6) rfl (by first | assumption | rfl) rfl rfl (by decide +kernel) rfl ⟨by decide, by decide⟩ ⟨rfl, rfl⟩ (Nat.le_of_ble_eq_true rfl) (ex25 hP646) rfl (fun x656 w656 h656 => ?_)
                    obtain ⟨e656, hP656, f656⟩ := h656
                    have hP656 : PXW w656 W := hP656
                    have hX656 : LX w656 W := LX_same hX646 (fun c k h1 h2 => f656 c k h1)
                    have F656 : ∀ c k, 45 ≤ c → c < 48 → w656 c k = w c k := fun c k h1 h2 => by rw [f656 c k h1]; exact F646 c k h1 h2
                    have q656 : x656 = ((wC W) : Int) := e656
                    have g656 : w656 45 2 = ((wC W) : Int) := hX656.2.2.1
                    refine go_aload_n (j := 2) (q := 660) rfl rfl dL_same_659 rfl ?_
                    refine go_iconst (q := 661) dL_same_660 rfl ?_
                    refine go_iald (j := 2) (q := 662) (by first | assumption | rfl) (wr_eq (by omega)) (by omega) dL_same_661 rfl ?_
                    refine go_icmp_ne2 (q := 665) (t := 743) dL_same_662 (by decide) rfl (by omega) (fun c662 => ?_) (fun c662 => ?_)
                    · exact absurd (q656.trans g656.symm) c662
                    · refine go_aload_n (j := 0) (q := 666) rfl rfl dL_same_665 rfl ?_
                      refine go_callVi (as := [_]) (As := []) (rest := []) (n := 0) (q := 669) dL_same_666 lk_L_121 (ci := 6) (N := 7) (T := TX6) rfl (by first | assumption | rfl) rfl rfl (by decide +kernel) rfl ⟨by decide, by decide⟩ ⟨rfl, rfl⟩ (Nat.le_of_ble_eq_true rfl) (ex28 hP656) rfl (fun x666 w666 h666 => ?_)
                      obtain ⟨e666, hP666, f666⟩ := h666
                      have hP666 : PXW w666 W := hP666
                      have hX666 : LX w666 W := LX_same hX656 (fun c k h1 h2 => f666 c k h1)
                      have F666 : ∀ c k, 45 ≤ c → c < 48 → w666 c k = w c k := fun c k h1 h2 => by rw [f666 c k h1]; exact F656 c k h1 h2
                      have q666 : x666 = sumZ (wS W) (wC W) + 100 := e666
                      refine go_iload (j := 11) (q := 671) rfl dL_same_669 rfl ?_
                      refine go_icmp_ne2 (q := 674) (t := 743) dL_same_671 (by decide) rfl (by omega) (fun c671 => ?_) (fun c671 => ?_)
                      · exact absurd (by omega) c671
                      · refine go_aload_n (j := 0) (q := 675) rfl rfl dL_same_674 rfl ?_
                        refine go_callVi (as := [_]) (As := []) (rest := []) (n := 0) (q := 678) dL_same_675 lk_L_124 (ci := 6) (N := 7) (T := TX6) rfl (by first | assumption | rfl) rfl rfl (by decide +kernel) rfl ⟨by decide, by decide⟩ ⟨rfl, rfl⟩ (Nat.le_of_ble_eq_true rfl) (ex27 hP666) rfl (fun x675 w675 h675 => ?_)
                        obtain ⟨e675, hP675, f675⟩ := h675
                        have hP675 : PXW w675 W := hP675
                        have hX675 : LX w675 W := LX_same hX666 (fun c k h1 h2 => f675 c k h1)
                        have F675 : ∀ c k, 45 ≤ c → c < 48 → w675 c k = w c k := fun c k h1 h2 => by rw [f675 c k h1]; exact F666 c k h1 h2
                        have q675 : (closedD (wA W) (wC W) (wG W) → x675 = ((ccG (cmpD (wA W) (wC W) (wG W)) (wA W)).1 : Nat)) ∧ (¬ closedD (wA W) (wC W) (wG W) → x675 = -6) := ⟨fun z => by rw [e675]; exact cif_t z, fun z => by rw [e675]; exact cif_f z⟩
                        have q675b : x675 = -6 ∨ x675 = ((ccG (cmpD (wA W) (wC W) (wG W)) (wA W)).1 : Nat) := by
                          by_cases z : closedD (wA W) (wC W) (wG W)
                          · exact Or.inr (q675.1 z)
                          · exact Or.inl (q675.2 z)
                        refine go_iload (j := 17) (q := 680) rfl dL_same_678 rfl ?_
                        refine go_if_eqF (q := 683) (t := 688) dL_same_680 rfl (by decide) (by decide) ?_
                        refine go_iload (j := 12) (q := 685) rfl dL_same_683 rfl ?_
                        refine go_goto (q := 690) dL_same_685 (by decide) ?_
                        refine go_icmp_ne2 (q := 693) (t := 743) dL_same_690 (by decide) rfl (by omega) (fun c690 => ?_) (fun c690 => ?_)
                        · first
                          | exact absurd ((q675.1 h640).trans hcc.symm) c690
                          | exact absurd (q675.2 h640) c690
                        · refine go_aload_n (j := 0) (q := 694) rfl rfl dL_same_693 rfl ?_
                          refine go_iload (j := 14) (q := 696) rfl dL_same_694 rfl ?_
                          refine go_iload (j := 15) (q := 698) rfl dL_same_696 rfl ?_
                          refine go_callVi (as := [_, _, _]) (As := [_, _]) (rest := []) (n := 2) (q := 701) dL_same_698 lk_L_127 (ci := 6) (N := 7) (T := TX6) rfl (by first | assumption | rfl) rfl rfl (by decide +kernel) rfl ⟨by decide, by decide⟩ ⟨rfl, rfl⟩ (Nat.le_of_ble_eq_true rfl) (ex29 hP675 (by omega) (by omega)) rfl (fun x698 w698 h698 => ?_)
                          obtain ⟨e698, hP698, f698⟩ := h698
                          have hP698 : PXW w698 W := hP698
                          have hX698 : LX w698 W := LX_same hX675 (fun c k h1 h2 => f698 c k h1)
                          have F698 : ∀ c k, 45 ≤ c → c < 48 → w698 c k = w c k := fun c k h1 h2 => by rw [f698 c k h1]; exact F675 c k h1 h2
                          have q698 : (closedD (wA W) (wC W) (wG W) → x698 = lksD (wG W) (wS W) (cmpD (wA W) (wC W) (wG W) x540.toNat) (cmpD (wA W) (wC W) (wG W) x552.toNat) (wC W) + 100) ∧ (¬ closedD (wA W) (wC W) (wG W) → x698 = -6) := by
                            refine ⟨fun z => ?_, fun z => ?_⟩
                            · rw [e698]; unfold op29; show cif _ _ _ = _; rw [cif_t (by omega), cif_t z]
                            · rw [e698]; unfold op29; show cif _ _ _ = _; rw [cif_t (by omega), cif_f z]
                          have q698b : x698 = -6 ∨ x698 = li := by
                            by_cases z : closedD (wA W) (wC W) (wG W)
                            · exact Or.inr ((q698.1 z).trans hlk.symm)
                            · exact Or.inl (q698.2 z)
                          refine go_iload (j := 17) (q := 703) rfl dL_same_701 rfl ?_
                          refine go_if_eqF (q := 706) (t := 711) dL_same_703 rfl (by decide) (by decide) ?_
                          refine go_iload (j := 16) (q := 708) rfl dL_same_706 rfl ?_
                          refine go_goto (q := 713) dL_same_708 (by decide) ?_
                          refine go_icmp_ne2 (q := 716) (t := 743) dL_same_713 (by decide) rfl (by omega) (fun c713 => ?_) (fun c713 => ?_)
                          · first
                            | exact absurd ((q698.1 h640).trans hlk.symm) c713
                            | exact absurd (q698.2 h640) c713
                          · refine go_aload_n (j := 0) (q := 717) rfl rfl dL_same_716 rfl ?_
                            have g698 : w698 45 2 = ((wC W) : Int) := hX698.2.2.1
                            refine go_aload_n (j := 2) (q := 718) rfl rfl dL_same_717 rfl ?_
                            refine go_iconst (q := 719) dL_same_718 rfl ?_
                            refine go_iald (j := 2) (q := 720) (by first | assumption | rfl) (wr_eq (by omega)) (by omega) dL_same_719 rfl ?_
                            refine go_iconst (q := 721) dL_same_720 rfl ?_
                            refine go_callVi (as := [_, _, _]) (As := [_, _]) (rest := []) (n := 2) (q := 724) dL_same_721 lk_L_105 (ci := 6) (N := 7) (T := TX6) rfl (by first | assumption | rfl) rfl rfl (by decide +kernel) rfl ⟨by decide, by decide⟩ ⟨rfl, rfl⟩ (Nat.le_of_ble_eq_true rfl) (ex26 hP698 (by omega) (by omega)) rfl (fun x721 w721 h721 => ?_)
                            obtain ⟨e721, hP721, f721⟩ := h721
                            have hP721 : PXW w721 W := hP721
                            have hX721 : LX w721 W := LX_same hX698 (fun c k h1 h2 => f721 c k h1)
                            have F721 : ∀ c k, 45 ≤ c → c < 48 → w721 c k = w c k := fun c k h1 h2 => by rw [f721 c k h1]; exact F698 c k h1 h2
                            have q721 : x721 = -1 := by
                              rw [e721]; unfold op26; show cif _ _ _ = _; rw [cif_f (by omega)]
                            refine go_iconst (q := 725) dL_same_724 rfl ?_
                            refine go_icmp_ne2 (q := 728) (t := 743) dL_same_725 (by decide) rfl (by omega) (fun c725 => ?_) (fun c725 => ?_)
                            · exact absurd q721 c725
                            · refine go_aload_n (j := 0) (q := 729) rfl rfl dL_same_728 rfl ?_
                              refine go_iload (j := 5) (q := 731) rfl dL_same_729 rfl ?_
                              refine go_iconst (q := 732) dL_same_731 rfl ?_
                              refine go_callVi (as := [_, _, _]) (As := [_, _]) (rest := []) (n := 2) (q := 735) dL_same_732 lk_L_57 (ci := 6) (N := 7) (T := TX6) rfl (by first | assumption | rfl) rfl rfl (by decide +kernel) rfl ⟨by decide, by decide⟩ ⟨rfl, rfl⟩ (Nat.le_of_ble_eq_true rfl) (ex7 hP721 (by omega) (by omega)) rfl (fun x732 w732 h732 => ?_)
                              obtain ⟨e732, hP732, f732⟩ := h732
                              have hP732 : PXW w732 W := hP732
                              have hX732 : LX w732 W := LX_same hX721 (fun c k h1 h2 => f732 c k h1)
                              have F732 : ∀ c k, 45 ≤ c → c < 48 → w732 c k = w c k := fun c k h1 h2 => by rw [f732 c k h1]; exact F721 c k h1 h2
                              have q732 : x732 = -1 := by
                                rw [e732]; unfold op7; show cif _ _ _ = _; rw [cif_f (by omega)]
                              refine go_iconst (q := 736) dL_same_735 rfl ?_
                              refine go_icmp_ne2 (q := 739) (t := 743) dL_same_736 (by decide) rfl (by omega) (fun c736 => ?_) (fun c736 => ?_)
                              · exact absurd q732 c736
                              · refine go_iconst (q := 740) dL_same_739 rfl ?_
                                refine go_goto (q := 744) dL_same_740 (by decide) ?_
                                refine go_iret dL_same_744 ?_
                                subst hK
                                exact Or.inl ⟨rfl, hP732, F732⟩
                · obtain ⟨rfl, h640⟩ := h640
                  refine go_istore (j := 17) (q := 645) (ls2 := [_, _, _, _, _, _, _, _, _, _, _, _, _, _, _, _, _, _]) (by decide) rfl rfl dL_same_643 rfl ?_
                  refine go_aload_n (j := 0) (q := 646) rfl rfl dL_same_645 rfl ?_
                  refine go_callVi (as := [_]) (As := []) (rest := []) (n := 0) (q := 649) dL_same_646 lk_L_115 (ci := 6) (N := 7) (T := TX6) rfl (by first | assumption | rfl) rfl rfl (by decide +kernel) rfl ⟨by decide, by decide⟩ ⟨rfl, rfl⟩ (Nat.le_of_ble_eq_true rfl) (ex24 hP1) rfl (fun x646 w646 h646 => ?_)
                  obtain ⟨e646, hP646, f646⟩ := h646
                  have hP646 : PXW w646 W := hP646
                  have hX646 : LX w646 W := LX_same hX1 (fun c k h1 h2 => f646 c k h1)
                  have F646 : ∀ c k, 45 ≤ c → c < 48 → w646 c k = w c k := fun c k h1 h2 => by rw [f646 c k h1]; exact F1 c k h1 h2
                  have q646 : x646 = ((wA W) : Int) := e646
                  have g646 : w646 45 1 = ((wA W) : Int) := hX646.2.1
                  refine go_aload_n (j := 2) (q := 650) rfl rfl dL_same_649 rfl ?_
                  refine go_iconst (q := 651) dL_same_650 rfl ?_
                  refine go_iald (j := 1) (q := 652) (by first | assumption | rfl) (wr_eq (by omega)) (by omega) dL_same_651 rfl ?_
                  refine go_icmp_ne2 (q := 655) (t := 743) dL_same_652 (by decide) rfl (by omega) (fun c652 => ?_) (fun c652 => ?_)
                  · exact absurd (q646.trans g646.symm) c652
                  · refine go_aload_n (j := 0) (q := 656) rfl rfl dL_same_655 rfl ?_
                    refine go_callVi (as := [_]) (As := []) (rest := []) (n := 0) (q := 659) dL_same_656 lk_L_118 (ci := 6) (N := 7) (T := TX6) rfl (by first | assumption | rfl) rfl rfl (by decide +kernel) rfl ⟨by decide, by decide⟩ ⟨rfl, rfl⟩ (Nat.le_of_ble_eq_true rfl) (ex25 hP646) rfl (fun x656 w656 h656 => ?_)
                    obtain ⟨e656, hP656, f656⟩ := h656
                    have hP656 : PXW w656 W := hP656
                    have hX656 : LX w656 W := LX_same hX646 (fun c k h1 h2 => f656 c k h1)
                    have F656 : ∀ c k, 45 ≤ c → c < 48 → w656 c k = w c k := fun c k h1 h2 => by rw [f656 c k h1]; exact F646 c k h1 h2
                    have q656 : x656 = ((wC W) : Int) := e656
                    have g656 : w656 45 2 = ((wC W) : Int) := hX656.2.2.1
                    refine go_aload_n (j := 2) (q := 660) rfl rfl dL_same_659 rfl ?_
                    refine go_iconst (q := 661) dL_same_660 rfl ?_
                    refine go_iald (j := 2) (q := 662) (by first | assumption | rfl) (wr_eq (by omega)) (by omega) dL_same_661 rfl ?_
                    refine go_icmp_ne2 (q := 665) (t := 743) dL_same_662 (by decide) rfl (by omega) (fun c662 => ?_) (fun c662 => ?_)
                    · exact absurd (q656.trans g656.symm) c662
                    · refine go_aload_n (j := 0) (q := 666) rfl rfl dL_same_665 rfl ?_
                      refine go_callVi (as := [_]) (As := []) (rest := []) (n := 0) (q := 669) dL_same_666 lk_L_121 (ci := 6) (N := 7) (T := TX6) rfl (by first | assumption | rfl) rfl rfl (by decide +kernel) rfl ⟨by decide, by decide⟩ ⟨rfl, rfl⟩ (Nat.le_of_ble_eq_true rfl) (ex28 hP656) rfl (fun x666 w666 h666 => ?_)
                      obtain ⟨e666, hP666, f666⟩ := h666
                      have hP666 : PXW w666 W := hP666
                      have hX666 : LX w666 W := LX_same hX656 (fun c k h1 h2 => f666 c k h1)
                      have F666 : ∀ c k, 45 ≤ c → c < 48 → w666 c k = w c k := fun c k h1 h2 => by rw [f666 c k h1]; exact F656 c k h1 h2
                      have q666 : x666 = sumZ (wS W) (wC W) + 100 := e666
                      refine go_iload (j := 11) (q := 671) rfl dL_same_669 rfl ?_
                      refine go_icmp_ne2 (q := 674) (t := 743) dL_same_671 (by decide) rfl (by omega) (fun c671 => ?_) (fun c671 => ?_)
                      · exact absurd (by omega) c671
                      · refine go_aload_n (j := 0) (q := 675) rfl rfl dL_same_674 rfl ?_
                        refine go_callVi (as := [_]) (As := []) (rest := []) (n := 0) (q := 678) dL_same_675 lk_L_124 (ci := 6) (N := 7) (T := TX6) rfl (by first | assumption | rfl) rfl rfl (by decide +kernel) rfl ⟨by decide, by decide⟩ ⟨rfl, rfl⟩ (Nat.le_of_ble_eq_true rfl) (ex27 hP666) rfl (fun x675 w675 h675 => ?_)
                        obtain ⟨e675, hP675, f675⟩ := h675
                        have hP675 : PXW w675 W := hP675
                        have hX675 : LX w675 W := LX_same hX666 (fun c k h1 h2 => f675 c k h1)
                        have F675 : ∀ c k, 45 ≤ c → c < 48 → w675 c k = w c k := fun c k h1 h2 => by rw [f675 c k h1]; exact F666 c k h1 h2
                        have q675 : (closedD (wA W) (wC W) (wG W) → x675 = ((ccG (cmpD (wA W) (wC W) (wG W)) (wA W)).1 : Nat)) ∧ (¬ closedD (wA W) (wC W) (wG W) → x675 = -6) := ⟨fun z => by rw [e675]; exact cif_t z, fun z => by rw [e675]; exact cif_f z⟩
                        have q675b : x675 = -6 ∨ x675 = ((ccG (cmpD (wA W) (wC W) (wG W)) (wA W)).1 : Nat) := by
                          by_cases z : closedD (wA W) (wC W) (wG W)
                          · exact Or.inr (q675.1 z)
                          · exact Or.inl (q675.2 z)
                        refine go_iload (j := 17) (q := 680) rfl dL_same_678 rfl ?_
                        refine go_if_eqT (t := 688) dL_same_680 (by decide) (by decide) ?_
                        refine go_bipush (q := 690) rfl dL_same_688 rfl ?_
                        refine go_icmp_ne2 (q := 693) (t := 743) dL_same_690 (by decide) rfl (by omega) (fun c690 => ?_) (fun c690 => ?_)
                        · first
                          | exact absurd ((q675.1 h640).trans hcc.symm) c690
                          | exact absurd (q675.2 h640) c690
                        · refine go_aload_n (j := 0) (q := 694) rfl rfl dL_same_693 rfl ?_
                          refine go_iload (j := 14) (q := 696) rfl dL_same_694 rfl ?_
                          refine go_iload (j := 15) (q := 698) rfl dL_same_696 rfl ?_
                          refine go_callVi (as := [_, _, _]) (As := [_, _]) (rest := []) (n := 2) (q := 701) dL_same_698 lk_L_127 (ci := 6) (N := 7) (T := TX6) rfl (by first | assumption | rfl) rfl rfl (by decide +kernel) rfl ⟨by decide, by decide⟩ ⟨rfl, rfl⟩ (Nat.le_of_ble_eq_true rfl) (ex29 hP675 (by omega) (by omega)) rfl (fun x698 w698 h698 => ?_)
                          obtain ⟨e698, hP698, f698⟩ := h698
                          have hP698 : PXW w698 W := hP698
                          have hX698 : LX w698 W := LX_same hX675 (fun c k h1 h2 => f698 c k h1)
                          have F698 : ∀ c k, 45 ≤ c → c < 48 → w698 c k = w c k := fun c k h1 h2 => by rw [f698 c k h1]; exact F675 c k h1 h2
                          have q698 : (closedD (wA W) (wC W) (wG W) → x698 = lksD (wG W) (wS W) (cmpD (wA W) (wC W) (wG W) x540.toNat) (cmpD (wA W) (wC W) (wG W) x552.toNat) (wC W) + 100) ∧ (¬ closedD (wA W) (wC W) (wG W) → x698 = -6) := by
                            refine ⟨fun z => ?_, fun z => ?_⟩
                            · rw [e698]; unfold op29; show cif _ _ _ = _; rw [cif_t (by omega), cif_t z]
                            · rw [e698]; unfold op29; show cif _ _ _ = _; rw [cif_t (by omega), cif_f z]
                          have q698b : x698 = -6 ∨ x698 = li := by
                            by_cases z : closedD (wA W) (wC W) (wG W)
                            · exact Or.inr ((q698.1 z).trans hlk.symm)
                            · exact Or.inl (q698.2 z)
                          refine go_iload (j := 17) (q := 703) rfl dL_same_701 rfl ?_
                          refine go_if_eqT (t := 711) dL_same_703 (by decide) (by decide) ?_
                          refine go_bipush (q := 713) rfl dL_same_711 rfl ?_
                          refine go_icmp_ne2 (q := 716) (t := 743) dL_same_713 (by decide) rfl (by omega) (fun c713 => ?_) (fun c713 => ?_)
                          · first
                            | exact absurd ((q698.1 h640).trans hlk.symm) c713
                            | exact absurd (q698.2 h640) c713
                          · refine go_aload_n (j := 0) (q := 717) rfl rfl dL_same_716 rfl ?_
                            have g698 : w698 45 2 = ((wC W) : Int) := hX698.2.2.1
                            refine go_aload_n (j := 2) (q := 718) rfl rfl dL_same_717 rfl ?_
                            refine go_iconst (q := 719) dL_same_718 rfl ?_
                            refine go_iald (j := 2) (q := 720) (by first | assumption | rfl) (wr_eq (by omega)) (by omega) dL_same_719 rfl ?_
                            refine go_iconst (q := 721) dL_same_720 rfl ?_
                            refine go_callVi (as := [_, _, _]) (As := [_, _]) (rest := []) (n := 2) (q := 724) dL_same_721 lk_L_105 (ci := 6) (N := 7) (T := TX6) rfl (by first | assumption | rfl) rfl rfl (by decide +kernel) rfl ⟨by decide, by decide⟩ ⟨rfl, rfl⟩ (Nat.le_of_ble_eq_true rfl) (ex26 hP698 (by omega) (by omega)) rfl (fun x721 w721 h721 => ?_)
                            obtain ⟨e721, hP721, f721⟩ := h721
                            have hP721 : PXW w721 W := hP721
                            have hX721 : LX w721 W := LX_same hX698 (fun c k h1 h2 => f721 c k h1)
                            have F721 : ∀ c k, 45 ≤ c → c < 48 → w721 c k = w c k := fun c k h1 h2 => by rw [f721 c k h1]; exact F698 c k h1 h2
                            have q721 : x721 = -1 := by
                              rw [e721]; unfold op26; show cif _ _ _ = _; rw [cif_f (by omega)]
                            refine go_iconst (q := 725) dL_same_724 rfl ?_
                            refine go_icmp_ne2 (q := 728) (t := 743) dL_same_725 (by decide) rfl (by omega) (fun c725 => ?_) (fun c725 => ?_)
                            · exact absurd q721 c725
                            · refine go_aload_n (j := 0) (q := 729) rfl rfl dL_same_728 rfl ?_
                              refine go_iload (j := 5) (q := 731) rfl dL_same_729 rfl ?_
                              refine go_iconst (q := 732) dL_same_731 rfl ?_
                              refine go_callVi (as := [_, _, _]) (As := [_, _]) (rest := []) (n := 2) (q := 735) dL_same_732 lk_L_57 (ci := 6) (N := 7) (T := TX6) rfl (by first | assumption | rfl) rfl rfl (by decide +kernel) rfl ⟨by decide, by decide⟩ ⟨rfl, rfl⟩ (Nat.le_of_ble_eq_true rfl) (ex7 hP721 (by omega) (by omega)) rfl (fun x732 w732 h732 => ?_)
                              obtain ⟨e732, hP732, f732⟩ := h732
                              have hP732 : PXW w732 W := hP732
                              have hX732 : LX w732 W := LX_same hX721 (fun c k h1 h2 => f732 c k h1)
                              have F732 : ∀ c k, 45 ≤ c → c < 48 → w732 c k = w c k := fun c k h1 h2 => by rw [f732 c k h1]; exact F721 c k h1 h2
                              have q732 : x732 = -1 := by
                                rw [e732]; unfold op7; show cif _ _ _ = _; rw [cif_f (by omega)]
                              refine go_iconst (q := 736) dL_same_735 rfl ?_
                              refine go_icmp_ne2 (q := 739) (t := 743) dL_same_736 (by decide) rfl (by omega) (fun c736 => ?_) (fun c736 => ?_)
                              · exact absurd q732 c736
                              · refine go_iconst (q := 740) dL_same_739 rfl ?_
                                refine go_goto (q := 744) dL_same_740 (by decide) ?_
                                refine go_iret dL_same_744 ?_
                                subst hK
                                exact Or.inl ⟨rfl, hP732, F732⟩
              · have hck := hX1.2.2.2.2 k3 (by omega)
                have hbk := hB.2 k3 (by omega)
                have hab := and22 (u := cmpD (wA W) (wC W) (wG W) x540.toNat) (v := cmpD (wA W) (wC W) (wG W) x552.toNat) (x := (wG W) k3 0) (y := (wG W) k3 1) (by omega) (by omega) (by omega) (by omega)
                refine go_iload (j := 16) (q := 574) rfl dL_same_572 rfl ?_
                refine go_iload (j := 14) (q := 576) rfl dL_same_574 rfl ?_
                refine go_aload_n (j := 2) (q := 577) rfl rfl dL_same_576 rfl ?_
                refine go_aload (j := 4) (q := 579) rfl dL_same_577 rfl ?_
                refine go_callSi (as := [_, _, _]) (rest := [_]) (n := 3) (q := 582) dL_same_579 lk_L_108 rfl (by decide +kernel) rfl ⟨by decide, by decide⟩ ⟨rfl, rfl⟩ (Nat.le_of_ble_eq_true rfl) (el_component (x := x540.toNat) (by omega) (by omega) hX1.2.2 hB) rfl (fun x579 w579 h579 => ?_)
                obtain ⟨rfl, rfl⟩ := h579
                refine go_aload (j := 4) (q := 584) rfl dL_same_582 rfl ?_
                refine go_iconst (q := 585) dL_same_584 rfl ?_
                refine go_iload (j := 17) (q := 587) rfl dL_same_585 rfl ?_
                refine go_imul (q := 588) dL_same_587 rfl ?_
                refine go_iald (j := 4 * k3) (q := 589) (by first | assumption | rfl) (wr_eq (by omega)) (by omega) dL_same_588 rfl ?_
                rw [show w1 47 (4 * k3) = ((wG W) k3 0 : Int) from hck.1]
                refine go_ishr (q := 590) dL_same_589 rfl ?_
                refine go_iload (j := 15) (q := 592) rfl dL_same_590 rfl ?_
                refine go_aload_n (j := 2) (q := 593) rfl rfl dL_same_592 rfl ?_
                refine go_aload (j := 4) (q := 595) rfl dL_same_593 rfl ?_
                refine go_callSi (as := [_, _, _]) (rest := [_, _]) (n := 3) (q := 598) dL_same_595 lk_L_108 rfl (by decide +kernel) rfl ⟨by decide, by decide⟩ ⟨rfl, rfl⟩ (Nat.le_of_ble_eq_true rfl) (el_component (x := x552.toNat) (by omega) (by omega) hX1.2.2 hB) rfl (fun x595 w595 h595 => ?_)
                obtain ⟨rfl, rfl⟩ := h595
                refine go_aload (j := 4) (q := 600) rfl dL_same_598 rfl ?_
                refine go_iconst (q := 601) dL_same_600 rfl ?_
                refine go_iload (j := 17) (q := 603) rfl dL_same_601 rfl ?_
                refine go_imul (q := 604) dL_same_603 rfl ?_
                refine go_iconst (q := 605) dL_same_604 rfl ?_
                refine go_iadd (q := 606) dL_same_605 rfl ?_
                refine go_iald (j := 4 * k3 + 1) (q := 607) (by first | assumption | rfl) (wr_eq (by omega)) (by omega) dL_same_606 rfl ?_
                rw [show w1 47 (4 * k3 + 1) = ((wG W) k3 1 : Int) from hck.2.1]
                refine go_ishr (q := 608) dL_same_607 rfl ?_
                refine go_iand (q := 609) dL_same_608 rfl ?_
                refine go_iconst (q := 610) dL_same_609 rfl ?_
                refine go_iand (q := 611) dL_same_610 rfl ?_
                rw [hab]
                refine go_iconst (q := 612) dL_same_611 rfl ?_
                refine go_icmp_ne2 (q := 615) (t := 627) dL_same_612 (by decide) rfl (by split <;> omega) (fun c612 => ?_) (fun c612 => ?_)
                · have hnb : ¬ ((cmpD (wA W) (wC W) (wG W) x540.toNat).testBit ((wG W) k3 0) = true ∧ (cmpD (wA W) (wC W) (wG W) x552.toNat).testBit ((wG W) k3 1) = true) := fun q => c612 (if_pos q)
                  have hl1 : li + 0 = lksD (wG W) (wS W) (cmpD (wA W) (wC W) (wG W) x540.toNat) (cmpD (wA W) (wC W) (wG W) x552.toNat) (k3 + 1) + 100 := by
                    rw [lksD_s, if_neg hnb]; omega
                  refine go_iconst (q := 628) dL_same_627 rfl ?_
                  refine go_iadd (q := 629) dL_same_628 rfl ?_
                  refine go_istore (j := 16) (q := 631) (ls2 := [_, _, _, _, _, _, _, _, _, _, _, _, _, _, _, _, _, _]) (by decide) rfl rfl dL_same_629 rfl ?_
                  refine go_iinc (j := 17) (q := 634) (ls2 := [_, _, _, _, _, _, _, _, _, _, _, _, _, _, _, _, _, _]) rfl (by decide) rfl rfl dL_same_631 rfl ?_
                  refine go_goto (q := 564) dL_same_634 (by decide) ?_
                  exact ih564 _ (by omega) (k3 + 1) _ _ (by omega) (by omega) hl1 (by omega) rfl
                · have hyb : (cmpD (wA W) (wC W) (wG W) x540.toNat).testBit ((wG W) k3 0) = true ∧ (cmpD (wA W) (wC W) (wG W) x552.toNat).testBit ((wG W) k3 1) = true := by
                    apply Classical.byContradiction
                    intro q
                    rw [if_neg q] at c612; omega
                  have hl1 : li + (wS W) k3 = lksD (wG W) (wS W) (cmpD (wA W) (wC W) (wG W) x540.toNat) (cmpD (wA W) (wC W) (wG W) x552.toNat) (k3 + 1) + 100 := by
                    rw [lksD_s, if_pos hyb]; omega
                  refine go_aload (j := 4) (q := 617) rfl dL_same_615 rfl ?_
                  refine go_iconst (q := 618) dL_same_617 rfl ?_
                  refine go_iload (j := 17) (q := 620) rfl dL_same_618 rfl ?_
                  refine go_imul (q := 621) dL_same_620 rfl ?_
                  refine go_iconst (q := 622) dL_same_621 rfl ?_
                  refine go_iadd (q := 623) dL_same_622 rfl ?_
                  refine go_iald (j := 4 * k3 + 3) (q := 624) (by first | assumption | rfl) (wr_eq (by omega)) (by omega) dL_same_623 rfl ?_
                  rw [show w1 47 (4 * k3 + 3) = (wS W) k3 from hck.2.2.2]
                  refine go_goto (q := 628) dL_same_624 (by decide) ?_
                  refine go_iadd (q := 629) dL_same_628 rfl ?_
                  refine go_istore (j := 16) (q := 631) (ls2 := [_, _, _, _, _, _, _, _, _, _, _, _, _, _, _, _, _, _]) (by decide) rfl rfl dL_same_629 rfl ?_
                  refine go_iinc (j := 17) (q := 634) (ls2 := [_, _, _, _, _, _, _, _, _, _, _, _, _, _, _, _, _, _]) rfl (by decide) rfl rfl dL_same_631 rfl ?_
                  refine go_goto (q := 564) dL_same_634 (by decide) ?_
                  exact ih564 _ (by omega) (k3 + 1) _ _ (by omega) (by omega) hl1 (by omega) rfl
            exact lp564 _ 0 _ _ rfl (by omega) rfl (by omega) rfl
          · have hb1 := bit_eq (a := (ccG (cmpD (wA W) (wC W) (wG W)) x).2) (k := x) (by omega) (by omega)
            rw [← ed, ← ex] at hb1
            have h1s := ccG_one (cmp := cmpD (wA W) (wC W) (wG W)) (k := x)
            have h2s := ccG_step hbD (k := x) (by omega)
            have hcx := hcD x (by omega)
            refine go_iload (j := 12) (q := 497) rfl dL_same_495 rfl ?_
            refine go_iload (j := 13) (q := 499) rfl dL_same_497 rfl ?_
            refine go_iload (j := 14) (q := 501) rfl dL_same_499 rfl ?_
            refine go_ishr (q := 502) dL_same_501 rfl ?_
            refine go_iconst (q := 503) dL_same_502 rfl ?_
            refine go_iand (q := 504) dL_same_503 rfl ?_
            refine go_if_ne2 (q := 507) (t := 511) dL_same_504 (by decide) rfl (by rw [hb1]; split <;> omega) (fun c504 => ?_) (fun c504 => ?_)
            · rw [if_pos (by rw [hb1] at c504; by_cases q : (ccG (cmpD (wA W) (wC W) (wG W)) x).2.testBit x = true; exact q; rw [if_neg q] at c504; omega)] at h1s
              refine go_iconst (q := 512) dL_same_511 rfl ?_
              refine go_iadd (q := 513) dL_same_512 rfl ?_
              refine go_istore (j := 12) (q := 515) (ls2 := [_, _, _, _, _, _, _, _, _, _, _, _, _, _, _, _, _, _]) (by decide) rfl rfl dL_same_513 rfl ?_
              refine go_iload (j := 13) (q := 517) rfl dL_same_515 rfl ?_
              refine go_iload (j := 14) (q := 519) rfl dL_same_517 rfl ?_
              refine go_aload_n (j := 2) (q := 520) rfl rfl dL_same_519 rfl ?_
              refine go_aload (j := 4) (q := 522) rfl dL_same_520 rfl ?_
              refine go_callSi (as := [_, _, _]) (rest := [_]) (n := 3) (q := 525) dL_same_522 lk_L_108 rfl (by decide +kernel) rfl ⟨by decide, by decide⟩ ⟨rfl, rfl⟩ (Nat.le_of_ble_eq_true rfl) (el_component (x := x) ex (by omega) hX1.2.2 hB) rfl (fun x522 w522 h522 => ?_)
              obtain ⟨rfl, rfl⟩ := h522
              rw [ed]
              refine go_ior (q := 526) dL_same_525 rfl ?_
              rw [or_eq (by omega) (by omega)]
              refine go_istore (j := 13) (q := 528) (ls2 := [_, _, _, _, _, _, _, _, _, _, _, _, _, _, _, _, _, _]) (by decide) rfl rfl dL_same_526 rfl ?_
              refine go_iinc (j := 14) (q := 531) (ls2 := [_, _, _, _, _, _, _, _, _, _, _, _, _, _, _, _, _, _]) rfl (by decide) rfl rfl dL_same_528 rfl ?_
              refine go_goto (q := 487) dL_same_531 (by decide) ?_
              exact ih487 _ (by omega) (x + 1) _ _ _ _ _ _ (by omega) (by omega) (by omega) (by rw [h2s]) (by rw [h2s]; exact or_lt hd hcx) rfl
            · rw [if_neg (by rw [hb1] at c504; intro q; rw [if_pos q] at c504; omega)] at h1s
              refine go_iconst (q := 508) dL_same_507 rfl ?_
              refine go_goto (q := 512) dL_same_508 (by decide) ?_
              refine go_iadd (q := 513) dL_same_512 rfl ?_
              refine go_istore (j := 12) (q := 515) (ls2 := [_, _, _, _, _, _, _, _, _, _, _, _, _, _, _, _, _, _]) (by decide) rfl rfl dL_same_513 rfl ?_
              refine go_iload (j := 13) (q := 517) rfl dL_same_515 rfl ?_
              refine go_iload (j := 14) (q := 519) rfl dL_same_517 rfl ?_
              refine go_aload_n (j := 2) (q := 520) rfl rfl dL_same_519 rfl ?_
              refine go_aload (j := 4) (q := 522) rfl dL_same_520 rfl ?_
              refine go_callSi (as := [_, _, _]) (rest := [_]) (n := 3) (q := 525) dL_same_522 lk_L_108 rfl (by decide +kernel) rfl ⟨by decide, by decide⟩ ⟨rfl, rfl⟩ (Nat.le_of_ble_eq_true rfl) (el_component (x := x) ex (by omega) hX1.2.2 hB) rfl (fun x522 w522 h522 => ?_)
              obtain ⟨rfl, rfl⟩ := h522
              rw [ed]
              refine go_ior (q := 526) dL_same_525 rfl ?_
              rw [or_eq (by omega) (by omega)]
              refine go_istore (j := 13) (q := 528) (ls2 := [_, _, _, _, _, _, _, _, _, _, _, _, _, _, _, _, _, _]) (by decide) rfl rfl dL_same_526 rfl ?_
              refine go_iinc (j := 14) (q := 531) (ls2 := [_, _, _, _, _, _, _, _, _, _, _, _, _, _, _, _, _, _]) rfl (by decide) rfl rfl dL_same_528 rfl ?_
              refine go_goto (q := 487) dL_same_531 (by decide) ?_
              exact ih487 _ (by omega) (x + 1) _ _ _ _ _ _ (by omega) (by omega) (by omega) (by rw [h2s]) (by rw [h2s]; exact or_lt hd hcx) rfl
        exact lp487 _ 0 _ _ _ _ _ _ rfl (by omega) eci edi (Nat.two_pow_pos _) rfl
      · have hbk := (hB.2 k (by omega)).2
        have hck := hX1.2.2.2.2 k (by omega)
        refine go_iload (j := 11) (q := 428) rfl dL_same_426 rfl ?_
        refine go_aload (j := 4) (q := 430) rfl dL_same_428 rfl ?_
        refine go_iconst (q := 431) dL_same_430 rfl ?_
        refine go_iload (j := 14) (q := 433) rfl dL_same_431 rfl ?_
        refine go_imul (q := 434) dL_same_433 rfl ?_
        refine go_iconst (q := 435) dL_same_434 rfl ?_
        refine go_iadd (q := 436) dL_same_435 rfl ?_
        refine go_iald (j := 4 * k + 3) (q := 437) (by first | assumption | rfl) (wr_eq (by omega)) (by omega) dL_same_436 rfl ?_
        rw [show w1 47 (4 * k + 3) = (wS W) k from hck.2.2.2]
        refine go_iadd (q := 438) dL_same_437 rfl ?_
        refine go_istore (j := 11) (q := 440) (ls2 := [_, _, _, _, _, _, _, _, _, _, _, _, _, _, _, _, _, _]) (by decide) rfl rfl dL_same_438 rfl ?_
        refine go_iconst (q := 441) dL_same_440 rfl ?_
        refine go_istore (j := 15) (q := 443) (ls2 := [_, _, _, _, _, _, _, _, _, _, _, _, _, _, _, _, _, _]) (by decide) rfl rfl dL_same_441 rfl ?_
        have lp443 : ∀ (m443 : Nat) (i : Nat) (ri ii : Int) (w2 : Mem) (o16 o17 : Option MV) (ei : ii = i) (hi : i ≤ 4) (er : ri = sumZ (wS W) (k + 1) + 100) (hP2 : PXW w2 W) (hX2 : LX w2 W) (F2 : ∀ c k, 45 ≤ c → c < 48 → w2 c k = w c k), m443 = 4 - i → gL_same l D ck ad shA 0 (VW D ck ad shA) 443 [some (vR 0), some (vI xi), some (vR 45), some (vR 46), some (vR 47), (some (vI ((wN W) : Int))), some (vI ui), some (vI vi), some (vI ni), some (vI si), some (vI ki), some (vI ri), some (vI ci), some (vI di), some (vI yi), some (vI ii), o16, o17] [] w2 K := by
          intro m443
          induction m443 using Nat.strongRecOn with
          | _ m443 ih443 =>
          intro i ri ii w2 o16 o17 ei hi er hP2 hX2 F2 em443
          refine go_iload (j := 15) (q := 445) rfl dL_same_443 rfl ?_
          refine go_iconst (q := 446) dL_same_445 rfl ?_
          refine go_icmp_ge2 (q := 449) (t := 478) dL_same_446 (by decide) rfl (by omega) (fun c446 => ?_) (fun c446 => ?_)
          · refine go_iinc (j := 14) (q := 481) (ls2 := [_, _, _, _, _, _, _, _, _, _, _, _, _, _, _, _, _, _]) rfl (by decide) rfl rfl dL_same_478 rfl ?_
            refine go_goto (q := 418) dL_same_481 (by decide) ?_
            exact ih418 _ (by omega) (k + 1) _ _ _ _ _ _ _ _ (by omega) (by omega) er eci edi hP2 hX2 F2 rfl
          · refine go_aload_n (j := 0) (q := 450) rfl rfl dL_same_449 rfl ?_
            refine go_iload (j := 14) (q := 452) rfl dL_same_450 rfl ?_
            refine go_iload (j := 15) (q := 454) rfl dL_same_452 rfl ?_
            refine go_callVi (as := [_, _, _]) (As := [_, _]) (rest := []) (n := 2) (q := 457) dL_same_454 lk_L_105 (ci := 6) (N := 7) (T := TX6) rfl (by first | assumption | rfl) rfl rfl (by decide +kernel) rfl ⟨by decide, by decide⟩ ⟨rfl, rfl⟩ (Nat.le_of_ble_eq_true rfl) (ex26 hP2 (by omega) (by omega)) rfl (fun x454 w454 h454 => ?_)
            obtain ⟨e454, hP454, f454⟩ := h454
            have hP454 : PXW w454 W := hP454
            have hX454 : LX w454 W := LX_same hX2 (fun c k h1 h2 => f454 c k h1)
            have F454 : ∀ c k, 45 ≤ c → c < 48 → w454 c k = w c k := fun c k h1 h2 => by rw [f454 c k h1]; exact F2 c k h1 h2
            have q454 : x454 = prt (wG W) (wS W) k i := by
              rw [e454]
              unfold op26
              show cif _ _ _ = _
              rw [cif_t (by omega), cif_t (by omega), show yi.toNat = k by omega, show ii.toNat = i by omega]
            have q466 := prt_LC hX454.2.2 (k := k) (p := i) (by omega) (by omega)
            have rp : -1 ≤ prt (wG W) (wS W) k i ∧ prt (wG W) (wS W) k i < 10 := by
              have := hB.2 k (by omega)
              unfold prt
              rcases (show i = 0 ∨ i = 1 ∨ i = 2 ∨ i = 3 by omega) with rfl | rfl | rfl | rfl
              · rw [if_neg (by omega)]; omega
              · rw [if_neg (by omega)]; omega
              · rw [if_neg (by omega)]; omega
              · rw [if_pos rfl]; omega
            refine go_aload (j := 4) (q := 459) rfl dL_same_457 rfl ?_
            refine go_iconst (q := 460) dL_same_459 rfl ?_
            refine go_iload (j := 14) (q := 462) rfl dL_same_460 rfl ?_
            refine go_imul (q := 463) dL_same_462 rfl ?_
            refine go_iload (j := 15) (q := 465) rfl dL_same_463 rfl ?_
            refine go_iadd (q := 466) dL_same_465 rfl ?_
            refine go_iald (j := 4 * k + i) (q := 467) (by first | assumption | rfl) (wr_eq (by omega)) (by omega) dL_same_466 rfl ?_
            rw [q466]
            refine go_icmp_eq2 (q := 470) (t := 472) dL_same_467 (by decide) rfl (by omega) (fun c467 => ?_) (fun c467 => ?_)
            · refine go_iinc (j := 15) (q := 475) (ls2 := [_, _, _, _, _, _, _, _, _, _, _, _, _, _, _, _, _, _]) rfl (by decide) rfl rfl dL_same_472 rfl ?_
              refine go_goto (q := 443) dL_same_475 (by decide) ?_
              exact ih443 _ (by omega) (i + 1) _ _ _ _ _ (by omega) (by omega) er hP454 hX454 F454 rfl
            · exact absurd q454 c467
        exact lp443 _ 0 _ _ _ _ _ rfl (by omega) (by rw [et]; show _ = sumZ (wS W) k + (wS W) k + 100; omega) hP1 hX1 F1 rfl
    exact lp418 _ 0 _ _ _ _ _ _ _ _ rfl (by omega) rfl rfl rfl hP0 hX0 F0 rfl
  refine go_aload_n (j := 2) (q := 1) rfl rfl dL_same_0 rfl ?_
  refine go_iconst (q := 2) dL_same_1 rfl ?_
  refine go_iald (j := 0) (q := 3) (by first | assumption | rfl) (wr_eq (by omega)) (by omega) dL_same_2 rfl ?_
  rw [g0]
  refine go_istore (j := 5) (q := 5) (ls2 := [_, _, _, _, _, _, _, _, _, _, _, _, _, _, _, _, _, _]) (by decide) rfl rfl dL_same_3 rfl ?_
  refine go_iconst (q := 6) dL_same_5 rfl ?_
  refine go_istore (j := 6) (q := 8) (ls2 := [_, _, _, _, _, _, _, _, _, _, _, _, _, _, _, _, _, _]) (by decide) rfl rfl dL_same_6 rfl ?_
  refine go_iconst (q := 9) dL_same_8 rfl ?_
  refine go_istore (j := 7) (q := 11) (ls2 := [_, _, _, _, _, _, _, _, _, _, _, _, _, _, _, _, _, _]) (by decide) rfl rfl dL_same_9 rfl ?_
  refine go_iload (j := 5) (q := 13) rfl dL_same_11 rfl ?_
  refine go_istore (j := 8) (q := 15) (ls2 := [_, _, _, _, _, _, _, _, _, _, _, _, _, _, _, _, _, _]) (by decide) rfl rfl dL_same_13 rfl ?_
  refine go_iconst (q := 16) dL_same_15 rfl ?_
  refine go_istore (j := 9) (q := 18) (ls2 := [_, _, _, _, _, _, _, _, _, _, _, _, _, _, _, _, _, _]) (by decide) rfl rfl dL_same_16 rfl ?_
  have lp18 : ∀ (m18 : Nat) (y : Nat) (pi si yi : Int) (o10 o11 o12 o13 o14 o15 o16 o17 : Option MV) (w1 : Mem) (p : Nat × Nat) (ey : yi = y) (hy : y ≤ (wN W)) (ep : p = ccF (wN W) (wF W) y) (epi : pi = p.1) (esi : si = p.2) (hp2 : p.2 < 2 ^ (wN W)) (hP1 : PXW w1 W) (hX1 : LX w1 W) (F1 : ∀ c k, 45 ≤ c → c < 48 → w1 c k = w c k), m18 = (wN W) - y → gL_same l D ck ad shA 2 (VW D ck ad shA) 18 [some (vR 0), some (vI xi), some (vR 45), some (vR 46), some (vR 47), (some (vI ((wN W) : Int))), some (vI pi), some (vI si), (some (vI ((wN W) : Int))), some (vI yi), o10, o11, o12, o13, o14, o15, o16, o17] [] w1 K := by
    intro m18
    induction m18 using Nat.strongRecOn with
    | _ m18 ih18 =>
    intro y pi si yi o10 o11 o12 o13 o14 o15 o16 o17 w1 p ey hy ep epi esi hp2 hP1 hX1 F1 em18
    have hple := ccF_le (n := (wN W)) (f := (wF W)) y
    rw [← ep] at hple
    refine go_iload (j := 9) (q := 20) rfl dL_same_18 rfl ?_
    refine go_iload (j := 5) (q := 22) rfl dL_same_20 rfl ?_
    refine go_icmp_ge2 (q := 25) (t := 193) dL_same_22 (by decide) rfl (by omega) (fun c22 => ?_) (fun c22 => ?_)
    · have hyn : y = (wN W) := by omega
      rw [hyn] at ep
      have epa : pi = ((ccF (wN W) (wF W) (wN W)).1 : Nat) := by rw [epi, ep]
      have hple2 := ccF_le (n := (wN W)) (f := (wF W)) (wN W)
      have e201 : shlZ 1 ((wN W) : Int) = ((2 ^ (wN W) : Nat) : Int) := shl_eq (by omega)
      refine go_iconst (q := 194) dL_same_193 rfl ?_
      refine go_istore (j := 9) (q := 196) (ls2 := [_, _, _, _, _, _, _, _, _, _, _, _, _, _, _, _, _, _]) (by decide) rfl rfl dL_same_194 rfl ?_
      have lp196 : ∀ (m196 : Nat) (u : Nat) (wi ui : Int) (o10 o11 o12 o13 o14 o15 o16 o17 : Option MV) (eu : ui = u) (hu : u ≤ 2 ^ (wN W)) (ewi : wi = (lgF (wN W) (wF W) u : Nat)), m196 = 2 ^ (wN W) - u → gL_same l D ck ad shA 2 (VW D ck ad shA) 196 [some (vR 0), some (vI xi), some (vR 45), some (vR 46), some (vR 47), (some (vI ((wN W) : Int))), some (vI pi), some (vI si), some (vI wi), some (vI ui), o10, o11, o12, o13, o14, o15, o16, o17] [] w1 K := by
        intro m196
        induction m196 using Nat.strongRecOn with
        | _ m196 ih196 =>
        intro u wi ui o10 o11 o12 o13 o14 o15 o16 o17 eu hu ewi em196
        have hlg := lgF_le (n := (wN W)) (f := (wF W)) u
        refine go_iload (j := 9) (q := 198) rfl dL_same_196 rfl ?_
        refine go_iconst (q := 199) dL_same_198 rfl ?_
        refine go_iload (j := 5) (q := 201) rfl dL_same_199 rfl ?_
        refine go_ishl (q := 202) dL_same_201 rfl ?_
        rw [e201]
        refine go_icmp_ge2 (q := 205) (t := 249) dL_same_202 (by decide) rfl (by omega) (fun c202 => ?_) (fun c202 => ?_)
        · have ewe : wi = (lgF (wN W) (wF W) (2 ^ (wN W)) : Nat) := by rw [ewi, show u = 2 ^ (wN W) by omega]
          refine go_iload_n (j := 1) (q := 250) rfl rfl dL_same_249 rfl ?_
          refine go_iconst (q := 251) dL_same_250 rfl ?_
          refine go_iload (j := 5) (q := 253) rfl dL_same_251 rfl ?_
          refine go_ishl (q := 254) dL_same_253 rfl ?_
          rw [e201]
          refine go_callSi (as := [_, _]) (rest := []) (n := 2) (q := 257) dL_same_254 lk_L_29 rfl (by decide +kernel) rfl ⟨by decide, by decide⟩ ⟨rfl, rfl⟩ (Nat.le_of_ble_eq_true rfl) (el_low (by omega)) rfl (fun x254 w254 h254 => ?_)
          obtain ⟨h254, rfl⟩ := h254
          refine go_istore (j := 9) (q := 259) (ls2 := [_, _, _, _, _, _, _, _, _, _, _, _, _, _, _, _, _, _]) (by decide) rfl rfl dL_same_257 rfl ?_
          refine go_aload_n (j := 2) (q := 260) rfl rfl dL_same_259 rfl ?_
          refine go_aload_n (j := 3) (q := 261) rfl rfl dL_same_260 rfl ?_
          refine go_acallSi (B2 := 1) (as := [_, _]) (rest := []) (n := 2) (q := 264) dL_same_261 lk_L_74 rfl (by decide +kernel) rfl ⟨by decide, by decide⟩ (by show _ + 1 ≤ _ ∧ 64 ≤ 64 * 1; omega) (Nat.le_of_ble_eq_true rfl) (el_group hX1.1) rfl (fun x261 w261 h261 => ?_)
          obtain ⟨h261, f261⟩ := h261
          have hP261 : PXW w261 W := PXW_q hP1 (fun c k h => f261 c k (by omega))
          have hX261 : LX w261 W := LX_same hX1 (fun c k h1 h2 => f261 c k (by omega))
          have F261 : ∀ c k, 45 ≤ c → c < 48 → w261 c k = w c k := fun c k h1 h2 => by rw [f261 c k (by omega)]; exact F1 c k h1 h2
          refine go_istore (j := 10) (q := 266) (ls2 := [_, _, _, _, _, _, _, _, _, _, _, _, _, _, _, _, _, _]) (by decide) rfl rfl dL_same_264 rfl ?_
          refine go_aload_n (j := 0) (q := 267) rfl rfl dL_same_266 rfl ?_
          refine go_callVi (as := [_]) (As := []) (rest := []) (n := 0) (q := 270) dL_same_267 lk_L_78 (ci := 6) (N := 7) (T := TX6) rfl (by first | assumption | rfl) rfl rfl (by decide +kernel) rfl ⟨by decide, by decide⟩ ⟨rfl, rfl⟩ (Nat.le_of_ble_eq_true rfl) (ex6 hP261) rfl (fun x267 w267 h267 => ?_)
          obtain ⟨e267, hP267, f267⟩ := h267
          have hP267 : PXW w267 W := hP267
          have hX267 : LX w267 W := LX_same hX261 (fun c k h1 h2 => f267 c k h1)
          have F267 : ∀ c k, 45 ≤ c → c < 48 → w267 c k = w c k := fun c k h1 h2 => by rw [f267 c k h1]; exact F261 c k h1 h2
          have q267 : x267 = ((wN W) : Int) := e267
          refine go_iload (j := 5) (q := 272) rfl dL_same_270 rfl ?_
          refine go_icmp_ne2 (q := 275) (t := 403) dL_same_272 (by decide) rfl (by omega) (fun c272 => ?_) (fun c272 => ?_)
          · exact absurd q267 c272
          · refine go_aload_n (j := 0) (q := 276) rfl rfl dL_same_275 rfl ?_
            refine go_iconst (q := 277) dL_same_276 rfl ?_
            refine go_callVi (as := [_, _]) (As := [_]) (rest := []) (n := 1) (q := 280) dL_same_277 lk_L_81 (ci := 6) (N := 7) (T := TX6) rfl (by first | assumption | rfl) rfl rfl (by decide +kernel) rfl ⟨by decide, by decide⟩ ⟨rfl, rfl⟩ (Nat.le_of_ble_eq_true rfl) (ex9 hP267 (x := 1) (by omega)) rfl (fun x277 w277 h277 => ?_)
            obtain ⟨e277, hP277, f277⟩ := h277
            have hP277 : PXW w277 W := hP277
            have hX277 : LX w277 W := LX_same hX267 (fun c k h1 h2 => f277 c k h1)
            have F277 : ∀ c k, 45 ≤ c → c < 48 → w277 c k = w c k := fun c k h1 h2 => by rw [f277 c k h1]; exact F267 c k h1 h2
            refine go_iconst (q := 281) dL_same_280 rfl ?_
            refine go_aload_n (j := 2) (q := 282) rfl rfl dL_same_281 rfl ?_
            refine go_aload_n (j := 3) (q := 283) rfl rfl dL_same_282 rfl ?_
            refine go_callSi (as := [_, _, _]) (rest := [_]) (n := 3) (q := 286) dL_same_283 lk_L_22 rfl (by decide +kernel) rfl ⟨by decide, by decide⟩ ⟨rfl, rfl⟩ (Nat.le_of_ble_eq_true rfl) (el_vio1 hX277.1) rfl (fun x283 w283 h283 => ?_)
            obtain ⟨h283, rfl⟩ := h283
            have q277 : x277 = x283 := by
              rw [e277]
              show vio W 1 = _
              unfold vio
              rw [if_pos rfl]
              exact (the_eq h283 (fun u hu => low_u hu h283)).symm
            have r277 : -6 ≤ x283 ∧ x283 < 1000 := by
              rcases h283 with ⟨i, h1, h2, h3, h4⟩ | ⟨h1, h2⟩ <;> omega
            refine go_icmp_ne2 (q := 289) (t := 403) dL_same_286 (by decide) rfl (by omega) (fun c286 => ?_) (fun c286 => ?_)
            · exact absurd q277 c286
            · refine go_aload_n (j := 0) (q := 290) rfl rfl dL_same_289 rfl ?_
              refine go_iconst (q := 291) dL_same_290 rfl ?_
              refine go_callVi (as := [_, _]) (As := [_]) (rest := []) (n := 1) (q := 294) dL_same_291 lk_L_81 (ci := 6) (N := 7) (T := TX6) rfl (by first | assumption | rfl) rfl rfl (by decide +kernel) rfl ⟨by decide, by decide⟩ ⟨rfl, rfl⟩ (Nat.le_of_ble_eq_true rfl) (ex9 hP277 (x := 2) (by omega)) rfl (fun x291 w291 h291 => ?_)
              obtain ⟨e291, hP291, f291⟩ := h291
              have hP291 : PXW w291 W := hP291
              have hX291 : LX w291 W := LX_same hX277 (fun c k h1 h2 => f291 c k h1)
              have F291 : ∀ c k, 45 ≤ c → c < 48 → w291 c k = w c k := fun c k h1 h2 => by rw [f291 c k h1]; exact F277 c k h1 h2
              refine go_iconst (q := 295) dL_same_294 rfl ?_
              refine go_aload_n (j := 2) (q := 296) rfl rfl dL_same_295 rfl ?_
              refine go_aload_n (j := 3) (q := 297) rfl rfl dL_same_296 rfl ?_
              refine go_callSi (as := [_, _, _]) (rest := [_]) (n := 3) (q := 300) dL_same_297 lk_L_22 rfl (by decide +kernel) rfl ⟨by decide, by decide⟩ ⟨rfl, rfl⟩ (Nat.le_of_ble_eq_true rfl) (el_vio2 hX291.1) rfl (fun x297 w297 h297 => ?_)
              obtain ⟨h297, rfl⟩ := h297
              have q291 : x291 = x297 := by
                rw [e291]
                show vio W 2 = _
                unfold vio
                rw [if_neg (by decide)]
                rw [if_pos rfl]
                exact (the_eq h297 (fun u hu => low_u hu h297)).symm
              have r291 : -6 ≤ x297 ∧ x297 < 1000 := by
                rcases h297 with ⟨i, h1, h2, h3, h4⟩ | ⟨h1, h2⟩ <;> omega
              refine go_icmp_ne2 (q := 303) (t := 403) dL_same_300 (by decide) rfl (by omega) (fun c300 => ?_) (fun c300 => ?_)
              · exact absurd q291 c300
              · refine go_aload_n (j := 0) (q := 304) rfl rfl dL_same_303 rfl ?_
                refine go_iconst (q := 305) dL_same_304 rfl ?_
                refine go_callVi (as := [_, _]) (As := [_]) (rest := []) (n := 1) (q := 308) dL_same_305 lk_L_81 (ci := 6) (N := 7) (T := TX6) rfl (by first | assumption | rfl) rfl rfl (by decide +kernel) rfl ⟨by decide, by decide⟩ ⟨rfl, rfl⟩ (Nat.le_of_ble_eq_true rfl) (ex9 hP291 (x := 3) (by omega)) rfl (fun x305 w305 h305 => ?_)
                obtain ⟨e305, hP305, f305⟩ := h305
                have hP305 : PXW w305 W := hP305
                have hX305 : LX w305 W := LX_same hX291 (fun c k h1 h2 => f305 c k h1)
                have F305 : ∀ c k, 45 ≤ c → c < 48 → w305 c k = w c k := fun c k h1 h2 => by rw [f305 c k h1]; exact F291 c k h1 h2
                refine go_iconst (q := 309) dL_same_308 rfl ?_
                refine go_aload_n (j := 2) (q := 310) rfl rfl dL_same_309 rfl ?_
                refine go_aload_n (j := 3) (q := 311) rfl rfl dL_same_310 rfl ?_
                refine go_callSi (as := [_, _, _]) (rest := [_]) (n := 3) (q := 314) dL_same_311 lk_L_22 rfl (by decide +kernel) rfl ⟨by decide, by decide⟩ ⟨rfl, rfl⟩ (Nat.le_of_ble_eq_true rfl) (el_vio3 hX305.1) rfl (fun x311 w311 h311 => ?_)
                obtain ⟨h311, rfl⟩ := h311
                have q305 : x305 = x311 := by
                  rw [e305]
                  show vio W 3 = _
                  unfold vio
                  rw [if_neg (by decide)]
                  rw [if_neg (by decide)]
                  rw [if_pos rfl]
                  exact (the_eq h311 (fun u hu => low3_u hu h311)).symm
                have r305 : -6 ≤ x311 ∧ x311 < 1000 := by
                  rcases h311 with ⟨i, j, k, h1, h2, h3, h4⟩ | ⟨h1, h2⟩ <;> omega
                refine go_icmp_ne2 (q := 317) (t := 403) dL_same_314 (by decide) rfl (by omega) (fun c314 => ?_) (fun c314 => ?_)
                · exact absurd q305 c314
                · refine go_aload_n (j := 0) (q := 318) rfl rfl dL_same_317 rfl ?_
                  refine go_callVi (as := [_]) (As := []) (rest := []) (n := 0) (q := 321) dL_same_318 lk_L_83 (ci := 6) (N := 7) (T := TX6) rfl (by first | assumption | rfl) rfl rfl (by decide +kernel) rfl ⟨by decide, by decide⟩ ⟨rfl, rfl⟩ (Nat.le_of_ble_eq_true rfl) (ex11 hP305) rfl (fun x318 w318 h318 => ?_)
                  obtain ⟨e318, hP318, f318⟩ := h318
                  have hP318 : PXW w318 W := hP318
                  have hX318 : LX w318 W := LX_same hX305 (fun c k h1 h2 => f318 c k h1)
                  have F318 : ∀ c k, 45 ≤ c → c < 48 → w318 c k = w c k := fun c k h1 h2 => by rw [f318 c k h1]; exact F305 c k h1 h2
                  have q318 : x318 = ((ccF (wN W) (wF W) (wN W)).1 : Nat) := e318
                  refine go_iload (j := 6) (q := 323) rfl dL_same_321 rfl ?_
                  refine go_icmp_ne2 (q := 326) (t := 403) dL_same_323 (by decide) rfl (by omega) (fun c323 => ?_) (fun c323 => ?_)
                  · exact absurd (by omega) c323
                  · refine go_aload_n (j := 0) (q := 327) rfl rfl dL_same_326 rfl ?_
                    refine go_iload (j := 9) (q := 329) rfl dL_same_327 rfl ?_
                    refine go_callVi (as := [_, _]) (As := [_]) (rest := []) (n := 1) (q := 332) dL_same_329 lk_L_86 (ci := 6) (N := 7) (T := TX6) rfl (by first | assumption | rfl) rfl rfl (by decide +kernel) rfl ⟨by decide, by decide⟩ ⟨rfl, rfl⟩ (Nat.le_of_ble_eq_true rfl) (ex12 hP318 (by omega)) rfl (fun x329 w329 h329 => ?_)
                    obtain ⟨e329, hP329, f329⟩ := h329
                    have hP329 : PXW w329 W := hP329
                    have hX329 : LX w329 W := LX_same hX318 (fun c k h1 h2 => f329 c k h1)
                    have F329 : ∀ c k, 45 ≤ c → c < 48 → w329 c k = w c k := fun c k h1 h2 => by rw [f329 c k h1]; exact F318 c k h1 h2
                    have q329 : x329 = (cloT (wN W) (wF W) x254.toNat : Nat) := by
                      rw [e329]
                      unfold op12
                      show cif _ _ _ = _
                      rw [cif_t (by omega)]; rfl
                    have hclx := hclT x254.toNat (by omega)
                    refine go_iload (j := 9) (q := 334) rfl dL_same_332 rfl ?_
                    refine go_aload_n (j := 2) (q := 335) rfl rfl dL_same_334 rfl ?_
                    refine go_aload_n (j := 3) (q := 336) rfl rfl dL_same_335 rfl ?_
                    refine go_callSi (as := [_, _, _]) (rest := [_]) (n := 3) (q := 339) dL_same_336 lk_L_71 rfl (by decide +kernel) rfl ⟨by decide, by decide⟩ ⟨rfl, rfl⟩ (Nat.le_of_ble_eq_true rfl) (el_closure (s := x254.toNat) (by omega) (by omega) hX329.1) rfl (fun x336 w336 h336 => ?_)
                    obtain ⟨rfl, rfl⟩ := h336
                    refine go_icmp_ne2 (q := 342) (t := 403) dL_same_339 (by decide) rfl (by omega) (fun c339 => ?_) (fun c339 => ?_)
                    · exact absurd q329 c339
                    · refine go_aload_n (j := 0) (q := 343) rfl rfl dL_same_342 rfl ?_
                      refine go_callVi (as := [_]) (As := []) (rest := []) (n := 0) (q := 346) dL_same_343 lk_L_88 (ci := 6) (N := 7) (T := TX6) rfl (by first | assumption | rfl) rfl rfl (by decide +kernel) rfl ⟨by decide, by decide⟩ ⟨rfl, rfl⟩ (Nat.le_of_ble_eq_true rfl) (ex13 hP329) rfl (fun x343 w343 h343 => ?_)
                      obtain ⟨e343, hP343, f343⟩ := h343
                      have hP343 : PXW w343 W := hP343
                      have hX343 : LX w343 W := LX_same hX329 (fun c k h1 h2 => f343 c k h1)
                      have F343 : ∀ c k, 45 ≤ c → c < 48 → w343 c k = w c k := fun c k h1 h2 => by rw [f343 c k h1]; exact F329 c k h1 h2
                      have q343 : x343 = (lgF (wN W) (wF W) (2 ^ (wN W)) : Nat) := e343
                      have hlg2 := lgF_le (n := (wN W)) (f := (wF W)) (2 ^ (wN W))
                      refine go_iload (j := 8) (q := 348) rfl dL_same_346 rfl ?_
                      refine go_icmp_ne2 (q := 351) (t := 403) dL_same_348 (by decide) rfl (by omega) (fun c348 => ?_) (fun c348 => ?_)
                      · exact absurd (by omega) c348
                      · refine go_aload_n (j := 0) (q := 352) rfl rfl dL_same_351 rfl ?_
                        refine go_callVi (as := [_]) (As := []) (rest := []) (n := 0) (q := 355) dL_same_352 lk_L_91 (ci := 6) (N := 7) (T := TX6) rfl (by first | assumption | rfl) rfl rfl (by decide +kernel) rfl ⟨by decide, by decide⟩ ⟨rfl, rfl⟩ (Nat.le_of_ble_eq_true rfl) (ex15 hP343) rfl (fun x352 w352 h352 => ?_)
                        obtain ⟨e352, hP352, f352⟩ := h352
                        have hP352 : PXW w352 W := hP352
                        have hX352 : LX w352 W := LX_same hX343 (fun c k h1 h2 => f352 c k h1)
                        have F352 : ∀ c k, 45 ≤ c → c < 48 → w352 c k = w c k := fun c k h1 h2 => by rw [f352 c k h1]; exact F343 c k h1 h2
                        have q352 : x352 = (cN (newT (wN W) (wF W)) (wN W) : Nat) := e352
                        have hcnn := cN_le (newT (wN W) (wF W)) (wN W)
                        refine go_aload_n (j := 2) (q := 356) rfl rfl dL_same_355 rfl ?_
                        refine go_aload_n (j := 3) (q := 357) rfl rfl dL_same_356 rfl ?_
                        refine go_callSi (as := [_, _]) (rest := [_]) (n := 2) (q := 360) dL_same_357 lk_L_94 rfl (by decide +kernel) rfl ⟨by decide, by decide⟩ ⟨rfl, rfl⟩ (Nat.le_of_ble_eq_true rfl) (el_different hX352.1) rfl (fun x357 w357 h357 => ?_)
                        obtain ⟨rfl, rfl⟩ := h357
                        refine go_icmp_ne2 (q := 363) (t := 403) dL_same_360 (by decide) rfl (by omega) (fun c360 => ?_) (fun c360 => ?_)
                        · exact absurd q352 c360
                        · have hg720 : grpN (wN W) (wF W) ≤ 720 ∨ ¬ (∀ y, y < (wN W) → prm (wN W) (wF W) y) := by
                            by_cases q : ∀ y, y < (wN W) → prm (wN W) (wF W) y
                            · exact Or.inl (grp_720 hn hr q)
                            · exact Or.inr q
                          have rg : -6 ≤ x261 ∧ x261 < 1000 := by
                            rcases h261 with ⟨h1, h2⟩ | ⟨h1, ⟨h2, h3⟩ | ⟨h2, h3⟩⟩ <;> omega
                          refine go_iload (j := 10) (q := 365) rfl dL_same_363 rfl ?_
                          refine go_bipush (q := 367) rfl dL_same_365 rfl ?_
                          refine go_icmp_ne2 (q := 370) (t := 382) dL_same_367 (by decide) rfl (by omega) (fun c367 => ?_) (fun c367 => ?_)
                          · refine go_aload_n (j := 0) (q := 383) rfl rfl dL_same_382 rfl ?_
                            refine go_callVi (as := [_]) (As := []) (rest := []) (n := 0) (q := 386) dL_same_383 lk_L_97 (ci := 6) (N := 7) (T := TX6) rfl (by first | assumption | rfl) rfl rfl (by decide +kernel) rfl ⟨by decide, by decide⟩ ⟨rfl, rfl⟩ (Nat.le_of_ble_eq_true rfl) (ex16 hP352) rfl (fun x383 w383 h383 => ?_)
                            obtain ⟨e383, hP383, f383⟩ := h383
                            have hP383 : PXW w383 W := hP383
                            have hX383 : LX w383 W := LX_same hX352 (fun c k h1 h2 => f383 c k h1)
                            have F383 : ∀ c k, 45 ≤ c → c < 48 → w383 c k = w c k := fun c k h1 h2 => by rw [f383 c k h1]; exact F352 c k h1 h2
                            have q383 : x383 = x261 := by
                              rcases h261 with ⟨h1, h2⟩ | ⟨h1, ⟨h2, h3⟩ | ⟨h2, h3⟩⟩
                              · rw [e383, h2]; exact cif_f h1
                              · rw [e383, h3]; exact cif_t h1
                              · omega
                            refine go_iload (j := 10) (q := 388) rfl dL_same_386 rfl ?_
                            refine go_icmp_ne2 (q := 391) (t := 403) dL_same_388 (by decide) rfl (by omega) (fun c388 => ?_) (fun c388 => ?_)
                            · exact absurd q383 c388
                            · first
                              | (have hPv : PXW w371 W := hP371
                                 have hXv : LX w371 W := hX371
                                 have Fv : ∀ c k, 45 ≤ c → c < 48 → w371 c k = w c k := F371)
                              | (have hPv : PXW w383 W := hP383
                                 have hXv : LX w383 W := hX383
                                 have Fv : ∀ c k, 45 ≤ c → c < 48 → w383 c k = w c k := F383)
                              refine go_aload_n (j := 0) (q := 392) rfl rfl dL_same_391 rfl ?_
                              refine go_callVi (as := [_]) (As := []) (rest := []) (n := 0) (q := 395) dL_same_392 lk_L_100 (ci := 6) (N := 7) (T := TX6) rfl (by first | assumption | rfl) rfl rfl (by decide +kernel) rfl ⟨by decide, by decide⟩ ⟨rfl, rfl⟩ (Nat.le_of_ble_eq_true rfl) (ex17 hPv) rfl (fun x392 w392 h392 => ?_)
                              obtain ⟨e392, hP392, f392⟩ := h392
                              have hP392 : PXW w392 W := hP392
                              have hX392 : LX w392 W := LX_same hXv (fun c k h1 h2 => f392 c k h1)
                              have F392 : ∀ c k, 45 ≤ c → c < 48 → w392 c k = w c k := fun c k h1 h2 => by rw [f392 c k h1]; exact Fv c k h1 h2
                              have q392 : x392 = (autN (wN W) (wF W) : Nat) := e392
                              have haut : autN (wN W) (wF W) ≤ 720 := Nat.le_trans (cN_le _ _) (fcN_le ⟨(wN W), by omega⟩)
                              refine go_aload_n (j := 2) (q := 396) rfl rfl dL_same_395 rfl ?_
                              refine go_aload_n (j := 3) (q := 397) rfl rfl dL_same_396 rfl ?_
                              refine go_acallSi (B2 := 0) (as := [_, _]) (rest := [_]) (n := 2) (q := 400) dL_same_397 lk_L_103 rfl (by decide +kernel) rfl ⟨by decide, by decide⟩ (by show _ + 1 ≤ _ ∧ 64 ≤ 64 * 1; omega) (Nat.le_of_ble_eq_true rfl) (el_auts hX392.1) rfl (fun x397 w397 h397 => ?_)
                              obtain ⟨rfl, f397⟩ := h397
                              have hP397 : PXW w397 W := PXW_q hP392 (fun c k h => f397 c k (by omega))
                              have hX397 : LX w397 W := LX_same hX392 (fun c k h1 h2 => f397 c k (by omega))
                              have F397 : ∀ c k, 45 ≤ c → c < 48 → w397 c k = w c k := fun c k h1 h2 => by rw [f397 c k (by omega)]; exact F392 c k h1 h2
                              refine go_icmp_eq2 (q := 403) (t := 405) dL_same_400 (by decide) rfl (by omega) (fun c400 => ?_) (fun c400 => ?_)
                              · exact tail _ _ _ _ _ _ _ _ _ _ _ _ _ hP397 hX397 F397
                              · exact absurd q392 c400
                          · refine go_aload_n (j := 0) (q := 371) rfl rfl dL_same_370 rfl ?_
                            refine go_callVi (as := [_]) (As := []) (rest := []) (n := 0) (q := 374) dL_same_371 lk_L_97 (ci := 6) (N := 7) (T := TX6) rfl (by first | assumption | rfl) rfl rfl (by decide +kernel) rfl ⟨by decide, by decide⟩ ⟨rfl, rfl⟩ (Nat.le_of_ble_eq_true rfl) (ex16 hP352) rfl (fun x371 w371 h371 => ?_)
                            obtain ⟨e371, hP371, f371⟩ := h371
                            have hP371 : PXW w371 W := hP371
                            have hX371 : LX w371 W := LX_same hX352 (fun c k h1 h2 => f371 c k h1)
                            have F371 : ∀ c k, 45 ≤ c → c < 48 → w371 c k = w c k := fun c k h1 h2 => by rw [f371 c k h1]; exact F352 c k h1 h2
                            have q371 : x371 = (grpN (wN W) (wF W) : Int) ∧ 60 < grpN (wN W) (wF W) ∧ grpN (wN W) (wF W) ≤ 720 := by
                              rcases h261 with ⟨h1, h2⟩ | ⟨h1, ⟨h2, h3⟩ | ⟨h2, h3⟩⟩
                              · omega
                              · omega
                              · refine ⟨?_, h2, hg720.resolve_right (fun z => z h1)⟩
                                rw [e371]; exact cif_t h1
                            have hP371b : PXW w371 W := hP371
                            refine go_bipush (q := 376) rfl dL_same_374 rfl ?_
                            refine go_icmp_gt2 (q := 379) (t := 391) dL_same_376 (by decide) rfl (by omega) (fun c376 => ?_) (fun c376 => ?_)
                            · first
                              | (have hPv : PXW w371 W := hP371
                                 have hXv : LX w371 W := hX371
                                 have Fv : ∀ c k, 45 ≤ c → c < 48 → w371 c k = w c k := F371)
                              | (have hPv : PXW w383 W := hP383
                                 have hXv : LX w383 W := hX383
                                 have Fv : ∀ c k, 45 ≤ c → c < 48 → w383 c k = w c k := F383)
                              refine go_aload_n (j := 0) (q := 392) rfl rfl dL_same_391 rfl ?_
                              refine go_callVi (as := [_]) (As := []) (rest := []) (n := 0) (q := 395) dL_same_392 lk_L_100 (ci := 6) (N := 7) (T := TX6) rfl (by first | assumption | rfl) rfl rfl (by decide +kernel) rfl ⟨by decide, by decide⟩ ⟨rfl, rfl⟩ (Nat.le_of_ble_eq_true rfl) (ex17 hPv) rfl (fun x392 w392 h392 => ?_)
                              obtain ⟨e392, hP392, f392⟩ := h392
                              have hP392 : PXW w392 W := hP392
                              have hX392 : LX w392 W := LX_same hXv (fun c k h1 h2 => f392 c k h1)
                              have F392 : ∀ c k, 45 ≤ c → c < 48 → w392 c k = w c k := fun c k h1 h2 => by rw [f392 c k h1]; exact Fv c k h1 h2
                              have q392 : x392 = (autN (wN W) (wF W) : Nat) := e392
                              have haut : autN (wN W) (wF W) ≤ 720 := Nat.le_trans (cN_le _ _) (fcN_le ⟨(wN W), by omega⟩)
                              refine go_aload_n (j := 2) (q := 396) rfl rfl dL_same_395 rfl ?_
                              refine go_aload_n (j := 3) (q := 397) rfl rfl dL_same_396 rfl ?_
                              refine go_acallSi (B2 := 0) (as := [_, _]) (rest := [_]) (n := 2) (q := 400) dL_same_397 lk_L_103 rfl (by decide +kernel) rfl ⟨by decide, by decide⟩ (by show _ + 1 ≤ _ ∧ 64 ≤ 64 * 1; omega) (Nat.le_of_ble_eq_true rfl) (el_auts hX392.1) rfl (fun x397 w397 h397 => ?_)
                              obtain ⟨rfl, f397⟩ := h397
                              have hP397 : PXW w397 W := PXW_q hP392 (fun c k h => f397 c k (by omega))
                              have hX397 : LX w397 W := LX_same hX392 (fun c k h1 h2 => f397 c k (by omega))
                              have F397 : ∀ c k, 45 ≤ c → c < 48 → w397 c k = w c k := fun c k h1 h2 => by rw [f397 c k (by omega)]; exact F392 c k h1 h2
                              refine go_icmp_eq2 (q := 403) (t := 405) dL_same_400 (by decide) rfl (by omega) (fun c400 => ?_) (fun c400 => ?_)
                              · exact tail _ _ _ _ _ _ _ _ _ _ _ _ _ hP397 hX397 F397
                              · exact absurd q392 c400
                            · exact absurd c376 (by omega)
        · refine go_iload (j := 9) (q := 207) rfl dL_same_205 rfl ?_
          refine go_aload_n (j := 2) (q := 208) rfl rfl dL_same_207 rfl ?_
          refine go_aload_n (j := 3) (q := 209) rfl rfl dL_same_208 rfl ?_
          have hclu := hclT u (by omega)
          have hpcu := (pc_full (N := (wN W)) (a := u) (by omega) (by omega)).1
          have hst : lgF (wN W) (wF W) (u + 1) = (if cloT (wN W) (wF W) u = 2 ^ (wN W) - 1 then (if lgF (wN W) (wF W) u ≤ pc u then lgF (wN W) (wF W) u else pc u) else lgF (wN W) (wF W) u) := rfl
          refine go_callSi (as := [_, _, _]) (rest := []) (n := 3) (q := 212) dL_same_209 lk_L_71 rfl (by decide +kernel) rfl ⟨by decide, by decide⟩ ⟨rfl, rfl⟩ (Nat.le_of_ble_eq_true rfl) (el_closure (s := u) eu (by omega) hX1.1) rfl (fun x209 w209 h209 => ?_)
          obtain ⟨rfl, rfl⟩ := h209
          refine go_iconst (q := 213) dL_same_212 rfl ?_
          refine go_iload (j := 5) (q := 215) rfl dL_same_213 rfl ?_
          refine go_ishl (q := 216) dL_same_215 rfl ?_
          rw [e201]
          refine go_iconst (q := 217) dL_same_216 rfl ?_
          refine go_isub (q := 218) dL_same_217 rfl ?_
          refine go_icmp_ne2 (q := 221) (t := 239) dL_same_218 (by decide) rfl (by omega) (fun c218 => ?_) (fun c218 => ?_)
          · rw [if_neg (by omega)] at hst
            refine go_iload (j := 8) (q := 241) rfl dL_same_239 rfl ?_
            refine go_istore (j := 8) (q := 243) (ls2 := [_, _, _, _, _, _, _, _, _, _, _, _, _, _, _, _, _, _]) (by decide) rfl rfl dL_same_241 rfl ?_
            refine go_iinc (j := 9) (q := 246) (ls2 := [_, _, _, _, _, _, _, _, _, _, _, _, _, _, _, _, _, _]) rfl (by decide) rfl rfl dL_same_243 rfl ?_
            refine go_goto (q := 196) dL_same_246 (by decide) ?_
            exact ih196 _ (by omega) (u + 1) _ _ _ _ _ _ _ _ _ _ (by omega) (by omega) (by omega) rfl
          · rw [if_pos (by omega)] at hst
            refine go_iload (j := 9) (q := 223) rfl dL_same_221 rfl ?_
            refine go_callSi (as := [_]) (rest := []) (n := 1) (q := 226) dL_same_223 lk_L_16 rfl (by decide +kernel) rfl ⟨by decide, by decide⟩ ⟨rfl, rfl⟩ (Nat.le_of_ble_eq_true rfl) (el_ones (m := u) eu (by omega)) rfl (fun x223 w223 h223 => ?_)
            obtain ⟨rfl, rfl⟩ := h223
            refine go_iload (j := 8) (q := 228) rfl dL_same_226 rfl ?_
            refine go_icmp_ge2 (q := 231) (t := 239) dL_same_228 (by decide) rfl (by omega) (fun c228 => ?_) (fun c228 => ?_)
            · rw [if_pos (by omega)] at hst
              refine go_iload (j := 8) (q := 241) rfl dL_same_239 rfl ?_
              refine go_istore (j := 8) (q := 243) (ls2 := [_, _, _, _, _, _, _, _, _, _, _, _, _, _, _, _, _, _]) (by decide) rfl rfl dL_same_241 rfl ?_
              refine go_iinc (j := 9) (q := 246) (ls2 := [_, _, _, _, _, _, _, _, _, _, _, _, _, _, _, _, _, _]) rfl (by decide) rfl rfl dL_same_243 rfl ?_
              refine go_goto (q := 196) dL_same_246 (by decide) ?_
              exact ih196 _ (by omega) (u + 1) _ _ _ _ _ _ _ _ _ _ (by omega) (by omega) (by omega) rfl
            · rw [if_neg (by omega)] at hst
              refine go_iload (j := 9) (q := 233) rfl dL_same_231 rfl ?_
              refine go_callSi (as := [_]) (rest := []) (n := 1) (q := 236) dL_same_233 lk_L_16 rfl (by decide +kernel) rfl ⟨by decide, by decide⟩ ⟨rfl, rfl⟩ (Nat.le_of_ble_eq_true rfl) (el_ones (m := u) eu (by omega)) rfl (fun x233 w233 h233 => ?_)
              obtain ⟨rfl, rfl⟩ := h233
              refine go_goto (q := 241) dL_same_236 (by decide) ?_
              refine go_istore (j := 8) (q := 243) (ls2 := [_, _, _, _, _, _, _, _, _, _, _, _, _, _, _, _, _, _]) (by decide) rfl rfl dL_same_241 rfl ?_
              refine go_iinc (j := 9) (q := 246) (ls2 := [_, _, _, _, _, _, _, _, _, _, _, _, _, _, _, _, _, _]) rfl (by decide) rfl rfl dL_same_243 rfl ?_
              refine go_goto (q := 196) dL_same_246 (by decide) ?_
              exact ih196 _ (by omega) (u + 1) _ _ _ _ _ _ _ _ _ _ (by omega) (by omega) (by omega) rfl
      exact lp196 _ 1 _ _ _ _ _ _ _ _ _ _ rfl (by omega) (by rw [lgF_1 hn.1]) rfl
    · have hb1 := bit_eq (a := p.2) (k := y) (by omega) (by omega)
      rw [← esi, ← ey] at hb1
      have hcy := hcT y (by omega)
      have e41 : shlZ 1 yi = ((2 ^ y : Nat) : Int) := by rw [ey, shl_eq (by omega)]
      refine go_iload (j := 7) (q := 27) rfl dL_same_25 rfl ?_
      refine go_iload (j := 9) (q := 29) rfl dL_same_27 rfl ?_
      refine go_ishr (q := 30) dL_same_29 rfl ?_
      refine go_iconst (q := 31) dL_same_30 rfl ?_
      refine go_iand (q := 32) dL_same_31 rfl ?_
      refine go_if_ne2 (q := 35) (t := 53) dL_same_32 (by decide) rfl (by rw [hb1]; split <;> omega) (fun c32 => ?_) (fun c32 => ?_)
      · have hbt : p.2.testBit y = true := by rw [hb1] at c32; by_cases q : p.2.testBit y = true; exact q; rw [if_neg q] at c32; omega
        obtain ⟨p2, hp2e⟩ : ∃ p2 : Nat × Nat, p2 = p := ⟨_, rfl⟩
        have ep2 : p2 = ccF (wN W) (wF W) (y + 1) := by show p2 = (if (ccF (wN W) (wF W) y).2.testBit y = true then ccF (wN W) (wF W) y else _); rw [← ep, if_pos hbt]; exact hp2e
        have epi2 : pi = p2.1 := by rw [hp2e]; exact epi
        have esi2 : si = p2.2 := by rw [hp2e]; exact esi
        have hpl2 : p2.2 < 2 ^ (wN W) := by rw [hp2e]; exact hp2
        refine go_iconst (q := 54) dL_same_53 rfl ?_
        refine go_istore (j := 10) (q := 56) (ls2 := [_, _, _, _, _, _, _, _, _, _, _, _, _, _, _, _, _, _]) (by decide) rfl rfl dL_same_54 rfl ?_
        have lp56 : ∀ (m56 : Nat) (z : Nat) (qi ti zi : Int) (o11 o12 o13 o14 o15 o16 o17 : Option MV) (w2 : Mem) (ez : zi = z) (hz : z ≤ (wN W)) (eqi : qi = p2.1) (eti : ti = p2.2) (hP2 : PXW w2 W) (hX2 : LX w2 W) (F2 : ∀ c k, 45 ≤ c → c < 48 → w2 c k = w c k), m56 = (wN W) - z → gL_same l D ck ad shA 2 (VW D ck ad shA) 56 [some (vR 0), some (vI xi), some (vR 45), some (vR 46), some (vR 47), (some (vI ((wN W) : Int))), some (vI qi), some (vI ti), (some (vI ((wN W) : Int))), some (vI yi), some (vI zi), o11, o12, o13, o14, o15, o16, o17] [] w2 K := by
          intro m56
          induction m56 using Nat.strongRecOn with
          | _ m56 ih56 =>
          intro z qi ti zi o11 o12 o13 o14 o15 o16 o17 w2 ez hz eqi eti hP2 hX2 F2 em56
          refine go_iload (j := 10) (q := 58) rfl dL_same_56 rfl ?_
          refine go_iload (j := 5) (q := 60) rfl dL_same_58 rfl ?_
          refine go_icmp_ge2 (q := 63) (t := 150) dL_same_60 (by decide) rfl (by omega) (fun c60 => ?_) (fun c60 => ?_)
          · refine go_aload_n (j := 0) (q := 151) rfl rfl dL_same_150 rfl ?_
            refine go_iload (j := 9) (q := 153) rfl dL_same_151 rfl ?_
            refine go_callVi (as := [_, _]) (As := [_]) (rest := []) (n := 1) (q := 156) dL_same_153 lk_L_63 (ci := 6) (N := 7) (T := TX6) rfl (by first | assumption | rfl) rfl rfl (by decide +kernel) rfl ⟨by decide, by decide⟩ ⟨rfl, rfl⟩ (Nat.le_of_ble_eq_true rfl) (ex10 hP2 (by omega)) rfl (fun x153 w153 h153 => ?_)
            obtain ⟨e153, hP153, f153⟩ := h153
            have hP153 : PXW w153 W := hP153
            have hX153 : LX w153 W := LX_same hX2 (fun c k h1 h2 => f153 c k h1)
            have F153 : ∀ c k, 45 ≤ c → c < 48 → w153 c k = w c k := fun c k h1 h2 => by rw [f153 c k h1]; exact F2 c k h1 h2
            have q153 : x153 = ((itN (rnd2 (stR (wF W)) (wN W)) (2 ^ y) (wN W) : Nat) : Int) := by
              rw [e153]
              unfold op10
              show cif _ _ _ = _
              rw [cif_t (by omega), show yi.toNat = y by omega]
            have hit : itN (rnd2 (stR (wF W)) (wN W)) (2 ^ y) (wN W) < 2 ^ (wN W) := itr_lt (fun m hm => rnd2_lt (stR_lt hr) hm) (two_lt (show y < (wN W) by omega)) (wN W)
            refine go_iconst (q := 157) dL_same_156 rfl ?_
            refine go_iload (j := 9) (q := 159) rfl dL_same_157 rfl ?_
            refine go_ishl (q := 160) dL_same_159 rfl ?_
            refine go_iconst (q := 161) dL_same_160 rfl ?_
            refine go_aload_n (j := 2) (q := 162) rfl rfl dL_same_161 rfl ?_
            refine go_aload_n (j := 3) (q := 163) rfl rfl dL_same_162 rfl ?_
            refine go_callSi (as := [_, _, _, _]) (rest := [_]) (n := 4) (q := 166) dL_same_163 lk_L_53 rfl (by decide +kernel) rfl ⟨by decide, by decide⟩ ⟨rfl, rfl⟩ (Nat.le_of_ble_eq_true rfl) (el_reach0 (x0 := y) e41 (by omega) hX153.1) rfl (fun x163 w163 h163 => ?_)
            obtain ⟨rfl, rfl⟩ := h163
            refine go_icmp_ne2 (q := 169) (t := 185) dL_same_166 (by decide) rfl (by omega) (fun c166 => ?_) (fun c166 => ?_)
            · exact absurd q153 c166
            · refine go_aload_n (j := 0) (q := 170) rfl rfl dL_same_169 rfl ?_
              refine go_iload (j := 9) (q := 172) rfl dL_same_170 rfl ?_
              refine go_callVi (as := [_, _]) (As := [_]) (rest := []) (n := 1) (q := 175) dL_same_172 lk_L_65 (ci := 6) (N := 7) (T := TX6) rfl (by first | assumption | rfl) rfl rfl (by decide +kernel) rfl ⟨by decide, by decide⟩ ⟨rfl, rfl⟩ (Nat.le_of_ble_eq_true rfl) (ex14 hP153 (by omega)) rfl (fun x172 w172 h172 => ?_)
              obtain ⟨e172, hP172, f172⟩ := h172
              have hP172 : PXW w172 W := hP172
              have hX172 : LX w172 W := LX_same hX153 (fun c k h1 h2 => f172 c k h1)
              have F172 : ∀ c k, 45 ≤ c → c < 48 → w172 c k = w c k := fun c k h1 h2 => by rw [f172 c k h1]; exact F153 c k h1 h2
              refine go_iload (j := 9) (q := 177) rfl dL_same_175 rfl ?_
              refine go_aload_n (j := 2) (q := 178) rfl rfl dL_same_177 rfl ?_
              refine go_aload_n (j := 3) (q := 179) rfl rfl dL_same_178 rfl ?_
              refine go_callSi (as := [_, _, _]) (rest := [_]) (n := 3) (q := 182) dL_same_179 lk_L_68 rfl (by decide +kernel) rfl ⟨by decide, by decide⟩ ⟨rfl, rfl⟩ (Nat.le_of_ble_eq_true rfl) (el_order (y := y) ey (by omega) hX172.1) rfl (fun x179 w179 h179 => ?_)
              obtain ⟨h179, rfl⟩ := h179
              have q172 : x172 = x179 := by
                rw [e172]
                unfold op14
                show cif _ _ _ = _
                rw [cif_t (by omega), show yi.toNat = y by omega]
                exact (the_eq h179 (fun u hu => ord_u hu h179)).symm
              refine go_icmp_eq2 (q := 185) (t := 187) dL_same_182 (by decide) rfl (by rcases h179 with ⟨h1, h2⟩ | ⟨h1, u0, h2, h3, h4⟩ <;> omega) (fun c182 => ?_) (fun c182 => ?_)
              · refine go_iinc (j := 9) (q := 190) (ls2 := [_, _, _, _, _, _, _, _, _, _, _, _, _, _, _, _, _, _]) rfl (by decide) rfl rfl dL_same_187 rfl ?_
                refine go_goto (q := 18) dL_same_190 (by decide) ?_
                exact ih18 _ (by omega) (y + 1) _ _ _ _ _ _ _ _ _ _ _ _ p2 (by omega) (by omega) ep2 eqi eti hpl2 hP172 hX172 F172 rfl
              · exact absurd q172 c182
          · refine go_bipush (q := 65) rfl dL_same_63 rfl ?_
            refine go_istore (j := 11) (q := 67) (ls2 := [_, _, _, _, _, _, _, _, _, _, _, _, _, _, _, _, _, _]) (by decide) rfl rfl dL_same_65 rfl ?_
            refine go_iload (j := 5) (q := 69) rfl dL_same_67 rfl ?_
            refine go_iconst (q := 70) dL_same_69 rfl ?_
            refine go_isub (q := 71) dL_same_70 rfl ?_
            refine go_istore (j := 12) (q := 73) (ls2 := [_, _, _, _, _, _, _, _, _, _, _, _, _, _, _, _, _, _]) (by decide) rfl rfl dL_same_71 rfl ?_
            have lp73 : ∀ (m73 : Nat) (u : Nat) (fi ki : Int) (o13 o14 o15 o16 o17 : Option MV) (ek : ki = (u : Int) - 1) (hu : u ≤ (wN W)) (hlo : lowD (wN W) u (fun i => (wF W) i y = z) fi), m73 = u → gL_same l D ck ad shA 2 (VW D ck ad shA) 73 [some (vR 0), some (vI xi), some (vR 45), some (vR 46), some (vR 47), (some (vI ((wN W) : Int))), some (vI qi), some (vI ti), (some (vI ((wN W) : Int))), some (vI yi), some (vI zi), some (vI fi), some (vI ki), o13, o14, o15, o16, o17] [] w2 K := by
              intro m73
              induction m73 using Nat.strongRecOn with
              | _ m73 ih73 =>
              intro u fi ki o13 o14 o15 o16 o17 ek hu hlo em73
              refine go_iload (j := 12) (q := 75) rfl dL_same_73 rfl ?_
              refine go_if_lt2 (q := 78) (t := 108) dL_same_75 (by decide) rfl (by omega) (fun c75 => ?_) (fun c75 => ?_)
              · have hlow : isLowP (wN W) (fun i => (wF W) i y = z) fi := lowD_0 (by rw [show u = 0 by omega] at hlo; exact hlo)
                refine go_aload_n (j := 0) (q := 109) rfl rfl dL_same_108 rfl ?_
                refine go_iload (j := 10) (q := 111) rfl dL_same_109 rfl ?_
                refine go_iload (j := 9) (q := 113) rfl dL_same_111 rfl ?_
                refine go_callVi (as := [_, _, _]) (As := [_, _]) (rest := []) (n := 2) (q := 116) dL_same_113 lk_L_57 (ci := 6) (N := 7) (T := TX6) rfl (by first | assumption | rfl) rfl rfl (by decide +kernel) rfl ⟨by decide, by decide⟩ ⟨rfl, rfl⟩ (Nat.le_of_ble_eq_true rfl) (ex7 hP2 (by omega) (by omega)) rfl (fun x113 w113 h113 => ?_)
                obtain ⟨e113, hP113, f113⟩ := h113
                have hP113 : PXW w113 W := hP113
                have hX113 : LX w113 W := LX_same hX2 (fun c k h1 h2 => f113 c k h1)
                have F113 : ∀ c k, 45 ≤ c → c < 48 → w113 c k = w c k := fun c k h1 h2 => by rw [f113 c k h1]; exact F2 c k h1 h2
                have q113 : x113 = ((wF W) z y : Int) := by
                  rw [e113]
                  unfold op7
                  show cif _ _ _ = _
                  rw [cif_t (by omega), show zi.toNat = z by omega, show yi.toNat = y by omega]
                have hd3 := hX113.1.2.2 z y (by omega) (by omega)
                refine go_aload_n (j := 3) (q := 117) rfl rfl dL_same_116 rfl ?_
                refine go_bipush (q := 119) rfl dL_same_117 rfl ?_
                refine go_iload (j := 10) (q := 121) rfl dL_same_119 rfl ?_
                refine go_imul (q := 122) dL_same_121 rfl ?_
                refine go_iload (j := 9) (q := 124) rfl dL_same_122 rfl ?_
                refine go_iadd (q := 125) dL_same_124 rfl ?_
                refine go_iald (j := 6 * z + y) (q := 126) (by first | assumption | rfl) (wr_eq (by omega)) (by omega) dL_same_125 rfl ?_
                rw [show w113 46 (6 * z + y) = ((wF W) z y : Int) from hd3.1]
                refine go_icmp_ne2 (q := 129) (t := 142) dL_same_126 (by decide) rfl (by omega) (fun c126 => ?_) (fun c126 => ?_)
                · exact absurd q113 c126
                · refine go_aload_n (j := 0) (q := 130) rfl rfl dL_same_129 rfl ?_
                  refine go_iload (j := 10) (q := 132) rfl dL_same_130 rfl ?_
                  refine go_iload (j := 9) (q := 134) rfl dL_same_132 rfl ?_
                  refine go_callVi (as := [_, _, _]) (As := [_, _]) (rest := []) (n := 2) (q := 137) dL_same_134 lk_L_60 (ci := 6) (N := 7) (T := TX6) rfl (by first | assumption | rfl) rfl rfl (by decide +kernel) rfl ⟨by decide, by decide⟩ ⟨rfl, rfl⟩ (Nat.le_of_ble_eq_true rfl) (ex8 hP113 (by omega) (by omega)) rfl (fun x134 w134 h134 => ?_)
                  obtain ⟨e134, hP134, f134⟩ := h134
                  have hP134 : PXW w134 W := hP134
                  have hX134 : LX w134 W := LX_same hX113 (fun c k h1 h2 => f134 c k h1)
                  have F134 : ∀ c k, 45 ≤ c → c < 48 → w134 c k = w c k := fun c k h1 h2 => by rw [f134 c k h1]; exact F113 c k h1 h2
                  have q134 : x134 = fi := by
                    rw [e134]
                    unfold op8
                    show cif _ _ _ = _
                    rw [cif_t (by omega), show zi.toNat = z by omega, show yi.toNat = y by omega]
                    exact (the_eq hlow (fun u hu => low_u hu hlow)).symm
                  refine go_iload (j := 11) (q := 139) rfl dL_same_137 rfl ?_
                  refine go_icmp_eq2 (q := 142) (t := 144) dL_same_139 (by decide) rfl (by rcases hlow with ⟨i, h1, h2, h3, h4⟩ | ⟨h1, h2⟩ <;> omega) (fun c139 => ?_) (fun c139 => ?_)
                  · refine go_iinc (j := 10) (q := 147) (ls2 := [_, _, _, _, _, _, _, _, _, _, _, _, _, _, _, _, _, _]) rfl (by decide) rfl rfl dL_same_144 rfl ?_
                    refine go_goto (q := 56) dL_same_147 (by decide) ?_
                    exact ih56 _ (by omega) (z + 1) _ _ _ _ _ _ _ _ _ _ _ (by omega) (by omega) eqi eti hP134 hX134 F134 rfl
                  · exact absurd q134 c139
              · obtain ⟨u1, rfl⟩ : ∃ u1, u = u1 + 1 := ⟨u - 1, by omega⟩
                have hd := hX2.1.2.2 u1 y (by omega) (by omega)
                refine go_aload_n (j := 3) (q := 79) rfl rfl dL_same_78 rfl ?_
                refine go_bipush (q := 81) rfl dL_same_79 rfl ?_
                refine go_iload (j := 12) (q := 83) rfl dL_same_81 rfl ?_
                refine go_imul (q := 84) dL_same_83 rfl ?_
                refine go_iload (j := 9) (q := 86) rfl dL_same_84 rfl ?_
                refine go_iadd (q := 87) dL_same_86 rfl ?_
                refine go_iald (j := 6 * u1 + y) (q := 88) (by first | assumption | rfl) (wr_eq (by omega)) (by omega) dL_same_87 rfl ?_
                rw [show w2 46 (6 * u1 + y) = ((wF W) u1 y : Int) from hd.1]
                refine go_iload (j := 10) (q := 90) rfl dL_same_88 rfl ?_
                refine go_icmp_ne2 (q := 93) (t := 98) dL_same_90 (by decide) rfl (by omega) (fun c90 => ?_) (fun c90 => ?_)
                · refine go_iload (j := 11) (q := 100) rfl dL_same_98 rfl ?_
                  refine go_istore (j := 11) (q := 102) (ls2 := [_, _, _, _, _, _, _, _, _, _, _, _, _, _, _, _, _, _]) (by decide) rfl rfl dL_same_100 rfl ?_
                  refine go_iinc (j := 12) (q := 105) (ls2 := [_, _, _, _, _, _, _, _, _, _, _, _, _, _, _, _, _, _]) rfl (by decide) rfl rfl dL_same_102 rfl ?_
                  refine go_goto (q := 73) dL_same_105 (by decide) ?_
                  first
                  | exact ih73 _ (by omega) u1 _ _ _ _ _ _ _ (by omega) (by omega) (lowD_n (by omega) hlo) rfl
                  | exact ih73 _ (by omega) u1 _ _ _ _ _ _ _ (by omega) (by omega) (by rw [show ki = (u1 : Int) by omega]; exact lowD_y (by omega) (by omega)) rfl
                · refine go_iload (j := 12) (q := 95) rfl dL_same_93 rfl ?_
                  refine go_goto (q := 100) dL_same_95 (by decide) ?_
                  refine go_istore (j := 11) (q := 102) (ls2 := [_, _, _, _, _, _, _, _, _, _, _, _, _, _, _, _, _, _]) (by decide) rfl rfl dL_same_100 rfl ?_
                  refine go_iinc (j := 12) (q := 105) (ls2 := [_, _, _, _, _, _, _, _, _, _, _, _, _, _, _, _, _, _]) rfl (by decide) rfl rfl dL_same_102 rfl ?_
                  refine go_goto (q := 73) dL_same_105 (by decide) ?_
                  first
                  | exact ih73 _ (by omega) u1 _ _ _ _ _ _ _ (by omega) (by omega) (lowD_n (by omega) hlo) rfl
                  | exact ih73 _ (by omega) u1 _ _ _ _ _ _ _ (by omega) (by omega) (by rw [show ki = (u1 : Int) by omega]; exact lowD_y (by omega) (by omega)) rfl
            exact lp73 _ (wN W) _ _ _ _ _ _ _ (by omega) (by omega) (Or.inl ⟨rfl, fun i h1 h2 => by omega⟩) rfl
        exact lp56 _ 0 _ _ _ _ _ _ _ _ _ _ _ rfl (by omega) epi2 esi2 hP1 hX1 F1 rfl
      · have hbt : ¬ p.2.testBit y = true := by rw [hb1] at c32; intro q; rw [if_pos q] at c32; omega
        obtain ⟨p2, hp2e⟩ : ∃ p2 : Nat × Nat, p2 = (p.1 + 1, p.2 ||| cmpT (wN W) (wF W) y) := ⟨_, rfl⟩
        have ep2 : p2 = ccF (wN W) (wF W) (y + 1) := by show p2 = (if (ccF (wN W) (wF W) y).2.testBit y = true then _ else ((ccF (wN W) (wF W) y).1 + 1, (ccF (wN W) (wF W) y).2 ||| cmpT (wN W) (wF W) y)); rw [← ep, if_neg hbt]; exact hp2e
        have epi2 : pi + 1 = p2.1 := by rw [hp2e]; simp only; omega
        have esi2 : ((p.2 ||| cmpT (wN W) (wF W) y : Nat) : Int) = p2.2 := by rw [hp2e]
        have hpl2 : p2.2 < 2 ^ (wN W) := by rw [hp2e]; exact or_lt hp2 hcy
        refine go_iload (j := 7) (q := 37) rfl dL_same_35 rfl ?_
        refine go_iconst (q := 38) dL_same_37 rfl ?_
        refine go_iload (j := 9) (q := 40) rfl dL_same_38 rfl ?_
        refine go_ishl (q := 41) dL_same_40 rfl ?_
        refine go_iconst (q := 42) dL_same_41 rfl ?_
        refine go_aload_n (j := 2) (q := 43) rfl rfl dL_same_42 rfl ?_
        refine go_aload_n (j := 3) (q := 44) rfl rfl dL_same_43 rfl ?_
        refine go_callSi (as := [_, _, _, _]) (rest := [_]) (n := 4) (q := 47) dL_same_44 lk_L_53 rfl (by decide +kernel) rfl ⟨by decide, by decide⟩ ⟨rfl, rfl⟩ (Nat.le_of_ble_eq_true rfl) (el_reach1 (x0 := y) e41 (by omega) hX1.1) rfl (fun x44 w44 h44 => ?_)
        obtain ⟨rfl, rfl⟩ := h44
        rw [esi]
        refine go_ior (q := 48) dL_same_47 rfl ?_
        rw [or_eq (by omega) (by omega)]
        refine go_istore (j := 7) (q := 50) (ls2 := [_, _, _, _, _, _, _, _, _, _, _, _, _, _, _, _, _, _]) (by decide) rfl rfl dL_same_48 rfl ?_
        refine go_iinc (j := 6) (q := 53) (ls2 := [_, _, _, _, _, _, _, _, _, _, _, _, _, _, _, _, _, _]) rfl (by decide) rfl rfl dL_same_50 rfl ?_
        refine go_iconst (q := 54) dL_same_53 rfl ?_
        refine go_istore (j := 10) (q := 56) (ls2 := [_, _, _, _, _, _, _, _, _, _, _, _, _, _, _, _, _, _]) (by decide) rfl rfl dL_same_54 rfl ?_
        have lp56 : ∀ (m56 : Nat) (z : Nat) (qi ti zi : Int) (o11 o12 o13 o14 o15 o16 o17 : Option MV) (w2 : Mem) (ez : zi = z) (hz : z ≤ (wN W)) (eqi : qi = p2.1) (eti : ti = p2.2) (hP2 : PXW w2 W) (hX2 : LX w2 W) (F2 : ∀ c k, 45 ≤ c → c < 48 → w2 c k = w c k), m56 = (wN W) - z → gL_same l D ck ad shA 2 (VW D ck ad shA) 56 [some (vR 0), some (vI xi), some (vR 45), some (vR 46), some (vR 47), (some (vI ((wN W) : Int))), some (vI qi), some (vI ti), (some (vI ((wN W) : Int))), some (vI yi), some (vI zi), o11, o12, o13, o14, o15, o16, o17] [] w2 K := by
          intro m56
          induction m56 using Nat.strongRecOn with
          | _ m56 ih56 =>
          intro z qi ti zi o11 o12 o13 o14 o15 o16 o17 w2 ez hz eqi eti hP2 hX2 F2 em56
          refine go_iload (j := 10) (q := 58) rfl dL_same_56 rfl ?_
          refine go_iload (j := 5) (q := 60) rfl dL_same_58 rfl ?_
          refine go_icmp_ge2 (q := 63) (t := 150) dL_same_60 (by decide) rfl (by omega) (fun c60 => ?_) (fun c60 => ?_)
          · refine go_aload_n (j := 0) (q := 151) rfl rfl dL_same_150 rfl ?_
            refine go_iload (j := 9) (q := 153) rfl dL_same_151 rfl ?_
            refine go_callVi (as := [_, _]) (As := [_]) (rest := []) (n := 1) (q := 156) dL_same_153 lk_L_63 (ci := 6) (N := 7) (T := TX6) rfl (by first | assumption | rfl) rfl rfl (by decide +kernel) rfl ⟨by decide, by decide⟩ ⟨rfl, rfl⟩ (Nat.le_of_ble_eq_true rfl) (ex10 hP2 (by omega)) rfl (fun x153 w153 h153 => ?_)
            obtain ⟨e153, hP153, f153⟩ := h153
            have hP153 : PXW w153 W := hP153
            have hX153 : LX w153 W := LX_same hX2 (fun c k h1 h2 => f153 c k h1)
            have F153 : ∀ c k, 45 ≤ c → c < 48 → w153 c k = w c k := fun c k h1 h2 => by rw [f153 c k h1]; exact F2 c k h1 h2
            have q153 : x153 = ((itN (rnd2 (stR (wF W)) (wN W)) (2 ^ y) (wN W) : Nat) : Int) := by
              rw [e153]
              unfold op10
              show cif _ _ _ = _
              rw [cif_t (by omega), show yi.toNat = y by omega]
            have hit : itN (rnd2 (stR (wF W)) (wN W)) (2 ^ y) (wN W) < 2 ^ (wN W) := itr_lt (fun m hm => rnd2_lt (stR_lt hr) hm) (two_lt (show y < (wN W) by omega)) (wN W)
            refine go_iconst (q := 157) dL_same_156 rfl ?_
            refine go_iload (j := 9) (q := 159) rfl dL_same_157 rfl ?_
            refine go_ishl (q := 160) dL_same_159 rfl ?_
            refine go_iconst (q := 161) dL_same_160 rfl ?_
            refine go_aload_n (j := 2) (q := 162) rfl rfl dL_same_161 rfl ?_
            refine go_aload_n (j := 3) (q := 163) rfl rfl dL_same_162 rfl ?_
            refine go_callSi (as := [_, _, _, _]) (rest := [_]) (n := 4) (q := 166) dL_same_163 lk_L_53 rfl (by decide +kernel) rfl ⟨by decide, by decide⟩ ⟨rfl, rfl⟩ (Nat.le_of_ble_eq_true rfl) (el_reach0 (x0 := y) e41 (by omega) hX153.1) rfl (fun x163 w163 h163 => ?_)
            obtain ⟨rfl, rfl⟩ := h163
            refine go_icmp_ne2 (q := 169) (t := 185) dL_same_166 (by decide) rfl (by omega) (fun c166 => ?_) (fun c166 => ?_)
            · exact absurd q153 c166
            · refine go_aload_n (j := 0) (q := 170) rfl rfl dL_same_169 rfl ?_
              refine go_iload (j := 9) (q := 172) rfl dL_same_170 rfl ?_
              refine go_callVi (as := [_, _]) (As := [_]) (rest := []) (n := 1) (q := 175) dL_same_172 lk_L_65 (ci := 6) (N := 7) (T := TX6) rfl (by first | assumption | rfl) rfl rfl (by decide +kernel) rfl ⟨by decide, by decide⟩ ⟨rfl, rfl⟩ (Nat.le_of_ble_eq_true rfl) (ex14 hP153 (by omega)) rfl (fun x172 w172 h172 => ?_)
              obtain ⟨e172, hP172, f172⟩ := h172
              have hP172 : PXW w172 W := hP172
              have hX172 : LX w172 W := LX_same hX153 (fun c k h1 h2 => f172 c k h1)
              have F172 : ∀ c k, 45 ≤ c → c < 48 → w172 c k = w c k := fun c k h1 h2 => by rw [f172 c k h1]; exact F153 c k h1 h2
              refine go_iload (j := 9) (q := 177) rfl dL_same_175 rfl ?_
              refine go_aload_n (j := 2) (q := 178) rfl rfl dL_same_177 rfl ?_
              refine go_aload_n (j := 3) (q := 179) rfl rfl dL_same_178 rfl ?_
              refine go_callSi (as := [_, _, _]) (rest := [_]) (n := 3) (q := 182) dL_same_179 lk_L_68 rfl (by decide +kernel) rfl ⟨by decide, by decide⟩ ⟨rfl, rfl⟩ (Nat.le_of_ble_eq_true rfl) (el_order (y := y) ey (by omega) hX172.1) rfl (fun x179 w179 h179 => ?_)
              obtain ⟨h179, rfl⟩ := h179
              have q172 : x172 = x179 := by
                rw [e172]
                unfold op14
                show cif _ _ _ = _
                rw [cif_t (by omega), show yi.toNat = y by omega]
                exact (the_eq h179 (fun u hu => ord_u hu h179)).symm
              refine go_icmp_eq2 (q := 185) (t := 187) dL_same_182 (by decide) rfl (by rcases h179 with ⟨h1, h2⟩ | ⟨h1, u0, h2, h3, h4⟩ <;> omega) (fun c182 => ?_) (fun c182 => ?_)
              · refine go_iinc (j := 9) (q := 190) (ls2 := [_, _, _, _, _, _, _, _, _, _, _, _, _, _, _, _, _, _]) rfl (by decide) rfl rfl dL_same_187 rfl ?_
                refine go_goto (q := 18) dL_same_190 (by decide) ?_
                exact ih18 _ (by omega) (y + 1) _ _ _ _ _ _ _ _ _ _ _ _ p2 (by omega) (by omega) ep2 eqi eti hpl2 hP172 hX172 F172 rfl
              · exact absurd q172 c182
          · refine go_bipush (q := 65) rfl dL_same_63 rfl ?_
            refine go_istore (j := 11) (q := 67) (ls2 := [_, _, _, _, _, _, _, _, _, _, _, _, _, _, _, _, _, _]) (by decide) rfl rfl dL_same_65 rfl ?_
            refine go_iload (j := 5) (q := 69) rfl dL_same_67 rfl ?_
            refine go_iconst (q := 70) dL_same_69 rfl ?_
            refine go_isub (q := 71) dL_same_70 rfl ?_
            refine go_istore (j := 12) (q := 73) (ls2 := [_, _, _, _, _, _, _, _, _, _, _, _, _, _, _, _, _, _]) (by decide) rfl rfl dL_same_71 rfl ?_
            have lp73 : ∀ (m73 : Nat) (u : Nat) (fi ki : Int) (o13 o14 o15 o16 o17 : Option MV) (ek : ki = (u : Int) - 1) (hu : u ≤ (wN W)) (hlo : lowD (wN W) u (fun i => (wF W) i y = z) fi), m73 = u → gL_same l D ck ad shA 2 (VW D ck ad shA) 73 [some (vR 0), some (vI xi), some (vR 45), some (vR 46), some (vR 47), (some (vI ((wN W) : Int))), some (vI qi), some (vI ti), (some (vI ((wN W) : Int))), some (vI yi), some (vI zi), some (vI fi), some (vI ki), o13, o14, o15, o16, o17] [] w2 K := by
              intro m73
              induction m73 using Nat.strongRecOn with
              | _ m73 ih73 =>
              intro u fi ki o13 o14 o15 o16 o17 ek hu hlo em73
              refine go_iload (j := 12) (q := 75) rfl dL_same_73 rfl ?_
              refine go_if_lt2 (q := 78) (t := 108) dL_same_75 (by decide) rfl (by omega) (fun c75 => ?_) (fun c75 => ?_)
              · have hlow : isLowP (wN W) (fun i => (wF W) i y = z) fi := lowD_0 (by rw [show u = 0 by omega] at hlo; exact hlo)
                refine go_aload_n (j := 0) (q := 109) rfl rfl dL_same_108 rfl ?_
                refine go_iload (j := 10) (q := 111) rfl dL_same_109 rfl ?_
                refine go_iload (j := 9) (q := 113) rfl dL_same_111 rfl ?_
                refine go_callVi (as := [_, _, _]) (As := [_, _]) (rest := []) (n := 2) (q := 116) dL_same_113 lk_L_57 (ci := 6) (N := 7) (T := TX6) rfl (by first | assumption | rfl) rfl rfl (by decide +kernel) rfl ⟨by decide, by decide⟩ ⟨rfl, rfl⟩ (Nat.le_of_ble_eq_true rfl) (ex7 hP2 (by omega) (by omega)) rfl (fun x113 w113 h113 => ?_)
                obtain ⟨e113, hP113, f113⟩ := h113
                have hP113 : PXW w113 W := hP113
                have hX113 : LX w113 W := LX_same hX2 (fun c k h1 h2 => f113 c k h1)
                have F113 : ∀ c k, 45 ≤ c → c < 48 → w113 c k = w c k := fun c k h1 h2 => by rw [f113 c k h1]; exact F2 c k h1 h2
                have q113 : x113 = ((wF W) z y : Int) := by
                  rw [e113]
                  unfold op7
                  show cif _ _ _ = _
                  rw [cif_t (by omega), show zi.toNat = z by omega, show yi.toNat = y by omega]
                have hd3 := hX113.1.2.2 z y (by omega) (by omega)
                refine go_aload_n (j := 3) (q := 117) rfl rfl dL_same_116 rfl ?_
                refine go_bipush (q := 119) rfl dL_same_117 rfl ?_
                refine go_iload (j := 10) (q := 121) rfl dL_same_119 rfl ?_
                refine go_imul (q := 122) dL_same_121 rfl ?_
                refine go_iload (j := 9) (q := 124) rfl dL_same_122 rfl ?_
                refine go_iadd (q := 125) dL_same_124 rfl ?_
                refine go_iald (j := 6 * z + y) (q := 126) (by first | assumption | rfl) (wr_eq (by omega)) (by omega) dL_same_125 rfl ?_
                rw [show w113 46 (6 * z + y) = ((wF W) z y : Int) from hd3.1]
                refine go_icmp_ne2 (q := 129) (t := 142) dL_same_126 (by decide) rfl (by omega) (fun c126 => ?_) (fun c126 => ?_)
                · exact absurd q113 c126
                · refine go_aload_n (j := 0) (q := 130) rfl rfl dL_same_129 rfl ?_
                  refine go_iload (j := 10) (q := 132) rfl dL_same_130 rfl ?_
                  refine go_iload (j := 9) (q := 134) rfl dL_same_132 rfl ?_
                  refine go_callVi (as := [_, _, _]) (As := [_, _]) (rest := []) (n := 2) (q := 137) dL_same_134 lk_L_60 (ci := 6) (N := 7) (T := TX6) rfl (by first | assumption | rfl) rfl rfl (by decide +kernel) rfl ⟨by decide, by decide⟩ ⟨rfl, rfl⟩ (Nat.le_of_ble_eq_true rfl) (ex8 hP113 (by omega) (by omega)) rfl (fun x134 w134 h134 => ?_)
                  obtain ⟨e134, hP134, f134⟩ := h134
                  have hP134 : PXW w134 W := hP134
                  have hX134 : LX w134 W := LX_same hX113 (fun c k h1 h2 => f134 c k h1)
                  have F134 : ∀ c k, 45 ≤ c → c < 48 → w134 c k = w c k := fun c k h1 h2 => by rw [f134 c k h1]; exact F113 c k h1 h2
                  have q134 : x134 = fi := by
                    rw [e134]
                    unfold op8
                    show cif _ _ _ = _
                    rw [cif_t (by omega), show zi.toNat = z by omega, show yi.toNat = y by omega]
                    exact (the_eq hlow (fun u hu => low_u hu hlow)).symm
                  refine go_iload (j := 11) (q := 139) rfl dL_same_137 rfl ?_
                  refine go_icmp_eq2 (q := 142) (t := 144) dL_same_139 (by decide) rfl (by rcases hlow with ⟨i, h1, h2, h3, h4⟩ | ⟨h1, h2⟩ <;> omega) (fun c139 => ?_) (fun c139 => ?_)
                  · refine go_iinc (j := 10) (q := 147) (ls2 := [_, _, _, _, _, _, _, _, _, _, _, _, _, _, _, _, _, _]) rfl (by decide) rfl rfl dL_same_144 rfl ?_
                    refine go_goto (q := 56) dL_same_147 (by decide) ?_
                    exact ih56 _ (by omega) (z + 1) _ _ _ _ _ _ _ _ _ _ _ (by omega) (by omega) eqi eti hP134 hX134 F134 rfl
                  · exact absurd q134 c139
              · obtain ⟨u1, rfl⟩ : ∃ u1, u = u1 + 1 := ⟨u - 1, by omega⟩
                have hd := hX2.1.2.2 u1 y (by omega) (by omega)
                refine go_aload_n (j := 3) (q := 79) rfl rfl dL_same_78 rfl ?_
                refine go_bipush (q := 81) rfl dL_same_79 rfl ?_
                refine go_iload (j := 12) (q := 83) rfl dL_same_81 rfl ?_
                refine go_imul (q := 84) dL_same_83 rfl ?_
                refine go_iload (j := 9) (q := 86) rfl dL_same_84 rfl ?_
                refine go_iadd (q := 87) dL_same_86 rfl ?_
                refine go_iald (j := 6 * u1 + y) (q := 88) (by first | assumption | rfl) (wr_eq (by omega)) (by omega) dL_same_87 rfl ?_
                rw [show w2 46 (6 * u1 + y) = ((wF W) u1 y : Int) from hd.1]
                refine go_iload (j := 10) (q := 90) rfl dL_same_88 rfl ?_
                refine go_icmp_ne2 (q := 93) (t := 98) dL_same_90 (by decide) rfl (by omega) (fun c90 => ?_) (fun c90 => ?_)
                · refine go_iload (j := 11) (q := 100) rfl dL_same_98 rfl ?_
                  refine go_istore (j := 11) (q := 102) (ls2 := [_, _, _, _, _, _, _, _, _, _, _, _, _, _, _, _, _, _]) (by decide) rfl rfl dL_same_100 rfl ?_
                  refine go_iinc (j := 12) (q := 105) (ls2 := [_, _, _, _, _, _, _, _, _, _, _, _, _, _, _, _, _, _]) rfl (by decide) rfl rfl dL_same_102 rfl ?_
                  refine go_goto (q := 73) dL_same_105 (by decide) ?_
                  first
                  | exact ih73 _ (by omega) u1 _ _ _ _ _ _ _ (by omega) (by omega) (lowD_n (by omega) hlo) rfl
                  | exact ih73 _ (by omega) u1 _ _ _ _ _ _ _ (by omega) (by omega) (by rw [show ki = (u1 : Int) by omega]; exact lowD_y (by omega) (by omega)) rfl
                · refine go_iload (j := 12) (q := 95) rfl dL_same_93 rfl ?_
                  refine go_goto (q := 100) dL_same_95 (by decide) ?_
                  refine go_istore (j := 11) (q := 102) (ls2 := [_, _, _, _, _, _, _, _, _, _, _, _, _, _, _, _, _, _]) (by decide) rfl rfl dL_same_100 rfl ?_
                  refine go_iinc (j := 12) (q := 105) (ls2 := [_, _, _, _, _, _, _, _, _, _, _, _, _, _, _, _, _, _]) rfl (by decide) rfl rfl dL_same_102 rfl ?_
                  refine go_goto (q := 73) dL_same_105 (by decide) ?_
                  first
                  | exact ih73 _ (by omega) u1 _ _ _ _ _ _ _ (by omega) (by omega) (lowD_n (by omega) hlo) rfl
                  | exact ih73 _ (by omega) u1 _ _ _ _ _ _ _ (by omega) (by omega) (by rw [show ki = (u1 : Int) by omega]; exact lowD_y (by omega) (by omega)) rfl
            exact lp73 _ (wN W) _ _ _ _ _ _ _ (by omega) (by omega) (Or.inl ⟨rfl, fun i h1 h2 => by omega⟩) rfl
        exact lp56 _ 0 _ _ _ _ _ _ _ _ _ _ _ rfl (by omega) epi2 esi2 hP1 hX1 F1 rfl
  exact lp18 _ 0 _ _ _ _ _ _ _ _ _ _ _ _ (0, 0) rfl (by omega) rfl rfl rfl (Nat.two_pow_pos _) hP0 hX0 (fun c k _ _ => rfl) rfl
end LAW7
