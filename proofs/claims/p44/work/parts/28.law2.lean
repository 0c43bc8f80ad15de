section LAW2
variable {l : Launch} {D : va_G} {ck : Nat → ClassId} {ad : Nat → Nat} {sh : List Shp} {w : Mem} {n : Nat} {f : Nat → Nat → Nat}
theorem el_reach0 {x0 : Nat} {si : Int} (es : si = ((2 ^ x0 : Nat) : Int)) (hx0 : x0 < n) (hT : TB w 45 n f) : eL_reach l D ck ad shA [vI si, vI 0, vR 45, vR 46] w (Pi fun v w1 => v = ((itN (rnd2 (stR f) n) (2 ^ x0) n : Nat) : Int) ∧ w = w1) := by
  have g0 : w 45 0 = (n : Int) := hT.1
  have hn := hT.2.1
  have h64 : 2 ^ n ≤ 2 ^ 6 := Nat.pow_le_pow_right (by decide) hn.2
  have hr : ∀ i j, i < n → j < n → f i j < n := fun i j hi hj => (hT.2.2 i j hi hj).2
  refine ev_of_goK (own := RL) (ls := [some (vI si), some (vI 0), some (vR 45), some (vR 46), none, none, none, none]) (by decide +kernel) rfl rfl (Nat.le_of_ble_eq_true rfl) rkI ?_
  intro K hK
  refine go_iload_n (j := 0) (q := 1) rfl rfl dL_reach_0 rfl ?_
  refine go_istore (j := 4) (q := 3) (ls2 := [_, _, _, _, _, _, _, _]) (by decide) rfl rfl dL_reach_1 rfl ?_
  refine go_iconst (q := 4) dL_reach_3 rfl ?_
  refine go_istore (j := 5) (q := 6) (ls2 := [_, _, _, _, _, _, _, _]) (by decide) rfl rfl dL_reach_4 rfl ?_
  have lp6 : ∀ (m6 : Nat) (m : Nat) (mi bi : Int) (a b : Option MV) (em : mi = m) (hm : m < 2 ^ n) (hb1 : -1 ≤ bi ∧ bi < 128) (ha : sb (2 ^ x0) m) (hl : ∀ S, sb (2 ^ x0) S → clR n f S → sb m S) (hb : bi = -1 ∨ ∃ M : Nat, bi = M ∧ m = rnd2 (stR f) n M), m6 = msr m bi → gL_reach l D ck ad shA 6 [some (vI si), some (vI 0), some (vR 45), some (vR 46), some (vI mi), some (vI bi), a, b] [] w K := by
    intro m6
    induction m6 using Nat.strongRecOn with
    | _ m6 ih6 =>
    intro m mi bi a b em hm hb1 ha hl hb em6
    refine go_iload (j := 4) (q := 8) rfl dL_reach_6 rfl ?_
    refine go_iload (j := 5) (q := 10) rfl dL_reach_8 rfl ?_
    refine go_icmp_eq2 (q := 13) (t := 114) dL_reach_10 (by decide) rfl (by omega) (fun c10 => ?_) (fun c10 => ?_)
    · refine go_iload (j := 4) (q := 116) rfl dL_reach_114 rfl ?_
      refine go_iret dL_reach_116 ?_
      subst hK
      have hcl : clR n f m := by
        rcases hb with hb | ⟨M, h1, h2⟩
        · omega
        · have eM : M = m := by omega
          subst eM
          exact ⟨hm, fun a b q1 q2 => stR_fixb (rnd2_fix stR_ext h2.symm a b (bit_lt hm q2) q1) q2⟩
      exact ⟨_, rfl, by rw [rch_fix hn.2 hr (two_lt hx0) ha hl hcl]; exact em, rfl⟩
    · refine go_iload (j := 4) (q := 15) rfl dL_reach_13 rfl ?_
      refine go_istore (j := 5) (q := 17) (ls2 := [_, _, _, _, _, _, _, _]) (by decide) rfl rfl dL_reach_15 rfl ?_
      refine go_iconst (q := 18) dL_reach_17 rfl ?_
      refine go_istore (j := 6) (q := 20) (ls2 := [_, _, _, _, _, _, _, _]) (by decide) rfl rfl dL_reach_18 rfl ?_
      have lp20 : ∀ (m20 : Nat) (x c : Nat) (xi ci : Int) (b : Option MV) (ex : xi = x) (hx : x ≤ n) (ec : ci = c) (hc : c < 2 ^ n) (efo : c = fN (fun a m => fN (fun b m => stR f a b m) m n) m x), m20 = n - x → gL_reach l D ck ad shA 20 [some (vI si), some (vI 0), some (vR 45), some (vR 46), some (vI ci), some (vI mi), some (vI xi), b] [] w K := by
        intro m20
        induction m20 using Nat.strongRecOn with
        | _ m20 ih20 =>
        intro x c xi ci b ex hx ec hc efo em20
        refine go_iload (j := 6) (q := 22) rfl dL_reach_20 rfl ?_
        refine go_aload_n (j := 2) (q := 23) rfl rfl dL_reach_22 rfl ?_
        refine go_iconst (q := 24) dL_reach_23 rfl ?_
        refine go_iald (j := 0) (q := 25) (by first | assumption | rfl) (wr_eq (by omega)) (by omega) dL_reach_24 rfl ?_
        refine go_icmp_ge2 (q := 28) (t := 111) dL_reach_25 (by decide) rfl (by omega) (fun c25 => ?_) (fun c25 => ?_)
        · refine go_goto (q := 6) dL_reach_111 (by decide) ?_
          exact ih6 _ (by rw [em6, em]; exact msr_lt (by omega) (by omega) (by rw [efo, show x = n by omega]; exact sb_le (rnd2_ext stR_ext n m)) (by omega)) c _ _ _ _ ec hc (by omega) (by rw [efo, show x = n by omega]; exact sb_tr ha (rnd2_ext stR_ext n m)) (by
            intro S h1 h2
            rw [efo]
            exact fN_least (g := fun a m => fN (fun b m => stR f a b m) m n) (n := n) (fun a m _ hm => fN_least (g := fun b m => stR f a b m) (n := n) (fun b m hb hm => stR_leastb hb h2 hm) hm n (Nat.le_refl n)) (hl S h1 h2) x hx) (Or.inr ⟨m, em, by rw [efo, show x = n by omega]; rfl⟩) rfl
        · refine go_iconst (q := 29) dL_reach_28 rfl ?_
          refine go_istore (j := 7) (q := 31) (ls2 := [_, _, _, _, _, _, _, _]) (by decide) rfl rfl dL_reach_29 rfl ?_
          have lp31 : ∀ (m31 : Nat) (y c2 : Nat) (yi ci2 : Int) (ey : yi = y) (hy : y ≤ n) (ec2 : ci2 = c2) (hc2 : c2 < 2 ^ n) (efo2 : c2 = fN (fun b m => stR f x b m) c y), m31 = n - y → gL_reach l D ck ad shA 31 [some (vI si), some (vI 0), some (vR 45), some (vR 46), some (vI ci2), some (vI mi), some (vI xi), some (vI yi)] [] w K := by
            intro m31
            induction m31 using Nat.strongRecOn with
            | _ m31 ih31 =>
            intro y c2 yi ci2 ey hy ec2 hc2 efo2 em31
            refine go_iload (j := 7) (q := 33) rfl dL_reach_31 rfl ?_
            refine go_aload_n (j := 2) (q := 34) rfl rfl dL_reach_33 rfl ?_
            refine go_iconst (q := 35) dL_reach_34 rfl ?_
            refine go_iald (j := 0) (q := 36) (by first | assumption | rfl) (wr_eq (by omega)) (by omega) dL_reach_35 rfl ?_
            refine go_icmp_ge2 (q := 39) (t := 105) dL_reach_36 (by decide) rfl (by omega) (fun c36 => ?_) (fun c36 => ?_)
            · refine go_iinc (j := 6) (q := 108) (ls2 := [_, _, _, _, _, _, _, _]) rfl (by decide) rfl rfl dL_reach_105 rfl ?_
              refine go_goto (q := 20) dL_reach_108 (by decide) ?_
              exact ih20 _ (by omega) (x + 1) c2 _ _ _ (by omega) (by omega) ec2 hc2 (by rw [efo2, efo, show y = n by omega]; rfl) rfl
            · have hb1 := bit_eq (a := c2) (k := x) (by omega) (by omega)
              rw [← ec2, ← ex] at hb1
              have hd := hT.2.2 x y (by omega) (by omega)
              have hd1 : w 46 (6 * x + y) = (f x y : Int) := hd.1
              have h2 := two_lt hd.2
              refine go_iload (j := 4) (q := 41) rfl dL_reach_39 rfl ?_
              refine go_iload (j := 6) (q := 43) rfl dL_reach_41 rfl ?_
              refine go_ishr (q := 44) dL_reach_43 rfl ?_
              refine go_iconst (q := 45) dL_reach_44 rfl ?_
              refine go_iand (q := 46) dL_reach_45 rfl ?_
              refine go_iconst (q := 47) dL_reach_46 rfl ?_
              refine go_icmp_ne2 (q := 50) (t := 67) dL_reach_47 (by decide) rfl (by rw [hb1]; split <;> omega) (fun c47 => ?_) (fun c47 => ?_)
              · have hbt : ¬ c2.testBit x = true := by rw [hb1] at c47; intro q; rw [if_pos q] at c47; omega
                refine go_iload_n (j := 1) (q := 68) rfl rfl dL_reach_67 rfl ?_
                refine go_if_eq2 (q := 71) (t := 99) dL_reach_68 (by decide) rfl (by omega) (fun c68 => ?_) (fun c68 => ?_)
                · refine go_iinc (j := 7) (q := 102) (ls2 := [_, _, _, _, _, _, _, _]) rfl (by decide) rfl rfl dL_reach_99 rfl ?_
                  refine go_goto (q := 31) dL_reach_102 (by decide) ?_
                  first
                  | exact ih31 _ (by omega) (y + 1) c2 _ _ (by omega) (by omega) ec2 hc2 (by show c2 = stR f x y _; rw [← efo2, stR, if_neg hbt]) rfl
                  | exact ih31 _ (by omega) (y + 1) (c2 ||| 2 ^ f x y) _ _ (by omega) (by omega) (by rw [ec2, shl_eq (by omega), or_eq (by omega) (by omega)]) (or_lt hc2 h2) (by show c2 ||| 2 ^ f x y = stR f x y _; rw [← efo2, stR, if_pos hbt]) rfl
                · exact absurd (by omega : (0 : Int) = 0) c68
              · have hbt : c2.testBit x = true := by rw [hb1] at c47; by_cases q : c2.testBit x = true; exact q; rw [if_neg q] at c47; omega
                refine go_iload (j := 4) (q := 52) rfl dL_reach_50 rfl ?_
                refine go_iconst (q := 53) dL_reach_52 rfl ?_
                refine go_aload_n (j := 3) (q := 54) rfl rfl dL_reach_53 rfl ?_
                refine go_bipush (q := 56) rfl dL_reach_54 rfl ?_
                refine go_iload (j := 6) (q := 58) rfl dL_reach_56 rfl ?_
                refine go_imul (q := 59) dL_reach_58 rfl ?_
                refine go_iload (j := 7) (q := 61) rfl dL_reach_59 rfl ?_
                refine go_iadd (q := 62) dL_reach_61 rfl ?_
                refine go_iald (j := 6 * x + y) (q := 63) (by first | assumption | rfl) (wr_eq (by omega)) (by omega) dL_reach_62 rfl ?_
                rw [hd1]
                refine go_ishl (q := 64) dL_reach_63 rfl ?_
                refine go_ior (q := 65) dL_reach_64 rfl ?_
                refine go_istore (j := 4) (q := 67) (ls2 := [_, _, _, _, _, _, _, _]) (by decide) rfl rfl dL_reach_65 rfl ?_
                refine go_iload_n (j := 1) (q := 68) rfl rfl dL_reach_67 rfl ?_
                refine go_if_eq2 (q := 71) (t := 99) dL_reach_68 (by decide) rfl (by omega) (fun c68 => ?_) (fun c68 => ?_)
                · refine go_iinc (j := 7) (q := 102) (ls2 := [_, _, _, _, _, _, _, _]) rfl (by decide) rfl rfl dL_reach_99 rfl ?_
                  refine go_goto (q := 31) dL_reach_102 (by decide) ?_
                  first
                  | exact ih31 _ (by omega) (y + 1) c2 _ _ (by omega) (by omega) ec2 hc2 (by show c2 = stR f x y _; rw [← efo2, stR, if_neg hbt]) rfl
                  | exact ih31 _ (by omega) (y + 1) (c2 ||| 2 ^ f x y) _ _ (by omega) (by omega) (by rw [ec2, shl_eq (by omega), or_eq (by omega) (by omega)]) (or_lt hc2 h2) (by show c2 ||| 2 ^ f x y = stR f x y _; rw [← efo2, stR, if_pos hbt]) rfl
                · exact absurd (by omega : (0 : Int) = 0) c68
          exact lp31 _ 0 c _ _ rfl (by omega) ec hc rfl rfl
      exact lp20 _ 0 m _ _ _ rfl (by omega) em hm rfl rfl
  exact lp6 _ (2 ^ x0) _ _ _ _ es (two_lt hx0) (by omega) (sb_rf _) (fun S h _ => h) (Or.inl rfl) rfl
theorem el_reach1 {x0 : Nat} {si : Int} (es : si = ((2 ^ x0 : Nat) : Int)) (hx0 : x0 < n) (hT : TB w 45 n f) : eL_reach l D ck ad shA [vI si, vI 1, vR 45, vR 46] w (Pi fun v w1 => v = ((cmpT n f x0 : Nat) : Int) ∧ w = w1) := by
  have g0 : w 45 0 = (n : Int) := hT.1
  have hn := hT.2.1
  have h64 : 2 ^ n ≤ 2 ^ 6 := Nat.pow_le_pow_right (by decide) hn.2
  have hr : ∀ i j, i < n → j < n → f i j < n := fun i j hi hj => (hT.2.2 i j hi hj).2
  refine ev_of_goK (own := RL) (ls := [some (vI si), some (vI 1), some (vR 45), some (vR 46), none, none, none, none]) (by decide +kernel) rfl rfl (Nat.le_of_ble_eq_true rfl) rkI ?_
  intro K hK
  refine go_iload_n (j := 0) (q := 1) rfl rfl dL_reach_0 rfl ?_
  refine go_istore (j := 4) (q := 3) (ls2 := [_, _, _, _, _, _, _, _]) (by decide) rfl rfl dL_reach_1 rfl ?_
  refine go_iconst (q := 4) dL_reach_3 rfl ?_
  refine go_istore (j := 5) (q := 6) (ls2 := [_, _, _, _, _, _, _, _]) (by decide) rfl rfl dL_reach_4 rfl ?_
  have lp6 : ∀ (m6 : Nat) (m : Nat) (mi bi : Int) (a b : Option MV) (em : mi = m) (hm : m < 2 ^ n) (hb1 : -1 ≤ bi ∧ bi < 128) (ha : sb (2 ^ x0) m) (hl : ∀ S, sb (2 ^ x0) S → clB n f S → sb m S) (hb : bi = -1 ∨ ∃ M : Nat, bi = M ∧ m = rnd2 (stB f) n M), m6 = msr m bi → gL_reach l D ck ad shA 6 [some (vI si), some (vI 1), some (vR 45), some (vR 46), some (vI mi), some (vI bi), a, b] [] w K := by
    intro m6
    induction m6 using Nat.strongRecOn with
    | _ m6 ih6 =>
    intro m mi bi a b em hm hb1 ha hl hb em6
    refine go_iload (j := 4) (q := 8) rfl dL_reach_6 rfl ?_
    refine go_iload (j := 5) (q := 10) rfl dL_reach_8 rfl ?_
    refine go_icmp_eq2 (q := 13) (t := 114) dL_reach_10 (by decide) rfl (by omega) (fun c10 => ?_) (fun c10 => ?_)
    · refine go_iload (j := 4) (q := 116) rfl dL_reach_114 rfl ?_
      refine go_iret dL_reach_116 ?_
      subst hK
      have hcl : clB n f m := by
        rcases hb with hb | ⟨M, h1, h2⟩
        · omega
        · have eM : M = m := by omega
          subst eM
          exact ⟨hm, fun a b q1 q2 => stB_cl (rnd2_fix stB_ext h2.symm a b q1 q2)⟩
      exact ⟨_, rfl, by rw [cmp_fix hn.2 hr hx0 ha hl hcl]; exact em, rfl⟩
    · refine go_iload (j := 4) (q := 15) rfl dL_reach_13 rfl ?_
      refine go_istore (j := 5) (q := 17) (ls2 := [_, _, _, _, _, _, _, _]) (by decide) rfl rfl dL_reach_15 rfl ?_
      refine go_iconst (q := 18) dL_reach_17 rfl ?_
      refine go_istore (j := 6) (q := 20) (ls2 := [_, _, _, _, _, _, _, _]) (by decide) rfl rfl dL_reach_18 rfl ?_
      have lp20 : ∀ (m20 : Nat) (x c : Nat) (xi ci : Int) (b : Option MV) (ex : xi = x) (hx : x ≤ n) (ec : ci = c) (hc : c < 2 ^ n) (efo : c = fN (fun a m => fN (fun b m => stB f a b m) m n) m x), m20 = n - x → gL_reach l D ck ad shA 20 [some (vI si), some (vI 1), some (vR 45), some (vR 46), some (vI ci), some (vI mi), some (vI xi), b] [] w K := by
        intro m20
        induction m20 using Nat.strongRecOn with
        | _ m20 ih20 =>
        intro x c xi ci b ex hx ec hc efo em20
        refine go_iload (j := 6) (q := 22) rfl dL_reach_20 rfl ?_
        refine go_aload_n (j := 2) (q := 23) rfl rfl dL_reach_22 rfl ?_
        refine go_iconst (q := 24) dL_reach_23 rfl ?_
        refine go_iald (j := 0) (q := 25) (by first | assumption | rfl) (wr_eq (by omega)) (by omega) dL_reach_24 rfl ?_
        refine go_icmp_ge2 (q := 28) (t := 111) dL_reach_25 (by decide) rfl (by omega) (fun c25 => ?_) (fun c25 => ?_)
        · refine go_goto (q := 6) dL_reach_111 (by decide) ?_
          exact ih6 _ (by rw [em6, em]; exact msr_lt (by omega) (by omega) (by rw [efo, show x = n by omega]; exact sb_le (rnd2_ext stB_ext n m)) (by omega)) c _ _ _ _ ec hc (by omega) (by rw [efo, show x = n by omega]; exact sb_tr ha (rnd2_ext stB_ext n m)) (by
            intro S h1 h2
            rw [efo]
            exact fN_least (g := fun a m => fN (fun b m => stB f a b m) m n) (n := n) (fun a m q1 hm => fN_least (g := fun b m => stB f a b m) (n := n) (fun b m q2 hm => stB_least (h2.2 a b q1 q2) hm) hm n (Nat.le_refl n)) (hl S h1 h2) x hx) (Or.inr ⟨m, em, by rw [efo, show x = n by omega]; rfl⟩) rfl
        · refine go_iconst (q := 29) dL_reach_28 rfl ?_
          refine go_istore (j := 7) (q := 31) (ls2 := [_, _, _, _, _, _, _, _]) (by decide) rfl rfl dL_reach_29 rfl ?_
          have lp31 : ∀ (m31 : Nat) (y c2 : Nat) (yi ci2 : Int) (ey : yi = y) (hy : y ≤ n) (ec2 : ci2 = c2) (hc2 : c2 < 2 ^ n) (efo2 : c2 = fN (fun b m => stB f x b m) c y), m31 = n - y → gL_reach l D ck ad shA 31 [some (vI si), some (vI 1), some (vR 45), some (vR 46), some (vI ci2), some (vI mi), some (vI xi), some (vI yi)] [] w K := by
            intro m31
            induction m31 using Nat.strongRecOn with
            | _ m31 ih31 =>
            intro y c2 yi ci2 ey hy ec2 hc2 efo2 em31
            refine go_iload (j := 7) (q := 33) rfl dL_reach_31 rfl ?_
            refine go_aload_n (j := 2) (q := 34) rfl rfl dL_reach_33 rfl ?_
            refine go_iconst (q := 35) dL_reach_34 rfl ?_
            refine go_iald (j := 0) (q := 36) (by first | assumption | rfl) (wr_eq (by omega)) (by omega) dL_reach_35 rfl ?_
            refine go_icmp_ge2 (q := 39) (t := 105) dL_reach_36 (by decide) rfl (by omega) (fun c36 => ?_) (fun c36 => ?_)
            · refine go_iinc (j := 6) (q := 108) (ls2 := [_, _, _, _, _, _, _, _]) rfl (by decide) rfl rfl dL_reach_105 rfl ?_
              refine go_goto (q := 20) dL_reach_108 (by decide) ?_
              exact ih20 _ (by omega) (x + 1) c2 _ _ _ (by omega) (by omega) ec2 hc2 (by rw [efo2, efo, show y = n by omega]; rfl) rfl
            · have hb1 := bit_eq (a := c2) (k := x) (by omega) (by omega)
              rw [← ec2, ← ex] at hb1
              have hd := hT.2.2 x y (by omega) (by omega)
              have hd1 : w 46 (6 * x + y) = (f x y : Int) := hd.1
              have h2 := two_lt hd.2
              have h3 := two_lt (show x < n by omega)
              have hR := stR_lt hr x y c2 (by omega) (by omega) hc2
              have hb2 := bit_eq (a := stR f x y c2) (k := f x y) (by omega) (by omega)
              refine go_iload (j := 4) (q := 41) rfl dL_reach_39 rfl ?_
              refine go_iload (j := 6) (q := 43) rfl dL_reach_41 rfl ?_
              refine go_ishr (q := 44) dL_reach_43 rfl ?_
              refine go_iconst (q := 45) dL_reach_44 rfl ?_
              refine go_iand (q := 46) dL_reach_45 rfl ?_
              refine go_iconst (q := 47) dL_reach_46 rfl ?_
              refine go_icmp_ne2 (q := 50) (t := 67) dL_reach_47 (by decide) rfl (by rw [hb1]; split <;> omega) (fun c47 => ?_) (fun c47 => ?_)
              · have hbt : ¬ c2.testBit x = true := by rw [hb1] at c47; intro q; rw [if_pos q] at c47; omega
                have eR : stR f x y c2 = c2 := by unfold stR; rw [if_neg hbt]
                try rw [show ci2 = ((stR f x y c2 : Nat) : Int) by rw [eR]; exact ec2]
                refine go_iload_n (j := 1) (q := 68) rfl rfl dL_reach_67 rfl ?_
                refine go_if_eq2 (q := 71) (t := 99) dL_reach_68 (by decide) rfl (by omega) (fun c68 => ?_) (fun c68 => ?_)
                · exact absurd c68 (by omega)
                · refine go_iload (j := 4) (q := 73) rfl dL_reach_71 rfl ?_
                  refine go_aload_n (j := 3) (q := 74) rfl rfl dL_reach_73 rfl ?_
                  refine go_bipush (q := 76) rfl dL_reach_74 rfl ?_
                  refine go_iload (j := 6) (q := 78) rfl dL_reach_76 rfl ?_
                  refine go_imul (q := 79) dL_reach_78 rfl ?_
                  refine go_iload (j := 7) (q := 81) rfl dL_reach_79 rfl ?_
                  refine go_iadd (q := 82) dL_reach_81 rfl ?_
                  refine go_iald (j := 6 * x + y) (q := 83) (by first | assumption | rfl) (wr_eq (by omega)) (by omega) dL_reach_82 rfl ?_
                  rw [hd1]
                  refine go_ishr (q := 84) dL_reach_83 rfl ?_
                  refine go_iconst (q := 85) dL_reach_84 rfl ?_
                  refine go_iand (q := 86) dL_reach_85 rfl ?_
                  refine go_iconst (q := 87) dL_reach_86 rfl ?_
                  refine go_icmp_ne2 (q := 90) (t := 99) dL_reach_87 (by decide) rfl (by rw [hb2]; split <;> omega) (fun c87 => ?_) (fun c87 => ?_)
                  · have hbs : ¬ (stR f x y c2).testBit (f x y) = true := by rw [hb2] at c87; intro q; rw [if_pos q] at c87; omega
                    have eB : stB f x y c2 = stR f x y c2 := by unfold stB; rw [if_neg hbs]
                    refine go_iinc (j := 7) (q := 102) (ls2 := [_, _, _, _, _, _, _, _]) rfl (by decide) rfl rfl dL_reach_99 rfl ?_
                    refine go_goto (q := 31) dL_reach_102 (by decide) ?_
                    first
                    | exact ih31 _ (by omega) (y + 1) (stR f x y c2) _ _ (by omega) (by omega) rfl hR (by rw [← eB, efo2]; rfl) rfl
                    | exact ih31 _ (by omega) (y + 1) (stR f x y c2 ||| 2 ^ x) _ _ (by omega) (by omega) (by rw [ex, shl_eq (by omega), or_eq (by omega) (by omega)]) (or_lt hR h3) (by rw [← eB, efo2]; rfl) rfl
                  · have hbs : (stR f x y c2).testBit (f x y) = true := by rw [hb2] at c87; by_cases q : (stR f x y c2).testBit (f x y) = true; exact q; rw [if_neg q] at c87; omega
                    have eB : stB f x y c2 = stR f x y c2 ||| 2 ^ x := by unfold stB; rw [if_pos hbs]
                    refine go_iload (j := 4) (q := 92) rfl dL_reach_90 rfl ?_
                    refine go_iconst (q := 93) dL_reach_92 rfl ?_
                    refine go_iload (j := 6) (q := 95) rfl dL_reach_93 rfl ?_
                    refine go_ishl (q := 96) dL_reach_95 rfl ?_
                    refine go_ior (q := 97) dL_reach_96 rfl ?_
                    refine go_istore (j := 4) (q := 99) (ls2 := [_, _, _, _, _, _, _, _]) (by decide) rfl rfl dL_reach_97 rfl ?_
                    refine go_iinc (j := 7) (q := 102) (ls2 := [_, _, _, _, _, _, _, _]) rfl (by decide) rfl rfl dL_reach_99 rfl ?_
                    refine go_goto (q := 31) dL_reach_102 (by decide) ?_
                    first
                    | exact ih31 _ (by omega) (y + 1) (stR f x y c2) _ _ (by omega) (by omega) rfl hR (by rw [← eB, efo2]; rfl) rfl
                    | exact ih31 _ (by omega) (y + 1) (stR f x y c2 ||| 2 ^ x) _ _ (by omega) (by omega) (by rw [ex, shl_eq (by omega), or_eq (by omega) (by omega)]) (or_lt hR h3) (by rw [← eB, efo2]; rfl) rfl
              · have hbt : c2.testBit x = true := by rw [hb1] at c47; by_cases q : c2.testBit x = true; exact q; rw [if_neg q] at c47; omega
                have eR : stR f x y c2 = c2 ||| 2 ^ f x y := by unfold stR; rw [if_pos hbt]
                refine go_iload (j := 4) (q := 52) rfl dL_reach_50 rfl ?_
                refine go_iconst (q := 53) dL_reach_52 rfl ?_
                refine go_aload_n (j := 3) (q := 54) rfl rfl dL_reach_53 rfl ?_
                refine go_bipush (q := 56) rfl dL_reach_54 rfl ?_
                refine go_iload (j := 6) (q := 58) rfl dL_reach_56 rfl ?_
                refine go_imul (q := 59) dL_reach_58 rfl ?_
                refine go_iload (j := 7) (q := 61) rfl dL_reach_59 rfl ?_
                refine go_iadd (q := 62) dL_reach_61 rfl ?_
                refine go_iald (j := 6 * x + y) (q := 63) (by first | assumption | rfl) (wr_eq (by omega)) (by omega) dL_reach_62 rfl ?_
                rw [hd1]
                refine go_ishl (q := 64) dL_reach_63 rfl ?_
                rw [ec2, shl_eq (by omega)]
                refine go_ior (q := 65) dL_reach_64 rfl ?_
                rw [or_eq (by omega) (by omega), ← eR]
                refine go_istore (j := 4) (q := 67) (ls2 := [_, _, _, _, _, _, _, _]) (by decide) rfl rfl dL_reach_65 rfl ?_
                try rw [show ci2 = ((stR f x y c2 : Nat) : Int) by rw [eR]; exact ec2]
                refine go_iload_n (j := 1) (q := 68) rfl rfl dL_reach_67 rfl ?_
                refine go_if_eq2 (q := 71) (t := 99) dL_reach_68 (by decide) rfl (by omega) (fun c68 => ?_) (fun c68 => ?_)
                · exact absurd c68 (by omega)
                · refine go_iload (j := 4) (q := 73) rfl dL_reach_71 rfl ?_
                  refine go_aload_n (j := 3) (q := 74) rfl rfl dL_reach_73 rfl ?_
                  refine go_bipush (q := 76) rfl dL_reach_74 rfl ?_
                  refine go_iload (j := 6) (q := 78) rfl dL_reach_76 rfl ?_
                  refine go_imul (q := 79) dL_reach_78 rfl ?_
                  refine go_iload (j := 7) (q := 81) rfl dL_reach_79 rfl ?_
                  refine go_iadd (q := 82) dL_reach_81 rfl ?_
                  refine go_iald (j := 6 * x + y) (q := 83) (by first | assumption | rfl) (wr_eq (by omega)) (by omega) dL_reach_82 rfl ?_
                  rw [hd1]
                  refine go_ishr (q := 84) dL_reach_83 rfl ?_
                  refine go_iconst (q := 85) dL_reach_84 rfl ?_
                  refine go_iand (q := 86) dL_reach_85 rfl ?_
                  refine go_iconst (q := 87) dL_reach_86 rfl ?_
                  refine go_icmp_ne2 (q := 90) (t := 99) dL_reach_87 (by decide) rfl (by rw [hb2]; split <;> omega) (fun c87 => ?_) (fun c87 => ?_)
                  · have hbs : ¬ (stR f x y c2).testBit (f x y) = true := by rw [hb2] at c87; intro q; rw [if_pos q] at c87; omega
                    have eB : stB f x y c2 = stR f x y c2 := by unfold stB; rw [if_neg hbs]
                    refine go_iinc (j := 7) (q := 102) (ls2 := [_, _, _, _, _, _, _, _]) rfl (by decide) rfl rfl dL_reach_99 rfl ?_
                    refine go_goto (q := 31) dL_reach_102 (by decide) ?_
                    first
                    | exact ih31 _ (by omega) (y + 1) (stR f x y c2) _ _ (by omega) (by omega) rfl hR (by rw [← eB, efo2]; rfl) rfl
                    | exact ih31 _ (by omega) (y + 1) (stR f x y c2 ||| 2 ^ x) _ _ (by omega) (by omega) (by rw [ex, shl_eq (by omega), or_eq (by omega) (by omega)]) (or_lt hR h3) (by rw [← eB, efo2]; rfl) rfl
                  · have hbs : (stR f x y c2).testBit (f x y) = true := by rw [hb2] at c87; by_cases q : (stR f x y c2).testBit (f x y) = true; exact q; rw [if_neg q] at c87; omega
                    have eB : stB f x y c2 = stR f x y c2 ||| 2 ^ x := by unfold stB; rw [if_pos hbs]
                    refine go_iload (j := 4) (q := 92) rfl dL_reach_90 rfl ?_
                    refine go_iconst (q := 93) dL_reach_92 rfl ?_
                    refine go_iload (j := 6) (q := 95) rfl dL_reach_93 rfl ?_
                    refine go_ishl (q := 96) dL_reach_95 rfl ?_
                    refine go_ior (q := 97) dL_reach_96 rfl ?_
                    refine go_istore (j := 4) (q := 99) (ls2 := [_, _, _, _, _, _, _, _]) (by decide) rfl rfl dL_reach_97 rfl ?_
                    refine go_iinc (j := 7) (q := 102) (ls2 := [_, _, _, _, _, _, _, _]) rfl (by decide) rfl rfl dL_reach_99 rfl ?_
                    refine go_goto (q := 31) dL_reach_102 (by decide) ?_
                    first
                    | exact ih31 _ (by omega) (y + 1) (stR f x y c2) _ _ (by omega) (by omega) rfl hR (by rw [← eB, efo2]; rfl) rfl
                    | exact ih31 _ (by omega) (y + 1) (stR f x y c2 ||| 2 ^ x) _ _ (by omega) (by omega) (by rw [ex, shl_eq (by omega), or_eq (by omega) (by omega)]) (or_lt hR h3) (by rw [← eB, efo2]; rfl) rfl
          exact lp31 _ 0 c _ _ rfl (by omega) ec hc rfl rfl
      exact lp20 _ 0 m _ _ _ rfl (by omega) em hm rfl rfl
  exact lp6 _ (2 ^ x0) _ _ _ _ es (two_lt hx0) (by omega) (sb_rf _) (fun S h _ => h) (Or.inl rfl) rfl
theorem el_order {y : Nat} {yi : Int} (ey : yi = y) (hy : y < n) (hT : TB w 45 n f) : eL_order l D ck ad shA [vI yi, vR 45, vR 46] w (Pi fun v w1 => ordT n f y v ∧ w = w1) := by
  have g0 : w 45 0 = (n : Int) := hT.1
  have hn := hT.2.1
  have h64 : 2 ^ n ≤ 2 ^ 6 := Nat.pow_le_pow_right (by decide) hn.2
  have hr : ∀ i j, i < n → j < n → f i j < n := fun i j hi hj => (hT.2.2 i j hi hj).2
  have hml := msk_lt (g := fun z => f z y) (n := n) n (fun i hi => hr i y hi hy)
  have hpf := pc_full (N := n) (by omega) hml
  have hpa := pc_all ⟨n, by omega⟩
  simp only at hpa
  have hiff : prm n f y ↔ n ≤ pc (msk (fun z => f z y) n) := ⟨fun h => by unfold prm at h; rw [h]; omega, fun h => hpf.2 h⟩
  refine ev_of_goK (own := RL) (ls := [some (vI yi), some (vR 45), some (vR 46), none, none, none, none, none]) (by decide +kernel) rfl rfl (Nat.le_of_ble_eq_true rfl) rkI ?_
  intro K hK
  refine go_iload_n (j := 0) (q := 1) rfl rfl dL_order_0 rfl ?_
  refine go_aload_n (j := 1) (q := 2) rfl rfl dL_order_1 rfl ?_
  refine go_aload_n (j := 2) (q := 3) rfl rfl dL_order_2 rfl ?_
  refine go_callSi (as := [_, _, _]) (rest := []) (n := 3) (q := 6) dL_order_3 lk_L_10 rfl (by decide +kernel) rfl ⟨by decide, by decide⟩ ⟨rfl, rfl⟩ (Nat.le_of_ble_eq_true rfl) (el_column (y := y) ey hy hT) rfl (fun x3 w3 h3 => ?_)
  obtain ⟨rfl, rfl⟩ := h3
  refine go_callSi (as := [_]) (rest := []) (n := 1) (q := 9) dL_order_6 lk_L_16 rfl (by decide +kernel) rfl ⟨by decide, by decide⟩ ⟨rfl, rfl⟩ (Nat.le_of_ble_eq_true rfl) (el_ones (m := msk (fun z => f z y) n) rfl (by omega)) rfl (fun x6 w6 h6 => ?_)
  obtain ⟨rfl, rfl⟩ := h6
  refine go_aload_n (j := 1) (q := 10) rfl rfl dL_order_9 rfl ?_
  refine go_iconst (q := 11) dL_order_10 rfl ?_
  refine go_iald (j := 0) (q := 12) (by first | assumption | rfl) (wr_eq (by omega)) (by omega) dL_order_11 rfl ?_
  refine go_icmp_ge2 (q := 15) (t := 18) dL_order_12 (by decide) rfl (by omega) (fun c12 => ?_) (fun c12 => ?_)
  · have hpr : prm n f y := hiff.mpr (by omega)
    obtain ⟨k0, hk0, hk1⟩ := ord6 hn (fun i hi => hr i y hi hy) hpr
    refine go_iconst (q := 19) dL_order_18 rfl ?_
    refine go_istore_n (j := 3) (q := 20) (ls2 := [_, _, _, _, _, _, _, _]) rfl (by decide) rfl rfl dL_order_19 rfl ?_
    have lp20 : ∀ (m20 : Nat) (k : Nat) (ki : Int) (a b c d : Option MV) (ek : ki = k) (hk : k ≤ 6) (hno : ∀ j, 1 ≤ j → j ≤ k → ¬ idA n f y j), m20 = 6 - k → gL_order l D ck ad shA 20 [some (vI yi), some (vR 45), some (vR 46), some (vI ki), a, b, c, d] [] w K := by
      intro m20
      induction m20 using Nat.strongRecOn with
      | _ m20 ih20 =>
      intro k ki a b c d ek hk hno em20
      have hk5 : k ≤ 5 := by
        rcases Nat.lt_or_ge k k0 with q | q
        · omega
        · exact absurd hk1 (hno k0 hk0.1 q)
      refine go_iinc (j := 3) (q := 23) (ls2 := [_, _, _, _, _, _, _, _]) rfl (by decide) rfl rfl dL_order_20 rfl ?_
      refine go_iconst (q := 24) dL_order_23 rfl ?_
      refine go_istore (j := 4) (q := 26) (ls2 := [_, _, _, _, _, _, _, _]) (by decide) rfl rfl dL_order_24 rfl ?_
      refine go_iconst (q := 27) dL_order_26 rfl ?_
      refine go_istore (j := 5) (q := 29) (ls2 := [_, _, _, _, _, _, _, _]) (by decide) rfl rfl dL_order_27 rfl ?_
      have lp29 : ∀ (m29 : Nat) (x : Nat) (xi gi : Int) (c d : Option MV) (ex : xi = x) (hx : x ≤ n) (hg : (gi = 1 ∧ ∀ i, i < x → itN (fun z => f z y) i (k + 1) = i) ∨ (gi = 0 ∧ ¬ idA n f y (k + 1))), m29 = n - x → gL_order l D ck ad shA 29 [some (vI yi), some (vR 45), some (vR 46), (some (vI (ki + 1))), some (vI gi), some (vI xi), c, d] [] w K := by
        intro m29
        induction m29 using Nat.strongRecOn with
        | _ m29 ih29 =>
        intro x xi gi c d ex hx hg em29
        refine go_iload (j := 5) (q := 31) rfl dL_order_29 rfl ?_
        refine go_aload_n (j := 1) (q := 32) rfl rfl dL_order_31 rfl ?_
        refine go_iconst (q := 33) dL_order_32 rfl ?_
        refine go_iald (j := 0) (q := 34) (by first | assumption | rfl) (wr_eq (by omega)) (by omega) dL_order_33 rfl ?_
        refine go_icmp_ge2 (q := 37) (t := 92) dL_order_34 (by decide) rfl (by omega) (fun c34 => ?_) (fun c34 => ?_)
        · refine go_iload (j := 4) (q := 94) rfl dL_order_92 rfl ?_
          refine go_if_eq2 (q := 97) (t := 99) dL_order_94 (by decide) rfl (by rcases hg with hg | hg <;> omega) (fun c94 => ?_) (fun c94 => ?_)
          · refine go_goto (q := 20) dL_order_99 (by decide) ?_
            exact ih20 _ (by omega) (k + 1) _ _ _ _ _ (by omega) (by omega) (by
              intro j h1 h2
              by_cases q : j = k + 1
              · rw [q]
                rcases hg with ⟨h3, h4⟩ | ⟨h3, h4⟩
                · omega
                · exact h4
              · exact hno j h1 (by omega)) rfl
          · refine go_iload_n (j := 3) (q := 98) rfl rfl dL_order_97 rfl ?_
            refine go_iret dL_order_98 ?_
            subst hK
            refine ⟨_, rfl, Or.inr ⟨hpr, k + 1, by omega, by omega, fun j h1 h2 => hno j h1 (by omega), Or.inr ?_⟩, rfl⟩
            rcases hg with ⟨h3, h4⟩ | ⟨h3, h4⟩
            · exact fun i hi => h4 i (by omega)
            · omega
        · refine go_iload (j := 5) (q := 39) rfl dL_order_37 rfl ?_
          refine go_istore (j := 6) (q := 41) (ls2 := [_, _, _, _, _, _, _, _]) (by decide) rfl rfl dL_order_39 rfl ?_
          refine go_iconst (q := 42) dL_order_41 rfl ?_
          refine go_istore (j := 7) (q := 44) (ls2 := [_, _, _, _, _, _, _, _]) (by decide) rfl rfl dL_order_42 rfl ?_
          have lp44 : ∀ (m44 : Nat) (i z : Nat) (ii zi : Int) (ei : ii = i) (hi : i ≤ k + 1) (ez : zi = z) (hz : z < n) (eit : z = itN (fun z => f z y) x i), m44 = k + 1 - i → gL_order l D ck ad shA 44 [some (vI yi), some (vR 45), some (vR 46), (some (vI (ki + 1))), some (vI gi), some (vI xi), some (vI zi), some (vI ii)] [] w K := by
            intro m44
            induction m44 using Nat.strongRecOn with
            | _ m44 ih44 =>
            intro i z ii zi ei hi ez hz eit em44
            refine go_iload (j := 7) (q := 46) rfl dL_order_44 rfl ?_
            refine go_iload_n (j := 3) (q := 47) rfl rfl dL_order_46 rfl ?_
            refine go_icmp_ge2 (q := 50) (t := 67) dL_order_47 (by decide) rfl (by omega) (fun c47 => ?_) (fun c47 => ?_)
            · have eik : z = itN (fun z => f z y) x (k + 1) := by rw [eit, show i = k + 1 by omega]
              refine go_iload (j := 4) (q := 69) rfl dL_order_67 rfl ?_
              refine go_if_eq2 (q := 72) (t := 83) dL_order_69 (by decide) rfl (by rcases hg with hg | hg <;> omega) (fun c69 => ?_) (fun c69 => ?_)
              · refine go_iconst (q := 84) dL_order_83 rfl ?_
                refine go_istore (j := 4) (q := 86) (ls2 := [_, _, _, _, _, _, _, _]) (by decide) rfl rfl dL_order_84 rfl ?_
                refine go_iinc (j := 5) (q := 89) (ls2 := [_, _, _, _, _, _, _, _]) rfl (by decide) rfl rfl dL_order_86 rfl ?_
                refine go_goto (q := 29) dL_order_89 (by decide) ?_
                first
                | exact ih29 _ (by omega) (x + 1) _ _ _ _ (by omega) (by omega) (Or.inr ⟨rfl, by
                    rcases hg with ⟨h1, h2⟩ | ⟨h1, h2⟩
                    · intro q; have := q x (by omega); omega
                    · exact h2⟩) rfl
                | exact ih29 _ (by omega) (x + 1) _ _ _ _ (by omega) (by omega) (Or.inl ⟨rfl, by
                    rcases hg with ⟨h1, h2⟩ | ⟨h1, h2⟩
                    · intro j hj
                      by_cases q : j = x
                      · subst q; omega
                      · exact h2 j (by omega)
                    · omega⟩) rfl
              · refine go_iload (j := 6) (q := 74) rfl dL_order_72 rfl ?_
                refine go_iload (j := 5) (q := 76) rfl dL_order_74 rfl ?_
                refine go_icmp_ne2 (q := 79) (t := 83) dL_order_76 (by decide) rfl (by omega) (fun c76 => ?_) (fun c76 => ?_)
                · refine go_iconst (q := 84) dL_order_83 rfl ?_
                  refine go_istore (j := 4) (q := 86) (ls2 := [_, _, _, _, _, _, _, _]) (by decide) rfl rfl dL_order_84 rfl ?_
                  refine go_iinc (j := 5) (q := 89) (ls2 := [_, _, _, _, _, _, _, _]) rfl (by decide) rfl rfl dL_order_86 rfl ?_
                  refine go_goto (q := 29) dL_order_89 (by decide) ?_
                  first
                  | exact ih29 _ (by omega) (x + 1) _ _ _ _ (by omega) (by omega) (Or.inr ⟨rfl, by
                      rcases hg with ⟨h1, h2⟩ | ⟨h1, h2⟩
                      · intro q; have := q x (by omega); omega
                      · exact h2⟩) rfl
                  | exact ih29 _ (by omega) (x + 1) _ _ _ _ (by omega) (by omega) (Or.inl ⟨rfl, by
                      rcases hg with ⟨h1, h2⟩ | ⟨h1, h2⟩
                      · intro j hj
                        by_cases q : j = x
                        · subst q; omega
                        · exact h2 j (by omega)
                      · omega⟩) rfl
                · refine go_iconst (q := 80) dL_order_79 rfl ?_
                  refine go_goto (q := 84) dL_order_80 (by decide) ?_
                  refine go_istore (j := 4) (q := 86) (ls2 := [_, _, _, _, _, _, _, _]) (by decide) rfl rfl dL_order_84 rfl ?_
                  refine go_iinc (j := 5) (q := 89) (ls2 := [_, _, _, _, _, _, _, _]) rfl (by decide) rfl rfl dL_order_86 rfl ?_
                  refine go_goto (q := 29) dL_order_89 (by decide) ?_
                  first
                  | exact ih29 _ (by omega) (x + 1) _ _ _ _ (by omega) (by omega) (Or.inr ⟨rfl, by
                      rcases hg with ⟨h1, h2⟩ | ⟨h1, h2⟩
                      · intro q; have := q x (by omega); omega
                      · exact h2⟩) rfl
                  | exact ih29 _ (by omega) (x + 1) _ _ _ _ (by omega) (by omega) (Or.inl ⟨rfl, by
                      rcases hg with ⟨h1, h2⟩ | ⟨h1, h2⟩
                      · intro j hj
                        by_cases q : j = x
                        · subst q; omega
                        · exact h2 j (by omega)
                      · omega⟩) rfl
            · refine go_aload_n (j := 2) (q := 51) rfl rfl dL_order_50 rfl ?_
              refine go_bipush (q := 53) rfl dL_order_51 rfl ?_
              refine go_iload (j := 6) (q := 55) rfl dL_order_53 rfl ?_
              refine go_imul (q := 56) dL_order_55 rfl ?_
              refine go_iload_n (j := 0) (q := 57) rfl rfl dL_order_56 rfl ?_
              refine go_iadd (q := 58) dL_order_57 rfl ?_
              refine go_iald (j := 6 * z + y) (q := 59) (by first | assumption | rfl) (wr_eq (by omega)) (by omega) dL_order_58 rfl ?_
              rw [show w 46 (6 * z + y) = (f z y : Int) from (hT.2.2 z y hz hy).1]
              refine go_istore (j := 6) (q := 61) (ls2 := [_, _, _, _, _, _, _, _]) (by decide) rfl rfl dL_order_59 rfl ?_
              refine go_iinc (j := 7) (q := 64) (ls2 := [_, _, _, _, _, _, _, _]) rfl (by decide) rfl rfl dL_order_61 rfl ?_
              refine go_goto (q := 44) dL_order_64 (by decide) ?_
              exact ih44 _ (by omega) (i + 1) (f z y) _ _ (by omega) (by omega) rfl (hr _ _ hz hy) (by rw [eit]; rfl) rfl
          exact lp44 _ 0 x _ _ rfl (by omega) ex (by omega) rfl rfl
      exact lp29 _ 0 _ _ _ _ rfl (by omega) (Or.inl ⟨rfl, fun i h => absurd h (Nat.not_lt_zero i)⟩) rfl
    exact lp20 _ 0 _ _ _ _ _ rfl (by omega) (fun j h1 h2 => by omega) rfl
  · refine go_bipush (q := 17) rfl dL_order_15 rfl ?_
    refine go_iret dL_order_17 ?_
    subst hK; exact ⟨_, rfl, Or.inl ⟨fun q => by have := hiff.mp q; omega, rfl⟩, rfl⟩
theorem el_different (hT : TB w 45 n f) : eL_different l D ck ad shA [vR 45, vR 46] w (Pi fun v w1 => v = (cN (newT n f) n : Int) ∧ w = w1) := by
  have g0 : w 45 0 = (n : Int) := hT.1
  have hn := hT.2.1
  have hr : ∀ i j, i < n → j < n → f i j < n := fun i j hi hj => (hT.2.2 i j hi hj).2
  refine ev_of_goK (own := RL) (ls := [some (vR 45), some (vR 46), none, none, none, none, none, none]) (by decide +kernel) rfl rfl (Nat.le_of_ble_eq_true rfl) rkI ?_
  intro K hK
  refine go_iconst (q := 1) dL_different_0 rfl ?_
  refine go_istore_n (j := 2) (q := 2) (ls2 := [_, _, _, _, _, _, _, _]) rfl (by decide) rfl rfl dL_different_1 rfl ?_
  refine go_iconst (q := 3) dL_different_2 rfl ?_
  refine go_istore_n (j := 3) (q := 4) (ls2 := [_, _, _, _, _, _, _, _]) rfl (by decide) rfl rfl dL_different_3 rfl ?_
  have lp4 : ∀ (m4 : Nat) (y : Nat) (yi ci : Int) (a b c d : Option MV) (ey : yi = y) (hy : y ≤ n) (ec : ci = (cN (newT n f) y : Nat)), m4 = n - y → gL_different l D ck ad shA 4 [some (vR 45), some (vR 46), some (vI ci), some (vI yi), a, b, c, d] [] w K := by
    intro m4
    induction m4 using Nat.strongRecOn with
    | _ m4 ih4 =>
    intro y yi ci a b c d ey hy ec em4
    refine go_iload_n (j := 3) (q := 5) rfl rfl dL_different_4 rfl ?_
    refine go_aload_n (j := 0) (q := 6) rfl rfl dL_different_5 rfl ?_
    refine go_iconst (q := 7) dL_different_6 rfl ?_
    refine go_iald (j := 0) (q := 8) (by first | assumption | rfl) (wr_eq (by omega)) (by omega) dL_different_7 rfl ?_
    refine go_icmp_ge2 (q := 11) (t := 118) dL_different_8 (by decide) rfl (by omega) (fun c8 => ?_) (fun c8 => ?_)
    · refine go_iload_n (j := 2) (q := 119) rfl rfl dL_different_118 rfl ?_
      refine go_iret dL_different_119 ?_
      subst hK; exact ⟨_, rfl, by rw [ec, show y = n by omega], rfl⟩
    · have hcn := cN_le (newT n f) y
      refine go_iconst (q := 12) dL_different_11 rfl ?_
      refine go_istore (j := 4) (q := 14) (ls2 := [_, _, _, _, _, _, _, _]) (by decide) rfl rfl dL_different_12 rfl ?_
      refine go_iconst (q := 15) dL_different_14 rfl ?_
      refine go_istore (j := 5) (q := 17) (ls2 := [_, _, _, _, _, _, _, _]) (by decide) rfl rfl dL_different_15 rfl ?_
      have lp17 : ∀ (m17 : Nat) (k L : Nat) (ki li : Int) (c d : Option MV) (ek : ki = k) (hk : k ≤ y) (eL : li = L) (hL : L ≤ k) (hl0 : L = 0 ↔ ∀ e, e < k → ¬ smT n f e y), m17 = y - k → gL_different l D ck ad shA 17 [some (vR 45), some (vR 46), some (vI ci), some (vI yi), some (vI li), some (vI ki), c, d] [] w K := by
        intro m17
        induction m17 using Nat.strongRecOn with
        | _ m17 ih17 =>
        intro k L ki li c d ek hk eL hL hl0 em17
        refine go_iload (j := 5) (q := 19) rfl dL_different_17 rfl ?_
        refine go_iload_n (j := 3) (q := 20) rfl rfl dL_different_19 rfl ?_
        refine go_icmp_ge2 (q := 23) (t := 99) dL_different_20 (by decide) rfl (by omega) (fun c20 => ?_) (fun c20 => ?_)
        · refine go_iload_n (j := 2) (q := 100) rfl rfl dL_different_99 rfl ?_
          refine go_iload (j := 4) (q := 102) rfl dL_different_100 rfl ?_
          refine go_if_ne2 (q := 105) (t := 109) dL_different_102 (by decide) rfl (by omega) (fun c102 => ?_) (fun c102 => ?_)
          · refine go_iconst (q := 110) dL_different_109 rfl ?_
            refine go_iadd (q := 111) dL_different_110 rfl ?_
            refine go_istore_n (j := 2) (q := 112) (ls2 := [_, _, _, _, _, _, _, _]) rfl (by decide) rfl rfl dL_different_111 rfl ?_
            refine go_iinc (j := 3) (q := 115) (ls2 := [_, _, _, _, _, _, _, _]) rfl (by decide) rfl rfl dL_different_112 rfl ?_
            refine go_goto (q := 4) dL_different_115 (by decide) ?_
            first
            | exact ih4 _ (by omega) (y + 1) _ _ _ _ _ _ (by omega) (by omega) (by
                have q : newT n f y = true := newT_iff.mpr (by rw [show k = y by omega] at hl0; exact hl0.mp (by omega))
                simp only [cN, if_pos q]; omega) rfl
            | exact ih4 _ (by omega) (y + 1) _ _ _ _ _ _ (by omega) (by omega) (by
                have q : ¬ newT n f y = true := fun q => by
                  rw [show k = y by omega] at hl0
                  have := hl0.mpr (newT_iff.mp q); omega
                simp only [cN, if_neg q]; omega) rfl
          · refine go_iconst (q := 106) dL_different_105 rfl ?_
            refine go_goto (q := 110) dL_different_106 (by decide) ?_
            refine go_iadd (q := 111) dL_different_110 rfl ?_
            refine go_istore_n (j := 2) (q := 112) (ls2 := [_, _, _, _, _, _, _, _]) rfl (by decide) rfl rfl dL_different_111 rfl ?_
            refine go_iinc (j := 3) (q := 115) (ls2 := [_, _, _, _, _, _, _, _]) rfl (by decide) rfl rfl dL_different_112 rfl ?_
            refine go_goto (q := 4) dL_different_115 (by decide) ?_
            first
            | exact ih4 _ (by omega) (y + 1) _ _ _ _ _ _ (by omega) (by omega) (by
                have q : newT n f y = true := newT_iff.mpr (by rw [show k = y by omega] at hl0; exact hl0.mp (by omega))
                simp only [cN, if_pos q]; omega) rfl
            | exact ih4 _ (by omega) (y + 1) _ _ _ _ _ _ (by omega) (by omega) (by
                have q : ¬ newT n f y = true := fun q => by
                  rw [show k = y by omega] at hl0
                  have := hl0.mpr (newT_iff.mp q); omega
                simp only [cN, if_neg q]; omega) rfl
        · refine go_iconst (q := 24) dL_different_23 rfl ?_
          refine go_istore (j := 6) (q := 26) (ls2 := [_, _, _, _, _, _, _, _]) (by decide) rfl rfl dL_different_24 rfl ?_
          refine go_iconst (q := 27) dL_different_26 rfl ?_
          refine go_istore (j := 7) (q := 29) (ls2 := [_, _, _, _, _, _, _, _]) (by decide) rfl rfl dL_different_27 rfl ?_
          have lp29 : ∀ (m29 : Nat) (x : Nat) (xi si : Int) (ex : xi = x) (hx : x ≤ n) (es : si = (cN (fun x => decide (f x k = f x y)) x : Nat)), m29 = n - x → gL_different l D ck ad shA 29 [some (vR 45), some (vR 46), some (vI ci), some (vI yi), some (vI li), some (vI ki), some (vI si), some (vI xi)] [] w K := by
            intro m29
            induction m29 using Nat.strongRecOn with
            | _ m29 ih29 =>
            intro x xi si ex hx es em29
            refine go_iload (j := 7) (q := 31) rfl dL_different_29 rfl ?_
            refine go_aload_n (j := 0) (q := 32) rfl rfl dL_different_31 rfl ?_
            refine go_iconst (q := 33) dL_different_32 rfl ?_
            refine go_iald (j := 0) (q := 34) (by first | assumption | rfl) (wr_eq (by omega)) (by omega) dL_different_33 rfl ?_
            refine go_icmp_ge2 (q := 37) (t := 75) dL_different_34 (by decide) rfl (by omega) (fun c34 => ?_) (fun c34 => ?_)
            · have hcn3 := cN_le (fun x => decide (f x k = f x y)) x
              have hsm : smT n f k y ↔ cN (fun x => decide (f x k = f x y)) n = n := by
                rw [cN_all]
                exact ⟨fun h i hi => by simpa using h i hi, fun h i hi => by simpa using h i hi⟩
              rw [show n = x by omega] at hsm
              refine go_iload (j := 4) (q := 77) rfl dL_different_75 rfl ?_
              refine go_iload (j := 6) (q := 79) rfl dL_different_77 rfl ?_
              refine go_aload_n (j := 0) (q := 80) rfl rfl dL_different_79 rfl ?_
              refine go_iconst (q := 81) dL_different_80 rfl ?_
              refine go_iald (j := 0) (q := 82) (by first | assumption | rfl) (wr_eq (by omega)) (by omega) dL_different_81 rfl ?_
              refine go_icmp_ne2 (q := 85) (t := 89) dL_different_82 (by decide) rfl (by omega) (fun c82 => ?_) (fun c82 => ?_)
              · refine go_iconst (q := 90) dL_different_89 rfl ?_
                refine go_iadd (q := 91) dL_different_90 rfl ?_
                refine go_istore (j := 4) (q := 93) (ls2 := [_, _, _, _, _, _, _, _]) (by decide) rfl rfl dL_different_91 rfl ?_
                refine go_iinc (j := 5) (q := 96) (ls2 := [_, _, _, _, _, _, _, _]) rfl (by decide) rfl rfl dL_different_93 rfl ?_
                refine go_goto (q := 17) dL_different_96 (by decide) ?_
                first
                | exact ih17 _ (by omega) (k + 1) L _ _ _ _ (by omega) (by omega) (by omega) (by omega) ⟨fun q e he => by
                    by_cases z : e = k
                    · rw [z]; intro hs; rw [show n = x by omega] at hs; have := hsm.mp hs; omega
                    · exact hl0.mp q e (by omega), fun q => hl0.mpr (fun e he => q e (by omega))⟩ rfl
                | exact ih17 _ (by omega) (k + 1) (L + 1) _ _ _ _ (by omega) (by omega) (by omega) (by omega) ⟨fun q => by omega, fun q => by
                    exfalso
                    apply q k (by omega)
                    rw [show n = x by omega]
                    exact hsm.mpr (by omega)⟩ rfl
              · refine go_iconst (q := 86) dL_different_85 rfl ?_
                refine go_goto (q := 90) dL_different_86 (by decide) ?_
                refine go_iadd (q := 91) dL_different_90 rfl ?_
                refine go_istore (j := 4) (q := 93) (ls2 := [_, _, _, _, _, _, _, _]) (by decide) rfl rfl dL_different_91 rfl ?_
                refine go_iinc (j := 5) (q := 96) (ls2 := [_, _, _, _, _, _, _, _]) rfl (by decide) rfl rfl dL_different_93 rfl ?_
                refine go_goto (q := 17) dL_different_96 (by decide) ?_
                first
                | exact ih17 _ (by omega) (k + 1) L _ _ _ _ (by omega) (by omega) (by omega) (by omega) ⟨fun q e he => by
                    by_cases z : e = k
                    · rw [z]; intro hs; rw [show n = x by omega] at hs; have := hsm.mp hs; omega
                    · exact hl0.mp q e (by omega), fun q => hl0.mpr (fun e he => q e (by omega))⟩ rfl
                | exact ih17 _ (by omega) (k + 1) (L + 1) _ _ _ _ (by omega) (by omega) (by omega) (by omega) ⟨fun q => by omega, fun q => by
                    exfalso
                    apply q k (by omega)
                    rw [show n = x by omega]
                    exact hsm.mpr (by omega)⟩ rfl
            · have d1 := hT.2.2 x k (by omega) (by omega)
              have d2 := hT.2.2 x y (by omega) (by omega)
              have hcn2 := cN_le (fun x => decide (f x k = f x y)) x
              refine go_iload (j := 6) (q := 39) rfl dL_different_37 rfl ?_
              refine go_aload_n (j := 1) (q := 40) rfl rfl dL_different_39 rfl ?_
              refine go_bipush (q := 42) rfl dL_different_40 rfl ?_
              refine go_iload (j := 7) (q := 44) rfl dL_different_42 rfl ?_
              refine go_imul (q := 45) dL_different_44 rfl ?_
              refine go_iload (j := 5) (q := 47) rfl dL_different_45 rfl ?_
              refine go_iadd (q := 48) dL_different_47 rfl ?_
              refine go_iald (j := 6 * x + k) (q := 49) (by first | assumption | rfl) (wr_eq (by omega)) (by omega) dL_different_48 rfl ?_
              rw [show w 46 (6 * x + k) = (f x k : Int) from d1.1]
              refine go_aload_n (j := 1) (q := 50) rfl rfl dL_different_49 rfl ?_
              refine go_bipush (q := 52) rfl dL_different_50 rfl ?_
              refine go_iload (j := 7) (q := 54) rfl dL_different_52 rfl ?_
              refine go_imul (q := 55) dL_different_54 rfl ?_
              refine go_iload_n (j := 3) (q := 56) rfl rfl dL_different_55 rfl ?_
              refine go_iadd (q := 57) dL_different_56 rfl ?_
              refine go_iald (j := 6 * x + y) (q := 58) (by first | assumption | rfl) (wr_eq (by omega)) (by omega) dL_different_57 rfl ?_
              rw [show w 46 (6 * x + y) = (f x y : Int) from d2.1]
              refine go_icmp_ne2 (q := 61) (t := 65) dL_different_58 (by decide) rfl (by omega) (fun c58 => ?_) (fun c58 => ?_)
              · refine go_iconst (q := 66) dL_different_65 rfl ?_
                refine go_iadd (q := 67) dL_different_66 rfl ?_
                refine go_istore (j := 6) (q := 69) (ls2 := [_, _, _, _, _, _, _, _]) (by decide) rfl rfl dL_different_67 rfl ?_
                refine go_iinc (j := 7) (q := 72) (ls2 := [_, _, _, _, _, _, _, _]) rfl (by decide) rfl rfl dL_different_69 rfl ?_
                refine go_goto (q := 29) dL_different_72 (by decide) ?_
                exact ih29 _ (by omega) (x + 1) _ _ (by omega) (by omega) (by
                  simp only [cN]
                  first
                  | (rw [if_neg (by simp; omega)]; omega)
                  | (rw [if_pos (by simp; omega)]; omega)) rfl
              · refine go_iconst (q := 62) dL_different_61 rfl ?_
                refine go_goto (q := 66) dL_different_62 (by decide) ?_
                refine go_iadd (q := 67) dL_different_66 rfl ?_
                refine go_istore (j := 6) (q := 69) (ls2 := [_, _, _, _, _, _, _, _]) (by decide) rfl rfl dL_different_67 rfl ?_
                refine go_iinc (j := 7) (q := 72) (ls2 := [_, _, _, _, _, _, _, _]) rfl (by decide) rfl rfl dL_different_69 rfl ?_
                refine go_goto (q := 29) dL_different_72 (by decide) ?_
                exact ih29 _ (by omega) (x + 1) _ _ (by omega) (by omega) (by
                  simp only [cN]
                  first
                  | (rw [if_neg (by simp; omega)]; omega)
                  | (rw [if_pos (by simp; omega)]; omega)) rfl
          exact lp29 _ 0 _ _ rfl (by omega) rfl rfl
      exact lp17 _ 0 0 _ _ _ _ rfl (by omega) rfl (by omega) ⟨fun _ e h => absurd h (Nat.not_lt_zero e), fun _ => rfl⟩ rfl
  exact lp4 _ 0 _ _ _ _ _ _ rfl (by omega) rfl rfl
end LAW2
