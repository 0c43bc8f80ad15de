theorem isLow_col {n y x : Nat} {f f2 : Nat → Nat → Nat} {v : Int} (he : ∀ z, z < n → f2 z y = f z y) (h : isLowP n (fun z => f2 z y = x) v) : isLowP n (fun z => f z y = x) v := by
  rcases h with ⟨z, h1, h2, h3, h4⟩ | ⟨h1, h2⟩
  · exact Or.inl ⟨z, h1, h2, by show f z y = x; rw [← he z h1]; exact h3, fun i hi q => h4 i hi (by show f2 i y = x; rw [he i (by omega)]; exact q)⟩
  · exact Or.inr ⟨h1, fun i hi q => h2 i hi (by show f2 i y = x; rw [he i hi]; exact q)⟩
section M3
variable {l : Launch} {D : va_G} {ck : Nat → ClassId} {ad : Nat → Nat} {w : Mem} {W : WA} {n : Nat} {f : Nat → Nat → Nat}
theorem em5 (hP : PMW w W) : eX7_invert l D ck ad shA [vR 45] w (Pi (MR w (op5 W))) := by
  have hT : TMv (w 46) (wN W) (wF W) := hP.1.1
  obtain ⟨n, hn0⟩ : ∃ n, n = wN W := ⟨_, rfl⟩
  obtain ⟨f, hf0⟩ : ∃ f, f = wF W := ⟨_, rfl⟩
  rw [← hn0, ← hf0] at hT
  have hn := hT.2.1
  have hr : ∀ i j, i < n → j < n → f i j < n := fun i j hi hj => (hT.2.2 i j hi hj).2
  refine ev_of_goK (own := RX7) (ls := [some (vR 45), none, none, none]) (by decide +kernel) rfl rfl (Nat.le_of_ble_eq_true rfl) rkI ?_
  intro K hK
  refine go_aload_n (j := 0) (q := 1) rfl rfl dX7_invert_0 rfl ?_
  refine go_callVi (as := [_]) (As := []) (rest := []) (n := 0) (q := 4) dX7_invert_1 lk_X7_81 (ci := 7) (N := 16) (T := TX7) rfl (by first | assumption | rfl) rfl rfl (by decide +kernel) rfl ⟨by decide, by decide⟩ ⟨rfl, rfl⟩ (Nat.le_of_ble_eq_true rfl) (em_violatesSecond hT) rfl (fun x1 w1 h1 => ?_)
  obtain ⟨h1, rfl⟩ := h1
  refine go_bipush (q := 6) rfl dX7_invert_4 rfl ?_
  refine go_icmp_eq2 (q := 9) (t := 12) dX7_invert_6 (by decide) rfl (by rcases h1 with ⟨z, z1, z2, z3, z4⟩ | ⟨z1, z2⟩ <;> omega) (fun c6 => ?_) (fun c6 => ?_)
  · have hall : ∀ y, y < n → prm n f y := by
      rcases h1 with ⟨z, z1, z2, z3, z4⟩ | ⟨z1, z2⟩
      · omega
      · exact fun y hy => Classical.not_not.mp (z2 y hy)
    refine go_aload_n (j := 0) (q := 13) rfl rfl dX7_invert_12 rfl ?_
    refine go_callVv (as := [_]) (As := []) (rest := []) (n := 0) (q := 16) dX7_invert_13 lk_X7_39 (ci := 7) (N := 16) (T := TX7) rfl (by first | assumption | rfl) rfl rfl (by decide +kernel) rfl ⟨by decide, by decide⟩ ⟨rfl, rfl⟩ (Nat.le_of_ble_eq_true rfl) (em_record hP) rfl (fun w13 h13 => ?_)
    obtain ⟨hP2, f2⟩ := h13
    have hT2 : TMv (w13 46) n f := by rw [hn0, hf0]; exact hP2.1.1
    refine go_iconst (q := 17) dX7_invert_16 rfl ?_
    refine go_istore_n (j := 1) (q := 18) (ls2 := [_, _, _, _]) rfl (by decide) rfl rfl dX7_invert_17 rfl ?_
    refine go_iconst (q := 19) dX7_invert_18 rfl ?_
    refine go_istore_n (j := 2) (q := 20) (ls2 := [_, _, _, _]) rfl (by decide) rfl rfl dX7_invert_19 rfl ?_
    have lp20 : ∀ (m20 : Nat) (y : Nat) (yi ci : Int) (u : Option MV) (w3 : Mem) (ey : yi = y) (hy : y ≤ n) (ec : ci = (fN (fun y (z : Nat) => z + cN (fun x => decide (invF n f x y ≠ f x y)) n) 0 y : Nat)) (hT3 : TMv (w3 46) n (fun i j => if j < y then invF n f i j else f i j)) (ho : ∀ k, 37 ≤ k → w3 46 k = w13 46 k) (hf : ∀ c k, c ≠ 46 → c ≠ 50 → w3 c k = w13 c k), m20 = n - y → gX7_invert l D ck ad shA 20 [some (vR 45), some (vI ci), some (vI yi), u] [] w3 K := by
      intro m20
      induction m20 using Nat.strongRecOn with
      | _ m20 ih20 =>
      intro y yi ci u w3 ey hy ec hT3 ho hf em20
      have g0 := hT3.1
      refine go_iload_n (j := 2) (q := 21) rfl rfl dX7_invert_20 rfl ?_
      refine go_aload_n (j := 0) (q := 22) rfl rfl dX7_invert_21 rfl ?_
      refine go_getR (C0 := RX7) (T := TX7) (N := 16) (ci := 7) (i := 0) (q := 25) rfl igX7 (by first | assumption | rfl) (by decide) fl_X7_7 rfl dX7_invert_22 rfl ?_
      refine go_iconst (q := 26) dX7_invert_25 rfl ?_
      refine go_iald (j := 0) (q := 27) (by first | assumption | rfl) (wr_eq (by omega)) (by omega) dX7_invert_26 rfl ?_
      refine go_icmp_ge2 (q := 30) (t := 119) dX7_invert_27 (by decide) rfl (by omega) (fun c27 => ?_) (fun c27 => ?_)
      · refine go_iload_n (j := 1) (q := 120) rfl rfl dX7_invert_119 rfl ?_
        refine go_iret dX7_invert_120 ?_
        subst hK
        unfold op5
        rw [cif_t (by rw [← hn0, ← hf0]; exact hall), ← hn0, ← hf0]
        have eyn : y = n := by omega
        subst eyn
        have hnew : SMv (w3 46) (tS W y (invF y f)) := by
          refine ⟨⟨hT3.1, hT3.2.1, fun i j (hi : i < y) (hj : j < y) => ?_⟩, DMv_c hP2.1.2 (fun k a1 a2 => ho k a1)⟩
          have h9 := hT3.2.2 i j hi hj
          simp only [if_pos hj] at h9
          exact h9
        exact ⟨_, rfl, by rw [ec, c2_swap], PMW_S hP2 hnew (fun c k z => hf _ _ (by omega) (by omega)), fun c k z => by rw [hf _ _ (by omega) (by omega)]; exact f2 _ _ (by omega) (by omega)⟩
      · refine go_iconst (q := 31) dX7_invert_30 rfl ?_
        refine go_istore_n (j := 3) (q := 32) (ls2 := [_, _, _, _]) rfl (by decide) rfl rfl dX7_invert_31 rfl ?_
        have lp32 : ∀ (m32 : Nat) (x : Nat) (xi : Int) (w4 : Mem) (ex : xi = x) (hx : x ≤ n) (him : ∀ i, i < x → w4 50 i = (invF n f i y : Int)) (hf4 : ∀ c k, c ≠ 50 → w4 c k = w3 c k), m32 = n - x → gX7_invert l D ck ad shA 32 [some (vR 45), some (vI ci), some (vI yi), some (vI xi)] [] w4 K := by
          intro m32
          induction m32 using Nat.strongRecOn with
          | _ m32 ih32 =>
          intro x xi w4 ex hx him hf4 em32
          have hT4 : TMv (w4 46) n (fun i j => if j < y then invF n f i j else f i j) := TMv_c hT3 (fun k _ => hf4 _ _ (by omega))
          have g04 := hT4.1
          refine go_iload_n (j := 3) (q := 33) rfl rfl dX7_invert_32 rfl ?_
          refine go_aload_n (j := 0) (q := 34) rfl rfl dX7_invert_33 rfl ?_
          refine go_getR (C0 := RX7) (T := TX7) (N := 16) (ci := 7) (i := 0) (q := 37) rfl igX7 (by first | assumption | rfl) (by decide) fl_X7_7 rfl dX7_invert_34 rfl ?_
          refine go_iconst (q := 38) dX7_invert_37 rfl ?_
          refine go_iald (j := 0) (q := 39) (by first | assumption | rfl) (wr_eq (by omega)) (by omega) dX7_invert_38 rfl ?_
          refine go_icmp_ge2 (q := 42) (t := 60) dX7_invert_39 (by decide) rfl (by omega) (fun c39 => ?_) (fun c39 => ?_)
          · have exn : x = n := by omega
            subst exn
            have ivb : ∀ i, i < x → invF x f i y < x := fun i hi => invF_lt (hall y (by omega)) hi
            obtain ⟨c0, hc0⟩ : ∃ c0, c0 = fN (fun y (z : Nat) => z + cN (fun x' => decide (invF x f x' y ≠ f x' y)) x) 0 y := ⟨_, rfl⟩
            rw [← hc0] at ec
            refine go_iconst (q := 61) dX7_invert_60 rfl ?_
            refine go_istore_n (j := 3) (q := 62) (ls2 := [_, _, _, _]) rfl (by decide) rfl rfl dX7_invert_61 rfl ?_
            have lp62 : ∀ (m62 : Nat) (z : Nat) (zi ci5 : Int) (w5 : Mem) (ez : zi = z) (hz : z ≤ x) (ec5 : ci5 = (c0 + cN (fun x' => decide (invF x f x' y ≠ f x' y)) z : Nat)) (hT5 : TMv (w5 46) x (fun i j => if j < y ∨ (j = y ∧ i < z) then invF x f i j else f i j)) (ho5 : ∀ k, 37 ≤ k → w5 46 k = w13 46 k) (him5 : ∀ i, i < x → w5 50 i = (invF x f i y : Int)) (hf5 : ∀ c k, c ≠ 46 → c ≠ 50 → w5 c k = w13 c k), m62 = x - z → gX7_invert l D ck ad shA 62 [some (vR 45), some (vI ci5), some (vI yi), some (vI zi)] [] w5 K := by
              intro m62
              induction m62 using Nat.strongRecOn with
              | _ m62 ih62 =>
              intro z zi ci5 w5 ez hz ec5 hT5 ho5 him5 hf5 em62
              have g05 := hT5.1
              refine go_iload_n (j := 3) (q := 63) rfl rfl dX7_invert_62 rfl ?_
              refine go_aload_n (j := 0) (q := 64) rfl rfl dX7_invert_63 rfl ?_
              refine go_getR (C0 := RX7) (T := TX7) (N := 16) (ci := 7) (i := 0) (q := 67) rfl igX7 (by first | assumption | rfl) (by decide) fl_X7_7 rfl dX7_invert_64 rfl ?_
              refine go_iconst (q := 68) dX7_invert_67 rfl ?_
              refine go_iald (j := 0) (q := 69) (by first | assumption | rfl) (wr_eq (by omega)) (by omega) dX7_invert_68 rfl ?_
              refine go_icmp_ge2 (q := 72) (t := 113) dX7_invert_69 (by decide) rfl (by omega) (fun c69 => ?_) (fun c69 => ?_)
              · refine go_iinc (j := 2) (q := 116) (ls2 := [_, _, _, _]) rfl (by decide) rfl rfl dX7_invert_113 rfl ?_
                refine go_goto (q := 20) dX7_invert_116 (by decide) ?_
                (have ezx : z = x := by omega
                 subst ezx
                 refine ih20 _ (by omega) (y + 1) _ _ _ _ (by omega) (by omega) (by show ci5 = ((fN (fun y (z' : Nat) => z' + cN (fun x' => decide (invF z f x' y ≠ f x' y)) z) 0 y + cN (fun x' => decide (invF z f x' y ≠ f x' y)) z : Nat) : Int); rw [← hc0]; exact ec5) ?_ ho5 hf5 rfl
                 refine ⟨hT5.1, hT5.2.1, fun i j hi hj => ?_⟩
                 have h9 := hT5.2.2 i j hi hj
                 simp only at h9 ⊢
                 by_cases q : j < y + 1
                 · rw [if_pos (by omega)] at h9; rw [if_pos q]; exact h9
                 · rw [if_neg (by omega)] at h9; rw [if_neg q]; exact h9)
              · refine go_iload_n (j := 1) (q := 73) rfl rfl dX7_invert_72 rfl ?_
                refine go_aload_n (j := 0) (q := 74) rfl rfl dX7_invert_73 rfl ?_
                refine go_iload_n (j := 3) (q := 75) rfl rfl dX7_invert_74 rfl ?_
                refine go_iload_n (j := 2) (q := 76) rfl rfl dX7_invert_75 rfl ?_
                refine go_callVi (as := [_, _, _]) (As := [_, _]) (rest := [_]) (n := 2) (q := 79) dX7_invert_76 lk_X7_67 (ci := 7) (N := 16) (T := TX7) rfl (by first | assumption | rfl) rfl rfl (by decide +kernel) rfl ⟨by decide, by decide⟩ ⟨rfl, rfl⟩ (Nat.le_of_ble_eq_true rfl) (em_times hT5 (x := z) (y := y) ez ey (by omega) (by omega)) rfl (fun x76 w76 h76 => ?_)
                obtain ⟨rfl, rfl⟩ := h76
                have ef : (if y < y ∨ (y = y ∧ z < z) then invF x f z y else f z y) = f z y := if_neg (by omega)
                have eim := him5 z (by omega)
                have bim := ivb z (by omega)
                have bff := hr z y (by omega) (by omega)
                rw [ef]
                refine go_aload_n (j := 0) (q := 80) rfl rfl dX7_invert_79 rfl ?_
                refine go_getR (C0 := RX7) (T := TX7) (N := 16) (ci := 7) (i := 7) (q := 83) rfl igX7 (by first | assumption | rfl) (by decide) fl_X7_22 rfl dX7_invert_80 rfl ?_
                refine go_iload_n (j := 3) (q := 84) rfl rfl dX7_invert_83 rfl ?_
                refine go_iald (j := z) (q := 85) (by first | assumption | rfl) (wr_eq (by omega)) (by omega) dX7_invert_84 rfl ?_
                refine go_icmp_ne2 (q := 88) (t := 92) dX7_invert_85 (by decide) rfl (by omega) (fun c85 => ?_) (fun c85 => ?_)
                · refine go_iconst (q := 93) dX7_invert_92 rfl ?_
                  refine go_iadd (q := 94) dX7_invert_93 rfl ?_
                  refine go_istore_n (j := 1) (q := 95) (ls2 := [_, _, _, _]) rfl (by decide) rfl rfl dX7_invert_94 rfl ?_
                  refine go_aload_n (j := 0) (q := 96) rfl rfl dX7_invert_95 rfl ?_
                  refine go_iload_n (j := 3) (q := 97) rfl rfl dX7_invert_96 rfl ?_
                  refine go_iload_n (j := 2) (q := 98) rfl rfl dX7_invert_97 rfl ?_
                  refine go_aload_n (j := 0) (q := 99) rfl rfl dX7_invert_98 rfl ?_
                  refine go_getR (C0 := RX7) (T := TX7) (N := 16) (ci := 7) (i := 7) (q := 102) rfl igX7 (by first | assumption | rfl) (by decide) fl_X7_22 rfl dX7_invert_99 rfl ?_
                  refine go_iload_n (j := 3) (q := 103) rfl rfl dX7_invert_102 rfl ?_
                  refine go_iald (j := z) (q := 104) (by first | assumption | rfl) (wr_eq (by omega)) (by omega) dX7_invert_103 rfl ?_
                  refine go_callVv (as := [_, _, _, _]) (As := [_, _, _]) (rest := []) (n := 3) (q := 107) dX7_invert_104 lk_X7_42 (ci := 7) (N := 16) (T := TX7) rfl (by first | assumption | rfl) rfl rfl (by decide +kernel) rfl ⟨by decide, by decide⟩ ⟨rfl, rfl⟩ (Nat.le_of_ble_eq_true rfl) (em_setTimes (x := z) (y := y) ez ey (by omega) (by omega)) rfl (fun w104 h104 => ?_)
                  subst h104
                  refine go_iinc (j := 3) (q := 110) (ls2 := [_, _, _, _]) rfl (by decide) rfl rfl dX7_invert_107 rfl ?_
                  refine go_goto (q := 62) dX7_invert_110 (by decide) ?_
                  (refine ih62 _ (by omega) (z + 1) _ _ _ (by omega) (by omega) ?_ ?_ (fun k h => by rw [mup_ne (by omega)]; exact ho5 k h) (fun i h => by rw [mup_ne (by omega)]; exact him5 i h) (fun c k a1 a2 => by rw [mup_ne (Or.inl a1)]; exact hf5 c k a1 a2) rfl
                   · simp only [cN]
                     by_cases q : invF x f z y = f z y
                     · rw [if_neg (by simp [q])]; omega
                     · rw [if_pos (by simp [q])]; omega
                   · refine ⟨by rw [mup_ne (by omega)]; exact hT5.1, hT5.2.1, fun i j hi hj => ?_⟩
                     have h9 := hT5.2.2 i j hi hj
                     simp only at h9 ⊢
                     by_cases q : i = z ∧ j = y
                     · rw [q.1, q.2, mup_eq, if_pos (by omega), eim]; exact ⟨rfl, bim⟩
                     · rw [mup_ne (by omega)]
                       by_cases q2 : j < y ∨ (j = y ∧ i < z + 1)
                       · rw [if_pos (by omega)] at h9; rw [if_pos q2]; exact h9
                       · rw [if_neg (by omega)] at h9; rw [if_neg q2]; exact h9)
                · refine go_iconst (q := 89) dX7_invert_88 rfl ?_
                  refine go_goto (q := 93) dX7_invert_89 (by decide) ?_
                  refine go_iadd (q := 94) dX7_invert_93 rfl ?_
                  refine go_istore_n (j := 1) (q := 95) (ls2 := [_, _, _, _]) rfl (by decide) rfl rfl dX7_invert_94 rfl ?_
                  refine go_aload_n (j := 0) (q := 96) rfl rfl dX7_invert_95 rfl ?_
                  refine go_iload_n (j := 3) (q := 97) rfl rfl dX7_invert_96 rfl ?_
                  refine go_iload_n (j := 2) (q := 98) rfl rfl dX7_invert_97 rfl ?_
                  refine go_aload_n (j := 0) (q := 99) rfl rfl dX7_invert_98 rfl ?_
                  refine go_getR (C0 := RX7) (T := TX7) (N := 16) (ci := 7) (i := 7) (q := 102) rfl igX7 (by first | assumption | rfl) (by decide) fl_X7_22 rfl dX7_invert_99 rfl ?_
                  refine go_iload_n (j := 3) (q := 103) rfl rfl dX7_invert_102 rfl ?_
                  refine go_iald (j := z) (q := 104) (by first | assumption | rfl) (wr_eq (by omega)) (by omega) dX7_invert_103 rfl ?_
                  refine go_callVv (as := [_, _, _, _]) (As := [_, _, _]) (rest := []) (n := 3) (q := 107) dX7_invert_104 lk_X7_42 (ci := 7) (N := 16) (T := TX7) rfl (by first | assumption | rfl) rfl rfl (by decide +kernel) rfl ⟨by decide, by decide⟩ ⟨rfl, rfl⟩ (Nat.le_of_ble_eq_true rfl) (em_setTimes (x := z) (y := y) ez ey (by omega) (by omega)) rfl (fun w104 h104 => ?_)
                  subst h104
                  refine go_iinc (j := 3) (q := 110) (ls2 := [_, _, _, _]) rfl (by decide) rfl rfl dX7_invert_107 rfl ?_
                  refine go_goto (q := 62) dX7_invert_110 (by decide) ?_
                  (refine ih62 _ (by omega) (z + 1) _ _ _ (by omega) (by omega) ?_ ?_ (fun k h => by rw [mup_ne (by omega)]; exact ho5 k h) (fun i h => by rw [mup_ne (by omega)]; exact him5 i h) (fun c k a1 a2 => by rw [mup_ne (Or.inl a1)]; exact hf5 c k a1 a2) rfl
                   · simp only [cN]
                     by_cases q : invF x f z y = f z y
                     · rw [if_neg (by simp [q])]; omega
                     · rw [if_pos (by simp [q])]; omega
                   · refine ⟨by rw [mup_ne (by omega)]; exact hT5.1, hT5.2.1, fun i j hi hj => ?_⟩
                     have h9 := hT5.2.2 i j hi hj
                     simp only at h9 ⊢
                     by_cases q : i = z ∧ j = y
                     · rw [q.1, q.2, mup_eq, if_pos (by omega), eim]; exact ⟨rfl, bim⟩
                     · rw [mup_ne (by omega)]
                       by_cases q2 : j < y ∨ (j = y ∧ i < z + 1)
                       · rw [if_pos (by omega)] at h9; rw [if_pos q2]; exact h9
                       · rw [if_neg (by omega)] at h9; rw [if_neg q2]; exact h9)
            exact lp62 _ 0 0 _ _ rfl (by omega) (by rw [ec]; rfl) (by
              have : (fun i j => if j < y ∨ (j = y ∧ i < 0) then invF x f i j else f i j) = (fun i j => if j < y then invF x f i j else f i j) := by
                funext i j
                by_cases q : j < y
                · rw [if_pos q, if_pos (Or.inl q)]
                · rw [if_neg q, if_neg (by omega)]
              rw [this]; exact hT4) (fun k h => by rw [hf4 _ _ (by omega)]; exact ho k h) him (fun c k a1 a2 => by rw [hf4 _ _ a2]; exact hf c k a1 a2) rfl
          · refine go_aload_n (j := 0) (q := 43) rfl rfl dX7_invert_42 rfl ?_
            refine go_getR (C0 := RX7) (T := TX7) (N := 16) (ci := 7) (i := 7) (q := 46) rfl igX7 (by first | assumption | rfl) (by decide) fl_X7_22 rfl dX7_invert_43 rfl ?_
            refine go_iload_n (j := 3) (q := 47) rfl rfl dX7_invert_46 rfl ?_
            refine go_aload_n (j := 0) (q := 48) rfl rfl dX7_invert_47 rfl ?_
            refine go_iload_n (j := 3) (q := 49) rfl rfl dX7_invert_48 rfl ?_
            refine go_iload_n (j := 2) (q := 50) rfl rfl dX7_invert_49 rfl ?_
            refine go_callVi (as := [_, _, _]) (As := [_, _]) (rest := [_, _]) (n := 2) (q := 53) dX7_invert_50 lk_X7_87 (ci := 7) (N := 16) (T := TX7) rfl (by first | assumption | rfl) rfl rfl (by decide +kernel) rfl ⟨by decide, by decide⟩ ⟨rfl, rfl⟩ (Nat.le_of_ble_eq_true rfl) (em_dividedBy hT4 (x := x) (y := y) ex ey (by omega) (by omega)) rfl (fun x50 w50 h50 => ?_)
            obtain ⟨h50, rfl⟩ := h50
            have e50 := isLow_inv (hall y (by omega)) (show x < n by omega) (isLow_col (f := f) (f2 := fun i j => if j < y then invF n f i j else f i j) (fun z hz => if_neg (by omega)) h50)
            refine go_iast (j := x) (q := 54) (by first | assumption | rfl) (wr_eq (by omega)) (by omega) dX7_invert_53 rfl ?_
            refine go_iinc (j := 3) (q := 57) (ls2 := [_, _, _, _]) rfl (by decide) rfl rfl dX7_invert_54 rfl ?_
            refine go_goto (q := 32) dX7_invert_57 (by decide) ?_
            exact ih32 _ (by omega) (x + 1) _ _ (by omega) (by omega) (by
              intro i h
              by_cases q : i = x
              · subst q; rw [mup_eq]; exact e50
              · rw [mup_ne (by omega)]; exact him i (by omega)) (fun c k h => by rw [mup_ne (Or.inl h)]; exact hf4 c k h) rfl
        exact lp32 _ 0 0 _ rfl (by omega) (fun i h => absurd h (Nat.not_lt_zero i)) (fun c k h => rfl) rfl
    exact lp20 _ 0 0 0 _ _ rfl (by omega) rfl hT2 (fun k h => rfl) (fun c k h h2 => rfl) rfl
  · refine go_bipush (q := 11) rfl dX7_invert_9 rfl ?_
    refine go_iret dX7_invert_11 ?_
    subst hK
    unfold op5
    have hno : ¬ ∀ y, y < wN W → prm (wN W) (wF W) y := by
      rw [← hn0, ← hf0]
      rcases h1 with ⟨z, z1, z2, z3, z4⟩ | ⟨z1, z2⟩
      · exact fun q => z3 (q z z1)
      · omega
    rw [cif_f hno]
    exact ⟨_, rfl, rfl, hP, fun c k _ => rfl⟩
theorem em10 (hP : PMW w W) {x : Int} (hx : rng x) : eX7_reach l D ck ad shA [vR 45, vI x] w (Pi (MR w (op10 W x))) := by
  have hT : TMv (w 46) (wN W) (wF W) := hP.1.1
  obtain ⟨n, hn0⟩ : ∃ n, n = wN W := ⟨_, rfl⟩
  obtain ⟨f, hf0⟩ : ∃ f, f = wF W := ⟨_, rfl⟩
  rw [← hn0, ← hf0] at hT
  have hn := hT.2.1
  have g0 := hT.1
  have hr : ∀ i j, i < n → j < n → f i j < n := fun i j hi hj => (hT.2.2 i j hi hj).2
  have h64 : 2 ^ n ≤ 2 ^ 6 := Nat.pow_le_pow_right (by decide) hn.2
  refine ev_of_goK (own := RX7) (ls := [some (vR 45), some (vI x), none, none, none, none]) (by decide +kernel) rfl rfl (Nat.le_of_ble_eq_true rfl) rkI ?_
  intro K hK
  refine go_aload_n (j := 0) (q := 1) rfl rfl dX7_reach_0 rfl ?_
  refine go_iload_n (j := 1) (q := 2) rfl rfl dX7_reach_1 rfl ?_
  refine go_callVz (as := [_, _]) (As := [_]) (rest := []) (n := 1) (q := 5) dX7_reach_2 lk_X7_63 (ci := 7) (N := 16) (T := TX7) rfl (by first | assumption | rfl) rfl rfl (by decide +kernel) rfl ⟨by decide, by decide⟩ ⟨rfl, rfl⟩ (Nat.le_of_ble_eq_true rfl) (em_isElement hT hx) rfl (fun w2 h2 => ?_) (fun w2 h2 => ?_)
  · obtain ⟨rfl, h2⟩ := h2
    refine go_if_neT (t := 10) dX7_reach_5 (by decide) (by decide) ?_
    obtain ⟨q, hq⟩ : ∃ q, q = x.toNat := ⟨_, rfl⟩
    refine go_iconst (q := 11) dX7_reach_10 rfl ?_
    refine go_iload_n (j := 1) (q := 12) rfl rfl dX7_reach_11 rfl ?_
    refine go_ishl (q := 13) dX7_reach_12 rfl ?_
    refine go_istore_n (j := 2) (q := 14) (ls2 := [_, _, _, _, _, _]) rfl (by decide) rfl rfl dX7_reach_13 rfl ?_
    refine go_iconst (q := 15) dX7_reach_14 rfl ?_
    refine go_istore_n (j := 3) (q := 16) (ls2 := [_, _, _, _, _, _]) rfl (by decide) rfl rfl dX7_reach_15 rfl ?_
    have lp16 : ∀ (m16 : Nat) (t c : Nat) (ti ci : Int) (u v : Option MV) (et : ti = t) (ht : t ≤ 6) (ec : ci = c) (hc : c < 2 ^ n) (efo : c = itN (rnd2 (stR f) n) (2 ^ q) t), m16 = 6 - t → gX7_reach l D ck ad shA 16 [some (vR 45), some (vI x), some (vI ci), some (vI ti), u, v] [] w K := by
      intro m16
      induction m16 using Nat.strongRecOn with
      | _ m16 ih16 =>
      intro t c ti ci u v et ht ec hc efo em16
      refine go_iload_n (j := 3) (q := 17) rfl rfl dX7_reach_16 rfl ?_
      refine go_bipush (q := 19) rfl dX7_reach_17 rfl ?_
      refine go_icmp_ge2 (q := 22) (t := 91) dX7_reach_19 (by decide) rfl (by omega) (fun c19 => ?_) (fun c19 => ?_)
      · refine go_iload_n (j := 2) (q := 92) rfl rfl dX7_reach_91 rfl ?_
        refine go_iret dX7_reach_92 ?_
        subst hK
        unfold op10
        rw [cif_t (by rw [← hn0]; exact h2), ← hn0, ← hf0, ← hq]
        exact ⟨_, rfl, by rw [ec, efo, show t = 6 by omega, reach6 hn.2 hr (two_lt (by omega))], hP, fun c k _ => rfl⟩
      · refine go_iconst (q := 23) dX7_reach_22 rfl ?_
        refine go_istore (j := 4) (q := 25) (ls2 := [_, _, _, _, _, _]) (by decide) rfl rfl dX7_reach_23 rfl ?_
        have lp25 : ∀ (m25 : Nat) (a c2 : Nat) (ai ci2 : Int) (v2 : Option MV) (ea : ai = a) (ha : a ≤ n) (ec2 : ci2 = c2) (hc2 : c2 < 2 ^ n) (efo2 : c2 = fN (fun a m => fN (fun b m => stR f a b m) m n) c a), m25 = n - a → gX7_reach l D ck ad shA 25 [some (vR 45), some (vI x), some (vI ci2), some (vI ti), some (vI ai), v2] [] w K := by
          intro m25
          induction m25 using Nat.strongRecOn with
          | _ m25 ih25 =>
          intro a c2 ai ci2 v2 ea ha ec2 hc2 efo2 em25
          refine go_iload (j := 4) (q := 27) rfl dX7_reach_25 rfl ?_
          refine go_aload_n (j := 0) (q := 28) rfl rfl dX7_reach_27 rfl ?_
          refine go_getR (C0 := RX7) (T := TX7) (N := 16) (ci := 7) (i := 0) (q := 31) rfl igX7 (by first | assumption | rfl) (by decide) fl_X7_7 rfl dX7_reach_28 rfl ?_
          refine go_iconst (q := 32) dX7_reach_31 rfl ?_
          refine go_iald (j := 0) (q := 33) (by first | assumption | rfl) (wr_eq (by omega)) (by omega) dX7_reach_32 rfl ?_
          refine go_icmp_ge2 (q := 36) (t := 85) dX7_reach_33 (by decide) rfl (by omega) (fun c33 => ?_) (fun c33 => ?_)
          · refine go_iinc (j := 3) (q := 88) (ls2 := [_, _, _, _, _, _]) rfl (by decide) rfl rfl dX7_reach_85 rfl ?_
            refine go_goto (q := 16) dX7_reach_88 (by decide) ?_
            exact ih16 _ (by omega) (t + 1) c2 _ _ _ _ (by omega) (by omega) ec2 hc2 (by rw [efo2, efo, show a = n by omega]; rfl) rfl
          · refine go_iconst (q := 37) dX7_reach_36 rfl ?_
            refine go_istore (j := 5) (q := 39) (ls2 := [_, _, _, _, _, _]) (by decide) rfl rfl dX7_reach_37 rfl ?_
            have lp39 : ∀ (m39 : Nat) (y c3 : Nat) (yi ci3 : Int) (ey : yi = y) (hy : y ≤ n) (ec3 : ci3 = c3) (hc3 : c3 < 2 ^ n) (efo3 : c3 = fN (fun b m => stR f a b m) c2 y), m39 = n - y → gX7_reach l D ck ad shA 39 [some (vR 45), some (vI x), some (vI ci3), some (vI ti), some (vI ai), some (vI yi)] [] w K := by
              intro m39
              induction m39 using Nat.strongRecOn with
              | _ m39 ih39 =>
              intro y c3 yi ci3 ey hy ec3 hc3 efo3 em39
              refine go_iload (j := 5) (q := 41) rfl dX7_reach_39 rfl ?_
              refine go_aload_n (j := 0) (q := 42) rfl rfl dX7_reach_41 rfl ?_
              refine go_getR (C0 := RX7) (T := TX7) (N := 16) (ci := 7) (i := 0) (q := 45) rfl igX7 (by first | assumption | rfl) (by decide) fl_X7_7 rfl dX7_reach_42 rfl ?_
              refine go_iconst (q := 46) dX7_reach_45 rfl ?_
              refine go_iald (j := 0) (q := 47) (by first | assumption | rfl) (wr_eq (by omega)) (by omega) dX7_reach_46 rfl ?_
              refine go_icmp_ge2 (q := 50) (t := 79) dX7_reach_47 (by decide) rfl (by omega) (fun c47 => ?_) (fun c47 => ?_)
              · refine go_iinc (j := 4) (q := 82) (ls2 := [_, _, _, _, _, _]) rfl (by decide) rfl rfl dX7_reach_79 rfl ?_
                refine go_goto (q := 25) dX7_reach_82 (by decide) ?_
                first
                | exact ih25 _ (by omega) (a + 1) c3 _ _ _ (by omega) (by omega) ec3 hc3 (by
                    show c3 = fN (fun b m => stR f a b m) (fN (fun a m => fN (fun b m => stR f a b m) m n) c a) n
                    rw [← efo2]
                    have h1 : ¬ c2.testBit a = true := fun z => hbt (by rw [efo3]; exact stR_keep z y)
                    rw [efo3, stR_skip h1, stR_skip h1]) rfl
                | exact ih25 _ (by omega) (a + 1) c3 _ _ _ (by omega) (by omega) ec3 hc3 (by
                    show c3 = fN (fun b m => stR f a b m) (fN (fun a m => fN (fun b m => stR f a b m) m n) c a) n
                    rw [← efo2, efo3, show y = n by omega]) rfl
              · have hb1 := bit_eq (a := c3) (k := a) (by omega) (by omega)
                rw [← ec3, ← ea] at hb1
                refine go_iload_n (j := 2) (q := 51) rfl rfl dX7_reach_50 rfl ?_
                refine go_iload (j := 4) (q := 53) rfl dX7_reach_51 rfl ?_
                refine go_ishr (q := 54) dX7_reach_53 rfl ?_
                refine go_iconst (q := 55) dX7_reach_54 rfl ?_
                refine go_iand (q := 56) dX7_reach_55 rfl ?_
                refine go_iconst (q := 57) dX7_reach_56 rfl ?_
                refine go_icmp_ne2 (q := 60) (t := 79) dX7_reach_57 (by decide) rfl (by rw [hb1]; split <;> omega) (fun c57 => ?_) (fun c57 => ?_)
                · have hbt : ¬ c3.testBit a = true := by rw [hb1] at c57; intro z; rw [if_pos z] at c57; omega
                  refine go_iinc (j := 4) (q := 82) (ls2 := [_, _, _, _, _, _]) rfl (by decide) rfl rfl dX7_reach_79 rfl ?_
                  refine go_goto (q := 25) dX7_reach_82 (by decide) ?_
                  first
                  | exact ih25 _ (by omega) (a + 1) c3 _ _ _ (by omega) (by omega) ec3 hc3 (by
                      show c3 = fN (fun b m => stR f a b m) (fN (fun a m => fN (fun b m => stR f a b m) m n) c a) n
                      rw [← efo2]
                      have h1 : ¬ c2.testBit a = true := fun z => hbt (by rw [efo3]; exact stR_keep z y)
                      rw [efo3, stR_skip h1, stR_skip h1]) rfl
                  | exact ih25 _ (by omega) (a + 1) c3 _ _ _ (by omega) (by omega) ec3 hc3 (by
                      show c3 = fN (fun b m => stR f a b m) (fN (fun a m => fN (fun b m => stR f a b m) m n) c a) n
                      rw [← efo2, efo3, show y = n by omega]) rfl
                · have hbt : c3.testBit a = true := by rw [hb1] at c57; by_cases z : c3.testBit a = true; exact z; rw [if_neg z] at c57; omega
                  refine go_iload_n (j := 2) (q := 61) rfl rfl dX7_reach_60 rfl ?_
                  refine go_iconst (q := 62) dX7_reach_61 rfl ?_
                  refine go_aload_n (j := 0) (q := 63) rfl rfl dX7_reach_62 rfl ?_
                  refine go_iload (j := 4) (q := 65) rfl dX7_reach_63 rfl ?_
                  refine go_iload (j := 5) (q := 67) rfl dX7_reach_65 rfl ?_
                  refine go_callVi (as := [_, _, _]) (As := [_, _]) (rest := [_, _]) (n := 2) (q := 70) dX7_reach_67 lk_X7_67 (ci := 7) (N := 16) (T := TX7) rfl (by first | assumption | rfl) rfl rfl (by decide +kernel) rfl ⟨by decide, by decide⟩ ⟨rfl, rfl⟩ (Nat.le_of_ble_eq_true rfl) (em_times hT (x := a) (y := y) ea ey (by omega) (by omega)) rfl (fun x67 w67 h67 => ?_)
                  obtain ⟨rfl, rfl⟩ := h67
                  refine go_ishl (q := 71) dX7_reach_70 rfl ?_
                  refine go_ior (q := 72) dX7_reach_71 rfl ?_
                  refine go_istore_n (j := 2) (q := 73) (ls2 := [_, _, _, _, _, _]) rfl (by decide) rfl rfl dX7_reach_72 rfl ?_
                  refine go_iinc (j := 5) (q := 76) (ls2 := [_, _, _, _, _, _]) rfl (by decide) rfl rfl dX7_reach_73 rfl ?_
                  refine go_goto (q := 39) dX7_reach_76 (by decide) ?_
                  (have h2 := two_lt (hr a y (by omega) (by omega))
                   exact ih39 _ (by omega) (y + 1) (c3 ||| 2 ^ f a y) _ _ (by omega) (by omega) (by rw [ec3, shl_eq (by have := hr a y (by omega) (by omega); omega), or_eq (by omega) (by omega)]) (or_lt hc3 h2) (by show c3 ||| 2 ^ f a y = stR f a y (fN (fun b m => stR f a b m) c2 y); rw [← efo3, stR, if_pos hbt]) rfl)
            exact lp39 _ 0 c2 0 _ rfl (by omega) ec2 hc2 rfl rfl
        exact lp25 _ 0 c 0 _ _ rfl (by omega) ec hc rfl rfl
    exact lp16 _ 0 (2 ^ q) 0 _ _ _ rfl (by omega) (by rw [show x = (q : Int) by omega, shl_eq (by omega)]) (two_lt (by omega)) rfl rfl
  · obtain ⟨rfl, h2⟩ := h2
    refine go_if_neF (q := 8) (t := 10) dX7_reach_5 rfl (by decide) (by decide) ?_
    refine go_iconst (q := 9) dX7_reach_8 rfl ?_
    refine go_iret dX7_reach_9 ?_
    subst hK
    unfold op10
    rw [cif_f (by rw [← hn0]; exact h2)]; exact ⟨_, rfl, rfl, hP, fun c k _ => rfl⟩
theorem em_closureOf (hT : TMv (w 46) n f) {x : Nat} {xi : Int} (ex : xi = x) (hx : x < 2 ^ n) : eX7_closureOf l D ck ad shA [vR 45, vI xi] w (Pi fun v w1 => v = (cloT n f x : Int) ∧ w = w1) := by
  have hn := hT.2.1
  have g0 := hT.1
  have hr : ∀ i j, i < n → j < n → f i j < n := fun i j hi hj => (hT.2.2 i j hi hj).2
  have h64 : 2 ^ n ≤ 2 ^ 6 := Nat.pow_le_pow_right (by decide) hn.2
  refine ev_of_goK (own := RX7) (ls := [some (vR 45), some (vI xi), none, none, none, none]) (by decide +kernel) rfl rfl (Nat.le_of_ble_eq_true rfl) rkI ?_
  intro K hK
  refine go_iload_n (j := 1) (q := 1) rfl rfl dX7_closureOf_0 rfl ?_
  refine go_istore_n (j := 2) (q := 2) (ls2 := [_, _, _, _, _, _]) rfl (by decide) rfl rfl dX7_closureOf_1 rfl ?_
  refine go_iconst (q := 3) dX7_closureOf_2 rfl ?_
  refine go_istore_n (j := 3) (q := 4) (ls2 := [_, _, _, _, _, _]) rfl (by decide) rfl rfl dX7_closureOf_3 rfl ?_
  have lp4 : ∀ (m4 : Nat) (t c : Nat) (ti ci : Int) (u v : Option MV) (et : ti = t) (ht : t ≤ 6) (ec : ci = c) (hc : c < 2 ^ n) (efo : c = itN (rnd2 (stK f) n) x t), m4 = 6 - t → gX7_closureOf l D ck ad shA 4 [some (vR 45), some (vI xi), some (vI ci), some (vI ti), u, v] [] w K := by
    intro m4
    induction m4 using Nat.strongRecOn with
    | _ m4 ih4 =>
    intro t c ti ci u v et ht ec hc efo em4
    refine go_iload_n (j := 3) (q := 5) rfl rfl dX7_closureOf_4 rfl ?_
    refine go_bipush (q := 7) rfl dX7_closureOf_5 rfl ?_
    refine go_icmp_ge2 (q := 10) (t := 93) dX7_closureOf_7 (by decide) rfl (by omega) (fun c7 => ?_) (fun c7 => ?_)
    · refine go_iload_n (j := 2) (q := 94) rfl rfl dX7_closureOf_93 rfl ?_
      refine go_iret dX7_closureOf_94 ?_
      subst hK
      exact ⟨_, rfl, by rw [ec, efo, show t = 6 by omega, clo6 hn.2 hr hx]; rfl, rfl⟩
    · refine go_iconst (q := 11) dX7_closureOf_10 rfl ?_
      refine go_istore (j := 4) (q := 13) (ls2 := [_, _, _, _, _, _]) (by decide) rfl rfl dX7_closureOf_11 rfl ?_
      have lp13 : ∀ (m13 : Nat) (a c2 : Nat) (ai ci2 : Int) (v2 : Option MV) (ea : ai = a) (ha : a ≤ n) (ec2 : ci2 = c2) (hc2 : c2 < 2 ^ n) (efo2 : c2 = fN (fun a m => fN (fun b m => stK f a b m) m n) c a), m13 = n - a → gX7_closureOf l D ck ad shA 13 [some (vR 45), some (vI xi), some (vI ci2), some (vI ti), some (vI ai), v2] [] w K := by
        intro m13
        induction m13 using Nat.strongRecOn with
        | _ m13 ih13 =>
        intro a c2 ai ci2 v2 ea ha ec2 hc2 efo2 em13
        refine go_iload (j := 4) (q := 15) rfl dX7_closureOf_13 rfl ?_
        refine go_aload_n (j := 0) (q := 16) rfl rfl dX7_closureOf_15 rfl ?_
        refine go_getR (C0 := RX7) (T := TX7) (N := 16) (ci := 7) (i := 0) (q := 19) rfl igX7 (by first | assumption | rfl) (by decide) fl_X7_7 rfl dX7_closureOf_16 rfl ?_
        refine go_iconst (q := 20) dX7_closureOf_19 rfl ?_
        refine go_iald (j := 0) (q := 21) (by first | assumption | rfl) (wr_eq (by omega)) (by omega) dX7_closureOf_20 rfl ?_
        refine go_icmp_ge2 (q := 24) (t := 87) dX7_closureOf_21 (by decide) rfl (by omega) (fun c21 => ?_) (fun c21 => ?_)
        · refine go_iinc (j := 3) (q := 90) (ls2 := [_, _, _, _, _, _]) rfl (by decide) rfl rfl dX7_closureOf_87 rfl ?_
          refine go_goto (q := 4) dX7_closureOf_90 (by decide) ?_
          exact ih4 _ (by omega) (t + 1) c2 _ _ _ _ (by omega) (by omega) ec2 hc2 (by rw [efo2, efo, show a = n by omega]; rfl) rfl
        · refine go_iconst (q := 25) dX7_closureOf_24 rfl ?_
          refine go_istore (j := 5) (q := 27) (ls2 := [_, _, _, _, _, _]) (by decide) rfl rfl dX7_closureOf_25 rfl ?_
          have lp27 : ∀ (m27 : Nat) (y c3 : Nat) (yi ci3 : Int) (ey : yi = y) (hy : y ≤ n) (ec3 : ci3 = c3) (hc3 : c3 < 2 ^ n) (efo3 : c3 = fN (fun b m => stK f a b m) c2 y), m27 = n - y → gX7_closureOf l D ck ad shA 27 [some (vR 45), some (vI xi), some (vI ci3), some (vI ti), some (vI ai), some (vI yi)] [] w K := by
            intro m27
            induction m27 using Nat.strongRecOn with
            | _ m27 ih27 =>
            intro y c3 yi ci3 ey hy ec3 hc3 efo3 em27
            refine go_iload (j := 5) (q := 29) rfl dX7_closureOf_27 rfl ?_
            refine go_aload_n (j := 0) (q := 30) rfl rfl dX7_closureOf_29 rfl ?_
            refine go_getR (C0 := RX7) (T := TX7) (N := 16) (ci := 7) (i := 0) (q := 33) rfl igX7 (by first | assumption | rfl) (by decide) fl_X7_7 rfl dX7_closureOf_30 rfl ?_
            refine go_iconst (q := 34) dX7_closureOf_33 rfl ?_
            refine go_iald (j := 0) (q := 35) (by first | assumption | rfl) (wr_eq (by omega)) (by omega) dX7_closureOf_34 rfl ?_
            refine go_icmp_ge2 (q := 38) (t := 81) dX7_closureOf_35 (by decide) rfl (by omega) (fun c35 => ?_) (fun c35 => ?_)
            · refine go_iinc (j := 4) (q := 84) (ls2 := [_, _, _, _, _, _]) rfl (by decide) rfl rfl dX7_closureOf_81 rfl ?_
              refine go_goto (q := 13) dX7_closureOf_84 (by decide) ?_
              exact ih13 _ (by omega) (a + 1) c3 _ _ _ (by omega) (by omega) ec3 hc3 (by show c3 = fN (fun b m => stK f a b m) (fN (fun a m => fN (fun b m => stK f a b m) m n) c a) n; rw [← efo2, efo3, show y = n by omega]) rfl
            · have hb1 := bit_eq (a := c3) (k := a) (by omega) (by omega)
              rw [← ec3, ← ea] at hb1
              have hb2 := bit_eq (a := c3) (k := y) (by omega) (by omega)
              rw [← ec3, ← ey] at hb2
              refine go_iload_n (j := 2) (q := 39) rfl rfl dX7_closureOf_38 rfl ?_
              refine go_iload_n (j := 2) (q := 40) rfl rfl dX7_closureOf_39 rfl ?_
              refine go_iload (j := 4) (q := 42) rfl dX7_closureOf_40 rfl ?_
              refine go_ishr (q := 43) dX7_closureOf_42 rfl ?_
              refine go_iconst (q := 44) dX7_closureOf_43 rfl ?_
              refine go_iand (q := 45) dX7_closureOf_44 rfl ?_
              refine go_iconst (q := 46) dX7_closureOf_45 rfl ?_
              refine go_icmp_ne2 (q := 49) (t := 72) dX7_closureOf_46 (by decide) rfl (by rw [hb1]; split <;> omega) (fun c46 => ?_) (fun c46 => ?_)
              · have hbt : ¬ (c3.testBit a = true ∧ c3.testBit y = true) := by rw [hb1] at c46; intro q; rw [if_pos q.1] at c46; omega
                refine go_iconst (q := 73) dX7_closureOf_72 rfl ?_
                refine go_ior (q := 74) dX7_closureOf_73 rfl ?_
                refine go_istore_n (j := 2) (q := 75) (ls2 := [_, _, _, _, _, _]) rfl (by decide) rfl rfl dX7_closureOf_74 rfl ?_
                refine go_iinc (j := 5) (q := 78) (ls2 := [_, _, _, _, _, _]) rfl (by decide) rfl rfl dX7_closureOf_75 rfl ?_
                refine go_goto (q := 27) dX7_closureOf_78 (by decide) ?_
                first
                | exact ih27 _ (by omega) (y + 1) c3 _ _ (by omega) (by omega) (by rw [ec3]; exact or_eq (a := c3) (b := 0) (by omega) (by omega) |>.trans (by rw [Nat.or_zero])) hc3 (by show c3 = stK f a y (fN (fun b m => stK f a b m) c2 y); rw [← efo3, stK, if_neg hbt]) rfl
                | (have h2 := two_lt (hr a y (by omega) (by omega))
                   exact ih27 _ (by omega) (y + 1) (c3 ||| 2 ^ f a y) _ _ (by omega) (by omega) (by rw [ec3, shl_eq (by have := hr a y (by omega) (by omega); omega), or_eq (by omega) (by omega)]) (or_lt hc3 h2) (by show c3 ||| 2 ^ f a y = stK f a y (fN (fun b m => stK f a b m) c2 y); rw [← efo3, stK, if_pos hbt]) rfl)
              · refine go_iload_n (j := 2) (q := 50) rfl rfl dX7_closureOf_49 rfl ?_
                refine go_iload (j := 5) (q := 52) rfl dX7_closureOf_50 rfl ?_
                refine go_ishr (q := 53) dX7_closureOf_52 rfl ?_
                refine go_iconst (q := 54) dX7_closureOf_53 rfl ?_
                refine go_iand (q := 55) dX7_closureOf_54 rfl ?_
                refine go_iconst (q := 56) dX7_closureOf_55 rfl ?_
                refine go_icmp_ne2 (q := 59) (t := 72) dX7_closureOf_56 (by decide) rfl (by rw [hb2]; split <;> omega) (fun c56 => ?_) (fun c56 => ?_)
                · have hbt : ¬ (c3.testBit a = true ∧ c3.testBit y = true) := by rw [hb2] at c56; intro q; rw [if_pos q.2] at c56; omega
                  refine go_iconst (q := 73) dX7_closureOf_72 rfl ?_
                  refine go_ior (q := 74) dX7_closureOf_73 rfl ?_
                  refine go_istore_n (j := 2) (q := 75) (ls2 := [_, _, _, _, _, _]) rfl (by decide) rfl rfl dX7_closureOf_74 rfl ?_
                  refine go_iinc (j := 5) (q := 78) (ls2 := [_, _, _, _, _, _]) rfl (by decide) rfl rfl dX7_closureOf_75 rfl ?_
                  refine go_goto (q := 27) dX7_closureOf_78 (by decide) ?_
                  first
                  | exact ih27 _ (by omega) (y + 1) c3 _ _ (by omega) (by omega) (by rw [ec3]; exact or_eq (a := c3) (b := 0) (by omega) (by omega) |>.trans (by rw [Nat.or_zero])) hc3 (by show c3 = stK f a y (fN (fun b m => stK f a b m) c2 y); rw [← efo3, stK, if_neg hbt]) rfl
                  | (have h2 := two_lt (hr a y (by omega) (by omega))
                     exact ih27 _ (by omega) (y + 1) (c3 ||| 2 ^ f a y) _ _ (by omega) (by omega) (by rw [ec3, shl_eq (by have := hr a y (by omega) (by omega); omega), or_eq (by omega) (by omega)]) (or_lt hc3 h2) (by show c3 ||| 2 ^ f a y = stK f a y (fN (fun b m => stK f a b m) c2 y); rw [← efo3, stK, if_pos hbt]) rfl)
                · have hbt : c3.testBit a = true ∧ c3.testBit y = true := by
                    rw [hb1] at c46; rw [hb2] at c56
                    constructor
                    · by_cases q : c3.testBit a = true; exact q; rw [if_neg q] at c46; omega
                    · by_cases q : c3.testBit y = true; exact q; rw [if_neg q] at c56; omega
                  refine go_iconst (q := 60) dX7_closureOf_59 rfl ?_
                  refine go_aload_n (j := 0) (q := 61) rfl rfl dX7_closureOf_60 rfl ?_
                  refine go_iload (j := 4) (q := 63) rfl dX7_closureOf_61 rfl ?_
                  refine go_iload (j := 5) (q := 65) rfl dX7_closureOf_63 rfl ?_
                  refine go_callVi (as := [_, _, _]) (As := [_, _]) (rest := [_, _]) (n := 2) (q := 68) dX7_closureOf_65 lk_X7_67 (ci := 7) (N := 16) (T := TX7) rfl (by first | assumption | rfl) rfl rfl (by decide +kernel) rfl ⟨by decide, by decide⟩ ⟨rfl, rfl⟩ (Nat.le_of_ble_eq_true rfl) (em_times hT (x := a) (y := y) ea ey (by omega) (by omega)) rfl (fun x65 w65 h65 => ?_)
                  obtain ⟨rfl, rfl⟩ := h65
                  refine go_ishl (q := 69) dX7_closureOf_68 rfl ?_
                  refine go_goto (q := 73) dX7_closureOf_69 (by decide) ?_
                  refine go_ior (q := 74) dX7_closureOf_73 rfl ?_
                  refine go_istore_n (j := 2) (q := 75) (ls2 := [_, _, _, _, _, _]) rfl (by decide) rfl rfl dX7_closureOf_74 rfl ?_
                  refine go_iinc (j := 5) (q := 78) (ls2 := [_, _, _, _, _, _]) rfl (by decide) rfl rfl dX7_closureOf_75 rfl ?_
                  refine go_goto (q := 27) dX7_closureOf_78 (by decide) ?_
                  first
                  | exact ih27 _ (by omega) (y + 1) c3 _ _ (by omega) (by omega) (by rw [ec3]; exact or_eq (a := c3) (b := 0) (by omega) (by omega) |>.trans (by rw [Nat.or_zero])) hc3 (by show c3 = stK f a y (fN (fun b m => stK f a b m) c2 y); rw [← efo3, stK, if_neg hbt]) rfl
                  | (have h2 := two_lt (hr a y (by omega) (by omega))
                     exact ih27 _ (by omega) (y + 1) (c3 ||| 2 ^ f a y) _ _ (by omega) (by omega) (by rw [ec3, shl_eq (by have := hr a y (by omega) (by omega); omega), or_eq (by omega) (by omega)]) (or_lt hc3 h2) (by show c3 ||| 2 ^ f a y = stK f a y (fN (fun b m => stK f a b m) c2 y); rw [← efo3, stK, if_pos hbt]) rfl)
          exact lp27 _ 0 c2 0 _ rfl (by omega) ec2 hc2 rfl rfl
      exact lp13 _ 0 c 0 _ _ rfl (by omega) ec hc rfl rfl
  exact lp4 _ 0 x 0 _ _ _ rfl (by omega) ex hx rfl rfl
theorem em12 (hP : PMW w W) {x : Int} (hx : rng x) : eX7_closure l D ck ad shA [vR 45, vI x] w (Pi (MR w (op12 W x))) := by
  have hT : TMv (w 46) (wN W) (wF W) := hP.1.1
  have hn := hT.2.1
  have g0 := hT.1
  have h64 : 2 ^ wN W ≤ 2 ^ 6 := Nat.pow_le_pow_right (by decide) hn.2
  have h1p := Nat.one_le_two_pow (n := wN W)
  refine ev_of_goK (own := RX7) (ls := [some (vR 45), some (vI x)]) (by decide +kernel) rfl rfl (Nat.le_of_ble_eq_true rfl) rkI ?_
  intro K hK
  refine go_iload_n (j := 1) (q := 1) rfl rfl dX7_closure_0 rfl ?_
  refine go_iconst (q := 2) dX7_closure_1 rfl ?_
  refine go_iconst (q := 3) dX7_closure_2 rfl ?_
  refine go_aload_n (j := 0) (q := 4) rfl rfl dX7_closure_3 rfl ?_
  refine go_getR (C0 := RX7) (T := TX7) (N := 16) (ci := 7) (i := 0) (q := 7) rfl igX7 (by first | assumption | rfl) (by decide) fl_X7_7 rfl dX7_closure_4 rfl ?_
  refine go_iconst (q := 8) dX7_closure_7 rfl ?_
  refine go_iald (j := 0) (q := 9) (by first | assumption | rfl) (wr_eq (by omega)) (by omega) dX7_closure_8 rfl ?_
  refine go_ishl (q := 10) dX7_closure_9 rfl ?_
  rw [g0, shl_eq (by omega)]
  refine go_iconst (q := 11) dX7_closure_10 rfl ?_
  refine go_isub (q := 12) dX7_closure_11 rfl ?_
  refine go_callSz (as := [_, _, _]) (rest := []) (n := 3) (q := 15) dX7_closure_12 lk_X7_35 rfl (by decide +kernel) rfl ⟨by decide, by decide⟩ ⟨rfl, rfl⟩ (Nat.le_of_ble_eq_true rfl) (em_within (by omega)) rfl (fun w12 h12 => ?_) (fun w12 h12 => ?_)
  · obtain ⟨rfl, h12⟩ := h12
    refine go_if_eqF (q := 18) (t := 26) dX7_closure_15 rfl (by decide) (by decide) ?_
    refine go_aload_n (j := 0) (q := 19) rfl rfl dX7_closure_18 rfl ?_
    refine go_iload_n (j := 1) (q := 20) rfl rfl dX7_closure_19 rfl ?_
    refine go_callVi (as := [_, _]) (As := [_]) (rest := []) (n := 1) (q := 23) dX7_closure_20 lk_X7_106 (ci := 7) (N := 16) (T := TX7) rfl (by first | assumption | rfl) rfl rfl (by decide +kernel) rfl ⟨by decide, by decide⟩ ⟨rfl, rfl⟩ (Nat.le_of_ble_eq_true rfl) (em_closureOf hT (x := x.toNat) (by omega) (by omega)) rfl (fun x20 w20 h20 => ?_)
    obtain ⟨rfl, rfl⟩ := h20
    refine go_goto (q := 28) dX7_closure_23 (by decide) ?_
    refine go_iret dX7_closure_28 ?_
    subst hK
    unfold op12
    first
    | (rw [cif_t (by omega)]; exact ⟨_, rfl, rfl, hP, fun c k _ => rfl⟩)
    | (rw [cif_f (by omega)]; exact ⟨_, rfl, rfl, hP, fun c k _ => rfl⟩)
  · obtain ⟨rfl, h12⟩ := h12
    refine go_if_eqT (t := 26) dX7_closure_15 (by decide) (by decide) ?_
    refine go_bipush (q := 28) rfl dX7_closure_26 rfl ?_
    refine go_iret dX7_closure_28 ?_
    subst hK
    unfold op12
    first
    | (rw [cif_t (by omega)]; exact ⟨_, rfl, rfl, hP, fun c k _ => rfl⟩)
    | (rw [cif_f (by omega)]; exact ⟨_, rfl, rfl, hP, fun c k _ => rfl⟩)
theorem em_fewestGenerators (hT : TMv (w 46) n f) : eX7_fewestGenerators l D ck ad shA [vR 45] w (Pi fun v w1 => v = (lgF n f (2 ^ n) : Int) ∧ w = w1) := by
  have hn := hT.2.1
  have g0 := hT.1
  have hr : ∀ i j, i < n → j < n → f i j < n := fun i j hi hj => (hT.2.2 i j hi hj).2
  have h64 : 2 ^ n ≤ 2 ^ 6 := Nat.pow_le_pow_right (by decide) hn.2
  have h2p : 2 ≤ 2 ^ n := by
    have := Nat.pow_le_pow_right (n := 2) (by decide) hn.1; omega
  have hcl : ∀ x, x < 2 ^ n → cloT n f x < 2 ^ n := fun x hx => itr_lt (fun m hm => rnd2_lt (stK_lt hr) hm) hx n
  refine ev_of_goK (own := RX7) (ls := [some (vR 45), none, none, none]) (by decide +kernel) rfl rfl (Nat.le_of_ble_eq_true rfl) rkI ?_
  intro K hK
  refine go_iconst (q := 1) dX7_fewestGenerators_0 rfl ?_
  refine go_aload_n (j := 0) (q := 2) rfl rfl dX7_fewestGenerators_1 rfl ?_
  refine go_getR (C0 := RX7) (T := TX7) (N := 16) (ci := 7) (i := 0) (q := 5) rfl igX7 (by first | assumption | rfl) (by decide) fl_X7_7 rfl dX7_fewestGenerators_2 rfl ?_
  refine go_iconst (q := 6) dX7_fewestGenerators_5 rfl ?_
  refine go_iald (j := 0) (q := 7) (by first | assumption | rfl) (wr_eq (by omega)) (by omega) dX7_fewestGenerators_6 rfl ?_
  refine go_ishl (q := 8) dX7_fewestGenerators_7 rfl ?_
  rw [g0, shl_eq (by omega)]
  refine go_iconst (q := 9) dX7_fewestGenerators_8 rfl ?_
  refine go_isub (q := 10) dX7_fewestGenerators_9 rfl ?_
  refine go_istore_n (j := 1) (q := 11) (ls2 := [_, _, _, _]) rfl (by decide) rfl rfl dX7_fewestGenerators_10 rfl ?_
  refine go_aload_n (j := 0) (q := 12) rfl rfl dX7_fewestGenerators_11 rfl ?_
  refine go_getR (C0 := RX7) (T := TX7) (N := 16) (ci := 7) (i := 0) (q := 15) rfl igX7 (by first | assumption | rfl) (by decide) fl_X7_7 rfl dX7_fewestGenerators_12 rfl ?_
  refine go_iconst (q := 16) dX7_fewestGenerators_15 rfl ?_
  refine go_iald (j := 0) (q := 17) (by first | assumption | rfl) (wr_eq (by omega)) (by omega) dX7_fewestGenerators_16 rfl ?_
  refine go_istore_n (j := 2) (q := 18) (ls2 := [_, _, _, _]) rfl (by decide) rfl rfl dX7_fewestGenerators_17 rfl ?_
  refine go_iconst (q := 19) dX7_fewestGenerators_18 rfl ?_
  refine go_istore_n (j := 3) (q := 20) (ls2 := [_, _, _, _]) rfl (by decide) rfl rfl dX7_fewestGenerators_19 rfl ?_
  have lp20 : ∀ (m20 : Nat) (z a : Nat) (zi ai : Int) (ez : zi = z) (hz : 1 ≤ z ∧ z ≤ 2 ^ n) (ea : a = lgF n f z) (eai : ai = a) (hab : a ≤ n), m20 = 2 ^ n - z → gX7_fewestGenerators l D ck ad shA 20 [some (vR 45), (some (vI (((2 ^ n : Nat) : Int) - 1))), some (vI ai), some (vI zi)] [] w K := by
    intro m20
    induction m20 using Nat.strongRecOn with
    | _ m20 ih20 =>
    intro z a zi ai ez hz ea eai hab em20
    refine go_iload_n (j := 3) (q := 21) rfl rfl dX7_fewestGenerators_20 rfl ?_
    refine go_iload_n (j := 1) (q := 22) rfl rfl dX7_fewestGenerators_21 rfl ?_
    refine go_icmp_gt2 (q := 25) (t := 57) dX7_fewestGenerators_22 (by decide) rfl (by omega) (fun c22 => ?_) (fun c22 => ?_)
    · refine go_iload_n (j := 2) (q := 58) rfl rfl dX7_fewestGenerators_57 rfl ?_
      refine go_iret dX7_fewestGenerators_58 ?_
      subst hK
      exact ⟨_, rfl, by rw [eai, ea, show z = 2 ^ n by omega], rfl⟩
    · have hpz := (pc_full (N := 6) (a := z) (by decide) (by omega)).1
      have hcz := hcl z (by omega)
      refine go_iload_n (j := 3) (q := 26) rfl rfl dX7_fewestGenerators_25 rfl ?_
      refine go_callSi (as := [_]) (rest := []) (n := 1) (q := 29) dX7_fewestGenerators_26 lk_X7_71 rfl (by decide +kernel) rfl ⟨by decide, by decide⟩ ⟨rfl, rfl⟩ (Nat.le_of_ble_eq_true rfl) (em_bits (m := z) ez (by omega)) rfl (fun x26 w26 h26 => ?_)
      obtain ⟨rfl, rfl⟩ := h26
      refine go_iload_n (j := 2) (q := 30) rfl rfl dX7_fewestGenerators_29 rfl ?_
      refine go_icmp_ge2 (q := 33) (t := 49) dX7_fewestGenerators_30 (by decide) rfl (by omega) (fun c30 => ?_) (fun c30 => ?_)
      · refine go_iload_n (j := 2) (q := 50) rfl rfl dX7_fewestGenerators_49 rfl ?_
        refine go_istore_n (j := 2) (q := 51) (ls2 := [_, _, _, _]) rfl (by decide) rfl rfl dX7_fewestGenerators_50 rfl ?_
        refine go_iinc (j := 3) (q := 54) (ls2 := [_, _, _, _]) rfl (by decide) rfl rfl dX7_fewestGenerators_51 rfl ?_
        refine go_goto (q := 20) dX7_fewestGenerators_54 (by decide) ?_
        first
        | exact ih20 _ (by omega) (z + 1) (pc z) _ _ (by omega) (by omega) (by show _ = (if cloT n f z = 2 ^ n - 1 then (if lgF n f z ≤ pc z then lgF n f z else pc z) else lgF n f z); rw [← ea, if_pos (by omega), if_neg (by omega)]) rfl (by omega) rfl
        | exact ih20 _ (by omega) (z + 1) a _ _ (by omega) (by omega) (by show _ = (if cloT n f z = 2 ^ n - 1 then (if lgF n f z ≤ pc z then lgF n f z else pc z) else lgF n f z); rw [← ea]; by_cases q : cloT n f z = 2 ^ n - 1; rw [if_pos q, if_pos (by omega)]; rw [if_neg q]) eai hab rfl
      · refine go_aload_n (j := 0) (q := 34) rfl rfl dX7_fewestGenerators_33 rfl ?_
        refine go_iload_n (j := 3) (q := 35) rfl rfl dX7_fewestGenerators_34 rfl ?_
        refine go_callVi (as := [_, _]) (As := [_]) (rest := []) (n := 1) (q := 38) dX7_fewestGenerators_35 lk_X7_106 (ci := 7) (N := 16) (T := TX7) rfl (by first | assumption | rfl) rfl rfl (by decide +kernel) rfl ⟨by decide, by decide⟩ ⟨rfl, rfl⟩ (Nat.le_of_ble_eq_true rfl) (em_closureOf hT (x := z) ez (by omega)) rfl (fun x35 w35 h35 => ?_)
        obtain ⟨rfl, rfl⟩ := h35
        refine go_iload_n (j := 1) (q := 39) rfl rfl dX7_fewestGenerators_38 rfl ?_
        refine go_icmp_ne2 (q := 42) (t := 49) dX7_fewestGenerators_39 (by decide) rfl (by omega) (fun c39 => ?_) (fun c39 => ?_)
        · refine go_iload_n (j := 2) (q := 50) rfl rfl dX7_fewestGenerators_49 rfl ?_
          refine go_istore_n (j := 2) (q := 51) (ls2 := [_, _, _, _]) rfl (by decide) rfl rfl dX7_fewestGenerators_50 rfl ?_
          refine go_iinc (j := 3) (q := 54) (ls2 := [_, _, _, _]) rfl (by decide) rfl rfl dX7_fewestGenerators_51 rfl ?_
          refine go_goto (q := 20) dX7_fewestGenerators_54 (by decide) ?_
          first
          | exact ih20 _ (by omega) (z + 1) (pc z) _ _ (by omega) (by omega) (by show _ = (if cloT n f z = 2 ^ n - 1 then (if lgF n f z ≤ pc z then lgF n f z else pc z) else lgF n f z); rw [← ea, if_pos (by omega), if_neg (by omega)]) rfl (by omega) rfl
          | exact ih20 _ (by omega) (z + 1) a _ _ (by omega) (by omega) (by show _ = (if cloT n f z = 2 ^ n - 1 then (if lgF n f z ≤ pc z then lgF n f z else pc z) else lgF n f z); rw [← ea]; by_cases q : cloT n f z = 2 ^ n - 1; rw [if_pos q, if_pos (by omega)]; rw [if_neg q]) eai hab rfl
        · refine go_iload_n (j := 3) (q := 43) rfl rfl dX7_fewestGenerators_42 rfl ?_
          refine go_callSi (as := [_]) (rest := []) (n := 1) (q := 46) dX7_fewestGenerators_43 lk_X7_71 rfl (by decide +kernel) rfl ⟨by decide, by decide⟩ ⟨rfl, rfl⟩ (Nat.le_of_ble_eq_true rfl) (em_bits (m := z) ez (by omega)) rfl (fun x43 w43 h43 => ?_)
          obtain ⟨rfl, rfl⟩ := h43
          refine go_goto (q := 50) dX7_fewestGenerators_46 (by decide) ?_
          refine go_istore_n (j := 2) (q := 51) (ls2 := [_, _, _, _]) rfl (by decide) rfl rfl dX7_fewestGenerators_50 rfl ?_
          refine go_iinc (j := 3) (q := 54) (ls2 := [_, _, _, _]) rfl (by decide) rfl rfl dX7_fewestGenerators_51 rfl ?_
          refine go_goto (q := 20) dX7_fewestGenerators_54 (by decide) ?_
          first
          | exact ih20 _ (by omega) (z + 1) (pc z) _ _ (by omega) (by omega) (by show _ = (if cloT n f z = 2 ^ n - 1 then (if lgF n f z ≤ pc z then lgF n f z else pc z) else lgF n f z); rw [← ea, if_pos (by omega), if_neg (by omega)]) rfl (by omega) rfl
          | exact ih20 _ (by omega) (z + 1) a _ _ (by omega) (by omega) (by show _ = (if cloT n f z = 2 ^ n - 1 then (if lgF n f z ≤ pc z then lgF n f z else pc z) else lgF n f z); rw [← ea]; by_cases q : cloT n f z = 2 ^ n - 1; rw [if_pos q, if_pos (by omega)]; rw [if_neg q]) eai hab rfl
  exact lp20 _ 1 n _ _ rfl (by omega) (by show n = (if cloT n f 0 = 2 ^ n - 1 then _ else lgF n f 0); rw [if_neg (by unfold cloT; rw [clo_0]; omega)]; rfl) g0 (Nat.le_refl n) rfl
theorem em13 (hP : PMW w W) : eX7_generators l D ck ad shA [vR 45] w (Pi (MR w (op13 W))) := by
  refine ev_of_goK (own := RX7) (ls := [some (vR 45)]) (by decide +kernel) rfl rfl (Nat.le_of_ble_eq_true rfl) rkI ?_
  intro K hK
  refine go_aload_n (j := 0) (q := 1) rfl rfl dX7_generators_0 rfl ?_
  refine go_callVi (as := [_]) (As := []) (rest := []) (n := 0) (q := 4) dX7_generators_1 lk_X7_109 (ci := 7) (N := 16) (T := TX7) rfl (by first | assumption | rfl) rfl rfl (by decide +kernel) rfl ⟨by decide, by decide⟩ ⟨rfl, rfl⟩ (Nat.le_of_ble_eq_true rfl) (em_fewestGenerators hP.1.1) rfl (fun x1 w1 h1 => ?_)
  obtain ⟨rfl, rfl⟩ := h1
  refine go_iret dX7_generators_4 ?_
  subst hK; exact ⟨_, rfl, rfl, hP, fun c k _ => rfl⟩
theorem em_aloneAll {N : Nat} {Ni : Int} (eN : Ni = N) (hN : N ≤ 7) : eX7_aloneAll l D ck ad shA [vR 45, vI Ni] w (Pv fun w1 => (∀ i, i < N → w1 51 i = (i : Int)) ∧ ∀ c k, c ≠ 51 → w1 c k = w c k) := by
  refine ev_of_goK (own := RX7) (ls := [some (vR 45), some (vI Ni), none]) (by decide +kernel) rfl rfl (Nat.le_of_ble_eq_true rfl) rkV ?_
  intro K hK
  refine go_iconst (q := 1) dX7_aloneAll_0 rfl ?_
  refine go_istore_n (j := 2) (q := 2) (ls2 := [_, _, _]) rfl (by decide) rfl rfl dX7_aloneAll_1 rfl ?_
  have lp2 : ∀ (m2 : Nat) (k : Nat) (ki : Int) (w1 : Mem) (ek : ki = k) (hk : k ≤ N) (hi : ∀ i, i < k → w1 51 i = (i : Int)) (hf : ∀ c k, c ≠ 51 → w1 c k = w c k), m2 = N - k → gX7_aloneAll l D ck ad shA 2 [some (vR 45), some (vI Ni), some (vI ki)] [] w1 K := by
    intro m2
    induction m2 using Nat.strongRecOn with
    | _ m2 ih2 =>
    intro k ki w1 ek hk hi hf em2
    refine go_iload_n (j := 2) (q := 3) rfl rfl dX7_aloneAll_2 rfl ?_
    refine go_iload_n (j := 1) (q := 4) rfl rfl dX7_aloneAll_3 rfl ?_
    refine go_icmp_ge2 (q := 7) (t := 20) dX7_aloneAll_4 (by decide) rfl (by omega) (fun c4 => ?_) (fun c4 => ?_)
    · refine go_vret dX7_aloneAll_20 ?_
      subst hK; exact ⟨rfl, fun i h => hi i (by omega), hf⟩
    · refine go_aload_n (j := 0) (q := 8) rfl rfl dX7_aloneAll_7 rfl ?_
      refine go_getR (C0 := RX7) (T := TX7) (N := 16) (ci := 7) (i := 8) (q := 11) rfl igX7 (by first | assumption | rfl) (by decide) fl_X7_25 rfl dX7_aloneAll_8 rfl ?_
      refine go_iload_n (j := 2) (q := 12) rfl rfl dX7_aloneAll_11 rfl ?_
      refine go_iload_n (j := 2) (q := 13) rfl rfl dX7_aloneAll_12 rfl ?_
      refine go_iast (j := k) (q := 14) (by first | assumption | rfl) (wr_eq (by omega)) (by omega) dX7_aloneAll_13 rfl ?_
      refine go_iinc (j := 2) (q := 17) (ls2 := [_, _, _]) rfl (by decide) rfl rfl dX7_aloneAll_14 rfl ?_
      refine go_goto (q := 2) dX7_aloneAll_17 (by decide) ?_
      exact ih2 _ (by omega) (k + 1) _ _ (by omega) (by omega) (by
        intro i h
        by_cases q : i = k
        · subst q; rw [mup_eq]; exact ek
        · rw [mup_ne (by omega)]; exact hi i (by omega)) (fun c k h => by rw [mup_ne (Or.inl h)]; exact hf c k h) rfl
  exact lp2 _ 0 0 _ rfl (by omega) (fun i h => absurd h (Nat.not_lt_zero i)) (fun c k h => rfl) rfl
theorem em_joins {N a b : Nat} {Ni ai bi : Int} {lab : Nat → Nat} (eN : Ni = N) (hN : N ≤ 7) (ea : ai = a) (eb : bi = b) (ha : a < N) (hb : b < N) (hlb : ∀ i, i < N → lab i ≤ i) (hw : ∀ i, i < N → w 51 i = (lab i : Int)) :
    eX7_joins l D ck ad shA [vR 45, vI ai, vI bi, vI Ni] w (Pv fun w1 => (∀ i, i < N → w1 51 i = (jn lab a b i : Int)) ∧ ∀ c k, c ≠ 51 → w1 c k = w c k) := by
  have wa := hw a ha
  have wb := hw b hb
  have la := hlb a ha
  have lb := hlb b hb
  refine ev_of_goK (own := RX7) (ls := [some (vR 45), some (vI ai), some (vI bi), some (vI Ni), none, none, none]) (by decide +kernel) rfl rfl (Nat.le_of_ble_eq_true rfl) rkV ?_
  intro K hK
  have key : ∀ (oi ui : Int), oi = (min (lab a) (lab b) : Nat) → ui = (max (lab a) (lab b) : Nat) → gX7_joins l D ck ad shA 64 [some (vR 45), some (vI ai), some (vI bi), some (vI Ni), some (vI oi), some (vI ui), none] [] w K := by
    intro oi ui eo eu
    refine go_iconst (q := 65) dX7_joins_64 rfl ?_
    refine go_istore (j := 6) (q := 67) (ls2 := [_, _, _, _, _, _, _]) (by decide) rfl rfl dX7_joins_65 rfl ?_
    have lp67 : ∀ (m67 : Nat) (k : Nat) (ki : Int) (w1 : Mem) (ek : ki = k) (hk : k ≤ N) (hi : ∀ i, i < k → w1 51 i = (jn lab a b i : Int)) (ho : ∀ i, k ≤ i → i < N → w1 51 i = (lab i : Int)) (hf : ∀ c k, c ≠ 51 → w1 c k = w c k), m67 = N - k → gX7_joins l D ck ad shA 67 [some (vR 45), some (vI ai), some (vI bi), some (vI Ni), some (vI oi), some (vI ui), some (vI ki)] [] w1 K := by
      intro m67
      induction m67 using Nat.strongRecOn with
      | _ m67 ih67 =>
      intro k ki w1 ek hk hi ho hf em67
      refine go_iload (j := 6) (q := 69) rfl dX7_joins_67 rfl ?_
      refine go_iload_n (j := 3) (q := 70) rfl rfl dX7_joins_69 rfl ?_
      refine go_icmp_ge2 (q := 73) (t := 110) dX7_joins_70 (by decide) rfl (by omega) (fun c70 => ?_) (fun c70 => ?_)
      · refine go_vret dX7_joins_110 ?_
        subst hK; exact ⟨rfl, fun i h => hi i (by omega), hf⟩
      · have ok := ho k (Nat.le_refl k) (by omega)
        have lk := hlb k (by omega)
        refine go_aload_n (j := 0) (q := 74) rfl rfl dX7_joins_73 rfl ?_
        refine go_getR (C0 := RX7) (T := TX7) (N := 16) (ci := 7) (i := 8) (q := 77) rfl igX7 (by first | assumption | rfl) (by decide) fl_X7_25 rfl dX7_joins_74 rfl ?_
        refine go_iload (j := 6) (q := 79) rfl dX7_joins_77 rfl ?_
        refine go_aload_n (j := 0) (q := 80) rfl rfl dX7_joins_79 rfl ?_
        refine go_getR (C0 := RX7) (T := TX7) (N := 16) (ci := 7) (i := 8) (q := 83) rfl igX7 (by first | assumption | rfl) (by decide) fl_X7_25 rfl dX7_joins_80 rfl ?_
        refine go_iload (j := 6) (q := 85) rfl dX7_joins_83 rfl ?_
        refine go_iald (j := k) (q := 86) (by first | assumption | rfl) (wr_eq (by omega)) (by omega) dX7_joins_85 rfl ?_
        refine go_iload (j := 5) (q := 88) rfl dX7_joins_86 rfl ?_
        refine go_icmp_ne2 (q := 91) (t := 96) dX7_joins_88 (by decide) rfl (by omega) (fun c88 => ?_) (fun c88 => ?_)
        · have q88n : ¬ lab k = max (lab a) (lab b) := by omega
          refine go_aload_n (j := 0) (q := 97) rfl rfl dX7_joins_96 rfl ?_
          refine go_getR (C0 := RX7) (T := TX7) (N := 16) (ci := 7) (i := 8) (q := 100) rfl igX7 (by first | assumption | rfl) (by decide) fl_X7_25 rfl dX7_joins_97 rfl ?_
          refine go_iload (j := 6) (q := 102) rfl dX7_joins_100 rfl ?_
          refine go_iald (j := k) (q := 103) (by first | assumption | rfl) (wr_eq (by omega)) (by omega) dX7_joins_102 rfl ?_
          refine go_iast (j := k) (q := 104) (by first | assumption | rfl) (wr_eq (by omega)) (by omega) dX7_joins_103 rfl ?_
          refine go_iinc (j := 6) (q := 107) (ls2 := [_, _, _, _, _, _, _]) rfl (by decide) rfl rfl dX7_joins_104 rfl ?_
          refine go_goto (q := 67) dX7_joins_107 (by decide) ?_
          first
          | (have zq := q88p
             exact ih67 _ (by omega) (k + 1) _ _ (by omega) (by omega) (by
              intro i h
              by_cases q : i = k
              · subst q; rw [mup_eq]; unfold jn; rw [if_pos q88p]; exact eo
              · rw [mup_ne (by omega)]; exact hi i (by omega)) (fun i h h2 => by rw [mup_ne (by omega)]; exact ho i (by omega) h2) (fun c k h => by rw [mup_ne (Or.inl h)]; exact hf c k h) rfl)
          | (have zq := q88n
             exact ih67 _ (by omega) (k + 1) _ _ (by omega) (by omega) (by
              intro i h
              by_cases q : i = k
              · subst q; rw [mup_eq]; unfold jn; rw [if_neg q88n]; exact ok
              · rw [mup_ne (by omega)]; exact hi i (by omega)) (fun i h h2 => by rw [mup_ne (by omega)]; exact ho i (by omega) h2) (fun c k h => by rw [mup_ne (Or.inl h)]; exact hf c k h) rfl)
        · have q88p : lab k = max (lab a) (lab b) := by omega
          refine go_iload (j := 4) (q := 93) rfl dX7_joins_91 rfl ?_
          refine go_goto (q := 103) dX7_joins_93 (by decide) ?_
          refine go_iast (j := k) (q := 104) (by first | assumption | rfl) (wr_eq (by omega)) (by omega) dX7_joins_103 rfl ?_
          refine go_iinc (j := 6) (q := 107) (ls2 := [_, _, _, _, _, _, _]) rfl (by decide) rfl rfl dX7_joins_104 rfl ?_
          refine go_goto (q := 67) dX7_joins_107 (by decide) ?_
          first
          | (have zq := q88p
             exact ih67 _ (by omega) (k + 1) _ _ (by omega) (by omega) (by
              intro i h
              by_cases q : i = k
              · subst q; rw [mup_eq]; unfold jn; rw [if_pos q88p]; exact eo
              · rw [mup_ne (by omega)]; exact hi i (by omega)) (fun i h h2 => by rw [mup_ne (by omega)]; exact ho i (by omega) h2) (fun c k h => by rw [mup_ne (Or.inl h)]; exact hf c k h) rfl)
          | (have zq := q88n
             exact ih67 _ (by omega) (k + 1) _ _ (by omega) (by omega) (by
              intro i h
              by_cases q : i = k
              · subst q; rw [mup_eq]; unfold jn; rw [if_neg q88n]; exact ok
              · rw [mup_ne (by omega)]; exact hi i (by omega)) (fun i h h2 => by rw [mup_ne (by omega)]; exact ho i (by omega) h2) (fun c k h => by rw [mup_ne (Or.inl h)]; exact hf c k h) rfl)
    exact lp67 _ 0 0 _ rfl (by omega) (fun i h => absurd h (Nat.not_lt_zero i)) (fun i h h2 => hw i h2) (fun c k h => rfl) rfl
  refine go_aload_n (j := 0) (q := 1) rfl rfl dX7_joins_0 rfl ?_
  refine go_getR (C0 := RX7) (T := TX7) (N := 16) (ci := 7) (i := 8) (q := 4) rfl igX7 (by first | assumption | rfl) (by decide) fl_X7_25 rfl dX7_joins_1 rfl ?_
  refine go_iload_n (j := 1) (q := 5) rfl rfl dX7_joins_4 rfl ?_
  refine go_iald (j := a) (q := 6) (by first | assumption | rfl) (wr_eq (by omega)) (by omega) dX7_joins_5 rfl ?_
  refine go_aload_n (j := 0) (q := 7) rfl rfl dX7_joins_6 rfl ?_
  refine go_getR (C0 := RX7) (T := TX7) (N := 16) (ci := 7) (i := 8) (q := 10) rfl igX7 (by first | assumption | rfl) (by decide) fl_X7_25 rfl dX7_joins_7 rfl ?_
  refine go_iload_n (j := 2) (q := 11) rfl rfl dX7_joins_10 rfl ?_
  refine go_iald (j := b) (q := 12) (by first | assumption | rfl) (wr_eq (by omega)) (by omega) dX7_joins_11 rfl ?_
  refine go_icmp_ge2 (q := 15) (t := 24) dX7_joins_12 (by decide) rfl (by omega) (fun c12 => ?_) (fun c12 => ?_)
  · refine go_aload_n (j := 0) (q := 25) rfl rfl dX7_joins_24 rfl ?_
    refine go_getR (C0 := RX7) (T := TX7) (N := 16) (ci := 7) (i := 8) (q := 28) rfl igX7 (by first | assumption | rfl) (by decide) fl_X7_25 rfl dX7_joins_25 rfl ?_
    refine go_iload_n (j := 2) (q := 29) rfl rfl dX7_joins_28 rfl ?_
    refine go_iald (j := b) (q := 30) (by first | assumption | rfl) (wr_eq (by omega)) (by omega) dX7_joins_29 rfl ?_
    refine go_istore (j := 4) (q := 32) (ls2 := [_, _, _, _, _, _, _]) (by decide) rfl rfl dX7_joins_30 rfl ?_
    refine go_aload_n (j := 0) (q := 33) rfl rfl dX7_joins_32 rfl ?_
    refine go_getR (C0 := RX7) (T := TX7) (N := 16) (ci := 7) (i := 8) (q := 36) rfl igX7 (by first | assumption | rfl) (by decide) fl_X7_25 rfl dX7_joins_33 rfl ?_
    refine go_iload_n (j := 1) (q := 37) rfl rfl dX7_joins_36 rfl ?_
    refine go_iald (j := a) (q := 38) (by first | assumption | rfl) (wr_eq (by omega)) (by omega) dX7_joins_37 rfl ?_
    refine go_aload_n (j := 0) (q := 39) rfl rfl dX7_joins_38 rfl ?_
    refine go_getR (C0 := RX7) (T := TX7) (N := 16) (ci := 7) (i := 8) (q := 42) rfl igX7 (by first | assumption | rfl) (by decide) fl_X7_25 rfl dX7_joins_39 rfl ?_
    refine go_iload_n (j := 2) (q := 43) rfl rfl dX7_joins_42 rfl ?_
    refine go_iald (j := b) (q := 44) (by first | assumption | rfl) (wr_eq (by omega)) (by omega) dX7_joins_43 rfl ?_
    refine go_icmp_ge2 (q := 47) (t := 56) dX7_joins_44 (by decide) rfl (by omega) (fun c44 => ?_) (fun c44 => ?_)
    · refine go_aload_n (j := 0) (q := 57) rfl rfl dX7_joins_56 rfl ?_
      refine go_getR (C0 := RX7) (T := TX7) (N := 16) (ci := 7) (i := 8) (q := 60) rfl igX7 (by first | assumption | rfl) (by decide) fl_X7_25 rfl dX7_joins_57 rfl ?_
      refine go_iload_n (j := 1) (q := 61) rfl rfl dX7_joins_60 rfl ?_
      refine go_iald (j := a) (q := 62) (by first | assumption | rfl) (wr_eq (by omega)) (by omega) dX7_joins_61 rfl ?_
      refine go_istore (j := 5) (q := 64) (ls2 := [_, _, _, _, _, _, _]) (by decide) rfl rfl dX7_joins_62 rfl ?_
      exact key _ _ (by omega) (by omega)
    · refine go_aload_n (j := 0) (q := 48) rfl rfl dX7_joins_47 rfl ?_
      refine go_getR (C0 := RX7) (T := TX7) (N := 16) (ci := 7) (i := 8) (q := 51) rfl igX7 (by first | assumption | rfl) (by decide) fl_X7_25 rfl dX7_joins_48 rfl ?_
      refine go_iload_n (j := 2) (q := 52) rfl rfl dX7_joins_51 rfl ?_
      refine go_iald (j := b) (q := 53) (by first | assumption | rfl) (wr_eq (by omega)) (by omega) dX7_joins_52 rfl ?_
      refine go_goto (q := 62) dX7_joins_53 (by decide) ?_
      refine go_istore (j := 5) (q := 64) (ls2 := [_, _, _, _, _, _, _]) (by decide) rfl rfl dX7_joins_62 rfl ?_
      exact key _ _ (by omega) (by omega)
  · refine go_aload_n (j := 0) (q := 16) rfl rfl dX7_joins_15 rfl ?_
    refine go_getR (C0 := RX7) (T := TX7) (N := 16) (ci := 7) (i := 8) (q := 19) rfl igX7 (by first | assumption | rfl) (by decide) fl_X7_25 rfl dX7_joins_16 rfl ?_
    refine go_iload_n (j := 1) (q := 20) rfl rfl dX7_joins_19 rfl ?_
    refine go_iald (j := a) (q := 21) (by first | assumption | rfl) (wr_eq (by omega)) (by omega) dX7_joins_20 rfl ?_
    refine go_goto (q := 30) dX7_joins_21 (by decide) ?_
    refine go_istore (j := 4) (q := 32) (ls2 := [_, _, _, _, _, _, _]) (by decide) rfl rfl dX7_joins_30 rfl ?_
    refine go_aload_n (j := 0) (q := 33) rfl rfl dX7_joins_32 rfl ?_
    refine go_getR (C0 := RX7) (T := TX7) (N := 16) (ci := 7) (i := 8) (q := 36) rfl igX7 (by first | assumption | rfl) (by decide) fl_X7_25 rfl dX7_joins_33 rfl ?_
    refine go_iload_n (j := 1) (q := 37) rfl rfl dX7_joins_36 rfl ?_
    refine go_iald (j := a) (q := 38) (by first | assumption | rfl) (wr_eq (by omega)) (by omega) dX7_joins_37 rfl ?_
    refine go_aload_n (j := 0) (q := 39) rfl rfl dX7_joins_38 rfl ?_
    refine go_getR (C0 := RX7) (T := TX7) (N := 16) (ci := 7) (i := 8) (q := 42) rfl igX7 (by first | assumption | rfl) (by decide) fl_X7_25 rfl dX7_joins_39 rfl ?_
    refine go_iload_n (j := 2) (q := 43) rfl rfl dX7_joins_42 rfl ?_
    refine go_iald (j := b) (q := 44) (by first | assumption | rfl) (wr_eq (by omega)) (by omega) dX7_joins_43 rfl ?_
    refine go_icmp_ge2 (q := 47) (t := 56) dX7_joins_44 (by decide) rfl (by omega) (fun c44 => ?_) (fun c44 => ?_)
    · refine go_aload_n (j := 0) (q := 57) rfl rfl dX7_joins_56 rfl ?_
      refine go_getR (C0 := RX7) (T := TX7) (N := 16) (ci := 7) (i := 8) (q := 60) rfl igX7 (by first | assumption | rfl) (by decide) fl_X7_25 rfl dX7_joins_57 rfl ?_
      refine go_iload_n (j := 1) (q := 61) rfl rfl dX7_joins_60 rfl ?_
      refine go_iald (j := a) (q := 62) (by first | assumption | rfl) (wr_eq (by omega)) (by omega) dX7_joins_61 rfl ?_
      refine go_istore (j := 5) (q := 64) (ls2 := [_, _, _, _, _, _, _]) (by decide) rfl rfl dX7_joins_62 rfl ?_
      exact key _ _ (by omega) (by omega)
    · refine go_aload_n (j := 0) (q := 48) rfl rfl dX7_joins_47 rfl ?_
      refine go_getR (C0 := RX7) (T := TX7) (N := 16) (ci := 7) (i := 8) (q := 51) rfl igX7 (by first | assumption | rfl) (by decide) fl_X7_25 rfl dX7_joins_48 rfl ?_
      refine go_iload_n (j := 2) (q := 52) rfl rfl dX7_joins_51 rfl ?_
      refine go_iald (j := b) (q := 53) (by first | assumption | rfl) (wr_eq (by omega)) (by omega) dX7_joins_52 rfl ?_
      refine go_goto (q := 62) dX7_joins_53 (by decide) ?_
      refine go_istore (j := 5) (q := 64) (ls2 := [_, _, _, _, _, _, _]) (by decide) rfl rfl dX7_joins_62 rfl ?_
      exact key _ _ (by omega) (by omega)
theorem em_partsMany {N : Nat} {Ni : Int} {lab : Nat → Nat} (eN : Ni = N) (hN : N ≤ 7) (hlb : ∀ i, i < N → lab i ≤ i) (hw : ∀ i, i < N → w 51 i = (lab i : Int)) : eX7_partsMany l D ck ad shA [vR 45, vI Ni] w (Pi fun v w1 => v = (cN (fun k => decide (lab k = k)) N : Int) ∧ w = w1) := by
  refine ev_of_goK (own := RX7) (ls := [some (vR 45), some (vI Ni), none, none]) (by decide +kernel) rfl rfl (Nat.le_of_ble_eq_true rfl) rkI ?_
  intro K hK
  refine go_iconst (q := 1) dX7_partsMany_0 rfl ?_
  refine go_istore_n (j := 2) (q := 2) (ls2 := [_, _, _, _]) rfl (by decide) rfl rfl dX7_partsMany_1 rfl ?_
  refine go_iconst (q := 3) dX7_partsMany_2 rfl ?_
  refine go_istore_n (j := 3) (q := 4) (ls2 := [_, _, _, _]) rfl (by decide) rfl rfl dX7_partsMany_3 rfl ?_
  have lp4 : ∀ (m4 : Nat) (k : Nat) (ki ci : Int) (ek : ki = k) (hk : k ≤ N) (ec : ci = (cN (fun k => decide (lab k = k)) k : Nat)), m4 = N - k → gX7_partsMany l D ck ad shA 4 [some (vR 45), some (vI Ni), some (vI ci), some (vI ki)] [] w K := by
    intro m4
    induction m4 using Nat.strongRecOn with
    | _ m4 ih4 =>
    intro k ki ci ek hk ec em4
    refine go_iload_n (j := 3) (q := 5) rfl rfl dX7_partsMany_4 rfl ?_
    refine go_iload_n (j := 1) (q := 6) rfl rfl dX7_partsMany_5 rfl ?_
    refine go_icmp_ge2 (q := 9) (t := 33) dX7_partsMany_6 (by decide) rfl (by omega) (fun c6 => ?_) (fun c6 => ?_)
    · refine go_iload_n (j := 2) (q := 34) rfl rfl dX7_partsMany_33 rfl ?_
      refine go_iret dX7_partsMany_34 ?_
      subst hK; exact ⟨_, rfl, by rw [ec, show k = N by omega], rfl⟩
    · have wk := hw k (by omega)
      have lk := hlb k (by omega)
      refine go_iload_n (j := 2) (q := 10) rfl rfl dX7_partsMany_9 rfl ?_
      refine go_aload_n (j := 0) (q := 11) rfl rfl dX7_partsMany_10 rfl ?_
      refine go_getR (C0 := RX7) (T := TX7) (N := 16) (ci := 7) (i := 8) (q := 14) rfl igX7 (by first | assumption | rfl) (by decide) fl_X7_25 rfl dX7_partsMany_11 rfl ?_
      refine go_iload_n (j := 3) (q := 15) rfl rfl dX7_partsMany_14 rfl ?_
      refine go_iald (j := k) (q := 16) (by first | assumption | rfl) (wr_eq (by omega)) (by omega) dX7_partsMany_15 rfl ?_
      refine go_iload_n (j := 3) (q := 17) rfl rfl dX7_partsMany_16 rfl ?_
      refine go_icmp_ne2 (q := 20) (t := 24) dX7_partsMany_17 (by decide) rfl (by omega) (fun c17 => ?_) (fun c17 => ?_)
      · refine go_iconst (q := 25) dX7_partsMany_24 rfl ?_
        refine go_iadd (q := 26) dX7_partsMany_25 rfl ?_
        refine go_istore_n (j := 2) (q := 27) (ls2 := [_, _, _, _]) rfl (by decide) rfl rfl dX7_partsMany_26 rfl ?_
        refine go_iinc (j := 3) (q := 30) (ls2 := [_, _, _, _]) rfl (by decide) rfl rfl dX7_partsMany_27 rfl ?_
        refine go_goto (q := 4) dX7_partsMany_30 (by decide) ?_
        first
        | exact ih4 _ (by omega) (k + 1) _ _ (by omega) (by omega) (by simp only [cN]; rw [if_pos (by simp; omega)]; omega) rfl
        | exact ih4 _ (by omega) (k + 1) _ _ (by omega) (by omega) (by simp only [cN]; rw [if_neg (by simp; omega)]; omega) rfl
      · refine go_iconst (q := 21) dX7_partsMany_20 rfl ?_
        refine go_goto (q := 25) dX7_partsMany_21 (by decide) ?_
        refine go_iadd (q := 26) dX7_partsMany_25 rfl ?_
        refine go_istore_n (j := 2) (q := 27) (ls2 := [_, _, _, _]) rfl (by decide) rfl rfl dX7_partsMany_26 rfl ?_
        refine go_iinc (j := 3) (q := 30) (ls2 := [_, _, _, _]) rfl (by decide) rfl rfl dX7_partsMany_27 rfl ?_
        refine go_goto (q := 4) dX7_partsMany_30 (by decide) ?_
        first
        | exact ih4 _ (by omega) (k + 1) _ _ (by omega) (by omega) (by simp only [cN]; rw [if_pos (by simp; omega)]; omega) rfl
        | exact ih4 _ (by omega) (k + 1) _ _ (by omega) (by omega) (by simp only [cN]; rw [if_neg (by simp; omega)]; omega) rfl
  exact lp4 _ 0 0 0 rfl (by omega) rfl rfl
theorem em_componentsOfTable (hT : TMv (w 46) n f) : eX7_componentsOfTable l D ck ad shA [vR 45] w (Pi fun v w1 => v = ((ccF n f n).1 : Int) ∧ ∀ c k, c ≠ 51 → w1 c k = w c k) := by
  have hn := hT.2.1
  have g0 := hT.1
  have hr : ∀ i j, i < n → j < n → f i j < n := fun i j hi hj => (hT.2.2 i j hi hj).2
  refine ev_of_goK (own := RX7) (ls := [some (vR 45), none, none]) (by decide +kernel) rfl rfl (Nat.le_of_ble_eq_true rfl) rkI ?_
  intro K hK
  refine go_aload_n (j := 0) (q := 1) rfl rfl dX7_componentsOfTable_0 rfl ?_
  refine go_aload_n (j := 0) (q := 2) rfl rfl dX7_componentsOfTable_1 rfl ?_
  refine go_getR (C0 := RX7) (T := TX7) (N := 16) (ci := 7) (i := 0) (q := 5) rfl igX7 (by first | assumption | rfl) (by decide) fl_X7_7 rfl dX7_componentsOfTable_2 rfl ?_
  refine go_iconst (q := 6) dX7_componentsOfTable_5 rfl ?_
  refine go_iald (j := 0) (q := 7) (by first | assumption | rfl) (wr_eq (by omega)) (by omega) dX7_componentsOfTable_6 rfl ?_
  refine go_callVv (as := [_, _]) (As := [_]) (rest := []) (n := 1) (q := 10) dX7_componentsOfTable_7 lk_X7_93 (ci := 7) (N := 16) (T := TX7) rfl (by first | assumption | rfl) rfl rfl (by decide +kernel) rfl ⟨by decide, by decide⟩ ⟨rfl, rfl⟩ (Nat.le_of_ble_eq_true rfl) (em_aloneAll (N := n) g0 (by omega)) rfl (fun w7 h7 => ?_)
  obtain ⟨a7, f7⟩ := h7
  refine go_iconst (q := 11) dX7_componentsOfTable_10 rfl ?_
  refine go_istore_n (j := 1) (q := 12) (ls2 := [_, _, _]) rfl (by decide) rfl rfl dX7_componentsOfTable_11 rfl ?_
  have lp12 : ∀ (m12 : Nat) (x : Nat) (xi : Int) (u : Option MV) (w1 : Mem) (lab : Nat → Nat) (ex : xi = x) (hx : x ≤ n) (hL : Lok (lkT n f) n lab) (hw : ∀ i, i < n → w1 51 i = (lab i : Int)) (hp : ∀ i j, i < x → j < n → lab i = lab (f i j)) (hf : ∀ c k, c ≠ 51 → w1 c k = w c k), m12 = n - x → gX7_componentsOfTable l D ck ad shA 12 [some (vR 45), some (vI xi), u] [] w1 K := by
    intro m12
    induction m12 using Nat.strongRecOn with
    | _ m12 ih12 =>
    intro x xi u w1 lab ex hx hL hw hp hf em12
    have hT1 : TMv (w1 46) n f := TMv_c hT (fun k _ => hf _ _ (by omega))
    have g01 := hT1.1
    refine go_iload_n (j := 1) (q := 13) rfl rfl dX7_componentsOfTable_12 rfl ?_
    refine go_aload_n (j := 0) (q := 14) rfl rfl dX7_componentsOfTable_13 rfl ?_
    refine go_getR (C0 := RX7) (T := TX7) (N := 16) (ci := 7) (i := 0) (q := 17) rfl igX7 (by first | assumption | rfl) (by decide) fl_X7_7 rfl dX7_componentsOfTable_14 rfl ?_
    refine go_iconst (q := 18) dX7_componentsOfTable_17 rfl ?_
    refine go_iald (j := 0) (q := 19) (by first | assumption | rfl) (wr_eq (by omega)) (by omega) dX7_componentsOfTable_18 rfl ?_
    refine go_icmp_ge2 (q := 22) (t := 63) dX7_componentsOfTable_19 (by decide) rfl (by omega) (fun c19 => ?_) (fun c19 => ?_)
    · refine go_aload_n (j := 0) (q := 64) rfl rfl dX7_componentsOfTable_63 rfl ?_
      refine go_aload_n (j := 0) (q := 65) rfl rfl dX7_componentsOfTable_64 rfl ?_
      refine go_getR (C0 := RX7) (T := TX7) (N := 16) (ci := 7) (i := 0) (q := 68) rfl igX7 (by first | assumption | rfl) (by decide) fl_X7_7 rfl dX7_componentsOfTable_65 rfl ?_
      refine go_iconst (q := 69) dX7_componentsOfTable_68 rfl ?_
      refine go_iald (j := 0) (q := 70) (by first | assumption | rfl) (wr_eq (by omega)) (by omega) dX7_componentsOfTable_69 rfl ?_
      refine go_callVi (as := [_, _]) (As := [_]) (rest := []) (n := 1) (q := 73) dX7_componentsOfTable_70 lk_X7_100 (ci := 7) (N := 16) (T := TX7) rfl (by first | assumption | rfl) rfl rfl (by decide +kernel) rfl ⟨by decide, by decide⟩ ⟨rfl, rfl⟩ (Nat.le_of_ble_eq_true rfl) (em_partsMany (N := n) (lab := lab) g01 (by omega) (fun i hi => (hL i hi).1) hw) rfl (fun x70 w70 h70 => ?_)
      obtain ⟨rfl, rfl⟩ := h70
      refine go_iret dX7_componentsOfTable_73 ?_
      subst hK
      exact ⟨_, rfl, by rw [ccF_parts hn.2 hr hL (fun i j hi hj => hp i j (by omega) hj)], hf⟩
    · refine go_iconst (q := 23) dX7_componentsOfTable_22 rfl ?_
      refine go_istore_n (j := 2) (q := 24) (ls2 := [_, _, _]) rfl (by decide) rfl rfl dX7_componentsOfTable_23 rfl ?_
      have lp24 : ∀ (m24 : Nat) (y : Nat) (yi : Int) (w2 : Mem) (lab2 : Nat → Nat) (ey : yi = y) (hy : y ≤ n) (hL2 : Lok (lkT n f) n lab2) (hw2 : ∀ i, i < n → w2 51 i = (lab2 i : Int)) (hp2 : ∀ i j, i ≤ x → j < n → (i = x → j < y) → lab2 i = lab2 (f i j)) (hf2 : ∀ c k, c ≠ 51 → w2 c k = w c k), m24 = n - y → gX7_componentsOfTable l D ck ad shA 24 [some (vR 45), some (vI xi), some (vI yi)] [] w2 K := by
        intro m24
        induction m24 using Nat.strongRecOn with
        | _ m24 ih24 =>
        intro y yi w2 lab2 ey hy hL2 hw2 hp2 hf2 em24
        have hT2 : TMv (w2 46) n f := TMv_c hT (fun k _ => hf2 _ _ (by omega))
        have g02 := hT2.1
        refine go_iload_n (j := 2) (q := 25) rfl rfl dX7_componentsOfTable_24 rfl ?_
        refine go_aload_n (j := 0) (q := 26) rfl rfl dX7_componentsOfTable_25 rfl ?_
        refine go_getR (C0 := RX7) (T := TX7) (N := 16) (ci := 7) (i := 0) (q := 29) rfl igX7 (by first | assumption | rfl) (by decide) fl_X7_7 rfl dX7_componentsOfTable_26 rfl ?_
        refine go_iconst (q := 30) dX7_componentsOfTable_29 rfl ?_
        refine go_iald (j := 0) (q := 31) (by first | assumption | rfl) (wr_eq (by omega)) (by omega) dX7_componentsOfTable_30 rfl ?_
        refine go_icmp_ge2 (q := 34) (t := 57) dX7_componentsOfTable_31 (by decide) rfl (by omega) (fun c31 => ?_) (fun c31 => ?_)
        · refine go_iinc (j := 1) (q := 60) (ls2 := [_, _, _]) rfl (by decide) rfl rfl dX7_componentsOfTable_57 rfl ?_
          refine go_goto (q := 12) dX7_componentsOfTable_60 (by decide) ?_
          exact ih12 _ (by omega) (x + 1) _ _ _ lab2 (by omega) (by omega) hL2 hw2 (fun i j a1 a2 => hp2 i j (by omega) a2 (by omega)) hf2 rfl
        · refine go_aload_n (j := 0) (q := 35) rfl rfl dX7_componentsOfTable_34 rfl ?_
          refine go_iload_n (j := 1) (q := 36) rfl rfl dX7_componentsOfTable_35 rfl ?_
          refine go_aload_n (j := 0) (q := 37) rfl rfl dX7_componentsOfTable_36 rfl ?_
          refine go_iload_n (j := 1) (q := 38) rfl rfl dX7_componentsOfTable_37 rfl ?_
          refine go_iload_n (j := 2) (q := 39) rfl rfl dX7_componentsOfTable_38 rfl ?_
          refine go_callVi (as := [_, _, _]) (As := [_, _]) (rest := [_, _]) (n := 2) (q := 42) dX7_componentsOfTable_39 lk_X7_67 (ci := 7) (N := 16) (T := TX7) rfl (by first | assumption | rfl) rfl rfl (by decide +kernel) rfl ⟨by decide, by decide⟩ ⟨rfl, rfl⟩ (Nat.le_of_ble_eq_true rfl) (em_times hT2 (x := x) (y := y) ex ey (by omega) (by omega)) rfl (fun x39 w39 h39 => ?_)
          obtain ⟨rfl, rfl⟩ := h39
          refine go_aload_n (j := 0) (q := 43) rfl rfl dX7_componentsOfTable_42 rfl ?_
          refine go_getR (C0 := RX7) (T := TX7) (N := 16) (ci := 7) (i := 0) (q := 46) rfl igX7 (by first | assumption | rfl) (by decide) fl_X7_7 rfl dX7_componentsOfTable_43 rfl ?_
          refine go_iconst (q := 47) dX7_componentsOfTable_46 rfl ?_
          refine go_iald (j := 0) (q := 48) (by first | assumption | rfl) (wr_eq (by omega)) (by omega) dX7_componentsOfTable_47 rfl ?_
          refine go_callVv (as := [_, _, _, _]) (As := [_, _, _]) (rest := []) (n := 3) (q := 51) dX7_componentsOfTable_48 lk_X7_97 (ci := 7) (N := 16) (T := TX7) rfl (by first | assumption | rfl) rfl rfl (by decide +kernel) rfl ⟨by decide, by decide⟩ ⟨rfl, rfl⟩ (Nat.le_of_ble_eq_true rfl) (em_joins (N := n) (a := x) (b := f x y) (lab := lab2) g02 (by omega) ex rfl (by omega) (hr _ _ (by omega) (by omega)) (fun i hi => (hL2 i hi).1) hw2) rfl (fun w48 h48 => ?_)
          obtain ⟨a48, f48⟩ := h48
          have hj := jn_ok hL2 (show x < n by omega) (hr x y (by omega) (by omega)) ⟨x, y, ⟨by omega, by omega⟩, rfl, rfl⟩
          refine go_iinc (j := 2) (q := 54) (ls2 := [_, _, _]) rfl (by decide) rfl rfl dX7_componentsOfTable_51 rfl ?_
          refine go_goto (q := 24) dX7_componentsOfTable_54 (by decide) ?_
          exact ih24 _ (by omega) (y + 1) _ _ (jn lab2 x (f x y)) (by omega) (by omega) hj.1 a48 (by
            intro i j a1 a2 a3
            by_cases q : i = x ∧ j = y
            · rw [q.1, q.2]; exact hj.2.1
            · exact hj.2.2 _ _ (hp2 i j a1 a2 (fun z => by have := a3 z; omega))) (fun c k h => by rw [f48 c k h]; exact hf2 c k h) rfl
      exact lp24 _ 0 0 _ lab rfl (by omega) hL hw (fun i j a1 a2 a3 => hp i j (by omega) a2) hf rfl
  exact lp12 _ 0 0 _ _ (fun k => k) rfl (by omega) Lok_id a7 (fun i j h => absurd h (Nat.not_lt_zero i)) f7 rfl
theorem em11 (hP : PMW w W) : eX7_tableComponents l D ck ad shA [vR 45] w (Pi (MR w (op11 W))) := by
  refine ev_of_goK (own := RX7) (ls := [some (vR 45)]) (by decide +kernel) rfl rfl (Nat.le_of_ble_eq_true rfl) rkI ?_
  intro K hK
  refine go_aload_n (j := 0) (q := 1) rfl rfl dX7_tableComponents_0 rfl ?_
  refine go_callVi (as := [_]) (As := []) (rest := []) (n := 0) (q := 4) dX7_tableComponents_1 lk_X7_103 (ci := 7) (N := 16) (T := TX7) rfl (by first | assumption | rfl) rfl rfl (by decide +kernel) rfl ⟨by decide, by decide⟩ ⟨rfl, rfl⟩ (Nat.le_of_ble_eq_true rfl) (em_componentsOfTable hP.1.1) rfl (fun x1 w1 h1 => ?_)
  obtain ⟨rfl, f1⟩ := h1
  refine go_iret dX7_tableComponents_4 ?_
  subst hK; exact ⟨_, rfl, rfl, PMW_q hP (fun c k z => f1 _ _ (by omega)), fun c k z => f1 _ _ (by omega)⟩
theorem em14 (hP : PMW w W) {x : Int} (hx : rng x) : eX7_translationOrder l D ck ad shA [vR 45, vI x] w (Pi (MR w (op14 W x))) := by
  have hT : TMv (w 46) (wN W) (wF W) := hP.1.1
  obtain ⟨n, hn0⟩ : ∃ n, n = wN W := ⟨_, rfl⟩
  obtain ⟨f, hf0⟩ : ∃ f, f = wF W := ⟨_, rfl⟩
  rw [← hn0, ← hf0] at hT
  have hn := hT.2.1
  have g0 := hT.1
  have hr : ∀ i j, i < n → j < n → f i j < n := fun i j hi hj => (hT.2.2 i j hi hj).2
  refine ev_of_goK (own := RX7) (ls := [some (vR 45), some (vI x), none, none, none]) (by decide +kernel) rfl rfl (Nat.le_of_ble_eq_true rfl) rkI ?_
  intro K hK
  refine go_aload_n (j := 0) (q := 1) rfl rfl dX7_translationOrder_0 rfl ?_
  refine go_iload_n (j := 1) (q := 2) rfl rfl dX7_translationOrder_1 rfl ?_
  refine go_callVz (as := [_, _]) (As := [_]) (rest := []) (n := 1) (q := 5) dX7_translationOrder_2 lk_X7_63 (ci := 7) (N := 16) (T := TX7) rfl (by first | assumption | rfl) rfl rfl (by decide +kernel) rfl ⟨by decide, by decide⟩ ⟨rfl, rfl⟩ (Nat.le_of_ble_eq_true rfl) (em_isElement hT hx) rfl (fun w2 h2 => ?_) (fun w2 h2 => ?_)
  · obtain ⟨rfl, h2⟩ := h2
    refine go_if_neT (t := 10) dX7_translationOrder_5 (by decide) (by decide) ?_
    obtain ⟨q, hq⟩ : ∃ q, q = x.toNat := ⟨_, rfl⟩
    refine go_aload_n (j := 0) (q := 11) rfl rfl dX7_translationOrder_10 rfl ?_
    refine go_iload_n (j := 1) (q := 12) rfl rfl dX7_translationOrder_11 rfl ?_
    refine go_callVz (as := [_, _]) (As := [_]) (rest := []) (n := 1) (q := 15) dX7_translationOrder_12 lk_X7_74 (ci := 7) (N := 16) (T := TX7) rfl (by first | assumption | rfl) rfl rfl (by decide +kernel) rfl ⟨by decide, by decide⟩ ⟨rfl, rfl⟩ (Nat.le_of_ble_eq_true rfl) (em_isPermutation hT (y := q) (by omega) (by omega)) rfl (fun w12 h12 => ?_) (fun w12 h12 => ?_)
    · obtain ⟨rfl, h12⟩ := h12
      refine go_if_neT (t := 21) dX7_translationOrder_15 (by decide) (by decide) ?_
      obtain ⟨o6, ho6, hid6⟩ := ord6 hn (fun i hi => hr i q hi (by omega)) h12
      have itl : ∀ i k, i < n → itN (fun z => f z q) i k < n := fun i k hi => itN_lt (fun j hj => hr j q hj (by omega)) hi k
      refine go_iconst (q := 22) dX7_translationOrder_21 rfl ?_
      refine go_istore_n (j := 2) (q := 23) (ls2 := [_, _, _, _, _]) rfl (by decide) rfl rfl dX7_translationOrder_22 rfl ?_
      have lp23 : ∀ (m23 : Nat) (k : Nat) (ki : Int) (u v : Option MV) (w1 : Mem) (ek : ki = k) (hk : k ≤ n) (hi : ∀ i, i < k → w1 50 i = (i : Int)) (hf : ∀ c k, c ≠ 50 → w1 c k = w c k), m23 = n - k → gX7_translationOrder l D ck ad shA 23 [some (vR 45), some (vI x), some (vI ki), u, v] [] w1 K := by
        intro m23
        induction m23 using Nat.strongRecOn with
        | _ m23 ih23 =>
        intro k ki u v w1 ek hk hi hf em23
        have e461 : w1 46 0 = (n : Int) := by rw [hf _ _ (by omega)]; exact g0
        refine go_iload_n (j := 2) (q := 24) rfl rfl dX7_translationOrder_23 rfl ?_
        refine go_aload_n (j := 0) (q := 25) rfl rfl dX7_translationOrder_24 rfl ?_
        refine go_getR (C0 := RX7) (T := TX7) (N := 16) (ci := 7) (i := 0) (q := 28) rfl igX7 (by first | assumption | rfl) (by decide) fl_X7_7 rfl dX7_translationOrder_25 rfl ?_
        refine go_iconst (q := 29) dX7_translationOrder_28 rfl ?_
        refine go_iald (j := 0) (q := 30) (by first | assumption | rfl) (wr_eq (by omega)) (by omega) dX7_translationOrder_29 rfl ?_
        refine go_icmp_ge2 (q := 33) (t := 46) dX7_translationOrder_30 (by decide) rfl (by omega) (fun c30 => ?_) (fun c30 => ?_)
        · refine go_iconst (q := 47) dX7_translationOrder_46 rfl ?_
          refine go_istore_n (j := 2) (q := 48) (ls2 := [_, _, _, _, _]) rfl (by decide) rfl rfl dX7_translationOrder_47 rfl ?_
          refine go_iconst (q := 49) dX7_translationOrder_48 rfl ?_
          refine go_istore_n (j := 3) (q := 50) (ls2 := [_, _, _, _, _]) rfl (by decide) rfl rfl dX7_translationOrder_49 rfl ?_
          have lp50 : ∀ (m50 : Nat) (o : Nat) (oi gi : Int) (v3 : Option MV) (w2 : Mem) (eo : oi = o) (ho : o ≤ 6) (hg : gi = 0 ∨ gi = 1) (hg1 : gi = 1 → ∀ j, 1 ≤ j → j ≤ o → ¬ idA n f q j) (hg0 : gi = 0 → (1 ≤ o ∧ idA n f q o ∧ ∀ j, 1 ≤ j → j < o → ¬ idA n f q j)) (hi2 : ∀ i, i < n → w2 50 i = (itN (fun z => f z q) i o : Int)) (hf2 : ∀ c k, c ≠ 50 → w2 c k = w c k), m50 = 7 - o → gX7_translationOrder l D ck ad shA 50 [some (vR 45), some (vI x), some (vI oi), some (vI gi), v3] [] w2 K := by
            intro m50
            induction m50 using Nat.strongRecOn with
            | _ m50 ih50 =>
            intro o oi gi v3 w2 eo ho hg hg1 hg0 hi2 hf2 em50
            refine go_iload_n (j := 3) (q := 51) rfl rfl dX7_translationOrder_50 rfl ?_
            refine go_if_eq2 (q := 54) (t := 123) dX7_translationOrder_51 (by decide) rfl (by omega) (fun c51 => ?_) (fun c51 => ?_)
            · refine go_iload_n (j := 2) (q := 124) rfl rfl dX7_translationOrder_123 rfl ?_
              refine go_iret dX7_translationOrder_124 ?_
              subst hK
              unfold op14
              rw [cif_t (by rw [← hn0]; exact h2), ← hn0, ← hf0, ← hq]
              obtain ⟨r1, r2, r3⟩ := hg0 (by omega)
              have hor : ordT n f q oi := Or.inr ⟨h12, o, eo, ⟨r1, ho⟩, r3, Or.inr r2⟩
              exact ⟨_, rfl, the_eq hor (fun u hu => ord_u hu hor), PMW_q hP (fun c k z => hf2 _ _ (by omega)), fun c k z => hf2 _ _ (by omega)⟩
            · have hgg : gi = 1 := by omega
              have hno := hg1 hgg
              have ho5 : o ≤ 5 := by
                apply Classical.byContradiction
                intro z
                exact hno o6 ho6.1 (by omega) hid6
              refine go_iinc (j := 2) (q := 57) (ls2 := [_, _, _, _, _]) rfl (by decide) rfl rfl dX7_translationOrder_54 rfl ?_
              refine go_iconst (q := 58) dX7_translationOrder_57 rfl ?_
              refine go_istore_n (j := 3) (q := 59) (ls2 := [_, _, _, _, _]) rfl (by decide) rfl rfl dX7_translationOrder_58 rfl ?_
              refine go_iconst (q := 60) dX7_translationOrder_59 rfl ?_
              refine go_istore (j := 4) (q := 62) (ls2 := [_, _, _, _, _]) (by decide) rfl rfl dX7_translationOrder_60 rfl ?_
              have lp62 : ∀ (m62 : Nat) (y : Nat) (xi hi' : Int) (w3 : Mem) (ex : xi = y) (hy : y ≤ n) (hh : (hi' = 0 ∧ ∀ i, i < y → itN (fun z => f z q) i (o + 1) = i) ∨ (hi' = 1 ∧ ¬ ∀ i, i < y → itN (fun z => f z q) i (o + 1) = i)) (hi3 : ∀ i, i < y → w3 50 i = (itN (fun z => f z q) i (o + 1) : Int)) (hj3 : ∀ i, y ≤ i → i < n → w3 50 i = (itN (fun z => f z q) i o : Int)) (hf3 : ∀ c k, c ≠ 50 → w3 c k = w c k), m62 = n - y → gX7_translationOrder l D ck ad shA 62 [some (vR 45), some (vI x), (some (vI (oi + 1))), some (vI hi'), some (vI xi)] [] w3 K := by
                intro m62
                induction m62 using Nat.strongRecOn with
                | _ m62 ih62 =>
                intro y xi hi' w3 ex hy hh hi3 hj3 hf3 em62
                have hT3 : TMv (w3 46) n f := TMv_c hT (fun k _ => hf3 _ _ (by omega))
                have g03 := hT3.1
                refine go_iload (j := 4) (q := 64) rfl dX7_translationOrder_62 rfl ?_
                refine go_aload_n (j := 0) (q := 65) rfl rfl dX7_translationOrder_64 rfl ?_
                refine go_getR (C0 := RX7) (T := TX7) (N := 16) (ci := 7) (i := 0) (q := 68) rfl igX7 (by first | assumption | rfl) (by decide) fl_X7_7 rfl dX7_translationOrder_65 rfl ?_
                refine go_iconst (q := 69) dX7_translationOrder_68 rfl ?_
                refine go_iald (j := 0) (q := 70) (by first | assumption | rfl) (wr_eq (by omega)) (by omega) dX7_translationOrder_69 rfl ?_
                refine go_icmp_ge2 (q := 73) (t := 120) dX7_translationOrder_70 (by decide) rfl (by omega) (fun c70 => ?_) (fun c70 => ?_)
                · refine go_goto (q := 50) dX7_translationOrder_120 (by decide) ?_
                  (have eyn : y = n := by omega
                   subst eyn
                   refine ih50 _ (by omega) (o + 1) _ hi' _ _ (by omega) (by omega) (by omega) (fun z j a1 a2 => ?_) (fun z => ?_) hi3 hf3 rfl
                   · by_cases qq : j = o + 1
                     · subst qq
                       rcases hh with ⟨z1, _⟩ | ⟨_, z2⟩
                       · omega
                       · exact z2
                     · exact hno j a1 (by omega)
                   · rcases hh with ⟨_, z2⟩ | ⟨z1, _⟩
                     · exact ⟨by omega, z2, fun j a1 a2 => hno j a1 (by omega)⟩
                     · omega)
                · have itb := itl y o (by omega)
                  have itb1 := itl y (o + 1) (by omega)
                  have ei := hj3 y (Nat.le_refl y) (by omega)
                  have es : itN (fun z => f z q) y (o + 1) = f (itN (fun z => f z q) y o) q := rfl
                  refine go_aload_n (j := 0) (q := 74) rfl rfl dX7_translationOrder_73 rfl ?_
                  refine go_getR (C0 := RX7) (T := TX7) (N := 16) (ci := 7) (i := 7) (q := 77) rfl igX7 (by first | assumption | rfl) (by decide) fl_X7_22 rfl dX7_translationOrder_74 rfl ?_
                  refine go_iload (j := 4) (q := 79) rfl dX7_translationOrder_77 rfl ?_
                  refine go_aload_n (j := 0) (q := 80) rfl rfl dX7_translationOrder_79 rfl ?_
                  refine go_aload_n (j := 0) (q := 81) rfl rfl dX7_translationOrder_80 rfl ?_
                  refine go_getR (C0 := RX7) (T := TX7) (N := 16) (ci := 7) (i := 7) (q := 84) rfl igX7 (by first | assumption | rfl) (by decide) fl_X7_22 rfl dX7_translationOrder_81 rfl ?_
                  refine go_iload (j := 4) (q := 86) rfl dX7_translationOrder_84 rfl ?_
                  refine go_iald (j := y) (q := 87) (by first | assumption | rfl) (wr_eq (by omega)) (by omega) dX7_translationOrder_86 rfl ?_
                  refine go_iload_n (j := 1) (q := 88) rfl rfl dX7_translationOrder_87 rfl ?_
                  refine go_callVi (as := [_, _, _]) (As := [_, _]) (rest := [_, _]) (n := 2) (q := 91) dX7_translationOrder_88 lk_X7_67 (ci := 7) (N := 16) (T := TX7) rfl (by first | assumption | rfl) rfl rfl (by decide +kernel) rfl ⟨by decide, by decide⟩ ⟨rfl, rfl⟩ (Nat.le_of_ble_eq_true rfl) (em_times hT3 (x := itN (fun z => f z q) y o) (y := q) ei (by omega) itb (by omega)) rfl (fun x88 w88 h88 => ?_)
                  obtain ⟨rfl, rfl⟩ := h88
                  refine go_iast (j := y) (q := 92) (by first | assumption | rfl) (wr_eq (by omega)) (by omega) dX7_translationOrder_91 rfl ?_
                  rw [← es]
                  obtain ⟨w4, hw4⟩ : ∃ w4, w4 = mup w3 50 y (itN (fun z => f z q) y (o + 1) : Nat) := ⟨_, rfl⟩
                  rw [← hw4]
                  have k4 : w4 50 y = (itN (fun z => f z q) y (o + 1) : Nat) := by rw [hw4, mup_eq]
                  have k5 : ∀ c k, (c ≠ 50 ∨ k ≠ y) → w4 c k = w3 c k := fun c k z => by rw [hw4, mup_ne z]
                  refine go_iload_n (j := 3) (q := 93) rfl rfl dX7_translationOrder_92 rfl ?_
                  refine go_if_ne2 (q := 96) (t := 108) dX7_translationOrder_93 (by decide) rfl (by omega) (fun c93 => ?_) (fun c93 => ?_)
                  · refine go_iconst (q := 109) dX7_translationOrder_108 rfl ?_
                    refine go_goto (q := 113) dX7_translationOrder_109 (by decide) ?_
                    refine go_istore_n (j := 3) (q := 114) (ls2 := [_, _, _, _, _]) rfl (by decide) rfl rfl dX7_translationOrder_113 rfl ?_
                    refine go_iinc (j := 4) (q := 117) (ls2 := [_, _, _, _, _]) rfl (by decide) rfl rfl dX7_translationOrder_114 rfl ?_
                    refine go_goto (q := 62) dX7_translationOrder_117 (by decide) ?_
                    first
                    | exact ih62 _ (by omega) (y + 1) _ _ _ (by omega) (by omega) (Or.inr ⟨rfl, fun z => by
                        rcases hh with ⟨z1, _⟩ | ⟨_, z2⟩
                        · first | omega | (have := z y (by omega); omega)
                        · exact z2 (fun i hi => z i (by omega))⟩) (by
                        intro i h
                        by_cases z : i = y
                        · subst z; exact k4
                        · rw [k5 _ _ (Or.inr z)]; exact hi3 i (by omega)) (fun i h h2 => by rw [k5 _ _ (Or.inr (by omega))]; exact hj3 i (by omega) h2) (fun c k h => by rw [k5 _ _ (Or.inl h)]; exact hf3 c k h) rfl
                    | exact ih62 _ (by omega) (y + 1) _ _ _ (by omega) (by omega) (by
                        rcases hh with ⟨z1, z2⟩ | ⟨z1, _⟩
                        · exact Or.inl ⟨rfl, fun i h => all_lt (P := fun i => itN (fun z => f z q) i (o + 1) = i) z2 (by omega) h⟩
                        · omega) (by
                        intro i h
                        by_cases z : i = y
                        · subst z; exact k4
                        · rw [k5 _ _ (Or.inr z)]; exact hi3 i (by omega)) (fun i h h2 => by rw [k5 _ _ (Or.inr (by omega))]; exact hj3 i (by omega) h2) (fun c k h => by rw [k5 _ _ (Or.inl h)]; exact hf3 c k h) rfl
                  · refine go_aload_n (j := 0) (q := 97) rfl rfl dX7_translationOrder_96 rfl ?_
                    refine go_getR (C0 := RX7) (T := TX7) (N := 16) (ci := 7) (i := 7) (q := 100) rfl igX7 (by first | assumption | rfl) (by decide) fl_X7_22 rfl dX7_translationOrder_97 rfl ?_
                    refine go_iload (j := 4) (q := 102) rfl dX7_translationOrder_100 rfl ?_
                    refine go_iald (j := y) (q := 103) (by first | assumption | rfl) (wr_eq (by omega)) (by omega) dX7_translationOrder_102 rfl ?_
                    refine go_iload (j := 4) (q := 105) rfl dX7_translationOrder_103 rfl ?_
                    refine go_icmp_eq2 (q := 108) (t := 112) dX7_translationOrder_105 (by decide) rfl (by omega) (fun c105 => ?_) (fun c105 => ?_)
                    · refine go_iconst (q := 113) dX7_translationOrder_112 rfl ?_
                      refine go_istore_n (j := 3) (q := 114) (ls2 := [_, _, _, _, _]) rfl (by decide) rfl rfl dX7_translationOrder_113 rfl ?_
                      refine go_iinc (j := 4) (q := 117) (ls2 := [_, _, _, _, _]) rfl (by decide) rfl rfl dX7_translationOrder_114 rfl ?_
                      refine go_goto (q := 62) dX7_translationOrder_117 (by decide) ?_
                      first
                      | exact ih62 _ (by omega) (y + 1) _ _ _ (by omega) (by omega) (Or.inr ⟨rfl, fun z => by
                          rcases hh with ⟨z1, _⟩ | ⟨_, z2⟩
                          · first | omega | (have := z y (by omega); omega)
                          · exact z2 (fun i hi => z i (by omega))⟩) (by
                          intro i h
                          by_cases z : i = y
                          · subst z; exact k4
                          · rw [k5 _ _ (Or.inr z)]; exact hi3 i (by omega)) (fun i h h2 => by rw [k5 _ _ (Or.inr (by omega))]; exact hj3 i (by omega) h2) (fun c k h => by rw [k5 _ _ (Or.inl h)]; exact hf3 c k h) rfl
                      | exact ih62 _ (by omega) (y + 1) _ _ _ (by omega) (by omega) (by
                          rcases hh with ⟨z1, z2⟩ | ⟨z1, _⟩
                          · exact Or.inl ⟨rfl, fun i h => all_lt (P := fun i => itN (fun z => f z q) i (o + 1) = i) z2 (by omega) h⟩
                          · omega) (by
                          intro i h
                          by_cases z : i = y
                          · subst z; exact k4
                          · rw [k5 _ _ (Or.inr z)]; exact hi3 i (by omega)) (fun i h h2 => by rw [k5 _ _ (Or.inr (by omega))]; exact hj3 i (by omega) h2) (fun c k h => by rw [k5 _ _ (Or.inl h)]; exact hf3 c k h) rfl
                    · refine go_iconst (q := 109) dX7_translationOrder_108 rfl ?_
                      refine go_goto (q := 113) dX7_translationOrder_109 (by decide) ?_
                      refine go_istore_n (j := 3) (q := 114) (ls2 := [_, _, _, _, _]) rfl (by decide) rfl rfl dX7_translationOrder_113 rfl ?_
                      refine go_iinc (j := 4) (q := 117) (ls2 := [_, _, _, _, _]) rfl (by decide) rfl rfl dX7_translationOrder_114 rfl ?_
                      refine go_goto (q := 62) dX7_translationOrder_117 (by decide) ?_
                      first
                      | exact ih62 _ (by omega) (y + 1) _ _ _ (by omega) (by omega) (Or.inr ⟨rfl, fun z => by
                          rcases hh with ⟨z1, _⟩ | ⟨_, z2⟩
                          · first | omega | (have := z y (by omega); omega)
                          · exact z2 (fun i hi => z i (by omega))⟩) (by
                          intro i h
                          by_cases z : i = y
                          · subst z; exact k4
                          · rw [k5 _ _ (Or.inr z)]; exact hi3 i (by omega)) (fun i h h2 => by rw [k5 _ _ (Or.inr (by omega))]; exact hj3 i (by omega) h2) (fun c k h => by rw [k5 _ _ (Or.inl h)]; exact hf3 c k h) rfl
                      | exact ih62 _ (by omega) (y + 1) _ _ _ (by omega) (by omega) (by
                          rcases hh with ⟨z1, z2⟩ | ⟨z1, _⟩
                          · exact Or.inl ⟨rfl, fun i h => all_lt (P := fun i => itN (fun z => f z q) i (o + 1) = i) z2 (by omega) h⟩
                          · omega) (by
                          intro i h
                          by_cases z : i = y
                          · subst z; exact k4
                          · rw [k5 _ _ (Or.inr z)]; exact hi3 i (by omega)) (fun i h h2 => by rw [k5 _ _ (Or.inr (by omega))]; exact hj3 i (by omega) h2) (fun c k h => by rw [k5 _ _ (Or.inl h)]; exact hf3 c k h) rfl
              exact lp62 _ 0 0 0 _ rfl (by omega) (Or.inl ⟨rfl, fun i h => absurd h (Nat.not_lt_zero i)⟩) (fun i h => absurd h (Nat.not_lt_zero i)) (fun i h h2 => hi2 i h2) hf2 rfl
          exact lp50 _ 0 0 1 _ _ rfl (by omega) (Or.inr rfl) (fun _ j a1 a2 => by omega) (fun z => by omega) (fun i h => hi i (by omega)) hf rfl
        · refine go_aload_n (j := 0) (q := 34) rfl rfl dX7_translationOrder_33 rfl ?_
          refine go_getR (C0 := RX7) (T := TX7) (N := 16) (ci := 7) (i := 7) (q := 37) rfl igX7 (by first | assumption | rfl) (by decide) fl_X7_22 rfl dX7_translationOrder_34 rfl ?_
          refine go_iload_n (j := 2) (q := 38) rfl rfl dX7_translationOrder_37 rfl ?_
          refine go_iload_n (j := 2) (q := 39) rfl rfl dX7_translationOrder_38 rfl ?_
          refine go_iast (j := k) (q := 40) (by first | assumption | rfl) (wr_eq (by omega)) (by omega) dX7_translationOrder_39 rfl ?_
          refine go_iinc (j := 2) (q := 43) (ls2 := [_, _, _, _, _]) rfl (by decide) rfl rfl dX7_translationOrder_40 rfl ?_
          refine go_goto (q := 23) dX7_translationOrder_43 (by decide) ?_
          exact ih23 _ (by omega) (k + 1) _ _ _ _ (by omega) (by omega) (by
            intro i h
            by_cases z : i = k
            · subst z; rw [mup_eq]; exact ek
            · rw [mup_ne (by omega)]; exact hi i (by omega)) (fun c k h => by rw [mup_ne (Or.inl h)]; exact hf c k h) rfl
      exact lp23 _ 0 0 _ _ _ rfl (by omega) (fun i h => absurd h (Nat.not_lt_zero i)) (fun c k h => rfl) rfl
    · obtain ⟨rfl, h12⟩ := h12
      refine go_if_neF (q := 18) (t := 21) dX7_translationOrder_15 rfl (by decide) (by decide) ?_
      refine go_bipush (q := 20) rfl dX7_translationOrder_18 rfl ?_
      refine go_iret dX7_translationOrder_20 ?_
      subst hK
      unfold op14
      rw [cif_t (by rw [← hn0]; exact h2), ← hn0, ← hf0, ← hq]
      have ho : ordT n f q (-6) := Or.inl ⟨h12, rfl⟩
      exact ⟨_, rfl, the_eq ho (fun u hu => ord_u hu ho), hP, fun c k _ => rfl⟩
  · obtain ⟨rfl, h2⟩ := h2
    refine go_if_neF (q := 8) (t := 10) dX7_translationOrder_5 rfl (by decide) (by decide) ?_
    refine go_iconst (q := 9) dX7_translationOrder_8 rfl ?_
    refine go_iret dX7_translationOrder_9 ?_
    subst hK
    unfold op14
    rw [cif_f (by rw [← hn0]; exact h2)]; exact ⟨_, rfl, rfl, hP, fun c k _ => rfl⟩
theorem em_differentTranslations (hT : TMv (w 46) n f) : eX7_differentTranslations l D ck ad shA [vR 45] w (Pi fun v w1 => v = (cN (newT n f) n : Int) ∧ w = w1) := by
  have hn := hT.2.1
  have g0 := hT.1
  have hr : ∀ i j, i < n → j < n → f i j < n := fun i j hi hj => (hT.2.2 i j hi hj).2
  refine ev_of_goK (own := RX7) (ls := [some (vR 45), none, none, none, none, none, none]) (by decide +kernel) rfl rfl (Nat.le_of_ble_eq_true rfl) rkI ?_
  intro K hK
  refine go_iconst (q := 1) dX7_differentTranslations_0 rfl ?_
  refine go_istore_n (j := 1) (q := 2) (ls2 := [_, _, _, _, _, _, _]) rfl (by decide) rfl rfl dX7_differentTranslations_1 rfl ?_
  refine go_iconst (q := 3) dX7_differentTranslations_2 rfl ?_
  refine go_istore_n (j := 2) (q := 4) (ls2 := [_, _, _, _, _, _, _]) rfl (by decide) rfl rfl dX7_differentTranslations_3 rfl ?_
  have lp4 : ∀ (m4 : Nat) (y : Nat) (yi ci : Int) (u v t s : Option MV) (ey : yi = y) (hy : y ≤ n) (ec : ci = (cN (newT n f) y : Nat)), m4 = n - y → gX7_differentTranslations l D ck ad shA 4 [some (vR 45), some (vI ci), some (vI yi), u, v, t, s] [] w K := by
    intro m4
    induction m4 using Nat.strongRecOn with
    | _ m4 ih4 =>
    intro y yi ci u v t s ey hy ec em4
    refine go_iload_n (j := 2) (q := 5) rfl rfl dX7_differentTranslations_4 rfl ?_
    refine go_aload_n (j := 0) (q := 6) rfl rfl dX7_differentTranslations_5 rfl ?_
    refine go_getR (C0 := RX7) (T := TX7) (N := 16) (ci := 7) (i := 0) (q := 9) rfl igX7 (by first | assumption | rfl) (by decide) fl_X7_7 rfl dX7_differentTranslations_6 rfl ?_
    refine go_iconst (q := 10) dX7_differentTranslations_9 rfl ?_
    refine go_iald (j := 0) (q := 11) (by first | assumption | rfl) (wr_eq (by omega)) (by omega) dX7_differentTranslations_10 rfl ?_
    refine go_icmp_ge2 (q := 14) (t := 117) dX7_differentTranslations_11 (by decide) rfl (by omega) (fun c11 => ?_) (fun c11 => ?_)
    · refine go_iload_n (j := 1) (q := 118) rfl rfl dX7_differentTranslations_117 rfl ?_
      refine go_iret dX7_differentTranslations_118 ?_
      subst hK; exact ⟨_, rfl, by rw [ec, show y = n by omega], rfl⟩
    · refine go_iconst (q := 15) dX7_differentTranslations_14 rfl ?_
      refine go_istore_n (j := 3) (q := 16) (ls2 := [_, _, _, _, _, _, _]) rfl (by decide) rfl rfl dX7_differentTranslations_15 rfl ?_
      refine go_iconst (q := 17) dX7_differentTranslations_16 rfl ?_
      refine go_istore (j := 4) (q := 19) (ls2 := [_, _, _, _, _, _, _]) (by decide) rfl rfl dX7_differentTranslations_17 rfl ?_
      have lp19 : ∀ (m19 : Nat) (k : Nat) (ki ni : Int) (t2 s2 : Option MV) (ek : ki = k) (hk : k ≤ y) (hN : (ni = 1 ∧ ∀ j, j < k → ¬ smT n f j y) ∨ (ni = 0 ∧ ¬ ∀ j, j < k → ¬ smT n f j y)), m19 = y - k → gX7_differentTranslations l D ck ad shA 19 [some (vR 45), some (vI ci), some (vI yi), some (vI ni), some (vI ki), t2, s2] [] w K := by
        intro m19
        induction m19 using Nat.strongRecOn with
        | _ m19 ih19 =>
        intro k ki ni t2 s2 ek hk hN em19
        refine go_iload (j := 4) (q := 21) rfl dX7_differentTranslations_19 rfl ?_
        refine go_iload_n (j := 2) (q := 22) rfl rfl dX7_differentTranslations_21 rfl ?_
        refine go_icmp_ge2 (q := 25) (t := 99) dX7_differentTranslations_22 (by decide) rfl (by omega) (fun c22 => ?_) (fun c22 => ?_)
        · refine go_iload_n (j := 1) (q := 100) rfl rfl dX7_differentTranslations_99 rfl ?_
          refine go_iload_n (j := 3) (q := 101) rfl rfl dX7_differentTranslations_100 rfl ?_
          refine go_if_eq2 (q := 104) (t := 108) dX7_differentTranslations_101 (by decide) rfl (by omega) (fun c101 => ?_) (fun c101 => ?_)
          · refine go_iconst (q := 109) dX7_differentTranslations_108 rfl ?_
            refine go_iadd (q := 110) dX7_differentTranslations_109 rfl ?_
            refine go_istore_n (j := 1) (q := 111) (ls2 := [_, _, _, _, _, _, _]) rfl (by decide) rfl rfl dX7_differentTranslations_110 rfl ?_
            refine go_iinc (j := 2) (q := 114) (ls2 := [_, _, _, _, _, _, _]) rfl (by decide) rfl rfl dX7_differentTranslations_111 rfl ?_
            refine go_goto (q := 4) dX7_differentTranslations_114 (by decide) ?_
            first
            | exact ih4 _ (by omega) (y + 1) _ _ _ _ _ _ (by omega) (by omega) (by
                have q : newT n f y = true := newT_iff.mpr (by rcases hN with ⟨_, z⟩ | ⟨z, _⟩; rw [show k = y by omega] at z; exact z; omega)
                simp only [cN, if_pos q]; omega) rfl
            | exact ih4 _ (by omega) (y + 1) _ _ _ _ _ _ (by omega) (by omega) (by
                have q : ¬ newT n f y = true := fun q => by
                  have := newT_iff.mp q
                  rcases hN with ⟨z, _⟩ | ⟨_, z⟩
                  · omega
                  · rw [show k = y by omega] at z; exact z this
                simp only [cN, if_neg q]; omega) rfl
          · refine go_iconst (q := 105) dX7_differentTranslations_104 rfl ?_
            refine go_goto (q := 109) dX7_differentTranslations_105 (by decide) ?_
            refine go_iadd (q := 110) dX7_differentTranslations_109 rfl ?_
            refine go_istore_n (j := 1) (q := 111) (ls2 := [_, _, _, _, _, _, _]) rfl (by decide) rfl rfl dX7_differentTranslations_110 rfl ?_
            refine go_iinc (j := 2) (q := 114) (ls2 := [_, _, _, _, _, _, _]) rfl (by decide) rfl rfl dX7_differentTranslations_111 rfl ?_
            refine go_goto (q := 4) dX7_differentTranslations_114 (by decide) ?_
            first
            | exact ih4 _ (by omega) (y + 1) _ _ _ _ _ _ (by omega) (by omega) (by
                have q : newT n f y = true := newT_iff.mpr (by rcases hN with ⟨_, z⟩ | ⟨z, _⟩; rw [show k = y by omega] at z; exact z; omega)
                simp only [cN, if_pos q]; omega) rfl
            | exact ih4 _ (by omega) (y + 1) _ _ _ _ _ _ (by omega) (by omega) (by
                have q : ¬ newT n f y = true := fun q => by
                  have := newT_iff.mp q
                  rcases hN with ⟨z, _⟩ | ⟨_, z⟩
                  · omega
                  · rw [show k = y by omega] at z; exact z this
                simp only [cN, if_neg q]; omega) rfl
        · refine go_iconst (q := 26) dX7_differentTranslations_25 rfl ?_
          refine go_istore (j := 5) (q := 28) (ls2 := [_, _, _, _, _, _, _]) (by decide) rfl rfl dX7_differentTranslations_26 rfl ?_
          refine go_iconst (q := 29) dX7_differentTranslations_28 rfl ?_
          refine go_istore (j := 6) (q := 31) (ls2 := [_, _, _, _, _, _, _]) (by decide) rfl rfl dX7_differentTranslations_29 rfl ?_
          have lp31 : ∀ (m31 : Nat) (x : Nat) (xi si : Int) (ex : xi = x) (hx : x ≤ n) (hS : (si = 1 ∧ ∀ i, i < x → f i k = f i y) ∨ (si = 0 ∧ ¬ ∀ i, i < x → f i k = f i y)), m31 = n - x → gX7_differentTranslations l D ck ad shA 31 [some (vR 45), some (vI ci), some (vI yi), some (vI ni), some (vI ki), some (vI si), some (vI xi)] [] w K := by
            intro m31
            induction m31 using Nat.strongRecOn with
            | _ m31 ih31 =>
            intro x xi si ex hx hS em31
            refine go_iload (j := 6) (q := 33) rfl dX7_differentTranslations_31 rfl ?_
            refine go_aload_n (j := 0) (q := 34) rfl rfl dX7_differentTranslations_33 rfl ?_
            refine go_getR (C0 := RX7) (T := TX7) (N := 16) (ci := 7) (i := 0) (q := 37) rfl igX7 (by first | assumption | rfl) (by decide) fl_X7_7 rfl dX7_differentTranslations_34 rfl ?_
            refine go_iconst (q := 38) dX7_differentTranslations_37 rfl ?_
            refine go_iald (j := 0) (q := 39) (by first | assumption | rfl) (wr_eq (by omega)) (by omega) dX7_differentTranslations_38 rfl ?_
            refine go_icmp_ge2 (q := 42) (t := 78) dX7_differentTranslations_39 (by decide) rfl (by omega) (fun c39 => ?_) (fun c39 => ?_)
            · refine go_iload_n (j := 3) (q := 79) rfl rfl dX7_differentTranslations_78 rfl ?_
              refine go_if_eq2 (q := 82) (t := 91) dX7_differentTranslations_79 (by decide) rfl (by omega) (fun c79 => ?_) (fun c79 => ?_)
              · refine go_iconst (q := 92) dX7_differentTranslations_91 rfl ?_
                refine go_istore_n (j := 3) (q := 93) (ls2 := [_, _, _, _, _, _, _]) rfl (by decide) rfl rfl dX7_differentTranslations_92 rfl ?_
                refine go_iinc (j := 4) (q := 96) (ls2 := [_, _, _, _, _, _, _]) rfl (by decide) rfl rfl dX7_differentTranslations_93 rfl ?_
                refine go_goto (q := 19) dX7_differentTranslations_96 (by decide) ?_
                (have exn : x = n := by omega
                 subst exn
                 first
                 | exact ih19 _ (by omega) (k + 1) _ _ _ _ (by omega) (by omega) (Or.inl ⟨rfl, by
                     rcases hN with ⟨_, z⟩ | ⟨z, _⟩
                     · refine fun j h => all_lt (P := fun j => ¬ smT x f j y) z ?_ h
                       rcases hS with ⟨z1, _⟩ | ⟨_, z2⟩
                       · omega
                       · exact z2
                     · omega⟩) rfl
                 | exact ih19 _ (by omega) (k + 1) _ _ _ _ (by omega) (by omega) (Or.inr ⟨rfl, fun zz => by
                     rcases hN with ⟨z, _⟩ | ⟨_, z⟩
                     · rcases hS with ⟨_, z2⟩ | ⟨z1, _⟩
                       · exact zz k (by omega) z2
                       · omega
                     · exact z (fun j hj => zz j (by omega))⟩) rfl)
              · refine go_iload (j := 5) (q := 84) rfl dX7_differentTranslations_82 rfl ?_
                refine go_if_ne2 (q := 87) (t := 91) dX7_differentTranslations_84 (by decide) rfl (by omega) (fun c84 => ?_) (fun c84 => ?_)
                · refine go_iconst (q := 92) dX7_differentTranslations_91 rfl ?_
                  refine go_istore_n (j := 3) (q := 93) (ls2 := [_, _, _, _, _, _, _]) rfl (by decide) rfl rfl dX7_differentTranslations_92 rfl ?_
                  refine go_iinc (j := 4) (q := 96) (ls2 := [_, _, _, _, _, _, _]) rfl (by decide) rfl rfl dX7_differentTranslations_93 rfl ?_
                  refine go_goto (q := 19) dX7_differentTranslations_96 (by decide) ?_
                  (have exn : x = n := by omega
                   subst exn
                   first
                   | exact ih19 _ (by omega) (k + 1) _ _ _ _ (by omega) (by omega) (Or.inl ⟨rfl, by
                       rcases hN with ⟨_, z⟩ | ⟨z, _⟩
                       · refine fun j h => all_lt (P := fun j => ¬ smT x f j y) z ?_ h
                         rcases hS with ⟨z1, _⟩ | ⟨_, z2⟩
                         · omega
                         · exact z2
                       · omega⟩) rfl
                   | exact ih19 _ (by omega) (k + 1) _ _ _ _ (by omega) (by omega) (Or.inr ⟨rfl, fun zz => by
                       rcases hN with ⟨z, _⟩ | ⟨_, z⟩
                       · rcases hS with ⟨_, z2⟩ | ⟨z1, _⟩
                         · exact zz k (by omega) z2
                         · omega
                       · exact z (fun j hj => zz j (by omega))⟩) rfl)
                · refine go_iconst (q := 88) dX7_differentTranslations_87 rfl ?_
                  refine go_goto (q := 92) dX7_differentTranslations_88 (by decide) ?_
                  refine go_istore_n (j := 3) (q := 93) (ls2 := [_, _, _, _, _, _, _]) rfl (by decide) rfl rfl dX7_differentTranslations_92 rfl ?_
                  refine go_iinc (j := 4) (q := 96) (ls2 := [_, _, _, _, _, _, _]) rfl (by decide) rfl rfl dX7_differentTranslations_93 rfl ?_
                  refine go_goto (q := 19) dX7_differentTranslations_96 (by decide) ?_
                  (have exn : x = n := by omega
                   subst exn
                   first
                   | exact ih19 _ (by omega) (k + 1) _ _ _ _ (by omega) (by omega) (Or.inl ⟨rfl, by
                       rcases hN with ⟨_, z⟩ | ⟨z, _⟩
                       · refine fun j h => all_lt (P := fun j => ¬ smT x f j y) z ?_ h
                         rcases hS with ⟨z1, _⟩ | ⟨_, z2⟩
                         · omega
                         · exact z2
                       · omega⟩) rfl
                   | exact ih19 _ (by omega) (k + 1) _ _ _ _ (by omega) (by omega) (Or.inr ⟨rfl, fun zz => by
                       rcases hN with ⟨z, _⟩ | ⟨_, z⟩
                       · rcases hS with ⟨_, z2⟩ | ⟨z1, _⟩
                         · exact zz k (by omega) z2
                         · omega
                       · exact z (fun j hj => zz j (by omega))⟩) rfl)
            · refine go_iload (j := 5) (q := 44) rfl dX7_differentTranslations_42 rfl ?_
              refine go_if_eq2 (q := 47) (t := 69) dX7_differentTranslations_44 (by decide) rfl (by omega) (fun c44 => ?_) (fun c44 => ?_)
              · refine go_iconst (q := 70) dX7_differentTranslations_69 rfl ?_
                refine go_istore (j := 5) (q := 72) (ls2 := [_, _, _, _, _, _, _]) (by decide) rfl rfl dX7_differentTranslations_70 rfl ?_
                refine go_iinc (j := 6) (q := 75) (ls2 := [_, _, _, _, _, _, _]) rfl (by decide) rfl rfl dX7_differentTranslations_72 rfl ?_
                refine go_goto (q := 31) dX7_differentTranslations_75 (by decide) ?_
                first
                | exact ih31 _ (by omega) (x + 1) _ _ (by omega) (by omega) (Or.inl ⟨rfl, by
                    rcases hS with ⟨_, z⟩ | ⟨z, _⟩
                    · exact fun i h => all_lt (P := fun i => f i k = f i y) z (by omega) h
                    · omega⟩) rfl
                | exact ih31 _ (by omega) (x + 1) _ _ (by omega) (by omega) (Or.inr ⟨rfl, fun zz => by
                    rcases hS with ⟨z, _⟩ | ⟨_, z⟩
                    · first | omega | (have := zz x (by omega); omega)
                    · exact z (fun i hi => zz i (by omega))⟩) rfl
              · refine go_aload_n (j := 0) (q := 48) rfl rfl dX7_differentTranslations_47 rfl ?_
                refine go_iload (j := 6) (q := 50) rfl dX7_differentTranslations_48 rfl ?_
                refine go_iload (j := 4) (q := 52) rfl dX7_differentTranslations_50 rfl ?_
                refine go_callVi (as := [_, _, _]) (As := [_, _]) (rest := []) (n := 2) (q := 55) dX7_differentTranslations_52 lk_X7_67 (ci := 7) (N := 16) (T := TX7) rfl (by first | assumption | rfl) rfl rfl (by decide +kernel) rfl ⟨by decide, by decide⟩ ⟨rfl, rfl⟩ (Nat.le_of_ble_eq_true rfl) (em_times hT (x := x) (y := k) ex ek (by omega) (by omega)) rfl (fun x52 w52 h52 => ?_)
                obtain ⟨rfl, rfl⟩ := h52
                refine go_aload_n (j := 0) (q := 56) rfl rfl dX7_differentTranslations_55 rfl ?_
                refine go_iload (j := 6) (q := 58) rfl dX7_differentTranslations_56 rfl ?_
                refine go_iload_n (j := 2) (q := 59) rfl rfl dX7_differentTranslations_58 rfl ?_
                refine go_callVi (as := [_, _, _]) (As := [_, _]) (rest := [_]) (n := 2) (q := 62) dX7_differentTranslations_59 lk_X7_67 (ci := 7) (N := 16) (T := TX7) rfl (by first | assumption | rfl) rfl rfl (by decide +kernel) rfl ⟨by decide, by decide⟩ ⟨rfl, rfl⟩ (Nat.le_of_ble_eq_true rfl) (em_times hT (x := x) (y := y) ex ey (by omega) (by omega)) rfl (fun x59 w59 h59 => ?_)
                obtain ⟨rfl, rfl⟩ := h59
                have b1 := hr x k (by omega) (by omega)
                have b2 := hr x y (by omega) (by omega)
                refine go_icmp_ne2 (q := 65) (t := 69) dX7_differentTranslations_62 (by decide) rfl (by omega) (fun c62 => ?_) (fun c62 => ?_)
                · refine go_iconst (q := 70) dX7_differentTranslations_69 rfl ?_
                  refine go_istore (j := 5) (q := 72) (ls2 := [_, _, _, _, _, _, _]) (by decide) rfl rfl dX7_differentTranslations_70 rfl ?_
                  refine go_iinc (j := 6) (q := 75) (ls2 := [_, _, _, _, _, _, _]) rfl (by decide) rfl rfl dX7_differentTranslations_72 rfl ?_
                  refine go_goto (q := 31) dX7_differentTranslations_75 (by decide) ?_
                  first
                  | exact ih31 _ (by omega) (x + 1) _ _ (by omega) (by omega) (Or.inl ⟨rfl, by
                      rcases hS with ⟨_, z⟩ | ⟨z, _⟩
                      · exact fun i h => all_lt (P := fun i => f i k = f i y) z (by omega) h
                      · omega⟩) rfl
                  | exact ih31 _ (by omega) (x + 1) _ _ (by omega) (by omega) (Or.inr ⟨rfl, fun zz => by
                      rcases hS with ⟨z, _⟩ | ⟨_, z⟩
                      · first | omega | (have := zz x (by omega); omega)
                      · exact z (fun i hi => zz i (by omega))⟩) rfl
                · refine go_iconst (q := 66) dX7_differentTranslations_65 rfl ?_
                  refine go_goto (q := 70) dX7_differentTranslations_66 (by decide) ?_
                  refine go_istore (j := 5) (q := 72) (ls2 := [_, _, _, _, _, _, _]) (by decide) rfl rfl dX7_differentTranslations_70 rfl ?_
                  refine go_iinc (j := 6) (q := 75) (ls2 := [_, _, _, _, _, _, _]) rfl (by decide) rfl rfl dX7_differentTranslations_72 rfl ?_
                  refine go_goto (q := 31) dX7_differentTranslations_75 (by decide) ?_
                  first
                  | exact ih31 _ (by omega) (x + 1) _ _ (by omega) (by omega) (Or.inl ⟨rfl, by
                      rcases hS with ⟨_, z⟩ | ⟨z, _⟩
                      · exact fun i h => all_lt (P := fun i => f i k = f i y) z (by omega) h
                      · omega⟩) rfl
                  | exact ih31 _ (by omega) (x + 1) _ _ (by omega) (by omega) (Or.inr ⟨rfl, fun zz => by
                      rcases hS with ⟨z, _⟩ | ⟨_, z⟩
                      · first | omega | (have := zz x (by omega); omega)
                      · exact z (fun i hi => zz i (by omega))⟩) rfl
          exact lp31 _ 0 0 1 rfl (by omega) (Or.inl ⟨rfl, fun j h => absurd h (Nat.not_lt_zero j)⟩) rfl
      exact lp19 _ 0 0 1 _ _ rfl (by omega) (Or.inl ⟨rfl, fun j h => absurd h (Nat.not_lt_zero j)⟩) rfl
  exact lp4 _ 0 0 0 _ _ _ _ rfl (by omega) rfl rfl
theorem em15 (hP : PMW w W) : eX7_translations l D ck ad shA [vR 45] w (Pi (MR w (op15 W))) := by
  refine ev_of_goK (own := RX7) (ls := [some (vR 45)]) (by decide +kernel) rfl rfl (Nat.le_of_ble_eq_true rfl) rkI ?_
  intro K hK
  refine go_aload_n (j := 0) (q := 1) rfl rfl dX7_translations_0 rfl ?_
  refine go_callVi (as := [_]) (As := []) (rest := []) (n := 0) (q := 4) dX7_translations_1 lk_X7_112 (ci := 7) (N := 16) (T := TX7) rfl (by first | assumption | rfl) rfl rfl (by decide +kernel) rfl ⟨by decide, by decide⟩ ⟨rfl, rfl⟩ (Nat.le_of_ble_eq_true rfl) (em_differentTranslations hP.1.1) rfl (fun x1 w1 h1 => ?_)
  obtain ⟨rfl, rfl⟩ := h1
  refine go_iret dX7_translations_4 ?_
  subst hK; exact ⟨_, rfl, rfl, hP, fun c k _ => rfl⟩
end M3
