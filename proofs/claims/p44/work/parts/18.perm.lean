theorem unrS_le (r : Nat) : ∀ k, (unrS r k).1 ≤ r
  | 0 => Nat.le_refl r
  | k + 1 => Nat.le_trans (Nat.div_le_self _ _) (unrS_le r k)
theorem unrS_lt (r : Nat) : ∀ k j, j < k → ix (unrS r k).2 j < k
  | 0, j, h => absurd h (Nat.not_lt_zero j)
  | k + 1, 0, _ => by show (unrS r k).1 % (k + 1) < k + 1; exact Nat.mod_lt _ (by omega)
  | k + 1, j + 1, h => by
    have e : ix (unrS r (k + 1)).2 (j + 1) = ix ((unrS r k).2.map (fun v => if (unrS r k).1 % (k + 1) ≤ v then v + 1 else v)) j := rfl
    rw [e, ix_map (by rw [unrS_len]; omega)]
    have := unrS_lt r k j (by omega)
    split <;> omega
theorem nar_b1 : narZ .boolean 1 = 1 := by decide +kernel
theorem nar_b0 : narZ .boolean 0 = 0 := by decide +kernel
def keepsL (n : Nat) (f : Nat → Nat → Nat) (L : List Nat) : Prop := ∀ x y, x < n → y < n → ix L (f x y) = f (ix L x) (ix L y)
noncomputable def keepsB (n : Nat) (f : Nat → Nat → Nat) (L : List Nat) : Bool := @decide (keepsL n f L) (Classical.propDecidable _)
theorem keepsB_iff {n : Nat} {f : Nat → Nat → Nat} {L : List Nat} : keepsB n f L = true ↔ keepsL n f L := @decide_eq_true_iff _ (Classical.propDecidable _)
noncomputable def autN (n : Nat) (f : Nat → Nat → Nat) : Nat := cN (fun r => keepsB n f (unr n r)) (fcN n)
theorem gD_l {Q : List (List Nat)} {q : List Nat} {i : Nat} (h : i < Q.length) : (Q ++ [q]).getD i [] = Q.getD i [] := by
  simp [List.getD_eq_getElem?_getD, List.getElem?_append, h]
theorem gD_r {Q : List (List Nat)} {q : List Nat} : (Q ++ [q]).getD Q.length [] = q := by
  simp [List.getD_eq_getElem?_getD]
theorem gD_mem {Q : List (List Nat)} {i : Nat} (h : i < Q.length) : Q.getD i [] ∈ Q := by
  simp [List.getD_eq_getElem?_getD, h]
theorem fac_i {a b : Int} {n k : Nat} (ha : a = fcN n) (hb : b = ((n + 1 : Nat) : Int)) : a * b = (fcN (n + 1) : Int) := by
  rw [ha, hb]; show _ = ((fcN n * (n + 1) : Nat) : Int); rw [Int.natCast_mul]
section PERM
variable {l : Launch} {D : va_G} {ck : Nat → ClassId} {ad : Nat → Nat} {w : Mem} {n : Nat} {f : Nat → Nat → Nat}
theorem ev_unrank {r : Nat} {ri ni : Int} (er : ri = r) (hr : r < 720) (en : ni = n) (hn : 1 ≤ n ∧ n ≤ 6) :
    eX4_unrank l D ck ad shA [vR 5, vI ri, vI ni] w (Pv fun w1 => (∀ i, i < n → w1 6 i = (ix (unr n r) i : Int)) ∧ ∀ c k, c ≠ 6 → w1 c k = w c k) := by
  refine ev_of_goK (own := RX4) (ls := [some (vR 5), some (vI ri), some (vI ni), none, none, none, none, none]) (by decide +kernel) rfl rfl (Nat.le_of_ble_eq_true rfl) rkV ?_
  intro K hK
  refine go_iload_n (j := 1) (q := 1) rfl rfl dX4_unrank_0 rfl ?_
  refine go_istore_n (j := 3) (q := 2) (ls2 := [_, _, _, _, _, _, _, _]) rfl (by decide) rfl rfl dX4_unrank_1 rfl ?_
  refine go_iload_n (j := 2) (q := 3) rfl rfl dX4_unrank_2 rfl ?_
  refine go_iconst (q := 4) dX4_unrank_3 rfl ?_
  refine go_isub (q := 5) dX4_unrank_4 rfl ?_
  refine go_istore (j := 4) (q := 7) (ls2 := [_, _, _, _, _, _, _, _]) (by decide) rfl rfl dX4_unrank_5 rfl ?_
  have lp7 : ∀ (m7 : Nat) (k : Nat) (qi xi : Int) (u v t : Option MV) (w1 : Mem) (hk : k ≤ n) (ex : xi = (n : Int) - 1 - k) (eq : qi = ((unrS r k).1 : Nat)) (hi : ∀ j, j < k → w1 6 (n - k + j) = (ix (unrS r k).2 j : Int)) (hf : ∀ c k, c ≠ 6 → w1 c k = w c k), m7 = n - k → gX4_unrank l D ck ad shA 7 [some (vR 5), some (vI ri), some (vI ni), some (vI qi), some (vI xi), u, v, t] [] w1 K := by
    intro m7
    induction m7 using Nat.strongRecOn with
    | _ m7 ih7 =>
    intro k qi xi u v t w1 hk ex eq hi hf em7
    refine go_iload (j := 4) (q := 9) rfl dX4_unrank_7 rfl ?_
    refine go_if_lt2 (q := 12) (t := 85) dX4_unrank_9 (by decide) rfl (by omega) (fun c9 => ?_) (fun c9 => ?_)
    · refine go_vret dX4_unrank_85 ?_
      subst hK
      have ekn : k = n := by omega
      subst ekn
      exact ⟨rfl, fun i h => by have := hi i h; rw [show k - k + i = i by omega] at this; exact this, hf⟩
    · have b1 := unrS_le r k
      have e1 : ni - xi = ((k + 1 : Nat) : Int) := by omega
      have e2 : qi.tmod (ni - xi) = (((unrS r k).1 % (k + 1) : Nat) : Int) := by rw [e1, eq]; exact (Int.ofNat_tmod _ _).symm
      have e3 : qi.tdiv (ni - xi) = (((unrS r k).1 / (k + 1) : Nat) : Int) := by rw [e1, eq]; exact (Int.ofNat_tdiv _ _).symm
      have b2 : (unrS r k).1 % (k + 1) < k + 1 := Nat.mod_lt _ (by omega)
      refine go_iload_n (j := 2) (q := 13) rfl rfl dX4_unrank_12 rfl ?_
      refine go_iload (j := 4) (q := 15) rfl dX4_unrank_13 rfl ?_
      refine go_isub (q := 16) dX4_unrank_15 rfl ?_
      refine go_istore (j := 5) (q := 18) (ls2 := [_, _, _, _, _, _, _, _]) (by decide) rfl rfl dX4_unrank_16 rfl ?_
      refine go_iload_n (j := 3) (q := 19) rfl rfl dX4_unrank_18 rfl ?_
      refine go_iload (j := 5) (q := 21) rfl dX4_unrank_19 rfl ?_
      refine go_irem2 (q := 22) (by omega) (by omega) dX4_unrank_21 rfl ?_
      rw [e2]
      refine go_istore (j := 6) (q := 24) (ls2 := [_, _, _, _, _, _, _, _]) (by decide) rfl rfl dX4_unrank_22 rfl ?_
      refine go_iload_n (j := 3) (q := 25) rfl rfl dX4_unrank_24 rfl ?_
      refine go_iload (j := 5) (q := 27) rfl dX4_unrank_25 rfl ?_
      refine go_idiv2 (q := 28) (by omega) (by omega) dX4_unrank_27 rfl ?_
      rw [e3]
      refine go_istore_n (j := 3) (q := 29) (ls2 := [_, _, _, _, _, _, _, _]) rfl (by decide) rfl rfl dX4_unrank_28 rfl ?_
      refine go_aload_n (j := 0) (q := 30) rfl rfl dX4_unrank_29 rfl ?_
      refine go_getR (C0 := RX4) (T := TX4) (N := 4) (ci := 4) (i := 0) (q := 33) rfl igX4 (by first | assumption | rfl) (by decide) fl_X4_9 rfl dX4_unrank_30 rfl ?_
      refine go_iload (j := 4) (q := 35) rfl dX4_unrank_33 rfl ?_
      refine go_iload (j := 6) (q := 37) rfl dX4_unrank_35 rfl ?_
      refine go_iast (j := n - 1 - k) (q := 38) (by first | assumption | rfl) (wr_eq (by omega)) (by omega) dX4_unrank_37 rfl ?_
      refine go_iload (j := 4) (q := 40) rfl dX4_unrank_38 rfl ?_
      refine go_iconst (q := 41) dX4_unrank_40 rfl ?_
      refine go_iadd (q := 42) dX4_unrank_41 rfl ?_
      refine go_istore (j := 7) (q := 44) (ls2 := [_, _, _, _, _, _, _, _]) (by decide) rfl rfl dX4_unrank_42 rfl ?_
      have lp44 : ∀ (m44 : Nat) (j : Nat) (zi : Int) (u2 : Option MV) (w2 : Mem) (hj : j ≤ k) (ez : zi = (n : Int) - k + j) (hx2 : w2 6 (n - 1 - k) = (((unrS r k).1 % (k + 1) : Nat) : Int)) (hi2 : ∀ i, i < k → w2 6 (n - k + i) = ((if i < j then (if (unrS r k).1 % (k + 1) ≤ ix (unrS r k).2 i then ix (unrS r k).2 i + 1 else ix (unrS r k).2 i) else ix (unrS r k).2 i : Nat) : Int)) (hf2 : ∀ c k, c ≠ 6 → w2 c k = w c k), m44 = k - j → gX4_unrank l D ck ad shA 44 [some (vR 5), some (vI ri), some (vI ni), (some (vI ((unrS r k).1 / (k + 1) : Nat))), some (vI xi), u2, (some (vI ((unrS r k).1 % (k + 1) : Nat))), some (vI zi)] [] w2 K := by
        intro m44
        induction m44 using Nat.strongRecOn with
        | _ m44 ih44 =>
        intro j zi u2 w2 hj ez hx2 hi2 hf2 em44
        refine go_iload (j := 7) (q := 46) rfl dX4_unrank_44 rfl ?_
        refine go_iload_n (j := 2) (q := 47) rfl rfl dX4_unrank_46 rfl ?_
        refine go_icmp_ge2 (q := 50) (t := 79) dX4_unrank_47 (by decide) rfl (by omega) (fun c47 => ?_) (fun c47 => ?_)
        · refine go_iinc (j := 4) (q := 82) (ls2 := [_, _, _, _, _, _, _, _]) rfl (by decide) rfl rfl dX4_unrank_79 rfl ?_
          refine go_goto (q := 7) dX4_unrank_82 (by decide) ?_
          exact ih7 _ (by omega) (k + 1) _ _ _ _ _ _ (by omega) (by omega) rfl (by
            intro i h
            rcases i with _ | i
            · show w2 6 (n - (k + 1) + 0) = (((unrS r k).1 % (k + 1) : Nat) : Int)
              rw [← hx2]; congr 1; omega
            · have e4 : ix (unrS r (k + 1)).2 (i + 1) = ix ((unrS r k).2.map (fun v => if (unrS r k).1 % (k + 1) ≤ v then v + 1 else v)) i := rfl
              rw [e4, ix_map (by rw [unrS_len]; omega), show n - (k + 1) + (i + 1) = n - k + i by omega, hi2 i (by omega), if_pos (by omega)]) hf2 rfl
        · have b3 := unrS_lt r k j (by omega)
          have e5 := hi2 j (by omega)
          rw [if_neg (by omega)] at e5
          refine go_aload_n (j := 0) (q := 51) rfl rfl dX4_unrank_50 rfl ?_
          refine go_getR (C0 := RX4) (T := TX4) (N := 4) (ci := 4) (i := 0) (q := 54) rfl igX4 (by first | assumption | rfl) (by decide) fl_X4_9 rfl dX4_unrank_51 rfl ?_
          refine go_iload (j := 7) (q := 56) rfl dX4_unrank_54 rfl ?_
          refine go_iald (j := n - k + j) (q := 57) (by first | assumption | rfl) (wr_eq (by omega)) (by omega) dX4_unrank_56 rfl ?_
          refine go_iload (j := 6) (q := 59) rfl dX4_unrank_57 rfl ?_
          refine go_icmp_lt2 (q := 62) (t := 73) dX4_unrank_59 (by decide) rfl (by omega) (fun c59 => ?_) (fun c59 => ?_)
          · refine go_iinc (j := 7) (q := 76) (ls2 := [_, _, _, _, _, _, _, _]) rfl (by decide) rfl rfl dX4_unrank_73 rfl ?_
            refine go_goto (q := 44) dX4_unrank_76 (by decide) ?_
            first
            | exact ih44 _ (by omega) (j + 1) _ _ _ (by omega) (by omega) (by rw [mup_ne (by omega)]; exact hx2) (by
                intro i h
                by_cases q : i = j
                · subst q; rw [mup_eq, if_pos (by omega), if_pos (by omega), e5]; omega
                · rw [mup_ne (by omega), hi2 i h]
                  by_cases q2 : i < j
                  · rw [if_pos q2, if_pos (show i < j + 1 by omega)]
                  · rw [if_neg q2, if_neg (show ¬ i < j + 1 by omega)]) (fun c k h => by rw [mup_ne (Or.inl h)]; exact hf2 c k h) rfl
            | exact ih44 _ (by omega) (j + 1) _ _ _ (by omega) (by omega) hx2 (by
                intro i h
                by_cases q : i = j
                · subst q; rw [if_pos (by omega), if_neg (by omega), e5]
                · rw [hi2 i h]
                  by_cases q2 : i < j
                  · rw [if_pos q2, if_pos (show i < j + 1 by omega)]
                  · rw [if_neg q2, if_neg (show ¬ i < j + 1 by omega)]) hf2 rfl
          · refine go_aload_n (j := 0) (q := 63) rfl rfl dX4_unrank_62 rfl ?_
            refine go_getR (C0 := RX4) (T := TX4) (N := 4) (ci := 4) (i := 0) (q := 66) rfl igX4 (by first | assumption | rfl) (by decide) fl_X4_9 rfl dX4_unrank_63 rfl ?_
            refine go_iload (j := 7) (q := 68) rfl dX4_unrank_66 rfl ?_
            refine go_dup2 (q := 69) (fun _ z => by cases z) (fun _ z => by cases z) dX4_unrank_68 rfl ?_
            refine go_iald (j := n - k + j) (q := 70) (by first | assumption | rfl) (wr_eq (by omega)) (by omega) dX4_unrank_69 rfl ?_
            refine go_iconst (q := 71) dX4_unrank_70 rfl ?_
            refine go_iadd (q := 72) dX4_unrank_71 rfl ?_
            refine go_iast (j := n - k + j) (q := 73) (by first | assumption | rfl) (wr_eq (by omega)) (by omega) dX4_unrank_72 rfl ?_
            refine go_iinc (j := 7) (q := 76) (ls2 := [_, _, _, _, _, _, _, _]) rfl (by decide) rfl rfl dX4_unrank_73 rfl ?_
            refine go_goto (q := 44) dX4_unrank_76 (by decide) ?_
            first
            | exact ih44 _ (by omega) (j + 1) _ _ _ (by omega) (by omega) (by rw [mup_ne (by omega)]; exact hx2) (by
                intro i h
                by_cases q : i = j
                · subst q; rw [mup_eq, if_pos (by omega), if_pos (by omega), e5]; omega
                · rw [mup_ne (by omega), hi2 i h]
                  by_cases q2 : i < j
                  · rw [if_pos q2, if_pos (show i < j + 1 by omega)]
                  · rw [if_neg q2, if_neg (show ¬ i < j + 1 by omega)]) (fun c k h => by rw [mup_ne (Or.inl h)]; exact hf2 c k h) rfl
            | exact ih44 _ (by omega) (j + 1) _ _ _ (by omega) (by omega) hx2 (by
                intro i h
                by_cases q : i = j
                · subst q; rw [if_pos (by omega), if_neg (by omega), e5]
                · rw [hi2 i h]
                  by_cases q2 : i < j
                  · rw [if_pos q2, if_pos (show i < j + 1 by omega)]
                  · rw [if_neg q2, if_neg (show ¬ i < j + 1 by omega)]) hf2 rfl
      exact lp44 _ 0 _ _ _ (by omega) (by omega) (by rw [mup_eq]) (fun i h => by rw [mup_ne (by omega), if_neg (by omega)]; exact hi i h) (fun c k h => by rw [mup_ne (Or.inl h)]; exact hf c k h) rfl
  exact lp7 _ 0 _ _ _ _ _ _ (by omega) (by omega) er (fun j h => absurd h (Nat.not_lt_zero j)) (fun c k h => rfl) rfl
theorem ev_startAtIdentity :
    eX4_startAtIdentity l D ck ad shA [vR 5] w (Pv fun w1 => (∀ r, r < 720 → w1 9 r = if r = 0 then 1 else 0) ∧ w1 8 0 = 0 ∧ ∀ c k, c ≠ 8 → c ≠ 9 → w1 c k = w c k) := by
  refine ev_of_goK (own := RX4) (ls := [some (vR 5), none]) (by decide +kernel) rfl rfl (Nat.le_of_ble_eq_true rfl) rkV ?_
  intro K hK
  refine go_iconst (q := 1) dX4_startAtIdentity_0 rfl ?_
  refine go_istore_n (j := 1) (q := 2) (ls2 := [_, _]) rfl (by decide) rfl rfl dX4_startAtIdentity_1 rfl ?_
  have lp2 : ∀ (m2 : Nat) (r : Nat) (ri : Int) (w1 : Mem) (er : ri = r) (hr : r ≤ 720) (hi : ∀ j, j < r → w1 9 j = 0) (hf : ∀ c k, c ≠ 9 → w1 c k = w c k), m2 = 720 - r → gX4_startAtIdentity l D ck ad shA 2 [some (vR 5), some (vI ri)] [] w1 K := by
    intro m2
    induction m2 using Nat.strongRecOn with
    | _ m2 ih2 =>
    intro r ri w1 er hr hi hf em2
    refine go_iload_n (j := 1) (q := 3) rfl rfl dX4_startAtIdentity_2 rfl ?_
    refine go_sipush (q := 6) rfl dX4_startAtIdentity_3 rfl ?_
    refine go_icmp_ge2 (q := 9) (t := 22) dX4_startAtIdentity_6 (by decide) rfl (by omega) (fun c6 => ?_) (fun c6 => ?_)
    · refine go_aload_n (j := 0) (q := 23) rfl rfl dX4_startAtIdentity_22 rfl ?_
      refine go_getR (C0 := RX4) (T := TX4) (N := 4) (ci := 4) (i := 3) (q := 26) rfl igX4 (by first | assumption | rfl) (by decide) fl_X4_21 rfl dX4_startAtIdentity_23 rfl ?_
      refine go_iconst (q := 27) dX4_startAtIdentity_26 rfl ?_
      refine go_iconst (q := 28) dX4_startAtIdentity_27 rfl ?_
      refine go_zast (j := 0) (q := 29) (by first | assumption | rfl) (wr_eq (by omega)) (by omega) dX4_startAtIdentity_28 rfl ?_
      refine go_aload_n (j := 0) (q := 30) rfl rfl dX4_startAtIdentity_29 rfl ?_
      refine go_getR (C0 := RX4) (T := TX4) (N := 4) (ci := 4) (i := 2) (q := 33) rfl igX4 (by first | assumption | rfl) (by decide) fl_X4_18 rfl dX4_startAtIdentity_30 rfl ?_
      refine go_iconst (q := 34) dX4_startAtIdentity_33 rfl ?_
      refine go_iconst (q := 35) dX4_startAtIdentity_34 rfl ?_
      refine go_iast (j := 0) (q := 36) (by first | assumption | rfl) (wr_eq (by omega)) (by omega) dX4_startAtIdentity_35 rfl ?_
      refine go_vret dX4_startAtIdentity_36 ?_
      subst hK
      refine ⟨rfl, fun j h => ?_, by rw [mup_eq], fun c k h1 h2 => by rw [mup_ne (Or.inl h1), mup_ne (Or.inl h2)]; exact hf c k h2⟩
      rw [mup_ne (by omega)]
      by_cases q : j = 0
      · subst q; rw [mup_eq, nar_b1, if_pos rfl]
      · rw [mup_ne (by omega), if_neg q]; exact hi j (by omega)
    · refine go_aload_n (j := 0) (q := 10) rfl rfl dX4_startAtIdentity_9 rfl ?_
      refine go_getR (C0 := RX4) (T := TX4) (N := 4) (ci := 4) (i := 3) (q := 13) rfl igX4 (by first | assumption | rfl) (by decide) fl_X4_21 rfl dX4_startAtIdentity_10 rfl ?_
      refine go_iload_n (j := 1) (q := 14) rfl rfl dX4_startAtIdentity_13 rfl ?_
      refine go_iconst (q := 15) dX4_startAtIdentity_14 rfl ?_
      refine go_zast (j := r) (q := 16) (by first | assumption | rfl) (wr_eq (by omega)) (by omega) dX4_startAtIdentity_15 rfl ?_
      refine go_iinc (j := 1) (q := 19) (ls2 := [_, _]) rfl (by decide) rfl rfl dX4_startAtIdentity_16 rfl ?_
      refine go_goto (q := 2) dX4_startAtIdentity_19 (by decide) ?_
      exact ih2 _ (by omega) (r + 1) _ _ (by omega) (by omega) (by
        intro j h
        by_cases q : j = r
        · subst q; rw [mup_eq, nar_b0]
        · rw [mup_ne (by omega)]; exact hi j (by omega)) (fun c k h => by rw [mup_ne (Or.inl h)]; exact hf c k h) rfl
  exact lp2 _ 0 0 _ rfl (by omega) (fun j h => absurd h (Nat.not_lt_zero j)) (fun c k h => rfl) rfl
theorem lwC_le (c : Nat → Nat) (x k : Nat) : lwC c x k ≤ k := cN_le _ k
theorem ev_rankBehind {L : List Nat} {y : Nat} {yi : Int} (hT : TB w 1 n f) (hL : L.length = n) (hLl : ∀ i, i < n → ix L i < n) (hI : ∀ i, i < n → w 6 i = (ix L i : Int)) (ey : yi = y) (hy : y < n) :
    eX4_rankBehind l D ck ad shA [vR 5, vR 1, vI yi] w (Pi fun v w1 => v = (rkF n (ix (nxtL f L y)) : Int) ∧ ∀ c k, c ≠ 7 → w1 c k = w c k) := by
  have hT0 := hT
  obtain ⟨h0, hn, hf⟩ := hT
  have en : ∀ i, i < n → ix (nxtL f L y) i = f (ix L i) y := fun i hi => ix_map (by rw [hL]; exact hi)
  have ln : ∀ i, i < n → ix (nxtL f L y) i < n := fun i hi => by rw [en i hi]; exact (hf _ _ (hLl i hi) hy).2
  refine ev_of_goK (own := RX4) (ls := [some (vR 5), some (vR 1), some (vI yi), none, none, none, none]) (by decide +kernel) rfl rfl (Nat.le_of_ble_eq_true rfl) rkI ?_
  intro K hK
  refine go_iconst (q := 1) dX4_rankBehind_0 rfl ?_
  refine go_istore_n (j := 3) (q := 2) (ls2 := [_, _, _, _, _, _, _]) rfl (by decide) rfl rfl dX4_rankBehind_1 rfl ?_
  have lp2 : ∀ (m2 : Nat) (x : Nat) (xi : Int) (u v t : Option MV) (w1 : Mem) (ex : xi = x) (hx : x ≤ n) (hi : ∀ j, j < x → w1 7 j = (ix (nxtL f L y) j : Int)) (hf1 : ∀ c k, c ≠ 7 → w1 c k = w c k), m2 = n - x → gX4_rankBehind l D ck ad shA 2 [some (vR 5), some (vR 1), some (vI yi), some (vI xi), u, v, t] [] w1 K := by
    intro m2
    induction m2 using Nat.strongRecOn with
    | _ m2 ih2 =>
    intro x xi u v t w1 ex hx hi hf1 em2
    have hT1 : TB w1 1 n f := TB_same hT0 (fun k => hf1 _ _ (by omega)) (fun k => hf1 _ _ (by omega))
    have g0 := hT1.1
    refine go_iload_n (j := 3) (q := 3) rfl rfl dX4_rankBehind_2 rfl ?_
    refine go_aload_n (j := 1) (q := 4) rfl rfl dX4_rankBehind_3 rfl ?_
    refine go_getI (C0 := RX5) (T := TX5) (N := 2) (ci := 5) (i := 0) (q := 7) rfl igX5 (by first | assumption | rfl) (by decide) fl_X4_28 rfl dX4_rankBehind_4 rfl ?_
    refine go_icmp_ge2 (q := 10) (t := 33) dX4_rankBehind_7 (by decide) rfl (by omega) (fun c7 => ?_) (fun c7 => ?_)
    · have hi9 : ∀ j, j < n → w1 7 j = (ix (nxtL f L y) j : Int) := fun j h => hi j (by omega)
      refine go_iconst (q := 34) dX4_rankBehind_33 rfl ?_
      refine go_istore_n (j := 3) (q := 35) (ls2 := [_, _, _, _, _, _, _]) rfl (by decide) rfl rfl dX4_rankBehind_34 rfl ?_
      refine go_iconst (q := 36) dX4_rankBehind_35 rfl ?_
      refine go_istore (j := 4) (q := 38) (ls2 := [_, _, _, _, _, _, _]) (by decide) rfl rfl dX4_rankBehind_36 rfl ?_
      have lp38 : ∀ (m38 : Nat) (z : Nat) (zi ai : Int) (u2 v2 : Option MV) (ez : zi = z) (hz : z ≤ n) (ea : ai = (rkT n (ix (nxtL f L y)) z : Nat)), m38 = n - z → gX4_rankBehind l D ck ad shA 38 [some (vR 5), some (vR 1), some (vI yi), some (vI ai), some (vI zi), u2, v2] [] w1 K := by
        intro m38
        induction m38 using Nat.strongRecOn with
        | _ m38 ih38 =>
        intro z zi ai u2 v2 ez hz ea em38
        refine go_iload (j := 4) (q := 40) rfl dX4_rankBehind_38 rfl ?_
        refine go_aload_n (j := 1) (q := 41) rfl rfl dX4_rankBehind_40 rfl ?_
        refine go_getI (C0 := RX5) (T := TX5) (N := 2) (ci := 5) (i := 0) (q := 44) rfl igX5 (by first | assumption | rfl) (by decide) fl_X4_28 rfl dX4_rankBehind_41 rfl ?_
        refine go_icmp_ge2 (q := 47) (t := 110) dX4_rankBehind_44 (by decide) rfl (by omega) (fun c44 => ?_) (fun c44 => ?_)
        · refine go_iload_n (j := 3) (q := 111) rfl rfl dX4_rankBehind_110 rfl ?_
          refine go_iret dX4_rankBehind_111 ?_
          subst hK
          exact ⟨_, rfl, by rw [ea, show z = n by omega]; rfl, hf1⟩
        · refine go_iconst (q := 48) dX4_rankBehind_47 rfl ?_
          refine go_istore (j := 5) (q := 50) (ls2 := [_, _, _, _, _, _, _]) (by decide) rfl rfl dX4_rankBehind_48 rfl ?_
          refine go_iload (j := 4) (q := 52) rfl dX4_rankBehind_50 rfl ?_
          refine go_iconst (q := 53) dX4_rankBehind_52 rfl ?_
          refine go_iadd (q := 54) dX4_rankBehind_53 rfl ?_
          refine go_istore (j := 6) (q := 56) (ls2 := [_, _, _, _, _, _, _]) (by decide) rfl rfl dX4_rankBehind_54 rfl ?_
          have lp56 : ∀ (m56 : Nat) (j : Nat) (ci bi : Int) (eb : bi = (z : Int) + 1 + j) (hj : j ≤ n - 1 - z) (ec : ci = (lwC (ix (nxtL f L y)) z j : Nat)), m56 = n - 1 - z - j → gX4_rankBehind l D ck ad shA 56 [some (vR 5), some (vR 1), some (vI yi), some (vI ai), some (vI zi), some (vI ci), some (vI bi)] [] w1 K := by
            intro m56
            induction m56 using Nat.strongRecOn with
            | _ m56 ih56 =>
            intro j ci bi eb hj ec em56
            refine go_iload (j := 6) (q := 58) rfl dX4_rankBehind_56 rfl ?_
            refine go_aload_n (j := 1) (q := 59) rfl rfl dX4_rankBehind_58 rfl ?_
            refine go_getI (C0 := RX5) (T := TX5) (N := 2) (ci := 5) (i := 0) (q := 62) rfl igX5 (by first | assumption | rfl) (by decide) fl_X4_28 rfl dX4_rankBehind_59 rfl ?_
            refine go_icmp_ge2 (q := 65) (t := 91) dX4_rankBehind_62 (by decide) rfl (by omega) (fun c62 => ?_) (fun c62 => ?_)
            · refine go_iload_n (j := 3) (q := 92) rfl rfl dX4_rankBehind_91 rfl ?_
              refine go_aload_n (j := 1) (q := 93) rfl rfl dX4_rankBehind_92 rfl ?_
              refine go_getI (C0 := RX5) (T := TX5) (N := 2) (ci := 5) (i := 0) (q := 96) rfl igX5 (by first | assumption | rfl) (by decide) fl_X4_28 rfl dX4_rankBehind_93 rfl ?_
              refine go_iload (j := 4) (q := 98) rfl dX4_rankBehind_96 rfl ?_
              refine go_isub (q := 99) dX4_rankBehind_98 rfl ?_
              refine go_imul (q := 100) dX4_rankBehind_99 rfl ?_
              refine go_iload (j := 5) (q := 102) rfl dX4_rankBehind_100 rfl ?_
              refine go_iadd (q := 103) dX4_rankBehind_102 rfl ?_
              refine go_istore_n (j := 3) (q := 104) (ls2 := [_, _, _, _, _, _, _]) rfl (by decide) rfl rfl dX4_rankBehind_103 rfl ?_
              refine go_iinc (j := 4) (q := 107) (ls2 := [_, _, _, _, _, _, _]) rfl (by decide) rfl rfl dX4_rankBehind_104 rfl ?_
              refine go_goto (q := 38) dX4_rankBehind_107 (by decide) ?_
              exact ih38 _ (by omega) (z + 1) _ _ _ _ (by omega) (by omega) (by
                show _ = ((rkT n (ix (nxtL f L y)) z * (n - z) + lwC (ix (nxtL f L y)) z (n - 1 - z) : Nat) : Int)
                rw [ec, ea, g0, ez, show j = n - 1 - z by omega, Int.natCast_add, Int.natCast_mul, show ((n - z : Nat) : Int) = (n : Int) - z by omega]) rfl
            · have e1 := hi9 (z + 1 + j) (by omega)
              have e2 := hi9 z (by omega)
              have l1 := ln (z + 1 + j) (by omega)
              have l2 := ln z (by omega)
              refine go_aload_n (j := 0) (q := 66) rfl rfl dX4_rankBehind_65 rfl ?_
              refine go_getR (C0 := RX4) (T := TX4) (N := 4) (ci := 4) (i := 1) (q := 69) rfl igX4 (by first | assumption | rfl) (by decide) fl_X4_15 rfl dX4_rankBehind_66 rfl ?_
              refine go_iload (j := 6) (q := 71) rfl dX4_rankBehind_69 rfl ?_
              refine go_iald (j := z + 1 + j) (q := 72) (by first | assumption | rfl) (wr_eq (by omega)) (by omega) dX4_rankBehind_71 rfl ?_
              refine go_aload_n (j := 0) (q := 73) rfl rfl dX4_rankBehind_72 rfl ?_
              refine go_getR (C0 := RX4) (T := TX4) (N := 4) (ci := 4) (i := 1) (q := 76) rfl igX4 (by first | assumption | rfl) (by decide) fl_X4_15 rfl dX4_rankBehind_73 rfl ?_
              refine go_iload (j := 4) (q := 78) rfl dX4_rankBehind_76 rfl ?_
              refine go_iald (j := z) (q := 79) (by first | assumption | rfl) (wr_eq (by omega)) (by omega) dX4_rankBehind_78 rfl ?_
              refine go_icmp_ge2 (q := 82) (t := 85) dX4_rankBehind_79 (by decide) rfl (by omega) (fun c79 => ?_) (fun c79 => ?_)
              · refine go_iinc (j := 6) (q := 88) (ls2 := [_, _, _, _, _, _, _]) rfl (by decide) rfl rfl dX4_rankBehind_85 rfl ?_
                refine go_goto (q := 56) dX4_rankBehind_88 (by decide) ?_
                first
                | exact ih56 _ (by omega) (j + 1) _ _ (by omega) (by omega) (by simp only [lwC, cN]; rw [if_pos (by simp; omega)]; unfold lwC at ec; omega) rfl
                | exact ih56 _ (by omega) (j + 1) _ _ (by omega) (by omega) (by simp only [lwC, cN]; rw [if_neg (by simp; omega)]; unfold lwC at ec; omega) rfl
              · refine go_iinc (j := 5) (q := 85) (ls2 := [_, _, _, _, _, _, _]) rfl (by decide) rfl rfl dX4_rankBehind_82 rfl ?_
                refine go_iinc (j := 6) (q := 88) (ls2 := [_, _, _, _, _, _, _]) rfl (by decide) rfl rfl dX4_rankBehind_85 rfl ?_
                refine go_goto (q := 56) dX4_rankBehind_88 (by decide) ?_
                first
                | exact ih56 _ (by omega) (j + 1) _ _ (by omega) (by omega) (by simp only [lwC, cN]; rw [if_pos (by simp; omega)]; unfold lwC at ec; omega) rfl
                | exact ih56 _ (by omega) (j + 1) _ _ (by omega) (by omega) (by simp only [lwC, cN]; rw [if_neg (by simp; omega)]; unfold lwC at ec; omega) rfl
          exact lp56 _ 0 0 _ (by omega) (by omega) rfl rfl
      exact lp38 _ 0 0 0 _ _ rfl (by omega) rfl rfl
    · refine go_aload_n (j := 0) (q := 11) rfl rfl dX4_rankBehind_10 rfl ?_
      refine go_getR (C0 := RX4) (T := TX4) (N := 4) (ci := 4) (i := 1) (q := 14) rfl igX4 (by first | assumption | rfl) (by decide) fl_X4_15 rfl dX4_rankBehind_11 rfl ?_
      refine go_iload_n (j := 3) (q := 15) rfl rfl dX4_rankBehind_14 rfl ?_
      refine go_aload_n (j := 1) (q := 16) rfl rfl dX4_rankBehind_15 rfl ?_
      refine go_aload_n (j := 0) (q := 17) rfl rfl dX4_rankBehind_16 rfl ?_
      refine go_getR (C0 := RX4) (T := TX4) (N := 4) (ci := 4) (i := 0) (q := 20) rfl igX4 (by first | assumption | rfl) (by decide) fl_X4_9 rfl dX4_rankBehind_17 rfl ?_
      refine go_iload_n (j := 3) (q := 21) rfl rfl dX4_rankBehind_20 rfl ?_
      refine go_iald (j := x) (q := 22) (by first | assumption | rfl) (wr_eq (by omega)) (by omega) dX4_rankBehind_21 rfl ?_
      refine go_iload_n (j := 2) (q := 23) rfl rfl dX4_rankBehind_22 rfl ?_
      have e6 : w1 6 x = (ix L x : Int) := by rw [hf1 _ _ (by omega)]; exact hI x (by omega)
      refine go_callVi (as := [_, _, _]) (As := [_, _]) (rest := [_, _]) (n := 2) (q := 26) dX4_rankBehind_23 lk_X4_42 (ci := 5) (N := 2) (T := TX5) rfl (by first | assumption | rfl) rfl rfl (by decide +kernel) rfl ⟨by decide, by decide⟩ ⟨rfl, rfl⟩ (Nat.le_of_ble_eq_true rfl) (ev_times rfl rfl hT1 (x := ix L x) (y := y) e6 ey (hLl x (by omega)) hy) rfl (fun x23 w23 h23 => ?_)
      obtain ⟨rfl, rfl⟩ := h23
      refine go_iast (j := x) (q := 27) (by first | assumption | rfl) (wr_eq (by omega)) (by omega) dX4_rankBehind_26 rfl ?_
      refine go_iinc (j := 3) (q := 30) (ls2 := [_, _, _, _, _, _, _]) rfl (by decide) rfl rfl dX4_rankBehind_27 rfl ?_
      refine go_goto (q := 2) dX4_rankBehind_30 (by decide) ?_
      exact ih2 _ (by omega) (x + 1) _ _ _ _ _ (by omega) (by omega) (by
        intro j h
        by_cases q : j = x
        · subst q; rw [mup_eq, en j (by omega)]
        · rw [mup_ne (by omega)]; exact hi j (by omega)) (fun c k h => by rw [mup_ne (Or.inl h)]; exact hf1 c k h) rfl
  exact lp2 _ 0 0 _ _ _ _ rfl (by omega) (fun j h => absurd h (Nat.not_lt_zero j)) (fun c k h => rfl) rfl
theorem ev_keepsProducts {L : List Nat} (hT : TB w 1 n f) (hLl : ∀ i, i < n → ix L i < n) (hI : ∀ i, i < n → w 6 i = (ix L i : Int)) :
    eX4_keepsProducts l D ck ad shA [vR 5, vR 1] w (Pz (fun w1 => w = w1 ∧ keepsL n f L) (fun w1 => w = w1 ∧ ¬ keepsL n f L)) := by
  have hT0 := hT
  obtain ⟨h0, hn, hf⟩ := hT
  have hr : ∀ i j, i < n → j < n → f i j < n := fun i j hi hj => (hf i j hi hj).2
  refine ev_of_goK (own := RX4) (ls := [some (vR 5), some (vR 1), none, none]) (by decide +kernel) rfl rfl (Nat.le_of_ble_eq_true rfl) rkZ ?_
  intro K hK
  refine go_iconst (q := 1) dX4_keepsProducts_0 rfl ?_
  refine go_istore_n (j := 2) (q := 2) (ls2 := [_, _, _, _]) rfl (by decide) rfl rfl dX4_keepsProducts_1 rfl ?_
  have lp2 : ∀ (m2 : Nat) (x : Nat) (xi : Int) (u : Option MV) (ex : xi = x) (hx : x ≤ n) (hi : ∀ i, i < x → ∀ j, j < n → ix L (f i j) = f (ix L i) (ix L j)), m2 = n - x → gX4_keepsProducts l D ck ad shA 2 [some (vR 5), some (vR 1), some (vI xi), u] [] w K := by
    intro m2
    induction m2 using Nat.strongRecOn with
    | _ m2 ih2 =>
    intro x xi u ex hx hi em2
    refine go_iload_n (j := 2) (q := 3) rfl rfl dX4_keepsProducts_2 rfl ?_
    refine go_aload_n (j := 1) (q := 4) rfl rfl dX4_keepsProducts_3 rfl ?_
    refine go_getI (C0 := RX5) (T := TX5) (N := 2) (ci := 5) (i := 0) (q := 7) rfl igX5 (by first | assumption | rfl) (by decide) fl_X4_28 rfl dX4_keepsProducts_4 rfl ?_
    refine go_icmp_ge2 (q := 10) (t := 64) dX4_keepsProducts_7 (by decide) rfl (by omega) (fun c7 => ?_) (fun c7 => ?_)
    · refine go_iconst (q := 65) dX4_keepsProducts_64 rfl ?_
      refine go_iret dX4_keepsProducts_65 ?_
      subst hK; exact Or.inl ⟨rfl, rfl, fun i j h1 h2 => hi i (by omega) j h2⟩
    · refine go_iconst (q := 11) dX4_keepsProducts_10 rfl ?_
      refine go_istore_n (j := 3) (q := 12) (ls2 := [_, _, _, _]) rfl (by decide) rfl rfl dX4_keepsProducts_11 rfl ?_
      have lp12 : ∀ (m12 : Nat) (y : Nat) (yi : Int) (ey : yi = y) (hy : y ≤ n) (hj : ∀ j, j < y → ix L (f x j) = f (ix L x) (ix L j)), m12 = n - y → gX4_keepsProducts l D ck ad shA 12 [some (vR 5), some (vR 1), some (vI xi), some (vI yi)] [] w K := by
        intro m12
        induction m12 using Nat.strongRecOn with
        | _ m12 ih12 =>
        intro y yi ey hy hj em12
        refine go_iload_n (j := 3) (q := 13) rfl rfl dX4_keepsProducts_12 rfl ?_
        refine go_aload_n (j := 1) (q := 14) rfl rfl dX4_keepsProducts_13 rfl ?_
        refine go_getI (C0 := RX5) (T := TX5) (N := 2) (ci := 5) (i := 0) (q := 17) rfl igX5 (by first | assumption | rfl) (by decide) fl_X4_28 rfl dX4_keepsProducts_14 rfl ?_
        refine go_icmp_ge2 (q := 20) (t := 58) dX4_keepsProducts_17 (by decide) rfl (by omega) (fun c17 => ?_) (fun c17 => ?_)
        · refine go_iinc (j := 2) (q := 61) (ls2 := [_, _, _, _]) rfl (by decide) rfl rfl dX4_keepsProducts_58 rfl ?_
          refine go_goto (q := 2) dX4_keepsProducts_61 (by decide) ?_
          exact ih2 _ (by omega) (x + 1) _ _ (by omega) (by omega) (fun i h => all_lt (P := fun i => ∀ j, j < n → ix L (f i j) = f (ix L i) (ix L j)) hi (fun j h => hj j (by omega)) h) rfl
        · refine go_aload_n (j := 0) (q := 21) rfl rfl dX4_keepsProducts_20 rfl ?_
          refine go_getR (C0 := RX4) (T := TX4) (N := 4) (ci := 4) (i := 0) (q := 24) rfl igX4 (by first | assumption | rfl) (by decide) fl_X4_9 rfl dX4_keepsProducts_21 rfl ?_
          refine go_aload_n (j := 1) (q := 25) rfl rfl dX4_keepsProducts_24 rfl ?_
          refine go_iload_n (j := 2) (q := 26) rfl rfl dX4_keepsProducts_25 rfl ?_
          refine go_iload_n (j := 3) (q := 27) rfl rfl dX4_keepsProducts_26 rfl ?_
          refine go_callVi (as := [_, _, _]) (As := [_, _]) (rest := [_]) (n := 2) (q := 30) dX4_keepsProducts_27 lk_X4_42 (ci := 5) (N := 2) (T := TX5) rfl (by first | assumption | rfl) rfl rfl (by decide +kernel) rfl ⟨by decide, by decide⟩ ⟨rfl, rfl⟩ (Nat.le_of_ble_eq_true rfl) (ev_times rfl rfl hT0 (x := x) (y := y) ex ey (by omega) (by omega)) rfl (fun x27 w27 h27 => ?_)
          obtain ⟨rfl, rfl⟩ := h27
          have b1 := hr x y (by omega) (by omega)
          have e1 := hI (f x y) b1
          have e2 := hI x (by omega)
          have e3 := hI y (by omega)
          have b2 := hLl (f x y) b1
          have b3 := hr (ix L x) (ix L y) (hLl x (by omega)) (hLl y (by omega))
          refine go_iald (j := f x y) (q := 31) (by first | assumption | rfl) (wr_eq (by omega)) (by omega) dX4_keepsProducts_30 rfl ?_
          refine go_aload_n (j := 1) (q := 32) rfl rfl dX4_keepsProducts_31 rfl ?_
          refine go_aload_n (j := 0) (q := 33) rfl rfl dX4_keepsProducts_32 rfl ?_
          refine go_getR (C0 := RX4) (T := TX4) (N := 4) (ci := 4) (i := 0) (q := 36) rfl igX4 (by first | assumption | rfl) (by decide) fl_X4_9 rfl dX4_keepsProducts_33 rfl ?_
          refine go_iload_n (j := 2) (q := 37) rfl rfl dX4_keepsProducts_36 rfl ?_
          refine go_iald (j := x) (q := 38) (by first | assumption | rfl) (wr_eq (by omega)) (by omega) dX4_keepsProducts_37 rfl ?_
          refine go_aload_n (j := 0) (q := 39) rfl rfl dX4_keepsProducts_38 rfl ?_
          refine go_getR (C0 := RX4) (T := TX4) (N := 4) (ci := 4) (i := 0) (q := 42) rfl igX4 (by first | assumption | rfl) (by decide) fl_X4_9 rfl dX4_keepsProducts_39 rfl ?_
          refine go_iload_n (j := 3) (q := 43) rfl rfl dX4_keepsProducts_42 rfl ?_
          refine go_iald (j := y) (q := 44) (by first | assumption | rfl) (wr_eq (by omega)) (by omega) dX4_keepsProducts_43 rfl ?_
          refine go_callVi (as := [_, _, _]) (As := [_, _]) (rest := [_]) (n := 2) (q := 47) dX4_keepsProducts_44 lk_X4_42 (ci := 5) (N := 2) (T := TX5) rfl (by first | assumption | rfl) rfl rfl (by decide +kernel) rfl ⟨by decide, by decide⟩ ⟨rfl, rfl⟩ (Nat.le_of_ble_eq_true rfl) (ev_times rfl rfl hT0 (x := ix L x) (y := ix L y) e2 e3 (hLl x (by omega)) (hLl y (by omega))) rfl (fun x44 w44 h44 => ?_)
          obtain ⟨rfl, rfl⟩ := h44
          refine go_icmp_eq2 (q := 50) (t := 52) dX4_keepsProducts_47 (by decide) rfl (by omega) (fun c47 => ?_) (fun c47 => ?_)
          · refine go_iinc (j := 3) (q := 55) (ls2 := [_, _, _, _]) rfl (by decide) rfl rfl dX4_keepsProducts_52 rfl ?_
            refine go_goto (q := 12) dX4_keepsProducts_55 (by decide) ?_
            exact ih12 _ (by omega) (y + 1) _ (by omega) (by omega) (fun i h => all_lt (P := fun j => ix L (f x j) = f (ix L x) (ix L j)) hj (by omega) h) rfl
          · refine go_iconst (q := 51) dX4_keepsProducts_50 rfl ?_
            refine go_iret dX4_keepsProducts_51 ?_
            subst hK; exact Or.inr ⟨rfl, rfl, fun z => by have := z x y (by omega) (by omega); omega⟩
      exact lp12 _ 0 0 rfl (by omega) (fun j h => absurd h (Nat.not_lt_zero j)) rfl
  exact lp2 _ 0 0 _ rfl (by omega) (fun j h => absurd h (Nat.not_lt_zero j)) rfl
theorem ev_countAutomorphisms (hT : TB w 1 n f) :
    eX4_countAutomorphisms l D ck ad shA [vR 5, vR 1] w (Pi fun v w1 => v = (autN n f : Int) ∧ ∀ c k, c ≠ 6 → w1 c k = w c k) := by
  have hT0 := hT
  obtain ⟨h0, hn, hf⟩ := hT
  have hfc : ∀ k, k ≤ 6 → fcN k ≤ 720 := fun k hk => fcN_le ⟨k, by omega⟩
  refine ev_of_goK (own := RX4) (ls := [some (vR 5), some (vR 1), none, none, none]) (by decide +kernel) rfl rfl (Nat.le_of_ble_eq_true rfl) rkI ?_
  intro K hK
  refine go_iconst (q := 1) dX4_countAutomorphisms_0 rfl ?_
  refine go_istore_n (j := 2) (q := 2) (ls2 := [_, _, _, _, _]) rfl (by decide) rfl rfl dX4_countAutomorphisms_1 rfl ?_
  refine go_iconst (q := 3) dX4_countAutomorphisms_2 rfl ?_
  refine go_istore_n (j := 3) (q := 4) (ls2 := [_, _, _, _, _]) rfl (by decide) rfl rfl dX4_countAutomorphisms_3 rfl ?_
  have lp4 : ∀ (m4 : Nat) (k : Nat) (ai fi : Int) (u : Option MV) (hk : 1 ≤ k ∧ k ≤ n) (ef : fi = (k : Int) + 1) (ea : ai = (fcN k : Nat)), m4 = n - k → gX4_countAutomorphisms l D ck ad shA 4 [some (vR 5), some (vR 1), some (vI ai), some (vI fi), u] [] w K := by
    intro m4
    induction m4 using Nat.strongRecOn with
    | _ m4 ih4 =>
    intro k ai fi u hk ef ea em4
    refine go_iload_n (j := 3) (q := 5) rfl rfl dX4_countAutomorphisms_4 rfl ?_
    refine go_aload_n (j := 1) (q := 6) rfl rfl dX4_countAutomorphisms_5 rfl ?_
    refine go_getI (C0 := RX5) (T := TX5) (N := 2) (ci := 5) (i := 0) (q := 9) rfl igX5 (by first | assumption | rfl) (by decide) fl_X4_28 rfl dX4_countAutomorphisms_6 rfl ?_
    refine go_icmp_gt2 (q := 12) (t := 22) dX4_countAutomorphisms_9 (by decide) rfl (by omega) (fun c9 => ?_) (fun c9 => ?_)
    · have ekn : k = n := by omega
      subst ekn
      have h72 := hfc k hn.2
      refine go_iconst (q := 23) dX4_countAutomorphisms_22 rfl ?_
      refine go_istore_n (j := 3) (q := 24) (ls2 := [_, _, _, _, _]) rfl (by decide) rfl rfl dX4_countAutomorphisms_23 rfl ?_
      refine go_iconst (q := 25) dX4_countAutomorphisms_24 rfl ?_
      refine go_istore (j := 4) (q := 27) (ls2 := [_, _, _, _, _]) (by decide) rfl rfl dX4_countAutomorphisms_25 rfl ?_
      have lp27 : ∀ (m27 : Nat) (r : Nat) (ri ci : Int) (w1 : Mem) (er : ri = r) (hr : r ≤ fcN k) (ec : ci = (cN (fun r => keepsB k f (unr k r)) r : Nat)) (hf1 : ∀ c k, c ≠ 6 → w1 c k = w c k), m27 = fcN k - r → gX4_countAutomorphisms l D ck ad shA 27 [some (vR 5), some (vR 1), some (vI ai), some (vI ci), some (vI ri)] [] w1 K := by
        intro m27
        induction m27 using Nat.strongRecOn with
        | _ m27 ih27 =>
        intro r ri ci w1 er hr ec hf1 em27
        have hT1 : TB w1 1 k f := TB_same hT0 (fun k => hf1 _ _ (by omega)) (fun k => hf1 _ _ (by omega))
        refine go_iload (j := 4) (q := 29) rfl dX4_countAutomorphisms_27 rfl ?_
        refine go_iload_n (j := 2) (q := 30) rfl rfl dX4_countAutomorphisms_29 rfl ?_
        refine go_icmp_ge2 (q := 33) (t := 60) dX4_countAutomorphisms_30 (by decide) rfl (by omega) (fun c30 => ?_) (fun c30 => ?_)
        · refine go_iload_n (j := 3) (q := 61) rfl rfl dX4_countAutomorphisms_60 rfl ?_
          refine go_iret dX4_countAutomorphisms_61 ?_
          subst hK
          exact ⟨_, rfl, by rw [ec, show r = fcN k by omega]; rfl, hf1⟩
        · refine go_aload_n (j := 0) (q := 34) rfl rfl dX4_countAutomorphisms_33 rfl ?_
          refine go_iload (j := 4) (q := 36) rfl dX4_countAutomorphisms_34 rfl ?_
          refine go_aload_n (j := 1) (q := 37) rfl rfl dX4_countAutomorphisms_36 rfl ?_
          refine go_getI (C0 := RX5) (T := TX5) (N := 2) (ci := 5) (i := 0) (q := 40) rfl igX5 (by first | assumption | rfl) (by decide) fl_X4_28 rfl dX4_countAutomorphisms_37 rfl ?_
          refine go_callVv (as := [_, _, _]) (As := [_, _]) (rest := []) (n := 2) (q := 43) dX4_countAutomorphisms_40 lk_X4_34 (ci := 4) (N := 4) (T := TX4) rfl (by first | assumption | rfl) rfl rfl (by decide +kernel) rfl ⟨by decide, by decide⟩ ⟨rfl, rfl⟩ (Nat.le_of_ble_eq_true rfl) (ev_unrank (n := k) (r := r) er (by omega) hT1.1 hn) rfl (fun w40 h40 => ?_)
          obtain ⟨i40, f40⟩ := h40
          have hT2 : TB w40 1 k f := TB_same hT1 (fun k => f40 _ _ (by omega)) (fun k => f40 _ _ (by omega))
          have hpl := (p1 (n := k) (r := r) hn.2 (by omega)).1
          have hf2 : ∀ c k, c ≠ 6 → w40 c k = w c k := fun c k h => by rw [f40 c k h]; exact hf1 c k h
          refine go_aload_n (j := 0) (q := 44) rfl rfl dX4_countAutomorphisms_43 rfl ?_
          refine go_aload_n (j := 1) (q := 45) rfl rfl dX4_countAutomorphisms_44 rfl ?_
          refine go_callVz (as := [_, _]) (As := [_]) (rest := []) (n := 1) (q := 48) dX4_countAutomorphisms_45 lk_X4_46 (ci := 4) (N := 4) (T := TX4) rfl (by first | assumption | rfl) rfl rfl (by decide +kernel) rfl ⟨by decide, by decide⟩ ⟨rfl, rfl⟩ (Nat.le_of_ble_eq_true rfl) (ev_keepsProducts (L := unr k r) hT2 (fun i hi => ix_lt hpl hi) i40) rfl (fun w45 h45 => ?_) (fun w45 h45 => ?_)
          · obtain ⟨rfl, h45⟩ := h45
            refine go_if_eqF (q := 51) (t := 54) dX4_countAutomorphisms_48 rfl (by decide) (by decide) ?_
            refine go_iinc (j := 3) (q := 54) (ls2 := [_, _, _, _, _]) rfl (by decide) rfl rfl dX4_countAutomorphisms_51 rfl ?_
            refine go_iinc (j := 4) (q := 57) (ls2 := [_, _, _, _, _]) rfl (by decide) rfl rfl dX4_countAutomorphisms_54 rfl ?_
            refine go_goto (q := 27) dX4_countAutomorphisms_57 (by decide) ?_
            first
            | exact ih27 _ (by omega) (r + 1) _ _ _ (by omega) (by omega) (by have q := keepsB_iff.mpr h45; simp only [cN, if_pos q]; omega) hf2 rfl
            | exact ih27 _ (by omega) (r + 1) _ _ _ (by omega) (by omega) (by have q : ¬ keepsB k f (unr k r) = true := fun q => h45 (keepsB_iff.mp q); simp only [cN, if_neg q]; omega) hf2 rfl
          · obtain ⟨rfl, h45⟩ := h45
            refine go_if_eqT (t := 54) dX4_countAutomorphisms_48 (by decide) (by decide) ?_
            refine go_iinc (j := 4) (q := 57) (ls2 := [_, _, _, _, _]) rfl (by decide) rfl rfl dX4_countAutomorphisms_54 rfl ?_
            refine go_goto (q := 27) dX4_countAutomorphisms_57 (by decide) ?_
            first
            | exact ih27 _ (by omega) (r + 1) _ _ _ (by omega) (by omega) (by have q := keepsB_iff.mpr h45; simp only [cN, if_pos q]; omega) hf2 rfl
            | exact ih27 _ (by omega) (r + 1) _ _ _ (by omega) (by omega) (by have q : ¬ keepsB k f (unr k r) = true := fun q => h45 (keepsB_iff.mp q); simp only [cN, if_neg q]; omega) hf2 rfl
      exact lp27 _ 0 0 0 _ rfl (by omega) rfl (fun c k h => rfl) rfl
    · refine go_iload_n (j := 2) (q := 13) rfl rfl dX4_countAutomorphisms_12 rfl ?_
      refine go_iload_n (j := 3) (q := 14) rfl rfl dX4_countAutomorphisms_13 rfl ?_
      refine go_imul (q := 15) dX4_countAutomorphisms_14 rfl ?_
      refine go_istore_n (j := 2) (q := 16) (ls2 := [_, _, _, _, _]) rfl (by decide) rfl rfl dX4_countAutomorphisms_15 rfl ?_
      refine go_iinc (j := 3) (q := 19) (ls2 := [_, _, _, _, _]) rfl (by decide) rfl rfl dX4_countAutomorphisms_16 rfl ?_
      refine go_goto (q := 4) dX4_countAutomorphisms_19 (by decide) ?_
      exact ih4 _ (by omega) (k + 1) _ _ _ (by omega) (by omega) (fac_i (k := 0) ea (by omega)) rfl
  exact lp4 _ 1 _ _ _ (by omega) (by omega) (by decide) rfl
theorem ev_countCompositions (hT : TB w 1 n f) (hpr : ∀ y, y < n → prm n f y) :
    eX4_countCompositions l D ck ad shA [vR 5, vR 1] w (Pi fun v w1 => v = (grpN n f : Int) ∧ ∀ c k, c ≠ 6 → c ≠ 7 → c ≠ 8 → c ≠ 9 → w1 c k = w c k) := by
  have hT0 := hT
  obtain ⟨h0, hn, hf⟩ := hT
  have hr : ∀ i j, i < n → j < n → f i j < n := fun i j hi hj => (hf i j hi hj).2
  have hfc : fcN n ≤ 720 := fcN_le ⟨n, by omega⟩
  have hfp : 1 ≤ fcN n := by
    rcases (show n = 1 ∨ n = 2 ∨ n = 3 ∨ n = 4 ∨ n = 5 ∨ n = 6 by omega) with rfl | rfl | rfl | rfl | rfl | rfl <;> decide
  have h00 := p1 (n := n) (r := 0) hn.2 hfp
  refine ev_of_goK (own := RX4) (ls := [some (vR 5), some (vR 1), none, none, none, none]) (by decide +kernel) rfl rfl (Nat.le_of_ble_eq_true rfl) rkI ?_
  intro K hK
  refine go_aload_n (j := 0) (q := 1) rfl rfl dX4_countCompositions_0 rfl ?_
  refine go_callVv (as := [_]) (As := []) (rest := []) (n := 0) (q := 4) dX4_countCompositions_1 lk_X4_25 (ci := 4) (N := 4) (T := TX4) rfl (by first | assumption | rfl) rfl rfl (by decide +kernel) rfl ⟨by decide, by decide⟩ ⟨rfl, rfl⟩ (Nat.le_of_ble_eq_true rfl) (ev_startAtIdentity) rfl (fun w1 h1 => ?_)
  obtain ⟨s1, q1, f1⟩ := h1
  refine go_iconst (q := 5) dX4_countCompositions_4 rfl ?_
  refine go_istore_n (j := 2) (q := 6) (ls2 := [_, _, _, _, _, _]) rfl (by decide) rfl rfl dX4_countCompositions_5 rfl ?_
  refine go_iconst (q := 7) dX4_countCompositions_6 rfl ?_
  refine go_istore_n (j := 3) (q := 8) (ls2 := [_, _, _, _, _, _]) rfl (by decide) rfl rfl dX4_countCompositions_7 rfl ?_
  have lp8 : ∀ (m8 : Nat) (h : Nat) (hi fi : Int) (u v : Option MV) (w2 : Mem) (Q : List (List Nat)) (eQ : Q = bfsH n f h) (hh : h ≤ Q.length) (gQ : goodQ n Q) (eh : hi = h) (ef : fi = (Q.length : Nat)) (hq : ∀ i, i < Q.length → w2 8 i = (rkF n (ix (Q.getD i [])) : Int)) (hs : ∀ r, r < 720 → (w2 9 r = 1 ∧ ∃ p, p ∈ Q ∧ rkF n (ix p) = r) ∨ (w2 9 r = 0 ∧ ∀ p, p ∈ Q → rkF n (ix p) ≠ r)) (hf2 : ∀ c k, c ≠ 6 → c ≠ 7 → c ≠ 8 → c ≠ 9 → w2 c k = w c k), m8 = 721 - h → gX4_countCompositions l D ck ad shA 8 [some (vR 5), some (vR 1), some (vI fi), some (vI hi), u, v] [] w2 K := by
    intro m8
    induction m8 using Nat.strongRecOn with
    | _ m8 ih8 =>
    intro h hi fi u v w2 Q eQ hh gQ eh ef hq hs hf2 em8
    have hlen := goodQ_len hn gQ
    refine go_iload_n (j := 3) (q := 9) rfl rfl dX4_countCompositions_8 rfl ?_
    refine go_iload_n (j := 2) (q := 10) rfl rfl dX4_countCompositions_9 rfl ?_
    refine go_icmp_ge2 (q := 13) (t := 96) dX4_countCompositions_10 (by decide) rfl (by omega) (fun c10 => ?_) (fun c10 => ?_)
    · refine go_iload_n (j := 2) (q := 97) rfl rfl dX4_countCompositions_96 rfl ?_
      refine go_iret dX4_countCompositions_97 ?_
      subst hK
      refine ⟨_, rfl, ?_, hf2⟩
      have e8 : h = Q.length := by omega
      have := bfs_stop (n := n) (f := f) (h := h) (by rw [← eQ]; omega) 720 (by omega)
      unfold grpN; rw [this, ← eQ]; exact ef
    · refine go_aload_n (j := 0) (q := 14) rfl rfl dX4_countCompositions_13 rfl ?_
      refine go_aload_n (j := 0) (q := 15) rfl rfl dX4_countCompositions_14 rfl ?_
      refine go_getR (C0 := RX4) (T := TX4) (N := 4) (ci := 4) (i := 2) (q := 18) rfl igX4 (by first | assumption | rfl) (by decide) fl_X4_18 rfl dX4_countCompositions_15 rfl ?_
      refine go_iload_n (j := 3) (q := 19) rfl rfl dX4_countCompositions_18 rfl ?_
      refine go_iald (j := h) (q := 20) (by first | assumption | rfl) (wr_eq (by omega)) (by omega) dX4_countCompositions_19 rfl ?_
      have hT2 : TB w2 1 n f := TB_same hT0 (fun k => hf2 _ _ (by omega) (by omega) (by omega) (by omega)) (fun k => hf2 _ _ (by omega) (by omega) (by omega) (by omega))
      have hmem := gD_mem (Q := Q) (i := h) (by omega)
      have hpp := gQ.2 _ hmem
      have hp2 := p2 hn hpp
      refine go_aload_n (j := 1) (q := 21) rfl rfl dX4_countCompositions_20 rfl ?_
      refine go_getI (C0 := RX5) (T := TX5) (N := 2) (ci := 5) (i := 0) (q := 24) rfl igX5 (by first | assumption | rfl) (by decide) fl_X4_28 rfl dX4_countCompositions_21 rfl ?_
      refine go_callVv (as := [_, _, _]) (As := [_, _]) (rest := []) (n := 2) (q := 27) dX4_countCompositions_24 lk_X4_34 (ci := 4) (N := 4) (T := TX4) rfl (by first | assumption | rfl) rfl rfl (by decide +kernel) rfl ⟨by decide, by decide⟩ ⟨rfl, rfl⟩ (Nat.le_of_ble_eq_true rfl) (ev_unrank (n := n) (r := rkF n (ix (Q.getD h []))) (hq h (by omega)) (by omega) hT2.1 hn) rfl (fun w24 h24 => ?_)
      obtain ⟨i24, f24⟩ := h24
      rw [hp2.2] at i24
      refine go_iconst (q := 28) dX4_countCompositions_27 rfl ?_
      refine go_istore (j := 4) (q := 30) (ls2 := [_, _, _, _, _, _]) (by decide) rfl rfl dX4_countCompositions_28 rfl ?_
      have lp30 : ∀ (m30 : Nat) (y : Nat) (yi gi : Int) (v3 : Option MV) (w3 : Mem) (P : List (List Nat)) (eP : P = bfsY f (Q.getD h []) Q y) (hy : y ≤ n) (gP : goodQ n P) (hle : Q.length ≤ P.length) (ey : yi = y) (eg : gi = (P.length : Nat)) (hi3 : ∀ i, i < n → w3 6 i = (ix (Q.getD h []) i : Int)) (hq3 : ∀ i, i < P.length → w3 8 i = (rkF n (ix (P.getD i [])) : Int)) (hs3 : ∀ r, r < 720 → (w3 9 r = 1 ∧ ∃ p, p ∈ P ∧ rkF n (ix p) = r) ∨ (w3 9 r = 0 ∧ ∀ p, p ∈ P → rkF n (ix p) ≠ r)) (hf3 : ∀ c k, c ≠ 6 → c ≠ 7 → c ≠ 8 → c ≠ 9 → w3 c k = w c k), m30 = n - y → gX4_countCompositions l D ck ad shA 30 [some (vR 5), some (vR 1), some (vI gi), some (vI hi), some (vI yi), v3] [] w3 K := by
        intro m30
        induction m30 using Nat.strongRecOn with
        | _ m30 ih30 =>
        intro y yi gi v3 w3 P eP hy gP hle ey eg hi3 hq3 hs3 hf3 em30
        have hT3 : TB w3 1 n f := TB_same hT0 (fun k => hf3 _ _ (by omega) (by omega) (by omega) (by omega)) (fun k => hf3 _ _ (by omega) (by omega) (by omega) (by omega))
        have g03 := hT3.1
        have hlP := goodQ_len hn gP
        refine go_iload (j := 4) (q := 32) rfl dX4_countCompositions_30 rfl ?_
        refine go_aload_n (j := 1) (q := 33) rfl rfl dX4_countCompositions_32 rfl ?_
        refine go_getI (C0 := RX5) (T := TX5) (N := 2) (ci := 5) (i := 0) (q := 36) rfl igX5 (by first | assumption | rfl) (by decide) fl_X4_28 rfl dX4_countCompositions_33 rfl ?_
        refine go_icmp_ge2 (q := 39) (t := 90) dX4_countCompositions_36 (by decide) rfl (by omega) (fun c36 => ?_) (fun c36 => ?_)
        · refine go_iinc (j := 3) (q := 93) (ls2 := [_, _, _, _, _, _]) rfl (by decide) rfl rfl dX4_countCompositions_90 rfl ?_
          refine go_goto (q := 8) dX4_countCompositions_93 (by decide) ?_
          exact ih8 _ (by omega) (h + 1) _ _ _ _ _ P (by show P = (if h < (bfsH n f h).length then _ else _); rw [← eQ, if_pos (by omega), eP, show y = n by omega]) (by omega) gP (by omega) eg hq3 hs3 hf3 rfl
        · refine go_aload_n (j := 0) (q := 40) rfl rfl dX4_countCompositions_39 rfl ?_
          refine go_aload_n (j := 1) (q := 41) rfl rfl dX4_countCompositions_40 rfl ?_
          refine go_iload (j := 4) (q := 43) rfl dX4_countCompositions_41 rfl ?_
          refine go_callVi (as := [_, _, _]) (As := [_, _]) (rest := []) (n := 2) (q := 46) dX4_countCompositions_43 lk_X4_38 (ci := 4) (N := 4) (T := TX4) rfl (by first | assumption | rfl) rfl rfl (by decide +kernel) rfl ⟨by decide, by decide⟩ ⟨rfl, rfl⟩ (Nat.le_of_ble_eq_true rfl) (ev_rankBehind (L := Q.getD h []) hT3 hpp.1 (fun i z => ix_lt hpp z) hi3 ey (by omega)) rfl (fun x43 w43 h43 => ?_)
          obtain ⟨rfl, f43⟩ := h43
          have hnp := nxt_perm hn.2 hr (hpr y (by omega)) hpp (show y < n by omega)
          have hnr := (p2 hn hnp).1
          have hgs := goodQ_step hn.2 hr (hpr y (by omega)) hpp (show y < n by omega) gP
          have hls := goodQ_len hn hgs
          have hsr := hs3 (rkF n (ix (nxtL f (Q.getD h []) y))) (by omega)
          have e9 : w43 9 (rkF n (ix (nxtL f (Q.getD h []) y))) = w3 9 (rkF n (ix (nxtL f (Q.getD h []) y))) := f43 _ _ (by omega)
          refine go_istore (j := 5) (q := 48) (ls2 := [_, _, _, _, _, _]) (by decide) rfl rfl dX4_countCompositions_46 rfl ?_
          refine go_aload_n (j := 0) (q := 49) rfl rfl dX4_countCompositions_48 rfl ?_
          refine go_getR (C0 := RX4) (T := TX4) (N := 4) (ci := 4) (i := 3) (q := 52) rfl igX4 (by first | assumption | rfl) (by decide) fl_X4_21 rfl dX4_countCompositions_49 rfl ?_
          refine go_iload (j := 5) (q := 54) rfl dX4_countCompositions_52 rfl ?_
          refine go_zald (j := rkF n (ix (nxtL f (Q.getD h []) y))) (q := 55) (by first | assumption | rfl) (wr_eq (by omega)) (by omega) dX4_countCompositions_54 rfl ?_
          refine go_if_ne2 (q := 58) (t := 84) dX4_countCompositions_55 (by decide) rfl (by rw [e9]; omega) (fun c55 => ?_) (fun c55 => ?_)
          · have hin : nxtL f (Q.getD h []) y ∈ P := by
              rcases hsr with ⟨_, p, hp, ep⟩ | ⟨z, _⟩
              · rw [← rk_inj hn (gP.2 p hp) hnp ep]; exact hp
              · exact absurd (e9.trans z) c55
            have eB : bfsP f (Q.getD h []) y P = P := by unfold bfsP; rw [if_pos hin]
            refine go_iinc (j := 4) (q := 87) (ls2 := [_, _, _, _, _, _]) rfl (by decide) rfl rfl dX4_countCompositions_84 rfl ?_
            refine go_goto (q := 30) dX4_countCompositions_87 (by decide) ?_
            first
            | exact ih30 _ (by omega) (y + 1) _ _ _ _ P (by show P = bfsP f _ y (bfsY f _ Q y); rw [← eP, eB]) (by omega) gP hle (by omega) eg (fun i z => by rw [f43 _ _ (by omega)]; exact hi3 i z) (fun i z => by rw [f43 _ _ (by omega)]; exact hq3 i z) (fun r z => by rw [f43 _ _ (by omega)]; exact hs3 r z) (fun c k a1 a2 a3 a4 => by rw [f43 _ _ a2]; exact hf3 c k a1 a2 a3 a4) rfl
            | exact ih30 _ (by omega) (y + 1) _ _ _ _ (P ++ [nxtL f (Q.getD h []) y]) (by show _ = bfsP f _ y (bfsY f _ Q y); rw [← eP, eB]) (by omega) hgs (by rw [List.length_append]; omega) (by omega) (by rw [List.length_append, List.length_singleton]; omega) (fun i z => by rw [mup_ne (by omega), mup_ne (by omega), f43 _ _ (by omega)]; exact hi3 i z) (fun i z => by
                rw [List.length_append, List.length_singleton] at z
                by_cases q : i = P.length
                · subst q; rw [mup_eq, gD_r]
                · rw [mup_ne (by omega), mup_ne (by omega), f43 _ _ (by omega), gD_l (by omega)]; exact hq3 i (by omega)) (fun r z => by
                rw [mup_ne (by omega)]
                by_cases q : r = rkF n (ix (nxtL f (Q.getD h []) y))
                · subst q; rw [mup_eq, nar_b1]; exact Or.inl ⟨rfl, _, List.mem_append_right _ (List.mem_singleton.mpr rfl), rfl⟩
                · rw [mup_ne (by omega), f43 _ _ (by omega)]
                  rcases hs3 r z with ⟨a1, p, a2, a3⟩ | ⟨a1, a2⟩
                  · exact Or.inl ⟨a1, p, List.mem_append_left _ a2, a3⟩
                  · refine Or.inr ⟨a1, fun p hp => ?_⟩
                    rcases List.mem_append.mp hp with a3 | a3
                    · exact a2 p a3
                    · rw [List.mem_singleton] at a3; subst a3; exact fun a4 => q a4.symm) (fun c k a1 a2 a3 a4 => by rw [mup_ne (Or.inl a3), mup_ne (Or.inl a4), f43 _ _ a2]; exact hf3 c k a1 a2 a3 a4) rfl
          · have hni : ¬ nxtL f (Q.getD h []) y ∈ P := by
              rcases hsr with ⟨z, _⟩ | ⟨_, z⟩
              · omega
              · exact fun z2 => z _ z2 rfl
            have eB : bfsP f (Q.getD h []) y P = P ++ [nxtL f (Q.getD h []) y] := by unfold bfsP; rw [if_neg hni]
            rw [eB] at hls hgs
            rw [List.length_append, List.length_singleton] at hls
            refine go_iload_n (j := 2) (q := 59) rfl rfl dX4_countCompositions_58 rfl ?_
            refine go_sipush (q := 62) rfl dX4_countCompositions_59 rfl ?_
            refine go_icmp_ge2 (q := 65) (t := 84) dX4_countCompositions_62 (by decide) rfl (by omega) (fun c62 => ?_) (fun c62 => ?_)
            · exact absurd c62 (by omega)
            · refine go_aload_n (j := 0) (q := 66) rfl rfl dX4_countCompositions_65 rfl ?_
              refine go_getR (C0 := RX4) (T := TX4) (N := 4) (ci := 4) (i := 3) (q := 69) rfl igX4 (by first | assumption | rfl) (by decide) fl_X4_21 rfl dX4_countCompositions_66 rfl ?_
              refine go_iload (j := 5) (q := 71) rfl dX4_countCompositions_69 rfl ?_
              refine go_iconst (q := 72) dX4_countCompositions_71 rfl ?_
              refine go_zast (j := rkF n (ix (nxtL f (Q.getD h []) y))) (q := 73) (by first | assumption | rfl) (wr_eq (by omega)) (by omega) dX4_countCompositions_72 rfl ?_
              refine go_aload_n (j := 0) (q := 74) rfl rfl dX4_countCompositions_73 rfl ?_
              refine go_getR (C0 := RX4) (T := TX4) (N := 4) (ci := 4) (i := 2) (q := 77) rfl igX4 (by first | assumption | rfl) (by decide) fl_X4_18 rfl dX4_countCompositions_74 rfl ?_
              refine go_iload_n (j := 2) (q := 78) rfl rfl dX4_countCompositions_77 rfl ?_
              refine go_iload (j := 5) (q := 80) rfl dX4_countCompositions_78 rfl ?_
              refine go_iast (j := P.length) (q := 81) (by first | assumption | rfl) (wr_eq (by omega)) (by omega) dX4_countCompositions_80 rfl ?_
              refine go_iinc (j := 2) (q := 84) (ls2 := [_, _, _, _, _, _]) rfl (by decide) rfl rfl dX4_countCompositions_81 rfl ?_
              refine go_iinc (j := 4) (q := 87) (ls2 := [_, _, _, _, _, _]) rfl (by decide) rfl rfl dX4_countCompositions_84 rfl ?_
              refine go_goto (q := 30) dX4_countCompositions_87 (by decide) ?_
              first
              | exact ih30 _ (by omega) (y + 1) _ _ _ _ P (by show P = bfsP f _ y (bfsY f _ Q y); rw [← eP, eB]) (by omega) gP hle (by omega) eg (fun i z => by rw [f43 _ _ (by omega)]; exact hi3 i z) (fun i z => by rw [f43 _ _ (by omega)]; exact hq3 i z) (fun r z => by rw [f43 _ _ (by omega)]; exact hs3 r z) (fun c k a1 a2 a3 a4 => by rw [f43 _ _ a2]; exact hf3 c k a1 a2 a3 a4) rfl
              | exact ih30 _ (by omega) (y + 1) _ _ _ _ (P ++ [nxtL f (Q.getD h []) y]) (by show _ = bfsP f _ y (bfsY f _ Q y); rw [← eP, eB]) (by omega) hgs (by rw [List.length_append]; omega) (by omega) (by rw [List.length_append, List.length_singleton]; omega) (fun i z => by rw [mup_ne (by omega), mup_ne (by omega), f43 _ _ (by omega)]; exact hi3 i z) (fun i z => by
                  rw [List.length_append, List.length_singleton] at z
                  by_cases q : i = P.length
                  · subst q; rw [mup_eq, gD_r]
                  · rw [mup_ne (by omega), mup_ne (by omega), f43 _ _ (by omega), gD_l (by omega)]; exact hq3 i (by omega)) (fun r z => by
                  rw [mup_ne (by omega)]
                  by_cases q : r = rkF n (ix (nxtL f (Q.getD h []) y))
                  · subst q; rw [mup_eq, nar_b1]; exact Or.inl ⟨rfl, _, List.mem_append_right _ (List.mem_singleton.mpr rfl), rfl⟩
                  · rw [mup_ne (by omega), f43 _ _ (by omega)]
                    rcases hs3 r z with ⟨a1, p, a2, a3⟩ | ⟨a1, a2⟩
                    · exact Or.inl ⟨a1, p, List.mem_append_left _ a2, a3⟩
                    · refine Or.inr ⟨a1, fun p hp => ?_⟩
                      rcases List.mem_append.mp hp with a3 | a3
                      · exact a2 p a3
                      · rw [List.mem_singleton] at a3; subst a3; exact fun a4 => q a4.symm) (fun c k a1 a2 a3 a4 => by rw [mup_ne (Or.inl a3), mup_ne (Or.inl a4), f43 _ _ a2]; exact hf3 c k a1 a2 a3 a4) rfl
      exact lp30 _ 0 0 _ _ _ Q rfl (by omega) gQ (Nat.le_refl _) rfl ef i24 (fun i z => by rw [f24 _ _ (by omega)]; exact hq i z) (fun r z => by rw [f24 _ _ (by omega)]; exact hs r z) (fun c k a1 a2 a3 a4 => by rw [f24 _ _ a1]; exact hf2 c k a1 a2 a3 a4) rfl
  exact lp8 _ 0 0 1 _ _ _ [idL n] rfl (by simp) (goodQ_0 hn.2) rfl rfl (fun i h => by
    rw [List.length_singleton] at h
    rw [show i = 0 by omega, q1]; show _ = ((rkF n (ix (unr n 0)) : Nat) : Int); rw [h00.2]; rfl) (fun r h => by
    have e := s1 r h
    by_cases z : r = 0
    · rw [if_pos z] at e
      exact Or.inl ⟨e, idL n, by simp, by rw [z]; exact h00.2⟩
    · rw [if_neg z] at e
      refine Or.inr ⟨e, fun p hp => ?_⟩
      rw [List.mem_singleton] at hp; subst hp
      intro z2; exact z (z2.symm.trans h00.2)) (fun c k a1 a2 a3 a4 => f1 c k a3 a4) rfl
end PERM
