theorem V_nines {n j : Nat} {col : Nat → Nat} (hn : 1 ≤ n) : ∀ d, (∀ i, j ≤ i → i < j + d → col i = n - 1) → Vn n col (j + d) + 1 = (Vn n col j + 1) * n ^ d
  | 0, _ => by simp
  | d + 1, h => by
    have ih := V_nines (j := j) (col := col) hn d (fun i h1 h2 => h i h1 (by omega))
    show Vn n col (j + d) * n + col (j + d) + 1 = _
    rw [h (j + d) (by omega) (by omega), Nat.pow_succ, ← Nat.mul_assoc, ← ih, Nat.succ_mul]
    omega
theorem V_zeros {n j : Nat} {col : Nat → Nat} : ∀ d, (∀ i, j ≤ i → i < j + d → col i = 0) → Vn n col (j + d) = Vn n col j * n ^ d
  | 0, _ => by simp
  | d + 1, h => by
    have ih := V_zeros (n := n) (j := j) (col := col) d (fun i h1 h2 => h i h1 (by omega))
    show Vn n col (j + d) * n + col (j + d) = _
    rw [h (j + d) (by omega) (by omega), Nat.pow_succ, ← Nat.mul_assoc, ← ih]; rfl
theorem cnt_s {n a c : Nat} {f g : Nat → Nat → Nat} {s : Nat → Int} {E : (Nat → Nat) → Prop} {col : Nat → Nat} (hga : ∀ k, k < c → lastA g k < a) (hE : cgr a E) (hc : ∀ i, i < a → col i < n) (h : isColP c f g s col ∧ E col) : cntP n a c f g s E (Vn n col a + 1) = cntP n a c f g s E (Vn n col a) + 1 := by
  show cN _ _ + _ = _
  rw [if_pos (cdB_iff.mpr ((cdP_at (and_cgr (isCol_cgr hga) hE) hc).mpr h))]; rfl
theorem cnt_n {n a c : Nat} {f g : Nat → Nat → Nat} {s : Nat → Int} {E : (Nat → Nat) → Prop} {col : Nat → Nat} (hga : ∀ k, k < c → lastA g k < a) (hE : cgr a E) (hc : ∀ i, i < a → col i < n) (h : ¬ (isColP c f g s col ∧ E col)) : cntP n a c f g s E (Vn n col a + 1) = cntP n a c f g s E (Vn n col a) := by
  show cN _ _ + _ = _
  rw [if_neg (fun z => h ((cdP_at (and_cgr (isCol_cgr hga) hE) hc).mp (cdB_iff.mp z)))]; rfl
def CM (w : Mem) (n a : Nat) (col : Nat → Nat) : Prop := (∀ i, i < 7 → w 52 i = (col i : Int)) ∧ ∀ i, i < a → col i < n
def qE (a : Nat) (q : Int) (x y : Nat) (E : (Nat → Nat) → Prop) : Prop := (q = 0 ∧ E = tt) ∨ (q = 1 ∧ x < a ∧ E = eW x y) ∨ (q = 2 ∧ (x < a ∧ y < a) ∧ E = eA x y) ∨ (q = 3 ∧ E = eU a x)
theorem qE_cgr {a x y : Nat} {q : Int} {E : (Nat → Nat) → Prop} (h : qE a q x y E) : cgr a E := by
  rcases h with ⟨_, rfl⟩ | ⟨_, h1, rfl⟩ | ⟨_, h1, rfl⟩ | ⟨_, rfl⟩
  · exact tt_cgr
  · exact eW_cgr h1
  · exact eA_cgr h1.1 h1.2
  · exact eU_cgr
section M6
variable {l : Launch} {D : va_G} {ck : Nat → ClassId} {ad : Nat → Nat} {w : Mem} {W : WA} {n a c : Nat} {f g : Nat → Nat → Nat} {s : Nat → Int}
theorem em_isColouring (hT : TMv (w 46) n f) (hD : DMv (w 46) a c g s) {col : Nat → Nat} (hC : CM w n a col) : eX7_isColouring l D ck ad shA [vR 45] w (Pz (fun w1 => w = w1 ∧ isColP c f g s col) (fun w1 => w = w1 ∧ ¬ isColP c f g s col)) := by
  have hn := hT.2.1
  obtain ⟨h0, h1, ha, hg⟩ := hD
  obtain ⟨hw, hc⟩ := hC
  refine ev_of_goK (own := RX7) (ls := [some (vR 45), none, none, none, none, none]) (by decide +kernel) rfl rfl (Nat.le_of_ble_eq_true rfl) rkZ ?_
  intro K hK
  refine go_iconst (q := 1) dX7_isColouring_0 rfl ?_
  refine go_istore_n (j := 1) (q := 2) (ls2 := [_, _, _, _, _, _]) rfl (by decide) rfl rfl dX7_isColouring_1 rfl ?_
  refine go_iconst (q := 3) dX7_isColouring_2 rfl ?_
  refine go_istore_n (j := 2) (q := 4) (ls2 := [_, _, _, _, _, _]) rfl (by decide) rfl rfl dX7_isColouring_3 rfl ?_
  have lp4 : ∀ (m4 : Nat) (k : Nat) (ki bi : Int) (u v t : Option MV) (ek : ki = k) (hk : k ≤ c) (hB : (bi = 1 ∧ ∀ j, j < k → metP f g s col j) ∨ (bi = 0 ∧ ¬ isColP c f g s col)), m4 = c - k → gX7_isColouring l D ck ad shA 4 [some (vR 45), some (vI bi), some (vI ki), u, v, t] [] w K := by
    intro m4
    induction m4 using Nat.strongRecOn with
    | _ m4 ih4 =>
    intro k ki bi u v t ek hk hB em4
    refine go_iload_n (j := 2) (q := 5) rfl rfl dX7_isColouring_4 rfl ?_
    refine go_aload_n (j := 0) (q := 6) rfl rfl dX7_isColouring_5 rfl ?_
    refine go_getR (C0 := RX7) (T := TX7) (N := 16) (ci := 7) (i := 0) (q := 9) rfl igX7 (by first | assumption | rfl) (by decide) fl_X7_7 rfl dX7_isColouring_6 rfl ?_
    refine go_bipush (q := 11) rfl dX7_isColouring_9 rfl ?_
    refine go_iald (j := 38) (q := 12) (by first | assumption | rfl) (wr_eq (by omega)) (by omega) dX7_isColouring_11 rfl ?_
    refine go_icmp_ge2 (q := 15) (t := 111) dX7_isColouring_12 (by decide) rfl (by omega) (fun c12 => ?_) (fun c12 => ?_)
    · refine go_iload_n (j := 1) (q := 112) rfl rfl dX7_isColouring_111 rfl ?_
      refine go_iret dX7_isColouring_112 ?_
      subst hK
      rcases hB with ⟨z1, z2⟩ | ⟨z1, z2⟩
      · subst z1; exact Or.inl ⟨rfl, rfl, fun j h => z2 j (by omega)⟩
      · subst z1; exact Or.inr ⟨rfl, rfl, z2⟩
    · refine go_iload_n (j := 1) (q := 16) rfl rfl dX7_isColouring_15 rfl ?_
      refine go_if_eq2 (q := 19) (t := 111) dX7_isColouring_16 (by decide) rfl (by omega) (fun c16 => ?_) (fun c16 => ?_)
      · refine go_iload_n (j := 1) (q := 112) rfl rfl dX7_isColouring_111 rfl ?_
        refine go_iret dX7_isColouring_112 ?_
        subst hK
        rcases hB with ⟨z1, z2⟩ | ⟨z1, z2⟩
        · subst z1; exact Or.inl ⟨rfl, rfl, fun j h => z2 j (by omega)⟩
        · subst z1; exact Or.inr ⟨rfl, rfl, z2⟩
      · have hgk := hg k (by omega)
        have w0 := hw (g k 0) (by omega)
        have w1 := hw (g k 1) (by omega)
        have w2 := hw (g k 2) (by omega)
        have c0 := hc (g k 0) hgk.2.1.1
        have c1 := hc (g k 1) hgk.2.1.2.1
        have c2 := hc (g k 2) hgk.2.1.2.2
        have f1 := (hT.2.2 _ _ c1 c0).2
        have f2 := (hT.2.2 _ _ c2 c0).2
        refine go_aload_n (j := 0) (q := 20) rfl rfl dX7_isColouring_19 rfl ?_
        refine go_getR (C0 := RX7) (T := TX7) (N := 16) (ci := 7) (i := 9) (q := 23) rfl igX7 (by first | assumption | rfl) (by decide) fl_X7_28 rfl dX7_isColouring_20 rfl ?_
        refine go_aload_n (j := 0) (q := 24) rfl rfl dX7_isColouring_23 rfl ?_
        refine go_iload_n (j := 2) (q := 25) rfl rfl dX7_isColouring_24 rfl ?_
        refine go_iconst (q := 26) dX7_isColouring_25 rfl ?_
        refine go_callVi (as := [_, _, _]) (As := [_, _]) (rest := [_]) (n := 2) (q := 29) dX7_isColouring_26 lk_X7_153 (ci := 7) (N := 16) (T := TX7) rfl (by first | assumption | rfl) rfl rfl (by decide +kernel) rfl ⟨by decide, by decide⟩ ⟨rfl, rfl⟩ (Nat.le_of_ble_eq_true rfl) (em_crossingPart (k := k) (p := 1) ek rfl (by omega)) rfl (fun x26 w26 h26 => ?_)
        obtain ⟨rfl, rfl⟩ := h26
        rw [hgk.1.2.1]
        refine go_iald (j := g k 1) (q := 30) (by first | assumption | rfl) (wr_eq (by omega)) (by omega) dX7_isColouring_29 rfl ?_
        refine go_istore_n (j := 3) (q := 31) (ls2 := [_, _, _, _, _, _]) rfl (by decide) rfl rfl dX7_isColouring_30 rfl ?_
        refine go_aload_n (j := 0) (q := 32) rfl rfl dX7_isColouring_31 rfl ?_
        refine go_getR (C0 := RX7) (T := TX7) (N := 16) (ci := 7) (i := 9) (q := 35) rfl igX7 (by first | assumption | rfl) (by decide) fl_X7_28 rfl dX7_isColouring_32 rfl ?_
        refine go_aload_n (j := 0) (q := 36) rfl rfl dX7_isColouring_35 rfl ?_
        refine go_iload_n (j := 2) (q := 37) rfl rfl dX7_isColouring_36 rfl ?_
        refine go_iconst (q := 38) dX7_isColouring_37 rfl ?_
        refine go_callVi (as := [_, _, _]) (As := [_, _]) (rest := [_]) (n := 2) (q := 41) dX7_isColouring_38 lk_X7_153 (ci := 7) (N := 16) (T := TX7) rfl (by first | assumption | rfl) rfl rfl (by decide +kernel) rfl ⟨by decide, by decide⟩ ⟨rfl, rfl⟩ (Nat.le_of_ble_eq_true rfl) (em_crossingPart (k := k) (p := 2) ek rfl (by omega)) rfl (fun x38 w38 h38 => ?_)
        obtain ⟨rfl, rfl⟩ := h38
        rw [hgk.1.2.2.1]
        refine go_iald (j := g k 2) (q := 42) (by first | assumption | rfl) (wr_eq (by omega)) (by omega) dX7_isColouring_41 rfl ?_
        refine go_istore (j := 4) (q := 44) (ls2 := [_, _, _, _, _, _]) (by decide) rfl rfl dX7_isColouring_42 rfl ?_
        refine go_aload_n (j := 0) (q := 45) rfl rfl dX7_isColouring_44 rfl ?_
        refine go_getR (C0 := RX7) (T := TX7) (N := 16) (ci := 7) (i := 9) (q := 48) rfl igX7 (by first | assumption | rfl) (by decide) fl_X7_28 rfl dX7_isColouring_45 rfl ?_
        refine go_aload_n (j := 0) (q := 49) rfl rfl dX7_isColouring_48 rfl ?_
        refine go_iload_n (j := 2) (q := 50) rfl rfl dX7_isColouring_49 rfl ?_
        refine go_iconst (q := 51) dX7_isColouring_50 rfl ?_
        refine go_callVi (as := [_, _, _]) (As := [_, _]) (rest := [_]) (n := 2) (q := 54) dX7_isColouring_51 lk_X7_153 (ci := 7) (N := 16) (T := TX7) rfl (by first | assumption | rfl) rfl rfl (by decide +kernel) rfl ⟨by decide, by decide⟩ ⟨rfl, rfl⟩ (Nat.le_of_ble_eq_true rfl) (em_crossingPart (k := k) (p := 0) ek rfl (by omega)) rfl (fun x51 w51 h51 => ?_)
        obtain ⟨rfl, rfl⟩ := h51
        rw [show w 46 (39 + 4 * k + 0) = (g k 0 : Int) from hgk.1.1]
        refine go_iald (j := g k 0) (q := 55) (by first | assumption | rfl) (wr_eq (by omega)) (by omega) dX7_isColouring_54 rfl ?_
        refine go_istore (j := 5) (q := 57) (ls2 := [_, _, _, _, _, _]) (by decide) rfl rfl dX7_isColouring_55 rfl ?_
        refine go_aload_n (j := 0) (q := 58) rfl rfl dX7_isColouring_57 rfl ?_
        refine go_iload_n (j := 2) (q := 59) rfl rfl dX7_isColouring_58 rfl ?_
        refine go_iconst (q := 60) dX7_isColouring_59 rfl ?_
        refine go_callVi (as := [_, _, _]) (As := [_, _]) (rest := []) (n := 2) (q := 63) dX7_isColouring_60 lk_X7_153 (ci := 7) (N := 16) (T := TX7) rfl (by first | assumption | rfl) rfl rfl (by decide +kernel) rfl ⟨by decide, by decide⟩ ⟨rfl, rfl⟩ (Nat.le_of_ble_eq_true rfl) (em_crossingPart (k := k) (p := 3) ek rfl (by omega)) rfl (fun x60 w60 h60 => ?_)
        obtain ⟨rfl, rfl⟩ := h60
        refine go_iconst (q := 64) dX7_isColouring_63 rfl ?_
        rw [hgk.1.2.2.2]
        refine go_icmp_ne2 (q := 67) (t := 87) dX7_isColouring_64 (by decide) rfl (by omega) (fun c64 => ?_) (fun c64 => ?_)
        · refine go_iload_n (j := 3) (q := 88) rfl rfl dX7_isColouring_87 rfl ?_
          refine go_aload_n (j := 0) (q := 89) rfl rfl dX7_isColouring_88 rfl ?_
          refine go_iload (j := 4) (q := 91) rfl dX7_isColouring_89 rfl ?_
          refine go_iload (j := 5) (q := 93) rfl dX7_isColouring_91 rfl ?_
          refine go_callVi (as := [_, _, _]) (As := [_, _]) (rest := [_]) (n := 2) (q := 96) dX7_isColouring_93 lk_X7_67 (ci := 7) (N := 16) (T := TX7) rfl (by first | assumption | rfl) rfl rfl (by decide +kernel) rfl ⟨by decide, by decide⟩ ⟨rfl, rfl⟩ (Nat.le_of_ble_eq_true rfl) (em_times hT (x := col (g k 2)) (y := col (g k 0)) w2 w0 c2 c0) rfl (fun x93 w93 h93 => ?_)
          obtain ⟨rfl, rfl⟩ := h93
          refine go_icmp_ne2 (q := 99) (t := 103) dX7_isColouring_96 (by decide) rfl (by omega) (fun c96 => ?_) (fun c96 => ?_)
          · have zn : ¬ metP f g s col k := fun z => by have := z.2 c64; omega
            refine go_iconst (q := 104) dX7_isColouring_103 rfl ?_
            refine go_istore_n (j := 1) (q := 105) (ls2 := [_, _, _, _, _, _]) rfl (by decide) rfl rfl dX7_isColouring_104 rfl ?_
            refine go_iinc (j := 2) (q := 108) (ls2 := [_, _, _, _, _, _]) rfl (by decide) rfl rfl dX7_isColouring_105 rfl ?_
            refine go_goto (q := 4) dX7_isColouring_108 (by decide) ?_
            first
            | (have zq := zp
               exact ih4 _ (by omega) (k + 1) _ _ _ _ _ (by omega) (by omega) (by
                rcases hB with ⟨_, z⟩ | ⟨z, _⟩
                · exact Or.inl ⟨rfl, fun j h => all_lt (P := fun j => metP f g s col j) z zp h⟩
                · omega) rfl)
            | (have zq := zn
               exact ih4 _ (by omega) (k + 1) _ _ _ _ _ (by omega) (by omega) (Or.inr ⟨rfl, fun z => zn (z k (by omega))⟩) rfl)
          · have zp : metP f g s col k := ⟨fun z => absurd z c64, fun _ => by omega⟩
            refine go_iconst (q := 100) dX7_isColouring_99 rfl ?_
            refine go_goto (q := 104) dX7_isColouring_100 (by decide) ?_
            refine go_istore_n (j := 1) (q := 105) (ls2 := [_, _, _, _, _, _]) rfl (by decide) rfl rfl dX7_isColouring_104 rfl ?_
            refine go_iinc (j := 2) (q := 108) (ls2 := [_, _, _, _, _, _]) rfl (by decide) rfl rfl dX7_isColouring_105 rfl ?_
            refine go_goto (q := 4) dX7_isColouring_108 (by decide) ?_
            first
            | (have zq := zp
               exact ih4 _ (by omega) (k + 1) _ _ _ _ _ (by omega) (by omega) (by
                rcases hB with ⟨_, z⟩ | ⟨z, _⟩
                · exact Or.inl ⟨rfl, fun j h => all_lt (P := fun j => metP f g s col j) z zp h⟩
                · omega) rfl)
            | (have zq := zn
               exact ih4 _ (by omega) (k + 1) _ _ _ _ _ (by omega) (by omega) (Or.inr ⟨rfl, fun z => zn (z k (by omega))⟩) rfl)
        · refine go_iload (j := 4) (q := 69) rfl dX7_isColouring_67 rfl ?_
          refine go_aload_n (j := 0) (q := 70) rfl rfl dX7_isColouring_69 rfl ?_
          refine go_iload_n (j := 3) (q := 71) rfl rfl dX7_isColouring_70 rfl ?_
          refine go_iload (j := 5) (q := 73) rfl dX7_isColouring_71 rfl ?_
          refine go_callVi (as := [_, _, _]) (As := [_, _]) (rest := [_]) (n := 2) (q := 76) dX7_isColouring_73 lk_X7_67 (ci := 7) (N := 16) (T := TX7) rfl (by first | assumption | rfl) rfl rfl (by decide +kernel) rfl ⟨by decide, by decide⟩ ⟨rfl, rfl⟩ (Nat.le_of_ble_eq_true rfl) (em_times hT (x := col (g k 1)) (y := col (g k 0)) w1 w0 c1 c0) rfl (fun x73 w73 h73 => ?_)
          obtain ⟨rfl, rfl⟩ := h73
          refine go_icmp_ne2 (q := 79) (t := 83) dX7_isColouring_76 (by decide) rfl (by omega) (fun c76 => ?_) (fun c76 => ?_)
          · have zn : ¬ metP f g s col k := fun z => by have := z.1 c64; omega
            refine go_iconst (q := 84) dX7_isColouring_83 rfl ?_
            refine go_goto (q := 104) dX7_isColouring_84 (by decide) ?_
            refine go_istore_n (j := 1) (q := 105) (ls2 := [_, _, _, _, _, _]) rfl (by decide) rfl rfl dX7_isColouring_104 rfl ?_
            refine go_iinc (j := 2) (q := 108) (ls2 := [_, _, _, _, _, _]) rfl (by decide) rfl rfl dX7_isColouring_105 rfl ?_
            refine go_goto (q := 4) dX7_isColouring_108 (by decide) ?_
            first
            | (have zq := zp
               exact ih4 _ (by omega) (k + 1) _ _ _ _ _ (by omega) (by omega) (by
                rcases hB with ⟨_, z⟩ | ⟨z, _⟩
                · exact Or.inl ⟨rfl, fun j h => all_lt (P := fun j => metP f g s col j) z zp h⟩
                · omega) rfl)
            | (have zq := zn
               exact ih4 _ (by omega) (k + 1) _ _ _ _ _ (by omega) (by omega) (Or.inr ⟨rfl, fun z => zn (z k (by omega))⟩) rfl)
          · have zp : metP f g s col k := ⟨fun _ => by omega, fun z => absurd c64 z⟩
            refine go_iconst (q := 80) dX7_isColouring_79 rfl ?_
            refine go_goto (q := 104) dX7_isColouring_80 (by decide) ?_
            refine go_istore_n (j := 1) (q := 105) (ls2 := [_, _, _, _, _, _]) rfl (by decide) rfl rfl dX7_isColouring_104 rfl ?_
            refine go_iinc (j := 2) (q := 108) (ls2 := [_, _, _, _, _, _]) rfl (by decide) rfl rfl dX7_isColouring_105 rfl ?_
            refine go_goto (q := 4) dX7_isColouring_108 (by decide) ?_
            first
            | (have zq := zp
               exact ih4 _ (by omega) (k + 1) _ _ _ _ _ (by omega) (by omega) (by
                rcases hB with ⟨_, z⟩ | ⟨z, _⟩
                · exact Or.inl ⟨rfl, fun j h => all_lt (P := fun j => metP f g s col j) z zp h⟩
                · omega) rfl)
            | (have zq := zn
               exact ih4 _ (by omega) (k + 1) _ _ _ _ _ (by omega) (by omega) (Or.inr ⟨rfl, fun z => zn (z k (by omega))⟩) rfl)
  exact lp4 _ 0 0 1 _ _ _ rfl (by omega) (Or.inl ⟨rfl, fun j h => absurd h (Nat.not_lt_zero j)⟩) rfl
theorem em_usedColours (hT : TMv (w 46) n f) (hD : DMv (w 46) a c g s) {col : Nat → Nat} (hC : CM w n a col) : eX7_usedColours l D ck ad shA [vR 45] w (Pi fun v w1 => v = (usedN a col : Int) ∧ w = w1) := by
  have hn := hT.2.1
  obtain ⟨h0, h1, ha, hg⟩ := hD
  obtain ⟨hw, hc⟩ := hC
  refine ev_of_goK (own := RX7) (ls := [some (vR 45), none, none]) (by decide +kernel) rfl rfl (Nat.le_of_ble_eq_true rfl) rkI ?_
  intro K hK
  refine go_iconst (q := 1) dX7_usedColours_0 rfl ?_
  refine go_istore_n (j := 1) (q := 2) (ls2 := [_, _, _]) rfl (by decide) rfl rfl dX7_usedColours_1 rfl ?_
  refine go_iconst (q := 3) dX7_usedColours_2 rfl ?_
  refine go_istore_n (j := 2) (q := 4) (ls2 := [_, _, _]) rfl (by decide) rfl rfl dX7_usedColours_3 rfl ?_
  have lp4 : ∀ (m4 : Nat) (i : Nat) (ii mi : Int) (ei : ii = i) (hi : i ≤ a) (em : mi = (msk col i : Nat)), m4 = a - i → gX7_usedColours l D ck ad shA 4 [some (vR 45), some (vI mi), some (vI ii)] [] w K := by
    intro m4
    induction m4 using Nat.strongRecOn with
    | _ m4 ih4 =>
    intro i ii mi ei hi em em4
    refine go_iload_n (j := 2) (q := 5) rfl rfl dX7_usedColours_4 rfl ?_
    refine go_aload_n (j := 0) (q := 6) rfl rfl dX7_usedColours_5 rfl ?_
    refine go_getR (C0 := RX7) (T := TX7) (N := 16) (ci := 7) (i := 0) (q := 9) rfl igX7 (by first | assumption | rfl) (by decide) fl_X7_7 rfl dX7_usedColours_6 rfl ?_
    refine go_bipush (q := 11) rfl dX7_usedColours_9 rfl ?_
    refine go_iald (j := 37) (q := 12) (by first | assumption | rfl) (wr_eq (by omega)) (by omega) dX7_usedColours_11 rfl ?_
    refine go_icmp_ge2 (q := 15) (t := 32) dX7_usedColours_12 (by decide) rfl (by omega) (fun c12 => ?_) (fun c12 => ?_)
    · have b2 := (usedN_le (n := n) (a := a) (col := col) hn.2 hc).1
      refine go_iload_n (j := 1) (q := 33) rfl rfl dX7_usedColours_32 rfl ?_
      refine go_callSi (as := [_]) (rest := []) (n := 1) (q := 36) dX7_usedColours_33 lk_X7_71 rfl (by decide +kernel) rfl ⟨by decide, by decide⟩ ⟨rfl, rfl⟩ (Nat.le_of_ble_eq_true rfl) (em_bits (m := msk col a) (by rw [em, show i = a by omega]) (by omega)) rfl (fun x33 w33 h33 => ?_)
      obtain ⟨rfl, rfl⟩ := h33
      refine go_iret dX7_usedColours_36 ?_
      subst hK; exact ⟨_, rfl, rfl, rfl⟩
    · have hwi := hw i (by omega)
      have hci := hc i (by omega)
      have b1 := (usedN_le (n := n) (a := i) (col := col) hn.2 (fun j hj => hc j (by omega))).1
      refine go_iload_n (j := 1) (q := 16) rfl rfl dX7_usedColours_15 rfl ?_
      refine go_iconst (q := 17) dX7_usedColours_16 rfl ?_
      refine go_aload_n (j := 0) (q := 18) rfl rfl dX7_usedColours_17 rfl ?_
      refine go_getR (C0 := RX7) (T := TX7) (N := 16) (ci := 7) (i := 9) (q := 21) rfl igX7 (by first | assumption | rfl) (by decide) fl_X7_28 rfl dX7_usedColours_18 rfl ?_
      refine go_iload_n (j := 2) (q := 22) rfl rfl dX7_usedColours_21 rfl ?_
      refine go_iald (j := i) (q := 23) (by first | assumption | rfl) (wr_eq (by omega)) (by omega) dX7_usedColours_22 rfl ?_
      rw [hwi]
      refine go_ishl (q := 24) dX7_usedColours_23 rfl ?_
      refine go_ior (q := 25) dX7_usedColours_24 rfl ?_
      refine go_istore_n (j := 1) (q := 26) (ls2 := [_, _, _]) rfl (by decide) rfl rfl dX7_usedColours_25 rfl ?_
      refine go_iinc (j := 2) (q := 29) (ls2 := [_, _, _]) rfl (by decide) rfl rfl dX7_usedColours_26 rfl ?_
      refine go_goto (q := 4) dX7_usedColours_29 (by decide) ?_
      exact ih4 _ (by omega) (i + 1) _ _ (by omega) (by omega) (by
        have h2 : 2 ^ col i < 2 ^ 6 := two_lt (by omega)
        rw [em, shl_eq (by omega), or_eq (by omega) (by omega)]; rfl) rfl
  exact lp4 _ 0 0 0 rfl (by omega) rfl rfl
theorem em_beginsColours : eX7_beginsColours l D ck ad shA [vR 45] w (Pv fun w1 => (∀ i, i < 7 → w1 52 i = (((fun _ => 0 : Nat → Nat) i : Nat) : Int)) ∧ ∀ c k, c ≠ 52 → w1 c k = w c k) := by
  refine ev_of_goK (own := RX7) (ls := [some (vR 45), none]) (by decide +kernel) rfl rfl (Nat.le_of_ble_eq_true rfl) rkV ?_
  intro K hK
  refine go_iconst (q := 1) dX7_beginsColours_0 rfl ?_
  refine go_istore_n (j := 1) (q := 2) (ls2 := [_, _]) rfl (by decide) rfl rfl dX7_beginsColours_1 rfl ?_
  have lp2 : ∀ (m2 : Nat) (k : Nat) (ki : Int) (w1 : Mem) (ek : ki = k) (hk : k ≤ 7) (hi : ∀ i, i < k → w1 52 i = 0) (hf : ∀ c k, c ≠ 52 → w1 c k = w c k), m2 = 7 - k → gX7_beginsColours l D ck ad shA 2 [some (vR 45), some (vI ki)] [] w1 K := by
    intro m2
    induction m2 using Nat.strongRecOn with
    | _ m2 ih2 =>
    intro k ki w1 ek hk hi hf em2
    refine go_iload_n (j := 1) (q := 3) rfl rfl dX7_beginsColours_2 rfl ?_
    refine go_bipush (q := 5) rfl dX7_beginsColours_3 rfl ?_
    refine go_icmp_ge2 (q := 8) (t := 21) dX7_beginsColours_5 (by decide) rfl (by omega) (fun c5 => ?_) (fun c5 => ?_)
    · refine go_vret dX7_beginsColours_21 ?_
      subst hK; exact ⟨rfl, fun i h => hi i (by omega), hf⟩
    · refine go_aload_n (j := 0) (q := 9) rfl rfl dX7_beginsColours_8 rfl ?_
      refine go_getR (C0 := RX7) (T := TX7) (N := 16) (ci := 7) (i := 9) (q := 12) rfl igX7 (by first | assumption | rfl) (by decide) fl_X7_28 rfl dX7_beginsColours_9 rfl ?_
      refine go_iload_n (j := 1) (q := 13) rfl rfl dX7_beginsColours_12 rfl ?_
      refine go_iconst (q := 14) dX7_beginsColours_13 rfl ?_
      refine go_iast (j := k) (q := 15) (by first | assumption | rfl) (wr_eq (by omega)) (by omega) dX7_beginsColours_14 rfl ?_
      refine go_iinc (j := 1) (q := 18) (ls2 := [_, _]) rfl (by decide) rfl rfl dX7_beginsColours_15 rfl ?_
      refine go_goto (q := 2) dX7_beginsColours_18 (by decide) ?_
      exact ih2 _ (by omega) (k + 1) _ _ (by omega) (by omega) (by
        intro i h
        by_cases q : i = k
        · subst q; rw [mup_eq]
        · rw [mup_ne (by omega)]; exact hi i (by omega)) (fun c k h => by rw [mup_ne (Or.inl h)]; exact hf c k h) rfl
  exact lp2 _ 0 0 _ rfl (by omega) (fun i h => absurd h (Nat.not_lt_zero i)) (fun c k h => rfl) rfl
theorem em_goesOnColours (hT : TMv (w 46) n f) (hD : DMv (w 46) a c g s) {col : Nat → Nat} (hC : CM w n a col) :
    eX7_goesOnColours l D ck ad shA [vR 45] w (Pz (fun w1 => (∃ col2 : Nat → Nat, CM w1 n a col2 ∧ Vn n col2 a = Vn n col a + 1) ∧ ∀ c k, c ≠ 52 → w1 c k = w c k) (fun w1 => Vn n col a + 1 = n ^ a ∧ ∀ c k, c ≠ 52 → w1 c k = w c k)) := by
  have hn := hT.2.1
  have hT0 := hT.1
  obtain ⟨h0, h1, ha, hg⟩ := hD
  obtain ⟨hw, hc⟩ := hC
  refine ev_of_goK (own := RX7) (ls := [some (vR 45), none]) (by decide +kernel) rfl rfl (Nat.le_of_ble_eq_true rfl) rkZ ?_
  intro K hK
  refine go_aload_n (j := 0) (q := 1) rfl rfl dX7_goesOnColours_0 rfl ?_
  refine go_getR (C0 := RX7) (T := TX7) (N := 16) (ci := 7) (i := 0) (q := 4) rfl igX7 (by first | assumption | rfl) (by decide) fl_X7_7 rfl dX7_goesOnColours_1 rfl ?_
  refine go_bipush (q := 6) rfl dX7_goesOnColours_4 rfl ?_
  refine go_iald (j := 37) (q := 7) (by first | assumption | rfl) (wr_eq (by omega)) (by omega) dX7_goesOnColours_6 rfl ?_
  refine go_iconst (q := 8) dX7_goesOnColours_7 rfl ?_
  refine go_isub (q := 9) dX7_goesOnColours_8 rfl ?_
  refine go_istore_n (j := 1) (q := 10) (ls2 := [_, _]) rfl (by decide) rfl rfl dX7_goesOnColours_9 rfl ?_
  have lp10 : ∀ (m10 : Nat) (j : Nat) (ai : Int) (w1 : Mem) (ej : ai = (j : Int) - 1) (hj : j ≤ a) (hlo : ∀ i, i < 7 → (i < j ∨ a ≤ i) → w1 52 i = (col i : Int)) (hhi : ∀ i, j ≤ i → i < a → w1 52 i = 0) (h9 : ∀ i, j ≤ i → i < a → col i = n - 1) (hf : ∀ c k, c ≠ 52 → w1 c k = w c k), m10 = j → gX7_goesOnColours l D ck ad shA 10 [some (vR 45), some (vI ai)] [] w1 K := by
    intro m10
    induction m10 using Nat.strongRecOn with
    | _ m10 ih10 =>
    intro j ai w1 ej hj hlo hhi h9 hf em10
    have e46 : w1 46 0 = (n : Int) := by rw [hf _ _ (by omega)]; exact hT0
    have hV : Vn n col a + 1 = (Vn n col j + 1) * n ^ (a - j) := by
      have := V_nines (n := n) (j := j) (col := col) hn.1 (a - j) (fun i z1 z2 => h9 i z1 (by omega))
      rw [show j + (a - j) = a by omega] at this; exact this
    refine go_iload_n (j := 1) (q := 11) rfl rfl dX7_goesOnColours_10 rfl ?_
    refine go_if_lt2 (q := 14) (t := 44) dX7_goesOnColours_11 (by decide) rfl (by omega) (fun c11 => ?_) (fun c11 => ?_)
    · refine go_iload_n (j := 1) (q := 45) rfl rfl dX7_goesOnColours_44 rfl ?_
      refine go_if_lt2 (q := 48) (t := 58) dX7_goesOnColours_45 (by decide) rfl (by omega) (fun c45 => ?_) (fun c45 => ?_)
      · refine go_iload_n (j := 1) (q := 59) rfl rfl dX7_goesOnColours_58 rfl ?_
        refine go_if_lt2 (q := 62) (t := 66) dX7_goesOnColours_59 (by decide) rfl (by omega) (fun c59 => ?_) (fun c59 => ?_)
        · refine go_iconst (q := 67) dX7_goesOnColours_66 rfl ?_
          refine go_iret dX7_goesOnColours_67 ?_
          subst hK
          first
          | exact absurd c59 (by omega)
          | exact absurd c45 (by omega)
          | (have zq := wj
             have e1 : Vn n (cset (fun i => if i < j ∨ a ≤ i then col i else 0) j (col j + 1)) (j + 1) = Vn n col (j + 1) + 1 := by
               show Vn n _ j * n + cset _ j (col j + 1) j = Vn n col j * n + col j + 1
               rw [cset_eq, V_congr j (c2 := col) (fun i hi => by rw [cset_ne (by omega)]; exact if_pos (by omega))]; omega
             have e2 := V_zeros (n := n) (j := j + 1) (col := cset (fun i => if i < j ∨ a ≤ i then col i else 0) j (col j + 1)) (a - (j + 1)) (fun i z1 z2 => by rw [cset_ne (by omega)]; exact if_neg (by omega))
             rw [show j + 1 + (a - (j + 1)) = a by omega] at e2
             refine Or.inl ⟨rfl, ⟨cset (fun i => if i < j ∨ a ≤ i then col i else 0) j (col j + 1), ⟨fun i hi => ?_, fun i hi => ?_⟩, by rw [e2, e1, hV]⟩, fun c k h => by rw [mup_ne (Or.inl h)]; exact hf c k h⟩
             · by_cases q : i = j
               · subst q; rw [mup_eq, cset_eq, wj]; rfl
               · rw [mup_ne (by omega), cset_ne q]
                 by_cases q2 : i < j ∨ a ≤ i
                 · simp only [if_pos q2]; exact hlo i hi (by omega)
                 · simp only [if_neg q2]; exact hhi i (by omega) (by omega)
             · by_cases q : i = j
               · subst q; rw [cset_eq]; omega
               · rw [cset_ne q]
                 by_cases q2 : i < j ∨ a ≤ i
                 · simp only [if_pos q2]; exact hc i hi
                 · simp only [if_neg q2]; omega)
          | (have ej0 : j = 0 := by omega
             subst ej0
             exact Or.inr ⟨rfl, by rw [hV]; show (0 + 1) * n ^ (a - 0) = n ^ a; rw [Nat.sub_zero, Nat.zero_add, Nat.one_mul], hf⟩)
        · refine go_iconst (q := 63) dX7_goesOnColours_62 rfl ?_
          refine go_goto (q := 67) dX7_goesOnColours_63 (by decide) ?_
          refine go_iret dX7_goesOnColours_67 ?_
          subst hK
          first
          | exact absurd c59 (by omega)
          | exact absurd c45 (by omega)
          | (have zq := wj
             have e1 : Vn n (cset (fun i => if i < j ∨ a ≤ i then col i else 0) j (col j + 1)) (j + 1) = Vn n col (j + 1) + 1 := by
               show Vn n _ j * n + cset _ j (col j + 1) j = Vn n col j * n + col j + 1
               rw [cset_eq, V_congr j (c2 := col) (fun i hi => by rw [cset_ne (by omega)]; exact if_pos (by omega))]; omega
             have e2 := V_zeros (n := n) (j := j + 1) (col := cset (fun i => if i < j ∨ a ≤ i then col i else 0) j (col j + 1)) (a - (j + 1)) (fun i z1 z2 => by rw [cset_ne (by omega)]; exact if_neg (by omega))
             rw [show j + 1 + (a - (j + 1)) = a by omega] at e2
             refine Or.inl ⟨rfl, ⟨cset (fun i => if i < j ∨ a ≤ i then col i else 0) j (col j + 1), ⟨fun i hi => ?_, fun i hi => ?_⟩, by rw [e2, e1, hV]⟩, fun c k h => by rw [mup_ne (Or.inl h)]; exact hf c k h⟩
             · by_cases q : i = j
               · subst q; rw [mup_eq, cset_eq, wj]; rfl
               · rw [mup_ne (by omega), cset_ne q]
                 by_cases q2 : i < j ∨ a ≤ i
                 · simp only [if_pos q2]; exact hlo i hi (by omega)
                 · simp only [if_neg q2]; exact hhi i (by omega) (by omega)
             · by_cases q : i = j
               · subst q; rw [cset_eq]; omega
               · rw [cset_ne q]
                 by_cases q2 : i < j ∨ a ≤ i
                 · simp only [if_pos q2]; exact hc i hi
                 · simp only [if_neg q2]; omega)
          | (have ej0 : j = 0 := by omega
             subst ej0
             exact Or.inr ⟨rfl, by rw [hV]; show (0 + 1) * n ^ (a - 0) = n ^ a; rw [Nat.sub_zero, Nat.zero_add, Nat.one_mul], hf⟩)
      · first
          | (have zq := wj)
          | (obtain ⟨j, rfl⟩ : ∃ j', j = j' + 1 := ⟨j - 1, by omega⟩
             have wj := hlo j (by omega) (by omega)
             have cj := hc j (by omega))
        refine go_aload_n (j := 0) (q := 49) rfl rfl dX7_goesOnColours_48 rfl ?_
        refine go_getR (C0 := RX7) (T := TX7) (N := 16) (ci := 7) (i := 9) (q := 52) rfl igX7 (by first | assumption | rfl) (by decide) fl_X7_28 rfl dX7_goesOnColours_49 rfl ?_
        refine go_iload_n (j := 1) (q := 53) rfl rfl dX7_goesOnColours_52 rfl ?_
        refine go_dup2 (q := 54) (fun _ z => by cases z) (fun _ z => by cases z) dX7_goesOnColours_53 rfl ?_
        refine go_iald (j := j) (q := 55) (by first | assumption | rfl) (wr_eq (by omega)) (by omega) dX7_goesOnColours_54 rfl ?_
        refine go_iconst (q := 56) dX7_goesOnColours_55 rfl ?_
        refine go_iadd (q := 57) dX7_goesOnColours_56 rfl ?_
        refine go_iast (j := j) (q := 58) (by first | assumption | rfl) (wr_eq (by omega)) (by omega) dX7_goesOnColours_57 rfl ?_
        refine go_iload_n (j := 1) (q := 59) rfl rfl dX7_goesOnColours_58 rfl ?_
        refine go_if_lt2 (q := 62) (t := 66) dX7_goesOnColours_59 (by decide) rfl (by omega) (fun c59 => ?_) (fun c59 => ?_)
        · refine go_iconst (q := 67) dX7_goesOnColours_66 rfl ?_
          refine go_iret dX7_goesOnColours_67 ?_
          subst hK
          first
          | exact absurd c59 (by omega)
          | exact absurd c45 (by omega)
          | (have zq := wj
             have e1 : Vn n (cset (fun i => if i < j ∨ a ≤ i then col i else 0) j (col j + 1)) (j + 1) = Vn n col (j + 1) + 1 := by
               show Vn n _ j * n + cset _ j (col j + 1) j = Vn n col j * n + col j + 1
               rw [cset_eq, V_congr j (c2 := col) (fun i hi => by rw [cset_ne (by omega)]; exact if_pos (by omega))]; omega
             have e2 := V_zeros (n := n) (j := j + 1) (col := cset (fun i => if i < j ∨ a ≤ i then col i else 0) j (col j + 1)) (a - (j + 1)) (fun i z1 z2 => by rw [cset_ne (by omega)]; exact if_neg (by omega))
             rw [show j + 1 + (a - (j + 1)) = a by omega] at e2
             refine Or.inl ⟨rfl, ⟨cset (fun i => if i < j ∨ a ≤ i then col i else 0) j (col j + 1), ⟨fun i hi => ?_, fun i hi => ?_⟩, by rw [e2, e1, hV]⟩, fun c k h => by rw [mup_ne (Or.inl h)]; exact hf c k h⟩
             · by_cases q : i = j
               · subst q; rw [mup_eq, cset_eq, wj]; rfl
               · rw [mup_ne (by omega), cset_ne q]
                 by_cases q2 : i < j ∨ a ≤ i
                 · simp only [if_pos q2]; exact hlo i hi (by omega)
                 · simp only [if_neg q2]; exact hhi i (by omega) (by omega)
             · by_cases q : i = j
               · subst q; rw [cset_eq]; omega
               · rw [cset_ne q]
                 by_cases q2 : i < j ∨ a ≤ i
                 · simp only [if_pos q2]; exact hc i hi
                 · simp only [if_neg q2]; omega)
          | (have ej0 : j = 0 := by omega
             subst ej0
             exact Or.inr ⟨rfl, by rw [hV]; show (0 + 1) * n ^ (a - 0) = n ^ a; rw [Nat.sub_zero, Nat.zero_add, Nat.one_mul], hf⟩)
        · refine go_iconst (q := 63) dX7_goesOnColours_62 rfl ?_
          refine go_goto (q := 67) dX7_goesOnColours_63 (by decide) ?_
          refine go_iret dX7_goesOnColours_67 ?_
          subst hK
          first
          | exact absurd c59 (by omega)
          | exact absurd c45 (by omega)
          | (have zq := wj
             have e1 : Vn n (cset (fun i => if i < j ∨ a ≤ i then col i else 0) j (col j + 1)) (j + 1) = Vn n col (j + 1) + 1 := by
               show Vn n _ j * n + cset _ j (col j + 1) j = Vn n col j * n + col j + 1
               rw [cset_eq, V_congr j (c2 := col) (fun i hi => by rw [cset_ne (by omega)]; exact if_pos (by omega))]; omega
             have e2 := V_zeros (n := n) (j := j + 1) (col := cset (fun i => if i < j ∨ a ≤ i then col i else 0) j (col j + 1)) (a - (j + 1)) (fun i z1 z2 => by rw [cset_ne (by omega)]; exact if_neg (by omega))
             rw [show j + 1 + (a - (j + 1)) = a by omega] at e2
             refine Or.inl ⟨rfl, ⟨cset (fun i => if i < j ∨ a ≤ i then col i else 0) j (col j + 1), ⟨fun i hi => ?_, fun i hi => ?_⟩, by rw [e2, e1, hV]⟩, fun c k h => by rw [mup_ne (Or.inl h)]; exact hf c k h⟩
             · by_cases q : i = j
               · subst q; rw [mup_eq, cset_eq, wj]; rfl
               · rw [mup_ne (by omega), cset_ne q]
                 by_cases q2 : i < j ∨ a ≤ i
                 · simp only [if_pos q2]; exact hlo i hi (by omega)
                 · simp only [if_neg q2]; exact hhi i (by omega) (by omega)
             · by_cases q : i = j
               · subst q; rw [cset_eq]; omega
               · rw [cset_ne q]
                 by_cases q2 : i < j ∨ a ≤ i
                 · simp only [if_pos q2]; exact hc i hi
                 · simp only [if_neg q2]; omega)
          | (have ej0 : j = 0 := by omega
             subst ej0
             exact Or.inr ⟨rfl, by rw [hV]; show (0 + 1) * n ^ (a - 0) = n ^ a; rw [Nat.sub_zero, Nat.zero_add, Nat.one_mul], hf⟩)
    · obtain ⟨j, rfl⟩ : ∃ j', j = j' + 1 := ⟨j - 1, by omega⟩
      have wj := hlo j (by omega) (by omega)
      have cj := hc j (by omega)
      refine go_aload_n (j := 0) (q := 15) rfl rfl dX7_goesOnColours_14 rfl ?_
      refine go_getR (C0 := RX7) (T := TX7) (N := 16) (ci := 7) (i := 9) (q := 18) rfl igX7 (by first | assumption | rfl) (by decide) fl_X7_28 rfl dX7_goesOnColours_15 rfl ?_
      refine go_iload_n (j := 1) (q := 19) rfl rfl dX7_goesOnColours_18 rfl ?_
      refine go_iald (j := j) (q := 20) (by first | assumption | rfl) (wr_eq (by omega)) (by omega) dX7_goesOnColours_19 rfl ?_
      refine go_aload_n (j := 0) (q := 21) rfl rfl dX7_goesOnColours_20 rfl ?_
      refine go_getR (C0 := RX7) (T := TX7) (N := 16) (ci := 7) (i := 0) (q := 24) rfl igX7 (by first | assumption | rfl) (by decide) fl_X7_7 rfl dX7_goesOnColours_21 rfl ?_
      refine go_iconst (q := 25) dX7_goesOnColours_24 rfl ?_
      refine go_iald (j := 0) (q := 26) (by first | assumption | rfl) (wr_eq (by omega)) (by omega) dX7_goesOnColours_25 rfl ?_
      refine go_iconst (q := 27) dX7_goesOnColours_26 rfl ?_
      refine go_isub (q := 28) dX7_goesOnColours_27 rfl ?_
      refine go_icmp_ne2 (q := 31) (t := 44) dX7_goesOnColours_28 (by decide) rfl (by omega) (fun c28 => ?_) (fun c28 => ?_)
      · refine go_iload_n (j := 1) (q := 45) rfl rfl dX7_goesOnColours_44 rfl ?_
        refine go_if_lt2 (q := 48) (t := 58) dX7_goesOnColours_45 (by decide) rfl (by omega) (fun c45 => ?_) (fun c45 => ?_)
        · refine go_iload_n (j := 1) (q := 59) rfl rfl dX7_goesOnColours_58 rfl ?_
          refine go_if_lt2 (q := 62) (t := 66) dX7_goesOnColours_59 (by decide) rfl (by omega) (fun c59 => ?_) (fun c59 => ?_)
          · refine go_iconst (q := 67) dX7_goesOnColours_66 rfl ?_
            refine go_iret dX7_goesOnColours_67 ?_
            subst hK
            first
            | exact absurd c59 (by omega)
            | exact absurd c45 (by omega)
            | (have zq := wj
               have e1 : Vn n (cset (fun i => if i < j ∨ a ≤ i then col i else 0) j (col j + 1)) (j + 1) = Vn n col (j + 1) + 1 := by
                 show Vn n _ j * n + cset _ j (col j + 1) j = Vn n col j * n + col j + 1
                 rw [cset_eq, V_congr j (c2 := col) (fun i hi => by rw [cset_ne (by omega)]; exact if_pos (by omega))]; omega
               have e2 := V_zeros (n := n) (j := j + 1) (col := cset (fun i => if i < j ∨ a ≤ i then col i else 0) j (col j + 1)) (a - (j + 1)) (fun i z1 z2 => by rw [cset_ne (by omega)]; exact if_neg (by omega))
               rw [show j + 1 + (a - (j + 1)) = a by omega] at e2
               refine Or.inl ⟨rfl, ⟨cset (fun i => if i < j ∨ a ≤ i then col i else 0) j (col j + 1), ⟨fun i hi => ?_, fun i hi => ?_⟩, by rw [e2, e1, hV]⟩, fun c k h => by rw [mup_ne (Or.inl h)]; exact hf c k h⟩
               · by_cases q : i = j
                 · subst q; rw [mup_eq, cset_eq, wj]; rfl
                 · rw [mup_ne (by omega), cset_ne q]
                   by_cases q2 : i < j ∨ a ≤ i
                   · simp only [if_pos q2]; exact hlo i hi (by omega)
                   · simp only [if_neg q2]; exact hhi i (by omega) (by omega)
               · by_cases q : i = j
                 · subst q; rw [cset_eq]; omega
                 · rw [cset_ne q]
                   by_cases q2 : i < j ∨ a ≤ i
                   · simp only [if_pos q2]; exact hc i hi
                   · simp only [if_neg q2]; omega)
            | (have ej0 : j = 0 := by omega
               subst ej0
               exact Or.inr ⟨rfl, by rw [hV]; show (0 + 1) * n ^ (a - 0) = n ^ a; rw [Nat.sub_zero, Nat.zero_add, Nat.one_mul], hf⟩)
          · refine go_iconst (q := 63) dX7_goesOnColours_62 rfl ?_
            refine go_goto (q := 67) dX7_goesOnColours_63 (by decide) ?_
            refine go_iret dX7_goesOnColours_67 ?_
            subst hK
            first
            | exact absurd c59 (by omega)
            | exact absurd c45 (by omega)
            | (have zq := wj
               have e1 : Vn n (cset (fun i => if i < j ∨ a ≤ i then col i else 0) j (col j + 1)) (j + 1) = Vn n col (j + 1) + 1 := by
                 show Vn n _ j * n + cset _ j (col j + 1) j = Vn n col j * n + col j + 1
                 rw [cset_eq, V_congr j (c2 := col) (fun i hi => by rw [cset_ne (by omega)]; exact if_pos (by omega))]; omega
               have e2 := V_zeros (n := n) (j := j + 1) (col := cset (fun i => if i < j ∨ a ≤ i then col i else 0) j (col j + 1)) (a - (j + 1)) (fun i z1 z2 => by rw [cset_ne (by omega)]; exact if_neg (by omega))
               rw [show j + 1 + (a - (j + 1)) = a by omega] at e2
               refine Or.inl ⟨rfl, ⟨cset (fun i => if i < j ∨ a ≤ i then col i else 0) j (col j + 1), ⟨fun i hi => ?_, fun i hi => ?_⟩, by rw [e2, e1, hV]⟩, fun c k h => by rw [mup_ne (Or.inl h)]; exact hf c k h⟩
               · by_cases q : i = j
                 · subst q; rw [mup_eq, cset_eq, wj]; rfl
                 · rw [mup_ne (by omega), cset_ne q]
                   by_cases q2 : i < j ∨ a ≤ i
                   · simp only [if_pos q2]; exact hlo i hi (by omega)
                   · simp only [if_neg q2]; exact hhi i (by omega) (by omega)
               · by_cases q : i = j
                 · subst q; rw [cset_eq]; omega
                 · rw [cset_ne q]
                   by_cases q2 : i < j ∨ a ≤ i
                   · simp only [if_pos q2]; exact hc i hi
                   · simp only [if_neg q2]; omega)
            | (have ej0 : j = 0 := by omega
               subst ej0
               exact Or.inr ⟨rfl, by rw [hV]; show (0 + 1) * n ^ (a - 0) = n ^ a; rw [Nat.sub_zero, Nat.zero_add, Nat.one_mul], hf⟩)
        · first
            | (have zq := wj)
            | (obtain ⟨j, rfl⟩ : ∃ j', j = j' + 1 := ⟨j - 1, by omega⟩
               have wj := hlo j (by omega) (by omega)
               have cj := hc j (by omega))
          refine go_aload_n (j := 0) (q := 49) rfl rfl dX7_goesOnColours_48 rfl ?_
          refine go_getR (C0 := RX7) (T := TX7) (N := 16) (ci := 7) (i := 9) (q := 52) rfl igX7 (by first | assumption | rfl) (by decide) fl_X7_28 rfl dX7_goesOnColours_49 rfl ?_
          refine go_iload_n (j := 1) (q := 53) rfl rfl dX7_goesOnColours_52 rfl ?_
          refine go_dup2 (q := 54) (fun _ z => by cases z) (fun _ z => by cases z) dX7_goesOnColours_53 rfl ?_
          refine go_iald (j := j) (q := 55) (by first | assumption | rfl) (wr_eq (by omega)) (by omega) dX7_goesOnColours_54 rfl ?_
          refine go_iconst (q := 56) dX7_goesOnColours_55 rfl ?_
          refine go_iadd (q := 57) dX7_goesOnColours_56 rfl ?_
          refine go_iast (j := j) (q := 58) (by first | assumption | rfl) (wr_eq (by omega)) (by omega) dX7_goesOnColours_57 rfl ?_
          refine go_iload_n (j := 1) (q := 59) rfl rfl dX7_goesOnColours_58 rfl ?_
          refine go_if_lt2 (q := 62) (t := 66) dX7_goesOnColours_59 (by decide) rfl (by omega) (fun c59 => ?_) (fun c59 => ?_)
          · refine go_iconst (q := 67) dX7_goesOnColours_66 rfl ?_
            refine go_iret dX7_goesOnColours_67 ?_
            subst hK
            first
            | exact absurd c59 (by omega)
            | exact absurd c45 (by omega)
            | (have zq := wj
               have e1 : Vn n (cset (fun i => if i < j ∨ a ≤ i then col i else 0) j (col j + 1)) (j + 1) = Vn n col (j + 1) + 1 := by
                 show Vn n _ j * n + cset _ j (col j + 1) j = Vn n col j * n + col j + 1
                 rw [cset_eq, V_congr j (c2 := col) (fun i hi => by rw [cset_ne (by omega)]; exact if_pos (by omega))]; omega
               have e2 := V_zeros (n := n) (j := j + 1) (col := cset (fun i => if i < j ∨ a ≤ i then col i else 0) j (col j + 1)) (a - (j + 1)) (fun i z1 z2 => by rw [cset_ne (by omega)]; exact if_neg (by omega))
               rw [show j + 1 + (a - (j + 1)) = a by omega] at e2
               refine Or.inl ⟨rfl, ⟨cset (fun i => if i < j ∨ a ≤ i then col i else 0) j (col j + 1), ⟨fun i hi => ?_, fun i hi => ?_⟩, by rw [e2, e1, hV]⟩, fun c k h => by rw [mup_ne (Or.inl h)]; exact hf c k h⟩
               · by_cases q : i = j
                 · subst q; rw [mup_eq, cset_eq, wj]; rfl
                 · rw [mup_ne (by omega), cset_ne q]
                   by_cases q2 : i < j ∨ a ≤ i
                   · simp only [if_pos q2]; exact hlo i hi (by omega)
                   · simp only [if_neg q2]; exact hhi i (by omega) (by omega)
               · by_cases q : i = j
                 · subst q; rw [cset_eq]; omega
                 · rw [cset_ne q]
                   by_cases q2 : i < j ∨ a ≤ i
                   · simp only [if_pos q2]; exact hc i hi
                   · simp only [if_neg q2]; omega)
            | (have ej0 : j = 0 := by omega
               subst ej0
               exact Or.inr ⟨rfl, by rw [hV]; show (0 + 1) * n ^ (a - 0) = n ^ a; rw [Nat.sub_zero, Nat.zero_add, Nat.one_mul], hf⟩)
          · refine go_iconst (q := 63) dX7_goesOnColours_62 rfl ?_
            refine go_goto (q := 67) dX7_goesOnColours_63 (by decide) ?_
            refine go_iret dX7_goesOnColours_67 ?_
            subst hK
            first
            | exact absurd c59 (by omega)
            | exact absurd c45 (by omega)
            | (have zq := wj
               have e1 : Vn n (cset (fun i => if i < j ∨ a ≤ i then col i else 0) j (col j + 1)) (j + 1) = Vn n col (j + 1) + 1 := by
                 show Vn n _ j * n + cset _ j (col j + 1) j = Vn n col j * n + col j + 1
                 rw [cset_eq, V_congr j (c2 := col) (fun i hi => by rw [cset_ne (by omega)]; exact if_pos (by omega))]; omega
               have e2 := V_zeros (n := n) (j := j + 1) (col := cset (fun i => if i < j ∨ a ≤ i then col i else 0) j (col j + 1)) (a - (j + 1)) (fun i z1 z2 => by rw [cset_ne (by omega)]; exact if_neg (by omega))
               rw [show j + 1 + (a - (j + 1)) = a by omega] at e2
               refine Or.inl ⟨rfl, ⟨cset (fun i => if i < j ∨ a ≤ i then col i else 0) j (col j + 1), ⟨fun i hi => ?_, fun i hi => ?_⟩, by rw [e2, e1, hV]⟩, fun c k h => by rw [mup_ne (Or.inl h)]; exact hf c k h⟩
               · by_cases q : i = j
                 · subst q; rw [mup_eq, cset_eq, wj]; rfl
                 · rw [mup_ne (by omega), cset_ne q]
                   by_cases q2 : i < j ∨ a ≤ i
                   · simp only [if_pos q2]; exact hlo i hi (by omega)
                   · simp only [if_neg q2]; exact hhi i (by omega) (by omega)
               · by_cases q : i = j
                 · subst q; rw [cset_eq]; omega
                 · rw [cset_ne q]
                   by_cases q2 : i < j ∨ a ≤ i
                   · simp only [if_pos q2]; exact hc i hi
                   · simp only [if_neg q2]; omega)
            | (have ej0 : j = 0 := by omega
               subst ej0
               exact Or.inr ⟨rfl, by rw [hV]; show (0 + 1) * n ^ (a - 0) = n ^ a; rw [Nat.sub_zero, Nat.zero_add, Nat.one_mul], hf⟩)
      · refine go_aload_n (j := 0) (q := 32) rfl rfl dX7_goesOnColours_31 rfl ?_
        refine go_getR (C0 := RX7) (T := TX7) (N := 16) (ci := 7) (i := 9) (q := 35) rfl igX7 (by first | assumption | rfl) (by decide) fl_X7_28 rfl dX7_goesOnColours_32 rfl ?_
        refine go_iload_n (j := 1) (q := 36) rfl rfl dX7_goesOnColours_35 rfl ?_
        refine go_iconst (q := 37) dX7_goesOnColours_36 rfl ?_
        refine go_iast (j := j) (q := 38) (by first | assumption | rfl) (wr_eq (by omega)) (by omega) dX7_goesOnColours_37 rfl ?_
        refine go_iinc (j := 1) (q := 41) (ls2 := [_, _]) rfl (by decide) rfl rfl dX7_goesOnColours_38 rfl ?_
        refine go_goto (q := 10) dX7_goesOnColours_41 (by decide) ?_
        exact ih10 _ (by omega) j _ _ (by omega) (by omega) (fun i z1 z2 => by rw [mup_ne (by omega)]; exact hlo i z1 (by omega)) (by
          intro i z1 z2
          by_cases q : i = j
          · subst q; rw [mup_eq]
          · rw [mup_ne (by omega)]; exact hhi i (by omega) z2) (by
          intro i z1 z2
          by_cases q : i = j
          · subst q; omega
          · exact h9 i (by omega) z2) (fun c k h => by rw [mup_ne (Or.inl h)]; exact hf c k h) rfl
  exact lp10 _ a _ _ (by omega) (by omega) (fun i h _ => hw i h) (fun i h h2 => by omega) (fun i h h2 => by omega) (fun c k h => rfl) rfl
theorem em_counts (hT : TMv (w 46) n f) (hD : DMv (w 46) a c g s) {q : Int} {x y : Nat} {xi yi : Int} {E : (Nat → Nat) → Prop} (ex : xi = x) (ey : yi = y) (hxy : x < 100 ∧ y < 100) (hq : qE a q x y E) :
    eX7_counts l D ck ad shA [vR 45, vI q, vI xi, vI yi] w (Pi fun v w1 => v = (cntP n a c f g s E (n ^ a) : Int) ∧ ∀ c k, c ≠ 52 → w1 c k = w c k) := by
  have hn := hT.2.1
  have ha := hD.2.2.1
  have hga := lastA_m hD
  have hE := qE_cgr hq
  have hqr : 0 ≤ q ∧ q ≤ 3 := by rcases hq with ⟨z, _⟩ | ⟨z, _⟩ | ⟨z, _⟩ | ⟨z, _⟩ <;> omega
  refine ev_of_goK (own := RX7) (ls := [some (vR 45), some (vI q), some (vI xi), some (vI yi), none, none, none]) (by decide +kernel) rfl rfl (Nat.le_of_ble_eq_true rfl) rkI ?_
  intro K hK
  refine go_iconst (q := 1) dX7_counts_0 rfl ?_
  refine go_istore (j := 4) (q := 3) (ls2 := [_, _, _, _, _, _, _]) (by decide) rfl rfl dX7_counts_1 rfl ?_
  refine go_aload_n (j := 0) (q := 4) rfl rfl dX7_counts_3 rfl ?_
  refine go_callVv (as := [_]) (As := []) (rest := []) (n := 0) (q := 7) dX7_counts_4 lk_X7_172 (ci := 7) (N := 16) (T := TX7) rfl (by first | assumption | rfl) rfl rfl (by decide +kernel) rfl ⟨by decide, by decide⟩ ⟨rfl, rfl⟩ (Nat.le_of_ble_eq_true rfl) (em_beginsColours) rfl (fun w4 h4 => ?_)
  obtain ⟨b4, f4⟩ := h4
  refine go_iconst (q := 8) dX7_counts_7 rfl ?_
  refine go_istore (j := 5) (q := 10) (ls2 := [_, _, _, _, _, _, _]) (by decide) rfl rfl dX7_counts_8 rfl ?_
  have lp10 : ∀ (m10 : Nat) (p : Nat) (mi gi : Int) (u : Option MV) (w1 : Mem) (col : Nat → Nat) (em : mi = (cntP n a c f g s E p : Nat)) (hg : (gi = 1 ∧ CM w1 n a col ∧ Vn n col a = p) ∨ (gi = 0 ∧ p = n ^ a)) (hf : ∀ c k, c ≠ 52 → w1 c k = w c k), m10 = n ^ a - p → gX7_counts l D ck ad shA 10 [some (vR 45), some (vI q), some (vI xi), some (vI yi), some (vI mi), some (vI gi), u] [] w1 K := by
    intro m10
    induction m10 using Nat.strongRecOn with
    | _ m10 ih10 =>
    intro p mi gi u w1 col em hg hf em10
    refine go_iload (j := 5) (q := 12) rfl dX7_counts_10 rfl ?_
    refine go_if_eq2 (q := 15) (t := 106) dX7_counts_12 (by decide) rfl (by omega) (fun c12 => ?_) (fun c12 => ?_)
    · refine go_iload (j := 4) (q := 108) rfl dX7_counts_106 rfl ?_
      refine go_iret dX7_counts_108 ?_
      subst hK
      have hpe : p = n ^ a := by
        rcases hg with ⟨z, _⟩ | ⟨_, z⟩
        · omega
        · exact z
      exact ⟨_, rfl, by rw [em, hpe], hf⟩
    · have hg1 : CM w1 n a col ∧ Vn n col a = p := by
        rcases hg with ⟨_, z⟩ | ⟨z, _⟩
        · exact z
        · omega
      have hT1 : TMv (w1 46) n f := TMv_c hT (fun k _ => hf _ _ (by omega))
      have hD1 : DMv (w1 46) a c g s := DMv_c hD (fun k _ _ => hf _ _ (by omega))
      have hpl := V_lt a hg1.1.2
      rw [hg1.2] at hpl
      refine go_iload_n (j := 1) (q := 16) rfl rfl dX7_counts_15 rfl ?_
      refine go_if_eq2 (q := 19) (t := 68) dX7_counts_16 (by decide) rfl (by omega) (fun c16 => ?_) (fun c16 => ?_)
      · have zp : E col := by
          rcases hq with ⟨z, zE⟩ | ⟨z, _⟩ | ⟨z, _⟩ | ⟨z, _⟩
          · rw [zE]; trivial
          · omega
          · omega
          · omega
        refine go_iconst (q := 69) dX7_counts_68 rfl ?_
        refine go_goto (q := 73) dX7_counts_69 (by decide) ?_
        refine go_istore (j := 6) (q := 75) (ls2 := [_, _, _, _, _, _, _]) (by decide) rfl rfl dX7_counts_73 rfl ?_
        refine go_iload (j := 4) (q := 77) rfl dX7_counts_75 rfl ?_
        refine go_iload (j := 6) (q := 79) rfl dX7_counts_77 rfl ?_
        refine go_if_eqF (q := 82) (t := 93) dX7_counts_79 rfl (by decide) (by decide) ?_
        refine go_aload_n (j := 0) (q := 83) rfl rfl dX7_counts_82 rfl ?_
        refine go_callVz (as := [_]) (As := []) (rest := [_]) (n := 0) (q := 86) dX7_counts_83 lk_X7_178 (ci := 7) (N := 16) (T := TX7) rfl (by first | assumption | rfl) rfl rfl (by decide +kernel) rfl ⟨by decide, by decide⟩ ⟨rfl, rfl⟩ (Nat.le_of_ble_eq_true rfl) (em_isColouring hT1 hD1 hg1.1) rfl (fun w83 h83 => ?_) (fun w83 h83 => ?_)
        · obtain ⟨rfl, h83⟩ := h83
          refine go_if_eqF (q := 89) (t := 93) dX7_counts_86 rfl (by decide) (by decide) ?_
          refine go_iconst (q := 90) dX7_counts_89 rfl ?_
          refine go_goto (q := 94) dX7_counts_90 (by decide) ?_
          refine go_iadd (q := 95) dX7_counts_94 rfl ?_
          refine go_istore (j := 4) (q := 97) (ls2 := [_, _, _, _, _, _, _]) (by decide) rfl rfl dX7_counts_95 rfl ?_
          have hst : ∃ mj : Int, mj = (cntP n a c f g s E (p + 1) : Nat) ∧ mj = mj := ⟨_, rfl, rfl⟩
          refine go_aload_n (j := 0) (q := 98) rfl rfl dX7_counts_97 rfl ?_
          refine go_callVz (as := [_]) (As := []) (rest := []) (n := 0) (q := 101) dX7_counts_98 lk_X7_181 (ci := 7) (N := 16) (T := TX7) rfl (by first | assumption | rfl) rfl rfl (by decide +kernel) rfl ⟨by decide, by decide⟩ ⟨rfl, rfl⟩ (Nat.le_of_ble_eq_true rfl) (em_goesOnColours hT1 hD1 hg1.1) rfl (fun w98 h98 => ?_) (fun w98 h98 => ?_)
          · obtain ⟨⟨col2, hC2, hV2⟩, f98⟩ := h98
            refine go_istore (j := 5) (q := 103) (ls2 := [_, _, _, _, _, _, _]) (by decide) rfl rfl dX7_counts_101 rfl ?_
            refine go_goto (q := 10) dX7_counts_103 (by decide) ?_
            (have hfr : ∀ c k, c ≠ 52 → w98 c k = w c k := fun c k h => by rw [f98 c k h]; exact hf c k h
             rw [hg1.2] at hV2
             first
             | (have zq := hC2
                refine ih10 _ (by omega) (p + 1) _ _ _ _ col2 ?_ (Or.inl ⟨rfl, hC2, hV2⟩) hfr rfl
                first
                | (have zq := zn; rw [← hg1.2, cnt_n hga hE hg1.1.2 (fun z => zn z.2), hg1.2]; omega)
                | (rw [← hg1.2, cnt_s hga hE hg1.1.2 ⟨h83, zp⟩, hg1.2]; omega)
                | (rw [← hg1.2, cnt_n hga hE hg1.1.2 (fun z => h83 z.1), hg1.2]; omega))
             | (refine ih10 _ (by omega) (p + 1) _ _ _ _ col ?_ (Or.inr ⟨rfl, hV2⟩) hfr rfl
                first
                | (have zq := zn; rw [← hg1.2, cnt_n hga hE hg1.1.2 (fun z => zn z.2), hg1.2]; omega)
                | (rw [← hg1.2, cnt_s hga hE hg1.1.2 ⟨h83, zp⟩, hg1.2]; omega)
                | (rw [← hg1.2, cnt_n hga hE hg1.1.2 (fun z => h83 z.1), hg1.2]; omega)))
          · obtain ⟨hV2, f98⟩ := h98
            refine go_istore (j := 5) (q := 103) (ls2 := [_, _, _, _, _, _, _]) (by decide) rfl rfl dX7_counts_101 rfl ?_
            refine go_goto (q := 10) dX7_counts_103 (by decide) ?_
            (have hfr : ∀ c k, c ≠ 52 → w98 c k = w c k := fun c k h => by rw [f98 c k h]; exact hf c k h
             rw [hg1.2] at hV2
             first
             | (have zq := hC2
                refine ih10 _ (by omega) (p + 1) _ _ _ _ col2 ?_ (Or.inl ⟨rfl, hC2, hV2⟩) hfr rfl
                first
                | (have zq := zn; rw [← hg1.2, cnt_n hga hE hg1.1.2 (fun z => zn z.2), hg1.2]; omega)
                | (rw [← hg1.2, cnt_s hga hE hg1.1.2 ⟨h83, zp⟩, hg1.2]; omega)
                | (rw [← hg1.2, cnt_n hga hE hg1.1.2 (fun z => h83 z.1), hg1.2]; omega))
             | (refine ih10 _ (by omega) (p + 1) _ _ _ _ col ?_ (Or.inr ⟨rfl, hV2⟩) hfr rfl
                first
                | (have zq := zn; rw [← hg1.2, cnt_n hga hE hg1.1.2 (fun z => zn z.2), hg1.2]; omega)
                | (rw [← hg1.2, cnt_s hga hE hg1.1.2 ⟨h83, zp⟩, hg1.2]; omega)
                | (rw [← hg1.2, cnt_n hga hE hg1.1.2 (fun z => h83 z.1), hg1.2]; omega)))
        · obtain ⟨rfl, h83⟩ := h83
          refine go_if_eqT (t := 93) dX7_counts_86 (by decide) (by decide) ?_
          refine go_iconst (q := 94) dX7_counts_93 rfl ?_
          refine go_iadd (q := 95) dX7_counts_94 rfl ?_
          refine go_istore (j := 4) (q := 97) (ls2 := [_, _, _, _, _, _, _]) (by decide) rfl rfl dX7_counts_95 rfl ?_
          have hst : ∃ mj : Int, mj = (cntP n a c f g s E (p + 1) : Nat) ∧ mj = mj := ⟨_, rfl, rfl⟩
          refine go_aload_n (j := 0) (q := 98) rfl rfl dX7_counts_97 rfl ?_
          refine go_callVz (as := [_]) (As := []) (rest := []) (n := 0) (q := 101) dX7_counts_98 lk_X7_181 (ci := 7) (N := 16) (T := TX7) rfl (by first | assumption | rfl) rfl rfl (by decide +kernel) rfl ⟨by decide, by decide⟩ ⟨rfl, rfl⟩ (Nat.le_of_ble_eq_true rfl) (em_goesOnColours hT1 hD1 hg1.1) rfl (fun w98 h98 => ?_) (fun w98 h98 => ?_)
          · obtain ⟨⟨col2, hC2, hV2⟩, f98⟩ := h98
            refine go_istore (j := 5) (q := 103) (ls2 := [_, _, _, _, _, _, _]) (by decide) rfl rfl dX7_counts_101 rfl ?_
            refine go_goto (q := 10) dX7_counts_103 (by decide) ?_
            (have hfr : ∀ c k, c ≠ 52 → w98 c k = w c k := fun c k h => by rw [f98 c k h]; exact hf c k h
             rw [hg1.2] at hV2
             first
             | (have zq := hC2
                refine ih10 _ (by omega) (p + 1) _ _ _ _ col2 ?_ (Or.inl ⟨rfl, hC2, hV2⟩) hfr rfl
                first
                | (have zq := zn; rw [← hg1.2, cnt_n hga hE hg1.1.2 (fun z => zn z.2), hg1.2]; omega)
                | (rw [← hg1.2, cnt_s hga hE hg1.1.2 ⟨h83, zp⟩, hg1.2]; omega)
                | (rw [← hg1.2, cnt_n hga hE hg1.1.2 (fun z => h83 z.1), hg1.2]; omega))
             | (refine ih10 _ (by omega) (p + 1) _ _ _ _ col ?_ (Or.inr ⟨rfl, hV2⟩) hfr rfl
                first
                | (have zq := zn; rw [← hg1.2, cnt_n hga hE hg1.1.2 (fun z => zn z.2), hg1.2]; omega)
                | (rw [← hg1.2, cnt_s hga hE hg1.1.2 ⟨h83, zp⟩, hg1.2]; omega)
                | (rw [← hg1.2, cnt_n hga hE hg1.1.2 (fun z => h83 z.1), hg1.2]; omega)))
          · obtain ⟨hV2, f98⟩ := h98
            refine go_istore (j := 5) (q := 103) (ls2 := [_, _, _, _, _, _, _]) (by decide) rfl rfl dX7_counts_101 rfl ?_
            refine go_goto (q := 10) dX7_counts_103 (by decide) ?_
            (have hfr : ∀ c k, c ≠ 52 → w98 c k = w c k := fun c k h => by rw [f98 c k h]; exact hf c k h
             rw [hg1.2] at hV2
             first
             | (have zq := hC2
                refine ih10 _ (by omega) (p + 1) _ _ _ _ col2 ?_ (Or.inl ⟨rfl, hC2, hV2⟩) hfr rfl
                first
                | (have zq := zn; rw [← hg1.2, cnt_n hga hE hg1.1.2 (fun z => zn z.2), hg1.2]; omega)
                | (rw [← hg1.2, cnt_s hga hE hg1.1.2 ⟨h83, zp⟩, hg1.2]; omega)
                | (rw [← hg1.2, cnt_n hga hE hg1.1.2 (fun z => h83 z.1), hg1.2]; omega))
             | (refine ih10 _ (by omega) (p + 1) _ _ _ _ col ?_ (Or.inr ⟨rfl, hV2⟩) hfr rfl
                first
                | (have zq := zn; rw [← hg1.2, cnt_n hga hE hg1.1.2 (fun z => zn z.2), hg1.2]; omega)
                | (rw [← hg1.2, cnt_s hga hE hg1.1.2 ⟨h83, zp⟩, hg1.2]; omega)
                | (rw [← hg1.2, cnt_n hga hE hg1.1.2 (fun z => h83 z.1), hg1.2]; omega)))
      · refine go_iload_n (j := 1) (q := 20) rfl rfl dX7_counts_19 rfl ?_
        refine go_iconst (q := 21) dX7_counts_20 rfl ?_
        refine go_icmp_ne2 (q := 24) (t := 37) dX7_counts_21 (by decide) rfl (by omega) (fun c21 => ?_) (fun c21 => ?_)
        · refine go_iload_n (j := 1) (q := 38) rfl rfl dX7_counts_37 rfl ?_
          refine go_iconst (q := 39) dX7_counts_38 rfl ?_
          refine go_icmp_ne2 (q := 42) (t := 60) dX7_counts_39 (by decide) rfl (by omega) (fun c39 => ?_) (fun c39 => ?_)
          · have hq3 : E = eU a x := by
              rcases hq with ⟨z, _⟩ | ⟨z, _⟩ | ⟨z, _⟩ | ⟨z, z1⟩
              · omega
              · omega
              · omega
              · exact z1
            refine go_aload_n (j := 0) (q := 61) rfl rfl dX7_counts_60 rfl ?_
            refine go_callVi (as := [_]) (As := []) (rest := []) (n := 0) (q := 64) dX7_counts_61 lk_X7_175 (ci := 7) (N := 16) (T := TX7) rfl (by first | assumption | rfl) rfl rfl (by decide +kernel) rfl ⟨by decide, by decide⟩ ⟨rfl, rfl⟩ (Nat.le_of_ble_eq_true rfl) (em_usedColours hT1 hD1 hg1.1) rfl (fun x61 w61 h61 => ?_)
            obtain ⟨rfl, rfl⟩ := h61
            have hus := (usedN_le (n := n) (a := a) (col := col) hn.2 hg1.1.2).2
            refine go_iload_n (j := 2) (q := 65) rfl rfl dX7_counts_64 rfl ?_
            refine go_icmp_ne2 (q := 68) (t := 72) dX7_counts_65 (by decide) rfl (by omega) (fun c65 => ?_) (fun c65 => ?_)
            · have zn : ¬ E col := by rw [hq3]; show ¬ usedN a col = x; omega
              refine go_iconst (q := 73) dX7_counts_72 rfl ?_
              refine go_istore (j := 6) (q := 75) (ls2 := [_, _, _, _, _, _, _]) (by decide) rfl rfl dX7_counts_73 rfl ?_
              refine go_iload (j := 4) (q := 77) rfl dX7_counts_75 rfl ?_
              refine go_iload (j := 6) (q := 79) rfl dX7_counts_77 rfl ?_
              refine go_if_eqT (t := 93) dX7_counts_79 (by decide) (by decide) ?_
              refine go_iconst (q := 94) dX7_counts_93 rfl ?_
              refine go_iadd (q := 95) dX7_counts_94 rfl ?_
              refine go_istore (j := 4) (q := 97) (ls2 := [_, _, _, _, _, _, _]) (by decide) rfl rfl dX7_counts_95 rfl ?_
              have hst : ∃ mj : Int, mj = (cntP n a c f g s E (p + 1) : Nat) ∧ mj = mj := ⟨_, rfl, rfl⟩
              refine go_aload_n (j := 0) (q := 98) rfl rfl dX7_counts_97 rfl ?_
              refine go_callVz (as := [_]) (As := []) (rest := []) (n := 0) (q := 101) dX7_counts_98 lk_X7_181 (ci := 7) (N := 16) (T := TX7) rfl (by first | assumption | rfl) rfl rfl (by decide +kernel) rfl ⟨by decide, by decide⟩ ⟨rfl, rfl⟩ (Nat.le_of_ble_eq_true rfl) (em_goesOnColours hT1 hD1 hg1.1) rfl (fun w98 h98 => ?_) (fun w98 h98 => ?_)
              · obtain ⟨⟨col2, hC2, hV2⟩, f98⟩ := h98
                refine go_istore (j := 5) (q := 103) (ls2 := [_, _, _, _, _, _, _]) (by decide) rfl rfl dX7_counts_101 rfl ?_
                refine go_goto (q := 10) dX7_counts_103 (by decide) ?_
                (have hfr : ∀ c k, c ≠ 52 → w98 c k = w c k := fun c k h => by rw [f98 c k h]; exact hf c k h
                 rw [hg1.2] at hV2
                 first
                 | (have zq := hC2
                    refine ih10 _ (by omega) (p + 1) _ _ _ _ col2 ?_ (Or.inl ⟨rfl, hC2, hV2⟩) hfr rfl
                    first
                    | (have zq := zn; rw [← hg1.2, cnt_n hga hE hg1.1.2 (fun z => zn z.2), hg1.2]; omega)
                    | (rw [← hg1.2, cnt_s hga hE hg1.1.2 ⟨h83, zp⟩, hg1.2]; omega)
                    | (rw [← hg1.2, cnt_n hga hE hg1.1.2 (fun z => h83 z.1), hg1.2]; omega))
                 | (refine ih10 _ (by omega) (p + 1) _ _ _ _ col ?_ (Or.inr ⟨rfl, hV2⟩) hfr rfl
                    first
                    | (have zq := zn; rw [← hg1.2, cnt_n hga hE hg1.1.2 (fun z => zn z.2), hg1.2]; omega)
                    | (rw [← hg1.2, cnt_s hga hE hg1.1.2 ⟨h83, zp⟩, hg1.2]; omega)
                    | (rw [← hg1.2, cnt_n hga hE hg1.1.2 (fun z => h83 z.1), hg1.2]; omega)))
              · obtain ⟨hV2, f98⟩ := h98
                refine go_istore (j := 5) (q := 103) (ls2 := [_, _, _, _, _, _, _]) (by decide) rfl rfl dX7_counts_101 rfl ?_
                refine go_goto (q := 10) dX7_counts_103 (by decide) ?_
                (have hfr : ∀ c k, c ≠ 52 → w98 c k = w c k := fun c k h => by rw [f98 c k h]; exact hf c k h
                 rw [hg1.2] at hV2
                 first
                 | (have zq := hC2
                    refine ih10 _ (by omega) (p + 1) _ _ _ _ col2 ?_ (Or.inl ⟨rfl, hC2, hV2⟩) hfr rfl
                    first
                    | (have zq := zn; rw [← hg1.2, cnt_n hga hE hg1.1.2 (fun z => zn z.2), hg1.2]; omega)
                    | (rw [← hg1.2, cnt_s hga hE hg1.1.2 ⟨h83, zp⟩, hg1.2]; omega)
                    | (rw [← hg1.2, cnt_n hga hE hg1.1.2 (fun z => h83 z.1), hg1.2]; omega))
                 | (refine ih10 _ (by omega) (p + 1) _ _ _ _ col ?_ (Or.inr ⟨rfl, hV2⟩) hfr rfl
                    first
                    | (have zq := zn; rw [← hg1.2, cnt_n hga hE hg1.1.2 (fun z => zn z.2), hg1.2]; omega)
                    | (rw [← hg1.2, cnt_s hga hE hg1.1.2 ⟨h83, zp⟩, hg1.2]; omega)
                    | (rw [← hg1.2, cnt_n hga hE hg1.1.2 (fun z => h83 z.1), hg1.2]; omega)))
            · have zp : E col := by rw [hq3]; show usedN a col = x; omega
              refine go_iconst (q := 69) dX7_counts_68 rfl ?_
              refine go_goto (q := 73) dX7_counts_69 (by decide) ?_
              refine go_istore (j := 6) (q := 75) (ls2 := [_, _, _, _, _, _, _]) (by decide) rfl rfl dX7_counts_73 rfl ?_
              refine go_iload (j := 4) (q := 77) rfl dX7_counts_75 rfl ?_
              refine go_iload (j := 6) (q := 79) rfl dX7_counts_77 rfl ?_
              refine go_if_eqF (q := 82) (t := 93) dX7_counts_79 rfl (by decide) (by decide) ?_
              refine go_aload_n (j := 0) (q := 83) rfl rfl dX7_counts_82 rfl ?_
              refine go_callVz (as := [_]) (As := []) (rest := [_]) (n := 0) (q := 86) dX7_counts_83 lk_X7_178 (ci := 7) (N := 16) (T := TX7) rfl (by first | assumption | rfl) rfl rfl (by decide +kernel) rfl ⟨by decide, by decide⟩ ⟨rfl, rfl⟩ (Nat.le_of_ble_eq_true rfl) (em_isColouring hT1 hD1 hg1.1) rfl (fun w83 h83 => ?_) (fun w83 h83 => ?_)
              · obtain ⟨rfl, h83⟩ := h83
                refine go_if_eqF (q := 89) (t := 93) dX7_counts_86 rfl (by decide) (by decide) ?_
                refine go_iconst (q := 90) dX7_counts_89 rfl ?_
                refine go_goto (q := 94) dX7_counts_90 (by decide) ?_
                refine go_iadd (q := 95) dX7_counts_94 rfl ?_
                refine go_istore (j := 4) (q := 97) (ls2 := [_, _, _, _, _, _, _]) (by decide) rfl rfl dX7_counts_95 rfl ?_
                have hst : ∃ mj : Int, mj = (cntP n a c f g s E (p + 1) : Nat) ∧ mj = mj := ⟨_, rfl, rfl⟩
                refine go_aload_n (j := 0) (q := 98) rfl rfl dX7_counts_97 rfl ?_
                refine go_callVz (as := [_]) (As := []) (rest := []) (n := 0) (q := 101) dX7_counts_98 lk_X7_181 (ci := 7) (N := 16) (T := TX7) rfl (by first | assumption | rfl) rfl rfl (by decide +kernel) rfl ⟨by decide, by decide⟩ ⟨rfl, rfl⟩ (Nat.le_of_ble_eq_true rfl) (em_goesOnColours hT1 hD1 hg1.1) rfl (fun w98 h98 => ?_) (fun w98 h98 => ?_)
                · obtain ⟨⟨col2, hC2, hV2⟩, f98⟩ := h98
                  refine go_istore (j := 5) (q := 103) (ls2 := [_, _, _, _, _, _, _]) (by decide) rfl rfl dX7_counts_101 rfl ?_
                  refine go_goto (q := 10) dX7_counts_103 (by decide) ?_
                  (have hfr : ∀ c k, c ≠ 52 → w98 c k = w c k := fun c k h => by rw [f98 c k h]; exact hf c k h
                   rw [hg1.2] at hV2
                   first
                   | (have zq := hC2
                      refine ih10 _ (by omega) (p + 1) _ _ _ _ col2 ?_ (Or.inl ⟨rfl, hC2, hV2⟩) hfr rfl
                      first
                      | (have zq := zn; rw [← hg1.2, cnt_n hga hE hg1.1.2 (fun z => zn z.2), hg1.2]; omega)
                      | (rw [← hg1.2, cnt_s hga hE hg1.1.2 ⟨h83, zp⟩, hg1.2]; omega)
                      | (rw [← hg1.2, cnt_n hga hE hg1.1.2 (fun z => h83 z.1), hg1.2]; omega))
                   | (refine ih10 _ (by omega) (p + 1) _ _ _ _ col ?_ (Or.inr ⟨rfl, hV2⟩) hfr rfl
                      first
                      | (have zq := zn; rw [← hg1.2, cnt_n hga hE hg1.1.2 (fun z => zn z.2), hg1.2]; omega)
                      | (rw [← hg1.2, cnt_s hga hE hg1.1.2 ⟨h83, zp⟩, hg1.2]; omega)
                      | (rw [← hg1.2, cnt_n hga hE hg1.1.2 (fun z => h83 z.1), hg1.2]; omega)))
                · obtain ⟨hV2, f98⟩ := h98
                  refine go_istore (j := 5) (q := 103) (ls2 := [_, _, _, _, _, _, _]) (by decide) rfl rfl dX7_counts_101 rfl ?_
                  refine go_goto (q := 10) dX7_counts_103 (by decide) ?_
                  (have hfr : ∀ c k, c ≠ 52 → w98 c k = w c k := fun c k h => by rw [f98 c k h]; exact hf c k h
                   rw [hg1.2] at hV2
                   first
                   | (have zq := hC2
                      refine ih10 _ (by omega) (p + 1) _ _ _ _ col2 ?_ (Or.inl ⟨rfl, hC2, hV2⟩) hfr rfl
                      first
                      | (have zq := zn; rw [← hg1.2, cnt_n hga hE hg1.1.2 (fun z => zn z.2), hg1.2]; omega)
                      | (rw [← hg1.2, cnt_s hga hE hg1.1.2 ⟨h83, zp⟩, hg1.2]; omega)
                      | (rw [← hg1.2, cnt_n hga hE hg1.1.2 (fun z => h83 z.1), hg1.2]; omega))
                   | (refine ih10 _ (by omega) (p + 1) _ _ _ _ col ?_ (Or.inr ⟨rfl, hV2⟩) hfr rfl
                      first
                      | (have zq := zn; rw [← hg1.2, cnt_n hga hE hg1.1.2 (fun z => zn z.2), hg1.2]; omega)
                      | (rw [← hg1.2, cnt_s hga hE hg1.1.2 ⟨h83, zp⟩, hg1.2]; omega)
                      | (rw [← hg1.2, cnt_n hga hE hg1.1.2 (fun z => h83 z.1), hg1.2]; omega)))
              · obtain ⟨rfl, h83⟩ := h83
                refine go_if_eqT (t := 93) dX7_counts_86 (by decide) (by decide) ?_
                refine go_iconst (q := 94) dX7_counts_93 rfl ?_
                refine go_iadd (q := 95) dX7_counts_94 rfl ?_
                refine go_istore (j := 4) (q := 97) (ls2 := [_, _, _, _, _, _, _]) (by decide) rfl rfl dX7_counts_95 rfl ?_
                have hst : ∃ mj : Int, mj = (cntP n a c f g s E (p + 1) : Nat) ∧ mj = mj := ⟨_, rfl, rfl⟩
                refine go_aload_n (j := 0) (q := 98) rfl rfl dX7_counts_97 rfl ?_
                refine go_callVz (as := [_]) (As := []) (rest := []) (n := 0) (q := 101) dX7_counts_98 lk_X7_181 (ci := 7) (N := 16) (T := TX7) rfl (by first | assumption | rfl) rfl rfl (by decide +kernel) rfl ⟨by decide, by decide⟩ ⟨rfl, rfl⟩ (Nat.le_of_ble_eq_true rfl) (em_goesOnColours hT1 hD1 hg1.1) rfl (fun w98 h98 => ?_) (fun w98 h98 => ?_)
                · obtain ⟨⟨col2, hC2, hV2⟩, f98⟩ := h98
                  refine go_istore (j := 5) (q := 103) (ls2 := [_, _, _, _, _, _, _]) (by decide) rfl rfl dX7_counts_101 rfl ?_
                  refine go_goto (q := 10) dX7_counts_103 (by decide) ?_
                  (have hfr : ∀ c k, c ≠ 52 → w98 c k = w c k := fun c k h => by rw [f98 c k h]; exact hf c k h
                   rw [hg1.2] at hV2
                   first
                   | (have zq := hC2
                      refine ih10 _ (by omega) (p + 1) _ _ _ _ col2 ?_ (Or.inl ⟨rfl, hC2, hV2⟩) hfr rfl
                      first
                      | (have zq := zn; rw [← hg1.2, cnt_n hga hE hg1.1.2 (fun z => zn z.2), hg1.2]; omega)
                      | (rw [← hg1.2, cnt_s hga hE hg1.1.2 ⟨h83, zp⟩, hg1.2]; omega)
                      | (rw [← hg1.2, cnt_n hga hE hg1.1.2 (fun z => h83 z.1), hg1.2]; omega))
                   | (refine ih10 _ (by omega) (p + 1) _ _ _ _ col ?_ (Or.inr ⟨rfl, hV2⟩) hfr rfl
                      first
                      | (have zq := zn; rw [← hg1.2, cnt_n hga hE hg1.1.2 (fun z => zn z.2), hg1.2]; omega)
                      | (rw [← hg1.2, cnt_s hga hE hg1.1.2 ⟨h83, zp⟩, hg1.2]; omega)
                      | (rw [← hg1.2, cnt_n hga hE hg1.1.2 (fun z => h83 z.1), hg1.2]; omega)))
                · obtain ⟨hV2, f98⟩ := h98
                  refine go_istore (j := 5) (q := 103) (ls2 := [_, _, _, _, _, _, _]) (by decide) rfl rfl dX7_counts_101 rfl ?_
                  refine go_goto (q := 10) dX7_counts_103 (by decide) ?_
                  (have hfr : ∀ c k, c ≠ 52 → w98 c k = w c k := fun c k h => by rw [f98 c k h]; exact hf c k h
                   rw [hg1.2] at hV2
                   first
                   | (have zq := hC2
                      refine ih10 _ (by omega) (p + 1) _ _ _ _ col2 ?_ (Or.inl ⟨rfl, hC2, hV2⟩) hfr rfl
                      first
                      | (have zq := zn; rw [← hg1.2, cnt_n hga hE hg1.1.2 (fun z => zn z.2), hg1.2]; omega)
                      | (rw [← hg1.2, cnt_s hga hE hg1.1.2 ⟨h83, zp⟩, hg1.2]; omega)
                      | (rw [← hg1.2, cnt_n hga hE hg1.1.2 (fun z => h83 z.1), hg1.2]; omega))
                   | (refine ih10 _ (by omega) (p + 1) _ _ _ _ col ?_ (Or.inr ⟨rfl, hV2⟩) hfr rfl
                      first
                      | (have zq := zn; rw [← hg1.2, cnt_n hga hE hg1.1.2 (fun z => zn z.2), hg1.2]; omega)
                      | (rw [← hg1.2, cnt_s hga hE hg1.1.2 ⟨h83, zp⟩, hg1.2]; omega)
                      | (rw [← hg1.2, cnt_n hga hE hg1.1.2 (fun z => h83 z.1), hg1.2]; omega)))
          · have hq2 : (x < a ∧ y < a) ∧ E = eA x y := by
              rcases hq with ⟨z, _⟩ | ⟨z, _⟩ | ⟨z, z1⟩ | ⟨z, _⟩
              · omega
              · omega
              · exact z1
              · omega
            have wx := hg1.1.1 x (by omega)
            have wy := hg1.1.1 y (by omega)
            have cx := hg1.1.2 x hq2.1.1
            have cy := hg1.1.2 y hq2.1.2
            refine go_aload_n (j := 0) (q := 43) rfl rfl dX7_counts_42 rfl ?_
            refine go_getR (C0 := RX7) (T := TX7) (N := 16) (ci := 7) (i := 9) (q := 46) rfl igX7 (by first | assumption | rfl) (by decide) fl_X7_28 rfl dX7_counts_43 rfl ?_
            refine go_iload_n (j := 2) (q := 47) rfl rfl dX7_counts_46 rfl ?_
            refine go_iald (j := x) (q := 48) (by first | assumption | rfl) (wr_eq (by omega)) (by omega) dX7_counts_47 rfl ?_
            refine go_aload_n (j := 0) (q := 49) rfl rfl dX7_counts_48 rfl ?_
            refine go_getR (C0 := RX7) (T := TX7) (N := 16) (ci := 7) (i := 9) (q := 52) rfl igX7 (by first | assumption | rfl) (by decide) fl_X7_28 rfl dX7_counts_49 rfl ?_
            refine go_iload_n (j := 3) (q := 53) rfl rfl dX7_counts_52 rfl ?_
            refine go_iald (j := y) (q := 54) (by first | assumption | rfl) (wr_eq (by omega)) (by omega) dX7_counts_53 rfl ?_
            refine go_icmp_ne2 (q := 57) (t := 72) dX7_counts_54 (by decide) rfl (by omega) (fun c54 => ?_) (fun c54 => ?_)
            · have zn : ¬ E col := by rw [hq2.2]; show ¬ col x = col y; omega
              refine go_iconst (q := 73) dX7_counts_72 rfl ?_
              refine go_istore (j := 6) (q := 75) (ls2 := [_, _, _, _, _, _, _]) (by decide) rfl rfl dX7_counts_73 rfl ?_
              refine go_iload (j := 4) (q := 77) rfl dX7_counts_75 rfl ?_
              refine go_iload (j := 6) (q := 79) rfl dX7_counts_77 rfl ?_
              refine go_if_eqT (t := 93) dX7_counts_79 (by decide) (by decide) ?_
              refine go_iconst (q := 94) dX7_counts_93 rfl ?_
              refine go_iadd (q := 95) dX7_counts_94 rfl ?_
              refine go_istore (j := 4) (q := 97) (ls2 := [_, _, _, _, _, _, _]) (by decide) rfl rfl dX7_counts_95 rfl ?_
              have hst : ∃ mj : Int, mj = (cntP n a c f g s E (p + 1) : Nat) ∧ mj = mj := ⟨_, rfl, rfl⟩
              refine go_aload_n (j := 0) (q := 98) rfl rfl dX7_counts_97 rfl ?_
              refine go_callVz (as := [_]) (As := []) (rest := []) (n := 0) (q := 101) dX7_counts_98 lk_X7_181 (ci := 7) (N := 16) (T := TX7) rfl (by first | assumption | rfl) rfl rfl (by decide +kernel) rfl ⟨by decide, by decide⟩ ⟨rfl, rfl⟩ (Nat.le_of_ble_eq_true rfl) (em_goesOnColours hT1 hD1 hg1.1) rfl (fun w98 h98 => ?_) (fun w98 h98 => ?_)
              · obtain ⟨⟨col2, hC2, hV2⟩, f98⟩ := h98
                refine go_istore (j := 5) (q := 103) (ls2 := [_, _, _, _, _, _, _]) (by decide) rfl rfl dX7_counts_101 rfl ?_
                refine go_goto (q := 10) dX7_counts_103 (by decide) ?_
                (have hfr : ∀ c k, c ≠ 52 → w98 c k = w c k := fun c k h => by rw [f98 c k h]; exact hf c k h
                 rw [hg1.2] at hV2
                 first
                 | (have zq := hC2
                    refine ih10 _ (by omega) (p + 1) _ _ _ _ col2 ?_ (Or.inl ⟨rfl, hC2, hV2⟩) hfr rfl
                    first
                    | (have zq := zn; rw [← hg1.2, cnt_n hga hE hg1.1.2 (fun z => zn z.2), hg1.2]; omega)
                    | (rw [← hg1.2, cnt_s hga hE hg1.1.2 ⟨h83, zp⟩, hg1.2]; omega)
                    | (rw [← hg1.2, cnt_n hga hE hg1.1.2 (fun z => h83 z.1), hg1.2]; omega))
                 | (refine ih10 _ (by omega) (p + 1) _ _ _ _ col ?_ (Or.inr ⟨rfl, hV2⟩) hfr rfl
                    first
                    | (have zq := zn; rw [← hg1.2, cnt_n hga hE hg1.1.2 (fun z => zn z.2), hg1.2]; omega)
                    | (rw [← hg1.2, cnt_s hga hE hg1.1.2 ⟨h83, zp⟩, hg1.2]; omega)
                    | (rw [← hg1.2, cnt_n hga hE hg1.1.2 (fun z => h83 z.1), hg1.2]; omega)))
              · obtain ⟨hV2, f98⟩ := h98
                refine go_istore (j := 5) (q := 103) (ls2 := [_, _, _, _, _, _, _]) (by decide) rfl rfl dX7_counts_101 rfl ?_
                refine go_goto (q := 10) dX7_counts_103 (by decide) ?_
                (have hfr : ∀ c k, c ≠ 52 → w98 c k = w c k := fun c k h => by rw [f98 c k h]; exact hf c k h
                 rw [hg1.2] at hV2
                 first
                 | (have zq := hC2
                    refine ih10 _ (by omega) (p + 1) _ _ _ _ col2 ?_ (Or.inl ⟨rfl, hC2, hV2⟩) hfr rfl
                    first
                    | (have zq := zn; rw [← hg1.2, cnt_n hga hE hg1.1.2 (fun z => zn z.2), hg1.2]; omega)
                    | (rw [← hg1.2, cnt_s hga hE hg1.1.2 ⟨h83, zp⟩, hg1.2]; omega)
                    | (rw [← hg1.2, cnt_n hga hE hg1.1.2 (fun z => h83 z.1), hg1.2]; omega))
                 | (refine ih10 _ (by omega) (p + 1) _ _ _ _ col ?_ (Or.inr ⟨rfl, hV2⟩) hfr rfl
                    first
                    | (have zq := zn; rw [← hg1.2, cnt_n hga hE hg1.1.2 (fun z => zn z.2), hg1.2]; omega)
                    | (rw [← hg1.2, cnt_s hga hE hg1.1.2 ⟨h83, zp⟩, hg1.2]; omega)
                    | (rw [← hg1.2, cnt_n hga hE hg1.1.2 (fun z => h83 z.1), hg1.2]; omega)))
            · have zp : E col := by rw [hq2.2]; show col x = col y; omega
              refine go_goto (q := 68) dX7_counts_57 (by decide) ?_
              refine go_iconst (q := 69) dX7_counts_68 rfl ?_
              refine go_goto (q := 73) dX7_counts_69 (by decide) ?_
              refine go_istore (j := 6) (q := 75) (ls2 := [_, _, _, _, _, _, _]) (by decide) rfl rfl dX7_counts_73 rfl ?_
              refine go_iload (j := 4) (q := 77) rfl dX7_counts_75 rfl ?_
              refine go_iload (j := 6) (q := 79) rfl dX7_counts_77 rfl ?_
              refine go_if_eqF (q := 82) (t := 93) dX7_counts_79 rfl (by decide) (by decide) ?_
              refine go_aload_n (j := 0) (q := 83) rfl rfl dX7_counts_82 rfl ?_
              refine go_callVz (as := [_]) (As := []) (rest := [_]) (n := 0) (q := 86) dX7_counts_83 lk_X7_178 (ci := 7) (N := 16) (T := TX7) rfl (by first | assumption | rfl) rfl rfl (by decide +kernel) rfl ⟨by decide, by decide⟩ ⟨rfl, rfl⟩ (Nat.le_of_ble_eq_true rfl) (em_isColouring hT1 hD1 hg1.1) rfl (fun w83 h83 => ?_) (fun w83 h83 => ?_)
              · obtain ⟨rfl, h83⟩ := h83
                refine go_if_eqF (q := 89) (t := 93) dX7_counts_86 rfl (by decide) (by decide) ?_
                refine go_iconst (q := 90) dX7_counts_89 rfl ?_
                refine go_goto (q := 94) dX7_counts_90 (by decide) ?_
                refine go_iadd (q := 95) dX7_counts_94 rfl ?_
                refine go_istore (j := 4) (q := 97) (ls2 := [_, _, _, _, _, _, _]) (by decide) rfl rfl dX7_counts_95 rfl ?_
                have hst : ∃ mj : Int, mj = (cntP n a c f g s E (p + 1) : Nat) ∧ mj = mj := ⟨_, rfl, rfl⟩
                refine go_aload_n (j := 0) (q := 98) rfl rfl dX7_counts_97 rfl ?_
                refine go_callVz (as := [_]) (As := []) (rest := []) (n := 0) (q := 101) dX7_counts_98 lk_X7_181 (ci := 7) (N := 16) (T := TX7) rfl (by first | assumption | rfl) rfl rfl (by decide +kernel) rfl ⟨by decide, by decide⟩ ⟨rfl, rfl⟩ (Nat.le_of_ble_eq_true rfl) (em_goesOnColours hT1 hD1 hg1.1) rfl (fun w98 h98 => ?_) (fun w98 h98 => ?_)
                · obtain ⟨⟨col2, hC2, hV2⟩, f98⟩ := h98
                  refine go_istore (j := 5) (q := 103) (ls2 := [_, _, _, _, _, _, _]) (by decide) rfl rfl dX7_counts_101 rfl ?_
                  refine go_goto (q := 10) dX7_counts_103 (by decide) ?_
                  (have hfr : ∀ c k, c ≠ 52 → w98 c k = w c k := fun c k h => by rw [f98 c k h]; exact hf c k h
                   rw [hg1.2] at hV2
                   first
                   | (have zq := hC2
                      refine ih10 _ (by omega) (p + 1) _ _ _ _ col2 ?_ (Or.inl ⟨rfl, hC2, hV2⟩) hfr rfl
                      first
                      | (have zq := zn; rw [← hg1.2, cnt_n hga hE hg1.1.2 (fun z => zn z.2), hg1.2]; omega)
                      | (rw [← hg1.2, cnt_s hga hE hg1.1.2 ⟨h83, zp⟩, hg1.2]; omega)
                      | (rw [← hg1.2, cnt_n hga hE hg1.1.2 (fun z => h83 z.1), hg1.2]; omega))
                   | (refine ih10 _ (by omega) (p + 1) _ _ _ _ col ?_ (Or.inr ⟨rfl, hV2⟩) hfr rfl
                      first
                      | (have zq := zn; rw [← hg1.2, cnt_n hga hE hg1.1.2 (fun z => zn z.2), hg1.2]; omega)
                      | (rw [← hg1.2, cnt_s hga hE hg1.1.2 ⟨h83, zp⟩, hg1.2]; omega)
                      | (rw [← hg1.2, cnt_n hga hE hg1.1.2 (fun z => h83 z.1), hg1.2]; omega)))
                · obtain ⟨hV2, f98⟩ := h98
                  refine go_istore (j := 5) (q := 103) (ls2 := [_, _, _, _, _, _, _]) (by decide) rfl rfl dX7_counts_101 rfl ?_
                  refine go_goto (q := 10) dX7_counts_103 (by decide) ?_
                  (have hfr : ∀ c k, c ≠ 52 → w98 c k = w c k := fun c k h => by rw [f98 c k h]; exact hf c k h
                   rw [hg1.2] at hV2
                   first
                   | (have zq := hC2
                      refine ih10 _ (by omega) (p + 1) _ _ _ _ col2 ?_ (Or.inl ⟨rfl, hC2, hV2⟩) hfr rfl
                      first
                      | (have zq := zn; rw [← hg1.2, cnt_n hga hE hg1.1.2 (fun z => zn z.2), hg1.2]; omega)
                      | (rw [← hg1.2, cnt_s hga hE hg1.1.2 ⟨h83, zp⟩, hg1.2]; omega)
                      | (rw [← hg1.2, cnt_n hga hE hg1.1.2 (fun z => h83 z.1), hg1.2]; omega))
                   | (refine ih10 _ (by omega) (p + 1) _ _ _ _ col ?_ (Or.inr ⟨rfl, hV2⟩) hfr rfl
                      first
                      | (have zq := zn; rw [← hg1.2, cnt_n hga hE hg1.1.2 (fun z => zn z.2), hg1.2]; omega)
                      | (rw [← hg1.2, cnt_s hga hE hg1.1.2 ⟨h83, zp⟩, hg1.2]; omega)
                      | (rw [← hg1.2, cnt_n hga hE hg1.1.2 (fun z => h83 z.1), hg1.2]; omega)))
              · obtain ⟨rfl, h83⟩ := h83
                refine go_if_eqT (t := 93) dX7_counts_86 (by decide) (by decide) ?_
                refine go_iconst (q := 94) dX7_counts_93 rfl ?_
                refine go_iadd (q := 95) dX7_counts_94 rfl ?_
                refine go_istore (j := 4) (q := 97) (ls2 := [_, _, _, _, _, _, _]) (by decide) rfl rfl dX7_counts_95 rfl ?_
                have hst : ∃ mj : Int, mj = (cntP n a c f g s E (p + 1) : Nat) ∧ mj = mj := ⟨_, rfl, rfl⟩
                refine go_aload_n (j := 0) (q := 98) rfl rfl dX7_counts_97 rfl ?_
                refine go_callVz (as := [_]) (As := []) (rest := []) (n := 0) (q := 101) dX7_counts_98 lk_X7_181 (ci := 7) (N := 16) (T := TX7) rfl (by first | assumption | rfl) rfl rfl (by decide +kernel) rfl ⟨by decide, by decide⟩ ⟨rfl, rfl⟩ (Nat.le_of_ble_eq_true rfl) (em_goesOnColours hT1 hD1 hg1.1) rfl (fun w98 h98 => ?_) (fun w98 h98 => ?_)
                · obtain ⟨⟨col2, hC2, hV2⟩, f98⟩ := h98
                  refine go_istore (j := 5) (q := 103) (ls2 := [_, _, _, _, _, _, _]) (by decide) rfl rfl dX7_counts_101 rfl ?_
                  refine go_goto (q := 10) dX7_counts_103 (by decide) ?_
                  (have hfr : ∀ c k, c ≠ 52 → w98 c k = w c k := fun c k h => by rw [f98 c k h]; exact hf c k h
                   rw [hg1.2] at hV2
                   first
                   | (have zq := hC2
                      refine ih10 _ (by omega) (p + 1) _ _ _ _ col2 ?_ (Or.inl ⟨rfl, hC2, hV2⟩) hfr rfl
                      first
                      | (have zq := zn; rw [← hg1.2, cnt_n hga hE hg1.1.2 (fun z => zn z.2), hg1.2]; omega)
                      | (rw [← hg1.2, cnt_s hga hE hg1.1.2 ⟨h83, zp⟩, hg1.2]; omega)
                      | (rw [← hg1.2, cnt_n hga hE hg1.1.2 (fun z => h83 z.1), hg1.2]; omega))
                   | (refine ih10 _ (by omega) (p + 1) _ _ _ _ col ?_ (Or.inr ⟨rfl, hV2⟩) hfr rfl
                      first
                      | (have zq := zn; rw [← hg1.2, cnt_n hga hE hg1.1.2 (fun z => zn z.2), hg1.2]; omega)
                      | (rw [← hg1.2, cnt_s hga hE hg1.1.2 ⟨h83, zp⟩, hg1.2]; omega)
                      | (rw [← hg1.2, cnt_n hga hE hg1.1.2 (fun z => h83 z.1), hg1.2]; omega)))
                · obtain ⟨hV2, f98⟩ := h98
                  refine go_istore (j := 5) (q := 103) (ls2 := [_, _, _, _, _, _, _]) (by decide) rfl rfl dX7_counts_101 rfl ?_
                  refine go_goto (q := 10) dX7_counts_103 (by decide) ?_
                  (have hfr : ∀ c k, c ≠ 52 → w98 c k = w c k := fun c k h => by rw [f98 c k h]; exact hf c k h
                   rw [hg1.2] at hV2
                   first
                   | (have zq := hC2
                      refine ih10 _ (by omega) (p + 1) _ _ _ _ col2 ?_ (Or.inl ⟨rfl, hC2, hV2⟩) hfr rfl
                      first
                      | (have zq := zn; rw [← hg1.2, cnt_n hga hE hg1.1.2 (fun z => zn z.2), hg1.2]; omega)
                      | (rw [← hg1.2, cnt_s hga hE hg1.1.2 ⟨h83, zp⟩, hg1.2]; omega)
                      | (rw [← hg1.2, cnt_n hga hE hg1.1.2 (fun z => h83 z.1), hg1.2]; omega))
                   | (refine ih10 _ (by omega) (p + 1) _ _ _ _ col ?_ (Or.inr ⟨rfl, hV2⟩) hfr rfl
                      first
                      | (have zq := zn; rw [← hg1.2, cnt_n hga hE hg1.1.2 (fun z => zn z.2), hg1.2]; omega)
                      | (rw [← hg1.2, cnt_s hga hE hg1.1.2 ⟨h83, zp⟩, hg1.2]; omega)
                      | (rw [← hg1.2, cnt_n hga hE hg1.1.2 (fun z => h83 z.1), hg1.2]; omega)))
        · have hq1 : x < a ∧ E = eW x y := by
            rcases hq with ⟨z, _⟩ | ⟨z, z1⟩ | ⟨z, _⟩ | ⟨z, _⟩
            · omega
            · exact z1
            · omega
            · omega
          have wx := hg1.1.1 x (by omega)
          have cx := hg1.1.2 x hq1.1
          refine go_aload_n (j := 0) (q := 25) rfl rfl dX7_counts_24 rfl ?_
          refine go_getR (C0 := RX7) (T := TX7) (N := 16) (ci := 7) (i := 9) (q := 28) rfl igX7 (by first | assumption | rfl) (by decide) fl_X7_28 rfl dX7_counts_25 rfl ?_
          refine go_iload_n (j := 2) (q := 29) rfl rfl dX7_counts_28 rfl ?_
          refine go_iald (j := x) (q := 30) (by first | assumption | rfl) (wr_eq (by omega)) (by omega) dX7_counts_29 rfl ?_
          refine go_iload_n (j := 3) (q := 31) rfl rfl dX7_counts_30 rfl ?_
          refine go_icmp_ne2 (q := 34) (t := 72) dX7_counts_31 (by decide) rfl (by omega) (fun c31 => ?_) (fun c31 => ?_)
          · have zn : ¬ E col := by rw [hq1.2]; show ¬ col x = y; omega
            refine go_iconst (q := 73) dX7_counts_72 rfl ?_
            refine go_istore (j := 6) (q := 75) (ls2 := [_, _, _, _, _, _, _]) (by decide) rfl rfl dX7_counts_73 rfl ?_
            refine go_iload (j := 4) (q := 77) rfl dX7_counts_75 rfl ?_
            refine go_iload (j := 6) (q := 79) rfl dX7_counts_77 rfl ?_
            refine go_if_eqT (t := 93) dX7_counts_79 (by decide) (by decide) ?_
            refine go_iconst (q := 94) dX7_counts_93 rfl ?_
            refine go_iadd (q := 95) dX7_counts_94 rfl ?_
            refine go_istore (j := 4) (q := 97) (ls2 := [_, _, _, _, _, _, _]) (by decide) rfl rfl dX7_counts_95 rfl ?_
            have hst : ∃ mj : Int, mj = (cntP n a c f g s E (p + 1) : Nat) ∧ mj = mj := ⟨_, rfl, rfl⟩
            refine go_aload_n (j := 0) (q := 98) rfl rfl dX7_counts_97 rfl ?_
            refine go_callVz (as := [_]) (As := []) (rest := []) (n := 0) (q := 101) dX7_counts_98 lk_X7_181 (ci := 7) (N := 16) (T := TX7) rfl (by first | assumption | rfl) rfl rfl (by decide +kernel) rfl ⟨by decide, by decide⟩ ⟨rfl, rfl⟩ (Nat.le_of_ble_eq_true rfl) (em_goesOnColours hT1 hD1 hg1.1) rfl (fun w98 h98 => ?_) (fun w98 h98 => ?_)
            · obtain ⟨⟨col2, hC2, hV2⟩, f98⟩ := h98
              refine go_istore (j := 5) (q := 103) (ls2 := [_, _, _, _, _, _, _]) (by decide) rfl rfl dX7_counts_101 rfl ?_
              refine go_goto (q := 10) dX7_counts_103 (by decide) ?_
              (have hfr : ∀ c k, c ≠ 52 → w98 c k = w c k := fun c k h => by rw [f98 c k h]; exact hf c k h
               rw [hg1.2] at hV2
               first
               | (have zq := hC2
                  refine ih10 _ (by omega) (p + 1) _ _ _ _ col2 ?_ (Or.inl ⟨rfl, hC2, hV2⟩) hfr rfl
                  first
                  | (have zq := zn; rw [← hg1.2, cnt_n hga hE hg1.1.2 (fun z => zn z.2), hg1.2]; omega)
                  | (rw [← hg1.2, cnt_s hga hE hg1.1.2 ⟨h83, zp⟩, hg1.2]; omega)
                  | (rw [← hg1.2, cnt_n hga hE hg1.1.2 (fun z => h83 z.1), hg1.2]; omega))
               | (refine ih10 _ (by omega) (p + 1) _ _ _ _ col ?_ (Or.inr ⟨rfl, hV2⟩) hfr rfl
                  first
                  | (have zq := zn; rw [← hg1.2, cnt_n hga hE hg1.1.2 (fun z => zn z.2), hg1.2]; omega)
                  | (rw [← hg1.2, cnt_s hga hE hg1.1.2 ⟨h83, zp⟩, hg1.2]; omega)
                  | (rw [← hg1.2, cnt_n hga hE hg1.1.2 (fun z => h83 z.1), hg1.2]; omega)))
            · obtain ⟨hV2, f98⟩ := h98
              refine go_istore (j := 5) (q := 103) (ls2 := [_, _, _, _, _, _, _]) (by decide) rfl rfl dX7_counts_101 rfl ?_
              refine go_goto (q := 10) dX7_counts_103 (by decide) ?_
              (have hfr : ∀ c k, c ≠ 52 → w98 c k = w c k := fun c k h => by rw [f98 c k h]; exact hf c k h
               rw [hg1.2] at hV2
               first
               | (have zq := hC2
                  refine ih10 _ (by omega) (p + 1) _ _ _ _ col2 ?_ (Or.inl ⟨rfl, hC2, hV2⟩) hfr rfl
                  first
                  | (have zq := zn; rw [← hg1.2, cnt_n hga hE hg1.1.2 (fun z => zn z.2), hg1.2]; omega)
                  | (rw [← hg1.2, cnt_s hga hE hg1.1.2 ⟨h83, zp⟩, hg1.2]; omega)
                  | (rw [← hg1.2, cnt_n hga hE hg1.1.2 (fun z => h83 z.1), hg1.2]; omega))
               | (refine ih10 _ (by omega) (p + 1) _ _ _ _ col ?_ (Or.inr ⟨rfl, hV2⟩) hfr rfl
                  first
                  | (have zq := zn; rw [← hg1.2, cnt_n hga hE hg1.1.2 (fun z => zn z.2), hg1.2]; omega)
                  | (rw [← hg1.2, cnt_s hga hE hg1.1.2 ⟨h83, zp⟩, hg1.2]; omega)
                  | (rw [← hg1.2, cnt_n hga hE hg1.1.2 (fun z => h83 z.1), hg1.2]; omega)))
          · have zp : E col := by rw [hq1.2]; show col x = y; omega
            refine go_goto (q := 68) dX7_counts_34 (by decide) ?_
            refine go_iconst (q := 69) dX7_counts_68 rfl ?_
            refine go_goto (q := 73) dX7_counts_69 (by decide) ?_
            refine go_istore (j := 6) (q := 75) (ls2 := [_, _, _, _, _, _, _]) (by decide) rfl rfl dX7_counts_73 rfl ?_
            refine go_iload (j := 4) (q := 77) rfl dX7_counts_75 rfl ?_
            refine go_iload (j := 6) (q := 79) rfl dX7_counts_77 rfl ?_
            refine go_if_eqF (q := 82) (t := 93) dX7_counts_79 rfl (by decide) (by decide) ?_
            refine go_aload_n (j := 0) (q := 83) rfl rfl dX7_counts_82 rfl ?_
            refine go_callVz (as := [_]) (As := []) (rest := [_]) (n := 0) (q := 86) dX7_counts_83 lk_X7_178 (ci := 7) (N := 16) (T := TX7) rfl (by first | assumption | rfl) rfl rfl (by decide +kernel) rfl ⟨by decide, by decide⟩ ⟨rfl, rfl⟩ (Nat.le_of_ble_eq_true rfl) (em_isColouring hT1 hD1 hg1.1) rfl (fun w83 h83 => ?_) (fun w83 h83 => ?_)
            · obtain ⟨rfl, h83⟩ := h83
              refine go_if_eqF (q := 89) (t := 93) dX7_counts_86 rfl (by decide) (by decide) ?_
              refine go_iconst (q := 90) dX7_counts_89 rfl ?_
              refine go_goto (q := 94) dX7_counts_90 (by decide) ?_
              refine go_iadd (q := 95) dX7_counts_94 rfl ?_
              refine go_istore (j := 4) (q := 97) (ls2 := [_, _, _, _, _, _, _]) (by decide) rfl rfl dX7_counts_95 rfl ?_
              have hst : ∃ mj : Int, mj = (cntP n a c f g s E (p + 1) : Nat) ∧ mj = mj := ⟨_, rfl, rfl⟩
              refine go_aload_n (j := 0) (q := 98) rfl rfl dX7_counts_97 rfl ?_
              refine go_callVz (as := [_]) (As := []) (rest := []) (n := 0) (q := 101) dX7_counts_98 lk_X7_181 (ci := 7) (N := 16) (T := TX7) rfl (by first | assumption | rfl) rfl rfl (by decide +kernel) rfl ⟨by decide, by decide⟩ ⟨rfl, rfl⟩ (Nat.le_of_ble_eq_true rfl) (em_goesOnColours hT1 hD1 hg1.1) rfl (fun w98 h98 => ?_) (fun w98 h98 => ?_)
              · obtain ⟨⟨col2, hC2, hV2⟩, f98⟩ := h98
                refine go_istore (j := 5) (q := 103) (ls2 := [_, _, _, _, _, _, _]) (by decide) rfl rfl dX7_counts_101 rfl ?_
                refine go_goto (q := 10) dX7_counts_103 (by decide) ?_
                (have hfr : ∀ c k, c ≠ 52 → w98 c k = w c k := fun c k h => by rw [f98 c k h]; exact hf c k h
                 rw [hg1.2] at hV2
                 first
                 | (have zq := hC2
                    refine ih10 _ (by omega) (p + 1) _ _ _ _ col2 ?_ (Or.inl ⟨rfl, hC2, hV2⟩) hfr rfl
                    first
                    | (have zq := zn; rw [← hg1.2, cnt_n hga hE hg1.1.2 (fun z => zn z.2), hg1.2]; omega)
                    | (rw [← hg1.2, cnt_s hga hE hg1.1.2 ⟨h83, zp⟩, hg1.2]; omega)
                    | (rw [← hg1.2, cnt_n hga hE hg1.1.2 (fun z => h83 z.1), hg1.2]; omega))
                 | (refine ih10 _ (by omega) (p + 1) _ _ _ _ col ?_ (Or.inr ⟨rfl, hV2⟩) hfr rfl
                    first
                    | (have zq := zn; rw [← hg1.2, cnt_n hga hE hg1.1.2 (fun z => zn z.2), hg1.2]; omega)
                    | (rw [← hg1.2, cnt_s hga hE hg1.1.2 ⟨h83, zp⟩, hg1.2]; omega)
                    | (rw [← hg1.2, cnt_n hga hE hg1.1.2 (fun z => h83 z.1), hg1.2]; omega)))
              · obtain ⟨hV2, f98⟩ := h98
                refine go_istore (j := 5) (q := 103) (ls2 := [_, _, _, _, _, _, _]) (by decide) rfl rfl dX7_counts_101 rfl ?_
                refine go_goto (q := 10) dX7_counts_103 (by decide) ?_
                (have hfr : ∀ c k, c ≠ 52 → w98 c k = w c k := fun c k h => by rw [f98 c k h]; exact hf c k h
                 rw [hg1.2] at hV2
                 first
                 | (have zq := hC2
                    refine ih10 _ (by omega) (p + 1) _ _ _ _ col2 ?_ (Or.inl ⟨rfl, hC2, hV2⟩) hfr rfl
                    first
                    | (have zq := zn; rw [← hg1.2, cnt_n hga hE hg1.1.2 (fun z => zn z.2), hg1.2]; omega)
                    | (rw [← hg1.2, cnt_s hga hE hg1.1.2 ⟨h83, zp⟩, hg1.2]; omega)
                    | (rw [← hg1.2, cnt_n hga hE hg1.1.2 (fun z => h83 z.1), hg1.2]; omega))
                 | (refine ih10 _ (by omega) (p + 1) _ _ _ _ col ?_ (Or.inr ⟨rfl, hV2⟩) hfr rfl
                    first
                    | (have zq := zn; rw [← hg1.2, cnt_n hga hE hg1.1.2 (fun z => zn z.2), hg1.2]; omega)
                    | (rw [← hg1.2, cnt_s hga hE hg1.1.2 ⟨h83, zp⟩, hg1.2]; omega)
                    | (rw [← hg1.2, cnt_n hga hE hg1.1.2 (fun z => h83 z.1), hg1.2]; omega)))
            · obtain ⟨rfl, h83⟩ := h83
              refine go_if_eqT (t := 93) dX7_counts_86 (by decide) (by decide) ?_
              refine go_iconst (q := 94) dX7_counts_93 rfl ?_
              refine go_iadd (q := 95) dX7_counts_94 rfl ?_
              refine go_istore (j := 4) (q := 97) (ls2 := [_, _, _, _, _, _, _]) (by decide) rfl rfl dX7_counts_95 rfl ?_
              have hst : ∃ mj : Int, mj = (cntP n a c f g s E (p + 1) : Nat) ∧ mj = mj := ⟨_, rfl, rfl⟩
              refine go_aload_n (j := 0) (q := 98) rfl rfl dX7_counts_97 rfl ?_
              refine go_callVz (as := [_]) (As := []) (rest := []) (n := 0) (q := 101) dX7_counts_98 lk_X7_181 (ci := 7) (N := 16) (T := TX7) rfl (by first | assumption | rfl) rfl rfl (by decide +kernel) rfl ⟨by decide, by decide⟩ ⟨rfl, rfl⟩ (Nat.le_of_ble_eq_true rfl) (em_goesOnColours hT1 hD1 hg1.1) rfl (fun w98 h98 => ?_) (fun w98 h98 => ?_)
              · obtain ⟨⟨col2, hC2, hV2⟩, f98⟩ := h98
                refine go_istore (j := 5) (q := 103) (ls2 := [_, _, _, _, _, _, _]) (by decide) rfl rfl dX7_counts_101 rfl ?_
                refine go_goto (q := 10) dX7_counts_103 (by decide) ?_
                (have hfr : ∀ c k, c ≠ 52 → w98 c k = w c k := fun c k h => by rw [f98 c k h]; exact hf c k h
                 rw [hg1.2] at hV2
                 first
                 | (have zq := hC2
                    refine ih10 _ (by omega) (p + 1) _ _ _ _ col2 ?_ (Or.inl ⟨rfl, hC2, hV2⟩) hfr rfl
                    first
                    | (have zq := zn; rw [← hg1.2, cnt_n hga hE hg1.1.2 (fun z => zn z.2), hg1.2]; omega)
                    | (rw [← hg1.2, cnt_s hga hE hg1.1.2 ⟨h83, zp⟩, hg1.2]; omega)
                    | (rw [← hg1.2, cnt_n hga hE hg1.1.2 (fun z => h83 z.1), hg1.2]; omega))
                 | (refine ih10 _ (by omega) (p + 1) _ _ _ _ col ?_ (Or.inr ⟨rfl, hV2⟩) hfr rfl
                    first
                    | (have zq := zn; rw [← hg1.2, cnt_n hga hE hg1.1.2 (fun z => zn z.2), hg1.2]; omega)
                    | (rw [← hg1.2, cnt_s hga hE hg1.1.2 ⟨h83, zp⟩, hg1.2]; omega)
                    | (rw [← hg1.2, cnt_n hga hE hg1.1.2 (fun z => h83 z.1), hg1.2]; omega)))
              · obtain ⟨hV2, f98⟩ := h98
                refine go_istore (j := 5) (q := 103) (ls2 := [_, _, _, _, _, _, _]) (by decide) rfl rfl dX7_counts_101 rfl ?_
                refine go_goto (q := 10) dX7_counts_103 (by decide) ?_
                (have hfr : ∀ c k, c ≠ 52 → w98 c k = w c k := fun c k h => by rw [f98 c k h]; exact hf c k h
                 rw [hg1.2] at hV2
                 first
                 | (have zq := hC2
                    refine ih10 _ (by omega) (p + 1) _ _ _ _ col2 ?_ (Or.inl ⟨rfl, hC2, hV2⟩) hfr rfl
                    first
                    | (have zq := zn; rw [← hg1.2, cnt_n hga hE hg1.1.2 (fun z => zn z.2), hg1.2]; omega)
                    | (rw [← hg1.2, cnt_s hga hE hg1.1.2 ⟨h83, zp⟩, hg1.2]; omega)
                    | (rw [← hg1.2, cnt_n hga hE hg1.1.2 (fun z => h83 z.1), hg1.2]; omega))
                 | (refine ih10 _ (by omega) (p + 1) _ _ _ _ col ?_ (Or.inr ⟨rfl, hV2⟩) hfr rfl
                    first
                    | (have zq := zn; rw [← hg1.2, cnt_n hga hE hg1.1.2 (fun z => zn z.2), hg1.2]; omega)
                    | (rw [← hg1.2, cnt_s hga hE hg1.1.2 ⟨h83, zp⟩, hg1.2]; omega)
                    | (rw [← hg1.2, cnt_n hga hE hg1.1.2 (fun z => h83 z.1), hg1.2]; omega)))
  (have hz : ∀ j, Vn n (fun _ => 0) j = 0 := fun j => by
     induction j with
     | zero => rfl
     | succ j ih => show Vn n (fun _ => 0) j * n + 0 = 0; rw [ih]; simp
   exact lp10 _ 0 0 1 _ _ (fun _ => 0) rfl (Or.inl ⟨rfl, ⟨b4, fun i hi => by show 0 < n; omega⟩, hz a⟩) f4 rfl)
theorem em30 (hP : PMW w W) : eX7_colourings l D ck ad shA [vR 45] w (Pi (MR w (op30 W))) := by
  refine ev_of_goK (own := RX7) (ls := [some (vR 45)]) (by decide +kernel) rfl rfl (Nat.le_of_ble_eq_true rfl) rkI ?_
  intro K hK
  refine go_aload_n (j := 0) (q := 1) rfl rfl dX7_colourings_0 rfl ?_
  refine go_iconst (q := 2) dX7_colourings_1 rfl ?_
  refine go_iconst (q := 3) dX7_colourings_2 rfl ?_
  refine go_iconst (q := 4) dX7_colourings_3 rfl ?_
  refine go_callVi (as := [_, _, _, _]) (As := [_, _, _]) (rest := []) (n := 3) (q := 7) dX7_colourings_4 lk_X7_184 (ci := 7) (N := 16) (T := TX7) rfl (by first | assumption | rfl) rfl rfl (by decide +kernel) rfl ⟨by decide, by decide⟩ ⟨rfl, rfl⟩ (Nat.le_of_ble_eq_true rfl) (em_counts (x := 0) (y := 0) (E := tt) hP.1.1 hP.1.2 rfl rfl (by omega) (Or.inl ⟨rfl, rfl⟩)) rfl (fun x4 w4 h4 => ?_)
  obtain ⟨rfl, f4⟩ := h4
  refine go_iret dX7_colourings_7 ?_
  subst hK; exact ⟨_, rfl, rfl, PMW_q hP (fun c k z => f4 _ _ (by omega)), fun c k z => f4 _ _ (by omega)⟩
theorem em31 (hP : PMW w W) {x v : Int} (hx : rng x) (hv : rng v) : eX7_colouringsWith l D ck ad shA [vR 45, vI x, vI v] w (Pi (MR w (op31 W x v))) := by
  have hD : DMv (w 46) (wA W) (wC W) (wG W) (wS W) := hP.1.2
  have hT : TMv (w 46) (wN W) (wF W) := hP.1.1
  have hb := hD.2.2.1
  have hn := hT.2.1
  refine ev_of_goK (own := RX7) (ls := [some (vR 45), some (vI x), some (vI v)]) (by decide +kernel) rfl rfl (Nat.le_of_ble_eq_true rfl) rkI ?_
  intro K hK
  refine go_aload_n (j := 0) (q := 1) rfl rfl dX7_colouringsWith_0 rfl ?_
  refine go_iload_n (j := 1) (q := 2) rfl rfl dX7_colouringsWith_1 rfl ?_
  refine go_callVz (as := [_, _]) (As := [_]) (rest := []) (n := 1) (q := 5) dX7_colouringsWith_2 lk_X7_144 (ci := 7) (N := 16) (T := TX7) rfl (by first | assumption | rfl) rfl rfl (by decide +kernel) rfl ⟨by decide, by decide⟩ ⟨rfl, rfl⟩ (Nat.le_of_ble_eq_true rfl) (em_isArc hD hx) rfl (fun w2 h2 => ?_) (fun w2 h2 => ?_)
  · obtain ⟨rfl, h2⟩ := h2
    refine go_if_eqF (q := 8) (t := 26) dX7_colouringsWith_5 rfl (by decide) (by decide) ?_
    refine go_aload_n (j := 0) (q := 9) rfl rfl dX7_colouringsWith_8 rfl ?_
    refine go_iload_n (j := 2) (q := 10) rfl rfl dX7_colouringsWith_9 rfl ?_
    refine go_callVz (as := [_, _]) (As := [_]) (rest := []) (n := 1) (q := 13) dX7_colouringsWith_10 lk_X7_63 (ci := 7) (N := 16) (T := TX7) rfl (by first | assumption | rfl) rfl rfl (by decide +kernel) rfl ⟨by decide, by decide⟩ ⟨rfl, rfl⟩ (Nat.le_of_ble_eq_true rfl) (em_isElement hT hv) rfl (fun w10 h10 => ?_) (fun w10 h10 => ?_)
    · obtain ⟨rfl, h10⟩ := h10
      refine go_if_eqF (q := 16) (t := 26) dX7_colouringsWith_13 rfl (by decide) (by decide) ?_
      refine go_aload_n (j := 0) (q := 17) rfl rfl dX7_colouringsWith_16 rfl ?_
      refine go_iconst (q := 18) dX7_colouringsWith_17 rfl ?_
      refine go_iload_n (j := 1) (q := 19) rfl rfl dX7_colouringsWith_18 rfl ?_
      refine go_iload_n (j := 2) (q := 20) rfl rfl dX7_colouringsWith_19 rfl ?_
      refine go_callVi (as := [_, _, _, _]) (As := [_, _, _]) (rest := []) (n := 3) (q := 23) dX7_colouringsWith_20 lk_X7_184 (ci := 7) (N := 16) (T := TX7) rfl (by first | assumption | rfl) rfl rfl (by decide +kernel) rfl ⟨by decide, by decide⟩ ⟨rfl, rfl⟩ (Nat.le_of_ble_eq_true rfl) (em_counts (x := x.toNat) (y := v.toNat) (E := eW x.toNat v.toNat) hT hD (by omega) (by omega) (by omega) (Or.inr (Or.inl ⟨rfl, by omega, rfl⟩))) rfl (fun x20 w20 h20 => ?_)
      obtain ⟨rfl, f20⟩ := h20
      refine go_goto (q := 27) dX7_colouringsWith_23 (by decide) ?_
      refine go_iret dX7_colouringsWith_27 ?_
      subst hK
      unfold op31
      first
      | (have zq := f20; rw [cif_t (by omega)]; exact ⟨_, rfl, rfl, PMW_q hP (fun c k z => f20 _ _ (by omega)), fun c k z => f20 _ _ (by omega)⟩)
      | (rw [cif_f (by omega)]; exact ⟨_, rfl, rfl, hP, fun c k _ => rfl⟩)
    · obtain ⟨rfl, h10⟩ := h10
      refine go_if_eqT (t := 26) dX7_colouringsWith_13 (by decide) (by decide) ?_
      refine go_iconst (q := 27) dX7_colouringsWith_26 rfl ?_
      refine go_iret dX7_colouringsWith_27 ?_
      subst hK
      unfold op31
      first
      | (have zq := f20; rw [cif_t (by omega)]; exact ⟨_, rfl, rfl, PMW_q hP (fun c k z => f20 _ _ (by omega)), fun c k z => f20 _ _ (by omega)⟩)
      | (rw [cif_f (by omega)]; exact ⟨_, rfl, rfl, hP, fun c k _ => rfl⟩)
  · obtain ⟨rfl, h2⟩ := h2
    refine go_if_eqT (t := 26) dX7_colouringsWith_5 (by decide) (by decide) ?_
    refine go_iconst (q := 27) dX7_colouringsWith_26 rfl ?_
    refine go_iret dX7_colouringsWith_27 ?_
    subst hK
    unfold op31
    first
    | (have zq := f20; rw [cif_t (by omega)]; exact ⟨_, rfl, rfl, PMW_q hP (fun c k z => f20 _ _ (by omega)), fun c k z => f20 _ _ (by omega)⟩)
    | (rw [cif_f (by omega)]; exact ⟨_, rfl, rfl, hP, fun c k _ => rfl⟩)
theorem em32 (hP : PMW w W) {x v : Int} (hx : rng x) (hv : rng v) : eX7_colouringsAlike l D ck ad shA [vR 45, vI x, vI v] w (Pi (MR w (op32 W x v))) := by
  have hD : DMv (w 46) (wA W) (wC W) (wG W) (wS W) := hP.1.2
  have hT : TMv (w 46) (wN W) (wF W) := hP.1.1
  have hb := hD.2.2.1
  refine ev_of_goK (own := RX7) (ls := [some (vR 45), some (vI x), some (vI v)]) (by decide +kernel) rfl rfl (Nat.le_of_ble_eq_true rfl) rkI ?_
  intro K hK
  refine go_aload_n (j := 0) (q := 1) rfl rfl dX7_colouringsAlike_0 rfl ?_
  refine go_iload_n (j := 1) (q := 2) rfl rfl dX7_colouringsAlike_1 rfl ?_
  refine go_callVz (as := [_, _]) (As := [_]) (rest := []) (n := 1) (q := 5) dX7_colouringsAlike_2 lk_X7_144 (ci := 7) (N := 16) (T := TX7) rfl (by first | assumption | rfl) rfl rfl (by decide +kernel) rfl ⟨by decide, by decide⟩ ⟨rfl, rfl⟩ (Nat.le_of_ble_eq_true rfl) (em_isArc hD hx) rfl (fun w2 h2 => ?_) (fun w2 h2 => ?_)
  · obtain ⟨rfl, h2⟩ := h2
    refine go_if_eqF (q := 8) (t := 26) dX7_colouringsAlike_5 rfl (by decide) (by decide) ?_
    refine go_aload_n (j := 0) (q := 9) rfl rfl dX7_colouringsAlike_8 rfl ?_
    refine go_iload_n (j := 2) (q := 10) rfl rfl dX7_colouringsAlike_9 rfl ?_
    refine go_callVz (as := [_, _]) (As := [_]) (rest := []) (n := 1) (q := 13) dX7_colouringsAlike_10 lk_X7_144 (ci := 7) (N := 16) (T := TX7) rfl (by first | assumption | rfl) rfl rfl (by decide +kernel) rfl ⟨by decide, by decide⟩ ⟨rfl, rfl⟩ (Nat.le_of_ble_eq_true rfl) (em_isArc hD hv) rfl (fun w10 h10 => ?_) (fun w10 h10 => ?_)
    · obtain ⟨rfl, h10⟩ := h10
      refine go_if_eqF (q := 16) (t := 26) dX7_colouringsAlike_13 rfl (by decide) (by decide) ?_
      refine go_aload_n (j := 0) (q := 17) rfl rfl dX7_colouringsAlike_16 rfl ?_
      refine go_iconst (q := 18) dX7_colouringsAlike_17 rfl ?_
      refine go_iload_n (j := 1) (q := 19) rfl rfl dX7_colouringsAlike_18 rfl ?_
      refine go_iload_n (j := 2) (q := 20) rfl rfl dX7_colouringsAlike_19 rfl ?_
      refine go_callVi (as := [_, _, _, _]) (As := [_, _, _]) (rest := []) (n := 3) (q := 23) dX7_colouringsAlike_20 lk_X7_184 (ci := 7) (N := 16) (T := TX7) rfl (by first | assumption | rfl) rfl rfl (by decide +kernel) rfl ⟨by decide, by decide⟩ ⟨rfl, rfl⟩ (Nat.le_of_ble_eq_true rfl) (em_counts (x := x.toNat) (y := v.toNat) (E := eA x.toNat v.toNat) hT hD (by omega) (by omega) (by omega) (Or.inr (Or.inr (Or.inl ⟨rfl, by omega, rfl⟩)))) rfl (fun x20 w20 h20 => ?_)
      obtain ⟨rfl, f20⟩ := h20
      refine go_goto (q := 27) dX7_colouringsAlike_23 (by decide) ?_
      refine go_iret dX7_colouringsAlike_27 ?_
      subst hK
      unfold op32
      first
      | (have zq := f20; rw [cif_t (by omega)]; exact ⟨_, rfl, rfl, PMW_q hP (fun c k z => f20 _ _ (by omega)), fun c k z => f20 _ _ (by omega)⟩)
      | (rw [cif_f (by omega)]; exact ⟨_, rfl, rfl, hP, fun c k _ => rfl⟩)
    · obtain ⟨rfl, h10⟩ := h10
      refine go_if_eqT (t := 26) dX7_colouringsAlike_13 (by decide) (by decide) ?_
      refine go_iconst (q := 27) dX7_colouringsAlike_26 rfl ?_
      refine go_iret dX7_colouringsAlike_27 ?_
      subst hK
      unfold op32
      first
      | (have zq := f20; rw [cif_t (by omega)]; exact ⟨_, rfl, rfl, PMW_q hP (fun c k z => f20 _ _ (by omega)), fun c k z => f20 _ _ (by omega)⟩)
      | (rw [cif_f (by omega)]; exact ⟨_, rfl, rfl, hP, fun c k _ => rfl⟩)
  · obtain ⟨rfl, h2⟩ := h2
    refine go_if_eqT (t := 26) dX7_colouringsAlike_5 (by decide) (by decide) ?_
    refine go_iconst (q := 27) dX7_colouringsAlike_26 rfl ?_
    refine go_iret dX7_colouringsAlike_27 ?_
    subst hK
    unfold op32
    first
    | (have zq := f20; rw [cif_t (by omega)]; exact ⟨_, rfl, rfl, PMW_q hP (fun c k z => f20 _ _ (by omega)), fun c k z => f20 _ _ (by omega)⟩)
    | (rw [cif_f (by omega)]; exact ⟨_, rfl, rfl, hP, fun c k _ => rfl⟩)
theorem em33 (hP : PMW w W) {x : Int} (hx : rng x) : eX7_colouringsUsing l D ck ad shA [vR 45, vI x] w (Pi (MR w (op33 W x))) := by
  have hD : DMv (w 46) (wA W) (wC W) (wG W) (wS W) := hP.1.2
  have hT : TMv (w 46) (wN W) (wF W) := hP.1.1
  refine ev_of_goK (own := RX7) (ls := [some (vR 45), some (vI x)]) (by decide +kernel) rfl rfl (Nat.le_of_ble_eq_true rfl) rkI ?_
  intro K hK
  refine go_iload_n (j := 1) (q := 1) rfl rfl dX7_colouringsUsing_0 rfl ?_
  refine go_iconst (q := 2) dX7_colouringsUsing_1 rfl ?_
  refine go_bipush (q := 4) rfl dX7_colouringsUsing_2 rfl ?_
  refine go_callSz (as := [_, _, _]) (rest := []) (n := 3) (q := 7) dX7_colouringsUsing_4 lk_X7_35 rfl (by decide +kernel) rfl ⟨by decide, by decide⟩ ⟨rfl, rfl⟩ (Nat.le_of_ble_eq_true rfl) (em_within (by omega)) rfl (fun w4 h4 => ?_) (fun w4 h4 => ?_)
  · obtain ⟨rfl, h4⟩ := h4
    refine go_if_eqF (q := 10) (t := 20) dX7_colouringsUsing_7 rfl (by decide) (by decide) ?_
    refine go_aload_n (j := 0) (q := 11) rfl rfl dX7_colouringsUsing_10 rfl ?_
    refine go_iconst (q := 12) dX7_colouringsUsing_11 rfl ?_
    refine go_iload_n (j := 1) (q := 13) rfl rfl dX7_colouringsUsing_12 rfl ?_
    refine go_iconst (q := 14) dX7_colouringsUsing_13 rfl ?_
    refine go_callVi (as := [_, _, _, _]) (As := [_, _, _]) (rest := []) (n := 3) (q := 17) dX7_colouringsUsing_14 lk_X7_184 (ci := 7) (N := 16) (T := TX7) rfl (by first | assumption | rfl) rfl rfl (by decide +kernel) rfl ⟨by decide, by decide⟩ ⟨rfl, rfl⟩ (Nat.le_of_ble_eq_true rfl) (em_counts (x := x.toNat) (y := 0) (E := eU (wA W) x.toNat) hT hD (by omega) rfl (by omega) (Or.inr (Or.inr (Or.inr ⟨rfl, rfl⟩)))) rfl (fun x14 w14 h14 => ?_)
    obtain ⟨rfl, f14⟩ := h14
    refine go_goto (q := 22) dX7_colouringsUsing_17 (by decide) ?_
    refine go_iret dX7_colouringsUsing_22 ?_
    subst hK
    unfold op33
    first
    | (have zq := f14; rw [cif_t (by omega)]; exact ⟨_, rfl, rfl, PMW_q hP (fun c k z => f14 _ _ (by omega)), fun c k z => f14 _ _ (by omega)⟩)
    | (rw [cif_f (by omega)]; exact ⟨_, rfl, rfl, hP, fun c k _ => rfl⟩)
  · obtain ⟨rfl, h4⟩ := h4
    refine go_if_eqT (t := 20) dX7_colouringsUsing_7 (by decide) (by decide) ?_
    refine go_bipush (q := 22) rfl dX7_colouringsUsing_20 rfl ?_
    refine go_iret dX7_colouringsUsing_22 ?_
    subst hK
    unfold op33
    first
    | (have zq := f14; rw [cif_t (by omega)]; exact ⟨_, rfl, rfl, PMW_q hP (fun c k z => f14 _ _ (by omega)), fun c k z => f14 _ _ (by omega)⟩)
    | (rw [cif_f (by omega)]; exact ⟨_, rfl, rfl, hP, fun c k _ => rfl⟩)
theorem em34 (hP : PMW w W) {x y : Int} (hx : rng x) (hy : rng y) : eX7_colour l D ck ad shA [vR 45, vI x, vI y] w (Pi (MR w (op34 W x y))) := by
  have hD : DMv (w 46) (wA W) (wC W) (wG W) (wS W) := hP.1.2
  have hT : TMv (w 46) (wN W) (wF W) := hP.1.1
  obtain ⟨n, hn0⟩ : ∃ n, n = wN W := ⟨_, rfl⟩
  obtain ⟨f, hf0⟩ : ∃ f, f = wF W := ⟨_, rfl⟩
  obtain ⟨a, ha0⟩ : ∃ a, a = wA W := ⟨_, rfl⟩
  obtain ⟨c, hc0⟩ : ∃ c, c = wC W := ⟨_, rfl⟩
  obtain ⟨g, hg0⟩ : ∃ g, g = wG W := ⟨_, rfl⟩
  obtain ⟨s, hs0⟩ : ∃ s, s = wS W := ⟨_, rfl⟩
  rw [← hn0, ← hf0] at hT
  rw [← ha0, ← hc0, ← hg0, ← hs0] at hD
  have hn := hT.2.1
  have ha := hD.2.2.1
  have hga := lastA_m hD
  refine ev_of_goK (own := RX7) (ls := [some (vR 45), some (vI x), some (vI y), none, none]) (by decide +kernel) rfl rfl (Nat.le_of_ble_eq_true rfl) rkI ?_
  intro K hK
  refine go_iload_n (j := 1) (q := 1) rfl rfl dX7_colour_0 rfl ?_
  refine go_if_lt2 (q := 4) (t := 12) dX7_colour_1 (by decide) rfl (by omega) (fun c1 => ?_) (fun c1 => ?_)
  · refine go_iconst (q := 13) dX7_colour_12 rfl ?_
    refine go_iret dX7_colour_13 ?_
    subst hK
    unfold op34
    rw [cif_f (by rw [← ha0]; omega)]; exact ⟨_, rfl, rfl, hP, fun c k _ => rfl⟩
  · refine go_aload_n (j := 0) (q := 5) rfl rfl dX7_colour_4 rfl ?_
    refine go_iload_n (j := 2) (q := 6) rfl rfl dX7_colour_5 rfl ?_
    refine go_callVz (as := [_, _]) (As := [_]) (rest := []) (n := 1) (q := 9) dX7_colour_6 lk_X7_144 (ci := 7) (N := 16) (T := TX7) rfl (by first | assumption | rfl) rfl rfl (by decide +kernel) rfl ⟨by decide, by decide⟩ ⟨rfl, rfl⟩ (Nat.le_of_ble_eq_true rfl) (em_isArc hD hy) rfl (fun w6 h6 => ?_) (fun w6 h6 => ?_)
    · obtain ⟨rfl, h6⟩ := h6
      refine go_if_neT (t := 14) dX7_colour_9 (by decide) (by decide) ?_
      obtain ⟨q, hq⟩ : ∃ q, q = x.toNat := ⟨_, rfl⟩
      obtain ⟨r, hr⟩ : ∃ r, r = y.toNat := ⟨_, rfl⟩
      have eqx : x = (q : Int) := by omega
      have ery : y = (r : Int) ∧ r < a := by omega
      refine go_iload_n (j := 1) (q := 15) rfl rfl dX7_colour_14 rfl ?_
      refine go_istore_n (j := 3) (q := 16) (ls2 := [_, _, _, _, _]) rfl (by decide) rfl rfl dX7_colour_15 rfl ?_
      refine go_aload_n (j := 0) (q := 17) rfl rfl dX7_colour_16 rfl ?_
      refine go_callVv (as := [_]) (As := []) (rest := []) (n := 0) (q := 20) dX7_colour_17 lk_X7_172 (ci := 7) (N := 16) (T := TX7) rfl (by first | assumption | rfl) rfl rfl (by decide +kernel) rfl ⟨by decide, by decide⟩ ⟨rfl, rfl⟩ (Nat.le_of_ble_eq_true rfl) (em_beginsColours) rfl (fun w17 h17 => ?_)
      obtain ⟨b4, f4⟩ := h17
      refine go_iconst (q := 21) dX7_colour_20 rfl ?_
      refine go_istore (j := 4) (q := 23) (ls2 := [_, _, _, _, _]) (by decide) rfl rfl dX7_colour_21 rfl ?_
      have lp23 : ∀ (m23 : Nat) (p : Nat) (li gi : Int) (w1 : Mem) (col : Nat → Nat) (el : li = (q : Int) - (cntP n a c f g s tt p : Nat)) (hle : cntP n a c f g s tt p ≤ q) (hg : (gi = 1 ∧ CM w1 n a col ∧ Vn n col a = p) ∨ (gi = 0 ∧ p = n ^ a)) (hf : ∀ c k, c ≠ 52 → w1 c k = w c k), m23 = n ^ a - p → gX7_colour l D ck ad shA 23 [some (vR 45), some (vI x), some (vI y), some (vI li), some (vI gi)] [] w1 K := by
        intro m23
        induction m23 using Nat.strongRecOn with
        | _ m23 ih23 =>
        intro p li gi w1 col el hle hg hf em23
        refine go_iload (j := 4) (q := 25) rfl dX7_colour_23 rfl ?_
        refine go_if_eq2 (q := 28) (t := 58) dX7_colour_25 (by decide) rfl (by omega) (fun c25 => ?_) (fun c25 => ?_)
        · refine go_iconst (q := 59) dX7_colour_58 rfl ?_
          refine go_iret dX7_colour_59 ?_
          subst hK
          unfold op34
          rw [cif_t (by rw [← ha0]; omega), ← hn0, ← hf0, ← ha0, ← hc0, ← hg0, ← hs0, ← hq, ← hr]
          have hpe : p = n ^ a := by
            rcases hg with ⟨z, _⟩ | ⟨_, z⟩
            · omega
            · exact z
          have hk : colA n a c f g s q r (-1) := Or.inr ⟨by rw [← hpe]; exact hle, rfl⟩
          exact ⟨_, rfl, the_eq hk (fun u hu => colA_u hga ery.2 hu hk), PMW_q hP (fun c k z => hf _ _ (by omega)), fun c k z => hf _ _ (by omega)⟩
        · have hg1 : CM w1 n a col ∧ Vn n col a = p := by
            rcases hg with ⟨_, z⟩ | ⟨z, _⟩
            · exact z
            · omega
          have hT1 : TMv (w1 46) n f := TMv_c hT (fun k _ => hf _ _ (by omega))
          have hD1 : DMv (w1 46) a c g s := DMv_c hD (fun k _ _ => hf _ _ (by omega))
          have hpl := V_lt a hg1.1.2
          rw [hg1.2] at hpl
          refine go_aload_n (j := 0) (q := 29) rfl rfl dX7_colour_28 rfl ?_
          refine go_callVz (as := [_]) (As := []) (rest := []) (n := 0) (q := 32) dX7_colour_29 lk_X7_178 (ci := 7) (N := 16) (T := TX7) rfl (by first | assumption | rfl) rfl rfl (by decide +kernel) rfl ⟨by decide, by decide⟩ ⟨rfl, rfl⟩ (Nat.le_of_ble_eq_true rfl) (em_isColouring hT1 hD1 hg1.1) rfl (fun w29 h29 => ?_) (fun w29 h29 => ?_)
          · obtain ⟨rfl, h29⟩ := h29
            refine go_if_eqF (q := 35) (t := 49) dX7_colour_32 rfl (by decide) (by decide) ?_
            refine go_iload_n (j := 3) (q := 36) rfl rfl dX7_colour_35 rfl ?_
            refine go_if_ne2 (q := 39) (t := 46) dX7_colour_36 (by decide) rfl (by omega) (fun c36 => ?_) (fun c36 => ?_)
            · have zp := cnt_s hga tt_cgr hg1.1.2 (show isColP c f g s col ∧ tt col from ⟨h29, trivial⟩)
              rw [hg1.2] at zp
              refine go_iinc (j := 3) (q := 49) (ls2 := [_, _, _, _, _]) rfl (by decide) rfl rfl dX7_colour_46 rfl ?_
              refine go_aload_n (j := 0) (q := 50) rfl rfl dX7_colour_49 rfl ?_
              refine go_callVz (as := [_]) (As := []) (rest := []) (n := 0) (q := 53) dX7_colour_50 lk_X7_181 (ci := 7) (N := 16) (T := TX7) rfl (by first | assumption | rfl) rfl rfl (by decide +kernel) rfl ⟨by decide, by decide⟩ ⟨rfl, rfl⟩ (Nat.le_of_ble_eq_true rfl) (em_goesOnColours hT1 hD1 hg1.1) rfl (fun w50 h50 => ?_) (fun w50 h50 => ?_)
              · obtain ⟨⟨col2, hC2, hV2⟩, f98⟩ := h50
                refine go_istore (j := 4) (q := 55) (ls2 := [_, _, _, _, _]) (by decide) rfl rfl dX7_colour_53 rfl ?_
                refine go_goto (q := 23) dX7_colour_55 (by decide) ?_
                (have hfr : ∀ c k, c ≠ 52 → w50 c k = w c k := fun c k h => by rw [f98 c k h]; exact hf c k h
                 rw [hg1.2] at hV2
                 first
                 | (have zq := zp
                    first
                    | (have zq := hC2; exact ih23 _ (by omega) (p + 1) _ _ _ col2 (by omega) (by omega) (Or.inl ⟨rfl, hC2, hV2⟩) hfr rfl)
                    | exact ih23 _ (by omega) (p + 1) _ _ _ col (by omega) (by omega) (Or.inr ⟨rfl, hV2⟩) hfr rfl)
                 | (have zn := cnt_n hga tt_cgr hg1.1.2 (show ¬ (isColP c f g s col ∧ tt col) from fun z => h29 z.1)
                    rw [hg1.2] at zn
                    first
                    | (have zq := hC2; exact ih23 _ (by omega) (p + 1) _ _ _ col2 (by omega) (by omega) (Or.inl ⟨rfl, hC2, hV2⟩) hfr rfl)
                    | exact ih23 _ (by omega) (p + 1) _ _ _ col (by omega) (by omega) (Or.inr ⟨rfl, hV2⟩) hfr rfl))
              · obtain ⟨hV2, f98⟩ := h50
                refine go_istore (j := 4) (q := 55) (ls2 := [_, _, _, _, _]) (by decide) rfl rfl dX7_colour_53 rfl ?_
                refine go_goto (q := 23) dX7_colour_55 (by decide) ?_
                (have hfr : ∀ c k, c ≠ 52 → w50 c k = w c k := fun c k h => by rw [f98 c k h]; exact hf c k h
                 rw [hg1.2] at hV2
                 first
                 | (have zq := zp
                    first
                    | (have zq := hC2; exact ih23 _ (by omega) (p + 1) _ _ _ col2 (by omega) (by omega) (Or.inl ⟨rfl, hC2, hV2⟩) hfr rfl)
                    | exact ih23 _ (by omega) (p + 1) _ _ _ col (by omega) (by omega) (Or.inr ⟨rfl, hV2⟩) hfr rfl)
                 | (have zn := cnt_n hga tt_cgr hg1.1.2 (show ¬ (isColP c f g s col ∧ tt col) from fun z => h29 z.1)
                    rw [hg1.2] at zn
                    first
                    | (have zq := hC2; exact ih23 _ (by omega) (p + 1) _ _ _ col2 (by omega) (by omega) (Or.inl ⟨rfl, hC2, hV2⟩) hfr rfl)
                    | exact ih23 _ (by omega) (p + 1) _ _ _ col (by omega) (by omega) (Or.inr ⟨rfl, hV2⟩) hfr rfl))
            · refine go_aload_n (j := 0) (q := 40) rfl rfl dX7_colour_39 rfl ?_
              refine go_getR (C0 := RX7) (T := TX7) (N := 16) (ci := 7) (i := 9) (q := 43) rfl igX7 (by first | assumption | rfl) (by decide) fl_X7_28 rfl dX7_colour_40 rfl ?_
              refine go_iload_n (j := 2) (q := 44) rfl rfl dX7_colour_43 rfl ?_
              have wr4 := hg1.1.1 r (by omega)
              refine go_iald (j := r) (q := 45) (by first | assumption | rfl) (wr_eq (by omega)) (by omega) dX7_colour_44 rfl ?_
              refine go_iret dX7_colour_45 ?_
              subst hK
              unfold op34
              rw [cif_t (by rw [← ha0]; omega), ← hn0, ← hf0, ← ha0, ← hc0, ← hg0, ← hs0, ← hq, ← hr]
              have hk : colA n a c f g s q r (w1 52 r) := Or.inl ⟨col, hg1.1.2, h29, by rw [hg1.2]; omega, wr4⟩
              exact ⟨_, rfl, the_eq hk (fun u hu => colA_u hga ery.2 hu hk), PMW_q hP (fun c k z => hf _ _ (by omega)), fun c k z => hf _ _ (by omega)⟩
          · obtain ⟨rfl, h29⟩ := h29
            refine go_if_eqT (t := 49) dX7_colour_32 (by decide) (by decide) ?_
            refine go_aload_n (j := 0) (q := 50) rfl rfl dX7_colour_49 rfl ?_
            refine go_callVz (as := [_]) (As := []) (rest := []) (n := 0) (q := 53) dX7_colour_50 lk_X7_181 (ci := 7) (N := 16) (T := TX7) rfl (by first | assumption | rfl) rfl rfl (by decide +kernel) rfl ⟨by decide, by decide⟩ ⟨rfl, rfl⟩ (Nat.le_of_ble_eq_true rfl) (em_goesOnColours hT1 hD1 hg1.1) rfl (fun w50 h50 => ?_) (fun w50 h50 => ?_)
            · obtain ⟨⟨col2, hC2, hV2⟩, f98⟩ := h50
              refine go_istore (j := 4) (q := 55) (ls2 := [_, _, _, _, _]) (by decide) rfl rfl dX7_colour_53 rfl ?_
              refine go_goto (q := 23) dX7_colour_55 (by decide) ?_
              (have hfr : ∀ c k, c ≠ 52 → w50 c k = w c k := fun c k h => by rw [f98 c k h]; exact hf c k h
               rw [hg1.2] at hV2
               first
               | (have zq := zp
                  first
                  | (have zq := hC2; exact ih23 _ (by omega) (p + 1) _ _ _ col2 (by omega) (by omega) (Or.inl ⟨rfl, hC2, hV2⟩) hfr rfl)
                  | exact ih23 _ (by omega) (p + 1) _ _ _ col (by omega) (by omega) (Or.inr ⟨rfl, hV2⟩) hfr rfl)
               | (have zn := cnt_n hga tt_cgr hg1.1.2 (show ¬ (isColP c f g s col ∧ tt col) from fun z => h29 z.1)
                  rw [hg1.2] at zn
                  first
                  | (have zq := hC2; exact ih23 _ (by omega) (p + 1) _ _ _ col2 (by omega) (by omega) (Or.inl ⟨rfl, hC2, hV2⟩) hfr rfl)
                  | exact ih23 _ (by omega) (p + 1) _ _ _ col (by omega) (by omega) (Or.inr ⟨rfl, hV2⟩) hfr rfl))
            · obtain ⟨hV2, f98⟩ := h50
              refine go_istore (j := 4) (q := 55) (ls2 := [_, _, _, _, _]) (by decide) rfl rfl dX7_colour_53 rfl ?_
              refine go_goto (q := 23) dX7_colour_55 (by decide) ?_
              (have hfr : ∀ c k, c ≠ 52 → w50 c k = w c k := fun c k h => by rw [f98 c k h]; exact hf c k h
               rw [hg1.2] at hV2
               first
               | (have zq := zp
                  first
                  | (have zq := hC2; exact ih23 _ (by omega) (p + 1) _ _ _ col2 (by omega) (by omega) (Or.inl ⟨rfl, hC2, hV2⟩) hfr rfl)
                  | exact ih23 _ (by omega) (p + 1) _ _ _ col (by omega) (by omega) (Or.inr ⟨rfl, hV2⟩) hfr rfl)
               | (have zn := cnt_n hga tt_cgr hg1.1.2 (show ¬ (isColP c f g s col ∧ tt col) from fun z => h29 z.1)
                  rw [hg1.2] at zn
                  first
                  | (have zq := hC2; exact ih23 _ (by omega) (p + 1) _ _ _ col2 (by omega) (by omega) (Or.inl ⟨rfl, hC2, hV2⟩) hfr rfl)
                  | exact ih23 _ (by omega) (p + 1) _ _ _ col (by omega) (by omega) (Or.inr ⟨rfl, hV2⟩) hfr rfl))
      (have hz : ∀ j, Vn n (fun _ => 0) j = 0 := fun j => by
         induction j with
         | zero => rfl
         | succ j ih => show Vn n (fun _ => 0) j * n + 0 = 0; rw [ih]; simp
       have h00 : cntP n a c f g s tt 0 = 0 := rfl
       exact lp23 _ 0 _ 1 _ (fun _ => 0) (by rw [h00]; omega) (by omega) (Or.inl ⟨rfl, ⟨b4, fun i hi => by show 0 < n; omega⟩, hz a⟩) f4 rfl)
    · obtain ⟨rfl, h6⟩ := h6
      refine go_if_neF (q := 12) (t := 14) dX7_colour_9 rfl (by decide) (by decide) ?_
      refine go_iconst (q := 13) dX7_colour_12 rfl ?_
      refine go_iret dX7_colour_13 ?_
      subst hK
      unfold op34
      rw [cif_f (by rw [← ha0]; omega)]; exact ⟨_, rfl, rfl, hP, fun c k _ => rfl⟩
end M6
