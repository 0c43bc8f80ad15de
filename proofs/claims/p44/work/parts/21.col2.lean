theorem isCol_cgr {a c : Nat} {f g : Nat → Nat → Nat} {s : Nat → Int} (hga : ∀ k, k < c → lastA g k < a) : cgr a (isColP c f g s) := fun _ _ h hc k hk => metP_cgr (fun i hi => h i (by have := hga k hk; omega)) (hc k hk)
theorem and_cgr {a : Nat} {P Q : (Nat → Nat) → Prop} (hP : cgr a P) (hQ : cgr a Q) : cgr a (fun col => P col ∧ Q col) := fun c1 c2 h hc => ⟨hP c1 c2 h hc.1, hQ c1 c2 h hc.2⟩
theorem cnt_gap {n a c p q : Nat} {f g : Nat → Nat → Nat} {s : Nat → Int} {E : (Nat → Nat) → Prop} (hpq : p ≤ q) (hg : ∀ r, p ≤ r → r < q → ¬ cdP n a (isColP c f g s) r) : cntP n a c f g s E q = cntP n a c f g s E p := by
  unfold cntP
  refine cN_gap2 hpq (fun r h1 h2 => ?_)
  cases hb : cdB n a (fun col => isColP c f g s col ∧ E col) r with
  | false => rfl
  | true =>
    obtain ⟨c2, h3, h4, h5, -⟩ := cdB_iff.mp hb
    exact absurd ⟨c2, h3, h4, h5⟩ (hg r h1 h2)
theorem cnt_hit {n a c p : Nat} {f g : Nat → Nat → Nat} {s : Nat → Int} {E : (Nat → Nat) → Prop} {col : Nat → Nat} (hga : ∀ k, k < c → lastA g k < a) (hE : cgr a E) (hc : ∀ i, i < a → col i < n) (hi : isColP c f g s col) (hp : p ≤ Vn n col a) (hg : ∀ r, p ≤ r → r < Vn n col a → ¬ cdP n a (isColP c f g s) r) (h : E col) : cntP n a c f g s E (Vn n col a + 1) = cntP n a c f g s E p + 1 := by
  rw [← cnt_gap (E := E) hp hg]
  show cN _ _ + _ = _
  rw [if_pos (cdB_iff.mpr ((cdP_at (and_cgr (isCol_cgr hga) hE) hc).mpr ⟨hi, h⟩))]
  rfl
theorem cnt_miss {n a c p : Nat} {f g : Nat → Nat → Nat} {s : Nat → Int} {E : (Nat → Nat) → Prop} {col : Nat → Nat} (hga : ∀ k, k < c → lastA g k < a) (hE : cgr a E) (hc : ∀ i, i < a → col i < n) (hp : p ≤ Vn n col a) (hg : ∀ r, p ≤ r → r < Vn n col a → ¬ cdP n a (isColP c f g s) r) (h : ¬ E col) : cntP n a c f g s E (Vn n col a + 1) = cntP n a c f g s E p := by
  rw [← cnt_gap (E := E) hp hg]
  show cN _ _ + _ = _
  rw [if_neg (fun z => h ((cdP_at (and_cgr (isCol_cgr hga) hE) hc).mp (cdB_iff.mp z)).2)]
  rfl
def tt : (Nat → Nat) → Prop := fun _ => True
theorem tt_cgr {a : Nat} : cgr a tt := fun _ _ _ h => h
def eW (x v : Nat) : (Nat → Nat) → Prop := fun col => col x = v
theorem eW_cgr {a x v : Nat} (hx : x < a) : cgr a (eW x v) := fun c1 c2 h hc => by unfold eW at *; rw [← h x hx]; exact hc
def eA (x y : Nat) : (Nat → Nat) → Prop := fun col => col x = col y
theorem eA_cgr {a x y : Nat} (hx : x < a) (hy : y < a) : cgr a (eA x y) := fun c1 c2 h hc => by unfold eA at *; rw [← h x hx, ← h y hy]; exact hc
def usedN (a : Nat) (col : Nat → Nat) : Nat := pc (msk col a)
def eU (a u : Nat) : (Nat → Nat) → Prop := fun col => usedN a col = u
theorem msk_congr {c1 c2 : Nat → Nat} : ∀ a, (∀ i, i < a → c1 i = c2 i) → msk c1 a = msk c2 a
  | 0, _ => rfl
  | a + 1, h => by
    show msk c1 a ||| 2 ^ c1 a = msk c2 a ||| 2 ^ c2 a
    rw [msk_congr a (fun i hi => h i (by omega)), h a (by omega)]
theorem eU_cgr {a u : Nat} : cgr a (eU a u) := fun c1 c2 h hc => by unfold eU usedN at *; rw [← msk_congr a h]; exact hc
theorem usedN_le {n a : Nat} {col : Nat → Nat} (hn : n ≤ 6) (h : ∀ i, i < a → col i < n) : msk col a < 64 ∧ usedN a col ≤ 6 := by
  have h1 := msk_lt (n := n) a h
  have h2 : 2 ^ n ≤ 2 ^ 6 := Nat.pow_le_pow_right (by decide) hn
  have h3 := (pc_full (N := 6) (a := msk col a) (by decide) (by omega)).1
  exact ⟨by omega, h3⟩
theorem cnt_le {n a c : Nat} {f g : Nat → Nat → Nat} {s : Nat → Int} {E : (Nat → Nat) → Prop} (k : Nat) : cntP n a c f g s E k ≤ k := cN_le _ k
def colA (n a c : Nat) (f g : Nat → Nat → Nat) (s : Nat → Int) (i x : Nat) (v : Int) : Prop :=
  (∃ col : Nat → Nat, (∀ i, i < a → col i < n) ∧ isColP c f g s col ∧ cntP n a c f g s tt (Vn n col a) = i ∧ v = col x) ∨ (cntP n a c f g s tt (n ^ a) ≤ i ∧ v = -1)
theorem lastA_lt {w : Mem} {d a c : Nat} {g : Nat → Nat → Nat} {s : Nat → Int} (hD : DG w d a c g s) : ∀ k, k < c → lastA g k < a := fun k hk => by
  have := (hD.2.2.2 k hk).2.1; unfold lastA; omega
theorem WS_pos {w : Mem} {n a c : Nat} {f g : Nat → Nat → Nat} {s : Nat → Int} {jn cn : Nat} {col : Nat → Nat} (h : WS w n a c f g s jn col cn) : posW n a jn col cn ≤ n ^ a := by
  by_cases q : jn = 0
  · unfold posW; rw [if_pos q]; exact Nat.le_refl _
  · exact pos_le h.2.1 (fun i hi => (h.2.2.1 i (by omega)).2) (h.2.2.2.1 (by omega)).2
theorem WS_same {w w1 : Mem} {n a c : Nat} {f g : Nat → Nat → Nat} {s : Nat → Int} {jn cn : Nat} {col : Nat → Nat} (h : WS w n a c f g s jn col cn) (he : ∀ c k, c ≠ 15 → w1 c k = w c k) : WS w1 n a c f g s jn col cn := by
  obtain ⟨h0, h1, h2, h3, h4, h5, h6, h7⟩ := h
  exact ⟨by rw [he _ _ (by omega)]; exact h0, h1, fun i hi => by rw [he _ _ (by omega)]; exact h2 i hi, fun hi => by rw [he _ _ (by omega)]; exact h3 hi, fun i hi hj => by rw [he _ _ (by omega)]; exact h4 i hi hj, fun k hk => by rw [he _ _ (by omega)]; exact h5 k hk, h6, h7⟩
theorem pos_0 {n a : Nat} {col : Nat → Nat} : posW n a 1 col 0 = 0 := by
  unfold posW; rw [if_neg (by omega)]; simp [Vn]
section COL2
variable {l : Launch} {D : va_G} {ck : Nat → ClassId} {ad : Nat → Nat} {w : Mem} {n a c : Nat} {f g : Nat → Nat → Nat} {s : Nat → Int}
theorem ev_coloursUsed (hD : DG w 10 a c g s) (hn : n ≤ 6) {col : Nat → Nat} (hc : ∀ i, i < a → w 13 i = (col i : Int) ∧ col i < n) :
    eX0_coloursUsed l D ck ad shA [vR 12] w (Pi fun v w1 => v = (usedN a col : Int) ∧ w = w1) := by
  obtain ⟨d0, d1, ha, hg⟩ := hD
  refine ev_of_goK (own := RX0) (ls := [some (vR 12), none, none]) (by decide +kernel) rfl rfl (Nat.le_of_ble_eq_true rfl) rkI ?_
  intro K hK
  refine go_iconst (q := 1) dX0_coloursUsed_0 rfl ?_
  refine go_istore_n (j := 1) (q := 2) (ls2 := [_, _, _]) rfl (by decide) rfl rfl dX0_coloursUsed_1 rfl ?_
  refine go_iconst (q := 3) dX0_coloursUsed_2 rfl ?_
  refine go_istore_n (j := 2) (q := 4) (ls2 := [_, _, _]) rfl (by decide) rfl rfl dX0_coloursUsed_3 rfl ?_
  have lp4 : ∀ (m4 : Nat) (i : Nat) (ii mi : Int) (ei : ii = i) (hi : i ≤ a) (em : mi = (msk col i : Nat)), m4 = a - i → gX0_coloursUsed l D ck ad shA 4 [some (vR 12), some (vI mi), some (vI ii)] [] w K := by
    intro m4
    induction m4 using Nat.strongRecOn with
    | _ m4 ih4 =>
    intro i ii mi ei hi em em4
    refine go_iload_n (j := 2) (q := 5) rfl rfl dX0_coloursUsed_4 rfl ?_
    refine go_aload_n (j := 0) (q := 6) rfl rfl dX0_coloursUsed_5 rfl ?_
    refine go_getR (C0 := RX0) (T := TX0) (N := 6) (ci := 0) (i := 1) (q := 9) rfl igX0 (by first | assumption | rfl) (by decide) fl_X0_25 rfl dX0_coloursUsed_6 rfl ?_
    refine go_getI (C0 := RX1) (T := TX1) (N := 3) (ci := 1) (i := 0) (q := 12) rfl igX1 (by first | assumption | rfl) (by decide) fl_X0_41 rfl dX0_coloursUsed_9 rfl ?_
    refine go_icmp_ge2 (q := 15) (t := 32) dX0_coloursUsed_12 (by decide) rfl (by omega) (fun c12 => ?_) (fun c12 => ?_)
    · have b2 := (usedN_le (a := a) (col := col) hn (fun j hj => (hc j (by omega)).2)).1
      refine go_iload_n (j := 1) (q := 33) rfl rfl dX0_coloursUsed_32 rfl ?_
      refine go_callSi (as := [_]) (rest := []) (n := 1) (q := 36) dX0_coloursUsed_33 lk_X0_47 rfl (by decide +kernel) rfl ⟨by decide, by decide⟩ ⟨rfl, rfl⟩ (Nat.le_of_ble_eq_true rfl) (ev_bitCount (m := msk col a) (by rw [em, show i = a by omega]) (by omega)) rfl (fun x33 w33 h33 => ?_)
      obtain ⟨rfl, rfl⟩ := h33
      refine go_iret dX0_coloursUsed_36 ?_
      subst hK; exact ⟨_, rfl, rfl, rfl⟩
    · have hci := hc i (by omega)
      have b1 := (usedN_le (a := i) (col := col) hn (fun j hj => (hc j (by omega)).2)).1
      refine go_iload_n (j := 1) (q := 16) rfl rfl dX0_coloursUsed_15 rfl ?_
      refine go_iconst (q := 17) dX0_coloursUsed_16 rfl ?_
      refine go_aload_n (j := 0) (q := 18) rfl rfl dX0_coloursUsed_17 rfl ?_
      refine go_getR (C0 := RX0) (T := TX0) (N := 6) (ci := 0) (i := 2) (q := 21) rfl igX0 (by first | assumption | rfl) (by decide) fl_X0_9 rfl dX0_coloursUsed_18 rfl ?_
      refine go_iload_n (j := 2) (q := 22) rfl rfl dX0_coloursUsed_21 rfl ?_
      refine go_iald (j := i) (q := 23) (by first | assumption | rfl) (wr_eq (by omega)) (by omega) dX0_coloursUsed_22 rfl ?_
      rw [hci.1]
      refine go_ishl (q := 24) dX0_coloursUsed_23 rfl ?_
      refine go_ior (q := 25) dX0_coloursUsed_24 rfl ?_
      refine go_istore_n (j := 1) (q := 26) (ls2 := [_, _, _]) rfl (by decide) rfl rfl dX0_coloursUsed_25 rfl ?_
      refine go_iinc (j := 2) (q := 29) (ls2 := [_, _, _]) rfl (by decide) rfl rfl dX0_coloursUsed_26 rfl ?_
      refine go_goto (q := 4) dX0_coloursUsed_29 (by decide) ?_
      exact ih4 _ (by omega) (i + 1) _ _ (by omega) (by omega) (by
        have h2 : 2 ^ col i < 2 ^ 6 := two_lt (by omega)
        rw [em, shl_eq (by omega), or_eq (by omega) (by omega)]; rfl) rfl
  exact lp4 _ 0 0 0 rfl (by omega) rfl rfl
theorem ev_talliedUsing {u : Nat} {ui : Int} (eu : ui = u) (hu : u ≤ 6) :
    eX0_talliedUsing l D ck ad shA [vR 12, vI ui] w (Pi fun v w1 => v = w 15 u ∧ w = w1) := by
  refine ev_of_goK (own := RX0) (ls := [some (vR 12), some (vI ui)]) (by decide +kernel) rfl rfl (Nat.le_of_ble_eq_true rfl) rkI ?_
  intro K hK
  refine go_aload_n (j := 0) (q := 1) rfl rfl dX0_talliedUsing_0 rfl ?_
  refine go_getR (C0 := RX0) (T := TX0) (N := 6) (ci := 0) (i := 4) (q := 4) rfl igX0 (by first | assumption | rfl) (by decide) fl_X0_18 rfl dX0_talliedUsing_1 rfl ?_
  refine go_iload_n (j := 1) (q := 5) rfl rfl dX0_talliedUsing_4 rfl ?_
  refine go_iald (j := u) (q := 6) (by first | assumption | rfl) (wr_eq (by omega)) (by omega) dX0_talliedUsing_5 rfl ?_
  refine go_iret dX0_talliedUsing_6 ?_
  subst hK; exact ⟨_, rfl, rfl, rfl⟩
theorem ev_countWith (hT : TB w 1 n f) (hD : DG w 10 a c g s) {x v : Nat} {xi vi : Int} (ex : xi = x) (hx : x < a) (ev : vi = v) (hv : v < n) :
    eX0_countWith l D ck ad shA [vR 12, vI xi, vI vi] w (Pi fun r w1 => r = (cntP n a c f g s (eW x v) (n ^ a) : Int) ∧ ∀ c k, c ≠ 12 → c ≠ 13 → c ≠ 14 → w1 c k = w c k) := by
  have hn := hT.2.1
  have ha := hD.2.2.1
  have hga := lastA_lt hD
  have hpw := pow_b ⟨n, by omega⟩ ⟨a, by omega⟩
  simp only at hpw
  refine ev_of_goK (own := RX0) (ls := [some (vR 12), some (vI xi), some (vI vi), none, none]) (by decide +kernel) rfl rfl (Nat.le_of_ble_eq_true rfl) rkI ?_
  intro K hK
  refine go_aload_n (j := 0) (q := 1) rfl rfl dX0_countWith_0 rfl ?_
  refine go_callVv (as := [_]) (As := []) (rest := []) (n := 0) (q := 4) dX0_countWith_1 lk_X0_29 (ci := 0) (N := 6) (T := TX0) rfl (by first | assumption | rfl) rfl rfl (by decide +kernel) rfl ⟨by decide, by decide⟩ ⟨rfl, rfl⟩ (Nat.le_of_ble_eq_true rfl) (ev_start (f := f) hD hn) rfl (fun w1 h1 => ?_)
  obtain ⟨W1, f1⟩ := h1
  refine go_iconst (q := 5) dX0_countWith_4 rfl ?_
  refine go_istore_n (j := 3) (q := 6) (ls2 := [_, _, _, _, _]) rfl (by decide) rfl rfl dX0_countWith_5 rfl ?_
  refine go_iconst (q := 7) dX0_countWith_6 rfl ?_
  refine go_istore (j := 4) (q := 9) (ls2 := [_, _, _, _, _]) (by decide) rfl rfl dX0_countWith_7 rfl ?_
  have lp9 : ∀ (m9 : Nat) (i : Nat) (ni ii : Int) (w2 : Mem) (jn cm : Nat) (cl : Nat → Nat) (ei : ii = i) (hW : WS w2 n a c f g s jn cl cm) (eni : ni = (cntP n a c f g s (eW x v) (posW n a jn cl cm) : Nat)) (eii : i = cntP n a c f g s tt (posW n a jn cl cm)) (hf : ∀ c k, c ≠ 12 → c ≠ 13 → c ≠ 14 → w2 c k = w c k), m9 = 279936 - i → gX0_countWith l D ck ad shA 9 [some (vR 12), some (vI xi), some (vI vi), some (vI ni), some (vI ii)] [] w2 K := by
    intro m9
    induction m9 using Nat.strongRecOn with
    | _ m9 ih9 =>
    intro i ni ii w2 jn cm cl ei hW eni eii hf em9
    have hp := WS_pos hW
    have hle := cnt_le (n := n) (a := a) (c := c) (f := f) (g := g) (s := s) (E := tt) (posW n a jn cl cm)
    have hT2 : TB w2 1 n f := TB_same hT (fun k => hf _ _ (by omega) (by omega) (by omega)) (fun k => hf _ _ (by omega) (by omega) (by omega))
    have hD2 : DG w2 10 a c g s := DG_same hD (fun k => hf _ _ (by omega) (by omega) (by omega)) (fun k => hf _ _ (by omega) (by omega) (by omega))
    refine go_iload (j := 4) (q := 11) rfl dX0_countWith_9 rfl ?_
    refine go_ldc (n := 279936) (q := 13) cn_X0_32 rfl dX0_countWith_11 rfl ?_
    refine go_icmp_ge2 (q := 16) (t := 42) dX0_countWith_13 (by decide) rfl (by omega) (fun c13 => ?_) (fun c13 => ?_)
    · refine go_iload_n (j := 3) (q := 43) rfl rfl dX0_countWith_42 rfl ?_
      refine go_iret dX0_countWith_43 ?_
      subst hK
      first
      | exact ⟨_, rfl, by rw [cnt_gap hp h17]; exact eni, f3⟩
      | exact ⟨_, rfl, by rw [show n ^ a = posW n a jn cl cm by omega]; exact eni, hf⟩
    · refine go_aload_n (j := 0) (q := 17) rfl rfl dX0_countWith_16 rfl ?_
      refine go_callVz (as := [_]) (As := []) (rest := []) (n := 0) (q := 20) dX0_countWith_17 lk_X0_33 (ci := 0) (N := 6) (T := TX0) rfl (by first | assumption | rfl) rfl rfl (by decide +kernel) rfl ⟨by decide, by decide⟩ ⟨rfl, rfl⟩ (Nat.le_of_ble_eq_true rfl) (ev_advance hT2 hD2 hW) rfl (fun w17 h17 => ?_) (fun w17 h17 => ?_)
      · obtain ⟨⟨col, hc, hic, hpc, hgc, hW3⟩, f17⟩ := h17
        have f3 : ∀ c k, c ≠ 12 → c ≠ 13 → c ≠ 14 → w17 c k = w c k := fun c k z1 z2 z3 => by rw [f17 c k z1 z2]; exact hf c k z1 z2 z3
        have hcx := hc x hx
        have hit := cnt_hit hga tt_cgr (fun i h => (hc i h).2) hic hpc hgc (show tt col from trivial)
        have epf := pos_full (n := n) (a := a) (col := col) ha.1.1
        refine go_if_eqF (q := 23) (t := 42) dX0_countWith_20 rfl (by decide) (by decide) ?_
        refine go_aload_n (j := 0) (q := 24) rfl rfl dX0_countWith_23 rfl ?_
        refine go_getR (C0 := RX0) (T := TX0) (N := 6) (ci := 0) (i := 2) (q := 27) rfl igX0 (by first | assumption | rfl) (by decide) fl_X0_9 rfl dX0_countWith_24 rfl ?_
        refine go_iload_n (j := 1) (q := 28) rfl rfl dX0_countWith_27 rfl ?_
        refine go_iald (j := x) (q := 29) (by first | assumption | rfl) (wr_eq (by omega)) (by omega) dX0_countWith_28 rfl ?_
        refine go_iload_n (j := 2) (q := 30) rfl rfl dX0_countWith_29 rfl ?_
        refine go_icmp_ne2 (q := 33) (t := 36) dX0_countWith_30 (by decide) rfl (by omega) (fun c30 => ?_) (fun c30 => ?_)
        · refine go_iinc (j := 4) (q := 39) (ls2 := [_, _, _, _, _]) rfl (by decide) rfl rfl dX0_countWith_36 rfl ?_
          refine go_goto (q := 9) dX0_countWith_39 (by decide) ?_
          first
          | exact ih9 _ (by omega) (i + 1) _ _ _ a (col (a - 1) + 1) col (by omega) hW3 (by rw [epf, cnt_hit hga (eW_cgr hx) (fun i h => (hc i h).2) hic hpc hgc (show col x = v by omega)]; omega) (by rw [epf, hit, ← eii]) f3 rfl
          | exact ih9 _ (by omega) (i + 1) _ _ _ a (col (a - 1) + 1) col (by omega) hW3 (by rw [epf, cnt_miss hga (eW_cgr hx) (fun i h => (hc i h).2) hpc hgc (show ¬ col x = v by omega)]; omega) (by rw [epf, hit, ← eii]) f3 rfl
        · refine go_iinc (j := 3) (q := 36) (ls2 := [_, _, _, _, _]) rfl (by decide) rfl rfl dX0_countWith_33 rfl ?_
          refine go_iinc (j := 4) (q := 39) (ls2 := [_, _, _, _, _]) rfl (by decide) rfl rfl dX0_countWith_36 rfl ?_
          refine go_goto (q := 9) dX0_countWith_39 (by decide) ?_
          first
          | exact ih9 _ (by omega) (i + 1) _ _ _ a (col (a - 1) + 1) col (by omega) hW3 (by rw [epf, cnt_hit hga (eW_cgr hx) (fun i h => (hc i h).2) hic hpc hgc (show col x = v by omega)]; omega) (by rw [epf, hit, ← eii]) f3 rfl
          | exact ih9 _ (by omega) (i + 1) _ _ _ a (col (a - 1) + 1) col (by omega) hW3 (by rw [epf, cnt_miss hga (eW_cgr hx) (fun i h => (hc i h).2) hpc hgc (show ¬ col x = v by omega)]; omega) (by rw [epf, hit, ← eii]) f3 rfl
      · obtain ⟨h17, f17⟩ := h17
        have f3 : ∀ c k, c ≠ 12 → c ≠ 13 → c ≠ 14 → w17 c k = w c k := fun c k z1 z2 z3 => by rw [f17 c k z1 z2]; exact hf c k z1 z2 z3
        refine go_if_eqT (t := 42) dX0_countWith_20 (by decide) (by decide) ?_
        refine go_iload_n (j := 3) (q := 43) rfl rfl dX0_countWith_42 rfl ?_
        refine go_iret dX0_countWith_43 ?_
        subst hK
        first
        | exact ⟨_, rfl, by rw [cnt_gap hp h17]; exact eni, f3⟩
        | exact ⟨_, rfl, by rw [show n ^ a = posW n a jn cl cm by omega]; exact eni, hf⟩
  exact lp9 _ 0 0 0 _ 1 0 (fun _ => 0) rfl W1 (by rw [pos_0]; rfl) (by rw [pos_0]; rfl) f1 rfl
theorem ev_countAlike (hT : TB w 1 n f) (hD : DG w 10 a c g s) {x v : Nat} {xi vi : Int} (ex : xi = x) (hx : x < a) (ev : vi = v) (hv : v < a) :
    eX0_countAlike l D ck ad shA [vR 12, vI xi, vI vi] w (Pi fun r w1 => r = (cntP n a c f g s (eA x v) (n ^ a) : Int) ∧ ∀ c k, c ≠ 12 → c ≠ 13 → c ≠ 14 → w1 c k = w c k) := by
  have hn := hT.2.1
  have ha := hD.2.2.1
  have hga := lastA_lt hD
  have hpw := pow_b ⟨n, by omega⟩ ⟨a, by omega⟩
  simp only at hpw
  refine ev_of_goK (own := RX0) (ls := [some (vR 12), some (vI xi), some (vI vi), none, none]) (by decide +kernel) rfl rfl (Nat.le_of_ble_eq_true rfl) rkI ?_
  intro K hK
  refine go_aload_n (j := 0) (q := 1) rfl rfl dX0_countAlike_0 rfl ?_
  refine go_callVv (as := [_]) (As := []) (rest := []) (n := 0) (q := 4) dX0_countAlike_1 lk_X0_29 (ci := 0) (N := 6) (T := TX0) rfl (by first | assumption | rfl) rfl rfl (by decide +kernel) rfl ⟨by decide, by decide⟩ ⟨rfl, rfl⟩ (Nat.le_of_ble_eq_true rfl) (ev_start (f := f) hD hn) rfl (fun w1 h1 => ?_)
  obtain ⟨W1, f1⟩ := h1
  refine go_iconst (q := 5) dX0_countAlike_4 rfl ?_
  refine go_istore_n (j := 3) (q := 6) (ls2 := [_, _, _, _, _]) rfl (by decide) rfl rfl dX0_countAlike_5 rfl ?_
  refine go_iconst (q := 7) dX0_countAlike_6 rfl ?_
  refine go_istore (j := 4) (q := 9) (ls2 := [_, _, _, _, _]) (by decide) rfl rfl dX0_countAlike_7 rfl ?_
  have lp9 : ∀ (m9 : Nat) (i : Nat) (ni ii : Int) (w2 : Mem) (jn cm : Nat) (cl : Nat → Nat) (ei : ii = i) (hW : WS w2 n a c f g s jn cl cm) (eni : ni = (cntP n a c f g s (eA x v) (posW n a jn cl cm) : Nat)) (eii : i = cntP n a c f g s tt (posW n a jn cl cm)) (hf : ∀ c k, c ≠ 12 → c ≠ 13 → c ≠ 14 → w2 c k = w c k), m9 = 279936 - i → gX0_countAlike l D ck ad shA 9 [some (vR 12), some (vI xi), some (vI vi), some (vI ni), some (vI ii)] [] w2 K := by
    intro m9
    induction m9 using Nat.strongRecOn with
    | _ m9 ih9 =>
    intro i ni ii w2 jn cm cl ei hW eni eii hf em9
    have hp := WS_pos hW
    have hle := cnt_le (n := n) (a := a) (c := c) (f := f) (g := g) (s := s) (E := tt) (posW n a jn cl cm)
    have hT2 : TB w2 1 n f := TB_same hT (fun k => hf _ _ (by omega) (by omega) (by omega)) (fun k => hf _ _ (by omega) (by omega) (by omega))
    have hD2 : DG w2 10 a c g s := DG_same hD (fun k => hf _ _ (by omega) (by omega) (by omega)) (fun k => hf _ _ (by omega) (by omega) (by omega))
    refine go_iload (j := 4) (q := 11) rfl dX0_countAlike_9 rfl ?_
    refine go_ldc (n := 279936) (q := 13) cn_X0_32 rfl dX0_countAlike_11 rfl ?_
    refine go_icmp_ge2 (q := 16) (t := 47) dX0_countAlike_13 (by decide) rfl (by omega) (fun c13 => ?_) (fun c13 => ?_)
    · refine go_iload_n (j := 3) (q := 48) rfl rfl dX0_countAlike_47 rfl ?_
      refine go_iret dX0_countAlike_48 ?_
      subst hK
      first
      | exact ⟨_, rfl, by rw [cnt_gap hp h17]; exact eni, f3⟩
      | exact ⟨_, rfl, by rw [show n ^ a = posW n a jn cl cm by omega]; exact eni, hf⟩
    · refine go_aload_n (j := 0) (q := 17) rfl rfl dX0_countAlike_16 rfl ?_
      refine go_callVz (as := [_]) (As := []) (rest := []) (n := 0) (q := 20) dX0_countAlike_17 lk_X0_33 (ci := 0) (N := 6) (T := TX0) rfl (by first | assumption | rfl) rfl rfl (by decide +kernel) rfl ⟨by decide, by decide⟩ ⟨rfl, rfl⟩ (Nat.le_of_ble_eq_true rfl) (ev_advance hT2 hD2 hW) rfl (fun w17 h17 => ?_) (fun w17 h17 => ?_)
      · obtain ⟨⟨col, hc, hic, hpc, hgc, hW3⟩, f17⟩ := h17
        have f3 : ∀ c k, c ≠ 12 → c ≠ 13 → c ≠ 14 → w17 c k = w c k := fun c k z1 z2 z3 => by rw [f17 c k z1 z2]; exact hf c k z1 z2 z3
        have hcx := hc x hx
        have hcv := hc v hv
        have hit := cnt_hit hga tt_cgr (fun i h => (hc i h).2) hic hpc hgc (show tt col from trivial)
        have epf := pos_full (n := n) (a := a) (col := col) ha.1.1
        refine go_if_eqF (q := 23) (t := 47) dX0_countAlike_20 rfl (by decide) (by decide) ?_
        refine go_aload_n (j := 0) (q := 24) rfl rfl dX0_countAlike_23 rfl ?_
        refine go_getR (C0 := RX0) (T := TX0) (N := 6) (ci := 0) (i := 2) (q := 27) rfl igX0 (by first | assumption | rfl) (by decide) fl_X0_9 rfl dX0_countAlike_24 rfl ?_
        refine go_iload_n (j := 1) (q := 28) rfl rfl dX0_countAlike_27 rfl ?_
        refine go_iald (j := x) (q := 29) (by first | assumption | rfl) (wr_eq (by omega)) (by omega) dX0_countAlike_28 rfl ?_
        refine go_aload_n (j := 0) (q := 30) rfl rfl dX0_countAlike_29 rfl ?_
        refine go_getR (C0 := RX0) (T := TX0) (N := 6) (ci := 0) (i := 2) (q := 33) rfl igX0 (by first | assumption | rfl) (by decide) fl_X0_9 rfl dX0_countAlike_30 rfl ?_
        refine go_iload_n (j := 2) (q := 34) rfl rfl dX0_countAlike_33 rfl ?_
        refine go_iald (j := v) (q := 35) (by first | assumption | rfl) (wr_eq (by omega)) (by omega) dX0_countAlike_34 rfl ?_
        refine go_icmp_ne2 (q := 38) (t := 41) dX0_countAlike_35 (by decide) rfl (by omega) (fun c35 => ?_) (fun c35 => ?_)
        · refine go_iinc (j := 4) (q := 44) (ls2 := [_, _, _, _, _]) rfl (by decide) rfl rfl dX0_countAlike_41 rfl ?_
          refine go_goto (q := 9) dX0_countAlike_44 (by decide) ?_
          first
          | exact ih9 _ (by omega) (i + 1) _ _ _ a (col (a - 1) + 1) col (by omega) hW3 (by rw [epf, cnt_hit hga (eA_cgr hx hv) (fun i h => (hc i h).2) hic hpc hgc (show col x = col v by omega)]; omega) (by rw [epf, hit, ← eii]) f3 rfl
          | exact ih9 _ (by omega) (i + 1) _ _ _ a (col (a - 1) + 1) col (by omega) hW3 (by rw [epf, cnt_miss hga (eA_cgr hx hv) (fun i h => (hc i h).2) hpc hgc (show ¬ col x = col v by omega)]; omega) (by rw [epf, hit, ← eii]) f3 rfl
        · refine go_iinc (j := 3) (q := 41) (ls2 := [_, _, _, _, _]) rfl (by decide) rfl rfl dX0_countAlike_38 rfl ?_
          refine go_iinc (j := 4) (q := 44) (ls2 := [_, _, _, _, _]) rfl (by decide) rfl rfl dX0_countAlike_41 rfl ?_
          refine go_goto (q := 9) dX0_countAlike_44 (by decide) ?_
          first
          | exact ih9 _ (by omega) (i + 1) _ _ _ a (col (a - 1) + 1) col (by omega) hW3 (by rw [epf, cnt_hit hga (eA_cgr hx hv) (fun i h => (hc i h).2) hic hpc hgc (show col x = col v by omega)]; omega) (by rw [epf, hit, ← eii]) f3 rfl
          | exact ih9 _ (by omega) (i + 1) _ _ _ a (col (a - 1) + 1) col (by omega) hW3 (by rw [epf, cnt_miss hga (eA_cgr hx hv) (fun i h => (hc i h).2) hpc hgc (show ¬ col x = col v by omega)]; omega) (by rw [epf, hit, ← eii]) f3 rfl
      · obtain ⟨h17, f17⟩ := h17
        have f3 : ∀ c k, c ≠ 12 → c ≠ 13 → c ≠ 14 → w17 c k = w c k := fun c k z1 z2 z3 => by rw [f17 c k z1 z2]; exact hf c k z1 z2 z3
        refine go_if_eqT (t := 47) dX0_countAlike_20 (by decide) (by decide) ?_
        refine go_iload_n (j := 3) (q := 48) rfl rfl dX0_countAlike_47 rfl ?_
        refine go_iret dX0_countAlike_48 ?_
        subst hK
        first
        | exact ⟨_, rfl, by rw [cnt_gap hp h17]; exact eni, f3⟩
        | exact ⟨_, rfl, by rw [show n ^ a = posW n a jn cl cm by omega]; exact eni, hf⟩
  exact lp9 _ 0 0 0 _ 1 0 (fun _ => 0) rfl W1 (by rw [pos_0]; rfl) (by rw [pos_0]; rfl) f1 rfl
theorem ev_colourAt (hT : TB w 1 n f) (hD : DG w 10 a c g s) {x v : Nat} {xi vi : Int} (ex : xi = x) (hx : x < 279936) (ev : vi = v) (hv : v < a) :
    eX0_colourAt l D ck ad shA [vR 12, vI xi, vI vi] w (Pi fun r w1 => colA n a c f g s x v r ∧ ∀ c k, c ≠ 12 → c ≠ 13 → c ≠ 14 → w1 c k = w c k) := by
  have hn := hT.2.1
  have ha := hD.2.2.1
  have hga := lastA_lt hD
  have hpw := pow_b ⟨n, by omega⟩ ⟨a, by omega⟩
  simp only at hpw
  refine ev_of_goK (own := RX0) (ls := [some (vR 12), some (vI xi), some (vI vi), none]) (by decide +kernel) rfl rfl (Nat.le_of_ble_eq_true rfl) rkI ?_
  intro K hK
  refine go_aload_n (j := 0) (q := 1) rfl rfl dX0_colourAt_0 rfl ?_
  refine go_callVv (as := [_]) (As := []) (rest := []) (n := 0) (q := 4) dX0_colourAt_1 lk_X0_29 (ci := 0) (N := 6) (T := TX0) rfl (by first | assumption | rfl) rfl rfl (by decide +kernel) rfl ⟨by decide, by decide⟩ ⟨rfl, rfl⟩ (Nat.le_of_ble_eq_true rfl) (ev_start (f := f) hD hn) rfl (fun w1 h1 => ?_)
  obtain ⟨W1, f1⟩ := h1
  refine go_iconst (q := 5) dX0_colourAt_4 rfl ?_
  refine go_istore_n (j := 3) (q := 6) (ls2 := [_, _, _, _]) rfl (by decide) rfl rfl dX0_colourAt_5 rfl ?_
  have lp6 : ∀ (m6 : Nat) (i : Nat) (ii : Int) (w2 : Mem) (jn cm : Nat) (cl : Nat → Nat) (ei : ii = i) (hix : i ≤ x) (hW : WS w2 n a c f g s jn cl cm) (eii : i = cntP n a c f g s tt (posW n a jn cl cm)) (hf : ∀ c k, c ≠ 12 → c ≠ 13 → c ≠ 14 → w2 c k = w c k), m6 = 279936 - i → gX0_colourAt l D ck ad shA 6 [some (vR 12), some (vI xi), some (vI vi), some (vI ii)] [] w2 K := by
    intro m6
    induction m6 using Nat.strongRecOn with
    | _ m6 ih6 =>
    intro i ii w2 jn cm cl ei hix hW eii hf em6
    have hp := WS_pos hW
    have hle := cnt_le (n := n) (a := a) (c := c) (f := f) (g := g) (s := s) (E := tt) (posW n a jn cl cm)
    have hT2 : TB w2 1 n f := TB_same hT (fun k => hf _ _ (by omega) (by omega) (by omega)) (fun k => hf _ _ (by omega) (by omega) (by omega))
    have hD2 : DG w2 10 a c g s := DG_same hD (fun k => hf _ _ (by omega) (by omega) (by omega)) (fun k => hf _ _ (by omega) (by omega) (by omega))
    refine go_iload_n (j := 3) (q := 7) rfl rfl dX0_colourAt_6 rfl ?_
    refine go_ldc (n := 279936) (q := 9) cn_X0_32 rfl dX0_colourAt_7 rfl ?_
    refine go_icmp_ge2 (q := 12) (t := 37) dX0_colourAt_9 (by decide) rfl (by omega) (fun c9 => ?_) (fun c9 => ?_)
    · exact absurd c9 (by omega)
    · refine go_aload_n (j := 0) (q := 13) rfl rfl dX0_colourAt_12 rfl ?_
      refine go_callVz (as := [_]) (As := []) (rest := []) (n := 0) (q := 16) dX0_colourAt_13 lk_X0_33 (ci := 0) (N := 6) (T := TX0) rfl (by first | assumption | rfl) rfl rfl (by decide +kernel) rfl ⟨by decide, by decide⟩ ⟨rfl, rfl⟩ (Nat.le_of_ble_eq_true rfl) (ev_advance hT2 hD2 hW) rfl (fun w13 h13 => ?_) (fun w13 h13 => ?_)
      · obtain ⟨⟨col, hc, hic, hpc, hgc, hW3⟩, f17⟩ := h13
        have f3 : ∀ c k, c ≠ 12 → c ≠ 13 → c ≠ 14 → w13 c k = w c k := fun c k z1 z2 z3 => by rw [f17 c k z1 z2]; exact hf c k z1 z2 z3
        have hcv := hc v hv
        have hit := cnt_hit hga tt_cgr (fun i h => (hc i h).2) hic hpc hgc (show tt col from trivial)
        have epf := pos_full (n := n) (a := a) (col := col) ha.1.1
        refine go_if_eqF (q := 19) (t := 37) dX0_colourAt_16 rfl (by decide) (by decide) ?_
        refine go_iload_n (j := 3) (q := 20) rfl rfl dX0_colourAt_19 rfl ?_
        refine go_iload_n (j := 1) (q := 21) rfl rfl dX0_colourAt_20 rfl ?_
        refine go_icmp_ne2 (q := 24) (t := 31) dX0_colourAt_21 (by decide) rfl (by omega) (fun c21 => ?_) (fun c21 => ?_)
        · refine go_iinc (j := 3) (q := 34) (ls2 := [_, _, _, _]) rfl (by decide) rfl rfl dX0_colourAt_31 rfl ?_
          refine go_goto (q := 6) dX0_colourAt_34 (by decide) ?_
          exact ih6 _ (by omega) (i + 1) _ _ a (col (a - 1) + 1) col (by omega) (by omega) hW3 (by rw [epf, hit, ← eii]) f3 rfl
        · refine go_aload_n (j := 0) (q := 25) rfl rfl dX0_colourAt_24 rfl ?_
          refine go_getR (C0 := RX0) (T := TX0) (N := 6) (ci := 0) (i := 2) (q := 28) rfl igX0 (by first | assumption | rfl) (by decide) fl_X0_9 rfl dX0_colourAt_25 rfl ?_
          refine go_iload_n (j := 2) (q := 29) rfl rfl dX0_colourAt_28 rfl ?_
          refine go_iald (j := v) (q := 30) (by first | assumption | rfl) (wr_eq (by omega)) (by omega) dX0_colourAt_29 rfl ?_
          refine go_iret dX0_colourAt_30 ?_
          subst hK
          exact ⟨_, rfl, Or.inl ⟨col, fun i h => (hc i h).2, hic, by rw [cnt_gap hpc hgc, ← eii]; omega, hcv.1⟩, f3⟩
      · obtain ⟨h13, f17⟩ := h13
        have f3 : ∀ c k, c ≠ 12 → c ≠ 13 → c ≠ 14 → w13 c k = w c k := fun c k z1 z2 z3 => by rw [f17 c k z1 z2]; exact hf c k z1 z2 z3
        refine go_if_eqT (t := 37) dX0_colourAt_16 (by decide) (by decide) ?_
        refine go_iconst (q := 38) dX0_colourAt_37 rfl ?_
        refine go_iret dX0_colourAt_38 ?_
        subst hK
        exact ⟨_, rfl, Or.inr ⟨by rw [cnt_gap hp h13, ← eii]; exact hix, rfl⟩, f3⟩
  exact lp6 _ 0 0 _ 1 0 (fun _ => 0) rfl (by omega) W1 (by rw [pos_0]; rfl) f1 rfl
theorem ev_tally (hT : TB w 1 n f) (hD : DG w 10 a c g s) :
    eX0_tally l D ck ad shA [vR 12] w (Pi fun r w1 => r = (cntP n a c f g s tt (n ^ a) : Int) ∧ (∀ u, u ≤ 6 → w1 15 u = (cntP n a c f g s (eU a u) (n ^ a) : Int)) ∧ ∀ c k, c ≠ 12 → c ≠ 13 → c ≠ 14 → c ≠ 15 → w1 c k = w c k) := by
  have hn := hT.2.1
  have ha := hD.2.2.1
  have hga := lastA_lt hD
  have hpw := pow_b ⟨n, by omega⟩ ⟨a, by omega⟩
  simp only at hpw
  refine ev_of_goK (own := RX0) (ls := [some (vR 12), none]) (by decide +kernel) rfl rfl (Nat.le_of_ble_eq_true rfl) rkI ?_
  intro K hK
  refine go_iconst (q := 1) dX0_tally_0 rfl ?_
  refine go_istore_n (j := 1) (q := 2) (ls2 := [_, _]) rfl (by decide) rfl rfl dX0_tally_1 rfl ?_
  have lp2 : ∀ (m2 : Nat) (u : Nat) (ui : Int) (w1 : Mem) (eu : ui = u) (hu : u ≤ 7) (hz : ∀ j, j < u → w1 15 j = 0) (hf0 : ∀ c k, c ≠ 15 → w1 c k = w c k), m2 = 7 - u → gX0_tally l D ck ad shA 2 [some (vR 12), some (vI ui)] [] w1 K := by
    intro m2
    induction m2 using Nat.strongRecOn with
    | _ m2 ih2 =>
    intro u ui w1 eu hu hz hf0 em2
    refine go_iload_n (j := 1) (q := 3) rfl rfl dX0_tally_2 rfl ?_
    refine go_bipush (q := 5) rfl dX0_tally_3 rfl ?_
    refine go_icmp_gt2 (q := 8) (t := 21) dX0_tally_5 (by decide) rfl (by omega) (fun c5 => ?_) (fun c5 => ?_)
    · have hT1 : TB w1 1 n f := TB_same hT (fun k => hf0 _ _ (by omega)) (fun k => hf0 _ _ (by omega))
      have hD1 : DG w1 10 a c g s := DG_same hD (fun k => hf0 _ _ (by omega)) (fun k => hf0 _ _ (by omega))
      refine go_aload_n (j := 0) (q := 22) rfl rfl dX0_tally_21 rfl ?_
      refine go_callVv (as := [_]) (As := []) (rest := []) (n := 0) (q := 25) dX0_tally_22 lk_X0_29 (ci := 0) (N := 6) (T := TX0) rfl (by first | assumption | rfl) rfl rfl (by decide +kernel) rfl ⟨by decide, by decide⟩ ⟨rfl, rfl⟩ (Nat.le_of_ble_eq_true rfl) (ev_start (f := f) hD1 hn) rfl (fun w22 h22 => ?_)
      obtain ⟨W1, f1⟩ := h22
      refine go_iconst (q := 26) dX0_tally_25 rfl ?_
      refine go_istore_n (j := 1) (q := 27) (ls2 := [_, _]) rfl (by decide) rfl rfl dX0_tally_26 rfl ?_
      have lp27 : ∀ (m27 : Nat) (i : Nat) (ii : Int) (w2 : Mem) (jn cm : Nat) (cl : Nat → Nat) (ei : ii = i) (hW : WS w2 n a c f g s jn cl cm) (eii : i = cntP n a c f g s tt (posW n a jn cl cm)) (htl : ∀ u, u ≤ 6 → w2 15 u = (cntP n a c f g s (eU a u) (posW n a jn cl cm) : Nat)) (hf : ∀ c k, c ≠ 12 → c ≠ 13 → c ≠ 14 → c ≠ 15 → w2 c k = w c k), m27 = 279936 - i → gX0_tally l D ck ad shA 27 [some (vR 12), some (vI ii)] [] w2 K := by
        intro m27
        induction m27 using Nat.strongRecOn with
        | _ m27 ih27 =>
        intro i ii w2 jn cm cl ei hW eii htl hf em27
        have hp := WS_pos hW
        have hle := cnt_le (n := n) (a := a) (c := c) (f := f) (g := g) (s := s) (E := tt) (posW n a jn cl cm)
        have hT2 : TB w2 1 n f := TB_same hT (fun k => hf _ _ (by omega) (by omega) (by omega) (by omega)) (fun k => hf _ _ (by omega) (by omega) (by omega) (by omega))
        have hD2 : DG w2 10 a c g s := DG_same hD (fun k => hf _ _ (by omega) (by omega) (by omega) (by omega)) (fun k => hf _ _ (by omega) (by omega) (by omega) (by omega))
        refine go_iload_n (j := 1) (q := 28) rfl rfl dX0_tally_27 rfl ?_
        refine go_ldc (n := 279936) (q := 30) cn_X0_32 rfl dX0_tally_28 rfl ?_
        refine go_icmp_ge2 (q := 33) (t := 59) dX0_tally_30 (by decide) rfl (by omega) (fun c30 => ?_) (fun c30 => ?_)
        · refine go_iload_n (j := 1) (q := 60) rfl rfl dX0_tally_59 rfl ?_
          refine go_iret dX0_tally_60 ?_
          subst hK
          first
          | exact ⟨_, rfl, by rw [cnt_gap hp h34, ← eii]; exact ei, fun u hu2 => by rw [f17 _ _ (by omega) (by omega), cnt_gap hp h34]; exact htl u hu2, f3⟩
          | exact ⟨_, rfl, by rw [show n ^ a = posW n a jn cl cm by omega, ← eii]; exact ei, fun u hu2 => by rw [show n ^ a = posW n a jn cl cm by omega]; exact htl u hu2, hf⟩
        · refine go_aload_n (j := 0) (q := 34) rfl rfl dX0_tally_33 rfl ?_
          refine go_callVz (as := [_]) (As := []) (rest := []) (n := 0) (q := 37) dX0_tally_34 lk_X0_33 (ci := 0) (N := 6) (T := TX0) rfl (by first | assumption | rfl) rfl rfl (by decide +kernel) rfl ⟨by decide, by decide⟩ ⟨rfl, rfl⟩ (Nat.le_of_ble_eq_true rfl) (ev_advance hT2 hD2 hW) rfl (fun w34 h34 => ?_) (fun w34 h34 => ?_)
          · obtain ⟨⟨col, hc, hic, hpc, hgc, hW3⟩, f17⟩ := h34
            have f3 : ∀ c k, c ≠ 12 → c ≠ 13 → c ≠ 14 → c ≠ 15 → w34 c k = w c k := fun c k z1 z2 z3 z4 => by rw [f17 c k z1 z2]; exact hf c k z1 z2 z3 z4
            have hit := cnt_hit hga tt_cgr (fun i h => (hc i h).2) hic hpc hgc (show tt col from trivial)
            have epf := pos_full (n := n) (a := a) (col := col) ha.1.1
            have hD3 : DG w34 10 a c g s := DG_same hD (fun k => f3 _ _ (by omega) (by omega) (by omega) (by omega)) (fun k => f3 _ _ (by omega) (by omega) (by omega) (by omega))
            have hus := (usedN_le hn.2 (fun i h => (hc i h).2)).2
            refine go_if_eqF (q := 40) (t := 59) dX0_tally_37 rfl (by decide) (by decide) ?_
            refine go_iinc (j := 1) (q := 43) (ls2 := [_, _]) rfl (by decide) rfl rfl dX0_tally_40 rfl ?_
            refine go_aload_n (j := 0) (q := 44) rfl rfl dX0_tally_43 rfl ?_
            refine go_getR (C0 := RX0) (T := TX0) (N := 6) (ci := 0) (i := 4) (q := 47) rfl igX0 (by first | assumption | rfl) (by decide) fl_X0_18 rfl dX0_tally_44 rfl ?_
            refine go_aload_n (j := 0) (q := 48) rfl rfl dX0_tally_47 rfl ?_
            refine go_callVi (as := [_]) (As := []) (rest := [_]) (n := 0) (q := 51) dX0_tally_48 lk_X0_37 (ci := 0) (N := 6) (T := TX0) rfl (by first | assumption | rfl) rfl rfl (by decide +kernel) rfl ⟨by decide, by decide⟩ ⟨rfl, rfl⟩ (Nat.le_of_ble_eq_true rfl) (ev_coloursUsed hD3 hn.2 hc) rfl (fun x48 w48 h48 => ?_)
            obtain ⟨rfl, rfl⟩ := h48
            refine go_dup2 (q := 52) (fun _ z => by cases z) (fun _ z => by cases z) dX0_tally_51 rfl ?_
            refine go_iald (j := usedN a col) (q := 53) (by first | assumption | rfl) (wr_eq (by omega)) (by omega) dX0_tally_52 rfl ?_
            refine go_iconst (q := 54) dX0_tally_53 rfl ?_
            refine go_iadd (q := 55) dX0_tally_54 rfl ?_
            refine go_iast (j := usedN a col) (q := 56) (by first | assumption | rfl) (wr_eq (by omega)) (by omega) dX0_tally_55 rfl ?_
            refine go_goto (q := 27) dX0_tally_56 (by decide) ?_
            refine ih27 _ (by omega) (i + 1) _ _ a (col (a - 1) + 1) col (by omega) (WS_same hW3 (fun c k z => mup_ne (Or.inl z))) (by rw [epf, hit, ← eii]) (fun u hu2 => ?_) (fun c k z1 z2 z3 z4 => by rw [mup_ne (Or.inl z4)]; exact f3 c k z1 z2 z3 z4) rfl
            rw [epf]
            by_cases q : u = usedN a col
            · rw [q, mup_eq, f17 _ _ (by omega) (by omega), htl _ (by omega), cnt_hit hga eU_cgr (fun i h => (hc i h).2) hic hpc hgc (show usedN a col = usedN a col from rfl)]; omega
            · rw [mup_ne (by omega), f17 _ _ (by omega) (by omega), htl _ (by omega), cnt_miss hga eU_cgr (fun i h => (hc i h).2) hpc hgc (show ¬ usedN a col = u by omega)]
          · obtain ⟨h34, f17⟩ := h34
            have f3 : ∀ c k, c ≠ 12 → c ≠ 13 → c ≠ 14 → c ≠ 15 → w34 c k = w c k := fun c k z1 z2 z3 z4 => by rw [f17 c k z1 z2]; exact hf c k z1 z2 z3 z4
            refine go_if_eqT (t := 59) dX0_tally_37 (by decide) (by decide) ?_
            refine go_iload_n (j := 1) (q := 60) rfl rfl dX0_tally_59 rfl ?_
            refine go_iret dX0_tally_60 ?_
            subst hK
            first
            | exact ⟨_, rfl, by rw [cnt_gap hp h34, ← eii]; exact ei, fun u hu2 => by rw [f17 _ _ (by omega) (by omega), cnt_gap hp h34]; exact htl u hu2, f3⟩
            | exact ⟨_, rfl, by rw [show n ^ a = posW n a jn cl cm by omega, ← eii]; exact ei, fun u hu2 => by rw [show n ^ a = posW n a jn cl cm by omega]; exact htl u hu2, hf⟩
      exact lp27 _ 0 0 _ 1 0 (fun _ => 0) rfl W1 (by rw [pos_0]; rfl) (fun j h => by rw [pos_0, f1 _ _ (by omega) (by omega) (by omega)]; exact hz j (by omega)) (fun c k z1 z2 z3 z4 => by rw [f1 c k z1 z2 z3]; exact hf0 c k z4) rfl
    · refine go_aload_n (j := 0) (q := 9) rfl rfl dX0_tally_8 rfl ?_
      refine go_getR (C0 := RX0) (T := TX0) (N := 6) (ci := 0) (i := 4) (q := 12) rfl igX0 (by first | assumption | rfl) (by decide) fl_X0_18 rfl dX0_tally_9 rfl ?_
      refine go_iload_n (j := 1) (q := 13) rfl rfl dX0_tally_12 rfl ?_
      refine go_iconst (q := 14) dX0_tally_13 rfl ?_
      refine go_iast (j := u) (q := 15) (by first | assumption | rfl) (wr_eq (by omega)) (by omega) dX0_tally_14 rfl ?_
      refine go_iinc (j := 1) (q := 18) (ls2 := [_, _]) rfl (by decide) rfl rfl dX0_tally_15 rfl ?_
      refine go_goto (q := 2) dX0_tally_18 (by decide) ?_
      exact ih2 _ (by omega) (u + 1) _ _ (by omega) (by omega) (by
        intro j h
        by_cases q : j = u
        · subst q; rw [mup_eq]
        · rw [mup_ne (by omega)]; exact hz j (by omega)) (fun c k h => by rw [mup_ne (Or.inl h)]; exact hf0 c k h) rfl
  exact lp2 _ 0 0 _ rfl (by omega) (fun j h => absurd h (Nat.not_lt_zero j)) (fun c k h => rfl) rfl
end COL2
