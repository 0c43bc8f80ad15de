/-! both systems' cells side by side -/
def shA : List Shp := shX ++ [
  .inl (7, [some 46, some 47, none, some 48, none, some 49, none, some 50, some 51, some 52, none, none, none, none, none, none]),
  rInt 79, rInt 474, rInt 70, rInt 720, rInt 6, rInt 7, rInt 7]
theorem go_ts1 {l : Launch} {D : va_G} {ck : Nat → ClassId} {ad : Nat → Nat} {sh : List Shp} {own : String} {cc : ByteArray} {nL : Nat} {R : Room} {pc : Nat} {ls : List (Option MV)} {st : List MV} {w : Mem} {K : Post} {x dflt lo hi off : Int} {offs : Array Int} {len t : Nat} {v : Int} (hd : decode cc pc = .ok (.tableswitch dflt lo hi offs, len)) (h1 : ¬ v < lo ∧ ¬ hi < v) (ho : offs[(v - lo).toNat]? = some off) (ht : (pc : Int) + off = (t : Int))
    (kt : wr x = v → Go l D ck ad sh own cc nL R t ls st w K) (kf : ¬ wr x = v → Go l D ck ad sh own cc nL R pc ls (vI x :: st) w K) : Go l D ck ad sh own cc nL R pc ls (vI x :: st) w K := by
  by_cases q : wr x = v
  · refine go_tsIn hd (by rw [q]; exact h1.1) (by rw [q]; exact h1.2) (by rw [q]; exact ho) ht (kt q)
  · exact kf q
/-! the text -/
abbrev oTxt (e : Nat) : Shp := .inl (2, [none, some (e + 1)])
abbrev rChr (n : Nat) : Shp := .inr (.inl (2, n))
def TX (w : Mem) (e len : Nat) (ch : Nat → Nat) : Prop := w e 0 = (len : Int) ∧ len ≤ 70 ∧ ∀ i, i < len → w (e + 1) i = (ch i : Int) ∧ 33 ≤ ch i ∧ ch i ≤ 126
def okc (i x : Nat) : Prop := i < 69 ∧ ((i % 7 = 1 ∨ i % 7 = 3) → x = 44) ∧ (i % 7 = 5 → x = 43 ∨ x = 45) ∧ (i % 7 = 6 → x = 59) ∧ ((i % 7 = 0 ∨ i % 7 = 2 ∨ i % 7 = 4) → 48 ≤ x ∧ x ≤ 54)
def fErr (len : Nat) (ch : Nat → Nat) (v : Int) : Prop := (∃ i : Nat, i < len ∧ v = i ∧ ¬ okc i (ch i) ∧ ∀ j, j < i → okc j (ch j)) ∨ ((∀ j, j < len → okc j (ch j)) ∧ v = (if len % 7 = 6 then -6 else (len : Int)))
theorem nar_c : ∀ x : Fin 127, narZ .char (x : Nat) = ((x : Nat) : Int) := by decide +kernel
def gTx (ch : Nat → Nat) : Nat → Nat → Nat := fun k p => ch (7 * k + 2 * p) - 48
def sTx (ch : Nat → Nat) : Nat → Int := fun k => if ch (7 * k + 5) = 43 then 1 else -1
def mxT (g : Nat → Nat → Nat) (c : Nat) : Nat := fN (fun k m => max (max (max m (g k 0)) (g k 1)) (g k 2)) 0 c
theorem mxT_b {g : Nat → Nat → Nat} {c : Nat} (h : ∀ k p, k < c → p < 3 → g k p < 7) : mxT g c < 7 ∧ ∀ k p, k < c → p < 3 → g k p ≤ mxT g c := by
  have key : ∀ j, j ≤ c → mxT g j < 7 ∧ ∀ k p, k < j → p < 3 → g k p ≤ mxT g j := by
    intro j
    induction j with
    | zero => intro _; exact ⟨by show 0 < 7; omega, fun k p h => absurd h (Nat.not_lt_zero k)⟩
    | succ j ih =>
      intro hj
      obtain ⟨h1, h2⟩ := ih (by omega)
      have e : mxT g (j + 1) = max (max (max (mxT g j) (g j 0)) (g j 1)) (g j 2) := rfl
      have a0 := h j 0 (by omega) (by omega)
      have a1 := h j 1 (by omega) (by omega)
      have a2 := h j 2 (by omega) (by omega)
      refine ⟨by rw [e]; omega, fun k p hk hp => ?_⟩
      rw [e]
      by_cases q : k = j
      · subst q
        have : p = 0 ∨ p = 1 ∨ p = 2 := by omega
        rcases this with rfl | rfl | rfl <;> omega
      · have := h2 k p (by omega) hp; omega
  exact key c (Nat.le_refl c)
theorem DG_congr {w : Mem} {d a c : Nat} {g g2 : Nat → Nat → Nat} {s s2 : Nat → Int} (h : DG w d a c g s) (he : ∀ k, k < c → g k 0 = g2 k 0 ∧ g k 1 = g2 k 1 ∧ g k 2 = g2 k 2 ∧ s k = s2 k) : DG w d a c g2 s2 := by
  refine ⟨h.1, h.2.1, h.2.2.1, fun k hk => ?_⟩
  obtain ⟨e0, e1, e2, e3⟩ := he k hk
  rw [← e0, ← e1, ← e2, ← e3]
  exact h.2.2.2 k hk
section TXT
variable {l : Launch} {D : va_G} {ck : Nat → ClassId} {ad : Nat → Nat} {sh : List Shp} {e len : Nat} {ch : Nat → Nat} {w : Mem}
theorem ev_appendC (he1 : sh[e]? = some (oTxt e)) (he2 : sh[e + 1]? = some (rChr 70)) (hT : TX w e len ch) {x : Nat} {xi : Int} (ex : xi = x) (hx : 33 ≤ x ∧ x ≤ 126) (hl : len < 70) :
    eX2_append l D ck ad sh [vR e, vI xi] w (Pv fun w1 => TX w1 e (len + 1) (fun i => if i = len then x else ch i) ∧ ∀ c k, c ≠ e → c ≠ e + 1 → w1 c k = w c k) := by
  obtain ⟨h0, h1, h2⟩ := hT
  refine ev_of_goK (own := RX2) (ls := [some (vR e), some (vI xi)]) (by decide +kernel) rfl rfl (Nat.le_of_ble_eq_true rfl) rkV ?_
  intro K hK
  refine go_aload_n (j := 0) (q := 1) rfl rfl dX2_append_0 rfl ?_
  refine go_getR (C0 := RX2) (T := TX2) (N := 2) (ci := 2) (i := 1) (q := 4) rfl igX2 (by first | assumption | rfl) (by decide) fl_X2_15 rfl dX2_append_1 rfl ?_
  refine go_aload_n (j := 0) (q := 5) rfl rfl dX2_append_4 rfl ?_
  refine go_getI (C0 := RX2) (T := TX2) (N := 2) (ci := 2) (i := 0) (q := 8) rfl igX2 (by first | assumption | rfl) (by decide) fl_X2_11 rfl dX2_append_5 rfl ?_
  refine go_iload_n (j := 1) (q := 9) rfl rfl dX2_append_8 rfl ?_
  refine go_cast (j := len) (q := 10) (by first | assumption | rfl) (wr_eq (by omega)) (by omega) dX2_append_9 rfl ?_
  refine go_aload_n (j := 0) (q := 11) rfl rfl dX2_append_10 rfl ?_
  refine go_dup (q := 12) (fun _ z => by cases z) dX2_append_11 rfl ?_
  refine go_getI (C0 := RX2) (T := TX2) (N := 2) (ci := 2) (i := 0) (q := 15) rfl igX2 (by first | assumption | rfl) (by decide) fl_X2_11 rfl dX2_append_12 rfl ?_
  refine go_iconst (q := 16) dX2_append_15 rfl ?_
  refine go_iadd (q := 17) dX2_append_16 rfl ?_
  refine go_putI (C0 := RX2) (T := TX2) (N := 2) (ci := 2) (i := 0) (q := 20) rfl igX2 (by first | assumption | rfl) (by decide) fl_X2_11 rfl tyX2 tyX2_ok nmX2 rfl rfl dX2_append_17 rfl ?_
  refine go_vret dX2_append_20 ?_
  subst hK
  refine ⟨rfl, ⟨?_, by omega, fun i hi => ?_⟩, fun c k h h3 => ?_⟩
  · rw [mup_eq, mup_ne (by omega), h0]; omega
  · rw [mup_ne (by omega)]
    by_cases q : i = len
    · subst q; rw [mup_eq, ex, nar_c ⟨x, by omega⟩]; simp only [if_true]; exact ⟨trivial, hx⟩
    · rw [mup_ne (by omega)]; simp only [if_neg q]; exact h2 i (by omega)
  · rw [mup_ne (by omega), mup_ne (by omega)]
theorem ev_clearX (he1 : sh[e]? = some (oTxt e)) :
    eX2_clear l D ck ad sh [vR e] w (Pv fun w1 => TX w1 e 0 ch ∧ ∀ c k, c ≠ e → w1 c k = w c k) := by
  refine ev_of_goK (own := RX2) (ls := [some (vR e)]) (by decide +kernel) rfl rfl (Nat.le_of_ble_eq_true rfl) rkV ?_
  intro K hK
  refine go_aload_n (j := 0) (q := 1) rfl rfl dX2_clear_0 rfl ?_
  refine go_iconst (q := 2) dX2_clear_1 rfl ?_
  refine go_putI (C0 := RX2) (T := TX2) (N := 2) (ci := 2) (i := 0) (q := 5) rfl igX2 (by first | assumption | rfl) (by decide) fl_X2_11 rfl tyX2 tyX2_ok nmX2 rfl rfl dX2_clear_2 rfl ?_
  refine go_vret dX2_clear_5 ?_
  subst hK; exact ⟨rfl, ⟨by rw [mup_eq]; rfl, by omega, fun i h => absurd h (Nat.not_lt_zero i)⟩, fun c k h => mup_ne (Or.inl h)⟩
theorem ev_mayStandAt (he1 : sh[e]? = some (oTxt e)) (he2 : sh[e + 1]? = some (rChr 70)) (hT : TX w e len ch) {i : Nat} {ii : Int} (ei : ii = i) (hi : i < len) :
    eX2_mayStandAt l D ck ad sh [vR e, vI ii] w (Pz (fun w1 => w = w1 ∧ okc i (ch i)) (fun w1 => w = w1 ∧ ¬ okc i (ch i))) := by
  obtain ⟨h0, h1, h2⟩ := hT
  have hc := h2 i hi
  have htm : ii.tmod 7 = ((i % 7 : Nat) : Int) := by rw [ei]; exact (Int.ofNat_tmod i 7).symm
  refine ev_of_goK (own := RX2) (ls := [some (vR e), some (vI ii), none]) (by decide +kernel) rfl rfl (Nat.le_of_ble_eq_true rfl) rkZ ?_
  intro K hK
  refine go_aload_n (j := 0) (q := 1) rfl rfl dX2_mayStandAt_0 rfl ?_
  refine go_getR (C0 := RX2) (T := TX2) (N := 2) (ci := 2) (i := 1) (q := 4) rfl igX2 (by first | assumption | rfl) (by decide) fl_X2_15 rfl dX2_mayStandAt_1 rfl ?_
  refine go_iload_n (j := 1) (q := 5) rfl rfl dX2_mayStandAt_4 rfl ?_
  refine go_cald (j := i) (q := 6) (by first | assumption | rfl) (wr_eq (by omega)) (by omega) dX2_mayStandAt_5 rfl ?_
  refine go_istore_n (j := 2) (q := 7) (ls2 := [_, _, _]) rfl (by decide) rfl rfl dX2_mayStandAt_6 rfl ?_
  refine go_iload_n (j := 1) (q := 8) rfl rfl dX2_mayStandAt_7 rfl ?_
  refine go_bipush (q := 10) rfl dX2_mayStandAt_8 rfl ?_
  refine go_icmp_lt2 (q := 13) (t := 15) dX2_mayStandAt_10 (by decide) rfl (by omega) (fun c10 => ?_) (fun c10 => ?_)
  · refine go_iload_n (j := 1) (q := 16) rfl rfl dX2_mayStandAt_15 rfl ?_
    refine go_bipush (q := 18) rfl dX2_mayStandAt_16 rfl ?_
    refine go_irem2 (q := 19) (by omega) (by omega) dX2_mayStandAt_18 rfl ?_
    refine go_ts1 (v := 1) (off := 37) (t := 56) dX2_mayStandAt_19 (by decide) rfl (by decide) (fun e19 => ?_) (fun n19_1 => ?_)
    · rw [wr_of (by omega) (by omega)] at e19
      refine go_iload_n (j := 2) (q := 57) rfl rfl dX2_mayStandAt_56 rfl ?_
      refine go_bipush (q := 59) rfl dX2_mayStandAt_57 rfl ?_
      refine go_icmp_ne2 (q := 62) (t := 66) dX2_mayStandAt_59 (by decide) rfl (by omega) (fun c59 => ?_) (fun c59 => ?_)
      · refine go_iconst (q := 67) dX2_mayStandAt_66 rfl ?_
        refine go_iret dX2_mayStandAt_67 ?_
        subst hK; first | exact Or.inl ⟨rfl, rfl, by unfold okc; omega⟩ | exact Or.inr ⟨rfl, rfl, by unfold okc; omega⟩
      · refine go_iconst (q := 63) dX2_mayStandAt_62 rfl ?_
        refine go_goto (q := 67) dX2_mayStandAt_63 (by decide) ?_
        refine go_iret dX2_mayStandAt_67 ?_
        subst hK; first | exact Or.inl ⟨rfl, rfl, by unfold okc; omega⟩ | exact Or.inr ⟨rfl, rfl, by unfold okc; omega⟩
    refine go_ts1 (v := 2) (off := 79) (t := 98) dX2_mayStandAt_19 (by decide) rfl (by decide) (fun e19 => ?_) (fun n19_2 => ?_)
    · rw [wr_of (by omega) (by omega)] at e19
      refine go_iload_n (j := 2) (q := 99) rfl rfl dX2_mayStandAt_98 rfl ?_
      refine go_bipush (q := 101) rfl dX2_mayStandAt_99 rfl ?_
      refine go_icmp_lt2 (q := 104) (t := 114) dX2_mayStandAt_101 (by decide) rfl (by omega) (fun c101 => ?_) (fun c101 => ?_)
      · refine go_iconst (q := 115) dX2_mayStandAt_114 rfl ?_
        refine go_iret dX2_mayStandAt_115 ?_
        subst hK; first | exact Or.inl ⟨rfl, rfl, by unfold okc; omega⟩ | exact Or.inr ⟨rfl, rfl, by unfold okc; omega⟩
      · refine go_iload_n (j := 2) (q := 105) rfl rfl dX2_mayStandAt_104 rfl ?_
        refine go_bipush (q := 107) rfl dX2_mayStandAt_105 rfl ?_
        refine go_icmp_ge2 (q := 110) (t := 114) dX2_mayStandAt_107 (by decide) rfl (by omega) (fun c107 => ?_) (fun c107 => ?_)
        · refine go_iconst (q := 115) dX2_mayStandAt_114 rfl ?_
          refine go_iret dX2_mayStandAt_115 ?_
          subst hK; first | exact Or.inl ⟨rfl, rfl, by unfold okc; omega⟩ | exact Or.inr ⟨rfl, rfl, by unfold okc; omega⟩
        · refine go_iconst (q := 111) dX2_mayStandAt_110 rfl ?_
          refine go_goto (q := 115) dX2_mayStandAt_111 (by decide) ?_
          refine go_iret dX2_mayStandAt_115 ?_
          subst hK; first | exact Or.inl ⟨rfl, rfl, by unfold okc; omega⟩ | exact Or.inr ⟨rfl, rfl, by unfold okc; omega⟩
    refine go_ts1 (v := 3) (off := 37) (t := 56) dX2_mayStandAt_19 (by decide) rfl (by decide) (fun e19 => ?_) (fun n19_3 => ?_)
    · rw [wr_of (by omega) (by omega)] at e19
      refine go_iload_n (j := 2) (q := 57) rfl rfl dX2_mayStandAt_56 rfl ?_
      refine go_bipush (q := 59) rfl dX2_mayStandAt_57 rfl ?_
      refine go_icmp_ne2 (q := 62) (t := 66) dX2_mayStandAt_59 (by decide) rfl (by omega) (fun c59 => ?_) (fun c59 => ?_)
      · refine go_iconst (q := 67) dX2_mayStandAt_66 rfl ?_
        refine go_iret dX2_mayStandAt_67 ?_
        subst hK; first | exact Or.inl ⟨rfl, rfl, by unfold okc; omega⟩ | exact Or.inr ⟨rfl, rfl, by unfold okc; omega⟩
      · refine go_iconst (q := 63) dX2_mayStandAt_62 rfl ?_
        refine go_goto (q := 67) dX2_mayStandAt_63 (by decide) ?_
        refine go_iret dX2_mayStandAt_67 ?_
        subst hK; first | exact Or.inl ⟨rfl, rfl, by unfold okc; omega⟩ | exact Or.inr ⟨rfl, rfl, by unfold okc; omega⟩
    refine go_ts1 (v := 4) (off := 79) (t := 98) dX2_mayStandAt_19 (by decide) rfl (by decide) (fun e19 => ?_) (fun n19_4 => ?_)
    · rw [wr_of (by omega) (by omega)] at e19
      refine go_iload_n (j := 2) (q := 99) rfl rfl dX2_mayStandAt_98 rfl ?_
      refine go_bipush (q := 101) rfl dX2_mayStandAt_99 rfl ?_
      refine go_icmp_lt2 (q := 104) (t := 114) dX2_mayStandAt_101 (by decide) rfl (by omega) (fun c101 => ?_) (fun c101 => ?_)
      · refine go_iconst (q := 115) dX2_mayStandAt_114 rfl ?_
        refine go_iret dX2_mayStandAt_115 ?_
        subst hK; first | exact Or.inl ⟨rfl, rfl, by unfold okc; omega⟩ | exact Or.inr ⟨rfl, rfl, by unfold okc; omega⟩
      · refine go_iload_n (j := 2) (q := 105) rfl rfl dX2_mayStandAt_104 rfl ?_
        refine go_bipush (q := 107) rfl dX2_mayStandAt_105 rfl ?_
        refine go_icmp_ge2 (q := 110) (t := 114) dX2_mayStandAt_107 (by decide) rfl (by omega) (fun c107 => ?_) (fun c107 => ?_)
        · refine go_iconst (q := 115) dX2_mayStandAt_114 rfl ?_
          refine go_iret dX2_mayStandAt_115 ?_
          subst hK; first | exact Or.inl ⟨rfl, rfl, by unfold okc; omega⟩ | exact Or.inr ⟨rfl, rfl, by unfold okc; omega⟩
        · refine go_iconst (q := 111) dX2_mayStandAt_110 rfl ?_
          refine go_goto (q := 115) dX2_mayStandAt_111 (by decide) ?_
          refine go_iret dX2_mayStandAt_115 ?_
          subst hK; first | exact Or.inl ⟨rfl, rfl, by unfold okc; omega⟩ | exact Or.inr ⟨rfl, rfl, by unfold okc; omega⟩
    refine go_ts1 (v := 5) (off := 49) (t := 68) dX2_mayStandAt_19 (by decide) rfl (by decide) (fun e19 => ?_) (fun n19_5 => ?_)
    · rw [wr_of (by omega) (by omega)] at e19
      refine go_iload_n (j := 2) (q := 69) rfl rfl dX2_mayStandAt_68 rfl ?_
      refine go_bipush (q := 71) rfl dX2_mayStandAt_69 rfl ?_
      refine go_icmp_eq2 (q := 74) (t := 80) dX2_mayStandAt_71 (by decide) rfl (by omega) (fun c71 => ?_) (fun c71 => ?_)
      · refine go_iconst (q := 81) dX2_mayStandAt_80 rfl ?_
        refine go_goto (q := 85) dX2_mayStandAt_81 (by decide) ?_
        refine go_iret dX2_mayStandAt_85 ?_
        subst hK; first | exact Or.inl ⟨rfl, rfl, by unfold okc; omega⟩ | exact Or.inr ⟨rfl, rfl, by unfold okc; omega⟩
      · refine go_iload_n (j := 2) (q := 75) rfl rfl dX2_mayStandAt_74 rfl ?_
        refine go_bipush (q := 77) rfl dX2_mayStandAt_75 rfl ?_
        refine go_icmp_ne2 (q := 80) (t := 84) dX2_mayStandAt_77 (by decide) rfl (by omega) (fun c77 => ?_) (fun c77 => ?_)
        · refine go_iconst (q := 85) dX2_mayStandAt_84 rfl ?_
          refine go_iret dX2_mayStandAt_85 ?_
          subst hK; first | exact Or.inl ⟨rfl, rfl, by unfold okc; omega⟩ | exact Or.inr ⟨rfl, rfl, by unfold okc; omega⟩
        · refine go_iconst (q := 81) dX2_mayStandAt_80 rfl ?_
          refine go_goto (q := 85) dX2_mayStandAt_81 (by decide) ?_
          refine go_iret dX2_mayStandAt_85 ?_
          subst hK; first | exact Or.inl ⟨rfl, rfl, by unfold okc; omega⟩ | exact Or.inr ⟨rfl, rfl, by unfold okc; omega⟩
    refine go_ts1 (v := 6) (off := 67) (t := 86) dX2_mayStandAt_19 (by decide) rfl (by decide) (fun e19 => ?_) (fun n19_6 => ?_)
    · rw [wr_of (by omega) (by omega)] at e19
      refine go_iload_n (j := 2) (q := 87) rfl rfl dX2_mayStandAt_86 rfl ?_
      refine go_bipush (q := 89) rfl dX2_mayStandAt_87 rfl ?_
      refine go_icmp_ne2 (q := 92) (t := 96) dX2_mayStandAt_89 (by decide) rfl (by omega) (fun c89 => ?_) (fun c89 => ?_)
      · refine go_iconst (q := 97) dX2_mayStandAt_96 rfl ?_
        refine go_iret dX2_mayStandAt_97 ?_
        subst hK; first | exact Or.inl ⟨rfl, rfl, by unfold okc; omega⟩ | exact Or.inr ⟨rfl, rfl, by unfold okc; omega⟩
      · refine go_iconst (q := 93) dX2_mayStandAt_92 rfl ?_
        refine go_goto (q := 97) dX2_mayStandAt_93 (by decide) ?_
        refine go_iret dX2_mayStandAt_97 ?_
        subst hK; first | exact Or.inl ⟨rfl, rfl, by unfold okc; omega⟩ | exact Or.inr ⟨rfl, rfl, by unfold okc; omega⟩
    rw [wr_of (by omega) (by omega)] at n19_1 n19_2 n19_3 n19_4 n19_5 n19_6
    refine go_tsOut (t := 98) dX2_mayStandAt_19 (by rw [wr_of (by omega) (by omega)]; omega) (by decide) ?_
    refine go_iload_n (j := 2) (q := 99) rfl rfl dX2_mayStandAt_98 rfl ?_
    refine go_bipush (q := 101) rfl dX2_mayStandAt_99 rfl ?_
    refine go_icmp_lt2 (q := 104) (t := 114) dX2_mayStandAt_101 (by decide) rfl (by omega) (fun c101 => ?_) (fun c101 => ?_)
    · refine go_iconst (q := 115) dX2_mayStandAt_114 rfl ?_
      refine go_iret dX2_mayStandAt_115 ?_
      subst hK; first | exact Or.inl ⟨rfl, rfl, by unfold okc; omega⟩ | exact Or.inr ⟨rfl, rfl, by unfold okc; omega⟩
    · refine go_iload_n (j := 2) (q := 105) rfl rfl dX2_mayStandAt_104 rfl ?_
      refine go_bipush (q := 107) rfl dX2_mayStandAt_105 rfl ?_
      refine go_icmp_ge2 (q := 110) (t := 114) dX2_mayStandAt_107 (by decide) rfl (by omega) (fun c107 => ?_) (fun c107 => ?_)
      · refine go_iconst (q := 115) dX2_mayStandAt_114 rfl ?_
        refine go_iret dX2_mayStandAt_115 ?_
        subst hK; first | exact Or.inl ⟨rfl, rfl, by unfold okc; omega⟩ | exact Or.inr ⟨rfl, rfl, by unfold okc; omega⟩
      · refine go_iconst (q := 111) dX2_mayStandAt_110 rfl ?_
        refine go_goto (q := 115) dX2_mayStandAt_111 (by decide) ?_
        refine go_iret dX2_mayStandAt_115 ?_
        subst hK; first | exact Or.inl ⟨rfl, rfl, by unfold okc; omega⟩ | exact Or.inr ⟨rfl, rfl, by unfold okc; omega⟩
  · refine go_iconst (q := 14) dX2_mayStandAt_13 rfl ?_
    refine go_iret dX2_mayStandAt_14 ?_
    subst hK; first | exact Or.inl ⟨rfl, rfl, by unfold okc; omega⟩ | exact Or.inr ⟨rfl, rfl, by unfold okc; omega⟩
theorem ev_firstError (he1 : sh[e]? = some (oTxt e)) (he2 : sh[e + 1]? = some (rChr 70)) (hT : TX w e len ch) :
    eX2_firstError l D ck ad sh [vR e] w (Pi fun v w1 => fErr len ch v ∧ w = w1) := by
  have hT0 := hT
  obtain ⟨h0, h1, h2⟩ := hT
  have htm : (w e 0).tmod 7 = ((len % 7 : Nat) : Int) := by rw [h0]; exact (Int.ofNat_tmod len 7).symm
  refine ev_of_goK (own := RX2) (ls := [some (vR e), none]) (by decide +kernel) rfl rfl (Nat.le_of_ble_eq_true rfl) rkI ?_
  intro K hK
  refine go_iconst (q := 1) dX2_firstError_0 rfl ?_
  refine go_istore_n (j := 1) (q := 2) (ls2 := [_, _]) rfl (by decide) rfl rfl dX2_firstError_1 rfl ?_
  have lp2 : ∀ (m2 : Nat) (i : Nat) (ii : Int) (ei : ii = i) (hi : i ≤ len) (hg : ∀ j, j < i → okc j (ch j)), m2 = len - i → gX2_firstError l D ck ad sh 2 [some (vR e), some (vI ii)] [] w K := by
    intro m2
    induction m2 using Nat.strongRecOn with
    | _ m2 ih2 =>
    intro i ii ei hi hg em2
    refine go_iload_n (j := 1) (q := 3) rfl rfl dX2_firstError_2 rfl ?_
    refine go_aload_n (j := 0) (q := 4) rfl rfl dX2_firstError_3 rfl ?_
    refine go_getI (C0 := RX2) (T := TX2) (N := 2) (ci := 2) (i := 0) (q := 7) rfl igX2 (by first | assumption | rfl) (by decide) fl_X2_11 rfl dX2_firstError_4 rfl ?_
    refine go_icmp_ge2 (q := 10) (t := 26) dX2_firstError_7 (by decide) rfl (by omega) (fun c7 => ?_) (fun c7 => ?_)
    · refine go_aload_n (j := 0) (q := 27) rfl rfl dX2_firstError_26 rfl ?_
      refine go_getI (C0 := RX2) (T := TX2) (N := 2) (ci := 2) (i := 0) (q := 30) rfl igX2 (by first | assumption | rfl) (by decide) fl_X2_11 rfl dX2_firstError_27 rfl ?_
      refine go_bipush (q := 32) rfl dX2_firstError_30 rfl ?_
      refine go_irem2 (q := 33) (by omega) (by omega) dX2_firstError_32 rfl ?_
      refine go_bipush (q := 35) rfl dX2_firstError_33 rfl ?_
      refine go_icmp_ne2 (q := 38) (t := 43) dX2_firstError_35 (by decide) rfl (by omega) (fun c35 => ?_) (fun c35 => ?_)
      · refine go_aload_n (j := 0) (q := 44) rfl rfl dX2_firstError_43 rfl ?_
        refine go_getI (C0 := RX2) (T := TX2) (N := 2) (ci := 2) (i := 0) (q := 47) rfl igX2 (by first | assumption | rfl) (by decide) fl_X2_11 rfl dX2_firstError_44 rfl ?_
        refine go_iret dX2_firstError_47 ?_
        subst hK; first | exact ⟨_, rfl, Or.inr ⟨fun j h => hg j (by omega), by rw [if_pos (by omega)]⟩, rfl⟩ | exact ⟨_, rfl, Or.inr ⟨fun j h => hg j (by omega), by rw [if_neg (by omega)]; exact h0⟩, rfl⟩
      · refine go_bipush (q := 40) rfl dX2_firstError_38 rfl ?_
        refine go_goto (q := 47) dX2_firstError_40 (by decide) ?_
        refine go_iret dX2_firstError_47 ?_
        subst hK; first | exact ⟨_, rfl, Or.inr ⟨fun j h => hg j (by omega), by rw [if_pos (by omega)]⟩, rfl⟩ | exact ⟨_, rfl, Or.inr ⟨fun j h => hg j (by omega), by rw [if_neg (by omega)]; exact h0⟩, rfl⟩
    · refine go_aload_n (j := 0) (q := 11) rfl rfl dX2_firstError_10 rfl ?_
      refine go_iload_n (j := 1) (q := 12) rfl rfl dX2_firstError_11 rfl ?_
      refine go_callVz (as := [_, _]) (As := [_]) (rest := []) (n := 1) (q := 15) dX2_firstError_12 lk_X2_19 (ci := 2) (N := 2) (T := TX2) rfl (by first | assumption | rfl) rfl rfl (by decide +kernel) rfl ⟨by decide, by decide⟩ ⟨rfl, rfl⟩ (Nat.le_of_ble_eq_true rfl) (ev_mayStandAt he1 he2 hT0 ei (by omega)) rfl (fun w12 h12 => ?_) (fun w12 h12 => ?_)
      · obtain ⟨rfl, h12⟩ := h12
        refine go_if_neT (t := 20) dX2_firstError_15 (by decide) (by decide) ?_
        refine go_iinc (j := 1) (q := 23) (ls2 := [_, _]) rfl (by decide) rfl rfl dX2_firstError_20 rfl ?_
        refine go_goto (q := 2) dX2_firstError_23 (by decide) ?_
        exact ih2 _ (by omega) (i + 1) _ (by omega) (by omega) (fun j h => all_lt (P := fun j => okc j (ch j)) hg h12 h) rfl
      · obtain ⟨rfl, h12⟩ := h12
        refine go_if_neF (q := 18) (t := 20) dX2_firstError_15 rfl (by decide) (by decide) ?_
        refine go_iload_n (j := 1) (q := 19) rfl rfl dX2_firstError_18 rfl ?_
        refine go_iret dX2_firstError_19 ?_
        subst hK; exact ⟨_, rfl, Or.inl ⟨i, by omega, ei, h12, hg⟩, rfl⟩
  exact lp2 _ 0 0 rfl (by omega) (fun j h => absurd h (Nat.not_lt_zero j)) rfl
theorem ev_arcAt (he1 : sh[e]? = some (oTxt e)) (he2 : sh[e + 1]? = some (rChr 70)) (hT : TX w e len ch) {i : Nat} {ii : Int} (ei : ii = i) (hi : i < len) (ho : 48 ≤ ch i) :
    eX2_arcAt l D ck ad sh [vR e, vI ii] w (Pi fun v w1 => v = ((ch i - 48 : Nat) : Int) ∧ w = w1) := by
  obtain ⟨h0, h1, h2⟩ := hT
  have hc := h2 i hi
  refine ev_of_goK (own := RX2) (ls := [some (vR e), some (vI ii)]) (by decide +kernel) rfl rfl (Nat.le_of_ble_eq_true rfl) rkI ?_
  intro K hK
  refine go_aload_n (j := 0) (q := 1) rfl rfl dX2_arcAt_0 rfl ?_
  refine go_getR (C0 := RX2) (T := TX2) (N := 2) (ci := 2) (i := 1) (q := 4) rfl igX2 (by first | assumption | rfl) (by decide) fl_X2_15 rfl dX2_arcAt_1 rfl ?_
  refine go_iload_n (j := 1) (q := 5) rfl rfl dX2_arcAt_4 rfl ?_
  refine go_cald (j := i) (q := 6) (by first | assumption | rfl) (wr_eq (by omega)) (by omega) dX2_arcAt_5 rfl ?_
  refine go_bipush (q := 8) rfl dX2_arcAt_6 rfl ?_
  refine go_isub (q := 9) dX2_arcAt_8 rfl ?_
  refine go_iret dX2_arcAt_9 ?_
  subst hK; exact ⟨_, rfl, by omega, rfl⟩
theorem ev_drawInto {d : Nat} (he1 : sh[e]? = some (oTxt e)) (he2 : sh[e + 1]? = some (rChr 70)) (hd1 : sh[d]? = some (oDia d)) (hd2 : sh[d + 1]? = some (rInt 40)) (hne : d ≠ e ∧ d ≠ e + 1 ∧ d + 1 ≠ e) (hT : TX w e len ch) (hok : ∀ j, j < len → okc j (ch j)) (h6 : len % 7 = 6) :
    eX2_drawInto l D ck ad sh [vR e, vR d] w (Pv fun w1 => DG w1 d (mxT (gTx ch) ((len + 1) / 7) + 1) ((len + 1) / 7) (gTx ch) (sTx ch) ∧ ∀ c k, c ≠ d → c ≠ d + 1 → w1 c k = w c k) := by
  have hT0 := hT
  obtain ⟨h0, h1, h2⟩ := hT
  obtain ⟨c, hc⟩ : ∃ c, c = (len + 1) / 7 := ⟨_, rfl⟩
  have hlen : len = 7 * c - 1 ∧ 1 ≤ c ∧ c ≤ 10 := by omega
  rw [← hc]
  have hg : ∀ k p, k < c → p < 3 → 7 * k + 2 * p < len ∧ 48 ≤ ch (7 * k + 2 * p) ∧ gTx ch k p < 7 := by
    intro k p hk hp
    have h3 : 7 * k + 2 * p < len := by omega
    have h4 := (hok _ h3).2.2.2.2 (by rcases (show p = 0 ∨ p = 1 ∨ p = 2 by omega) with rfl | rfl | rfl <;> omega)
    exact ⟨h3, h4.1, by unfold gTx; omega⟩
  have hmx := mxT_b (g := gTx ch) (c := c) (fun k p hk hp => (hg k p hk hp).2.2)
  have mlt : ∀ k, k ≤ c → mxT (gTx ch) k < 7 := fun k hk => (mxT_b (g := gTx ch) (c := k) (fun k2 p hk2 hp => (hg k2 p (by omega) hp).2.2)).1
  refine ev_of_goK (own := RX2) (ls := [some (vR e), some (vR d), none, none, none]) (by decide +kernel) rfl rfl (Nat.le_of_ble_eq_true rfl) rkV ?_
  intro K hK
  refine go_iconst (q := 1) dX2_drawInto_0 rfl ?_
  refine go_istore_n (j := 2) (q := 2) (ls2 := [_, _, _, _, _]) rfl (by decide) rfl rfl dX2_drawInto_1 rfl ?_
  refine go_iconst (q := 3) dX2_drawInto_2 rfl ?_
  refine go_istore_n (j := 3) (q := 4) (ls2 := [_, _, _, _, _]) rfl (by decide) rfl rfl dX2_drawInto_3 rfl ?_
  have lp4 : ∀ (m4 : Nat) (k : Nat) (ii mi : Int) (u : Option MV) (ei : ii = ((7 * k : Nat) : Int)) (hk : k ≤ c) (em : mi = (mxT (gTx ch) k : Nat)), m4 = c - k → gX2_drawInto l D ck ad sh 4 [some (vR e), some (vR d), some (vI mi), some (vI ii), u] [] w K := by
    intro m4
    induction m4 using Nat.strongRecOn with
    | _ m4 ih4 =>
    intro k ii mi u ei hk em em4
    refine go_iload_n (j := 3) (q := 5) rfl rfl dX2_drawInto_4 rfl ?_
    refine go_aload_n (j := 0) (q := 6) rfl rfl dX2_drawInto_5 rfl ?_
    refine go_getI (C0 := RX2) (T := TX2) (N := 2) (ci := 2) (i := 0) (q := 9) rfl igX2 (by first | assumption | rfl) (by decide) fl_X2_11 rfl dX2_drawInto_6 rfl ?_
    refine go_icmp_ge2 (q := 12) (t := 52) dX2_drawInto_9 (by decide) rfl (by omega) (fun c9 => ?_) (fun c9 => ?_)
    · have ekc : k = c := by omega
      refine go_aload_n (j := 1) (q := 53) rfl rfl dX2_drawInto_52 rfl ?_
      refine go_iload_n (j := 2) (q := 54) rfl rfl dX2_drawInto_53 rfl ?_
      refine go_iconst (q := 55) dX2_drawInto_54 rfl ?_
      refine go_iadd (q := 56) dX2_drawInto_55 rfl ?_
      refine go_callVv (as := [_, _]) (As := [_]) (rest := []) (n := 1) (q := 59) dX2_drawInto_56 lk_X2_33 (ci := 1) (N := 3) (T := TX1) rfl (by first | assumption | rfl) rfl rfl (by decide +kernel) rfl ⟨by decide, by decide⟩ ⟨rfl, rfl⟩ (Nat.le_of_ble_eq_true rfl) (ev_clearD (g := gTx ch) (s := sTx ch) hd1 (x := mxT (gTx ch) c + 1) (by rw [em, ekc]; rfl) ⟨by omega, by have := hmx.1; omega⟩) rfl (fun w56 h56 => ?_)
      obtain ⟨h56, f56⟩ := h56
      refine go_iconst (q := 60) dX2_drawInto_59 rfl ?_
      refine go_istore_n (j := 3) (q := 61) (ls2 := [_, _, _, _, _]) rfl (by decide) rfl rfl dX2_drawInto_60 rfl ?_
      have lp61 : ∀ (m61 : Nat) (q : Nat) (i2 : Int) (u2 : Option MV) (w1 : Mem) (e2 : i2 = ((7 * q : Nat) : Int)) (hq : q ≤ c) (hD : DG w1 d (mxT (gTx ch) c + 1) q (gTx ch) (sTx ch)) (hf : ∀ c k, c ≠ d → c ≠ d + 1 → w1 c k = w c k), m61 = c - q → gX2_drawInto l D ck ad sh 61 [some (vR e), some (vR d), some (vI mi), some (vI i2), u2] [] w1 K := by
        intro m61
        induction m61 using Nat.strongRecOn with
        | _ m61 ih61 =>
        intro q i2 u2 w1 e2 hq hD hf em61
        have hT1 : TX w1 e len ch := ⟨by rw [hf _ _ (by omega) (by omega)]; exact h0, h1, fun i hi => by rw [hf _ _ (by omega) (by omega)]; exact h2 i hi⟩
        have q0 := hT1.1
        refine go_iload_n (j := 3) (q := 62) rfl rfl dX2_drawInto_61 rfl ?_
        refine go_aload_n (j := 0) (q := 63) rfl rfl dX2_drawInto_62 rfl ?_
        refine go_getI (C0 := RX2) (T := TX2) (N := 2) (ci := 2) (i := 0) (q := 66) rfl igX2 (by first | assumption | rfl) (by decide) fl_X2_11 rfl dX2_drawInto_63 rfl ?_
        refine go_icmp_ge2 (q := 69) (t := 120) dX2_drawInto_66 (by decide) rfl (by omega) (fun c66 => ?_) (fun c66 => ?_)
        · refine go_vret dX2_drawInto_120 ?_
          subst hK
          rw [show q = c by omega] at hD
          exact ⟨rfl, hD, hf⟩
        · have k0 := hg q 0 (by omega) (by omega)
          have k1 := hg q 1 (by omega) (by omega)
          have k2 := hg q 2 (by omega) (by omega)
          have k5 := hok (7 * q + 5) (by omega)
          have c5 := hT1.2.2 (7 * q + 5) (by omega)
          have k6 := k5.2.2.1 (by omega)
          have m0 := hmx.2 q 0 (by omega) (by omega)
          have m1 := hmx.2 q 1 (by omega) (by omega)
          have m2 := hmx.2 q 2 (by omega) (by omega)
          refine go_aload_n (j := 0) (q := 70) rfl rfl dX2_drawInto_69 rfl ?_
          refine go_getR (C0 := RX2) (T := TX2) (N := 2) (ci := 2) (i := 1) (q := 73) rfl igX2 (by first | assumption | rfl) (by decide) fl_X2_15 rfl dX2_drawInto_70 rfl ?_
          refine go_iload_n (j := 3) (q := 74) rfl rfl dX2_drawInto_73 rfl ?_
          refine go_iconst (q := 75) dX2_drawInto_74 rfl ?_
          refine go_iadd (q := 76) dX2_drawInto_75 rfl ?_
          refine go_cald (j := 7 * q + 5) (q := 77) (by first | assumption | rfl) (wr_eq (by omega)) (by omega) dX2_drawInto_76 rfl ?_
          refine go_bipush (q := 79) rfl dX2_drawInto_77 rfl ?_
          refine go_icmp_ne2 (q := 82) (t := 86) dX2_drawInto_79 (by decide) rfl (by omega) (fun c79 => ?_) (fun c79 => ?_)
          · refine go_iconst (q := 87) dX2_drawInto_86 rfl ?_
            refine go_istore (j := 4) (q := 89) (ls2 := [_, _, _, _, _]) (by decide) rfl rfl dX2_drawInto_87 rfl ?_
            refine go_aload_n (j := 1) (q := 90) rfl rfl dX2_drawInto_89 rfl ?_
            refine go_aload_n (j := 0) (q := 91) rfl rfl dX2_drawInto_90 rfl ?_
            refine go_iload_n (j := 3) (q := 92) rfl rfl dX2_drawInto_91 rfl ?_
            refine go_callVi (as := [_, _]) (As := [_]) (rest := [_]) (n := 1) (q := 95) dX2_drawInto_92 lk_X2_23 (ci := 2) (N := 2) (T := TX2) rfl (by first | assumption | rfl) rfl rfl (by decide +kernel) rfl ⟨by decide, by decide⟩ ⟨rfl, rfl⟩ (Nat.le_of_ble_eq_true rfl) (ev_arcAt he1 he2 hT1 (i := 7 * q + 2 * 0) (by omega) k0.1 k0.2.1) rfl (fun x92 w92 h92 => ?_)
            obtain ⟨rfl, rfl⟩ := h92
            refine go_aload_n (j := 0) (q := 96) rfl rfl dX2_drawInto_95 rfl ?_
            refine go_iload_n (j := 3) (q := 97) rfl rfl dX2_drawInto_96 rfl ?_
            refine go_iconst (q := 98) dX2_drawInto_97 rfl ?_
            refine go_iadd (q := 99) dX2_drawInto_98 rfl ?_
            refine go_callVi (as := [_, _]) (As := [_]) (rest := [_, _]) (n := 1) (q := 102) dX2_drawInto_99 lk_X2_23 (ci := 2) (N := 2) (T := TX2) rfl (by first | assumption | rfl) rfl rfl (by decide +kernel) rfl ⟨by decide, by decide⟩ ⟨rfl, rfl⟩ (Nat.le_of_ble_eq_true rfl) (ev_arcAt he1 he2 hT1 (i := 7 * q + 2 * 1) (by omega) k1.1 k1.2.1) rfl (fun x99 w99 h99 => ?_)
            obtain ⟨rfl, rfl⟩ := h99
            refine go_aload_n (j := 0) (q := 103) rfl rfl dX2_drawInto_102 rfl ?_
            refine go_iload_n (j := 3) (q := 104) rfl rfl dX2_drawInto_103 rfl ?_
            refine go_iconst (q := 105) dX2_drawInto_104 rfl ?_
            refine go_iadd (q := 106) dX2_drawInto_105 rfl ?_
            refine go_callVi (as := [_, _]) (As := [_]) (rest := [_, _, _]) (n := 1) (q := 109) dX2_drawInto_106 lk_X2_23 (ci := 2) (N := 2) (T := TX2) rfl (by first | assumption | rfl) rfl rfl (by decide +kernel) rfl ⟨by decide, by decide⟩ ⟨rfl, rfl⟩ (Nat.le_of_ble_eq_true rfl) (ev_arcAt he1 he2 hT1 (i := 7 * q + 2 * 2) (by omega) k2.1 k2.2.1) rfl (fun x106 w106 h106 => ?_)
            obtain ⟨rfl, rfl⟩ := h106
            refine go_iload (j := 4) (q := 111) rfl dX2_drawInto_109 rfl ?_
            refine go_callVv (as := [_, _, _, _, _]) (As := [_, _, _, _]) (rest := []) (n := 4) (q := 114) dX2_drawInto_111 lk_X2_39 (ci := 1) (N := 3) (T := TX1) rfl (by first | assumption | rfl) rfl rfl (by decide +kernel) rfl ⟨by decide, by decide⟩ ⟨rfl, rfl⟩ (Nat.le_of_ble_eq_true rfl) (ev_appendD hd1 hd2 hD (o := gTx ch q 0) (i := gTx ch q 1) (u := gTx ch q 2) rfl rfl rfl ⟨by omega, by omega, by omega⟩ (by omega) (by omega)) rfl (fun w111 h111 => ?_)
            obtain ⟨h111, f111⟩ := h111
            refine go_iinc (j := 3) (q := 117) (ls2 := [_, _, _, _, _]) rfl (by decide) rfl rfl dX2_drawInto_114 rfl ?_
            refine go_goto (q := 61) dX2_drawInto_117 (by decide) ?_
            refine ih61 _ (by omega) (q + 1) _ _ _ (by omega) (by omega) ?_ (fun c k z1 z2 => by rw [f111 c k z1 z2]; exact hf c k z1 z2) rfl
            refine DG_congr h111 (fun k hk => ⟨?_, ?_, ?_, ?_⟩)
            · unfold gap; split
              · next z => subst z; rfl
              · rfl
            · unfold gap; split
              · next z => subst z; rfl
              · rfl
            · unfold gap; split
              · next z => subst z; rfl
              · rfl
            · unfold sap; split
              · next z => subst z; unfold sTx; first | rw [if_pos (by omega)] | rw [if_neg (by omega)]
              · rfl
          · refine go_iconst (q := 83) dX2_drawInto_82 rfl ?_
            refine go_goto (q := 87) dX2_drawInto_83 (by decide) ?_
            refine go_istore (j := 4) (q := 89) (ls2 := [_, _, _, _, _]) (by decide) rfl rfl dX2_drawInto_87 rfl ?_
            refine go_aload_n (j := 1) (q := 90) rfl rfl dX2_drawInto_89 rfl ?_
            refine go_aload_n (j := 0) (q := 91) rfl rfl dX2_drawInto_90 rfl ?_
            refine go_iload_n (j := 3) (q := 92) rfl rfl dX2_drawInto_91 rfl ?_
            refine go_callVi (as := [_, _]) (As := [_]) (rest := [_]) (n := 1) (q := 95) dX2_drawInto_92 lk_X2_23 (ci := 2) (N := 2) (T := TX2) rfl (by first | assumption | rfl) rfl rfl (by decide +kernel) rfl ⟨by decide, by decide⟩ ⟨rfl, rfl⟩ (Nat.le_of_ble_eq_true rfl) (ev_arcAt he1 he2 hT1 (i := 7 * q + 2 * 0) (by omega) k0.1 k0.2.1) rfl (fun x92 w92 h92 => ?_)
            obtain ⟨rfl, rfl⟩ := h92
            refine go_aload_n (j := 0) (q := 96) rfl rfl dX2_drawInto_95 rfl ?_
            refine go_iload_n (j := 3) (q := 97) rfl rfl dX2_drawInto_96 rfl ?_
            refine go_iconst (q := 98) dX2_drawInto_97 rfl ?_
            refine go_iadd (q := 99) dX2_drawInto_98 rfl ?_
            refine go_callVi (as := [_, _]) (As := [_]) (rest := [_, _]) (n := 1) (q := 102) dX2_drawInto_99 lk_X2_23 (ci := 2) (N := 2) (T := TX2) rfl (by first | assumption | rfl) rfl rfl (by decide +kernel) rfl ⟨by decide, by decide⟩ ⟨rfl, rfl⟩ (Nat.le_of_ble_eq_true rfl) (ev_arcAt he1 he2 hT1 (i := 7 * q + 2 * 1) (by omega) k1.1 k1.2.1) rfl (fun x99 w99 h99 => ?_)
            obtain ⟨rfl, rfl⟩ := h99
            refine go_aload_n (j := 0) (q := 103) rfl rfl dX2_drawInto_102 rfl ?_
            refine go_iload_n (j := 3) (q := 104) rfl rfl dX2_drawInto_103 rfl ?_
            refine go_iconst (q := 105) dX2_drawInto_104 rfl ?_
            refine go_iadd (q := 106) dX2_drawInto_105 rfl ?_
            refine go_callVi (as := [_, _]) (As := [_]) (rest := [_, _, _]) (n := 1) (q := 109) dX2_drawInto_106 lk_X2_23 (ci := 2) (N := 2) (T := TX2) rfl (by first | assumption | rfl) rfl rfl (by decide +kernel) rfl ⟨by decide, by decide⟩ ⟨rfl, rfl⟩ (Nat.le_of_ble_eq_true rfl) (ev_arcAt he1 he2 hT1 (i := 7 * q + 2 * 2) (by omega) k2.1 k2.2.1) rfl (fun x106 w106 h106 => ?_)
            obtain ⟨rfl, rfl⟩ := h106
            refine go_iload (j := 4) (q := 111) rfl dX2_drawInto_109 rfl ?_
            refine go_callVv (as := [_, _, _, _, _]) (As := [_, _, _, _]) (rest := []) (n := 4) (q := 114) dX2_drawInto_111 lk_X2_39 (ci := 1) (N := 3) (T := TX1) rfl (by first | assumption | rfl) rfl rfl (by decide +kernel) rfl ⟨by decide, by decide⟩ ⟨rfl, rfl⟩ (Nat.le_of_ble_eq_true rfl) (ev_appendD hd1 hd2 hD (o := gTx ch q 0) (i := gTx ch q 1) (u := gTx ch q 2) rfl rfl rfl ⟨by omega, by omega, by omega⟩ (by omega) (by omega)) rfl (fun w111 h111 => ?_)
            obtain ⟨h111, f111⟩ := h111
            refine go_iinc (j := 3) (q := 117) (ls2 := [_, _, _, _, _]) rfl (by decide) rfl rfl dX2_drawInto_114 rfl ?_
            refine go_goto (q := 61) dX2_drawInto_117 (by decide) ?_
            refine ih61 _ (by omega) (q + 1) _ _ _ (by omega) (by omega) ?_ (fun c k z1 z2 => by rw [f111 c k z1 z2]; exact hf c k z1 z2) rfl
            refine DG_congr h111 (fun k hk => ⟨?_, ?_, ?_, ?_⟩)
            · unfold gap; split
              · next z => subst z; rfl
              · rfl
            · unfold gap; split
              · next z => subst z; rfl
              · rfl
            · unfold gap; split
              · next z => subst z; rfl
              · rfl
            · unfold sap; split
              · next z => subst z; unfold sTx; first | rw [if_pos (by omega)] | rw [if_neg (by omega)]
              · rfl
      exact lp61 _ 0 0 _ _ rfl (by omega) h56 (fun c k q1 q2 => f56 c k q1) rfl
    · have g0 := hg k 0 (by omega) (by omega)
      have g1 := hg k 1 (by omega) (by omega)
      have g2 := hg k 2 (by omega) (by omega)
      have gm := mlt k (by omega)
      unfold gTx at g0 g1 g2
      refine go_iload_n (j := 2) (q := 13) rfl rfl dX2_drawInto_12 rfl ?_
      refine go_aload_n (j := 0) (q := 14) rfl rfl dX2_drawInto_13 rfl ?_
      refine go_iload_n (j := 3) (q := 15) rfl rfl dX2_drawInto_14 rfl ?_
      refine go_callVi (as := [_, _]) (As := [_]) (rest := [_]) (n := 1) (q := 18) dX2_drawInto_15 lk_X2_23 (ci := 2) (N := 2) (T := TX2) rfl (by first | assumption | rfl) rfl rfl (by decide +kernel) rfl ⟨by decide, by decide⟩ ⟨rfl, rfl⟩ (Nat.le_of_ble_eq_true rfl) (ev_arcAt he1 he2 hT0 (i := 7 * k + 2 * 0) (by omega) g0.1 g0.2.1) rfl (fun x15 w15 h15 => ?_)
      obtain ⟨rfl, rfl⟩ := h15
      refine go_callSi (as := [_, _]) (rest := []) (n := 2) (q := 21) dX2_drawInto_18 lk_X2_27 rfl (by decide +kernel) rfl ⟨by decide, by decide⟩ ⟨rfl, rfl⟩ (Nat.le_of_ble_eq_true rfl) (ev_max (by omega)) rfl (fun x18 w18 h18 => ?_)
      obtain ⟨h18, rfl⟩ := h18
      refine go_istore_n (j := 2) (q := 22) (ls2 := [_, _, _, _, _]) rfl (by decide) rfl rfl dX2_drawInto_21 rfl ?_
      refine go_iload_n (j := 2) (q := 23) rfl rfl dX2_drawInto_22 rfl ?_
      refine go_aload_n (j := 0) (q := 24) rfl rfl dX2_drawInto_23 rfl ?_
      refine go_iload_n (j := 3) (q := 25) rfl rfl dX2_drawInto_24 rfl ?_
      refine go_iconst (q := 26) dX2_drawInto_25 rfl ?_
      refine go_iadd (q := 27) dX2_drawInto_26 rfl ?_
      refine go_callVi (as := [_, _]) (As := [_]) (rest := [_]) (n := 1) (q := 30) dX2_drawInto_27 lk_X2_23 (ci := 2) (N := 2) (T := TX2) rfl (by first | assumption | rfl) rfl rfl (by decide +kernel) rfl ⟨by decide, by decide⟩ ⟨rfl, rfl⟩ (Nat.le_of_ble_eq_true rfl) (ev_arcAt he1 he2 hT0 (i := 7 * k + 2 * 1) (by omega) g1.1 g1.2.1) rfl (fun x27 w27 h27 => ?_)
      obtain ⟨rfl, rfl⟩ := h27
      refine go_callSi (as := [_, _]) (rest := []) (n := 2) (q := 33) dX2_drawInto_30 lk_X2_27 rfl (by decide +kernel) rfl ⟨by decide, by decide⟩ ⟨rfl, rfl⟩ (Nat.le_of_ble_eq_true rfl) (ev_max (by omega)) rfl (fun x30 w30 h30 => ?_)
      obtain ⟨h30, rfl⟩ := h30
      refine go_istore_n (j := 2) (q := 34) (ls2 := [_, _, _, _, _]) rfl (by decide) rfl rfl dX2_drawInto_33 rfl ?_
      refine go_iload_n (j := 2) (q := 35) rfl rfl dX2_drawInto_34 rfl ?_
      refine go_aload_n (j := 0) (q := 36) rfl rfl dX2_drawInto_35 rfl ?_
      refine go_iload_n (j := 3) (q := 37) rfl rfl dX2_drawInto_36 rfl ?_
      refine go_iconst (q := 38) dX2_drawInto_37 rfl ?_
      refine go_iadd (q := 39) dX2_drawInto_38 rfl ?_
      refine go_callVi (as := [_, _]) (As := [_]) (rest := [_]) (n := 1) (q := 42) dX2_drawInto_39 lk_X2_23 (ci := 2) (N := 2) (T := TX2) rfl (by first | assumption | rfl) rfl rfl (by decide +kernel) rfl ⟨by decide, by decide⟩ ⟨rfl, rfl⟩ (Nat.le_of_ble_eq_true rfl) (ev_arcAt he1 he2 hT0 (i := 7 * k + 2 * 2) (by omega) g2.1 g2.2.1) rfl (fun x39 w39 h39 => ?_)
      obtain ⟨rfl, rfl⟩ := h39
      refine go_callSi (as := [_, _]) (rest := []) (n := 2) (q := 45) dX2_drawInto_42 lk_X2_27 rfl (by decide +kernel) rfl ⟨by decide, by decide⟩ ⟨rfl, rfl⟩ (Nat.le_of_ble_eq_true rfl) (ev_max (by omega)) rfl (fun x42 w42 h42 => ?_)
      obtain ⟨h42, rfl⟩ := h42
      refine go_istore_n (j := 2) (q := 46) (ls2 := [_, _, _, _, _]) rfl (by decide) rfl rfl dX2_drawInto_45 rfl ?_
      refine go_iinc (j := 3) (q := 49) (ls2 := [_, _, _, _, _]) rfl (by decide) rfl rfl dX2_drawInto_46 rfl ?_
      refine go_goto (q := 4) dX2_drawInto_49 (by decide) ?_
      exact ih4 _ (by omega) (k + 1) _ _ _ (by omega) (by omega) (by show _ = ((max (max (max (mxT (gTx ch) k) (gTx ch k 0)) (gTx ch k 1)) (gTx ch k 2) : Nat) : Int); unfold gTx at *; omega) rfl
  exact lp4 _ 0 0 0 _ rfl (by omega) rfl rfl
end TXT
