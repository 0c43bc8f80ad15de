def unpS (r : Nat) : Nat → Nat × List Nat
  | 0 => (r, [])
  | k + 1 => ((unpS r k).1 / 6, (unpS r k).1 % 6 :: (unpS r k).2)
def unp (n r : Nat) : List Nat := (unpS r n).2
def pk (n : Nat) (L : List Nat) : Nat := Vn 6 (ix L) n
theorem unpS_len (r : Nat) : ∀ k, (unpS r k).2.length = k
  | 0 => rfl
  | k + 1 => by simp [unpS, unpS_len r k]
theorem unpS_lt (r : Nat) : ∀ k j, j < k → ix (unpS r k).2 j < 6
  | 0, j, h => absurd h (Nat.not_lt_zero j)
  | k + 1, 0, _ => by show (unpS r k).1 % 6 < 6; exact Nat.mod_lt _ (by omega)
  | k + 1, j + 1, h => unpS_lt r k j (by omega)
theorem unpS_le (r : Nat) : ∀ k, (unpS r k).1 ≤ r
  | 0 => Nat.le_refl r
  | k + 1 => Nat.le_trans (Nat.div_le_self _ _) (unpS_le r k)
theorem V_cons {n : Nat} {c : Nat → Nat} : ∀ k, Vn n c (k + 1) = c 0 * n ^ k + Vn n (fun i => c (i + 1)) k
  | 0 => by simp [Vn]
  | k + 1 => by
    show Vn n c (k + 1) * n + c (k + 1) = c 0 * n ^ (k + 1) + (Vn n (fun i => c (i + 1)) k * n + c (k + 1))
    rw [V_cons k, Nat.add_mul, Nat.mul_assoc, ← Nat.pow_succ, Nat.add_assoc]
theorem unpS_val (r : Nat) : ∀ k, r = (unpS r k).1 * 6 ^ k + Vn 6 (ix (unpS r k).2) k
  | 0 => by simp [unpS, Vn]
  | k + 1 => by
    have ih := unpS_val r k
    have e1 : Vn 6 (ix (unpS r (k + 1)).2) (k + 1) = (unpS r k).1 % 6 * 6 ^ k + Vn 6 (ix (unpS r k).2) k := V_cons k
    rw [e1]
    have e2 : (unpS r (k + 1)).1 = (unpS r k).1 / 6 := rfl
    rw [e2, Nat.pow_succ, Nat.mul_comm (6 ^ k) 6, ← Nat.mul_assoc, ← Nat.add_assoc, ← Nat.add_mul]
    have e3 : (unpS r k).1 / 6 * 6 + (unpS r k).1 % 6 = (unpS r k).1 := by omega
    rw [e3]; exact ih
theorem pak_unp {n r : Nat} (hr : r < 6 ^ n) : pk n (unp n r) = r := by
  have h := unpS_val r n
  have h0 : (unpS r n).1 = 0 := by
    rcases Nat.eq_zero_or_pos (unpS r n).1 with q | q
    · exact q
    · have : 1 * 6 ^ n ≤ (unpS r n).1 * 6 ^ n := Nat.mul_le_mul_right _ q
      omega
  rw [h0] at h
  unfold pk unp; omega
theorem pak_lt {n : Nat} {L : List Nat} (h : ∀ i, i < n → ix L i < 6) : pk n L < 6 ^ n := V_lt n h
theorem pak_inj {n : Nat} {L M : List Nat} (hL : L.length = n) (hM : M.length = n) (h1 : ∀ i, i < n → ix L i < 6) (h2 : ∀ i, i < n → ix M i < 6) (e : pk n L = pk n M) : L = M :=
  ix_ext (by omega) (fun i hi => V_inj n h1 h2 e i (by omega))
theorem unp_pak {n : Nat} {L : List Nat} (hL : L.length = n) (h1 : ∀ i, i < n → ix L i < 6) : unp n (pk n L) = L :=
  pak_inj (unpS_len _ n) hL (fun i hi => unpS_lt _ n i hi) h1 (pak_unp (pak_lt h1))
def addQ (p : List Nat) (Q : List (List Nat)) : List (List Nat) := if p ∈ Q then Q else Q ++ [p]
theorem idL_ix : ∀ n : Fin 7, ∀ i : Fin 6, (i : Nat) < n → ix (idL n) i = i := by decide +kernel
theorem cN_rem {q : Nat → Bool} {j0 : Nat} : ∀ b, cN q b = cN (fun j => q j && decide (j ≠ j0)) b + (if j0 < b ∧ q j0 = true then 1 else 0)
  | 0 => by simp [cN]
  | b + 1 => by
    have ih := cN_rem (q := q) (j0 := j0) b
    simp only [cN]
    rw [ih]
    by_cases e : b = j0
    · subst e
      rw [if_neg (show ¬ (b < b ∧ q b = true) by omega)]
      by_cases h : q b = true
      · rw [if_pos h, if_neg (by simp), if_pos ⟨by omega, h⟩]
      · rw [if_neg h, if_neg (by simp), if_neg (fun z => h z.2)]
    · have h1 : (j0 < b + 1 ∧ q j0 = true) ↔ (j0 < b ∧ q j0 = true) := ⟨fun z => ⟨by omega, z.2⟩, fun z => ⟨by omega, z.2⟩⟩
      have h2 : ((q b && decide (b ≠ j0)) = true) ↔ (q b = true) := by simp [e]
      by_cases h : q b = true
      · rw [if_pos h, if_pos (h2.mpr h)]
        by_cases h3 : j0 < b ∧ q j0 = true
        · rw [if_pos h3, if_pos (h1.mpr h3)]
        · rw [if_neg h3, if_neg (fun z => h3 (h1.mp z))]
      · rw [if_neg h, if_neg (fun z => h (h2.mp z))]
        by_cases h3 : j0 < b ∧ q j0 = true
        · rw [if_pos h3, if_pos (h1.mpr h3)]
        · rw [if_neg h3, if_neg (fun z => h3 (h1.mp z))]
theorem cN_zero {q : Nat → Bool} : ∀ b, (∀ j, j < b → ¬ q j = true) → cN q b = 0
  | 0, _ => rfl
  | b + 1, h => by simp only [cN]; rw [cN_zero b (fun j hj => h j (by omega)), if_neg (h b (by omega))]
theorem cN_bij {φ : Nat → Nat} {p : Nat → Bool} {b : Nat} : ∀ (a : Nat) (q : Nat → Bool), (∀ i, i < a → φ i < b) → (∀ i j, i < a → j < a → φ i = φ j → i = j) → (∀ i, i < a → p i = q (φ i)) → (∀ j, j < b → q j = true → ∃ i, i < a ∧ φ i = j) → cN p a = cN q b
  | 0, q, _, _, _, h4 => (cN_zero b (fun j hj hq => by obtain ⟨i, hi, _⟩ := h4 j hj hq; omega)).symm
  | a + 1, q, h1, h2, h3, h4 => by
    have ih := cN_bij (p := p) (b := b) a (fun j => q j && decide (j ≠ φ a)) (fun i hi => h1 i (by omega)) (fun i j hi hj e => h2 i j (by omega) (by omega) e)
      (fun i hi => by
        have : φ i ≠ φ a := fun e => by have := h2 i a (by omega) (by omega) e; omega
        rw [h3 i (by omega)]; simp [this])
      (fun j hj hq => by
        simp only [Bool.and_eq_true, decide_eq_true_eq] at hq
        obtain ⟨i, hi, e⟩ := h4 j hj hq.1
        refine ⟨i, ?_, e⟩
        by_cases z : i = a
        · subst z; exact absurd e.symm hq.2
        · omega)
    rw [cN_rem (j0 := φ a) b]
    simp only [cN]
    rw [ih, h3 a (by omega)]
    by_cases h : q (φ a) = true
    · rw [if_pos h, if_pos ⟨h1 a (by omega), h⟩]
    · rw [if_neg h, if_neg (fun z => h z.2)]
def autP (n : Nat) (f : Nat → Nat → Nat) (L : List Nat) : Prop := permL n L ∧ keepsL n f L
noncomputable def autB (n : Nat) (f : Nat → Nat → Nat) (L : List Nat) : Bool := @decide (autP n f L) (Classical.propDecidable _)
theorem autB_iff {n : Nat} {f : Nat → Nat → Nat} {L : List Nat} : autB n f L = true ↔ autP n f L := @decide_eq_true_iff _ (Classical.propDecidable _)
theorem aut_eq {n : Nat} {f : Nat → Nat → Nat} (hn : 1 ≤ n ∧ n ≤ 6) : cN (fun r => autB n f (unp n r)) (6 ^ n) = autN n f := by
  have hpl := fun r (hr : r < fcN n) => p1 (n := n) (r := r) hn.2 hr
  have h6 := fun r (hr : r < fcN n) i (hi : i < n) => (show ix (unr n r) i < 6 by have := ix_lt (hpl r hr).1 hi; omega)
  refine (cN_bij (φ := fun r => pk n (unr n r)) (fcN n) _ (fun r hr => pak_lt (h6 r hr)) ?_ ?_ ?_).symm
  · intro i j hi hj e
    have := pak_inj (unr_len n i) (unr_len n j) (h6 i hi) (h6 j hj) e
    rw [← (hpl i hi).2, this, (hpl j hj).2]
  · intro r hr
    show keepsB n f (unr n r) = autB n f (unp n (pk n (unr n r)))
    rw [unp_pak (unr_len n r) (h6 r hr)]
    cases h1 : autB n f (unr n r) with
    | true => exact keepsB_iff.mpr (autB_iff.mp h1).2
    | false =>
      cases h2 : keepsB n f (unr n r) with
      | false => rfl
      | true => rw [autB_iff.mpr ⟨(hpl r hr).1, keepsB_iff.mp h2⟩] at h1; cases h1
  · intro j hj hq
    have hL := (autB_iff.mp hq).1
    have h2 := p2 hn hL
    exact ⟨rkF n (ix (unp n j)), h2.1, by show pk n (unr n _) = j; rw [h2.2]; exact pak_unp hj⟩
section M4
variable {l : Launch} {D : va_G} {ck : Nat → ClassId} {ad : Nat → Nat} {w : Mem} {W : WA} {n : Nat} {f : Nat → Nat → Nat}
theorem em_unpacks (hT : TMv (w 46) n f) {r : Nat} {ri : Int} (er : ri = r) (hr : r < 100000) : eX7_unpacks l D ck ad shA [vR 45, vI ri] w (Pv fun w1 => (∀ i, i < n → w1 50 i = (ix (unp n r) i : Int)) ∧ ∀ c k, c ≠ 50 → w1 c k = w c k) := by
  have hn := hT.2.1
  have g0 := hT.1
  refine ev_of_goK (own := RX7) (ls := [some (vR 45), some (vI ri), none, none]) (by decide +kernel) rfl rfl (Nat.le_of_ble_eq_true rfl) rkV ?_
  intro K hK
  refine go_iload_n (j := 1) (q := 1) rfl rfl dX7_unpacks_0 rfl ?_
  refine go_istore_n (j := 2) (q := 2) (ls2 := [_, _, _, _]) rfl (by decide) rfl rfl dX7_unpacks_1 rfl ?_
  refine go_aload_n (j := 0) (q := 3) rfl rfl dX7_unpacks_2 rfl ?_
  refine go_getR (C0 := RX7) (T := TX7) (N := 16) (ci := 7) (i := 0) (q := 6) rfl igX7 (by first | assumption | rfl) (by decide) fl_X7_7 rfl dX7_unpacks_3 rfl ?_
  refine go_iconst (q := 7) dX7_unpacks_6 rfl ?_
  refine go_iald (j := 0) (q := 8) (by first | assumption | rfl) (wr_eq (by omega)) (by omega) dX7_unpacks_7 rfl ?_
  refine go_iconst (q := 9) dX7_unpacks_8 rfl ?_
  refine go_isub (q := 10) dX7_unpacks_9 rfl ?_
  refine go_istore_n (j := 3) (q := 11) (ls2 := [_, _, _, _]) rfl (by decide) rfl rfl dX7_unpacks_10 rfl ?_
  have lp11 : ∀ (m11 : Nat) (k : Nat) (qi xi : Int) (w1 : Mem) (hk : k ≤ n) (ex : xi = (n : Int) - 1 - k) (eq : qi = ((unpS r k).1 : Nat)) (hi : ∀ j, j < k → w1 50 (n - k + j) = (ix (unpS r k).2 j : Int)) (hf : ∀ c k, c ≠ 50 → w1 c k = w c k), m11 = n - k → gX7_unpacks l D ck ad shA 11 [some (vR 45), some (vI ri), some (vI qi), some (vI xi)] [] w1 K := by
    intro m11
    induction m11 using Nat.strongRecOn with
    | _ m11 ih11 =>
    intro k qi xi w1 hk ex eq hi hf em11
    refine go_iload_n (j := 3) (q := 12) rfl rfl dX7_unpacks_11 rfl ?_
    refine go_if_lt2 (q := 15) (t := 36) dX7_unpacks_12 (by decide) rfl (by omega) (fun c12 => ?_) (fun c12 => ?_)
    · refine go_vret dX7_unpacks_36 ?_
      subst hK
      have ekn : k = n := by omega
      subst ekn
      exact ⟨rfl, fun i h => by have := hi i h; rw [show k - k + i = i by omega] at this; exact this, hf⟩
    · have b1 := unpS_le r k
      have e2 : qi.tmod 6 = (((unpS r k).1 % 6 : Nat) : Int) := by rw [eq]; exact (Int.ofNat_tmod _ 6).symm
      have e3 : qi.tdiv 6 = (((unpS r k).1 / 6 : Nat) : Int) := by rw [eq]; exact (Int.ofNat_tdiv _ 6).symm
      refine go_aload_n (j := 0) (q := 16) rfl rfl dX7_unpacks_15 rfl ?_
      refine go_getR (C0 := RX7) (T := TX7) (N := 16) (ci := 7) (i := 7) (q := 19) rfl igX7 (by first | assumption | rfl) (by decide) fl_X7_22 rfl dX7_unpacks_16 rfl ?_
      refine go_iload_n (j := 3) (q := 20) rfl rfl dX7_unpacks_19 rfl ?_
      refine go_iload_n (j := 2) (q := 21) rfl rfl dX7_unpacks_20 rfl ?_
      refine go_bipush (q := 23) rfl dX7_unpacks_21 rfl ?_
      refine go_irem2 (q := 24) (by omega) (by omega) dX7_unpacks_23 rfl ?_
      rw [e2]
      refine go_iast (j := n - 1 - k) (q := 25) (by first | assumption | rfl) (wr_eq (by omega)) (by omega) dX7_unpacks_24 rfl ?_
      refine go_iload_n (j := 2) (q := 26) rfl rfl dX7_unpacks_25 rfl ?_
      refine go_bipush (q := 28) rfl dX7_unpacks_26 rfl ?_
      refine go_idiv2 (q := 29) (by omega) (by omega) dX7_unpacks_28 rfl ?_
      rw [e3]
      refine go_istore_n (j := 2) (q := 30) (ls2 := [_, _, _, _]) rfl (by decide) rfl rfl dX7_unpacks_29 rfl ?_
      refine go_iinc (j := 3) (q := 33) (ls2 := [_, _, _, _]) rfl (by decide) rfl rfl dX7_unpacks_30 rfl ?_
      refine go_goto (q := 11) dX7_unpacks_33 (by decide) ?_
      exact ih11 _ (by omega) (k + 1) _ _ _ (by omega) (by omega) rfl (by
        intro i h
        rcases i with _ | i
        · rw [show n - (k + 1) + 0 = n - 1 - k by omega, mup_eq]; rfl
        · rw [mup_ne (by omega), show n - (k + 1) + (i + 1) = n - k + i by omega]; exact hi i (by omega)) (fun c k h => by rw [mup_ne (Or.inl h)]; exact hf c k h) rfl
  exact lp11 _ 0 _ _ _ (by omega) (by omega) er (fun j h => absurd h (Nat.not_lt_zero j)) (fun c k h => rfl) rfl
theorem em_packed (hT : TMv (w 46) n f) {L : List Nat} {y : Nat} {yi : Int} (hL : L.length = n) (hLl : ∀ i, i < n → ix L i < n) (hI : ∀ i, i < n → w 50 i = (ix L i : Int)) (ey : yi = y) (hy : y < n) : eX7_packed l D ck ad shA [vR 45, vI yi] w (Pi fun v w1 => v = (pk n (nxtL f L y) : Int) ∧ w = w1) := by
  have hn := hT.2.1
  have g0 := hT.1
  have en : ∀ i, i < n → ix (nxtL f L y) i = f (ix L i) y := fun i hi => ix_map (by rw [hL]; exact hi)
  refine ev_of_goK (own := RX7) (ls := [some (vR 45), some (vI yi), none, none]) (by decide +kernel) rfl rfl (Nat.le_of_ble_eq_true rfl) rkI ?_
  intro K hK
  refine go_iconst (q := 1) dX7_packed_0 rfl ?_
  refine go_istore_n (j := 2) (q := 2) (ls2 := [_, _, _, _]) rfl (by decide) rfl rfl dX7_packed_1 rfl ?_
  refine go_iconst (q := 3) dX7_packed_2 rfl ?_
  refine go_istore_n (j := 3) (q := 4) (ls2 := [_, _, _, _]) rfl (by decide) rfl rfl dX7_packed_3 rfl ?_
  have lp4 : ∀ (m4 : Nat) (x : Nat) (xi ci : Int) (ex : xi = x) (hx : x ≤ n) (ec : ci = (Vn 6 (ix (nxtL f L y)) x : Nat)), m4 = n - x → gX7_packed l D ck ad shA 4 [some (vR 45), some (vI yi), some (vI ci), some (vI xi)] [] w K := by
    intro m4
    induction m4 using Nat.strongRecOn with
    | _ m4 ih4 =>
    intro x xi ci ex hx ec em4
    refine go_iload_n (j := 3) (q := 5) rfl rfl dX7_packed_4 rfl ?_
    refine go_aload_n (j := 0) (q := 6) rfl rfl dX7_packed_5 rfl ?_
    refine go_getR (C0 := RX7) (T := TX7) (N := 16) (ci := 7) (i := 0) (q := 9) rfl igX7 (by first | assumption | rfl) (by decide) fl_X7_7 rfl dX7_packed_6 rfl ?_
    refine go_iconst (q := 10) dX7_packed_9 rfl ?_
    refine go_iald (j := 0) (q := 11) (by first | assumption | rfl) (wr_eq (by omega)) (by omega) dX7_packed_10 rfl ?_
    refine go_icmp_ge2 (q := 14) (t := 37) dX7_packed_11 (by decide) rfl (by omega) (fun c11 => ?_) (fun c11 => ?_)
    · refine go_iload_n (j := 2) (q := 38) rfl rfl dX7_packed_37 rfl ?_
      refine go_iret dX7_packed_38 ?_
      subst hK; exact ⟨_, rfl, by rw [ec, show x = n by omega]; rfl, rfl⟩
    · refine go_bipush (q := 16) rfl dX7_packed_14 rfl ?_
      refine go_iload_n (j := 2) (q := 17) rfl rfl dX7_packed_16 rfl ?_
      refine go_imul (q := 18) dX7_packed_17 rfl ?_
      refine go_aload_n (j := 0) (q := 19) rfl rfl dX7_packed_18 rfl ?_
      refine go_aload_n (j := 0) (q := 20) rfl rfl dX7_packed_19 rfl ?_
      refine go_getR (C0 := RX7) (T := TX7) (N := 16) (ci := 7) (i := 7) (q := 23) rfl igX7 (by first | assumption | rfl) (by decide) fl_X7_22 rfl dX7_packed_20 rfl ?_
      refine go_iload_n (j := 3) (q := 24) rfl rfl dX7_packed_23 rfl ?_
      refine go_iald (j := x) (q := 25) (by first | assumption | rfl) (wr_eq (by omega)) (by omega) dX7_packed_24 rfl ?_
      have e5 := hI x (by omega)
      refine go_iload_n (j := 1) (q := 26) rfl rfl dX7_packed_25 rfl ?_
      refine go_callVi (as := [_, _, _]) (As := [_, _]) (rest := [_]) (n := 2) (q := 29) dX7_packed_26 lk_X7_67 (ci := 7) (N := 16) (T := TX7) rfl (by first | assumption | rfl) rfl rfl (by decide +kernel) rfl ⟨by decide, by decide⟩ ⟨rfl, rfl⟩ (Nat.le_of_ble_eq_true rfl) (em_times hT (x := ix L x) (y := y) e5 ey (hLl x (by omega)) hy) rfl (fun x26 w26 h26 => ?_)
      obtain ⟨rfl, rfl⟩ := h26
      refine go_iadd (q := 30) dX7_packed_29 rfl ?_
      refine go_istore_n (j := 2) (q := 31) (ls2 := [_, _, _, _]) rfl (by decide) rfl rfl dX7_packed_30 rfl ?_
      refine go_iinc (j := 3) (q := 34) (ls2 := [_, _, _, _]) rfl (by decide) rfl rfl dX7_packed_31 rfl ?_
      refine go_goto (q := 4) dX7_packed_34 (by decide) ?_
      exact ih4 _ (by omega) (x + 1) _ _ (by omega) (by omega) (by show _ = ((Vn 6 (ix (nxtL f L y)) x * 6 + ix (nxtL f L y) x : Nat) : Int); rw [en x (by omega)]; omega) rfl
  exact lp4 _ 0 0 0 rfl (by omega) rfl rfl
def QM (w : Mem) (n : Nat) (Q : List (List Nat)) : Prop := w 45 6 = (Q.length : Int) ∧ ∀ i, i < Q.length → w 49 i = (pk n (Q.getD i []) : Int)
theorem em_keepsFound {Q : List (List Nat)} {p : List Nat} {pi : Int} (hn : n ≤ 6) (gQ : goodQ n Q) (hl : Q.length ≤ 720) (hQ : QM w n Q) (hp : permL n p) (ep : pi = pk n p) (hlt : p ∉ Q → Q.length < 720) : eX7_keepsFound l D ck ad shA [vR 45, vI pi] w (Pv fun w1 => QM w1 n (addQ p Q) ∧ ∀ c k, c ≠ 49 → ¬ (c = 45 ∧ k = 6) → w1 c k = w c k) := by
  obtain ⟨h0, h1⟩ := hQ
  have h6n : 6 ^ n ≤ 6 ^ 6 := Nat.pow_le_pow_right (by decide) hn
  have hp6 : ∀ i, i < n → ix p i < 6 := fun i hi => by have := ix_lt hp hi; omega
  have hpb := pak_lt hp6
  have hq6 : ∀ j, j < Q.length → pk n (Q.getD j []) < 6 ^ n ∧ (pk n (Q.getD j []) = pk n p → Q.getD j [] = p) := fun j hj => by
    have h2 := gQ.2 _ (gD_mem hj)
    have h3 : ∀ i, i < n → ix (Q.getD j []) i < 6 := fun i hi => by have := ix_lt h2 hi; omega
    exact ⟨pak_lt h3, fun e => pak_inj h2.1 hp.1 h3 hp6 e⟩
  refine ev_of_goK (own := RX7) (ls := [some (vR 45), some (vI pi), none, none]) (by decide +kernel) rfl rfl (Nat.le_of_ble_eq_true rfl) rkV ?_
  intro K hK
  refine go_iconst (q := 1) dX7_keepsFound_0 rfl ?_
  refine go_istore_n (j := 2) (q := 2) (ls2 := [_, _, _, _]) rfl (by decide) rfl rfl dX7_keepsFound_1 rfl ?_
  refine go_iconst (q := 3) dX7_keepsFound_2 rfl ?_
  refine go_istore_n (j := 3) (q := 4) (ls2 := [_, _, _, _]) rfl (by decide) rfl rfl dX7_keepsFound_3 rfl ?_
  have lp4 : ∀ (m4 : Nat) (k : Nat) (ki ni : Int) (ek : ki = k) (hk : k ≤ Q.length) (hN : (ni = 1 ∧ ∀ j, j < k → Q.getD j [] ≠ p) ∨ (ni = 0 ∧ ∃ j, j < k ∧ Q.getD j [] = p)), m4 = Q.length - k → gX7_keepsFound l D ck ad shA 4 [some (vR 45), some (vI pi), some (vI ni), some (vI ki)] [] w K := by
    intro m4
    induction m4 using Nat.strongRecOn with
    | _ m4 ih4 =>
    intro k ki ni ek hk hN em4
    refine go_iload_n (j := 3) (q := 5) rfl rfl dX7_keepsFound_4 rfl ?_
    refine go_aload_n (j := 0) (q := 6) rfl rfl dX7_keepsFound_5 rfl ?_
    refine go_getI (C0 := RX7) (T := TX7) (N := 16) (ci := 7) (i := 6) (q := 9) rfl igX7 (by first | assumption | rfl) (by decide) fl_X7_115 rfl dX7_keepsFound_6 rfl ?_
    refine go_icmp_ge2 (q := 12) (t := 38) dX7_keepsFound_9 (by decide) rfl (by omega) (fun c9 => ?_) (fun c9 => ?_)
    · refine go_iload_n (j := 2) (q := 39) rfl rfl dX7_keepsFound_38 rfl ?_
      refine go_if_eq2 (q := 42) (t := 62) dX7_keepsFound_39 (by decide) rfl (by omega) (fun c39 => ?_) (fun c39 => ?_)
      · refine go_vret dX7_keepsFound_62 ?_
        subst hK
        first
        | (have zq := hni
           refine ⟨rfl, ?_, fun c k z1 z2 => by rw [mup_ne (by omega), mup_ne (Or.inl z1)]⟩
           unfold addQ
           rw [if_neg hni]
           refine ⟨by rw [mup_eq, mup_ne (by omega), h0, List.length_append, List.length_singleton]; omega, fun i hi => ?_⟩
           rw [List.length_append, List.length_singleton] at hi
           rw [mup_ne (by omega)]
           by_cases q : i = Q.length
           · subst q; rw [mup_eq, gD_r]; exact ep
           · rw [mup_ne (by omega), gD_l (by omega)]; exact h1 i (by omega))
        | (have hin : p ∈ Q := by
             rcases hN with ⟨z, _⟩ | ⟨_, j, z1, z2⟩
             · omega
             · rw [← z2]; exact gD_mem (by omega)
           refine ⟨rfl, ?_, fun c k _ _ => rfl⟩
           unfold addQ
           rw [if_pos hin]
           exact ⟨h0, h1⟩)
      · have hni : p ∉ Q := by
          rcases hN with ⟨_, z⟩ | ⟨z, _⟩
          · intro hm
            obtain ⟨i, hi⟩ := List.mem_iff_getElem?.mp hm
            have hil := (List.getElem?_eq_some_iff.mp hi).1
            exact z i (by omega) (by rw [List.getD_eq_getElem?_getD, hi]; rfl)
          · omega
        have hl7 := hlt hni
        refine go_aload_n (j := 0) (q := 43) rfl rfl dX7_keepsFound_42 rfl ?_
        refine go_getR (C0 := RX7) (T := TX7) (N := 16) (ci := 7) (i := 5) (q := 46) rfl igX7 (by first | assumption | rfl) (by decide) fl_X7_19 rfl dX7_keepsFound_43 rfl ?_
        refine go_aload_n (j := 0) (q := 47) rfl rfl dX7_keepsFound_46 rfl ?_
        refine go_getI (C0 := RX7) (T := TX7) (N := 16) (ci := 7) (i := 6) (q := 50) rfl igX7 (by first | assumption | rfl) (by decide) fl_X7_115 rfl dX7_keepsFound_47 rfl ?_
        refine go_iload_n (j := 1) (q := 51) rfl rfl dX7_keepsFound_50 rfl ?_
        refine go_iast (j := Q.length) (q := 52) (by first | assumption | rfl) (wr_eq (by omega)) (by omega) dX7_keepsFound_51 rfl ?_
        refine go_aload_n (j := 0) (q := 53) rfl rfl dX7_keepsFound_52 rfl ?_
        refine go_dup (q := 54) (fun _ z => by cases z) dX7_keepsFound_53 rfl ?_
        refine go_getI (C0 := RX7) (T := TX7) (N := 16) (ci := 7) (i := 6) (q := 57) rfl igX7 (by first | assumption | rfl) (by decide) fl_X7_115 rfl dX7_keepsFound_54 rfl ?_
        refine go_iconst (q := 58) dX7_keepsFound_57 rfl ?_
        refine go_iadd (q := 59) dX7_keepsFound_58 rfl ?_
        refine go_putI (C0 := RX7) (T := TX7) (N := 16) (ci := 7) (i := 6) (q := 62) rfl igX7 (by first | assumption | rfl) (by decide) fl_X7_115 rfl tyX7 tyX7_ok nmX7 rfl rfl dX7_keepsFound_59 rfl ?_
        refine go_vret dX7_keepsFound_62 ?_
        subst hK
        first
        | (have zq := hni
           refine ⟨rfl, ?_, fun c k z1 z2 => by rw [mup_ne (by omega), mup_ne (Or.inl z1)]⟩
           unfold addQ
           rw [if_neg hni]
           refine ⟨by rw [mup_eq, mup_ne (by omega), h0, List.length_append, List.length_singleton]; omega, fun i hi => ?_⟩
           rw [List.length_append, List.length_singleton] at hi
           rw [mup_ne (by omega)]
           by_cases q : i = Q.length
           · subst q; rw [mup_eq, gD_r]; exact ep
           · rw [mup_ne (by omega), gD_l (by omega)]; exact h1 i (by omega))
        | (have hin : p ∈ Q := by
             rcases hN with ⟨z, _⟩ | ⟨_, j, z1, z2⟩
             · omega
             · rw [← z2]; exact gD_mem (by omega)
           refine ⟨rfl, ?_, fun c k _ _ => rfl⟩
           unfold addQ
           rw [if_pos hin]
           exact ⟨h0, h1⟩)
    · have f1 := h1 k (by omega)
      have f2 := hq6 k (by omega)
      refine go_iload_n (j := 2) (q := 13) rfl rfl dX7_keepsFound_12 rfl ?_
      refine go_if_eq2 (q := 16) (t := 30) dX7_keepsFound_13 (by decide) rfl (by omega) (fun c13 => ?_) (fun c13 => ?_)
      · refine go_iconst (q := 31) dX7_keepsFound_30 rfl ?_
        refine go_istore_n (j := 2) (q := 32) (ls2 := [_, _, _, _]) rfl (by decide) rfl rfl dX7_keepsFound_31 rfl ?_
        refine go_iinc (j := 3) (q := 35) (ls2 := [_, _, _, _]) rfl (by decide) rfl rfl dX7_keepsFound_32 rfl ?_
        refine go_goto (q := 4) dX7_keepsFound_35 (by decide) ?_
        first
        | exact ih4 _ (by omega) (k + 1) _ _ (by omega) (by omega) (Or.inl ⟨rfl, by
            rcases hN with ⟨_, z⟩ | ⟨z, _⟩
            · exact fun j h => all_lt (P := fun j => Q.getD j [] ≠ p) z (fun e => by rw [e] at f1; omega) h
            · omega⟩) rfl
        | exact ih4 _ (by omega) (k + 1) _ _ (by omega) (by omega) (Or.inr ⟨rfl, by
            rcases hN with ⟨z, _⟩ | ⟨_, j, z1, z2⟩
            · exact ⟨k, by omega, f2.2 (by omega)⟩
            · exact ⟨j, by omega, z2⟩⟩) rfl
      · refine go_aload_n (j := 0) (q := 17) rfl rfl dX7_keepsFound_16 rfl ?_
        refine go_getR (C0 := RX7) (T := TX7) (N := 16) (ci := 7) (i := 5) (q := 20) rfl igX7 (by first | assumption | rfl) (by decide) fl_X7_19 rfl dX7_keepsFound_17 rfl ?_
        refine go_iload_n (j := 3) (q := 21) rfl rfl dX7_keepsFound_20 rfl ?_
        refine go_iald (j := k) (q := 22) (by first | assumption | rfl) (wr_eq (by omega)) (by omega) dX7_keepsFound_21 rfl ?_
        refine go_iload_n (j := 1) (q := 23) rfl rfl dX7_keepsFound_22 rfl ?_
        refine go_icmp_eq2 (q := 26) (t := 30) dX7_keepsFound_23 (by decide) rfl (by omega) (fun c23 => ?_) (fun c23 => ?_)
        · refine go_iconst (q := 31) dX7_keepsFound_30 rfl ?_
          refine go_istore_n (j := 2) (q := 32) (ls2 := [_, _, _, _]) rfl (by decide) rfl rfl dX7_keepsFound_31 rfl ?_
          refine go_iinc (j := 3) (q := 35) (ls2 := [_, _, _, _]) rfl (by decide) rfl rfl dX7_keepsFound_32 rfl ?_
          refine go_goto (q := 4) dX7_keepsFound_35 (by decide) ?_
          first
          | exact ih4 _ (by omega) (k + 1) _ _ (by omega) (by omega) (Or.inl ⟨rfl, by
              rcases hN with ⟨_, z⟩ | ⟨z, _⟩
              · exact fun j h => all_lt (P := fun j => Q.getD j [] ≠ p) z (fun e => by rw [e] at f1; omega) h
              · omega⟩) rfl
          | exact ih4 _ (by omega) (k + 1) _ _ (by omega) (by omega) (Or.inr ⟨rfl, by
              rcases hN with ⟨z, _⟩ | ⟨_, j, z1, z2⟩
              · exact ⟨k, by omega, f2.2 (by omega)⟩
              · exact ⟨j, by omega, z2⟩⟩) rfl
        · refine go_iconst (q := 27) dX7_keepsFound_26 rfl ?_
          refine go_goto (q := 31) dX7_keepsFound_27 (by decide) ?_
          refine go_istore_n (j := 2) (q := 32) (ls2 := [_, _, _, _]) rfl (by decide) rfl rfl dX7_keepsFound_31 rfl ?_
          refine go_iinc (j := 3) (q := 35) (ls2 := [_, _, _, _]) rfl (by decide) rfl rfl dX7_keepsFound_32 rfl ?_
          refine go_goto (q := 4) dX7_keepsFound_35 (by decide) ?_
          first
          | exact ih4 _ (by omega) (k + 1) _ _ (by omega) (by omega) (Or.inl ⟨rfl, by
              rcases hN with ⟨_, z⟩ | ⟨z, _⟩
              · exact fun j h => all_lt (P := fun j => Q.getD j [] ≠ p) z (fun e => by rw [e] at f1; omega) h
              · omega⟩) rfl
          | exact ih4 _ (by omega) (k + 1) _ _ (by omega) (by omega) (Or.inr ⟨rfl, by
              rcases hN with ⟨z, _⟩ | ⟨_, j, z1, z2⟩
              · exact ⟨k, by omega, f2.2 (by omega)⟩
              · exact ⟨j, by omega, z2⟩⟩) rfl
  exact lp4 _ 0 0 1 rfl (by omega) (Or.inl ⟨rfl, fun j h => absurd h (Nat.not_lt_zero j)⟩) rfl
theorem em_groupSize (hT : TMv (w 46) n f) : eX7_groupSize l D ck ad shA [vR 45] w (Pi fun v w1 => v = cif (∀ y, y < n → prm n f y) (grpN n f : Int) (-6) ∧ ∀ c k, c ≠ 49 → c ≠ 50 → ¬ (c = 45 ∧ k = 6) → w1 c k = w c k) := by
  have hn := hT.2.1
  have g0 := hT.1
  have hr : ∀ i j, i < n → j < n → f i j < n := fun i j hi hj => (hT.2.2 i j hi hj).2
  have h6n : 6 ^ n ≤ 6 ^ 6 := Nat.pow_le_pow_right (by decide) hn.2
  refine ev_of_goK (own := RX7) (ls := [some (vR 45), none, none, none]) (by decide +kernel) rfl rfl (Nat.le_of_ble_eq_true rfl) rkI ?_
  intro K hK
  refine go_aload_n (j := 0) (q := 1) rfl rfl dX7_groupSize_0 rfl ?_
  refine go_callVi (as := [_]) (As := []) (rest := []) (n := 0) (q := 4) dX7_groupSize_1 lk_X7_81 (ci := 7) (N := 16) (T := TX7) rfl (by first | assumption | rfl) rfl rfl (by decide +kernel) rfl ⟨by decide, by decide⟩ ⟨rfl, rfl⟩ (Nat.le_of_ble_eq_true rfl) (em_violatesSecond hT) rfl (fun x1 w1 h1 => ?_)
  obtain ⟨h1, rfl⟩ := h1
  refine go_bipush (q := 6) rfl dX7_groupSize_4 rfl ?_
  refine go_icmp_eq2 (q := 9) (t := 12) dX7_groupSize_6 (by decide) rfl (by rcases h1 with ⟨z, z1, z2, z3, z4⟩ | ⟨z1, z2⟩ <;> omega) (fun c6 => ?_) (fun c6 => ?_)
  · have hall : ∀ y, y < n → prm n f y := by
      rcases h1 with ⟨z, z1, z2, z3, z4⟩ | ⟨z1, z2⟩
      · omega
      · exact fun y hy => Classical.not_not.mp (z2 y hy)
    have hidp := (goodQ_0 (n := n) hn.2).2 (idL n) (List.mem_singleton.mpr rfl)
    have hix : ∀ i, i < n → ix (idL n) i = i := fun i hi => idL_ix ⟨n, by omega⟩ ⟨i, by omega⟩ hi
    refine go_iconst (q := 13) dX7_groupSize_12 rfl ?_
    refine go_istore_n (j := 1) (q := 14) (ls2 := [_, _, _, _]) rfl (by decide) rfl rfl dX7_groupSize_13 rfl ?_
    refine go_iconst (q := 15) dX7_groupSize_14 rfl ?_
    refine go_istore_n (j := 2) (q := 16) (ls2 := [_, _, _, _]) rfl (by decide) rfl rfl dX7_groupSize_15 rfl ?_
    have lp16 : ∀ (m16 : Nat) (x : Nat) (xi ci : Int) (u : Option MV) (ex : xi = x) (hx : x ≤ n) (ec : ci = (Vn 6 (ix (idL n)) x : Nat)), m16 = n - x → gX7_groupSize l D ck ad shA 16 [some (vR 45), some (vI ci), some (vI xi), u] [] w K := by
      intro m16
      induction m16 using Nat.strongRecOn with
      | _ m16 ih16 =>
      intro x xi ci u ex hx ec em16
      refine go_iload_n (j := 2) (q := 17) rfl rfl dX7_groupSize_16 rfl ?_
      refine go_aload_n (j := 0) (q := 18) rfl rfl dX7_groupSize_17 rfl ?_
      refine go_getR (C0 := RX7) (T := TX7) (N := 16) (ci := 7) (i := 0) (q := 21) rfl igX7 (by first | assumption | rfl) (by decide) fl_X7_7 rfl dX7_groupSize_18 rfl ?_
      refine go_iconst (q := 22) dX7_groupSize_21 rfl ?_
      refine go_iald (j := 0) (q := 23) (by first | assumption | rfl) (wr_eq (by omega)) (by omega) dX7_groupSize_22 rfl ?_
      refine go_icmp_ge2 (q := 26) (t := 39) dX7_groupSize_23 (by decide) rfl (by omega) (fun c23 => ?_) (fun c23 => ?_)
      · refine go_aload_n (j := 0) (q := 40) rfl rfl dX7_groupSize_39 rfl ?_
        refine go_iconst (q := 41) dX7_groupSize_40 rfl ?_
        refine go_putI (C0 := RX7) (T := TX7) (N := 16) (ci := 7) (i := 6) (q := 44) rfl igX7 (by first | assumption | rfl) (by decide) fl_X7_115 rfl tyX7 tyX7_ok nmX7 rfl rfl dX7_groupSize_41 rfl ?_
        refine go_aload_n (j := 0) (q := 45) rfl rfl dX7_groupSize_44 rfl ?_
        refine go_iload_n (j := 1) (q := 46) rfl rfl dX7_groupSize_45 rfl ?_
        refine go_callVv (as := [_, _]) (As := [_]) (rest := []) (n := 1) (q := 49) dX7_groupSize_46 lk_X7_118 (ci := 7) (N := 16) (T := TX7) rfl (by first | assumption | rfl) rfl rfl (by decide +kernel) rfl ⟨by decide, by decide⟩ ⟨rfl, rfl⟩ (Nat.le_of_ble_eq_true rfl) (em_keepsFound (Q := []) (p := idL n) hn.2 ⟨List.nodup_nil, fun p hp => absurd hp List.not_mem_nil⟩ (by simp) ⟨by rw [mup_eq]; rfl, fun i hi => absurd hi (Nat.not_lt_zero i)⟩ hidp (by rw [ec, show x = n by omega]; rfl) (fun _ => by simp)) rfl (fun w46 h46 => ?_)
        obtain ⟨h46, f46⟩ := h46
        have fr : ∀ c k, c ≠ 49 → c ≠ 50 → ¬ (c = 45 ∧ k = 6) → w46 c k = w c k := fun c k z1 z2 z3 => by rw [f46 c k z1 z3, mup_ne (by omega)]
        refine go_iconst (q := 50) dX7_groupSize_49 rfl ?_
        refine go_istore_n (j := 2) (q := 51) (ls2 := [_, _, _, _]) rfl (by decide) rfl rfl dX7_groupSize_50 rfl ?_
        have lp51 : ∀ (m51 : Nat) (h : Nat) (hi : Int) (u2 : Option MV) (w2 : Mem) (Q : List (List Nat)) (eQ : Q = bfsH n f h) (hh : h ≤ Q.length) (gQ : goodQ n Q) (eh : hi = h) (hQ : QM w2 n Q) (hf2 : ∀ c k, c ≠ 49 → c ≠ 50 → ¬ (c = 45 ∧ k = 6) → w2 c k = w c k), m51 = 721 - h → gX7_groupSize l D ck ad shA 51 [some (vR 45), some (vI ci), some (vI hi), u2] [] w2 K := by
          intro m51
          induction m51 using Nat.strongRecOn with
          | _ m51 ih51 =>
          intro h hi u2 w2 Q eQ hh gQ eh hQ hf2 em51
          have hlen := goodQ_len hn gQ
          have hq0 := hQ.1
          refine go_iload_n (j := 2) (q := 52) rfl rfl dX7_groupSize_51 rfl ?_
          refine go_aload_n (j := 0) (q := 53) rfl rfl dX7_groupSize_52 rfl ?_
          refine go_getI (C0 := RX7) (T := TX7) (N := 16) (ci := 7) (i := 6) (q := 56) rfl igX7 (by first | assumption | rfl) (by decide) fl_X7_115 rfl dX7_groupSize_53 rfl ?_
          refine go_icmp_ge2 (q := 59) (t := 102) dX7_groupSize_56 (by decide) rfl (by omega) (fun c56 => ?_) (fun c56 => ?_)
          · refine go_aload_n (j := 0) (q := 103) rfl rfl dX7_groupSize_102 rfl ?_
            refine go_getI (C0 := RX7) (T := TX7) (N := 16) (ci := 7) (i := 6) (q := 106) rfl igX7 (by first | assumption | rfl) (by decide) fl_X7_115 rfl dX7_groupSize_103 rfl ?_
            refine go_iret dX7_groupSize_106 ?_
            subst hK
            refine ⟨_, rfl, ?_, hf2⟩
            have e8 : h = Q.length := by omega
            have := bfs_stop (n := n) (f := f) (h := h) (by rw [← eQ]; omega) 720 (by omega)
            rw [cif_t hall]
            unfold grpN; rw [this, ← eQ]; exact hq0
          · refine go_iconst (q := 60) dX7_groupSize_59 rfl ?_
            refine go_istore_n (j := 3) (q := 61) (ls2 := [_, _, _, _]) rfl (by decide) rfl rfl dX7_groupSize_60 rfl ?_
            have lp61 : ∀ (m61 : Nat) (y : Nat) (yi : Int) (w3 : Mem) (P : List (List Nat)) (eP : P = bfsY f (Q.getD h []) Q y) (hy : y ≤ n) (gP : goodQ n P) (hle : Q.length ≤ P.length) (hPQ : h < P.length ∧ P.getD h [] = Q.getD h []) (ey : yi = y) (hP3 : QM w3 n P) (hf3 : ∀ c k, c ≠ 49 → c ≠ 50 → ¬ (c = 45 ∧ k = 6) → w3 c k = w c k), m61 = n - y → gX7_groupSize l D ck ad shA 61 [some (vR 45), some (vI ci), some (vI hi), some (vI yi)] [] w3 K := by
              intro m61
              induction m61 using Nat.strongRecOn with
              | _ m61 ih61 =>
              intro y yi w3 P eP hy gP hle hPQ ey hP3 hf3 em61
              have hT3 : TMv (w3 46) n f := TMv_c hT (fun k _ => hf3 _ _ (by omega) (by omega) (by omega))
              have g03 := hT3.1
              have hlP := goodQ_len hn gP
              refine go_iload_n (j := 3) (q := 62) rfl rfl dX7_groupSize_61 rfl ?_
              refine go_aload_n (j := 0) (q := 63) rfl rfl dX7_groupSize_62 rfl ?_
              refine go_getR (C0 := RX7) (T := TX7) (N := 16) (ci := 7) (i := 0) (q := 66) rfl igX7 (by first | assumption | rfl) (by decide) fl_X7_7 rfl dX7_groupSize_63 rfl ?_
              refine go_iconst (q := 67) dX7_groupSize_66 rfl ?_
              refine go_iald (j := 0) (q := 68) (by first | assumption | rfl) (wr_eq (by omega)) (by omega) dX7_groupSize_67 rfl ?_
              refine go_icmp_ge2 (q := 71) (t := 96) dX7_groupSize_68 (by decide) rfl (by omega) (fun c68 => ?_) (fun c68 => ?_)
              · refine go_iinc (j := 2) (q := 99) (ls2 := [_, _, _, _]) rfl (by decide) rfl rfl dX7_groupSize_96 rfl ?_
                refine go_goto (q := 51) dX7_groupSize_99 (by decide) ?_
                exact ih51 _ (by omega) (h + 1) _ _ _ P (by show P = (if h < (bfsH n f h).length then _ else _); rw [← eQ, if_pos (by omega), eP, show y = n by omega]) (by omega) gP (by omega) hP3 hf3 rfl
              · refine go_aload_n (j := 0) (q := 72) rfl rfl dX7_groupSize_71 rfl ?_
                refine go_aload_n (j := 0) (q := 73) rfl rfl dX7_groupSize_72 rfl ?_
                refine go_getR (C0 := RX7) (T := TX7) (N := 16) (ci := 7) (i := 5) (q := 76) rfl igX7 (by first | assumption | rfl) (by decide) fl_X7_19 rfl dX7_groupSize_73 rfl ?_
                refine go_iload_n (j := 2) (q := 77) rfl rfl dX7_groupSize_76 rfl ?_
                refine go_iald (j := h) (q := 78) (by first | assumption | rfl) (wr_eq (by omega)) (by omega) dX7_groupSize_77 rfl ?_
                have hpp := gP.2 _ (gD_mem hPQ.1)
                rw [hPQ.2] at hpp
                have h6p : ∀ i, i < n → ix (Q.getD h []) i < 6 := fun i hi => by have := ix_lt hpp hi; omega
                have e49 := hP3.2 h hPQ.1
                rw [hPQ.2] at e49
                have hpkl := pak_lt h6p
                refine go_callVv (as := [_, _]) (As := [_]) (rest := []) (n := 1) (q := 81) dX7_groupSize_78 lk_X7_121 (ci := 7) (N := 16) (T := TX7) rfl (by first | assumption | rfl) rfl rfl (by decide +kernel) rfl ⟨by decide, by decide⟩ ⟨rfl, rfl⟩ (Nat.le_of_ble_eq_true rfl) (em_unpacks hT3 (r := pk n (Q.getD h [])) e49 (by omega)) rfl (fun w78 h78 => ?_)
                obtain ⟨i78, f78⟩ := h78
                rw [unp_pak hpp.1 h6p] at i78
                have hT78 : TMv (w78 46) n f := TMv_c hT3 (fun k _ => f78 _ _ (by omega))
                refine go_aload_n (j := 0) (q := 82) rfl rfl dX7_groupSize_81 rfl ?_
                refine go_aload_n (j := 0) (q := 83) rfl rfl dX7_groupSize_82 rfl ?_
                refine go_iload_n (j := 3) (q := 84) rfl rfl dX7_groupSize_83 rfl ?_
                refine go_callVi (as := [_, _]) (As := [_]) (rest := [_]) (n := 1) (q := 87) dX7_groupSize_84 lk_X7_124 (ci := 7) (N := 16) (T := TX7) rfl (by first | assumption | rfl) rfl rfl (by decide +kernel) rfl ⟨by decide, by decide⟩ ⟨rfl, rfl⟩ (Nat.le_of_ble_eq_true rfl) (em_packed hT78 (L := Q.getD h []) (y := y) hpp.1 (fun i hi => ix_lt hpp hi) i78 ey (by omega)) rfl (fun x84 w84 h84 => ?_)
                obtain ⟨rfl, rfl⟩ := h84
                have hnp := nxt_perm hn.2 hr (hall y (by omega)) hpp (show y < n by omega)
                have hgs := goodQ_step hn.2 hr (hall y (by omega)) hpp (show y < n by omega) gP
                have hls := goodQ_len hn hgs
                have hP78 : QM w78 n P := ⟨by rw [f78 _ _ (by omega)]; exact hP3.1, fun i hi => by rw [f78 _ _ (by omega)]; exact hP3.2 i hi⟩
                refine go_callVv (as := [_, _]) (As := [_]) (rest := []) (n := 1) (q := 90) dX7_groupSize_87 lk_X7_118 (ci := 7) (N := 16) (T := TX7) rfl (by first | assumption | rfl) rfl rfl (by decide +kernel) rfl ⟨by decide, by decide⟩ ⟨rfl, rfl⟩ (Nat.le_of_ble_eq_true rfl) (em_keepsFound (Q := P) (p := nxtL f (Q.getD h []) y) hn.2 gP hlP hP78 hnp rfl (fun z => by unfold bfsP at hls; rw [if_neg z, List.length_append, List.length_singleton] at hls; omega)) rfl (fun w87 h87 => ?_)
                obtain ⟨h87, f87⟩ := h87
                refine go_iinc (j := 3) (q := 93) (ls2 := [_, _, _, _]) rfl (by decide) rfl rfl dX7_groupSize_90 rfl ?_
                refine go_goto (q := 61) dX7_groupSize_93 (by decide) ?_
                (have eB : bfsP f (Q.getD h []) y P = addQ (nxtL f (Q.getD h []) y) P := rfl
                 rw [← eB] at h87
                 have hlb : P.length ≤ (bfsP f (Q.getD h []) y P).length ∧ (bfsP f (Q.getD h []) y P).getD h [] = P.getD h [] := by
                   unfold bfsP
                   split
                   · exact ⟨Nat.le_refl _, rfl⟩
                   · rw [List.length_append]; exact ⟨by omega, gD_l hPQ.1⟩
                 exact ih61 _ (by omega) (y + 1) _ _ (bfsP f (Q.getD h []) y P) (by show _ = bfsP f _ y (bfsY f _ Q y); rw [← eP]) (by omega) hgs (by omega) ⟨by omega, by rw [hlb.2]; exact hPQ.2⟩ (by omega) h87 (fun c k z1 z2 z3 => by rw [f87 c k z1 z3, f78 c k z2]; exact hf3 c k z1 z2 z3) rfl)
            exact lp61 _ 0 0 _ Q rfl (by omega) gQ (Nat.le_refl _) ⟨by omega, rfl⟩ rfl hQ hf2 rfl
        exact lp51 _ 0 0 _ _ [idL n] rfl (by simp) (goodQ_0 hn.2) rfl h46 fr rfl
      · refine go_bipush (q := 28) rfl dX7_groupSize_26 rfl ?_
        refine go_iload_n (j := 1) (q := 29) rfl rfl dX7_groupSize_28 rfl ?_
        refine go_imul (q := 30) dX7_groupSize_29 rfl ?_
        refine go_iload_n (j := 2) (q := 31) rfl rfl dX7_groupSize_30 rfl ?_
        refine go_iadd (q := 32) dX7_groupSize_31 rfl ?_
        refine go_istore_n (j := 1) (q := 33) (ls2 := [_, _, _, _]) rfl (by decide) rfl rfl dX7_groupSize_32 rfl ?_
        refine go_iinc (j := 2) (q := 36) (ls2 := [_, _, _, _]) rfl (by decide) rfl rfl dX7_groupSize_33 rfl ?_
        refine go_goto (q := 16) dX7_groupSize_36 (by decide) ?_
        exact ih16 _ (by omega) (x + 1) _ _ _ (by omega) (by omega) (by show _ = ((Vn 6 (ix (idL n)) x * 6 + ix (idL n) x : Nat) : Int); rw [hix x (by omega)]; omega) rfl
    exact lp16 _ 0 0 0 _ rfl (by omega) rfl rfl
  · refine go_bipush (q := 11) rfl dX7_groupSize_9 rfl ?_
    refine go_iret dX7_groupSize_11 ?_
    subst hK
    have hno : ¬ ∀ y, y < n → prm n f y := by
      rcases h1 with ⟨z, z1, z2, z3, z4⟩ | ⟨z1, z2⟩
      · exact fun q => z3 (q z z1)
      · omega
    exact ⟨_, rfl, (cif_f hno).symm, fun c k _ _ _ => rfl⟩
theorem em16 (hP : PMW w W) : eX7_innerGroup l D ck ad shA [vR 45] w (Pi (MR w (op16 W))) := by
  refine ev_of_goK (own := RX7) (ls := [some (vR 45)]) (by decide +kernel) rfl rfl (Nat.le_of_ble_eq_true rfl) rkI ?_
  intro K hK
  refine go_aload_n (j := 0) (q := 1) rfl rfl dX7_innerGroup_0 rfl ?_
  refine go_callVi (as := [_]) (As := []) (rest := []) (n := 0) (q := 4) dX7_innerGroup_1 lk_X7_127 (ci := 7) (N := 16) (T := TX7) rfl (by first | assumption | rfl) rfl rfl (by decide +kernel) rfl ⟨by decide, by decide⟩ ⟨rfl, rfl⟩ (Nat.le_of_ble_eq_true rfl) (em_groupSize hP.1.1) rfl (fun x1 w1 h1 => ?_)
  obtain ⟨rfl, f1⟩ := h1
  refine go_iret dX7_innerGroup_4 ?_
  subst hK; exact ⟨_, rfl, rfl, PMW_q hP (fun c k z => f1 _ _ (by omega) (by omega) (by omega)), fun c k z => f1 _ _ (by omega) (by omega) (by omega)⟩
theorem em_isAutomorphism (hT : TMv (w 46) n f) {L : List Nat} (hL : L.length = n) (hLl : ∀ i, i < n → ix L i < 6) (hI : ∀ i, i < n → w 50 i = (ix L i : Int)) : eX7_isAutomorphism l D ck ad shA [vR 45] w (Pz (fun w1 => w = w1 ∧ autP n f L) (fun w1 => w = w1 ∧ ¬ autP n f L)) := by
  have hn := hT.2.1
  have g0 := hT.1
  have hr : ∀ i j, i < n → j < n → f i j < n := fun i j hi hj => (hT.2.2 i j hi hj).2
  have h64 : 2 ^ n ≤ 2 ^ 6 := Nat.pow_le_pow_right (by decide) hn.2
  have h1p := Nat.one_le_two_pow (n := n)
  have hml : ∀ k, k ≤ n → msk (ix L) k < 2 ^ 6 := fun k hk => msk_lt k (fun i hi => hLl i (by omega))
  refine ev_of_goK (own := RX7) (ls := [some (vR 45), none, none, none, none]) (by decide +kernel) rfl rfl (Nat.le_of_ble_eq_true rfl) rkZ ?_
  intro K hK
  have key : ∀ (mi bi : Int) (u v : Option MV), ((bi = 1 ∧ permL n L) ∨ (bi = 0 ∧ ¬ permL n L)) → gX7_isAutomorphism l D ck ad shA 51 [some (vR 45), some (vI mi), some (vI bi), u, v] [] w K := by
    intro mi bi u v hb
    refine go_iconst (q := 52) dX7_isAutomorphism_51 rfl ?_
    refine go_istore_n (j := 3) (q := 53) (ls2 := [_, _, _, _, _]) rfl (by decide) rfl rfl dX7_isAutomorphism_52 rfl ?_
    have lp53 : ∀ (m53 : Nat) (x : Nat) (xi ci : Int) (t : Option MV) (ex : xi = x) (hx : x ≤ n) (hc : (ci = 1 ∧ permL n L ∧ ∀ i, i < x → ∀ j, j < n → ix L (f i j) = f (ix L i) (ix L j)) ∨ (ci = 0 ∧ ¬ autP n f L)), m53 = n - x → gX7_isAutomorphism l D ck ad shA 53 [some (vR 45), some (vI mi), some (vI ci), some (vI xi), t] [] w K := by
      intro m53
      induction m53 using Nat.strongRecOn with
      | _ m53 ih53 =>
      intro x xi ci t ex hx hc em53
      refine go_iload_n (j := 3) (q := 54) rfl rfl dX7_isAutomorphism_53 rfl ?_
      refine go_aload_n (j := 0) (q := 55) rfl rfl dX7_isAutomorphism_54 rfl ?_
      refine go_getR (C0 := RX7) (T := TX7) (N := 16) (ci := 7) (i := 0) (q := 58) rfl igX7 (by first | assumption | rfl) (by decide) fl_X7_7 rfl dX7_isAutomorphism_55 rfl ?_
      refine go_iconst (q := 59) dX7_isAutomorphism_58 rfl ?_
      refine go_iald (j := 0) (q := 60) (by first | assumption | rfl) (wr_eq (by omega)) (by omega) dX7_isAutomorphism_59 rfl ?_
      refine go_icmp_ge2 (q := 63) (t := 135) dX7_isAutomorphism_60 (by decide) rfl (by omega) (fun c60 => ?_) (fun c60 => ?_)
      · refine go_iload_n (j := 2) (q := 136) rfl rfl dX7_isAutomorphism_135 rfl ?_
        refine go_iret dX7_isAutomorphism_136 ?_
        subst hK
        rcases hc with ⟨z1, z2, z3⟩ | ⟨z1, z2⟩
        · subst z1; exact Or.inl ⟨rfl, rfl, z2, fun i j h1 h2 => z3 i (by omega) j h2⟩
        · subst z1; exact Or.inr ⟨rfl, rfl, z2⟩
      · refine go_iload_n (j := 2) (q := 64) rfl rfl dX7_isAutomorphism_63 rfl ?_
        refine go_if_eq2 (q := 67) (t := 135) dX7_isAutomorphism_64 (by decide) rfl (by omega) (fun c64 => ?_) (fun c64 => ?_)
        · refine go_iload_n (j := 2) (q := 136) rfl rfl dX7_isAutomorphism_135 rfl ?_
          refine go_iret dX7_isAutomorphism_136 ?_
          subst hK
          rcases hc with ⟨z1, z2, z3⟩ | ⟨z1, z2⟩
          · subst z1; exact Or.inl ⟨rfl, rfl, z2, fun i j h1 h2 => z3 i (by omega) j h2⟩
          · subst z1; exact Or.inr ⟨rfl, rfl, z2⟩
        · refine go_iconst (q := 68) dX7_isAutomorphism_67 rfl ?_
          refine go_istore (j := 4) (q := 70) (ls2 := [_, _, _, _, _]) (by decide) rfl rfl dX7_isAutomorphism_68 rfl ?_
          have lp70 : ∀ (m70 : Nat) (y : Nat) (yi di : Int) (ey : yi = y) (hy : y ≤ n) (hd : (di = 1 ∧ permL n L ∧ ∀ j, j < y → ix L (f x j) = f (ix L x) (ix L j)) ∨ (di = 0 ∧ ¬ autP n f L)), m70 = n - y → gX7_isAutomorphism l D ck ad shA 70 [some (vR 45), some (vI mi), some (vI di), some (vI xi), some (vI yi)] [] w K := by
            intro m70
            induction m70 using Nat.strongRecOn with
            | _ m70 ih70 =>
            intro y yi di ey hy hd em70
            refine go_iload (j := 4) (q := 72) rfl dX7_isAutomorphism_70 rfl ?_
            refine go_aload_n (j := 0) (q := 73) rfl rfl dX7_isAutomorphism_72 rfl ?_
            refine go_getR (C0 := RX7) (T := TX7) (N := 16) (ci := 7) (i := 0) (q := 76) rfl igX7 (by first | assumption | rfl) (by decide) fl_X7_7 rfl dX7_isAutomorphism_73 rfl ?_
            refine go_iconst (q := 77) dX7_isAutomorphism_76 rfl ?_
            refine go_iald (j := 0) (q := 78) (by first | assumption | rfl) (wr_eq (by omega)) (by omega) dX7_isAutomorphism_77 rfl ?_
            refine go_icmp_ge2 (q := 81) (t := 129) dX7_isAutomorphism_78 (by decide) rfl (by omega) (fun c78 => ?_) (fun c78 => ?_)
            · refine go_iinc (j := 3) (q := 132) (ls2 := [_, _, _, _, _]) rfl (by decide) rfl rfl dX7_isAutomorphism_129 rfl ?_
              refine go_goto (q := 53) dX7_isAutomorphism_132 (by decide) ?_
              (refine ih53 _ (by omega) (x + 1) _ _ _ (by omega) (by omega) ?_ rfl
               rcases hd with ⟨z1, z2, z3⟩ | ⟨z1, z2⟩
               · rcases hc with ⟨y1, y2, y3⟩ | ⟨y1, y2⟩
                 · exact Or.inl ⟨z1, z2, fun i h => all_lt (P := fun i => ∀ j, j < n → ix L (f i j) = f (ix L i) (ix L j)) y3 (fun j hj => z3 j (by omega)) h⟩
                 · omega
               · exact Or.inr ⟨z1, z2⟩)
            · refine go_iload_n (j := 2) (q := 82) rfl rfl dX7_isAutomorphism_81 rfl ?_
              refine go_if_eq2 (q := 85) (t := 121) dX7_isAutomorphism_82 (by decide) rfl (by omega) (fun c82 => ?_) (fun c82 => ?_)
              · refine go_iconst (q := 122) dX7_isAutomorphism_121 rfl ?_
                refine go_istore_n (j := 2) (q := 123) (ls2 := [_, _, _, _, _]) rfl (by decide) rfl rfl dX7_isAutomorphism_122 rfl ?_
                refine go_iinc (j := 4) (q := 126) (ls2 := [_, _, _, _, _]) rfl (by decide) rfl rfl dX7_isAutomorphism_123 rfl ?_
                refine go_goto (q := 70) dX7_isAutomorphism_126 (by decide) ?_
                first
                | (have zq := zp
                   exact ih70 _ (by omega) (y + 1) _ _ (by omega) (by omega) (Or.inl ⟨rfl, hd1.1, fun j h => all_lt (P := fun j => ix L (f x j) = f (ix L x) (ix L j)) hd1.2 zp h⟩) rfl)
                | (have zq := zn
                   exact ih70 _ (by omega) (y + 1) _ _ (by omega) (by omega) (Or.inr ⟨rfl, fun z => zn (z.2 x y (by omega) (by omega))⟩) rfl)
                | (have zd : ¬ autP n f L := by
                     rcases hd with ⟨z1, z2⟩ | ⟨z1, z2⟩
                     · omega
                     · exact z2
                   exact ih70 _ (by omega) (y + 1) _ _ (by omega) (by omega) (Or.inr ⟨rfl, zd⟩) rfl)
              · have hd1 : permL n L ∧ ∀ j, j < y → ix L (f x j) = f (ix L x) (ix L j) := by
                  rcases hd with ⟨z1, z2⟩ | ⟨z1, z2⟩
                  · exact z2
                  · omega
                have b1 := hr x y (by omega) (by omega)
                have e1 := hI (f x y) b1
                have e2 := hI x (by omega)
                have e3 := hI y (by omega)
                have l2 := ix_lt hd1.1 (show x < n by omega)
                have l3 := ix_lt hd1.1 (show y < n by omega)
                have b2 := ix_lt hd1.1 b1
                have b3 := hr (ix L x) (ix L y) l2 l3
                refine go_aload_n (j := 0) (q := 86) rfl rfl dX7_isAutomorphism_85 rfl ?_
                refine go_getR (C0 := RX7) (T := TX7) (N := 16) (ci := 7) (i := 7) (q := 89) rfl igX7 (by first | assumption | rfl) (by decide) fl_X7_22 rfl dX7_isAutomorphism_86 rfl ?_
                refine go_aload_n (j := 0) (q := 90) rfl rfl dX7_isAutomorphism_89 rfl ?_
                refine go_iload_n (j := 3) (q := 91) rfl rfl dX7_isAutomorphism_90 rfl ?_
                refine go_iload (j := 4) (q := 93) rfl dX7_isAutomorphism_91 rfl ?_
                refine go_callVi (as := [_, _, _]) (As := [_, _]) (rest := [_]) (n := 2) (q := 96) dX7_isAutomorphism_93 lk_X7_67 (ci := 7) (N := 16) (T := TX7) rfl (by first | assumption | rfl) rfl rfl (by decide +kernel) rfl ⟨by decide, by decide⟩ ⟨rfl, rfl⟩ (Nat.le_of_ble_eq_true rfl) (em_times hT (x := x) (y := y) ex ey (by omega) (by omega)) rfl (fun x93 w93 h93 => ?_)
                obtain ⟨rfl, rfl⟩ := h93
                refine go_iald (j := f x y) (q := 97) (by first | assumption | rfl) (wr_eq (by omega)) (by omega) dX7_isAutomorphism_96 rfl ?_
                refine go_aload_n (j := 0) (q := 98) rfl rfl dX7_isAutomorphism_97 rfl ?_
                refine go_aload_n (j := 0) (q := 99) rfl rfl dX7_isAutomorphism_98 rfl ?_
                refine go_getR (C0 := RX7) (T := TX7) (N := 16) (ci := 7) (i := 7) (q := 102) rfl igX7 (by first | assumption | rfl) (by decide) fl_X7_22 rfl dX7_isAutomorphism_99 rfl ?_
                refine go_iload_n (j := 3) (q := 103) rfl rfl dX7_isAutomorphism_102 rfl ?_
                refine go_iald (j := x) (q := 104) (by first | assumption | rfl) (wr_eq (by omega)) (by omega) dX7_isAutomorphism_103 rfl ?_
                refine go_aload_n (j := 0) (q := 105) rfl rfl dX7_isAutomorphism_104 rfl ?_
                refine go_getR (C0 := RX7) (T := TX7) (N := 16) (ci := 7) (i := 7) (q := 108) rfl igX7 (by first | assumption | rfl) (by decide) fl_X7_22 rfl dX7_isAutomorphism_105 rfl ?_
                refine go_iload (j := 4) (q := 110) rfl dX7_isAutomorphism_108 rfl ?_
                refine go_iald (j := y) (q := 111) (by first | assumption | rfl) (wr_eq (by omega)) (by omega) dX7_isAutomorphism_110 rfl ?_
                refine go_callVi (as := [_, _, _]) (As := [_, _]) (rest := [_]) (n := 2) (q := 114) dX7_isAutomorphism_111 lk_X7_67 (ci := 7) (N := 16) (T := TX7) rfl (by first | assumption | rfl) rfl rfl (by decide +kernel) rfl ⟨by decide, by decide⟩ ⟨rfl, rfl⟩ (Nat.le_of_ble_eq_true rfl) (em_times hT (x := ix L x) (y := ix L y) e2 e3 l2 l3) rfl (fun x111 w111 h111 => ?_)
                obtain ⟨rfl, rfl⟩ := h111
                refine go_icmp_ne2 (q := 117) (t := 121) dX7_isAutomorphism_114 (by decide) rfl (by omega) (fun c114 => ?_) (fun c114 => ?_)
                · have zn : ¬ ix L (f x y) = f (ix L x) (ix L y) := by omega
                  refine go_iconst (q := 122) dX7_isAutomorphism_121 rfl ?_
                  refine go_istore_n (j := 2) (q := 123) (ls2 := [_, _, _, _, _]) rfl (by decide) rfl rfl dX7_isAutomorphism_122 rfl ?_
                  refine go_iinc (j := 4) (q := 126) (ls2 := [_, _, _, _, _]) rfl (by decide) rfl rfl dX7_isAutomorphism_123 rfl ?_
                  refine go_goto (q := 70) dX7_isAutomorphism_126 (by decide) ?_
                  first
                  | (have zq := zp
                     exact ih70 _ (by omega) (y + 1) _ _ (by omega) (by omega) (Or.inl ⟨rfl, hd1.1, fun j h => all_lt (P := fun j => ix L (f x j) = f (ix L x) (ix L j)) hd1.2 zp h⟩) rfl)
                  | (have zq := zn
                     exact ih70 _ (by omega) (y + 1) _ _ (by omega) (by omega) (Or.inr ⟨rfl, fun z => zn (z.2 x y (by omega) (by omega))⟩) rfl)
                  | (have zd : ¬ autP n f L := by
                       rcases hd with ⟨z1, z2⟩ | ⟨z1, z2⟩
                       · omega
                       · exact z2
                     exact ih70 _ (by omega) (y + 1) _ _ (by omega) (by omega) (Or.inr ⟨rfl, zd⟩) rfl)
                · have zp : ix L (f x y) = f (ix L x) (ix L y) := by omega
                  refine go_iconst (q := 118) dX7_isAutomorphism_117 rfl ?_
                  refine go_goto (q := 122) dX7_isAutomorphism_118 (by decide) ?_
                  refine go_istore_n (j := 2) (q := 123) (ls2 := [_, _, _, _, _]) rfl (by decide) rfl rfl dX7_isAutomorphism_122 rfl ?_
                  refine go_iinc (j := 4) (q := 126) (ls2 := [_, _, _, _, _]) rfl (by decide) rfl rfl dX7_isAutomorphism_123 rfl ?_
                  refine go_goto (q := 70) dX7_isAutomorphism_126 (by decide) ?_
                  first
                  | (have zq := zp
                     exact ih70 _ (by omega) (y + 1) _ _ (by omega) (by omega) (Or.inl ⟨rfl, hd1.1, fun j h => all_lt (P := fun j => ix L (f x j) = f (ix L x) (ix L j)) hd1.2 zp h⟩) rfl)
                  | (have zq := zn
                     exact ih70 _ (by omega) (y + 1) _ _ (by omega) (by omega) (Or.inr ⟨rfl, fun z => zn (z.2 x y (by omega) (by omega))⟩) rfl)
                  | (have zd : ¬ autP n f L := by
                       rcases hd with ⟨z1, z2⟩ | ⟨z1, z2⟩
                       · omega
                       · exact z2
                     exact ih70 _ (by omega) (y + 1) _ _ (by omega) (by omega) (Or.inr ⟨rfl, zd⟩) rfl)
          exact lp70 _ 0 0 _ rfl (by omega) (by
            rcases hc with ⟨z1, z2, z3⟩ | ⟨z1, z2⟩
            · exact Or.inl ⟨z1, z2, fun i h => absurd h (Nat.not_lt_zero i)⟩
            · exact Or.inr ⟨z1, z2⟩) rfl
    exact lp53 _ 0 0 _ _ rfl (by omega) (by
      rcases hb with ⟨z1, z2⟩ | ⟨z1, z2⟩
      · exact Or.inl ⟨z1, z2, fun i h => absurd h (Nat.not_lt_zero i)⟩
      · exact Or.inr ⟨z1, fun z => z2 z.1⟩) rfl
  refine go_iconst (q := 1) dX7_isAutomorphism_0 rfl ?_
  refine go_istore_n (j := 1) (q := 2) (ls2 := [_, _, _, _, _]) rfl (by decide) rfl rfl dX7_isAutomorphism_1 rfl ?_
  refine go_iconst (q := 3) dX7_isAutomorphism_2 rfl ?_
  refine go_istore_n (j := 2) (q := 4) (ls2 := [_, _, _, _, _]) rfl (by decide) rfl rfl dX7_isAutomorphism_3 rfl ?_
  have lp4 : ∀ (m4 : Nat) (x : Nat) (xi mi : Int) (u v : Option MV) (ex : xi = x) (hx : x ≤ n) (em : mi = (msk (ix L) x : Nat)), m4 = n - x → gX7_isAutomorphism l D ck ad shA 4 [some (vR 45), some (vI mi), some (vI xi), u, v] [] w K := by
    intro m4
    induction m4 using Nat.strongRecOn with
    | _ m4 ih4 =>
    intro x xi mi u v ex hx em em4
    refine go_iload_n (j := 2) (q := 5) rfl rfl dX7_isAutomorphism_4 rfl ?_
    refine go_aload_n (j := 0) (q := 6) rfl rfl dX7_isAutomorphism_5 rfl ?_
    refine go_getR (C0 := RX7) (T := TX7) (N := 16) (ci := 7) (i := 0) (q := 9) rfl igX7 (by first | assumption | rfl) (by decide) fl_X7_7 rfl dX7_isAutomorphism_6 rfl ?_
    refine go_iconst (q := 10) dX7_isAutomorphism_9 rfl ?_
    refine go_iald (j := 0) (q := 11) (by first | assumption | rfl) (wr_eq (by omega)) (by omega) dX7_isAutomorphism_10 rfl ?_
    refine go_icmp_ge2 (q := 14) (t := 31) dX7_isAutomorphism_11 (by decide) rfl (by omega) (fun c11 => ?_) (fun c11 => ?_)
    · refine go_iload_n (j := 1) (q := 32) rfl rfl dX7_isAutomorphism_31 rfl ?_
      refine go_iconst (q := 33) dX7_isAutomorphism_32 rfl ?_
      refine go_aload_n (j := 0) (q := 34) rfl rfl dX7_isAutomorphism_33 rfl ?_
      refine go_getR (C0 := RX7) (T := TX7) (N := 16) (ci := 7) (i := 0) (q := 37) rfl igX7 (by first | assumption | rfl) (by decide) fl_X7_7 rfl dX7_isAutomorphism_34 rfl ?_
      refine go_iconst (q := 38) dX7_isAutomorphism_37 rfl ?_
      refine go_iald (j := 0) (q := 39) (by first | assumption | rfl) (wr_eq (by omega)) (by omega) dX7_isAutomorphism_38 rfl ?_
      refine go_ishl (q := 40) dX7_isAutomorphism_39 rfl ?_
      rw [g0, shl_eq (by omega)]
      have h2 := hml n (Nat.le_refl n)
      have emn : mi = (msk (ix L) n : Nat) := by rw [em, show x = n by omega]
      refine go_iconst (q := 41) dX7_isAutomorphism_40 rfl ?_
      refine go_isub (q := 42) dX7_isAutomorphism_41 rfl ?_
      refine go_icmp_ne2 (q := 45) (t := 49) dX7_isAutomorphism_42 (by decide) rfl (by omega) (fun c42 => ?_) (fun c42 => ?_)
      · refine go_iconst (q := 50) dX7_isAutomorphism_49 rfl ?_
        refine go_istore_n (j := 2) (q := 51) (ls2 := [_, _, _, _, _]) rfl (by decide) rfl rfl dX7_isAutomorphism_50 rfl ?_
        exact key _ _ _ _ (by first | exact Or.inl ⟨rfl, hL, by omega⟩ | exact Or.inr ⟨rfl, fun z => by have := z.2; omega⟩)
      · refine go_iconst (q := 46) dX7_isAutomorphism_45 rfl ?_
        refine go_goto (q := 50) dX7_isAutomorphism_46 (by decide) ?_
        refine go_istore_n (j := 2) (q := 51) (ls2 := [_, _, _, _, _]) rfl (by decide) rfl rfl dX7_isAutomorphism_50 rfl ?_
        exact key _ _ _ _ (by first | exact Or.inl ⟨rfl, hL, by omega⟩ | exact Or.inr ⟨rfl, fun z => by have := z.2; omega⟩)
    · refine go_iload_n (j := 1) (q := 15) rfl rfl dX7_isAutomorphism_14 rfl ?_
      refine go_iconst (q := 16) dX7_isAutomorphism_15 rfl ?_
      refine go_aload_n (j := 0) (q := 17) rfl rfl dX7_isAutomorphism_16 rfl ?_
      refine go_getR (C0 := RX7) (T := TX7) (N := 16) (ci := 7) (i := 7) (q := 20) rfl igX7 (by first | assumption | rfl) (by decide) fl_X7_22 rfl dX7_isAutomorphism_17 rfl ?_
      refine go_iload_n (j := 2) (q := 21) rfl rfl dX7_isAutomorphism_20 rfl ?_
      refine go_iald (j := x) (q := 22) (by first | assumption | rfl) (wr_eq (by omega)) (by omega) dX7_isAutomorphism_21 rfl ?_
      have e21 := hI x (by omega)
      have l21 := hLl x (by omega)
      rw [e21]
      refine go_ishl (q := 23) dX7_isAutomorphism_22 rfl ?_
      refine go_ior (q := 24) dX7_isAutomorphism_23 rfl ?_
      refine go_istore_n (j := 1) (q := 25) (ls2 := [_, _, _, _, _]) rfl (by decide) rfl rfl dX7_isAutomorphism_24 rfl ?_
      refine go_iinc (j := 2) (q := 28) (ls2 := [_, _, _, _, _]) rfl (by decide) rfl rfl dX7_isAutomorphism_25 rfl ?_
      refine go_goto (q := 4) dX7_isAutomorphism_28 (by decide) ?_
      exact ih4 _ (by omega) (x + 1) _ _ _ _ (by omega) (by omega) (by
        have h2 := hml x (by omega)
        have h3 : 2 ^ ix L x < 2 ^ 6 := two_lt l21
        rw [em, shl_eq (by omega), or_eq (by omega) (by omega)]; rfl) rfl
  exact lp4 _ 0 0 0 _ _ rfl (by omega) rfl rfl
theorem em_automorphismsMany (hT : TMv (w 46) n f) : eX7_automorphismsMany l D ck ad shA [vR 45] w (Pi fun v w1 => v = (autN n f : Int) ∧ ∀ c k, c ≠ 50 → w1 c k = w c k) := by
  have hn := hT.2.1
  have g0 := hT.1
  have h6 : ∀ k, k ≤ n → 6 ^ k ≤ 46656 := fun k hk => by have := Nat.pow_le_pow_right (n := 6) (by decide) (show k ≤ 6 by omega); omega
  refine ev_of_goK (own := RX7) (ls := [some (vR 45), none, none, none]) (by decide +kernel) rfl rfl (Nat.le_of_ble_eq_true rfl) rkI ?_
  intro K hK
  refine go_iconst (q := 1) dX7_automorphismsMany_0 rfl ?_
  refine go_istore_n (j := 1) (q := 2) (ls2 := [_, _, _, _]) rfl (by decide) rfl rfl dX7_automorphismsMany_1 rfl ?_
  refine go_iconst (q := 3) dX7_automorphismsMany_2 rfl ?_
  refine go_istore_n (j := 2) (q := 4) (ls2 := [_, _, _, _]) rfl (by decide) rfl rfl dX7_automorphismsMany_3 rfl ?_
  have lp4 : ∀ (m4 : Nat) (x : Nat) (xi ai : Int) (u : Option MV) (ex : xi = x) (hx : x ≤ n) (ea : ai = (6 ^ x : Nat)), m4 = n - x → gX7_automorphismsMany l D ck ad shA 4 [some (vR 45), some (vI ai), some (vI xi), u] [] w K := by
    intro m4
    induction m4 using Nat.strongRecOn with
    | _ m4 ih4 =>
    intro x xi ai u ex hx ea em4
    refine go_iload_n (j := 2) (q := 5) rfl rfl dX7_automorphismsMany_4 rfl ?_
    refine go_aload_n (j := 0) (q := 6) rfl rfl dX7_automorphismsMany_5 rfl ?_
    refine go_getR (C0 := RX7) (T := TX7) (N := 16) (ci := 7) (i := 0) (q := 9) rfl igX7 (by first | assumption | rfl) (by decide) fl_X7_7 rfl dX7_automorphismsMany_6 rfl ?_
    refine go_iconst (q := 10) dX7_automorphismsMany_9 rfl ?_
    refine go_iald (j := 0) (q := 11) (by first | assumption | rfl) (wr_eq (by omega)) (by omega) dX7_automorphismsMany_10 rfl ?_
    refine go_icmp_ge2 (q := 14) (t := 25) dX7_automorphismsMany_11 (by decide) rfl (by omega) (fun c11 => ?_) (fun c11 => ?_)
    · have ean : ai = (6 ^ n : Nat) := by rw [ea, show x = n by omega]
      have h6n := h6 n (Nat.le_refl n)
      refine go_iconst (q := 26) dX7_automorphismsMany_25 rfl ?_
      refine go_istore_n (j := 2) (q := 27) (ls2 := [_, _, _, _]) rfl (by decide) rfl rfl dX7_automorphismsMany_26 rfl ?_
      refine go_iconst (q := 28) dX7_automorphismsMany_27 rfl ?_
      refine go_istore_n (j := 3) (q := 29) (ls2 := [_, _, _, _]) rfl (by decide) rfl rfl dX7_automorphismsMany_28 rfl ?_
      have lp29 : ∀ (m29 : Nat) (r : Nat) (ri ci : Int) (w1 : Mem) (er : ri = r) (hr : r ≤ 6 ^ n) (ec : ci = (cN (fun r => autB n f (unp n r)) r : Nat)) (hf1 : ∀ c k, c ≠ 50 → w1 c k = w c k), m29 = 6 ^ n - r → gX7_automorphismsMany l D ck ad shA 29 [some (vR 45), some (vI ai), some (vI ci), some (vI ri)] [] w1 K := by
        intro m29
        induction m29 using Nat.strongRecOn with
        | _ m29 ih29 =>
        intro r ri ci w1 er hr ec hf1 em29
        have hT1 : TMv (w1 46) n f := TMv_c hT (fun k _ => hf1 _ _ (by omega))
        refine go_iload_n (j := 3) (q := 30) rfl rfl dX7_automorphismsMany_29 rfl ?_
        refine go_iload_n (j := 1) (q := 31) rfl rfl dX7_automorphismsMany_30 rfl ?_
        refine go_icmp_ge2 (q := 34) (t := 60) dX7_automorphismsMany_31 (by decide) rfl (by omega) (fun c31 => ?_) (fun c31 => ?_)
        · refine go_iload_n (j := 2) (q := 61) rfl rfl dX7_automorphismsMany_60 rfl ?_
          refine go_iret dX7_automorphismsMany_61 ?_
          subst hK
          exact ⟨_, rfl, by rw [ec, show r = 6 ^ n by omega, aut_eq hn], hf1⟩
        · refine go_aload_n (j := 0) (q := 35) rfl rfl dX7_automorphismsMany_34 rfl ?_
          refine go_iload_n (j := 3) (q := 36) rfl rfl dX7_automorphismsMany_35 rfl ?_
          refine go_callVv (as := [_, _]) (As := [_]) (rest := []) (n := 1) (q := 39) dX7_automorphismsMany_36 lk_X7_121 (ci := 7) (N := 16) (T := TX7) rfl (by first | assumption | rfl) rfl rfl (by decide +kernel) rfl ⟨by decide, by decide⟩ ⟨rfl, rfl⟩ (Nat.le_of_ble_eq_true rfl) (em_unpacks hT1 (r := r) er (by omega)) rfl (fun w36 h36 => ?_)
          obtain ⟨i36, f36⟩ := h36
          have hT2 : TMv (w36 46) n f := TMv_c hT1 (fun k _ => f36 _ _ (by omega))
          have hf2 : ∀ c k, c ≠ 50 → w36 c k = w c k := fun c k h => by rw [f36 c k h]; exact hf1 c k h
          refine go_iload_n (j := 2) (q := 40) rfl rfl dX7_automorphismsMany_39 rfl ?_
          refine go_aload_n (j := 0) (q := 41) rfl rfl dX7_automorphismsMany_40 rfl ?_
          refine go_callVz (as := [_]) (As := []) (rest := [_]) (n := 0) (q := 44) dX7_automorphismsMany_41 lk_X7_130 (ci := 7) (N := 16) (T := TX7) rfl (by first | assumption | rfl) rfl rfl (by decide +kernel) rfl ⟨by decide, by decide⟩ ⟨rfl, rfl⟩ (Nat.le_of_ble_eq_true rfl) (em_isAutomorphism (L := unp n r) hT2 (unpS_len r n) (fun i hi => unpS_lt r n i hi) i36) rfl (fun w41 h41 => ?_) (fun w41 h41 => ?_)
          · obtain ⟨rfl, h41⟩ := h41
            refine go_if_eqF (q := 47) (t := 51) dX7_automorphismsMany_44 rfl (by decide) (by decide) ?_
            refine go_iconst (q := 48) dX7_automorphismsMany_47 rfl ?_
            refine go_goto (q := 52) dX7_automorphismsMany_48 (by decide) ?_
            refine go_iadd (q := 53) dX7_automorphismsMany_52 rfl ?_
            refine go_istore_n (j := 2) (q := 54) (ls2 := [_, _, _, _]) rfl (by decide) rfl rfl dX7_automorphismsMany_53 rfl ?_
            refine go_iinc (j := 3) (q := 57) (ls2 := [_, _, _, _]) rfl (by decide) rfl rfl dX7_automorphismsMany_54 rfl ?_
            refine go_goto (q := 29) dX7_automorphismsMany_57 (by decide) ?_
            first
            | (have q := autB_iff.mpr h41
               exact ih29 _ (by omega) (r + 1) _ _ _ (by omega) (by omega) (by simp only [cN, if_pos q]; omega) hf2 rfl)
            | (have q : ¬ autB n f (unp n r) = true := fun q => h41 (autB_iff.mp q)
               exact ih29 _ (by omega) (r + 1) _ _ _ (by omega) (by omega) (by simp only [cN, if_neg q]; omega) hf2 rfl)
          · obtain ⟨rfl, h41⟩ := h41
            refine go_if_eqT (t := 51) dX7_automorphismsMany_44 (by decide) (by decide) ?_
            refine go_iconst (q := 52) dX7_automorphismsMany_51 rfl ?_
            refine go_iadd (q := 53) dX7_automorphismsMany_52 rfl ?_
            refine go_istore_n (j := 2) (q := 54) (ls2 := [_, _, _, _]) rfl (by decide) rfl rfl dX7_automorphismsMany_53 rfl ?_
            refine go_iinc (j := 3) (q := 57) (ls2 := [_, _, _, _]) rfl (by decide) rfl rfl dX7_automorphismsMany_54 rfl ?_
            refine go_goto (q := 29) dX7_automorphismsMany_57 (by decide) ?_
            first
            | (have q := autB_iff.mpr h41
               exact ih29 _ (by omega) (r + 1) _ _ _ (by omega) (by omega) (by simp only [cN, if_pos q]; omega) hf2 rfl)
            | (have q : ¬ autB n f (unp n r) = true := fun q => h41 (autB_iff.mp q)
               exact ih29 _ (by omega) (r + 1) _ _ _ (by omega) (by omega) (by simp only [cN, if_neg q]; omega) hf2 rfl)
      exact lp29 _ 0 0 0 _ rfl (Nat.zero_le _) rfl (fun c k h => rfl) rfl
    · refine go_iload_n (j := 1) (q := 15) rfl rfl dX7_automorphismsMany_14 rfl ?_
      refine go_bipush (q := 17) rfl dX7_automorphismsMany_15 rfl ?_
      refine go_imul (q := 18) dX7_automorphismsMany_17 rfl ?_
      refine go_istore_n (j := 1) (q := 19) (ls2 := [_, _, _, _]) rfl (by decide) rfl rfl dX7_automorphismsMany_18 rfl ?_
      refine go_iinc (j := 2) (q := 22) (ls2 := [_, _, _, _]) rfl (by decide) rfl rfl dX7_automorphismsMany_19 rfl ?_
      refine go_goto (q := 4) dX7_automorphismsMany_22 (by decide) ?_
      exact ih4 _ (by omega) (x + 1) _ _ _ (by omega) (by omega) (by rw [ea, Nat.pow_succ]; omega) rfl
  exact lp4 _ 0 0 1 _ rfl (by omega) rfl rfl
theorem em17 (hP : PMW w W) : eX7_automorphisms l D ck ad shA [vR 45] w (Pi (MR w (op17 W))) := by
  refine ev_of_goK (own := RX7) (ls := [some (vR 45)]) (by decide +kernel) rfl rfl (Nat.le_of_ble_eq_true rfl) rkI ?_
  intro K hK
  refine go_aload_n (j := 0) (q := 1) rfl rfl dX7_automorphisms_0 rfl ?_
  refine go_callVi (as := [_]) (As := []) (rest := []) (n := 0) (q := 4) dX7_automorphisms_1 lk_X7_134 (ci := 7) (N := 16) (T := TX7) rfl (by first | assumption | rfl) rfl rfl (by decide +kernel) rfl ⟨by decide, by decide⟩ ⟨rfl, rfl⟩ (Nat.le_of_ble_eq_true rfl) (em_automorphismsMany hP.1.1) rfl (fun x1 w1 h1 => ?_)
  obtain ⟨rfl, f1⟩ := h1
  refine go_iret dX7_automorphisms_4 ?_
  subst hK; exact ⟨_, rfl, rfl, PMW_q hP (fun c k z => f1 _ _ (by omega)), fun c k z => f1 _ _ (by omega)⟩
end M4
