/-! the diagram in the cells d, d + 1 -/
def DG (w : Mem) (d a c : Nat) (g : Nat → Nat → Nat) (s : Nat → Int) : Prop := w d 0 = (a : Int) ∧ w d 1 = (c : Int) ∧ ((1 ≤ a ∧ a ≤ 7) ∧ c ≤ 10) ∧
  ∀ k, k < c → (w (d + 1) (4 * k) = (g k 0 : Int) ∧ w (d + 1) (4 * k + 1) = (g k 1 : Int) ∧ w (d + 1) (4 * k + 2) = (g k 2 : Int) ∧ w (d + 1) (4 * k + 3) = s k) ∧ (g k 0 < a ∧ g k 1 < a ∧ g k 2 < a) ∧ (s k = 1 ∨ s k = -1)
def gap (g : Nat → Nat → Nat) (c o i u : Nat) : Nat → Nat → Nat := fun k p => if k = c then (if p = 0 then o else if p = 1 then i else u) else g k p
def sap (s : Nat → Int) (c : Nat) (v : Int) : Nat → Int := fun k => if k = c then v else s k
def gmv (g : Nat → Nat → Nat) (x y : Nat) : Nat → Nat → Nat := fun k p => if p = 1 ∧ g k 1 = x then y else g k p
def grm (g : Nat → Nat → Nat) (q : Nat) : Nat → Nat → Nat := fun k p => if k < q then g k p else g (k + 1) p
def srm (s : Nat → Int) (q : Nat) : Nat → Int := fun k => if k < q then s k else s (k + 1)
def cAs (g : Nat → Nat → Nat) (p x c : Nat) : Nat := cN (fun k => decide (g k p = x)) c
def closedD (a c : Nat) (g : Nat → Nat → Nat) : Prop := ∀ x, x < a → cAs g 1 x c ≤ 1 ∧ cAs g 1 x c = cAs g 2 x c
def lnkD (g : Nat → Nat → Nat) (k : Nat) : Nat := 2 ^ g k 1 ||| 2 ^ g k 2
def stD (g : Nat → Nat → Nat) (k m : Nat) : Nat := if m &&& lnkD g k = 0 then m else m ||| lnkD g k
def cmpD (a c : Nat) (g : Nat → Nat → Nat) (x : Nat) : Nat := itN (fun m => fN (stD g) m c) (2 ^ x) a
def ccG (cmp : Nat → Nat) (k : Nat) : Nat × Nat := fN (fun x (p : Nat × Nat) => if p.2.testBit x = true then p else (p.1 + 1, p.2 ||| cmp x)) (0, 0) k
def sumZ (s : Nat → Int) (c : Nat) : Int := fN (fun k (z : Int) => z + s k) 0 c
def lksD (g : Nat → Nat → Nat) (s : Nat → Int) (u v c : Nat) : Int := fN (fun k (z : Int) => if u.testBit (g k 0) = true ∧ v.testBit (g k 1) = true then z + s k else z) 0 c
theorem stD_lt {a c : Nat} {g : Nat → Nat → Nat} (h : ∀ k, k < c → g k 1 < a ∧ g k 2 < a) {m : Nat} (hm : m < 2 ^ a) : ∀ k, k ≤ c → fN (stD g) m k < 2 ^ a := by
  intro k
  induction k with
  | zero => intro _; exact hm
  | succ k ih =>
    intro hk
    show stD g k (fN (stD g) m k) < 2 ^ a
    unfold stD; split
    · exact ih (by omega)
    · exact or_lt (ih (by omega)) (or_lt (two_lt (h k (by omega)).1) (two_lt (h k (by omega)).2))
theorem cmpD_lt {a c : Nat} {g : Nat → Nat → Nat} (h : ∀ k, k < c → g k 1 < a ∧ g k 2 < a) {x : Nat} (hx : x < a) : cmpD a c g x < 2 ^ a := by
  unfold cmpD
  exact itr_lt (fun m hm => stD_lt h hm c (Nat.le_refl c)) (two_lt hx) a
section DIA
variable {l : Launch} {D : va_G} {ck : Nat → ClassId} {ad : Nat → Nat} {sh : List Shp} {d a c : Nat} {g : Nat → Nat → Nat} {s : Nat → Int} {w : Mem}
theorem ev_hasArc (hd1 : sh[d]? = some (oDia d)) (hD : DG w d a c g s) {x : Int} (hx : -2147483648 ≤ x ∧ x < 2147483648) :
    eX1_hasArc l D ck ad sh [vR d, vI x] w (Pz (fun w1 => w = w1 ∧ (0 ≤ x ∧ x < a)) (fun w1 => w = w1 ∧ ¬ (0 ≤ x ∧ x < a))) := by
  obtain ⟨h0, h1, ha, hg⟩ := hD
  refine ev_of_goK (own := RX1) (ls := [some (vR d), some (vI x)]) (by decide +kernel) rfl rfl (Nat.le_of_ble_eq_true rfl) rkZ ?_
  intro K hK
  refine go_iload_n (j := 1) (q := 1) rfl rfl dX1_hasArc_0 rfl ?_
  refine go_if_lt2 (q := 4) (t := 16) dX1_hasArc_1 (by decide) rfl (by omega) (fun c1 => ?_) (fun c1 => ?_)
  · refine go_iconst (q := 17) dX1_hasArc_16 rfl ?_
    refine go_iret dX1_hasArc_17 ?_
    subst hK; first | exact Or.inl ⟨rfl, rfl, by omega⟩ | exact Or.inr ⟨rfl, rfl, by omega⟩
  · refine go_iload_n (j := 1) (q := 5) rfl rfl dX1_hasArc_4 rfl ?_
    refine go_aload_n (j := 0) (q := 6) rfl rfl dX1_hasArc_5 rfl ?_
    refine go_getI (C0 := RX1) (T := TX1) (N := 3) (ci := 1) (i := 0) (q := 9) rfl igX1 (by first | assumption | rfl) (by decide) fl_X1_9 rfl dX1_hasArc_6 rfl ?_
    refine go_icmp_ge2 (q := 12) (t := 16) dX1_hasArc_9 (by decide) rfl (by omega) (fun c9 => ?_) (fun c9 => ?_)
    · refine go_iconst (q := 17) dX1_hasArc_16 rfl ?_
      refine go_iret dX1_hasArc_17 ?_
      subst hK; first | exact Or.inl ⟨rfl, rfl, by omega⟩ | exact Or.inr ⟨rfl, rfl, by omega⟩
    · refine go_iconst (q := 13) dX1_hasArc_12 rfl ?_
      refine go_goto (q := 17) dX1_hasArc_13 (by decide) ?_
      refine go_iret dX1_hasArc_17 ?_
      subst hK; first | exact Or.inl ⟨rfl, rfl, by omega⟩ | exact Or.inr ⟨rfl, rfl, by omega⟩
theorem ev_hasCrossing (hd1 : sh[d]? = some (oDia d)) (hD : DG w d a c g s) {x : Int} (hx : -2147483648 ≤ x ∧ x < 2147483648) :
    eX1_hasCrossing l D ck ad sh [vR d, vI x] w (Pz (fun w1 => w = w1 ∧ (0 ≤ x ∧ x < c)) (fun w1 => w = w1 ∧ ¬ (0 ≤ x ∧ x < c))) := by
  obtain ⟨h0, h1, ha, hg⟩ := hD
  refine ev_of_goK (own := RX1) (ls := [some (vR d), some (vI x)]) (by decide +kernel) rfl rfl (Nat.le_of_ble_eq_true rfl) rkZ ?_
  intro K hK
  refine go_iload_n (j := 1) (q := 1) rfl rfl dX1_hasCrossing_0 rfl ?_
  refine go_if_lt2 (q := 4) (t := 16) dX1_hasCrossing_1 (by decide) rfl (by omega) (fun c1 => ?_) (fun c1 => ?_)
  · refine go_iconst (q := 17) dX1_hasCrossing_16 rfl ?_
    refine go_iret dX1_hasCrossing_17 ?_
    subst hK; first | exact Or.inl ⟨rfl, rfl, by omega⟩ | exact Or.inr ⟨rfl, rfl, by omega⟩
  · refine go_iload_n (j := 1) (q := 5) rfl rfl dX1_hasCrossing_4 rfl ?_
    refine go_aload_n (j := 0) (q := 6) rfl rfl dX1_hasCrossing_5 rfl ?_
    refine go_getI (C0 := RX1) (T := TX1) (N := 3) (ci := 1) (i := 1) (q := 9) rfl igX1 (by first | assumption | rfl) (by decide) fl_X1_15 rfl dX1_hasCrossing_6 rfl ?_
    refine go_icmp_ge2 (q := 12) (t := 16) dX1_hasCrossing_9 (by decide) rfl (by omega) (fun c9 => ?_) (fun c9 => ?_)
    · refine go_iconst (q := 17) dX1_hasCrossing_16 rfl ?_
      refine go_iret dX1_hasCrossing_17 ?_
      subst hK; first | exact Or.inl ⟨rfl, rfl, by omega⟩ | exact Or.inr ⟨rfl, rfl, by omega⟩
    · refine go_iconst (q := 13) dX1_hasCrossing_12 rfl ?_
      refine go_goto (q := 17) dX1_hasCrossing_13 (by decide) ?_
      refine go_iret dX1_hasCrossing_17 ?_
      subst hK; first | exact Or.inl ⟨rfl, rfl, by omega⟩ | exact Or.inr ⟨rfl, rfl, by omega⟩
theorem ev_hasRoom (hd1 : sh[d]? = some (oDia d)) (hD : DG w d a c g s) {x y : Int} (hx : (0 ≤ x ∧ x < 10) ∧ (0 ≤ y ∧ y < 10)) :
    eX1_hasRoom l D ck ad sh [vR d, vI x, vI y] w (Pz (fun w1 => w = w1 ∧ (a + x ≤ 7 ∧ c + y ≤ 10)) (fun w1 => w = w1 ∧ ¬ (a + x ≤ 7 ∧ c + y ≤ 10))) := by
  obtain ⟨h0, h1, ha, hg⟩ := hD
  refine ev_of_goK (own := RX1) (ls := [some (vR d), some (vI x), some (vI y)]) (by decide +kernel) rfl rfl (Nat.le_of_ble_eq_true rfl) rkZ ?_
  intro K hK
  refine go_aload_n (j := 0) (q := 1) rfl rfl dX1_hasRoom_0 rfl ?_
  refine go_getI (C0 := RX1) (T := TX1) (N := 3) (ci := 1) (i := 0) (q := 4) rfl igX1 (by first | assumption | rfl) (by decide) fl_X1_9 rfl dX1_hasRoom_1 rfl ?_
  refine go_iload_n (j := 1) (q := 5) rfl rfl dX1_hasRoom_4 rfl ?_
  refine go_iadd (q := 6) dX1_hasRoom_5 rfl ?_
  refine go_bipush (q := 8) rfl dX1_hasRoom_6 rfl ?_
  refine go_icmp_gt2 (q := 11) (t := 26) dX1_hasRoom_8 (by decide) rfl (by omega) (fun c8 => ?_) (fun c8 => ?_)
  · refine go_iconst (q := 27) dX1_hasRoom_26 rfl ?_
    refine go_iret dX1_hasRoom_27 ?_
    subst hK; first | exact Or.inl ⟨rfl, rfl, by omega⟩ | exact Or.inr ⟨rfl, rfl, by omega⟩
  · refine go_aload_n (j := 0) (q := 12) rfl rfl dX1_hasRoom_11 rfl ?_
    refine go_getI (C0 := RX1) (T := TX1) (N := 3) (ci := 1) (i := 1) (q := 15) rfl igX1 (by first | assumption | rfl) (by decide) fl_X1_15 rfl dX1_hasRoom_12 rfl ?_
    refine go_iload_n (j := 2) (q := 16) rfl rfl dX1_hasRoom_15 rfl ?_
    refine go_iadd (q := 17) dX1_hasRoom_16 rfl ?_
    refine go_bipush (q := 19) rfl dX1_hasRoom_17 rfl ?_
    refine go_icmp_gt2 (q := 22) (t := 26) dX1_hasRoom_19 (by decide) rfl (by omega) (fun c19 => ?_) (fun c19 => ?_)
    · refine go_iconst (q := 27) dX1_hasRoom_26 rfl ?_
      refine go_iret dX1_hasRoom_27 ?_
      subst hK; first | exact Or.inl ⟨rfl, rfl, by omega⟩ | exact Or.inr ⟨rfl, rfl, by omega⟩
    · refine go_iconst (q := 23) dX1_hasRoom_22 rfl ?_
      refine go_goto (q := 27) dX1_hasRoom_23 (by decide) ?_
      refine go_iret dX1_hasRoom_27 ?_
      subst hK; first | exact Or.inl ⟨rfl, rfl, by omega⟩ | exact Or.inr ⟨rfl, rfl, by omega⟩
theorem ev_part (hd1 : sh[d]? = some (oDia d)) (hd2 : sh[d + 1]? = some (rInt 40)) {k p : Nat} {ki pi : Int} (ek : ki = k) (ep : pi = p) (hk : k < 10 ∧ p < 4) :
    eX1_part l D ck ad sh [vR d, vI ki, vI pi] w (Pi fun v w1 => v = w (d + 1) (4 * k + p) ∧ w = w1) := by
  refine ev_of_goK (own := RX1) (ls := [some (vR d), some (vI ki), some (vI pi)]) (by decide +kernel) rfl rfl (Nat.le_of_ble_eq_true rfl) rkI ?_
  intro K hK
  refine go_aload_n (j := 0) (q := 1) rfl rfl dX1_part_0 rfl ?_
  refine go_getR (C0 := RX1) (T := TX1) (N := 3) (ci := 1) (i := 2) (q := 4) rfl igX1 (by first | assumption | rfl) (by decide) fl_X1_18 rfl dX1_part_1 rfl ?_
  refine go_iconst (q := 5) dX1_part_4 rfl ?_
  refine go_iload_n (j := 1) (q := 6) rfl rfl dX1_part_5 rfl ?_
  refine go_imul (q := 7) dX1_part_6 rfl ?_
  refine go_iload_n (j := 2) (q := 8) rfl rfl dX1_part_7 rfl ?_
  refine go_iadd (q := 9) dX1_part_8 rfl ?_
  refine go_iald (j := 4 * k + p) (q := 10) (by first | assumption | rfl) (wr_eq (by omega)) (by omega) dX1_part_9 rfl ?_
  refine go_iret dX1_part_10 ?_
  subst hK; exact ⟨_, rfl, rfl, rfl⟩
theorem ev_copyD {u : Nat} (hd1 : sh[d]? = some (oDia d)) (hd2 : sh[d + 1]? = some (rInt 40)) (hu1 : sh[u]? = some (oDia u)) (hu2 : sh[u + 1]? = some (rInt 40)) (hne : u ≠ d ∧ u ≠ d + 1 ∧ u + 1 ≠ d) :
    eX1_copyFrom l D ck ad sh [vR d, vR u] w (Pv fun w1 => w1 d 0 = w u 0 ∧ w1 d 1 = w u 1 ∧ (∀ k, k < 40 → w1 (d + 1) k = w (u + 1) k) ∧ ∀ c k, c ≠ d → c ≠ d + 1 → w1 c k = w c k) := by
  refine ev_of_goK (own := RX1) (ls := [some (vR d), some (vR u)]) (by decide +kernel) rfl rfl (Nat.le_of_ble_eq_true rfl) rkV ?_
  intro K hK
  refine go_aload_n (j := 0) (q := 1) rfl rfl dX1_copyFrom_0 rfl ?_
  refine go_aload_n (j := 1) (q := 2) rfl rfl dX1_copyFrom_1 rfl ?_
  refine go_getI (C0 := RX1) (T := TX1) (N := 3) (ci := 1) (i := 0) (q := 5) rfl igX1 (by first | assumption | rfl) (by decide) fl_X1_9 rfl dX1_copyFrom_2 rfl ?_
  refine go_putI (C0 := RX1) (T := TX1) (N := 3) (ci := 1) (i := 0) (q := 8) rfl igX1 (by first | assumption | rfl) (by decide) fl_X1_9 rfl tyX1 tyX1_ok nmX1 rfl rfl dX1_copyFrom_5 rfl ?_
  refine go_aload_n (j := 0) (q := 9) rfl rfl dX1_copyFrom_8 rfl ?_
  refine go_aload_n (j := 1) (q := 10) rfl rfl dX1_copyFrom_9 rfl ?_
  refine go_getI (C0 := RX1) (T := TX1) (N := 3) (ci := 1) (i := 1) (q := 13) rfl igX1 (by first | assumption | rfl) (by decide) fl_X1_15 rfl dX1_copyFrom_10 rfl ?_
  refine go_putI (C0 := RX1) (T := TX1) (N := 3) (ci := 1) (i := 1) (q := 16) rfl igX1 (by first | assumption | rfl) (by decide) fl_X1_15 rfl tyX1 tyX1_ok nmX1 rfl rfl dX1_copyFrom_13 rfl ?_
  refine go_aload_n (j := 1) (q := 17) rfl rfl dX1_copyFrom_16 rfl ?_
  refine go_getR (C0 := RX1) (T := TX1) (N := 3) (ci := 1) (i := 2) (q := 20) rfl igX1 (by first | assumption | rfl) (by decide) fl_X1_18 rfl dX1_copyFrom_17 rfl ?_
  refine go_iconst (q := 21) dX1_copyFrom_20 rfl ?_
  refine go_aload_n (j := 0) (q := 22) rfl rfl dX1_copyFrom_21 rfl ?_
  refine go_getR (C0 := RX1) (T := TX1) (N := 3) (ci := 1) (i := 2) (q := 25) rfl igX1 (by first | assumption | rfl) (by decide) fl_X1_18 rfl dX1_copyFrom_22 rfl ?_
  refine go_iconst (q := 26) dX1_copyFrom_25 rfl ?_
  refine go_aload_n (j := 0) (q := 27) rfl rfl dX1_copyFrom_26 rfl ?_
  refine go_getR (C0 := RX1) (T := TX1) (N := 3) (ci := 1) (i := 2) (q := 30) rfl igX1 (by first | assumption | rfl) (by decide) fl_X1_18 rfl dX1_copyFrom_27 rfl ?_
  refine go_alen (q := 31) (by first | assumption | rfl) rfl dX1_copyFrom_30 rfl ?_
  refine go_acopy (sp := 0) (dp := 0) (n := 40) (q := 34) lk_X1_22 (by first | assumption | rfl) (by first | assumption | rfl) (wr_eq (by omega)) (wr_eq (by omega)) (wr_eq (by omega)) (by omega) (by omega) (by decide) (Nat.le_of_ble_eq_true rfl) dX1_copyFrom_31 rfl ?_
  refine go_vret dX1_copyFrom_34 ?_
  subst hK
  refine ⟨rfl, ?_, ?_, fun k hk => ?_, fun c k h1 h2 => ?_⟩
  · rw [mcpy_out (by omega), mup_ne (by omega), mup_eq]
  · rw [mcpy_out (by omega), mup_eq, mup_ne (by omega)]
  · rw [mcpy_in (by omega), mup_ne (by omega), mup_ne (by omega)]; congr 1; omega
  · rw [mcpy_out (by omega), mup_ne (by omega), mup_ne (by omega)]
theorem ev_clearD (hd1 : sh[d]? = some (oDia d)) {x : Nat} {xi : Int} (ex : xi = x) (hx : 1 ≤ x ∧ x ≤ 7) :
    eX1_clear l D ck ad sh [vR d, vI xi] w (Pv fun w1 => DG w1 d x 0 g s ∧ ∀ c k, c ≠ d → w1 c k = w c k) := by
  refine ev_of_goK (own := RX1) (ls := [some (vR d), some (vI xi)]) (by decide +kernel) rfl rfl (Nat.le_of_ble_eq_true rfl) rkV ?_
  intro K hK
  refine go_aload_n (j := 0) (q := 1) rfl rfl dX1_clear_0 rfl ?_
  refine go_iload_n (j := 1) (q := 2) rfl rfl dX1_clear_1 rfl ?_
  refine go_putI (C0 := RX1) (T := TX1) (N := 3) (ci := 1) (i := 0) (q := 5) rfl igX1 (by first | assumption | rfl) (by decide) fl_X1_9 rfl tyX1 tyX1_ok nmX1 rfl rfl dX1_clear_2 rfl ?_
  refine go_aload_n (j := 0) (q := 6) rfl rfl dX1_clear_5 rfl ?_
  refine go_iconst (q := 7) dX1_clear_6 rfl ?_
  refine go_putI (C0 := RX1) (T := TX1) (N := 3) (ci := 1) (i := 1) (q := 10) rfl igX1 (by first | assumption | rfl) (by decide) fl_X1_15 rfl tyX1 tyX1_ok nmX1 rfl rfl dX1_clear_7 rfl ?_
  refine go_vret dX1_clear_10 ?_
  subst hK
  refine ⟨rfl, ⟨by rw [mup_ne (by omega), mup_eq]; exact ex, by rw [mup_eq]; rfl, ⟨hx, by omega⟩, fun k hk => absurd hk (Nat.not_lt_zero k)⟩, fun c k h => by rw [mup_ne (Or.inl h), mup_ne (Or.inl h)]⟩
theorem ev_addArc (hd1 : sh[d]? = some (oDia d)) (hD : DG w d a c g s) (hx : a < 7) :
    eX1_addArc l D ck ad sh [vR d] w (Pi fun v w1 => v = a ∧ DG w1 d (a + 1) c g s ∧ ∀ c k, c ≠ d → w1 c k = w c k) := by
  obtain ⟨h0, h1, ha, hg⟩ := hD
  refine ev_of_goK (own := RX1) (ls := [some (vR d)]) (by decide +kernel) rfl rfl (Nat.le_of_ble_eq_true rfl) rkI ?_
  intro K hK
  refine go_aload_n (j := 0) (q := 1) rfl rfl dX1_addArc_0 rfl ?_
  refine go_dup (q := 2) (fun _ z => by cases z) dX1_addArc_1 rfl ?_
  refine go_getI (C0 := RX1) (T := TX1) (N := 3) (ci := 1) (i := 0) (q := 5) rfl igX1 (by first | assumption | rfl) (by decide) fl_X1_9 rfl dX1_addArc_2 rfl ?_
  refine go_iconst (q := 6) dX1_addArc_5 rfl ?_
  refine go_iadd (q := 7) dX1_addArc_6 rfl ?_
  refine go_putI (C0 := RX1) (T := TX1) (N := 3) (ci := 1) (i := 0) (q := 10) rfl igX1 (by first | assumption | rfl) (by decide) fl_X1_9 rfl tyX1 tyX1_ok nmX1 rfl rfl dX1_addArc_7 rfl ?_
  refine go_aload_n (j := 0) (q := 11) rfl rfl dX1_addArc_10 rfl ?_
  refine go_getI (C0 := RX1) (T := TX1) (N := 3) (ci := 1) (i := 0) (q := 14) rfl igX1 (by first | assumption | rfl) (by decide) fl_X1_9 rfl dX1_addArc_11 rfl ?_
  refine go_iconst (q := 15) dX1_addArc_14 rfl ?_
  refine go_isub (q := 16) dX1_addArc_15 rfl ?_
  refine go_iret dX1_addArc_16 ?_
  subst hK
  refine ⟨_, rfl, by rw [mup_eq, h0]; omega, ⟨by rw [mup_eq, h0]; omega, by rw [mup_ne (by omega)]; exact h1, ⟨by omega, ha.2⟩, fun k hk => ?_⟩, fun c k h => mup_ne (Or.inl h)⟩
  obtain ⟨⟨q0, q1, q2, q3⟩, q4, q5⟩ := hg k hk
  exact ⟨⟨by rw [mup_ne (by omega)]; exact q0, by rw [mup_ne (by omega)]; exact q1, by rw [mup_ne (by omega)]; exact q2, by rw [mup_ne (by omega)]; exact q3⟩, by omega, q5⟩
theorem ev_appendD (hd1 : sh[d]? = some (oDia d)) (hd2 : sh[d + 1]? = some (rInt 40)) (hD : DG w d a c g s) {o i u : Nat} {oi ii ui v : Int} (eo : oi = o) (ei : ii = i) (eu : ui = u) (hx : o < a ∧ i < a ∧ u < a) (hv : v = 1 ∨ v = -1) (hc : c < 10) :
    eX1_append l D ck ad sh [vR d, vI oi, vI ii, vI ui, vI v] w (Pv fun w1 => DG w1 d a (c + 1) (gap g c o i u) (sap s c v) ∧ ∀ c k, c ≠ d → c ≠ d + 1 → w1 c k = w c k) := by
  obtain ⟨h0, h1, ha, hg⟩ := hD
  refine ev_of_goK (own := RX1) (ls := [some (vR d), some (vI oi), some (vI ii), some (vI ui), some (vI v), none]) (by decide +kernel) rfl rfl (Nat.le_of_ble_eq_true rfl) rkV ?_
  intro K hK
  refine go_iconst (q := 1) dX1_append_0 rfl ?_
  refine go_aload_n (j := 0) (q := 2) rfl rfl dX1_append_1 rfl ?_
  refine go_getI (C0 := RX1) (T := TX1) (N := 3) (ci := 1) (i := 1) (q := 5) rfl igX1 (by first | assumption | rfl) (by decide) fl_X1_15 rfl dX1_append_2 rfl ?_
  refine go_imul (q := 6) dX1_append_5 rfl ?_
  refine go_istore (j := 5) (q := 8) (ls2 := [_, _, _, _, _, _]) (by decide) rfl rfl dX1_append_6 rfl ?_
  refine go_aload_n (j := 0) (q := 9) rfl rfl dX1_append_8 rfl ?_
  refine go_getR (C0 := RX1) (T := TX1) (N := 3) (ci := 1) (i := 2) (q := 12) rfl igX1 (by first | assumption | rfl) (by decide) fl_X1_18 rfl dX1_append_9 rfl ?_
  refine go_iload (j := 5) (q := 14) rfl dX1_append_12 rfl ?_
  refine go_iconst (q := 15) dX1_append_14 rfl ?_
  refine go_iadd (q := 16) dX1_append_15 rfl ?_
  refine go_iload_n (j := 1) (q := 17) rfl rfl dX1_append_16 rfl ?_
  refine go_iast (j := 4 * c) (q := 18) (by first | assumption | rfl) (wr_eq (by omega)) (by omega) dX1_append_17 rfl ?_
  refine go_aload_n (j := 0) (q := 19) rfl rfl dX1_append_18 rfl ?_
  refine go_getR (C0 := RX1) (T := TX1) (N := 3) (ci := 1) (i := 2) (q := 22) rfl igX1 (by first | assumption | rfl) (by decide) fl_X1_18 rfl dX1_append_19 rfl ?_
  refine go_iload (j := 5) (q := 24) rfl dX1_append_22 rfl ?_
  refine go_iconst (q := 25) dX1_append_24 rfl ?_
  refine go_iadd (q := 26) dX1_append_25 rfl ?_
  refine go_iload_n (j := 2) (q := 27) rfl rfl dX1_append_26 rfl ?_
  refine go_iast (j := 4 * c + 1) (q := 28) (by first | assumption | rfl) (wr_eq (by omega)) (by omega) dX1_append_27 rfl ?_
  refine go_aload_n (j := 0) (q := 29) rfl rfl dX1_append_28 rfl ?_
  refine go_getR (C0 := RX1) (T := TX1) (N := 3) (ci := 1) (i := 2) (q := 32) rfl igX1 (by first | assumption | rfl) (by decide) fl_X1_18 rfl dX1_append_29 rfl ?_
  refine go_iload (j := 5) (q := 34) rfl dX1_append_32 rfl ?_
  refine go_iconst (q := 35) dX1_append_34 rfl ?_
  refine go_iadd (q := 36) dX1_append_35 rfl ?_
  refine go_iload_n (j := 3) (q := 37) rfl rfl dX1_append_36 rfl ?_
  refine go_iast (j := 4 * c + 2) (q := 38) (by first | assumption | rfl) (wr_eq (by omega)) (by omega) dX1_append_37 rfl ?_
  refine go_aload_n (j := 0) (q := 39) rfl rfl dX1_append_38 rfl ?_
  refine go_getR (C0 := RX1) (T := TX1) (N := 3) (ci := 1) (i := 2) (q := 42) rfl igX1 (by first | assumption | rfl) (by decide) fl_X1_18 rfl dX1_append_39 rfl ?_
  refine go_iload (j := 5) (q := 44) rfl dX1_append_42 rfl ?_
  refine go_iconst (q := 45) dX1_append_44 rfl ?_
  refine go_iadd (q := 46) dX1_append_45 rfl ?_
  refine go_iload (j := 4) (q := 48) rfl dX1_append_46 rfl ?_
  refine go_iast (j := 4 * c + 3) (q := 49) (by first | assumption | rfl) (wr_eq (by omega)) (by omega) dX1_append_48 rfl ?_
  refine go_aload_n (j := 0) (q := 50) rfl rfl dX1_append_49 rfl ?_
  refine go_dup (q := 51) (fun _ z => by cases z) dX1_append_50 rfl ?_
  refine go_getI (C0 := RX1) (T := TX1) (N := 3) (ci := 1) (i := 1) (q := 54) rfl igX1 (by first | assumption | rfl) (by decide) fl_X1_15 rfl dX1_append_51 rfl ?_
  refine go_iconst (q := 55) dX1_append_54 rfl ?_
  refine go_iadd (q := 56) dX1_append_55 rfl ?_
  refine go_putI (C0 := RX1) (T := TX1) (N := 3) (ci := 1) (i := 1) (q := 59) rfl igX1 (by first | assumption | rfl) (by decide) fl_X1_15 rfl tyX1 tyX1_ok nmX1 rfl rfl dX1_append_56 rfl ?_
  refine go_vret dX1_append_59 ?_
  subst hK
  refine ⟨rfl, ⟨?_, ?_, ⟨ha.1, by omega⟩, fun k hk => ?_⟩, fun c' k h h2 => ?_⟩
  · repeat rw [mup_ne (by omega)]
    exact h0
  · rw [mup_eq]; repeat rw [mup_ne (by omega)]
    rw [h1]; omega
  · by_cases q : k = c
    · subst q
      refine ⟨⟨?_, ?_, ?_, ?_⟩, ?_, ?_⟩
      · rw [mup_ne (by omega), mup_ne (by omega), mup_ne (by omega), mup_ne (by omega), mup_eq]; simp [gap, eo]
      · rw [mup_ne (by omega), mup_ne (by omega), mup_ne (by omega), mup_eq]; simp [gap, ei]
      · rw [mup_ne (by omega), mup_ne (by omega), mup_eq]; simp [gap, eu]
      · rw [mup_ne (by omega), mup_eq]; simp [sap]
      · simp [gap]; exact hx
      · simp [sap]; exact hv
    · obtain ⟨⟨q0, q1, q2, q3⟩, q4, q5⟩ := hg k (by omega)
      refine ⟨⟨?_, ?_, ?_, ?_⟩, ?_, ?_⟩
      · repeat rw [mup_ne (by omega)]
        simpa [gap, q] using q0
      · repeat rw [mup_ne (by omega)]
        simpa [gap, q] using q1
      · repeat rw [mup_ne (by omega)]
        simpa [gap, q] using q2
      · repeat rw [mup_ne (by omega)]
        simpa [sap, q] using q3
      · simpa [gap, q] using q4
      · simpa [sap, q] using q5
  · repeat rw [mup_ne (by omega)]
theorem ev_removeD (hd1 : sh[d]? = some (oDia d)) (hd2 : sh[d + 1]? = some (rInt 40)) (hD : DG w d a c g s) {q : Nat} {qi : Int} (eq : qi = q) (hq : q < c) :
    eX1_remove l D ck ad sh [vR d, vI qi] w (Pv fun w1 => DG w1 d a (c - 1) (grm g q) (srm s q) ∧ ∀ c k, c ≠ d → c ≠ d + 1 → w1 c k = w c k) := by
  obtain ⟨h0, h1, ha, hg⟩ := hD
  refine ev_of_goK (own := RX1) (ls := [some (vR d), some (vI qi), none]) (by decide +kernel) rfl rfl (Nat.le_of_ble_eq_true rfl) rkV ?_
  intro K hK
  refine go_iconst (q := 1) dX1_remove_0 rfl ?_
  refine go_iload_n (j := 1) (q := 2) rfl rfl dX1_remove_1 rfl ?_
  refine go_iconst (q := 3) dX1_remove_2 rfl ?_
  refine go_iadd (q := 4) dX1_remove_3 rfl ?_
  refine go_imul (q := 5) dX1_remove_4 rfl ?_
  refine go_istore_n (j := 2) (q := 6) (ls2 := [_, _, _]) rfl (by decide) rfl rfl dX1_remove_5 rfl ?_
  refine go_aload_n (j := 0) (q := 7) rfl rfl dX1_remove_6 rfl ?_
  refine go_getR (C0 := RX1) (T := TX1) (N := 3) (ci := 1) (i := 2) (q := 10) rfl igX1 (by first | assumption | rfl) (by decide) fl_X1_18 rfl dX1_remove_7 rfl ?_
  refine go_iload_n (j := 2) (q := 11) rfl rfl dX1_remove_10 rfl ?_
  refine go_aload_n (j := 0) (q := 12) rfl rfl dX1_remove_11 rfl ?_
  refine go_getR (C0 := RX1) (T := TX1) (N := 3) (ci := 1) (i := 2) (q := 15) rfl igX1 (by first | assumption | rfl) (by decide) fl_X1_18 rfl dX1_remove_12 rfl ?_
  refine go_iload_n (j := 2) (q := 16) rfl rfl dX1_remove_15 rfl ?_
  refine go_iconst (q := 17) dX1_remove_16 rfl ?_
  refine go_isub (q := 18) dX1_remove_17 rfl ?_
  refine go_iconst (q := 19) dX1_remove_18 rfl ?_
  refine go_aload_n (j := 0) (q := 20) rfl rfl dX1_remove_19 rfl ?_
  refine go_getI (C0 := RX1) (T := TX1) (N := 3) (ci := 1) (i := 1) (q := 23) rfl igX1 (by first | assumption | rfl) (by decide) fl_X1_15 rfl dX1_remove_20 rfl ?_
  refine go_imul (q := 24) dX1_remove_23 rfl ?_
  refine go_iload_n (j := 2) (q := 25) rfl rfl dX1_remove_24 rfl ?_
  refine go_isub (q := 26) dX1_remove_25 rfl ?_
  refine go_acopy (sp := 4 * (q + 1)) (dp := 4 * q) (n := 4 * c - 4 * (q + 1)) (q := 29) lk_X1_22 (by first | assumption | rfl) (by first | assumption | rfl) (wr_eq (by omega)) (wr_eq (by omega)) (wr_eq (by omega)) (by omega) (by omega) (by decide) (Nat.le_of_ble_eq_true rfl) dX1_remove_26 rfl ?_
  refine go_aload_n (j := 0) (q := 30) rfl rfl dX1_remove_29 rfl ?_
  refine go_dup (q := 31) (fun _ z => by cases z) dX1_remove_30 rfl ?_
  refine go_getI (C0 := RX1) (T := TX1) (N := 3) (ci := 1) (i := 1) (q := 34) rfl igX1 (by first | assumption | rfl) (by decide) fl_X1_15 rfl dX1_remove_31 rfl ?_
  refine go_iconst (q := 35) dX1_remove_34 rfl ?_
  refine go_isub (q := 36) dX1_remove_35 rfl ?_
  refine go_putI (C0 := RX1) (T := TX1) (N := 3) (ci := 1) (i := 1) (q := 39) rfl igX1 (by first | assumption | rfl) (by decide) fl_X1_15 rfl tyX1 tyX1_ok nmX1 rfl rfl dX1_remove_36 rfl ?_
  refine go_vret dX1_remove_39 ?_
  subst hK
  refine ⟨rfl, ⟨?_, ?_, ⟨ha.1, by omega⟩, fun k hk => ?_⟩, fun c' k h h2 => ?_⟩
  · rw [mup_ne (by omega), mcpy_out (by omega)]; exact h0
  · rw [mup_eq, mcpy_out (by omega), h1]; omega
  · by_cases p : k < q
    · obtain ⟨⟨q0, q1, q2, q3⟩, q4, q5⟩ := hg k (by omega)
      refine ⟨⟨?_, ?_, ?_, ?_⟩, ?_, ?_⟩
      · rw [mup_ne (by omega), mcpy_out (by omega), q0]; simp [grm, p]
      · rw [mup_ne (by omega), mcpy_out (by omega), q1]; simp [grm, p]
      · rw [mup_ne (by omega), mcpy_out (by omega), q2]; simp [grm, p]
      · rw [mup_ne (by omega), mcpy_out (by omega), q3]; simp [srm, p]
      · simpa [grm, p] using q4
      · simpa [srm, p] using q5
    · obtain ⟨⟨q0, q1, q2, q3⟩, q4, q5⟩ := hg (k + 1) (by omega)
      refine ⟨⟨?_, ?_, ?_, ?_⟩, ?_, ?_⟩
      · rw [mup_ne (by omega), mcpy_in (by omega), show 4 * (q + 1) + (4 * k - 4 * q) = 4 * (k + 1) by omega, q0]; simp [grm, p]
      · rw [mup_ne (by omega), mcpy_in (by omega), show 4 * (q + 1) + (4 * k + 1 - 4 * q) = 4 * (k + 1) + 1 by omega, q1]; simp [grm, p]
      · rw [mup_ne (by omega), mcpy_in (by omega), show 4 * (q + 1) + (4 * k + 2 - 4 * q) = 4 * (k + 1) + 2 by omega, q2]; simp [grm, p]
      · rw [mup_ne (by omega), mcpy_in (by omega), show 4 * (q + 1) + (4 * k + 3 - 4 * q) = 4 * (k + 1) + 3 by omega, q3]; simp [srm, p]
      · simpa [grm, p] using q4
      · simpa [srm, p] using q5
  · rw [mup_ne (by omega), mcpy_out (by omega)]
theorem ev_moveIn (hd1 : sh[d]? = some (oDia d)) (hd2 : sh[d + 1]? = some (rInt 40)) (hD : DG w d a c g s) {x y : Nat} {xi yi : Int} (ex : xi = x) (ey : yi = y) (hy : x < a ∧ y < a) :
    eX1_moveIn l D ck ad sh [vR d, vI xi, vI yi] w (Pv fun w1 => DG w1 d a c (gmv g x y) s ∧ ∀ c k, c ≠ d → c ≠ d + 1 → w1 c k = w c k) := by
  obtain ⟨h0, h1, ha, hg⟩ := hD
  refine ev_of_goK (own := RX1) (ls := [some (vR d), some (vI xi), some (vI yi), none]) (by decide +kernel) rfl rfl (Nat.le_of_ble_eq_true rfl) rkV ?_
  intro K hK
  refine go_iconst (q := 1) dX1_moveIn_0 rfl ?_
  refine go_istore_n (j := 3) (q := 2) (ls2 := [_, _, _, _]) rfl (by decide) rfl rfl dX1_moveIn_1 rfl ?_
  have lp2 : ∀ (m2 : Nat) (k : Nat) (ki : Int) (w1 : Mem) (ek : ki = k) (hk : k ≤ c) (hin : ∀ j, j < k → w1 (d + 1) (4 * j + 1) = (gmv g x y j 1 : Int)) (hfr : ∀ c' k', ¬ (c' = d + 1 ∧ ∃ j, j < k ∧ k' = 4 * j + 1) → w1 c' k' = w c' k'), m2 = c - k → gX1_moveIn l D ck ad sh 2 [some (vR d), some (vI xi), some (vI yi), some (vI ki)] [] w1 K := by
    intro m2
    induction m2 using Nat.strongRecOn with
    | _ m2 ih2 =>
    intro k ki w1 ek hk hin hfr em2
    have e1 : w1 d 1 = c := by rw [hfr d 1 (by rintro ⟨z, -⟩; omega)]; exact h1
    refine go_iload_n (j := 3) (q := 3) rfl rfl dX1_moveIn_2 rfl ?_
    refine go_aload_n (j := 0) (q := 4) rfl rfl dX1_moveIn_3 rfl ?_
    refine go_getI (C0 := RX1) (T := TX1) (N := 3) (ci := 1) (i := 1) (q := 7) rfl igX1 (by first | assumption | rfl) (by decide) fl_X1_15 rfl dX1_moveIn_4 rfl ?_
    refine go_icmp_ge2 (q := 10) (t := 37) dX1_moveIn_7 (by decide) rfl (by omega) (fun c7 => ?_) (fun c7 => ?_)
    · refine go_vret dX1_moveIn_37 ?_
      subst hK
      have ekc : k = c := by omega
      refine ⟨rfl, ⟨by rw [hfr _ _ (by rintro ⟨z, -⟩; omega)]; exact h0, e1, ha, fun j hj => ?_⟩, fun c' k' h h2 => hfr c' k' (fun ⟨z1, _⟩ => h2 z1)⟩
      obtain ⟨⟨q0, q1, q2, q3⟩, q4, q5⟩ := hg j hj
      refine ⟨⟨?_, hin j (by omega), ?_, ?_⟩, ⟨?_, ?_, ?_⟩, q5⟩
      · rw [hfr _ _ (by rintro ⟨-, i, h1, h2⟩; omega), q0]; simp [gmv]
      · rw [hfr _ _ (by rintro ⟨-, i, h1, h2⟩; omega), q2]; simp [gmv]
      · rw [hfr _ _ (by rintro ⟨-, i, h1, h2⟩; omega), q3]
      · simp [gmv]; exact q4.1
      · unfold gmv; split
        · exact hy.2
        · exact q4.2.1
      · simp [gmv]; exact q4.2.2
    · refine go_aload_n (j := 0) (q := 11) rfl rfl dX1_moveIn_10 rfl ?_
      refine go_iload_n (j := 3) (q := 12) rfl rfl dX1_moveIn_11 rfl ?_
      refine go_iconst (q := 13) dX1_moveIn_12 rfl ?_
      refine go_callVi (as := [_, _, _]) (As := [_, _]) (rest := []) (n := 2) (q := 16) dX1_moveIn_13 lk_X1_28 (ci := 1) (N := 3) (T := TX1) rfl (by first | assumption | rfl) rfl rfl (by decide +kernel) rfl ⟨by decide, by decide⟩ ⟨rfl, rfl⟩ (Nat.le_of_ble_eq_true rfl) (ev_part hd1 hd2 (k := k) (p := 1) ek rfl (by omega)) rfl (fun x13 w13 h13 => ?_)
      obtain ⟨rfl, rfl⟩ := h13
      have hgk := hg k (by omega)
      have e3 : w1 (d + 1) (4 * k + 1) = (g k 1 : Int) := by rw [hfr _ _ (by rintro ⟨-, j, h1, h2⟩; omega)]; exact hgk.1.2.1
      refine go_iload_n (j := 1) (q := 17) rfl rfl dX1_moveIn_16 rfl ?_
      refine go_icmp_ne2 (q := 20) (t := 31) dX1_moveIn_17 (by decide) rfl (by omega) (fun c17 => ?_) (fun c17 => ?_)
      · refine go_iinc (j := 3) (q := 34) (ls2 := [_, _, _, _]) rfl (by decide) rfl rfl dX1_moveIn_31 rfl ?_
        refine go_goto (q := 2) dX1_moveIn_34 (by decide) ?_
        first
        | exact ih2 _ (by omega) (k + 1) _ _ (by omega) (by omega) (by
            intro j hj
            by_cases z : j = k
            · subst z; rw [mup_eq]; unfold gmv; rw [if_pos ⟨rfl, by omega⟩]; exact ey
            · rw [mup_ne (by omega)]; exact hin j (by omega)) (by
            intro c' k' h
            rw [mup_ne ?_]
            · exact hfr c' k' (fun ⟨z1, j, z2, z3⟩ => h ⟨z1, j, by omega, z3⟩)
            · by_cases z : c' = d + 1
              · exact Or.inr (fun z2 => h ⟨z, k, by omega, z2⟩)
              · exact Or.inl z) rfl
        | exact ih2 _ (by omega) (k + 1) _ _ (by omega) (by omega) (by
            intro j hj
            by_cases z : j = k
            · subst z; rw [e3]; unfold gmv; rw [if_neg (by omega)]
            · exact hin j (by omega)) (fun c' k' h => hfr c' k' (fun ⟨z1, j, z2, z3⟩ => h ⟨z1, j, by omega, z3⟩)) rfl
      · refine go_aload_n (j := 0) (q := 21) rfl rfl dX1_moveIn_20 rfl ?_
        refine go_getR (C0 := RX1) (T := TX1) (N := 3) (ci := 1) (i := 2) (q := 24) rfl igX1 (by first | assumption | rfl) (by decide) fl_X1_18 rfl dX1_moveIn_21 rfl ?_
        refine go_iconst (q := 25) dX1_moveIn_24 rfl ?_
        refine go_iload_n (j := 3) (q := 26) rfl rfl dX1_moveIn_25 rfl ?_
        refine go_imul (q := 27) dX1_moveIn_26 rfl ?_
        refine go_iconst (q := 28) dX1_moveIn_27 rfl ?_
        refine go_iadd (q := 29) dX1_moveIn_28 rfl ?_
        refine go_iload_n (j := 2) (q := 30) rfl rfl dX1_moveIn_29 rfl ?_
        refine go_iast (j := 4 * k + 1) (q := 31) (by first | assumption | rfl) (wr_eq (by omega)) (by omega) dX1_moveIn_30 rfl ?_
        refine go_iinc (j := 3) (q := 34) (ls2 := [_, _, _, _]) rfl (by decide) rfl rfl dX1_moveIn_31 rfl ?_
        refine go_goto (q := 2) dX1_moveIn_34 (by decide) ?_
        first
        | exact ih2 _ (by omega) (k + 1) _ _ (by omega) (by omega) (by
            intro j hj
            by_cases z : j = k
            · subst z; rw [mup_eq]; unfold gmv; rw [if_pos ⟨rfl, by omega⟩]; exact ey
            · rw [mup_ne (by omega)]; exact hin j (by omega)) (by
            intro c' k' h
            rw [mup_ne ?_]
            · exact hfr c' k' (fun ⟨z1, j, z2, z3⟩ => h ⟨z1, j, by omega, z3⟩)
            · by_cases z : c' = d + 1
              · exact Or.inr (fun z2 => h ⟨z, k, by omega, z2⟩)
              · exact Or.inl z) rfl
        | exact ih2 _ (by omega) (k + 1) _ _ (by omega) (by omega) (by
            intro j hj
            by_cases z : j = k
            · subst z; rw [e3]; unfold gmv; rw [if_neg (by omega)]
            · exact hin j (by omega)) (fun c' k' h => hfr c' k' (fun ⟨z1, j, z2, z3⟩ => h ⟨z1, j, by omega, z3⟩)) rfl
  exact lp2 _ 0 0 _ rfl (by omega) (fun j h => absurd h (Nat.not_lt_zero j)) (fun c k h => rfl) rfl
theorem ev_countAs (hd1 : sh[d]? = some (oDia d)) (hd2 : sh[d + 1]? = some (rInt 40)) (hD : DG w d a c g s) {p x : Nat} {pi xi : Int} (ep : pi = p) (hp : p = 1 ∨ p = 2) (ex : xi = x) (hx : x < 10) :
    eX1_countAs l D ck ad sh [vR d, vI pi, vI xi] w (Pi fun v w1 => v = (cAs g p x c : Int) ∧ w = w1) := by
  obtain ⟨h0, h1, ha, hg⟩ := hD
  refine ev_of_goK (own := RX1) (ls := [some (vR d), some (vI pi), some (vI xi), none, none]) (by decide +kernel) rfl rfl (Nat.le_of_ble_eq_true rfl) rkI ?_
  intro K hK
  refine go_iconst (q := 1) dX1_countAs_0 rfl ?_
  refine go_istore_n (j := 3) (q := 2) (ls2 := [_, _, _, _, _]) rfl (by decide) rfl rfl dX1_countAs_1 rfl ?_
  refine go_iconst (q := 3) dX1_countAs_2 rfl ?_
  refine go_istore (j := 4) (q := 5) (ls2 := [_, _, _, _, _]) (by decide) rfl rfl dX1_countAs_3 rfl ?_
  have lp5 : ∀ (m5 : Nat) (k : Nat) (ki vi : Int) (ek : ki = k) (hk : k ≤ c) (ev : vi = (cAs g p x k : Nat)), m5 = c - k → gX1_countAs l D ck ad sh 5 [some (vR d), some (vI pi), some (vI xi), some (vI vi), some (vI ki)] [] w K := by
    intro m5
    induction m5 using Nat.strongRecOn with
    | _ m5 ih5 =>
    intro k ki vi ek hk ev em5
    refine go_iload (j := 4) (q := 7) rfl dX1_countAs_5 rfl ?_
    refine go_aload_n (j := 0) (q := 8) rfl rfl dX1_countAs_7 rfl ?_
    refine go_getI (C0 := RX1) (T := TX1) (N := 3) (ci := 1) (i := 1) (q := 11) rfl igX1 (by first | assumption | rfl) (by decide) fl_X1_15 rfl dX1_countAs_8 rfl ?_
    refine go_icmp_ge2 (q := 14) (t := 34) dX1_countAs_11 (by decide) rfl (by omega) (fun c11 => ?_) (fun c11 => ?_)
    · refine go_iload_n (j := 3) (q := 35) rfl rfl dX1_countAs_34 rfl ?_
      refine go_iret dX1_countAs_35 ?_
      subst hK; exact ⟨_, rfl, by rw [ev, show k = c by omega], rfl⟩
    · refine go_aload_n (j := 0) (q := 15) rfl rfl dX1_countAs_14 rfl ?_
      refine go_iload (j := 4) (q := 17) rfl dX1_countAs_15 rfl ?_
      refine go_iload_n (j := 1) (q := 18) rfl rfl dX1_countAs_17 rfl ?_
      refine go_callVi (as := [_, _, _]) (As := [_, _]) (rest := []) (n := 2) (q := 21) dX1_countAs_18 lk_X1_28 (ci := 1) (N := 3) (T := TX1) rfl (by first | assumption | rfl) rfl rfl (by decide +kernel) rfl ⟨by decide, by decide⟩ ⟨rfl, rfl⟩ (Nat.le_of_ble_eq_true rfl) (ev_part hd1 hd2 (k := k) (p := p) ek ep (by omega)) rfl (fun x18 w18 h18 => ?_)
      obtain ⟨rfl, rfl⟩ := h18
      have hgk := hg k (by omega)
      have e3 : w (d + 1) (4 * k + p) = (g k p : Int) ∧ g k p < a := by rcases hp with rfl | rfl; exact ⟨hgk.1.2.1, hgk.2.1.2.1⟩; exact ⟨hgk.1.2.2.1, hgk.2.1.2.2⟩
      refine go_iload_n (j := 2) (q := 22) rfl rfl dX1_countAs_21 rfl ?_
      refine go_icmp_ne2 (q := 25) (t := 28) dX1_countAs_22 (by decide) rfl (by omega) (fun c22 => ?_) (fun c22 => ?_)
      · refine go_iinc (j := 4) (q := 31) (ls2 := [_, _, _, _, _]) rfl (by decide) rfl rfl dX1_countAs_28 rfl ?_
        refine go_goto (q := 5) dX1_countAs_31 (by decide) ?_
        first
        | exact ih5 _ (by omega) (k + 1) _ _ (by omega) (by omega) (by simp only [cAs, cN]; rw [if_pos (by simp; omega)]; unfold cAs at ev; omega) rfl
        | exact ih5 _ (by omega) (k + 1) _ _ (by omega) (by omega) (by simp only [cAs, cN]; rw [if_neg (by simp; omega)]; unfold cAs at ev; omega) rfl
      · refine go_iinc (j := 3) (q := 28) (ls2 := [_, _, _, _, _]) rfl (by decide) rfl rfl dX1_countAs_25 rfl ?_
        refine go_iinc (j := 4) (q := 31) (ls2 := [_, _, _, _, _]) rfl (by decide) rfl rfl dX1_countAs_28 rfl ?_
        refine go_goto (q := 5) dX1_countAs_31 (by decide) ?_
        first
        | exact ih5 _ (by omega) (k + 1) _ _ (by omega) (by omega) (by simp only [cAs, cN]; rw [if_pos (by simp; omega)]; unfold cAs at ev; omega) rfl
        | exact ih5 _ (by omega) (k + 1) _ _ (by omega) (by omega) (by simp only [cAs, cN]; rw [if_neg (by simp; omega)]; unfold cAs at ev; omega) rfl
  exact lp5 _ 0 0 0 rfl (by omega) rfl rfl
theorem cAs_le (g : Nat → Nat → Nat) (p x c : Nat) : cAs g p x c ≤ c := cN_le _ c
theorem ev_isClosedD (hd1 : sh[d]? = some (oDia d)) (hd2 : sh[d + 1]? = some (rInt 40)) (hD : DG w d a c g s) :
    eX1_isClosed l D ck ad sh [vR d] w (Pz (fun w1 => w = w1 ∧ closedD a c g) (fun w1 => w = w1 ∧ ¬ closedD a c g)) := by
  have hD0 := hD
  obtain ⟨h0, h1, ha, hg⟩ := hD
  refine ev_of_goK (own := RX1) (ls := [some (vR d), none, none]) (by decide +kernel) rfl rfl (Nat.le_of_ble_eq_true rfl) rkZ ?_
  intro K hK
  refine go_iconst (q := 1) dX1_isClosed_0 rfl ?_
  refine go_istore_n (j := 1) (q := 2) (ls2 := [_, _, _]) rfl (by decide) rfl rfl dX1_isClosed_1 rfl ?_
  have lp2 : ∀ (m2 : Nat) (x : Nat) (xi : Int) (u : Option MV) (ex : xi = x) (hx : x ≤ a) (hi : ∀ j, j < x → cAs g 1 j c ≤ 1 ∧ cAs g 1 j c = cAs g 2 j c), m2 = a - x → gX1_isClosed l D ck ad sh 2 [some (vR d), some (vI xi), u] [] w K := by
    intro m2
    induction m2 using Nat.strongRecOn with
    | _ m2 ih2 =>
    intro x xi u ex hx hi em2
    refine go_iload_n (j := 1) (q := 3) rfl rfl dX1_isClosed_2 rfl ?_
    refine go_aload_n (j := 0) (q := 4) rfl rfl dX1_isClosed_3 rfl ?_
    refine go_getI (C0 := RX1) (T := TX1) (N := 3) (ci := 1) (i := 0) (q := 7) rfl igX1 (by first | assumption | rfl) (by decide) fl_X1_9 rfl dX1_isClosed_4 rfl ?_
    refine go_icmp_ge2 (q := 10) (t := 40) dX1_isClosed_7 (by decide) rfl (by omega) (fun c7 => ?_) (fun c7 => ?_)
    · refine go_iconst (q := 41) dX1_isClosed_40 rfl ?_
      refine go_iret dX1_isClosed_41 ?_
      subst hK; exact Or.inl ⟨rfl, rfl, fun j h => hi j (by omega)⟩
    · refine go_aload_n (j := 0) (q := 11) rfl rfl dX1_isClosed_10 rfl ?_
      refine go_iconst (q := 12) dX1_isClosed_11 rfl ?_
      refine go_iload_n (j := 1) (q := 13) rfl rfl dX1_isClosed_12 rfl ?_
      refine go_callVi (as := [_, _, _]) (As := [_, _]) (rest := []) (n := 2) (q := 16) dX1_isClosed_13 lk_X1_32 (ci := 1) (N := 3) (T := TX1) rfl (by first | assumption | rfl) rfl rfl (by decide +kernel) rfl ⟨by decide, by decide⟩ ⟨rfl, rfl⟩ (Nat.le_of_ble_eq_true rfl) (ev_countAs hd1 hd2 hD0 (p := 1) rfl (Or.inl rfl) ex (by omega)) rfl (fun x13 w13 h13 => ?_)
      obtain ⟨rfl, rfl⟩ := h13
      have b1 := cAs_le g 1 x c
      have b2 := cAs_le g 2 x c
      refine go_istore_n (j := 2) (q := 17) (ls2 := [_, _, _]) rfl (by decide) rfl rfl dX1_isClosed_16 rfl ?_
      refine go_iload_n (j := 2) (q := 18) rfl rfl dX1_isClosed_17 rfl ?_
      refine go_iconst (q := 19) dX1_isClosed_18 rfl ?_
      refine go_icmp_gt2 (q := 22) (t := 32) dX1_isClosed_19 (by decide) rfl (by omega) (fun c19 => ?_) (fun c19 => ?_)
      · refine go_iconst (q := 33) dX1_isClosed_32 rfl ?_
        refine go_iret dX1_isClosed_33 ?_
        subst hK; exact Or.inr ⟨rfl, rfl, fun z => by have := z x (by omega); omega⟩
      · refine go_iload_n (j := 2) (q := 23) rfl rfl dX1_isClosed_22 rfl ?_
        refine go_aload_n (j := 0) (q := 24) rfl rfl dX1_isClosed_23 rfl ?_
        refine go_iconst (q := 25) dX1_isClosed_24 rfl ?_
        refine go_iload_n (j := 1) (q := 26) rfl rfl dX1_isClosed_25 rfl ?_
        refine go_callVi (as := [_, _, _]) (As := [_, _]) (rest := [_]) (n := 2) (q := 29) dX1_isClosed_26 lk_X1_32 (ci := 1) (N := 3) (T := TX1) rfl (by first | assumption | rfl) rfl rfl (by decide +kernel) rfl ⟨by decide, by decide⟩ ⟨rfl, rfl⟩ (Nat.le_of_ble_eq_true rfl) (ev_countAs hd1 hd2 hD0 (p := 2) rfl (Or.inr rfl) ex (by omega)) rfl (fun x26 w26 h26 => ?_)
        obtain ⟨rfl, rfl⟩ := h26
        refine go_icmp_eq2 (q := 32) (t := 34) dX1_isClosed_29 (by decide) rfl (by omega) (fun c29 => ?_) (fun c29 => ?_)
        · refine go_iinc (j := 1) (q := 37) (ls2 := [_, _, _]) rfl (by decide) rfl rfl dX1_isClosed_34 rfl ?_
          refine go_goto (q := 2) dX1_isClosed_37 (by decide) ?_
          exact ih2 _ (by omega) (x + 1) _ _ (by omega) (by omega) (fun j h => all_lt (P := fun j => cAs g 1 j c ≤ 1 ∧ cAs g 1 j c = cAs g 2 j c) hi (by omega) h) rfl
        · refine go_iconst (q := 33) dX1_isClosed_32 rfl ?_
          refine go_iret dX1_isClosed_33 ?_
          subst hK; exact Or.inr ⟨rfl, rfl, fun z => by have := z x (by omega); omega⟩
  exact lp2 _ 0 0 _ rfl (by omega) (fun j h => absurd h (Nat.not_lt_zero j)) rfl
theorem ev_componentOfD (hd1 : sh[d]? = some (oDia d)) (hd2 : sh[d + 1]? = some (rInt 40)) (hD : DG w d a c g s) {x : Nat} {xi : Int} (ex : xi = x) (hx : x < a) :
    eX1_componentOf l D ck ad sh [vR d, vI xi] w (Pi fun v w1 => v = (cmpD a c g x : Int) ∧ w = w1) := by
  have hD0 := hD
  obtain ⟨h0, h1, ha, hg⟩ := hD
  have h128 : 2 ^ a ≤ 2 ^ 7 := Nat.pow_le_pow_right (by decide) ha.1.2
  have hgl : ∀ k, k < c → g k 1 < a ∧ g k 2 < a := fun k hk => ⟨(hg k hk).2.1.2.1, (hg k hk).2.1.2.2⟩
  refine ev_of_goK (own := RX1) (ls := [some (vR d), some (vI xi), none, none, none, none]) (by decide +kernel) rfl rfl (Nat.le_of_ble_eq_true rfl) rkI ?_
  intro K hK
  refine go_iconst (q := 1) dX1_componentOf_0 rfl ?_
  refine go_iload_n (j := 1) (q := 2) rfl rfl dX1_componentOf_1 rfl ?_
  refine go_ishl (q := 3) dX1_componentOf_2 rfl ?_
  refine go_istore_n (j := 2) (q := 4) (ls2 := [_, _, _, _, _, _]) rfl (by decide) rfl rfl dX1_componentOf_3 rfl ?_
  refine go_iconst (q := 5) dX1_componentOf_4 rfl ?_
  refine go_istore_n (j := 3) (q := 6) (ls2 := [_, _, _, _, _, _]) rfl (by decide) rfl rfl dX1_componentOf_5 rfl ?_
  have lp6 : ∀ (m6 : Nat) (r : Nat) (ri ci : Int) (m : Nat) (u v : Option MV) (er : ri = r) (hr : r ≤ a) (ec : ci = m) (hm : m < 2 ^ a) (em : m = itN (fun m => fN (stD g) m c) (2 ^ x) r), m6 = a - r → gX1_componentOf l D ck ad sh 6 [some (vR d), some (vI xi), some (vI ci), some (vI ri), u, v] [] w K := by
    intro m6
    induction m6 using Nat.strongRecOn with
    | _ m6 ih6 =>
    intro r ri ci m u v er hr ec hm em em6
    refine go_iload_n (j := 3) (q := 7) rfl rfl dX1_componentOf_6 rfl ?_
    refine go_aload_n (j := 0) (q := 8) rfl rfl dX1_componentOf_7 rfl ?_
    refine go_getI (C0 := RX1) (T := TX1) (N := 3) (ci := 1) (i := 0) (q := 11) rfl igX1 (by first | assumption | rfl) (by decide) fl_X1_9 rfl dX1_componentOf_8 rfl ?_
    refine go_icmp_ge2 (q := 14) (t := 71) dX1_componentOf_11 (by decide) rfl (by omega) (fun c11 => ?_) (fun c11 => ?_)
    · refine go_iload_n (j := 2) (q := 72) rfl rfl dX1_componentOf_71 rfl ?_
      refine go_iret dX1_componentOf_72 ?_
      subst hK; exact ⟨_, rfl, by rw [ec, em, show r = a by omega]; rfl, rfl⟩
    · refine go_iconst (q := 15) dX1_componentOf_14 rfl ?_
      refine go_istore (j := 4) (q := 17) (ls2 := [_, _, _, _, _, _]) (by decide) rfl rfl dX1_componentOf_15 rfl ?_
      have lp17 : ∀ (m17 : Nat) (k : Nat) (ki ci2 : Int) (m2 : Nat) (v2 : Option MV) (ek : ki = k) (hk : k ≤ c) (ec2 : ci2 = m2) (hm2 : m2 < 2 ^ a) (em2 : m2 = fN (stD g) m k), m17 = c - k → gX1_componentOf l D ck ad sh 17 [some (vR d), some (vI xi), some (vI ci2), some (vI ri), some (vI ki), v2] [] w K := by
        intro m17
        induction m17 using Nat.strongRecOn with
        | _ m17 ih17 =>
        intro k ki ci2 m2 v2 ek hk ec2 hm2 em2 em17
        refine go_iload (j := 4) (q := 19) rfl dX1_componentOf_17 rfl ?_
        refine go_aload_n (j := 0) (q := 20) rfl rfl dX1_componentOf_19 rfl ?_
        refine go_getI (C0 := RX1) (T := TX1) (N := 3) (ci := 1) (i := 1) (q := 23) rfl igX1 (by first | assumption | rfl) (by decide) fl_X1_15 rfl dX1_componentOf_20 rfl ?_
        refine go_icmp_ge2 (q := 26) (t := 65) dX1_componentOf_23 (by decide) rfl (by omega) (fun c23 => ?_) (fun c23 => ?_)
        · refine go_iinc (j := 3) (q := 68) (ls2 := [_, _, _, _, _, _]) rfl (by decide) rfl rfl dX1_componentOf_65 rfl ?_
          refine go_goto (q := 6) dX1_componentOf_68 (by decide) ?_
          exact ih6 _ (by omega) (r + 1) _ _ m2 _ _ (by omega) (by omega) ec2 hm2 (by rw [em2, em, show k = c by omega]; rfl) rfl
        · refine go_iconst (q := 27) dX1_componentOf_26 rfl ?_
          refine go_aload_n (j := 0) (q := 28) rfl rfl dX1_componentOf_27 rfl ?_
          refine go_iload (j := 4) (q := 30) rfl dX1_componentOf_28 rfl ?_
          refine go_iconst (q := 31) dX1_componentOf_30 rfl ?_
          refine go_callVi (as := [_, _, _]) (As := [_, _]) (rest := [_]) (n := 2) (q := 34) dX1_componentOf_31 lk_X1_28 (ci := 1) (N := 3) (T := TX1) rfl (by first | assumption | rfl) rfl rfl (by decide +kernel) rfl ⟨by decide, by decide⟩ ⟨rfl, rfl⟩ (Nat.le_of_ble_eq_true rfl) (ev_part hd1 hd2 (k := k) (p := 1) ek rfl (by omega)) rfl (fun x31 w31 h31 => ?_)
          obtain ⟨rfl, rfl⟩ := h31
          have hgk := hg k (by omega)
          have t1 := two_lt (hgl k (by omega)).1
          have t2 := two_lt (hgl k (by omega)).2
          have hll : lnkD g k < 2 ^ a := or_lt t1 t2
          refine go_ishl (q := 35) dX1_componentOf_34 rfl ?_
          refine go_iconst (q := 36) dX1_componentOf_35 rfl ?_
          refine go_aload_n (j := 0) (q := 37) rfl rfl dX1_componentOf_36 rfl ?_
          refine go_iload (j := 4) (q := 39) rfl dX1_componentOf_37 rfl ?_
          refine go_iconst (q := 40) dX1_componentOf_39 rfl ?_
          refine go_callVi (as := [_, _, _]) (As := [_, _]) (rest := [_, _]) (n := 2) (q := 43) dX1_componentOf_40 lk_X1_28 (ci := 1) (N := 3) (T := TX1) rfl (by first | assumption | rfl) rfl rfl (by decide +kernel) rfl ⟨by decide, by decide⟩ ⟨rfl, rfl⟩ (Nat.le_of_ble_eq_true rfl) (ev_part hd1 hd2 (k := k) (p := 2) ek rfl (by omega)) rfl (fun x40 w40 h40 => ?_)
          obtain ⟨rfl, rfl⟩ := h40
          refine go_ishl (q := 44) dX1_componentOf_43 rfl ?_
          refine go_ior (q := 45) dX1_componentOf_44 rfl ?_
          refine go_istore (j := 5) (q := 47) (ls2 := [_, _, _, _, _, _]) (by decide) rfl rfl dX1_componentOf_45 rfl ?_
          have hlk : orZ (shlZ 1 (w (d + 1) (4 * k + 1))) (shlZ 1 (w (d + 1) (4 * k + 2))) = (lnkD g k : Nat) := by rw [hgk.1.2.1, hgk.1.2.2.1, shl_eq (by omega), shl_eq (by omega), or_eq (by omega) (by omega)]; rfl
          have hb1 : andZ ci2 (orZ (shlZ 1 (w (d + 1) (4 * k + 1))) (shlZ 1 (w (d + 1) (4 * k + 2)))) = ((m2 &&& lnkD g k : Nat) : Int) := by rw [hlk, ec2, and_eq (by omega) (by omega)]
          have hb2 : m2 &&& lnkD g k ≤ m2 := Nat.and_le_left
          refine go_iload_n (j := 2) (q := 48) rfl rfl dX1_componentOf_47 rfl ?_
          refine go_iload (j := 5) (q := 50) rfl dX1_componentOf_48 rfl ?_
          refine go_iand (q := 51) dX1_componentOf_50 rfl ?_
          refine go_if_eq2 (q := 54) (t := 59) dX1_componentOf_51 (by decide) rfl (by rw [hb1]; omega) (fun c51 => ?_) (fun c51 => ?_)
          · refine go_iinc (j := 4) (q := 62) (ls2 := [_, _, _, _, _, _]) rfl (by decide) rfl rfl dX1_componentOf_59 rfl ?_
            refine go_goto (q := 17) dX1_componentOf_62 (by decide) ?_
            first
            | exact ih17 _ (by omega) (k + 1) _ ci2 m2 _ (by omega) (by omega) ec2 hm2 (by show m2 = stD g k _; rw [← em2, stD, if_pos (by rw [hb1] at c51; omega)]) rfl
            | exact ih17 _ (by omega) (k + 1) _ _ (m2 ||| lnkD g k) _ (by omega) (by omega) (by rw [hlk, ec2, or_eq (by omega) (by omega)]) (or_lt hm2 hll) (by show m2 ||| lnkD g k = stD g k _; rw [← em2, stD, if_neg (by rw [hb1] at c51; omega)]) rfl
          · refine go_iload_n (j := 2) (q := 55) rfl rfl dX1_componentOf_54 rfl ?_
            refine go_iload (j := 5) (q := 57) rfl dX1_componentOf_55 rfl ?_
            refine go_ior (q := 58) dX1_componentOf_57 rfl ?_
            refine go_istore_n (j := 2) (q := 59) (ls2 := [_, _, _, _, _, _]) rfl (by decide) rfl rfl dX1_componentOf_58 rfl ?_
            refine go_iinc (j := 4) (q := 62) (ls2 := [_, _, _, _, _, _]) rfl (by decide) rfl rfl dX1_componentOf_59 rfl ?_
            refine go_goto (q := 17) dX1_componentOf_62 (by decide) ?_
            first
            | exact ih17 _ (by omega) (k + 1) _ ci2 m2 _ (by omega) (by omega) ec2 hm2 (by show m2 = stD g k _; rw [← em2, stD, if_pos (by rw [hb1] at c51; omega)]) rfl
            | exact ih17 _ (by omega) (k + 1) _ _ (m2 ||| lnkD g k) _ (by omega) (by omega) (by rw [hlk, ec2, or_eq (by omega) (by omega)]) (or_lt hm2 hll) (by show m2 ||| lnkD g k = stD g k _; rw [← em2, stD, if_neg (by rw [hb1] at c51; omega)]) rfl
      exact lp17 _ 0 0 _ m _ rfl (by omega) ec hm rfl rfl
  exact lp6 _ 0 0 _ (2 ^ x) _ _ rfl (by omega) (by rw [ex, shl_eq (by omega)]) (two_lt hx) rfl rfl
theorem ev_countComponentsD (hd1 : sh[d]? = some (oDia d)) (hd2 : sh[d + 1]? = some (rInt 40)) (hD : DG w d a c g s) :
    eX1_countComponents l D ck ad sh [vR d] w (Pi fun v w1 => v = ((ccG (cmpD a c g) a).1 : Int) ∧ w = w1) := by
  have hD0 := hD
  obtain ⟨h0, h1, ha, hg⟩ := hD
  have h128 : 2 ^ a ≤ 2 ^ 7 := Nat.pow_le_pow_right (by decide) ha.1.2
  have hgl : ∀ k, k < c → g k 1 < a ∧ g k 2 < a := fun k hk => ⟨(hg k hk).2.1.2.1, (hg k hk).2.1.2.2⟩
  refine ev_of_goK (own := RX1) (ls := [some (vR d), none, none, none]) (by decide +kernel) rfl rfl (Nat.le_of_ble_eq_true rfl) rkI ?_
  intro K hK
  refine go_iconst (q := 1) dX1_countComponents_0 rfl ?_
  refine go_istore_n (j := 1) (q := 2) (ls2 := [_, _, _, _]) rfl (by decide) rfl rfl dX1_countComponents_1 rfl ?_
  refine go_iconst (q := 3) dX1_countComponents_2 rfl ?_
  refine go_istore_n (j := 2) (q := 4) (ls2 := [_, _, _, _]) rfl (by decide) rfl rfl dX1_countComponents_3 rfl ?_
  refine go_iconst (q := 5) dX1_countComponents_4 rfl ?_
  refine go_istore_n (j := 3) (q := 6) (ls2 := [_, _, _, _]) rfl (by decide) rfl rfl dX1_countComponents_5 rfl ?_
  have lp6 : ∀ (m6 : Nat) (x : Nat) (xi ni si : Int) (p : Nat × Nat) (ex : xi = x) (hx : x ≤ a) (ep : p = ccG (cmpD a c g) x) (en : ni = p.1) (es : si = p.2) (hp : p.2 < 2 ^ a), m6 = a - x → gX1_countComponents l D ck ad sh 6 [some (vR d), some (vI ni), some (vI si), some (vI xi)] [] w K := by
    intro m6
    induction m6 using Nat.strongRecOn with
    | _ m6 ih6 =>
    intro x xi ni si p ex hx ep en es hp em6
    refine go_iload_n (j := 3) (q := 7) rfl rfl dX1_countComponents_6 rfl ?_
    refine go_aload_n (j := 0) (q := 8) rfl rfl dX1_countComponents_7 rfl ?_
    refine go_getI (C0 := RX1) (T := TX1) (N := 3) (ci := 1) (i := 0) (q := 11) rfl igX1 (by first | assumption | rfl) (by decide) fl_X1_9 rfl dX1_countComponents_8 rfl ?_
    refine go_icmp_ge2 (q := 14) (t := 39) dX1_countComponents_11 (by decide) rfl (by omega) (fun c11 => ?_) (fun c11 => ?_)
    · refine go_iload_n (j := 1) (q := 40) rfl rfl dX1_countComponents_39 rfl ?_
      refine go_iret dX1_countComponents_40 ?_
      subst hK; exact ⟨_, rfl, by rw [en, ep, show x = a by omega], rfl⟩
    · have hb1 := bit_eq (a := p.2) (k := x) (by omega) (by omega)
      rw [← es, ← ex] at hb1
      refine go_iload_n (j := 2) (q := 15) rfl rfl dX1_countComponents_14 rfl ?_
      refine go_iload_n (j := 3) (q := 16) rfl rfl dX1_countComponents_15 rfl ?_
      refine go_ishr (q := 17) dX1_countComponents_16 rfl ?_
      refine go_iconst (q := 18) dX1_countComponents_17 rfl ?_
      refine go_iand (q := 19) dX1_countComponents_18 rfl ?_
      refine go_if_ne2 (q := 22) (t := 33) dX1_countComponents_19 (by decide) rfl (by rw [hb1]; split <;> omega) (fun c19 => ?_) (fun c19 => ?_)
      · have hbt : p.2.testBit x = true := by rw [hb1] at c19; by_cases q : p.2.testBit x = true; exact q; rw [if_neg q] at c19; omega
        refine go_iinc (j := 3) (q := 36) (ls2 := [_, _, _, _]) rfl (by decide) rfl rfl dX1_countComponents_33 rfl ?_
        refine go_goto (q := 6) dX1_countComponents_36 (by decide) ?_
        first
        | exact ih6 _ (by omega) (x + 1) _ _ _ p (by omega) (by omega) (by show _ = (if (ccG (cmpD a c g) x).2.testBit x = true then ccG (cmpD a c g) x else _); rw [← ep, if_pos hbt]) en es hp rfl
        | (have h5 := cmpD_lt hgl (show x < a by omega)
           exact ih6 _ (by omega) (x + 1) _ _ _ (p.1 + 1, p.2 ||| cmpD a c g x) (by omega) (by omega) (by show _ = (if (ccG (cmpD a c g) x).2.testBit x = true then _ else ((ccG (cmpD a c g) x).1 + 1, (ccG (cmpD a c g) x).2 ||| cmpD a c g x)); rw [← ep, if_neg hbt]) (by simp only; omega) (by rw [es]; exact or_eq (by omega) (by omega)) (or_lt hp h5) rfl)
      · have hbt : ¬ p.2.testBit x = true := by rw [hb1] at c19; intro q; rw [if_pos q] at c19; omega
        refine go_iinc (j := 1) (q := 25) (ls2 := [_, _, _, _]) rfl (by decide) rfl rfl dX1_countComponents_22 rfl ?_
        refine go_iload_n (j := 2) (q := 26) rfl rfl dX1_countComponents_25 rfl ?_
        refine go_aload_n (j := 0) (q := 27) rfl rfl dX1_countComponents_26 rfl ?_
        refine go_iload_n (j := 3) (q := 28) rfl rfl dX1_countComponents_27 rfl ?_
        refine go_callVi (as := [_, _]) (As := [_]) (rest := [_]) (n := 1) (q := 31) dX1_countComponents_28 lk_X1_35 (ci := 1) (N := 3) (T := TX1) rfl (by first | assumption | rfl) rfl rfl (by decide +kernel) rfl ⟨by decide, by decide⟩ ⟨rfl, rfl⟩ (Nat.le_of_ble_eq_true rfl) (ev_componentOfD hd1 hd2 hD0 (x := x) ex (by omega)) rfl (fun x28 w28 h28 => ?_)
        obtain ⟨rfl, rfl⟩ := h28
        refine go_ior (q := 32) dX1_countComponents_31 rfl ?_
        refine go_istore_n (j := 2) (q := 33) (ls2 := [_, _, _, _]) rfl (by decide) rfl rfl dX1_countComponents_32 rfl ?_
        refine go_iinc (j := 3) (q := 36) (ls2 := [_, _, _, _]) rfl (by decide) rfl rfl dX1_countComponents_33 rfl ?_
        refine go_goto (q := 6) dX1_countComponents_36 (by decide) ?_
        first
        | exact ih6 _ (by omega) (x + 1) _ _ _ p (by omega) (by omega) (by show _ = (if (ccG (cmpD a c g) x).2.testBit x = true then ccG (cmpD a c g) x else _); rw [← ep, if_pos hbt]) en es hp rfl
        | (have h5 := cmpD_lt hgl (show x < a by omega)
           exact ih6 _ (by omega) (x + 1) _ _ _ (p.1 + 1, p.2 ||| cmpD a c g x) (by omega) (by omega) (by show _ = (if (ccG (cmpD a c g) x).2.testBit x = true then _ else ((ccG (cmpD a c g) x).1 + 1, (ccG (cmpD a c g) x).2 ||| cmpD a c g x)); rw [← ep, if_neg hbt]) (by simp only; omega) (by rw [es]; exact or_eq (by omega) (by omega)) (or_lt hp h5) rfl)
  exact lp6 _ 0 0 0 0 (0, 0) rfl (by omega) rfl rfl rfl (Nat.two_pow_pos a) rfl
theorem ev_signSum (hd1 : sh[d]? = some (oDia d)) (hd2 : sh[d + 1]? = some (rInt 40)) (hD : DG w d a c g s) :
    eX1_signSum l D ck ad sh [vR d] w (Pi fun v w1 => v = sumZ s c ∧ w = w1) := by
  obtain ⟨h0, h1, ha, hg⟩ := hD
  refine ev_of_goK (own := RX1) (ls := [some (vR d), none, none]) (by decide +kernel) rfl rfl (Nat.le_of_ble_eq_true rfl) rkI ?_
  intro K hK
  refine go_iconst (q := 1) dX1_signSum_0 rfl ?_
  refine go_istore_n (j := 1) (q := 2) (ls2 := [_, _, _]) rfl (by decide) rfl rfl dX1_signSum_1 rfl ?_
  refine go_iconst (q := 3) dX1_signSum_2 rfl ?_
  refine go_istore_n (j := 2) (q := 4) (ls2 := [_, _, _]) rfl (by decide) rfl rfl dX1_signSum_3 rfl ?_
  have lp4 : ∀ (m4 : Nat) (k : Nat) (ki vi : Int) (ek : ki = k) (hk : k ≤ c) (ev : vi = sumZ s k), m4 = c - k → gX1_signSum l D ck ad sh 4 [some (vR d), some (vI vi), some (vI ki)] [] w K := by
    intro m4
    induction m4 using Nat.strongRecOn with
    | _ m4 ih4 =>
    intro k ki vi ek hk ev em4
    refine go_iload_n (j := 2) (q := 5) rfl rfl dX1_signSum_4 rfl ?_
    refine go_aload_n (j := 0) (q := 6) rfl rfl dX1_signSum_5 rfl ?_
    refine go_getI (C0 := RX1) (T := TX1) (N := 3) (ci := 1) (i := 1) (q := 9) rfl igX1 (by first | assumption | rfl) (by decide) fl_X1_15 rfl dX1_signSum_6 rfl ?_
    refine go_icmp_ge2 (q := 12) (t := 27) dX1_signSum_9 (by decide) rfl (by omega) (fun c9 => ?_) (fun c9 => ?_)
    · refine go_iload_n (j := 1) (q := 28) rfl rfl dX1_signSum_27 rfl ?_
      refine go_iret dX1_signSum_28 ?_
      subst hK; exact ⟨_, rfl, by rw [ev, show k = c by omega], rfl⟩
    · refine go_iload_n (j := 1) (q := 13) rfl rfl dX1_signSum_12 rfl ?_
      refine go_aload_n (j := 0) (q := 14) rfl rfl dX1_signSum_13 rfl ?_
      refine go_iload_n (j := 2) (q := 15) rfl rfl dX1_signSum_14 rfl ?_
      refine go_iconst (q := 16) dX1_signSum_15 rfl ?_
      refine go_callVi (as := [_, _, _]) (As := [_, _]) (rest := [_]) (n := 2) (q := 19) dX1_signSum_16 lk_X1_28 (ci := 1) (N := 3) (T := TX1) rfl (by first | assumption | rfl) rfl rfl (by decide +kernel) rfl ⟨by decide, by decide⟩ ⟨rfl, rfl⟩ (Nat.le_of_ble_eq_true rfl) (ev_part hd1 hd2 (k := k) (p := 3) ek rfl (by omega)) rfl (fun x16 w16 h16 => ?_)
      obtain ⟨rfl, rfl⟩ := h16
      refine go_iadd (q := 20) dX1_signSum_19 rfl ?_
      refine go_istore_n (j := 1) (q := 21) (ls2 := [_, _, _]) rfl (by decide) rfl rfl dX1_signSum_20 rfl ?_
      refine go_iinc (j := 2) (q := 24) (ls2 := [_, _, _]) rfl (by decide) rfl rfl dX1_signSum_21 rfl ?_
      refine go_goto (q := 4) dX1_signSum_24 (by decide) ?_
      exact ih4 _ (by omega) (k + 1) _ _ (by omega) (by omega) (by rw [ev, (hg k (by omega)).1.2.2.2]; rfl) rfl
  exact lp4 _ 0 0 0 rfl (by omega) rfl rfl
theorem ev_linkingSum (hd1 : sh[d]? = some (oDia d)) (hd2 : sh[d + 1]? = some (rInt 40)) (hD : DG w d a c g s) {x y : Nat} {xi yi : Int} (ex : xi = x) (ey : yi = y) (hx : x < a) (hy : y < a) :
    eX1_linkingSum l D ck ad sh [vR d, vI xi, vI yi] w (Pi fun v w1 => v = lksD g s (cmpD a c g x) (cmpD a c g y) c ∧ w = w1) := by
  have hD0 := hD
  obtain ⟨h0, h1, ha, hg⟩ := hD
  have h128 : 2 ^ a ≤ 2 ^ 7 := Nat.pow_le_pow_right (by decide) ha.1.2
  have hgl : ∀ k, k < c → g k 1 < a ∧ g k 2 < a := fun k hk => ⟨(hg k hk).2.1.2.1, (hg k hk).2.1.2.2⟩
  have hX := cmpD_lt hgl hx
  have hY := cmpD_lt hgl hy
  refine ev_of_goK (own := RX1) (ls := [some (vR d), some (vI xi), some (vI yi), none, none, none, none]) (by decide +kernel) rfl rfl (Nat.le_of_ble_eq_true rfl) rkI ?_
  intro K hK
  refine go_aload_n (j := 0) (q := 1) rfl rfl dX1_linkingSum_0 rfl ?_
  refine go_iload_n (j := 1) (q := 2) rfl rfl dX1_linkingSum_1 rfl ?_
  refine go_callVi (as := [_, _]) (As := [_]) (rest := []) (n := 1) (q := 5) dX1_linkingSum_2 lk_X1_35 (ci := 1) (N := 3) (T := TX1) rfl (by first | assumption | rfl) rfl rfl (by decide +kernel) rfl ⟨by decide, by decide⟩ ⟨rfl, rfl⟩ (Nat.le_of_ble_eq_true rfl) (ev_componentOfD hd1 hd2 hD0 (x := x) ex hx) rfl (fun x2 w2 h2 => ?_)
  obtain ⟨rfl, rfl⟩ := h2
  refine go_istore_n (j := 3) (q := 6) (ls2 := [_, _, _, _, _, _, _]) rfl (by decide) rfl rfl dX1_linkingSum_5 rfl ?_
  refine go_aload_n (j := 0) (q := 7) rfl rfl dX1_linkingSum_6 rfl ?_
  refine go_iload_n (j := 2) (q := 8) rfl rfl dX1_linkingSum_7 rfl ?_
  refine go_callVi (as := [_, _]) (As := [_]) (rest := []) (n := 1) (q := 11) dX1_linkingSum_8 lk_X1_35 (ci := 1) (N := 3) (T := TX1) rfl (by first | assumption | rfl) rfl rfl (by decide +kernel) rfl ⟨by decide, by decide⟩ ⟨rfl, rfl⟩ (Nat.le_of_ble_eq_true rfl) (ev_componentOfD hd1 hd2 hD0 (x := y) ey hy) rfl (fun x8 w8 h8 => ?_)
  obtain ⟨rfl, rfl⟩ := h8
  refine go_istore (j := 4) (q := 13) (ls2 := [_, _, _, _, _, _, _]) (by decide) rfl rfl dX1_linkingSum_11 rfl ?_
  refine go_iconst (q := 14) dX1_linkingSum_13 rfl ?_
  refine go_istore (j := 5) (q := 16) (ls2 := [_, _, _, _, _, _, _]) (by decide) rfl rfl dX1_linkingSum_14 rfl ?_
  refine go_iconst (q := 17) dX1_linkingSum_16 rfl ?_
  refine go_istore (j := 6) (q := 19) (ls2 := [_, _, _, _, _, _, _]) (by decide) rfl rfl dX1_linkingSum_17 rfl ?_
  have lp19 : ∀ (m19 : Nat) (k : Nat) (ki vi : Int) (ek : ki = k) (hk : k ≤ c) (ev : vi = lksD g s (cmpD a c g x) (cmpD a c g y) k), m19 = c - k → gX1_linkingSum l D ck ad sh 19 [some (vR d), some (vI xi), some (vI yi), (some (vI (cmpD a c g x : Nat))), (some (vI (cmpD a c g y : Nat))), some (vI vi), some (vI ki)] [] w K := by
    intro m19
    induction m19 using Nat.strongRecOn with
    | _ m19 ih19 =>
    intro k ki vi ek hk ev em19
    refine go_iload (j := 6) (q := 21) rfl dX1_linkingSum_19 rfl ?_
    refine go_aload_n (j := 0) (q := 22) rfl rfl dX1_linkingSum_21 rfl ?_
    refine go_getI (C0 := RX1) (T := TX1) (N := 3) (ci := 1) (i := 1) (q := 25) rfl igX1 (by first | assumption | rfl) (by decide) fl_X1_15 rfl dX1_linkingSum_22 rfl ?_
    refine go_icmp_ge2 (q := 28) (t := 77) dX1_linkingSum_25 (by decide) rfl (by omega) (fun c25 => ?_) (fun c25 => ?_)
    · refine go_iload (j := 5) (q := 79) rfl dX1_linkingSum_77 rfl ?_
      refine go_iret dX1_linkingSum_79 ?_
      subst hK; exact ⟨_, rfl, by rw [ev, show k = c by omega], rfl⟩
    · refine go_iload_n (j := 3) (q := 29) rfl rfl dX1_linkingSum_28 rfl ?_
      refine go_aload_n (j := 0) (q := 30) rfl rfl dX1_linkingSum_29 rfl ?_
      refine go_iload (j := 6) (q := 32) rfl dX1_linkingSum_30 rfl ?_
      refine go_iconst (q := 33) dX1_linkingSum_32 rfl ?_
      refine go_callVi (as := [_, _, _]) (As := [_, _]) (rest := [_]) (n := 2) (q := 36) dX1_linkingSum_33 lk_X1_28 (ci := 1) (N := 3) (T := TX1) rfl (by first | assumption | rfl) rfl rfl (by decide +kernel) rfl ⟨by decide, by decide⟩ ⟨rfl, rfl⟩ (Nat.le_of_ble_eq_true rfl) (ev_part hd1 hd2 (k := k) (p := 0) ek rfl (by omega)) rfl (fun x33 w33 h33 => ?_)
      obtain ⟨rfl, rfl⟩ := h33
      have hgk := hg k (by omega)
      have e0 : w (d + 1) (4 * k + 0) = (g k 0 : Int) := hgk.1.1
      have hb1 := bit_eq (a := cmpD a c g x) (k := g k 0) (by omega) (by omega)
      have hb2 := bit_eq (a := cmpD a c g y) (k := g k 1) (by omega) (by omega)
      refine go_ishr (q := 37) dX1_linkingSum_36 rfl ?_
      refine go_iconst (q := 38) dX1_linkingSum_37 rfl ?_
      refine go_iand (q := 39) dX1_linkingSum_38 rfl ?_
      refine go_iconst (q := 40) dX1_linkingSum_39 rfl ?_
      refine go_icmp_ne2 (q := 43) (t := 71) dX1_linkingSum_40 (by decide) rfl (by rw [e0, hb1]; split <;> omega) (fun c40 => ?_) (fun c40 => ?_)
      · have hbt : ¬ ((cmpD a c g x).testBit (g k 0) = true ∧ (cmpD a c g y).testBit (g k 1) = true) := by rw [e0, hb1] at c40; intro q; rw [if_pos q.1] at c40; omega
        refine go_iinc (j := 6) (q := 74) (ls2 := [_, _, _, _, _, _, _]) rfl (by decide) rfl rfl dX1_linkingSum_71 rfl ?_
        refine go_goto (q := 19) dX1_linkingSum_74 (by decide) ?_
        first
        | exact ih19 _ (by omega) (k + 1) _ _ (by omega) (by omega) (by show _ = (if _ then _ else _); rw [if_neg hbt]; exact ev) rfl
        | exact ih19 _ (by omega) (k + 1) _ _ (by omega) (by omega) (by show _ = (if _ then _ else _); rw [if_pos hbt, ev, hgk.1.2.2.2]; rfl) rfl
      · refine go_iload (j := 4) (q := 45) rfl dX1_linkingSum_43 rfl ?_
        refine go_aload_n (j := 0) (q := 46) rfl rfl dX1_linkingSum_45 rfl ?_
        refine go_iload (j := 6) (q := 48) rfl dX1_linkingSum_46 rfl ?_
        refine go_iconst (q := 49) dX1_linkingSum_48 rfl ?_
        refine go_callVi (as := [_, _, _]) (As := [_, _]) (rest := [_]) (n := 2) (q := 52) dX1_linkingSum_49 lk_X1_28 (ci := 1) (N := 3) (T := TX1) rfl (by first | assumption | rfl) rfl rfl (by decide +kernel) rfl ⟨by decide, by decide⟩ ⟨rfl, rfl⟩ (Nat.le_of_ble_eq_true rfl) (ev_part hd1 hd2 (k := k) (p := 1) ek rfl (by omega)) rfl (fun x49 w49 h49 => ?_)
        obtain ⟨rfl, rfl⟩ := h49
        refine go_ishr (q := 53) dX1_linkingSum_52 rfl ?_
        refine go_iconst (q := 54) dX1_linkingSum_53 rfl ?_
        refine go_iand (q := 55) dX1_linkingSum_54 rfl ?_
        refine go_iconst (q := 56) dX1_linkingSum_55 rfl ?_
        refine go_icmp_ne2 (q := 59) (t := 71) dX1_linkingSum_56 (by decide) rfl (by rw [hgk.1.2.1, hb2]; split <;> omega) (fun c56 => ?_) (fun c56 => ?_)
        · have hbt : ¬ ((cmpD a c g x).testBit (g k 0) = true ∧ (cmpD a c g y).testBit (g k 1) = true) := by rw [hgk.1.2.1, hb2] at c56; intro q; rw [if_pos q.2] at c56; omega
          refine go_iinc (j := 6) (q := 74) (ls2 := [_, _, _, _, _, _, _]) rfl (by decide) rfl rfl dX1_linkingSum_71 rfl ?_
          refine go_goto (q := 19) dX1_linkingSum_74 (by decide) ?_
          first
          | exact ih19 _ (by omega) (k + 1) _ _ (by omega) (by omega) (by show _ = (if _ then _ else _); rw [if_neg hbt]; exact ev) rfl
          | exact ih19 _ (by omega) (k + 1) _ _ (by omega) (by omega) (by show _ = (if _ then _ else _); rw [if_pos hbt, ev, hgk.1.2.2.2]; rfl) rfl
        · have hbt : (cmpD a c g x).testBit (g k 0) = true ∧ (cmpD a c g y).testBit (g k 1) = true := by
            rw [e0, hb1] at c40; rw [hgk.1.2.1, hb2] at c56
            constructor
            · by_cases q : (cmpD a c g x).testBit (g k 0) = true; exact q; rw [if_neg q] at c40; omega
            · by_cases q : (cmpD a c g y).testBit (g k 1) = true; exact q; rw [if_neg q] at c56; omega
          refine go_iload (j := 5) (q := 61) rfl dX1_linkingSum_59 rfl ?_
          refine go_aload_n (j := 0) (q := 62) rfl rfl dX1_linkingSum_61 rfl ?_
          refine go_iload (j := 6) (q := 64) rfl dX1_linkingSum_62 rfl ?_
          refine go_iconst (q := 65) dX1_linkingSum_64 rfl ?_
          refine go_callVi (as := [_, _, _]) (As := [_, _]) (rest := [_]) (n := 2) (q := 68) dX1_linkingSum_65 lk_X1_28 (ci := 1) (N := 3) (T := TX1) rfl (by first | assumption | rfl) rfl rfl (by decide +kernel) rfl ⟨by decide, by decide⟩ ⟨rfl, rfl⟩ (Nat.le_of_ble_eq_true rfl) (ev_part hd1 hd2 (k := k) (p := 3) ek rfl (by omega)) rfl (fun x65 w65 h65 => ?_)
          obtain ⟨rfl, rfl⟩ := h65
          refine go_iadd (q := 69) dX1_linkingSum_68 rfl ?_
          refine go_istore (j := 5) (q := 71) (ls2 := [_, _, _, _, _, _, _]) (by decide) rfl rfl dX1_linkingSum_69 rfl ?_
          refine go_iinc (j := 6) (q := 74) (ls2 := [_, _, _, _, _, _, _]) rfl (by decide) rfl rfl dX1_linkingSum_71 rfl ?_
          refine go_goto (q := 19) dX1_linkingSum_74 (by decide) ?_
          first
          | exact ih19 _ (by omega) (k + 1) _ _ (by omega) (by omega) (by show _ = (if _ then _ else _); rw [if_neg hbt]; exact ev) rfl
          | exact ih19 _ (by omega) (k + 1) _ _ (by omega) (by omega) (by show _ = (if _ then _ else _); rw [if_pos hbt, ev, hgk.1.2.2.2]; rfl) rfl
  exact lp19 _ 0 0 0 rfl (by omega) rfl rfl
end DIA
