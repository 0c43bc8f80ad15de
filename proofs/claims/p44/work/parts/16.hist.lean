/-! a state: the table and the diagram; the saved ones -/
abbrev SS : Type := (Nat × (Nat → Nat → Nat)) × ((Nat × Nat) × ((Nat → Nat → Nat) × (Nat → Int)))
def STp (w : Mem) (t d : Nat) (S : SS) : Prop := TB w t S.1.1 S.1.2 ∧ DG w d S.2.1.1 S.2.1.2 S.2.2.1 S.2.2.2
def slt (nx hc i : Nat) : Nat := (nx + 6 - hc + i) % 6
def HX (w : Mem) (hc : Nat) (H : Nat → SS) : Prop := w 18 0 = (hc : Int) ∧ hc ≤ 6 ∧ ∃ nx : Nat, nx < 6 ∧ w 18 1 = (nx : Int) ∧ ∀ i, i < hc → STp w (21 + 4 * slt nx hc i) (23 + 4 * slt nx hc i) (H i)
def hpush (hc : Nat) (H : Nat → SS) (S : SS) : Nat → SS := if hc < 6 then (fun i => if i = hc then S else H i) else (fun i => if i = 5 then S else H (i + 1))
theorem TB_copy {w w1 : Mem} {t u n : Nat} {f : Nat → Nat → Nat} (h : TB w u n f) (h0 : w1 t 0 = w u 0) (hp : ∀ k, k < 36 → w1 (t + 1) k = w (u + 1) k) : TB w1 t n f :=
  ⟨by rw [h0]; exact h.1, h.2.1, fun x y hx hy => by have := h.2.1; rw [hp _ (by omega)]; exact h.2.2 x y hx hy⟩
theorem DG_copy {w w1 : Mem} {t u a c : Nat} {g : Nat → Nat → Nat} {s : Nat → Int} (h : DG w u a c g s) (h0 : w1 t 0 = w u 0) (h1 : w1 t 1 = w u 1) (hp : ∀ k, k < 40 → w1 (t + 1) k = w (u + 1) k) : DG w1 t a c g s :=
  ⟨by rw [h0]; exact h.1, by rw [h1]; exact h.2.1, h.2.2.1, fun k hk => by
    have := h.2.2.1
    rw [hp _ (by omega), hp _ (by omega), hp _ (by omega), hp _ (by omega)]; exact h.2.2.2 k hk⟩
theorem TB_same {w w1 : Mem} {t n : Nat} {f : Nat → Nat → Nat} (h : TB w t n f) (hs : ∀ k, w1 t k = w t k) (hs1 : ∀ k, w1 (t + 1) k = w (t + 1) k) : TB w1 t n f := TB_copy h (hs 0) (fun k _ => hs1 k)
theorem DG_same {w w1 : Mem} {t a c : Nat} {g : Nat → Nat → Nat} {s : Nat → Int} (h : DG w t a c g s) (hs : ∀ k, w1 t k = w t k) (hs1 : ∀ k, w1 (t + 1) k = w (t + 1) k) : DG w1 t a c g s := DG_copy h (hs 0) (hs 1) (fun k _ => hs1 k)
theorem slot_sh {j : Nat} (hj : j < 6) : (shA[21 + 4 * j]? = some (oTab (21 + 4 * j)) ∧ shA[21 + 4 * j + 1]? = some (rInt 36)) ∧ (shA[23 + 4 * j]? = some (oDia (23 + 4 * j)) ∧ shA[23 + 4 * j + 1]? = some (rInt 40)) := by
  rcases (show j = 0 ∨ j = 1 ∨ j = 2 ∨ j = 3 ∨ j = 4 ∨ j = 5 by omega) with rfl | rfl | rfl | rfl | rfl | rfl <;> exact ⟨⟨rfl, rfl⟩, rfl, rfl⟩
theorem slot_rs {j : Nat} (hj : j < 6) : ([21, 25, 29, 33, 37, 41] : List Nat)[j]? = some (21 + 4 * j) ∧ ([23, 27, 31, 35, 39, 43] : List Nat)[j]? = some (23 + 4 * j) := by
  rcases (show j = 0 ∨ j = 1 ∨ j = 2 ∨ j = 3 ∨ j = 4 ∨ j = 5 by omega) with rfl | rfl | rfl | rfl | rfl | rfl <;> exact ⟨rfl, rfl⟩
section HIST
variable {l : Launch} {D : va_G} {ck : Nat → ClassId} {ad : Nat → Nat} {w : Mem} {hc : Nat} {H : Nat → SS} {S : SS}
theorem ev_save (hH : HX w hc H) (hS : STp w 1 10 S) :
    eX3_save l D ck ad shA [vR 18, vR 1, vR 10] w (Pv fun w1 => HX w1 (min (hc + 1) 6) (hpush hc H S) ∧ ∀ c k, c < 18 ∨ 45 ≤ c → w1 c k = w c k) := by
  obtain ⟨h0, h6, nx, hnx, h1, hh⟩ := hH
  have hsl := slot_sh hnx
  obtain ⟨⟨hs1, hs2⟩, hs3, hs4⟩ := slot_sh hnx
  have hrs := slot_rs hnx
  have htm : ((nx : Int) + 1).tmod 6 = (((nx + 1) % 6 : Nat) : Int) := (Int.ofNat_tmod (nx + 1) 6).symm
  refine ev_of_goK (own := RX3) (ls := [some (vR 18), some (vR 1), some (vR 10)]) (by decide +kernel) rfl rfl (Nat.le_of_ble_eq_true rfl) rkV ?_
  intro K hK
  refine go_aload_n (j := 0) (q := 1) rfl rfl dX3_save_0 rfl ?_
  refine go_getR (C0 := RX3) (T := TX3) (N := 4) (ci := 3) (i := 2) (q := 4) rfl igX3 (by first | assumption | rfl) (by decide) fl_X3_20 rfl dX3_save_1 rfl ?_
  refine go_aload_n (j := 0) (q := 5) rfl rfl dX3_save_4 rfl ?_
  refine go_getI (C0 := RX3) (T := TX3) (N := 4) (ci := 3) (i := 1) (q := 8) rfl igX3 (by first | assumption | rfl) (by decide) fl_X3_15 rfl dX3_save_5 rfl ?_
  refine go_aald3 (j := nx) (q := 9) (by first | assumption | rfl) (wr_eq (by omega)) hrs.1 dX3_save_8 rfl ?_
  refine go_aload_n (j := 1) (q := 10) rfl rfl dX3_save_9 rfl ?_
  refine go_callVv (as := [_, _]) (As := [_]) (rest := []) (n := 1) (q := 13) dX3_save_10 lk_X3_32 (ci := 5) (N := 2) (T := TX5) rfl (by first | assumption | rfl) rfl rfl (by decide +kernel) rfl ⟨by decide, by decide⟩ ⟨rfl, rfl⟩ (Nat.le_of_ble_eq_true rfl) (ev_copyT hsl.1.1 hsl.1.2 (u := 1) rfl rfl (by omega)) rfl (fun w10 h10 => ?_)
  obtain ⟨a10, b10, f10⟩ := h10
  have g1 : w10 18 1 = nx := by rw [f10 _ _ (by omega) (by omega)]; exact h1
  have g0 : w10 18 0 = hc := by rw [f10 _ _ (by omega) (by omega)]; exact h0
  refine go_aload_n (j := 0) (q := 14) rfl rfl dX3_save_13 rfl ?_
  refine go_getR (C0 := RX3) (T := TX3) (N := 4) (ci := 3) (i := 3) (q := 17) rfl igX3 (by first | assumption | rfl) (by decide) fl_X3_26 rfl dX3_save_14 rfl ?_
  refine go_aload_n (j := 0) (q := 18) rfl rfl dX3_save_17 rfl ?_
  refine go_getI (C0 := RX3) (T := TX3) (N := 4) (ci := 3) (i := 1) (q := 21) rfl igX3 (by first | assumption | rfl) (by decide) fl_X3_15 rfl dX3_save_18 rfl ?_
  refine go_aald4 (j := nx) (q := 22) (by first | assumption | rfl) (wr_eq (by omega)) hrs.2 dX3_save_21 rfl ?_
  refine go_aload_n (j := 2) (q := 23) rfl rfl dX3_save_22 rfl ?_
  refine go_callVv (as := [_, _]) (As := [_]) (rest := []) (n := 1) (q := 26) dX3_save_23 lk_X3_36 (ci := 1) (N := 3) (T := TX1) rfl (by first | assumption | rfl) rfl rfl (by decide +kernel) rfl ⟨by decide, by decide⟩ ⟨rfl, rfl⟩ (Nat.le_of_ble_eq_true rfl) (ev_copyD hsl.2.1 hsl.2.2 (u := 10) rfl rfl (by omega)) rfl (fun w23 h23 => ?_)
  obtain ⟨a23, a23', b23, f23⟩ := h23
  have g12 : w23 18 1 = nx := by rw [f23 _ _ (by omega) (by omega)]; exact g1
  have g02 : w23 18 0 = hc := by rw [f23 _ _ (by omega) (by omega)]; exact g0
  refine go_aload_n (j := 0) (q := 27) rfl rfl dX3_save_26 rfl ?_
  refine go_aload_n (j := 0) (q := 28) rfl rfl dX3_save_27 rfl ?_
  refine go_getI (C0 := RX3) (T := TX3) (N := 4) (ci := 3) (i := 1) (q := 31) rfl igX3 (by first | assumption | rfl) (by decide) fl_X3_15 rfl dX3_save_28 rfl ?_
  refine go_iconst (q := 32) dX3_save_31 rfl ?_
  refine go_iadd (q := 33) dX3_save_32 rfl ?_
  refine go_bipush (q := 35) rfl dX3_save_33 rfl ?_
  refine go_irem2 (q := 36) (by omega) (by omega) dX3_save_35 rfl ?_
  rw [g12, htm]
  refine go_putI (C0 := RX3) (T := TX3) (N := 4) (ci := 3) (i := 1) (q := 39) rfl igX3 (by first | assumption | rfl) (by decide) fl_X3_15 rfl tyX3 tyX3_ok nmX3 rfl rfl dX3_save_36 rfl ?_
  refine go_aload_n (j := 0) (q := 40) rfl rfl dX3_save_39 rfl ?_
  refine go_aload_n (j := 0) (q := 41) rfl rfl dX3_save_40 rfl ?_
  refine go_getI (C0 := RX3) (T := TX3) (N := 4) (ci := 3) (i := 0) (q := 44) rfl igX3 (by first | assumption | rfl) (by decide) fl_X3_9 rfl dX3_save_41 rfl ?_
  refine go_iconst (q := 45) dX3_save_44 rfl ?_
  refine go_iadd (q := 46) dX3_save_45 rfl ?_
  refine go_bipush (q := 48) rfl dX3_save_46 rfl ?_
  refine go_callSi (as := [_, _]) (rest := [_]) (n := 2) (q := 51) dX3_save_48 lk_X3_39 rfl (by decide +kernel) rfl ⟨by decide, by decide⟩ ⟨rfl, rfl⟩ (Nat.le_of_ble_eq_true rfl) (ev_min (by rw [mup_ne (by omega)]; omega)) rfl (fun x48 w48 h48 => ?_)
  obtain ⟨h48, rfl⟩ := h48
  rw [mup_ne (by omega), g02] at h48
  refine go_putI (C0 := RX3) (T := TX3) (N := 4) (ci := 3) (i := 0) (q := 54) rfl igX3 (by first | assumption | rfl) (by decide) fl_X3_9 rfl tyX3 tyX3_ok nmX3 rfl rfl dX3_save_51 rfl ?_
  refine go_vret dX3_save_54 ?_
  subst hK
  have fr : ∀ c k, c ≠ 21 + 4 * nx → c ≠ 21 + 4 * nx + 1 → c ≠ 23 + 4 * nx → c ≠ 23 + 4 * nx + 1 → c ≠ 18 → mup (mup w23 18 1 ((nx + 1) % 6 : Nat)) 18 0 x48 c k = w c k := fun c k q1 q2 q3 q4 q5 => by
    rw [mup_ne (Or.inl q5), mup_ne (Or.inl q5), f23 _ _ q3 q4, f10 _ _ q1 q2]
  have hnew : STp (mup (mup w23 18 1 ((nx + 1) % 6 : Nat)) 18 0 x48) (21 + 4 * nx) (23 + 4 * nx) S := by
    refine ⟨TB_copy hS.1 ?_ ?_, DG_copy hS.2 ?_ ?_ ?_⟩
    · rw [mup_ne (by omega), mup_ne (by omega), f23 _ _ (by omega) (by omega)]; exact a10
    · intro k hk; rw [mup_ne (by omega), mup_ne (by omega), f23 _ _ (by omega) (by omega)]; exact b10 k hk
    · rw [mup_ne (by omega), mup_ne (by omega), a23, f10 _ _ (by omega) (by omega)]
    · rw [mup_ne (by omega), mup_ne (by omega), a23', f10 _ _ (by omega) (by omega)]
    · intro k hk; rw [mup_ne (by omega), mup_ne (by omega), b23 k hk, f10 _ _ (by omega) (by omega)]
  have hold : ∀ i, i < hc → slt nx hc i ≠ nx → STp (mup (mup w23 18 1 ((nx + 1) % 6 : Nat)) 18 0 x48) (21 + 4 * slt nx hc i) (23 + 4 * slt nx hc i) (H i) := by
    intro i hi hne
    have hs6 : slt nx hc i < 6 := Nat.mod_lt _ (by decide)
    exact ⟨TB_same (hh i hi).1 (fun k => fr _ _ (by omega) (by omega) (by omega) (by omega) (by omega)) (fun k => fr _ _ (by omega) (by omega) (by omega) (by omega) (by omega)),
      DG_same (hh i hi).2 (fun k => fr _ _ (by omega) (by omega) (by omega) (by omega) (by omega)) (fun k => fr _ _ (by omega) (by omega) (by omega) (by omega) (by omega))⟩
  refine ⟨rfl, ⟨by rw [mup_eq]; omega, by omega, (nx + 1) % 6, by omega, by rw [mup_ne (by omega), mup_eq], ?_⟩, fun c k q => fr c k (by omega) (by omega) (by omega) (by omega) (by omega)⟩
  intro i hi
  unfold hpush
  by_cases q : hc < 6
  · rw [if_pos q]
    have e1 : slt ((nx + 1) % 6) (min (hc + 1) 6) i = slt nx hc i := by unfold slt; omega
    rw [e1]
    by_cases z : i = hc
    · simp only [if_pos z]
      have e2 : slt nx hc i = nx := by unfold slt; omega
      rw [e2]; exact hnew
    · simp only [if_neg z]
      exact hold i (by omega) (by unfold slt; omega)
  · rw [if_neg q]
    by_cases z : i = 5
    · simp only [if_pos z]
      have e2 : slt ((nx + 1) % 6) (min (hc + 1) 6) i = nx := by unfold slt; omega
      rw [e2]; exact hnew
    · simp only [if_neg z]
      have e1 : slt ((nx + 1) % 6) (min (hc + 1) 6) i = slt nx hc (i + 1) := by unfold slt; omega
      rw [e1]
      exact hold (i + 1) (by omega) (by unfold slt; omega)
end HIST
