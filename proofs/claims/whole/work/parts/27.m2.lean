theorem ps_b : ∀ p : Fin 5, ∀ a : Fin 5, ∀ b : Fin 5, (a : Nat) < b → (b : Nat) < p → ((b : Nat) : Int) - ((a : Nat) : Int) - 1 + sumZ (fun i => ((p : Nat) : Int) - 1 - (i : Int)) a = (pnum p a b : Int) := by decide +kernel
theorem ps_r : ∀ p : Fin 5, ∀ a : Fin 5, -20 ≤ sumZ (fun i => ((p : Nat) : Int) - 1 - (i : Int)) a ∧ sumZ (fun i => ((p : Nat) : Int) - 1 - (i : Int)) a ≤ 20 := by decide +kernel
theorem prm_pc {n y : Nat} {f : Nat → Nat → Nat} (hn : n ≤ 6) (hf : ∀ i, i < n → f i y < n) : pc (msk (fun x => f x y) n) = n ↔ prm n f y := by
  have hl := msk_lt (g := fun x => f x y) (n := n) n hf
  constructor
  · intro h; exact (pc_full (by omega) hl).2 (by omega)
  · intro h
    unfold prm at h
    rw [h]; exact pc_all ⟨n, by omega⟩
section M2
variable {l : Launch} {D : va_G} {ck : Nat → ClassId} {ad : Nat → Nat} {w : Mem} {W : WA} {n : Nat} {f : Nat → Nat → Nat}
theorem em_pairOf {u v p : Nat} {ui vi pi : Int} (eu : ui = u) (ev : vi = v) (ep : pi = p) (hne : u ≠ v) (hu : u < p) (hv : v < p) (hp : p ≤ 4) : eX7_pairOf l D ck ad shA [vI ui, vI vi, vI pi] w (Pi fun r w1 => r = (pnum p (min u v) (max u v) : Int) ∧ w = w1) := by
  refine ev_of_goK (own := RX7) (ls := [some (vI ui), some (vI vi), some (vI pi), none, none, none, none]) (by decide +kernel) rfl rfl (Nat.le_of_ble_eq_true rfl) rkI ?_
  intro K hK
  have key : ∀ (ai bi : Int) (a b : Nat), ai = a → bi = b → a = min u v → b = max u v → gX7_pairOf l D ck ad shA 23 [some (vI ui), some (vI vi), some (vI pi), some (vI ai), some (vI bi), none, none] [] w K := by
    intro ai bi a b ea eb ha hb
    refine go_iload (j := 4) (q := 25) rfl dX7_pairOf_23 rfl ?_
    refine go_iload_n (j := 3) (q := 26) rfl rfl dX7_pairOf_25 rfl ?_
    refine go_isub (q := 27) dX7_pairOf_26 rfl ?_
    refine go_iconst (q := 28) dX7_pairOf_27 rfl ?_
    refine go_isub (q := 29) dX7_pairOf_28 rfl ?_
    refine go_istore (j := 5) (q := 31) (ls2 := [_, _, _, _, _, _, _]) (by decide) rfl rfl dX7_pairOf_29 rfl ?_
    refine go_iconst (q := 32) dX7_pairOf_31 rfl ?_
    refine go_istore (j := 6) (q := 34) (ls2 := [_, _, _, _, _, _, _]) (by decide) rfl rfl dX7_pairOf_32 rfl ?_
    have lp34 : ∀ (m34 : Nat) (k : Nat) (ki ci : Int) (ek : ki = k) (hk : k ≤ a) (ec : ci = bi - ai - 1 + sumZ (fun i => (p : Int) - 1 - (i : Int)) k), m34 = a - k → gX7_pairOf l D ck ad shA 34 [some (vI ui), some (vI vi), some (vI pi), some (vI ai), some (vI bi), some (vI ci), some (vI ki)] [] w K := by
      intro m34
      induction m34 using Nat.strongRecOn with
      | _ m34 ih34 =>
      intro k ki ci ek hk ec em34
      refine go_iload (j := 6) (q := 36) rfl dX7_pairOf_34 rfl ?_
      refine go_iload_n (j := 3) (q := 37) rfl rfl dX7_pairOf_36 rfl ?_
      refine go_icmp_ge2 (q := 40) (t := 57) dX7_pairOf_37 (by decide) rfl (by omega) (fun c37 => ?_) (fun c37 => ?_)
      · refine go_iload (j := 5) (q := 59) rfl dX7_pairOf_57 rfl ?_
        refine go_iret dX7_pairOf_59 ?_
        subst hK
        have h := ps_b ⟨p, by omega⟩ ⟨a, by omega⟩ ⟨b, by omega⟩ (by simp only; omega) (by simp only; omega)
        simp only at h
        rw [show k = a by omega] at ec
        refine ⟨_, rfl, ?_, rfl⟩
        rw [← ha, ← hb, ← h, ec, ea, eb]
      · refine go_iload (j := 5) (q := 42) rfl dX7_pairOf_40 rfl ?_
        refine go_iload_n (j := 2) (q := 43) rfl rfl dX7_pairOf_42 rfl ?_
        refine go_iconst (q := 44) dX7_pairOf_43 rfl ?_
        refine go_isub (q := 45) dX7_pairOf_44 rfl ?_
        refine go_iload (j := 6) (q := 47) rfl dX7_pairOf_45 rfl ?_
        refine go_isub (q := 48) dX7_pairOf_47 rfl ?_
        refine go_iadd (q := 49) dX7_pairOf_48 rfl ?_
        refine go_istore (j := 5) (q := 51) (ls2 := [_, _, _, _, _, _, _]) (by decide) rfl rfl dX7_pairOf_49 rfl ?_
        refine go_iinc (j := 6) (q := 54) (ls2 := [_, _, _, _, _, _, _]) rfl (by decide) rfl rfl dX7_pairOf_51 rfl ?_
        refine go_goto (q := 34) dX7_pairOf_54 (by decide) ?_
        exact ih34 _ (by omega) (k + 1) _ _ (by omega) (by omega) (by show _ = bi - ai - 1 + (sumZ (fun i => (p : Int) - 1 - (i : Int)) k + ((p : Int) - 1 - (k : Int))); omega) rfl
    exact lp34 _ 0 0 _ rfl (by omega) (by show _ = bi - ai - 1 + 0; omega) rfl
  refine go_iload_n (j := 0) (q := 1) rfl rfl dX7_pairOf_0 rfl ?_
  refine go_iload_n (j := 1) (q := 2) rfl rfl dX7_pairOf_1 rfl ?_
  refine go_icmp_ge2 (q := 5) (t := 9) dX7_pairOf_2 (by decide) rfl (by omega) (fun c2 => ?_) (fun c2 => ?_)
  · refine go_iload_n (j := 1) (q := 10) rfl rfl dX7_pairOf_9 rfl ?_
    refine go_istore_n (j := 3) (q := 11) (ls2 := [_, _, _, _, _, _, _]) rfl (by decide) rfl rfl dX7_pairOf_10 rfl ?_
    refine go_iload_n (j := 0) (q := 12) rfl rfl dX7_pairOf_11 rfl ?_
    refine go_iload_n (j := 1) (q := 13) rfl rfl dX7_pairOf_12 rfl ?_
    refine go_icmp_ge2 (q := 16) (t := 20) dX7_pairOf_13 (by decide) rfl (by omega) (fun c13 => ?_) (fun c13 => ?_)
    · refine go_iload_n (j := 0) (q := 21) rfl rfl dX7_pairOf_20 rfl ?_
      refine go_istore (j := 4) (q := 23) (ls2 := [_, _, _, _, _, _, _]) (by decide) rfl rfl dX7_pairOf_21 rfl ?_
      exact key _ _ (min u v) (max u v) (by omega) (by omega) rfl rfl
    · refine go_iload_n (j := 1) (q := 17) rfl rfl dX7_pairOf_16 rfl ?_
      refine go_goto (q := 21) dX7_pairOf_17 (by decide) ?_
      refine go_istore (j := 4) (q := 23) (ls2 := [_, _, _, _, _, _, _]) (by decide) rfl rfl dX7_pairOf_21 rfl ?_
      exact key _ _ (min u v) (max u v) (by omega) (by omega) rfl rfl
  · refine go_iload_n (j := 0) (q := 6) rfl rfl dX7_pairOf_5 rfl ?_
    refine go_goto (q := 10) dX7_pairOf_6 (by decide) ?_
    refine go_istore_n (j := 3) (q := 11) (ls2 := [_, _, _, _, _, _, _]) rfl (by decide) rfl rfl dX7_pairOf_10 rfl ?_
    refine go_iload_n (j := 0) (q := 12) rfl rfl dX7_pairOf_11 rfl ?_
    refine go_iload_n (j := 1) (q := 13) rfl rfl dX7_pairOf_12 rfl ?_
    refine go_icmp_ge2 (q := 16) (t := 20) dX7_pairOf_13 (by decide) rfl (by omega) (fun c13 => ?_) (fun c13 => ?_)
    · refine go_iload_n (j := 0) (q := 21) rfl rfl dX7_pairOf_20 rfl ?_
      refine go_istore (j := 4) (q := 23) (ls2 := [_, _, _, _, _, _, _]) (by decide) rfl rfl dX7_pairOf_21 rfl ?_
      exact key _ _ (min u v) (max u v) (by omega) (by omega) rfl rfl
    · refine go_iload_n (j := 1) (q := 17) rfl rfl dX7_pairOf_16 rfl ?_
      refine go_goto (q := 21) dX7_pairOf_17 (by decide) ?_
      refine go_istore (j := 4) (q := 23) (ls2 := [_, _, _, _, _, _, _]) (by decide) rfl rfl dX7_pairOf_21 rfl ?_
      exact key _ _ (min u v) (max u v) (by omega) (by omega) rfl rfl
theorem em_replaced {x a b : Nat} {xi ai bi : Int} (ex : xi = x) (ea : ai = a) (eb : bi = b) (hx : x < 5 ∧ a < 5 ∧ b < 5) : eX7_replaced l D ck ad shA [vI xi, vI ai, vI bi] w (Pi fun v w1 => v = (swp x a b : Int) ∧ w = w1) := by
  refine ev_of_goK (own := RX7) (ls := [some (vI xi), some (vI ai), some (vI bi)]) (by decide +kernel) rfl rfl (Nat.le_of_ble_eq_true rfl) rkI ?_
  intro K hK
  refine go_iload_n (j := 0) (q := 1) rfl rfl dX7_replaced_0 rfl ?_
  refine go_iload_n (j := 1) (q := 2) rfl rfl dX7_replaced_1 rfl ?_
  refine go_icmp_ne2 (q := 5) (t := 9) dX7_replaced_2 (by decide) rfl (by omega) (fun c2 => ?_) (fun c2 => ?_)
  · refine go_iload_n (j := 0) (q := 10) rfl rfl dX7_replaced_9 rfl ?_
    refine go_iload_n (j := 2) (q := 11) rfl rfl dX7_replaced_10 rfl ?_
    refine go_icmp_ne2 (q := 14) (t := 18) dX7_replaced_11 (by decide) rfl (by omega) (fun c11 => ?_) (fun c11 => ?_)
    · refine go_iload_n (j := 0) (q := 19) rfl rfl dX7_replaced_18 rfl ?_
      refine go_iret dX7_replaced_19 ?_
      subst hK
      refine ⟨_, rfl, ?_, rfl⟩
      unfold swp
      repeat' split
      all_goals omega
    · refine go_iload_n (j := 1) (q := 15) rfl rfl dX7_replaced_14 rfl ?_
      refine go_goto (q := 19) dX7_replaced_15 (by decide) ?_
      refine go_iret dX7_replaced_19 ?_
      subst hK
      refine ⟨_, rfl, ?_, rfl⟩
      unfold swp
      repeat' split
      all_goals omega
  · refine go_iload_n (j := 2) (q := 6) rfl rfl dX7_replaced_5 rfl ?_
    refine go_goto (q := 19) dX7_replaced_6 (by decide) ?_
    refine go_iret dX7_replaced_19 ?_
    subst hK
    refine ⟨_, rfl, ?_, rfl⟩
    unfold swp
    repeat' split
    all_goals omega
theorem em_laysPair {a b p : Nat} {ai bi pi : Int} (ea : ai = a) (eb : bi = b) (ep : pi = p) (hab : a < b) (hbp : b < p) (hp : 2 ≤ p ∧ p ≤ 4) :
    eX7_laysPair l D ck ad shA [vR 45, vI ai, vI bi, vI pi] w (Pv fun w1 => (∀ y, y < p * (p - 1) / 2 → w1 46 (1 + 6 * pnum p a b + y) = (trF p (pnum p a b) y : Int)) ∧ ∀ c k, (c = 46 → ∀ y, y < 6 → k ≠ 1 + 6 * pnum p a b + y) → w1 c k = w c k) := by
  refine ev_of_goK (own := RX7) (ls := [some (vR 45), some (vI ai), some (vI bi), some (vI pi), none, none, none]) (by decide +kernel) rfl rfl (Nat.le_of_ble_eq_true rfl) rkV ?_
  intro K hK
  have hab0 := pn_b ⟨p, by omega⟩ ⟨a, by omega⟩ ⟨b, by omega⟩ hp.1 hab hbp
  have hp0 := pn_0 ⟨p, by omega⟩ hp.1
  simp only at hab0 hp0
  have emn : pnum p (min a b) (max a b) = pnum p a b := by rw [Nat.min_eq_left (by omega), Nat.max_eq_right (by omega)]
  generalize hx : pnum p a b = x at *
  refine go_iload_n (j := 1) (q := 1) rfl rfl dX7_laysPair_0 rfl ?_
  refine go_iload_n (j := 2) (q := 2) rfl rfl dX7_laysPair_1 rfl ?_
  refine go_iload_n (j := 3) (q := 3) rfl rfl dX7_laysPair_2 rfl ?_
  refine go_callSi (as := [_, _, _]) (rest := []) (n := 3) (q := 6) dX7_laysPair_3 lk_X7_54 rfl (by decide +kernel) rfl ⟨by decide, by decide⟩ ⟨rfl, rfl⟩ (Nat.le_of_ble_eq_true rfl) (em_pairOf ea eb ep (by omega) (by omega) hbp hp.2) rfl (fun x3 w3 h3 => ?_)
  obtain ⟨rfl, rfl⟩ := h3
  rw [emn]
  refine go_istore (j := 4) (q := 8) (ls2 := [_, _, _, _, _, _, _]) (by decide) rfl rfl dX7_laysPair_6 rfl ?_
  refine go_iconst (q := 9) dX7_laysPair_8 rfl ?_
  refine go_istore (j := 5) (q := 11) (ls2 := [_, _, _, _, _, _, _]) (by decide) rfl rfl dX7_laysPair_9 rfl ?_
  have lp11 : ∀ (m11 : Nat) (c : Nat) (ci : Int) (u1 : Option MV) (w1 : Mem) (ec : ci = c) (hc : c ≤ p) (hd : ∀ y, y < pnum p c (c + 1) → w1 46 (1 + 6 * x + y) = (trF p x y : Int)) (hf : ∀ c k, (c = 46 → ∀ y, y < 6 → k ≠ 1 + 6 * x + y) → w1 c k = w c k), m11 = p - c → gX7_laysPair l D ck ad shA 11 [some (vR 45), some (vI ai), some (vI bi), some (vI pi), (some (vI (x : Nat))), some (vI ci), u1] [] w1 K := by
    intro m11
    induction m11 using Nat.strongRecOn with
    | _ m11 ih11 =>
    intro c ci u1 w1 ec hc hd hf em11
    refine go_iload (j := 5) (q := 13) rfl dX7_laysPair_11 rfl ?_
    refine go_iload_n (j := 3) (q := 14) rfl rfl dX7_laysPair_13 rfl ?_
    refine go_icmp_ge2 (q := 17) (t := 75) dX7_laysPair_14 (by decide) rfl (by omega) (fun c14 => ?_) (fun c14 => ?_)
    · refine go_vret dX7_laysPair_75 ?_
      subst hK
      refine ⟨rfl, fun y hy => hd y ?_, hf⟩
      rw [show c = p by omega, hp0.2.1]; exact hy
    · refine go_iload (j := 5) (q := 19) rfl dX7_laysPair_17 rfl ?_
      refine go_iconst (q := 20) dX7_laysPair_19 rfl ?_
      refine go_iadd (q := 21) dX7_laysPair_20 rfl ?_
      refine go_istore (j := 6) (q := 23) (ls2 := [_, _, _, _, _, _, _]) (by decide) rfl rfl dX7_laysPair_21 rfl ?_
      have lp23 : ∀ (m23 : Nat) (e : Nat) (ei : Int) (w2 : Mem) (ee : ei = e) (he : c < e ∧ e ≤ p) (hd2 : ∀ y, y < pnum p c e → w2 46 (1 + 6 * x + y) = (trF p x y : Int)) (hf2 : ∀ c k, (c = 46 → ∀ y, y < 6 → k ≠ 1 + 6 * x + y) → w2 c k = w c k), m23 = p - e → gX7_laysPair l D ck ad shA 23 [some (vR 45), some (vI ai), some (vI bi), some (vI pi), (some (vI (x : Nat))), some (vI ci), some (vI ei)] [] w2 K := by
        intro m23
        induction m23 using Nat.strongRecOn with
        | _ m23 ih23 =>
        intro e ei w2 ee he hd2 hf2 em23
        refine go_iload (j := 6) (q := 25) rfl dX7_laysPair_23 rfl ?_
        refine go_iload_n (j := 3) (q := 26) rfl rfl dX7_laysPair_25 rfl ?_
        refine go_icmp_ge2 (q := 29) (t := 69) dX7_laysPair_26 (by decide) rfl (by omega) (fun c26 => ?_) (fun c26 => ?_)
        · refine go_iinc (j := 5) (q := 72) (ls2 := [_, _, _, _, _, _, _]) rfl (by decide) rfl rfl dX7_laysPair_69 rfl ?_
          refine go_goto (q := 11) dX7_laysPair_72 (by decide) ?_
          exact ih11 _ (by omega) (c + 1) _ _ _ (by omega) (by omega) (by
            have := pn_e ⟨p, by omega⟩ ⟨c, by omega⟩ hp.1 (by simp only; omega)
            simp only at this
            rw [← this, show p = e by omega]; rw [show e = p by omega] at hd2 ⊢; exact hd2) hf2 rfl
        · have hce := pn_b ⟨p, by omega⟩ ⟨c, by omega⟩ ⟨e, by omega⟩ hp.1 (by simp only; omega) (by simp only; omega)
          simp only at hce
          have hsw := tr_b ⟨p, by omega⟩ ⟨a, by omega⟩ ⟨b, by omega⟩ ⟨c, by omega⟩ ⟨e, by omega⟩ hp.1 hab hbp (by simp only; omega) (by simp only; omega)
          simp only at hsw
          have ece : pnum p (min c e) (max c e) = pnum p c e := by rw [Nat.min_eq_left (by omega), Nat.max_eq_right (by omega)]
          refine go_aload_n (j := 0) (q := 30) rfl rfl dX7_laysPair_29 rfl ?_
          refine go_iload (j := 4) (q := 32) rfl dX7_laysPair_30 rfl ?_
          refine go_iload (j := 5) (q := 34) rfl dX7_laysPair_32 rfl ?_
          refine go_iload (j := 6) (q := 36) rfl dX7_laysPair_34 rfl ?_
          refine go_iload_n (j := 3) (q := 37) rfl rfl dX7_laysPair_36 rfl ?_
          refine go_callSi (as := [_, _, _]) (rest := [_, _]) (n := 3) (q := 40) dX7_laysPair_37 lk_X7_54 rfl (by decide +kernel) rfl ⟨by decide, by decide⟩ ⟨rfl, rfl⟩ (Nat.le_of_ble_eq_true rfl) (em_pairOf ec ee ep (by omega) (by omega) (by omega) hp.2) rfl (fun x37 w37 h37 => ?_)
          obtain ⟨rfl, rfl⟩ := h37
          rw [ece]
          refine go_iload_n (j := 1) (q := 41) rfl rfl dX7_laysPair_40 rfl ?_
          refine go_iload (j := 5) (q := 43) rfl dX7_laysPair_41 rfl ?_
          refine go_iload (j := 6) (q := 45) rfl dX7_laysPair_43 rfl ?_
          refine go_callSi (as := [_, _, _]) (rest := [_, _, _]) (n := 3) (q := 48) dX7_laysPair_45 lk_X7_57 rfl (by decide +kernel) rfl ⟨by decide, by decide⟩ ⟨rfl, rfl⟩ (Nat.le_of_ble_eq_true rfl) (em_replaced ea ec ee (by omega)) rfl (fun x45 w45 h45 => ?_)
          obtain ⟨rfl, rfl⟩ := h45
          refine go_iload_n (j := 2) (q := 49) rfl rfl dX7_laysPair_48 rfl ?_
          refine go_iload (j := 5) (q := 51) rfl dX7_laysPair_49 rfl ?_
          refine go_iload (j := 6) (q := 53) rfl dX7_laysPair_51 rfl ?_
          refine go_callSi (as := [_, _, _]) (rest := [_, _, _, _]) (n := 3) (q := 56) dX7_laysPair_53 lk_X7_57 rfl (by decide +kernel) rfl ⟨by decide, by decide⟩ ⟨rfl, rfl⟩ (Nat.le_of_ble_eq_true rfl) (em_replaced eb ec ee (by omega)) rfl (fun x53 w53 h53 => ?_)
          obtain ⟨rfl, rfl⟩ := h53
          refine go_iload_n (j := 3) (q := 57) rfl rfl dX7_laysPair_56 rfl ?_
          refine go_callSi (as := [_, _, _]) (rest := [_, _, _]) (n := 3) (q := 60) dX7_laysPair_57 lk_X7_54 rfl (by decide +kernel) rfl ⟨by decide, by decide⟩ ⟨rfl, rfl⟩ (Nat.le_of_ble_eq_true rfl) (em_pairOf (u := swp a c e) (v := swp b c e) rfl rfl ep (by omega) (by omega) (by omega) hp.2) rfl (fun x57 w57 h57 => ?_)
          obtain ⟨rfl, rfl⟩ := h57
          refine go_callVv (as := [_, _, _, _]) (As := [_, _, _]) (rest := []) (n := 3) (q := 63) dX7_laysPair_60 lk_X7_42 (ci := 7) (N := 16) (T := TX7) rfl (by first | assumption | rfl) rfl rfl (by decide +kernel) rfl ⟨by decide, by decide⟩ ⟨rfl, rfl⟩ (Nat.le_of_ble_eq_true rfl) (em_setTimes (x := x) (y := pnum p c e) rfl rfl (by omega) (by omega)) rfl (fun w60 h60 => ?_)
          subst h60
          refine go_iinc (j := 6) (q := 66) (ls2 := [_, _, _, _, _, _, _]) rfl (by decide) rfl rfl dX7_laysPair_63 rfl ?_
          refine go_goto (q := 23) dX7_laysPair_66 (by decide) ?_
          exact ih23 _ (by omega) (e + 1) _ _ (by omega) (by omega) (by
            intro y hy
            rw [hce.2.2.2] at hy
            by_cases q : y = pnum p c e
            · rw [q, mup_eq]
              have : trF p x (pnum p c e) = pnum p (min (swp a c e) (swp b c e)) (max (swp a c e) (swp b c e)) := by
                unfold trF; rw [hce.1, hce.2.1, hab0.1, hab0.2.1]
              rw [this]
            · rw [mup_ne (by omega)]; exact hd2 y (by omega)) (by
            intro c' k' h
            rw [mup_ne ?_]
            · exact hf2 c' k' h
            · by_cases q : c' = 46
              · exact Or.inr (h q _ (by omega))
              · exact Or.inl q) rfl
      exact lp23 _ (c + 1) _ _ (by omega) (by omega) hd hf rfl
  exact lp11 _ 0 0 _ _ rfl (by omega) (fun y h => by rw [show pnum p 0 (0 + 1) = 0 from hp0.1] at h; omega) (fun c k h => rfl) rfl
theorem em3 (hP : PMW w W) {x : Int} (hx : rng x) : eX7_transpositions l D ck ad shA [vR 45, vI x] w (Pi (MR w (op3 W x))) := by
  refine ev_of_goK (own := RX7) (ls := [some (vR 45), some (vI x), none, none]) (by decide +kernel) rfl rfl (Nat.le_of_ble_eq_true rfl) rkI ?_
  intro K hK
  refine go_iload_n (j := 1) (q := 1) rfl rfl dX7_transpositions_0 rfl ?_
  refine go_iconst (q := 2) dX7_transpositions_1 rfl ?_
  refine go_iconst (q := 3) dX7_transpositions_2 rfl ?_
  refine go_callSz (as := [_, _, _]) (rest := []) (n := 3) (q := 6) dX7_transpositions_3 lk_X7_35 rfl (by decide +kernel) rfl ⟨by decide, by decide⟩ ⟨rfl, rfl⟩ (Nat.le_of_ble_eq_true rfl) (em_within (by omega)) rfl (fun w3 h3 => ?_) (fun w3 h3 => ?_)
  · obtain ⟨rfl, h3⟩ := h3
    refine go_if_neT (t := 12) dX7_transpositions_6 (by decide) (by decide) ?_
    obtain ⟨p, hpp⟩ : ∃ p, p = x.toNat := ⟨_, rfl⟩
    have ep : x = (p : Int) := by omega
    have hp : 2 ≤ p ∧ p ≤ 4 := by omega
    have hp0 := pn_0 ⟨p, by omega⟩ hp.1
    simp only at hp0
    have hq : p = 2 ∨ p = 3 ∨ p = 4 := by omega
    have hm : x * (x - 1) = ((p * (p - 1) : Nat) : Int) ∧ p * (p - 1) ≤ 12 := by
      rw [ep]
      rcases hq with rfl | rfl | rfl <;> (constructor <;> simp)
    have hlt : ∀ x y, x < p * (p - 1) / 2 → y < p * (p - 1) / 2 → trF p x y < p * (p - 1) / 2 := by
      have : ∀ p : Fin 5, ∀ x : Fin 6, ∀ y : Fin 6, 2 ≤ (p : Nat) → (x : Nat) < p * (p - 1) / 2 → (y : Nat) < p * (p - 1) / 2 → trF p x y < p * (p - 1) / 2 := by decide +kernel
      intro x y hx hy
      exact this ⟨p, by omega⟩ ⟨x, by omega⟩ ⟨y, by omega⟩ hp.1 hx hy
    refine go_aload_n (j := 0) (q := 13) rfl rfl dX7_transpositions_12 rfl ?_
    refine go_iload_n (j := 1) (q := 14) rfl rfl dX7_transpositions_13 rfl ?_
    refine go_iload_n (j := 1) (q := 15) rfl rfl dX7_transpositions_14 rfl ?_
    refine go_iconst (q := 16) dX7_transpositions_15 rfl ?_
    refine go_isub (q := 17) dX7_transpositions_16 rfl ?_
    refine go_imul (q := 18) dX7_transpositions_17 rfl ?_
    refine go_iconst (q := 19) dX7_transpositions_18 rfl ?_
    refine go_idiv2 (q := 20) (by rw [hm.1]; omega) (by omega) dX7_transpositions_19 rfl ?_
    rw [hm.1, tdv2]
    refine go_callVi (as := [_, _]) (As := [_]) (rest := []) (n := 1) (q := 23) dX7_transpositions_20 lk_X7_50 (ci := 7) (N := 16) (T := TX7) rfl (by first | assumption | rfl) rfl rfl (by decide +kernel) rfl ⟨by decide, by decide⟩ ⟨rfl, rfl⟩ (Nat.le_of_ble_eq_true rfl) (em_makesTrivial hP (s := p * (p - 1) / 2) rfl (by omega)) rfl (fun x20 w20 h20 => ?_)
    obtain ⟨rfl, hP2, f2⟩ := h20
    have hT2 : TMv (w20 46) (p * (p - 1) / 2) (linF (p * (p - 1) / 2) 1) := hP2.1.1
    refine go_pop (q := 24) (fun _ z => by cases z) dX7_transpositions_23 rfl ?_
    refine go_iconst (q := 25) dX7_transpositions_24 rfl ?_
    refine go_istore_n (j := 2) (q := 26) (ls2 := [_, _, _, _]) rfl (by decide) rfl rfl dX7_transpositions_25 rfl ?_
    have lp26 : ∀ (m26 : Nat) (a : Nat) (ai : Int) (u1 : Option MV) (w3 : Mem) (ea : ai = a) (ha : a ≤ p) (hd : ∀ x y, x < pnum p a (a + 1) → y < p * (p - 1) / 2 → w3 46 (1 + 6 * x + y) = (trF p x y : Int)) (hf : ∀ c k, (c = 46 → ¬ (1 ≤ k ∧ k < 37)) → w3 c k = w20 c k), m26 = p - a → gX7_transpositions l D ck ad shA 26 [some (vR 45), some (vI x), some (vI ai), u1] [] w3 K := by
      intro m26
      induction m26 using Nat.strongRecOn with
      | _ m26 ih26 =>
      intro a ai u1 w3 ea ha hd hf em26
      refine go_iload_n (j := 2) (q := 27) rfl rfl dX7_transpositions_26 rfl ?_
      refine go_iload_n (j := 1) (q := 28) rfl rfl dX7_transpositions_27 rfl ?_
      refine go_icmp_ge2 (q := 31) (t := 59) dX7_transpositions_28 (by decide) rfl (by omega) (fun c28 => ?_) (fun c28 => ?_)
      · refine go_aload_n (j := 0) (q := 60) rfl rfl dX7_transpositions_59 rfl ?_
        refine go_getR (C0 := RX7) (T := TX7) (N := 16) (ci := 7) (i := 0) (q := 63) rfl igX7 (by first | assumption | rfl) (by decide) fl_X7_7 rfl dX7_transpositions_60 rfl ?_
        refine go_iconst (q := 64) dX7_transpositions_63 rfl ?_
        refine go_iald (j := 0) (q := 65) (by first | assumption | rfl) (wr_eq (by omega)) (by omega) dX7_transpositions_64 rfl ?_
        refine go_iret dX7_transpositions_65 ?_
        subst hK
        unfold op3
        rw [cif_t (by omega), ← hpp]
        have e0 : w3 46 0 = ((p * (p - 1) / 2 : Nat) : Int) := by rw [hf _ _ (by omega)]; exact hT2.1
        have hnew : SMv (w3 46) (tS W (p * (p - 1) / 2) (trF p)) := by
          refine ⟨⟨e0, ⟨hp0.2.2.1, hp0.2.2.2⟩, fun x y hx hy => ⟨hd x y ?_ hy, hlt x y hx hy⟩⟩, DMv_c hP2.1.2 (fun k a1 a2 => hf _ _ (by omega))⟩
          rw [show a = p by omega, hp0.2.1]; exact hx
        exact ⟨_, rfl, e0, PMW_S hP2 hnew (fun c k z => hf _ _ (by omega)), fun c k z => by rw [hf _ _ (by omega)]; exact f2 _ _ z⟩
      · refine go_iload_n (j := 2) (q := 32) rfl rfl dX7_transpositions_31 rfl ?_
        refine go_iconst (q := 33) dX7_transpositions_32 rfl ?_
        refine go_iadd (q := 34) dX7_transpositions_33 rfl ?_
        refine go_istore_n (j := 3) (q := 35) (ls2 := [_, _, _, _]) rfl (by decide) rfl rfl dX7_transpositions_34 rfl ?_
        have lp35 : ∀ (m35 : Nat) (b : Nat) (bi : Int) (w4 : Mem) (eb : bi = b) (hb : a < b ∧ b ≤ p) (hd2 : ∀ x y, x < pnum p a b → y < p * (p - 1) / 2 → w4 46 (1 + 6 * x + y) = (trF p x y : Int)) (hf2 : ∀ c k, (c = 46 → ¬ (1 ≤ k ∧ k < 37)) → w4 c k = w20 c k), m35 = p - b → gX7_transpositions l D ck ad shA 35 [some (vR 45), some (vI x), some (vI ai), some (vI bi)] [] w4 K := by
          intro m35
          induction m35 using Nat.strongRecOn with
          | _ m35 ih35 =>
          intro b bi w4 eb hb hd2 hf2 em35
          refine go_iload_n (j := 3) (q := 36) rfl rfl dX7_transpositions_35 rfl ?_
          refine go_iload_n (j := 1) (q := 37) rfl rfl dX7_transpositions_36 rfl ?_
          refine go_icmp_ge2 (q := 40) (t := 53) dX7_transpositions_37 (by decide) rfl (by omega) (fun c37 => ?_) (fun c37 => ?_)
          · refine go_iinc (j := 2) (q := 56) (ls2 := [_, _, _, _]) rfl (by decide) rfl rfl dX7_transpositions_53 rfl ?_
            refine go_goto (q := 26) dX7_transpositions_56 (by decide) ?_
            exact ih26 _ (by omega) (a + 1) _ _ _ (by omega) (by omega) (by
              have := pn_e ⟨p, by omega⟩ ⟨a, by omega⟩ hp.1 (by simp only; omega)
              simp only at this
              rw [← this]; rw [show b = p by omega] at hd2; exact hd2) hf2 rfl
          · refine go_aload_n (j := 0) (q := 41) rfl rfl dX7_transpositions_40 rfl ?_
            refine go_iload_n (j := 2) (q := 42) rfl rfl dX7_transpositions_41 rfl ?_
            refine go_iload_n (j := 3) (q := 43) rfl rfl dX7_transpositions_42 rfl ?_
            refine go_iload_n (j := 1) (q := 44) rfl rfl dX7_transpositions_43 rfl ?_
            refine go_callVv (as := [_, _, _, _]) (As := [_, _, _]) (rest := []) (n := 3) (q := 47) dX7_transpositions_44 lk_X7_60 (ci := 7) (N := 16) (T := TX7) rfl (by first | assumption | rfl) rfl rfl (by decide +kernel) rfl ⟨by decide, by decide⟩ ⟨rfl, rfl⟩ (Nat.le_of_ble_eq_true rfl) (em_laysPair ea eb ep hb.1 (by omega) hp) rfl (fun w44 h44 => ?_)
            obtain ⟨h44, g44⟩ := h44
            have hce := pn_b ⟨p, by omega⟩ ⟨a, by omega⟩ ⟨b, by omega⟩ hp.1 (by simp only; omega) (by simp only; omega)
            simp only at hce
            refine go_iinc (j := 3) (q := 50) (ls2 := [_, _, _, _]) rfl (by decide) rfl rfl dX7_transpositions_47 rfl ?_
            refine go_goto (q := 35) dX7_transpositions_50 (by decide) ?_
            exact ih35 _ (by omega) (b + 1) _ _ (by omega) (by omega) (by
              intro x y hx hy
              rw [hce.2.2.2] at hx
              by_cases q : x = pnum p a b
              · rw [q]; exact h44 y hy
              · rw [g44 _ _ (fun _ y' hy' => by omega)]; exact hd2 x y (by omega) hy) (fun c k h1 => by rw [g44 c k (fun z y hy => by have := h1 z; omega)]; exact hf2 c k h1) rfl
        exact lp35 _ (a + 1) _ _ (by omega) (by omega) hd hf rfl
    exact lp26 _ 0 0 _ _ rfl (by omega) (fun x y h1 h2 => by rw [show pnum p 0 (0 + 1) = 0 from hp0.1] at h1; omega) (fun c k h1 => rfl) rfl
  · obtain ⟨rfl, h3⟩ := h3
    refine go_if_neF (q := 9) (t := 12) dX7_transpositions_6 rfl (by decide) (by decide) ?_
    refine go_bipush (q := 11) rfl dX7_transpositions_9 rfl ?_
    refine go_iret dX7_transpositions_11 ?_
    subst hK
    unfold op3; rw [cif_f (by omega)]; exact ⟨_, rfl, rfl, hP, fun c k _ => rfl⟩
theorem em4 (hP : PMW w W) {x y z : Int} (hx : rng x) (hy : rng y) (hz : rng z) : eX7_setProduct l D ck ad shA [vR 45, vI x, vI y, vI z] w (Pi (MR w (op4 W x y z))) := by
  have hT : TMv (w 46) (wN W) (wF W) := hP.1.1
  refine ev_of_goK (own := RX7) (ls := [some (vR 45), some (vI x), some (vI y), some (vI z), none]) (by decide +kernel) rfl rfl (Nat.le_of_ble_eq_true rfl) rkI ?_
  intro K hK
  refine go_aload_n (j := 0) (q := 1) rfl rfl dX7_setProduct_0 rfl ?_
  refine go_iload_n (j := 1) (q := 2) rfl rfl dX7_setProduct_1 rfl ?_
  refine go_callVz (as := [_, _]) (As := [_]) (rest := []) (n := 1) (q := 5) dX7_setProduct_2 lk_X7_63 (ci := 7) (N := 16) (T := TX7) rfl (by first | assumption | rfl) rfl rfl (by decide +kernel) rfl ⟨by decide, by decide⟩ ⟨rfl, rfl⟩ (Nat.le_of_ble_eq_true rfl) (em_isElement hT hx) rfl (fun w2 h2 => ?_) (fun w2 h2 => ?_)
  · obtain ⟨rfl, h2⟩ := h2
    refine go_if_eqF (q := 8) (t := 24) dX7_setProduct_5 rfl (by decide) (by decide) ?_
    refine go_aload_n (j := 0) (q := 9) rfl rfl dX7_setProduct_8 rfl ?_
    refine go_iload_n (j := 2) (q := 10) rfl rfl dX7_setProduct_9 rfl ?_
    refine go_callVz (as := [_, _]) (As := [_]) (rest := []) (n := 1) (q := 13) dX7_setProduct_10 lk_X7_63 (ci := 7) (N := 16) (T := TX7) rfl (by first | assumption | rfl) rfl rfl (by decide +kernel) rfl ⟨by decide, by decide⟩ ⟨rfl, rfl⟩ (Nat.le_of_ble_eq_true rfl) (em_isElement hT hy) rfl (fun w10 h10 => ?_) (fun w10 h10 => ?_)
    · obtain ⟨rfl, h10⟩ := h10
      refine go_if_eqF (q := 16) (t := 24) dX7_setProduct_13 rfl (by decide) (by decide) ?_
      refine go_aload_n (j := 0) (q := 17) rfl rfl dX7_setProduct_16 rfl ?_
      refine go_iload_n (j := 3) (q := 18) rfl rfl dX7_setProduct_17 rfl ?_
      refine go_callVz (as := [_, _]) (As := [_]) (rest := []) (n := 1) (q := 21) dX7_setProduct_18 lk_X7_63 (ci := 7) (N := 16) (T := TX7) rfl (by first | assumption | rfl) rfl rfl (by decide +kernel) rfl ⟨by decide, by decide⟩ ⟨rfl, rfl⟩ (Nat.le_of_ble_eq_true rfl) (em_isElement hT hz) rfl (fun w18 h18 => ?_) (fun w18 h18 => ?_)
      · obtain ⟨rfl, h18⟩ := h18
        refine go_if_neT (t := 26) dX7_setProduct_21 (by decide) (by decide) ?_
        refine go_aload_n (j := 0) (q := 27) rfl rfl dX7_setProduct_26 rfl ?_
        refine go_callVv (as := [_]) (As := []) (rest := []) (n := 0) (q := 30) dX7_setProduct_27 lk_X7_39 (ci := 7) (N := 16) (T := TX7) rfl (by first | assumption | rfl) rfl rfl (by decide +kernel) rfl ⟨by decide, by decide⟩ ⟨rfl, rfl⟩ (Nat.le_of_ble_eq_true rfl) (em_record hP) rfl (fun w27 h27 => ?_)
        obtain ⟨h27, f27⟩ := h27
        have hT2 : TMv (w27 46) (wN W) (wF W) := h27.1.1
        have hb := hT2.2.1
        refine go_aload_n (j := 0) (q := 31) rfl rfl dX7_setProduct_30 rfl ?_
        refine go_iload_n (j := 1) (q := 32) rfl rfl dX7_setProduct_31 rfl ?_
        refine go_iload_n (j := 2) (q := 33) rfl rfl dX7_setProduct_32 rfl ?_
        refine go_callVi (as := [_, _, _]) (As := [_, _]) (rest := []) (n := 2) (q := 36) dX7_setProduct_33 lk_X7_67 (ci := 7) (N := 16) (T := TX7) rfl (by first | assumption | rfl) rfl rfl (by decide +kernel) rfl ⟨by decide, by decide⟩ ⟨rfl, rfl⟩ (Nat.le_of_ble_eq_true rfl) (em_times hT2 (x := x.toNat) (y := y.toNat) (by omega) (by omega) (by omega) (by omega)) rfl (fun x33 w33 h33 => ?_)
        obtain ⟨rfl, rfl⟩ := h33
        refine go_istore (j := 4) (q := 38) (ls2 := [_, _, _, _, _]) (by decide) rfl rfl dX7_setProduct_36 rfl ?_
        refine go_aload_n (j := 0) (q := 39) rfl rfl dX7_setProduct_38 rfl ?_
        refine go_iload_n (j := 1) (q := 40) rfl rfl dX7_setProduct_39 rfl ?_
        refine go_iload_n (j := 2) (q := 41) rfl rfl dX7_setProduct_40 rfl ?_
        refine go_iload_n (j := 3) (q := 42) rfl rfl dX7_setProduct_41 rfl ?_
        refine go_callVv (as := [_, _, _, _]) (As := [_, _, _]) (rest := []) (n := 3) (q := 45) dX7_setProduct_42 lk_X7_42 (ci := 7) (N := 16) (T := TX7) rfl (by first | assumption | rfl) rfl rfl (by decide +kernel) rfl ⟨by decide, by decide⟩ ⟨rfl, rfl⟩ (Nat.le_of_ble_eq_true rfl) (em_setTimes (x := x.toNat) (y := y.toNat) (by omega) (by omega) (by omega) (by omega)) rfl (fun w42 h42 => ?_)
        subst h42
        refine go_iload (j := 4) (q := 47) rfl dX7_setProduct_45 rfl ?_
        refine go_iret dX7_setProduct_47 ?_
        subst hK
        unfold op4
        rw [cif_t (by omega)]
        have hTn : SMv (mup w27 46 (1 + 6 * x.toNat + y.toNat) z 46) (tS W (wN W) (upF (wF W) x.toNat y.toNat z.toNat)) := by
          refine ⟨⟨by rw [mup_ne (by omega)]; exact hT2.1, hT2.2.1, fun i j (hi : i < wN W) (hj : j < wN W) => ?_⟩, DMv_c h27.1.2 (fun k a1 a2 => mup_ne (by omega))⟩
          show _ = ((upF (wF W) x.toNat y.toNat z.toNat i j : Nat) : Int) ∧ upF (wF W) x.toNat y.toNat z.toNat i j < wN W
          unfold upF
          by_cases q : i = x.toNat ∧ j = y.toNat
          · rw [if_pos q, q.1, q.2, mup_eq]; omega
          · rw [if_neg q, mup_ne (by omega)]; exact hT2.2.2 i j hi hj
        exact ⟨_, rfl, rfl, PMW_S h27 hTn (fun c k zz => mup_ne (by omega)), fun c k z1 => by rw [mup_ne (by omega)]; exact f27 _ _ (by omega) (by omega)⟩
      · obtain ⟨rfl, h18⟩ := h18
        refine go_if_neF (q := 24) (t := 26) dX7_setProduct_21 rfl (by decide) (by decide) ?_
        refine go_iconst (q := 25) dX7_setProduct_24 rfl ?_
        refine go_iret dX7_setProduct_25 ?_
        subst hK
        unfold op4; rw [cif_f (by omega)]; exact ⟨_, rfl, rfl, hP, fun c k _ => rfl⟩
    · obtain ⟨rfl, h10⟩ := h10
      refine go_if_eqT (t := 24) dX7_setProduct_13 (by decide) (by decide) ?_
      refine go_iconst (q := 25) dX7_setProduct_24 rfl ?_
      refine go_iret dX7_setProduct_25 ?_
      subst hK
      unfold op4; rw [cif_f (by omega)]; exact ⟨_, rfl, rfl, hP, fun c k _ => rfl⟩
  · obtain ⟨rfl, h2⟩ := h2
    refine go_if_eqT (t := 24) dX7_setProduct_5 (by decide) (by decide) ?_
    refine go_iconst (q := 25) dX7_setProduct_24 rfl ?_
    refine go_iret dX7_setProduct_25 ?_
    subst hK
    unfold op4; rw [cif_f (by omega)]; exact ⟨_, rfl, rfl, hP, fun c k _ => rfl⟩
theorem em_dividedBy (hT : TMv (w 46) n f) {x y : Nat} {xi yi : Int} (ex : xi = x) (ey : yi = y) (hx : x < n) (hy : y < n) : eX7_dividedBy l D ck ad shA [vR 45, vI xi, vI yi] w (Pi fun v w1 => isLowP n (fun z => f z y = x) v ∧ w = w1) := by
  have hn := hT.2.1
  have h0 := hT.1
  refine ev_of_goK (own := RX7) (ls := [some (vR 45), some (vI xi), some (vI yi), none, none]) (by decide +kernel) rfl rfl (Nat.le_of_ble_eq_true rfl) rkI ?_
  intro K hK
  refine go_bipush (q := 2) rfl dX7_dividedBy_0 rfl ?_
  refine go_istore_n (j := 3) (q := 3) (ls2 := [_, _, _, _, _]) rfl (by decide) rfl rfl dX7_dividedBy_2 rfl ?_
  refine go_aload_n (j := 0) (q := 4) rfl rfl dX7_dividedBy_3 rfl ?_
  refine go_getR (C0 := RX7) (T := TX7) (N := 16) (ci := 7) (i := 0) (q := 7) rfl igX7 (by first | assumption | rfl) (by decide) fl_X7_7 rfl dX7_dividedBy_4 rfl ?_
  refine go_iconst (q := 8) dX7_dividedBy_7 rfl ?_
  refine go_iald (j := 0) (q := 9) (by first | assumption | rfl) (wr_eq (by omega)) (by omega) dX7_dividedBy_8 rfl ?_
  refine go_iconst (q := 10) dX7_dividedBy_9 rfl ?_
  refine go_isub (q := 11) dX7_dividedBy_10 rfl ?_
  refine go_istore (j := 4) (q := 13) (ls2 := [_, _, _, _, _]) (by decide) rfl rfl dX7_dividedBy_11 rfl ?_
  have lp13 : ∀ (m13 : Nat) (j : Nat) (ki zi : Int) (ek : ki = (j : Int) - 1) (hj : j ≤ n) (hz : lowFrom j n (fun z => f z y = x) zi), m13 = j → gX7_dividedBy l D ck ad shA 13 [some (vR 45), some (vI xi), some (vI yi), some (vI zi), some (vI ki)] [] w K := by
    intro m13
    induction m13 using Nat.strongRecOn with
    | _ m13 ih13 =>
    intro j ki zi ek hj hz em13
    have hzb := lowF_b hz
    refine go_iload (j := 4) (q := 15) rfl dX7_dividedBy_13 rfl ?_
    refine go_if_lt2 (q := 18) (t := 42) dX7_dividedBy_15 (by decide) rfl (by omega) (fun c15 => ?_) (fun c15 => ?_)
    · refine go_iload_n (j := 3) (q := 43) rfl rfl dX7_dividedBy_42 rfl ?_
      refine go_iret dX7_dividedBy_43 ?_
      subst hK
      rw [show j = 0 by omega] at hz
      exact ⟨_, rfl, lowF_0 hz, rfl⟩
    · obtain ⟨j, rfl⟩ : ∃ j', j = j' + 1 := ⟨j - 1, by omega⟩
      have hfb := (hT.2.2 j y (by omega) hy).2
      refine go_aload_n (j := 0) (q := 19) rfl rfl dX7_dividedBy_18 rfl ?_
      refine go_iload (j := 4) (q := 21) rfl dX7_dividedBy_19 rfl ?_
      refine go_iload_n (j := 2) (q := 22) rfl rfl dX7_dividedBy_21 rfl ?_
      refine go_callVi (as := [_, _, _]) (As := [_, _]) (rest := []) (n := 2) (q := 25) dX7_dividedBy_22 lk_X7_67 (ci := 7) (N := 16) (T := TX7) rfl (by first | assumption | rfl) rfl rfl (by decide +kernel) rfl ⟨by decide, by decide⟩ ⟨rfl, rfl⟩ (Nat.le_of_ble_eq_true rfl) (em_times hT (x := j) (y := y) (by omega) ey (by omega) hy) rfl (fun x22 w22 h22 => ?_)
      obtain ⟨rfl, rfl⟩ := h22
      refine go_iload_n (j := 1) (q := 26) rfl rfl dX7_dividedBy_25 rfl ?_
      refine go_icmp_ne2 (q := 29) (t := 34) dX7_dividedBy_26 (by decide) rfl (by omega) (fun c26 => ?_) (fun c26 => ?_)
      · refine go_iload_n (j := 3) (q := 35) rfl rfl dX7_dividedBy_34 rfl ?_
        refine go_istore_n (j := 3) (q := 36) (ls2 := [_, _, _, _, _]) rfl (by decide) rfl rfl dX7_dividedBy_35 rfl ?_
        refine go_iinc (j := 4) (q := 39) (ls2 := [_, _, _, _, _]) rfl (by decide) rfl rfl dX7_dividedBy_36 rfl ?_
        refine go_goto (q := 13) dX7_dividedBy_39 (by decide) ?_
        first
        | exact ih13 _ (by omega) j _ _ (by omega) (by omega) (lowF_t (by omega) (by omega) (by omega)) rfl
        | exact ih13 _ (by omega) j _ _ (by omega) (by omega) (lowF_f hz (by omega)) rfl
      · refine go_iload (j := 4) (q := 31) rfl dX7_dividedBy_29 rfl ?_
        refine go_goto (q := 35) dX7_dividedBy_31 (by decide) ?_
        refine go_istore_n (j := 3) (q := 36) (ls2 := [_, _, _, _, _]) rfl (by decide) rfl rfl dX7_dividedBy_35 rfl ?_
        refine go_iinc (j := 4) (q := 39) (ls2 := [_, _, _, _, _]) rfl (by decide) rfl rfl dX7_dividedBy_36 rfl ?_
        refine go_goto (q := 13) dX7_dividedBy_39 (by decide) ?_
        first
        | exact ih13 _ (by omega) j _ _ (by omega) (by omega) (lowF_t (by omega) (by omega) (by omega)) rfl
        | exact ih13 _ (by omega) j _ _ (by omega) (by omega) (lowF_f hz (by omega)) rfl
  exact lp13 _ n _ _ (by omega) (by omega) lowF_n rfl
theorem em_isPermutation (hT : TMv (w 46) n f) {y : Nat} {yi : Int} (ey : yi = y) (hy : y < n) : eX7_isPermutation l D ck ad shA [vR 45, vI yi] w (Pz (fun w1 => w = w1 ∧ prm n f y) (fun w1 => w = w1 ∧ ¬ prm n f y)) := by
  have hn := hT.2.1
  have h0 := hT.1
  have hf : ∀ i, i < n → f i y < n := fun i hi => (hT.2.2 i y hi hy).2
  have hpp := prm_pc (f := f) hn.2 hf
  have h64 : 2 ^ n ≤ 2 ^ 6 := Nat.pow_le_pow_right (by decide) hn.2
  have mlt : ∀ k, k ≤ n → msk (fun x => f x y) k < 2 ^ n := fun k hk => msk_lt k (fun i hi => hf i (by omega))
  refine ev_of_goK (own := RX7) (ls := [some (vR 45), some (vI yi), none, none]) (by decide +kernel) rfl rfl (Nat.le_of_ble_eq_true rfl) rkZ ?_
  intro K hK
  refine go_iconst (q := 1) dX7_isPermutation_0 rfl ?_
  refine go_istore_n (j := 2) (q := 2) (ls2 := [_, _, _, _]) rfl (by decide) rfl rfl dX7_isPermutation_1 rfl ?_
  refine go_iconst (q := 3) dX7_isPermutation_2 rfl ?_
  refine go_istore_n (j := 3) (q := 4) (ls2 := [_, _, _, _]) rfl (by decide) rfl rfl dX7_isPermutation_3 rfl ?_
  have lp4 : ∀ (m4 : Nat) (x : Nat) (xi mi : Int) (ex : xi = x) (hx : x ≤ n) (em : mi = (msk (fun x => f x y) x : Nat)), m4 = n - x → gX7_isPermutation l D ck ad shA 4 [some (vR 45), some (vI yi), some (vI mi), some (vI xi)] [] w K := by
    intro m4
    induction m4 using Nat.strongRecOn with
    | _ m4 ih4 =>
    intro x xi mi ex hx em em4
    refine go_iload_n (j := 3) (q := 5) rfl rfl dX7_isPermutation_4 rfl ?_
    refine go_aload_n (j := 0) (q := 6) rfl rfl dX7_isPermutation_5 rfl ?_
    refine go_getR (C0 := RX7) (T := TX7) (N := 16) (ci := 7) (i := 0) (q := 9) rfl igX7 (by first | assumption | rfl) (by decide) fl_X7_7 rfl dX7_isPermutation_6 rfl ?_
    refine go_iconst (q := 10) dX7_isPermutation_9 rfl ?_
    refine go_iald (j := 0) (q := 11) (by first | assumption | rfl) (wr_eq (by omega)) (by omega) dX7_isPermutation_10 rfl ?_
    refine go_icmp_ge2 (q := 14) (t := 31) dX7_isPermutation_11 (by decide) rfl (by omega) (fun c11 => ?_) (fun c11 => ?_)
    · have h2 := mlt n (by omega)
      rw [show x = n by omega] at em
      have hpl := (msk_pc (g := fun x => f x y) n (fun i hi => by have := hf i hi; omega)).1
      refine go_iload_n (j := 2) (q := 32) rfl rfl dX7_isPermutation_31 rfl ?_
      refine go_callSi (as := [_]) (rest := []) (n := 1) (q := 35) dX7_isPermutation_32 lk_X7_71 rfl (by decide +kernel) rfl ⟨by decide, by decide⟩ ⟨rfl, rfl⟩ (Nat.le_of_ble_eq_true rfl) (em_bits (m := msk (fun x => f x y) n) em (by omega)) rfl (fun x32 w32 h32 => ?_)
      obtain ⟨rfl, rfl⟩ := h32
      refine go_aload_n (j := 0) (q := 36) rfl rfl dX7_isPermutation_35 rfl ?_
      refine go_getR (C0 := RX7) (T := TX7) (N := 16) (ci := 7) (i := 0) (q := 39) rfl igX7 (by first | assumption | rfl) (by decide) fl_X7_7 rfl dX7_isPermutation_36 rfl ?_
      refine go_iconst (q := 40) dX7_isPermutation_39 rfl ?_
      refine go_iald (j := 0) (q := 41) (by first | assumption | rfl) (wr_eq (by omega)) (by omega) dX7_isPermutation_40 rfl ?_
      refine go_icmp_ne2 (q := 44) (t := 48) dX7_isPermutation_41 (by decide) rfl (by omega) (fun c41 => ?_) (fun c41 => ?_)
      · refine go_iconst (q := 49) dX7_isPermutation_48 rfl ?_
        refine go_iret dX7_isPermutation_49 ?_
        subst hK; first | exact Or.inl ⟨rfl, rfl, hpp.mp (by omega)⟩ | exact Or.inr ⟨rfl, rfl, fun z => by have := hpp.mpr z; omega⟩
      · refine go_iconst (q := 45) dX7_isPermutation_44 rfl ?_
        refine go_goto (q := 49) dX7_isPermutation_45 (by decide) ?_
        refine go_iret dX7_isPermutation_49 ?_
        subst hK; first | exact Or.inl ⟨rfl, rfl, hpp.mp (by omega)⟩ | exact Or.inr ⟨rfl, rfl, fun z => by have := hpp.mpr z; omega⟩
    · refine go_iload_n (j := 2) (q := 15) rfl rfl dX7_isPermutation_14 rfl ?_
      refine go_iconst (q := 16) dX7_isPermutation_15 rfl ?_
      refine go_aload_n (j := 0) (q := 17) rfl rfl dX7_isPermutation_16 rfl ?_
      refine go_iload_n (j := 3) (q := 18) rfl rfl dX7_isPermutation_17 rfl ?_
      refine go_iload_n (j := 1) (q := 19) rfl rfl dX7_isPermutation_18 rfl ?_
      refine go_callVi (as := [_, _, _]) (As := [_, _]) (rest := [_, _]) (n := 2) (q := 22) dX7_isPermutation_19 lk_X7_67 (ci := 7) (N := 16) (T := TX7) rfl (by first | assumption | rfl) rfl rfl (by decide +kernel) rfl ⟨by decide, by decide⟩ ⟨rfl, rfl⟩ (Nat.le_of_ble_eq_true rfl) (em_times hT (x := x) (y := y) ex ey (by omega) hy) rfl (fun x19 w19 h19 => ?_)
      obtain ⟨rfl, rfl⟩ := h19
      refine go_ishl (q := 23) dX7_isPermutation_22 rfl ?_
      refine go_ior (q := 24) dX7_isPermutation_23 rfl ?_
      refine go_istore_n (j := 2) (q := 25) (ls2 := [_, _, _, _]) rfl (by decide) rfl rfl dX7_isPermutation_24 rfl ?_
      refine go_iinc (j := 3) (q := 28) (ls2 := [_, _, _, _]) rfl (by decide) rfl rfl dX7_isPermutation_25 rfl ?_
      refine go_goto (q := 4) dX7_isPermutation_28 (by decide) ?_
      exact ih4 _ (by omega) (x + 1) _ _ (by omega) (by omega) (by
        have h1 := hf x (by omega)
        have h2 := mlt x (by omega)
        have h3 : 2 ^ f x y < 2 ^ n := two_lt h1
        rw [em, shl_eq (by omega), or_eq (by omega) (by omega)]; rfl) rfl
  exact lp4 _ 0 0 0 rfl (by omega) rfl rfl
theorem em_violatesFirst (hT : TMv (w 46) n f) : eX7_violatesFirst l D ck ad shA [vR 45] w (Pi fun v w1 => isLowP n (fun z => ¬ f z z = z) v ∧ w = w1) := by
  have hn := hT.2.1
  have h0 := hT.1
  refine ev_of_goK (own := RX7) (ls := [some (vR 45), none, none]) (by decide +kernel) rfl rfl (Nat.le_of_ble_eq_true rfl) rkI ?_
  intro K hK
  refine go_bipush (q := 2) rfl dX7_violatesFirst_0 rfl ?_
  refine go_istore_n (j := 1) (q := 3) (ls2 := [_, _, _]) rfl (by decide) rfl rfl dX7_violatesFirst_2 rfl ?_
  refine go_aload_n (j := 0) (q := 4) rfl rfl dX7_violatesFirst_3 rfl ?_
  refine go_getR (C0 := RX7) (T := TX7) (N := 16) (ci := 7) (i := 0) (q := 7) rfl igX7 (by first | assumption | rfl) (by decide) fl_X7_7 rfl dX7_violatesFirst_4 rfl ?_
  refine go_iconst (q := 8) dX7_violatesFirst_7 rfl ?_
  refine go_iald (j := 0) (q := 9) (by first | assumption | rfl) (wr_eq (by omega)) (by omega) dX7_violatesFirst_8 rfl ?_
  refine go_iconst (q := 10) dX7_violatesFirst_9 rfl ?_
  refine go_isub (q := 11) dX7_violatesFirst_10 rfl ?_
  refine go_istore_n (j := 2) (q := 12) (ls2 := [_, _, _]) rfl (by decide) rfl rfl dX7_violatesFirst_11 rfl ?_
  have lp12 : ∀ (m12 : Nat) (j : Nat) (ki zi : Int) (ek : ki = (j : Int) - 1) (hj : j ≤ n) (hz : lowFrom j n (fun z => ¬ f z z = z) zi), m12 = j → gX7_violatesFirst l D ck ad shA 12 [some (vR 45), some (vI zi), some (vI ki)] [] w K := by
    intro m12
    induction m12 using Nat.strongRecOn with
    | _ m12 ih12 =>
    intro j ki zi ek hj hz em12
    have hzb := lowF_b hz
    refine go_iload_n (j := 2) (q := 13) rfl rfl dX7_violatesFirst_12 rfl ?_
    refine go_if_lt2 (q := 16) (t := 38) dX7_violatesFirst_13 (by decide) rfl (by omega) (fun c13 => ?_) (fun c13 => ?_)
    · refine go_iload_n (j := 1) (q := 39) rfl rfl dX7_violatesFirst_38 rfl ?_
      refine go_iret dX7_violatesFirst_39 ?_
      subst hK
      rw [show j = 0 by omega] at hz
      exact ⟨_, rfl, lowF_0 hz, rfl⟩
    · obtain ⟨j, rfl⟩ : ∃ j', j = j' + 1 := ⟨j - 1, by omega⟩
      have hfb := (hT.2.2 j j (by omega) (by omega)).2
      refine go_aload_n (j := 0) (q := 17) rfl rfl dX7_violatesFirst_16 rfl ?_
      refine go_iload_n (j := 2) (q := 18) rfl rfl dX7_violatesFirst_17 rfl ?_
      refine go_iload_n (j := 2) (q := 19) rfl rfl dX7_violatesFirst_18 rfl ?_
      refine go_callVi (as := [_, _, _]) (As := [_, _]) (rest := []) (n := 2) (q := 22) dX7_violatesFirst_19 lk_X7_67 (ci := 7) (N := 16) (T := TX7) rfl (by first | assumption | rfl) rfl rfl (by decide +kernel) rfl ⟨by decide, by decide⟩ ⟨rfl, rfl⟩ (Nat.le_of_ble_eq_true rfl) (em_times hT (x := j) (y := j) (by omega) (by omega) (by omega) (by omega)) rfl (fun x19 w19 h19 => ?_)
      obtain ⟨rfl, rfl⟩ := h19
      refine go_iload_n (j := 2) (q := 23) rfl rfl dX7_violatesFirst_22 rfl ?_
      refine go_icmp_ne2 (q := 26) (t := 30) dX7_violatesFirst_23 (by decide) rfl (by omega) (fun c23 => ?_) (fun c23 => ?_)
      · refine go_iload_n (j := 2) (q := 31) rfl rfl dX7_violatesFirst_30 rfl ?_
        refine go_istore_n (j := 1) (q := 32) (ls2 := [_, _, _]) rfl (by decide) rfl rfl dX7_violatesFirst_31 rfl ?_
        refine go_iinc (j := 2) (q := 35) (ls2 := [_, _, _]) rfl (by decide) rfl rfl dX7_violatesFirst_32 rfl ?_
        refine go_goto (q := 12) dX7_violatesFirst_35 (by decide) ?_
        first
        | exact ih12 _ (by omega) j _ _ (by omega) (by omega) (lowF_f hz (by omega)) rfl
        | exact ih12 _ (by omega) j _ _ (by omega) (by omega) (lowF_t (by omega) (by omega) (by omega)) rfl
      · refine go_iload_n (j := 1) (q := 27) rfl rfl dX7_violatesFirst_26 rfl ?_
        refine go_goto (q := 31) dX7_violatesFirst_27 (by decide) ?_
        refine go_istore_n (j := 1) (q := 32) (ls2 := [_, _, _]) rfl (by decide) rfl rfl dX7_violatesFirst_31 rfl ?_
        refine go_iinc (j := 2) (q := 35) (ls2 := [_, _, _]) rfl (by decide) rfl rfl dX7_violatesFirst_32 rfl ?_
        refine go_goto (q := 12) dX7_violatesFirst_35 (by decide) ?_
        first
        | exact ih12 _ (by omega) j _ _ (by omega) (by omega) (lowF_f hz (by omega)) rfl
        | exact ih12 _ (by omega) j _ _ (by omega) (by omega) (lowF_t (by omega) (by omega) (by omega)) rfl
  exact lp12 _ n _ _ (by omega) (by omega) lowF_n rfl
theorem em_violatesSecond (hT : TMv (w 46) n f) : eX7_violatesSecond l D ck ad shA [vR 45] w (Pi fun v w1 => isLowP n (fun z => ¬ prm n f z) v ∧ w = w1) := by
  have hn := hT.2.1
  have h0 := hT.1
  refine ev_of_goK (own := RX7) (ls := [some (vR 45), none, none]) (by decide +kernel) rfl rfl (Nat.le_of_ble_eq_true rfl) rkI ?_
  intro K hK
  refine go_bipush (q := 2) rfl dX7_violatesSecond_0 rfl ?_
  refine go_istore_n (j := 1) (q := 3) (ls2 := [_, _, _]) rfl (by decide) rfl rfl dX7_violatesSecond_2 rfl ?_
  refine go_aload_n (j := 0) (q := 4) rfl rfl dX7_violatesSecond_3 rfl ?_
  refine go_getR (C0 := RX7) (T := TX7) (N := 16) (ci := 7) (i := 0) (q := 7) rfl igX7 (by first | assumption | rfl) (by decide) fl_X7_7 rfl dX7_violatesSecond_4 rfl ?_
  refine go_iconst (q := 8) dX7_violatesSecond_7 rfl ?_
  refine go_iald (j := 0) (q := 9) (by first | assumption | rfl) (wr_eq (by omega)) (by omega) dX7_violatesSecond_8 rfl ?_
  refine go_iconst (q := 10) dX7_violatesSecond_9 rfl ?_
  refine go_isub (q := 11) dX7_violatesSecond_10 rfl ?_
  refine go_istore_n (j := 2) (q := 12) (ls2 := [_, _, _]) rfl (by decide) rfl rfl dX7_violatesSecond_11 rfl ?_
  have lp12 : ∀ (m12 : Nat) (j : Nat) (ki zi : Int) (ek : ki = (j : Int) - 1) (hj : j ≤ n) (hz : lowFrom j n (fun z => ¬ prm n f z) zi), m12 = j → gX7_violatesSecond l D ck ad shA 12 [some (vR 45), some (vI zi), some (vI ki)] [] w K := by
    intro m12
    induction m12 using Nat.strongRecOn with
    | _ m12 ih12 =>
    intro j ki zi ek hj hz em12
    have hzb := lowF_b hz
    refine go_iload_n (j := 2) (q := 13) rfl rfl dX7_violatesSecond_12 rfl ?_
    refine go_if_lt2 (q := 16) (t := 36) dX7_violatesSecond_13 (by decide) rfl (by omega) (fun c13 => ?_) (fun c13 => ?_)
    · refine go_iload_n (j := 1) (q := 37) rfl rfl dX7_violatesSecond_36 rfl ?_
      refine go_iret dX7_violatesSecond_37 ?_
      subst hK
      rw [show j = 0 by omega] at hz
      exact ⟨_, rfl, lowF_0 hz, rfl⟩
    · obtain ⟨j, rfl⟩ : ∃ j', j = j' + 1 := ⟨j - 1, by omega⟩
      refine go_aload_n (j := 0) (q := 17) rfl rfl dX7_violatesSecond_16 rfl ?_
      refine go_iload_n (j := 2) (q := 18) rfl rfl dX7_violatesSecond_17 rfl ?_
      refine go_callVz (as := [_, _]) (As := [_]) (rest := []) (n := 1) (q := 21) dX7_violatesSecond_18 lk_X7_74 (ci := 7) (N := 16) (T := TX7) rfl (by first | assumption | rfl) rfl rfl (by decide +kernel) rfl ⟨by decide, by decide⟩ ⟨rfl, rfl⟩ (Nat.le_of_ble_eq_true rfl) (em_isPermutation hT (y := j) (by omega) (by omega)) rfl (fun w18 h18 => ?_) (fun w18 h18 => ?_)
      · obtain ⟨rfl, h18⟩ := h18
        refine go_if_eqF (q := 24) (t := 28) dX7_violatesSecond_21 rfl (by decide) (by decide) ?_
        refine go_iload_n (j := 1) (q := 25) rfl rfl dX7_violatesSecond_24 rfl ?_
        refine go_goto (q := 29) dX7_violatesSecond_25 (by decide) ?_
        refine go_istore_n (j := 1) (q := 30) (ls2 := [_, _, _]) rfl (by decide) rfl rfl dX7_violatesSecond_29 rfl ?_
        refine go_iinc (j := 2) (q := 33) (ls2 := [_, _, _]) rfl (by decide) rfl rfl dX7_violatesSecond_30 rfl ?_
        refine go_goto (q := 12) dX7_violatesSecond_33 (by decide) ?_
        first
        | exact ih12 _ (by omega) j _ _ (by omega) (by omega) (lowF_f hz (fun q => q h18)) rfl
        | exact ih12 _ (by omega) j _ _ (by omega) (by omega) (lowF_t (by omega) h18 (by omega)) rfl
      · obtain ⟨rfl, h18⟩ := h18
        refine go_if_eqT (t := 28) dX7_violatesSecond_21 (by decide) (by decide) ?_
        refine go_iload_n (j := 2) (q := 29) rfl rfl dX7_violatesSecond_28 rfl ?_
        refine go_istore_n (j := 1) (q := 30) (ls2 := [_, _, _]) rfl (by decide) rfl rfl dX7_violatesSecond_29 rfl ?_
        refine go_iinc (j := 2) (q := 33) (ls2 := [_, _, _]) rfl (by decide) rfl rfl dX7_violatesSecond_30 rfl ?_
        refine go_goto (q := 12) dX7_violatesSecond_33 (by decide) ?_
        first
        | exact ih12 _ (by omega) j _ _ (by omega) (by omega) (lowF_f hz (fun q => q h18)) rfl
        | exact ih12 _ (by omega) j _ _ (by omega) (by omega) (lowF_t (by omega) h18 (by omega)) rfl
  exact lp12 _ n _ _ (by omega) (by omega) lowF_n rfl
theorem em_violatesThird (hT : TMv (w 46) n f) : eX7_violatesThird l D ck ad shA [vR 45] w (Pi fun v w1 => isLow3 n f v ∧ w = w1) := by
  have hn := hT.2.1
  have h0 := hT.1
  have hr : ∀ i j, i < n → j < n → f i j < n := fun i j hi hj => (hT.2.2 i j hi hj).2
  refine ev_of_goK (own := RX7) (ls := [some (vR 45), none, none, none]) (by decide +kernel) rfl rfl (Nat.le_of_ble_eq_true rfl) rkI ?_
  intro K hK
  refine go_iconst (q := 1) dX7_violatesThird_0 rfl ?_
  refine go_istore_n (j := 1) (q := 2) (ls2 := [_, _, _, _]) rfl (by decide) rfl rfl dX7_violatesThird_1 rfl ?_
  have lp2 : ∀ (m2 : Nat) (x : Nat) (xi : Int) (u v : Option MV) (ex : xi = x) (hx : x ≤ n) (hi : ∀ i, i < x → ∀ j k, j < n → k < n → ¬ bad3 f i j k), m2 = n - x → gX7_violatesThird l D ck ad shA 2 [some (vR 45), some (vI xi), u, v] [] w K := by
    intro m2
    induction m2 using Nat.strongRecOn with
    | _ m2 ih2 =>
    intro x xi u v ex hx hi em2
    refine go_iload_n (j := 1) (q := 3) rfl rfl dX7_violatesThird_2 rfl ?_
    refine go_aload_n (j := 0) (q := 4) rfl rfl dX7_violatesThird_3 rfl ?_
    refine go_getR (C0 := RX7) (T := TX7) (N := 16) (ci := 7) (i := 0) (q := 7) rfl igX7 (by first | assumption | rfl) (by decide) fl_X7_7 rfl dX7_violatesThird_4 rfl ?_
    refine go_iconst (q := 8) dX7_violatesThird_7 rfl ?_
    refine go_iald (j := 0) (q := 9) (by first | assumption | rfl) (wr_eq (by omega)) (by omega) dX7_violatesThird_8 rfl ?_
    refine go_icmp_ge2 (q := 12) (t := 96) dX7_violatesThird_9 (by decide) rfl (by omega) (fun c9 => ?_) (fun c9 => ?_)
    · refine go_bipush (q := 98) rfl dX7_violatesThird_96 rfl ?_
      refine go_iret dX7_violatesThird_98 ?_
      subst hK
      exact ⟨_, rfl, Or.inr ⟨rfl, fun i j k h1 h2 h3 => hi i (by omega) j k h2 h3⟩, rfl⟩
    · refine go_iconst (q := 13) dX7_violatesThird_12 rfl ?_
      refine go_istore_n (j := 2) (q := 14) (ls2 := [_, _, _, _]) rfl (by decide) rfl rfl dX7_violatesThird_13 rfl ?_
      have lp14 : ∀ (m14 : Nat) (y : Nat) (yi : Int) (v2 : Option MV) (ey : yi = y) (hy : y ≤ n) (hj : ∀ j, j < y → ∀ k, k < n → ¬ bad3 f x j k), m14 = n - y → gX7_violatesThird l D ck ad shA 14 [some (vR 45), some (vI xi), some (vI yi), v2] [] w K := by
        intro m14
        induction m14 using Nat.strongRecOn with
        | _ m14 ih14 =>
        intro y yi v2 ey hy hj em14
        refine go_iload_n (j := 2) (q := 15) rfl rfl dX7_violatesThird_14 rfl ?_
        refine go_aload_n (j := 0) (q := 16) rfl rfl dX7_violatesThird_15 rfl ?_
        refine go_getR (C0 := RX7) (T := TX7) (N := 16) (ci := 7) (i := 0) (q := 19) rfl igX7 (by first | assumption | rfl) (by decide) fl_X7_7 rfl dX7_violatesThird_16 rfl ?_
        refine go_iconst (q := 20) dX7_violatesThird_19 rfl ?_
        refine go_iald (j := 0) (q := 21) (by first | assumption | rfl) (wr_eq (by omega)) (by omega) dX7_violatesThird_20 rfl ?_
        refine go_icmp_ge2 (q := 24) (t := 90) dX7_violatesThird_21 (by decide) rfl (by omega) (fun c21 => ?_) (fun c21 => ?_)
        · refine go_iinc (j := 1) (q := 93) (ls2 := [_, _, _, _]) rfl (by decide) rfl rfl dX7_violatesThird_90 rfl ?_
          refine go_goto (q := 2) dX7_violatesThird_93 (by decide) ?_
          exact ih2 _ (by omega) (x + 1) _ _ _ (by omega) (by omega) (fun i h => all_lt (P := fun i => ∀ j k, j < n → k < n → ¬ bad3 f i j k) hi (fun j k h1 h2 => hj j (by omega) k h2) h) rfl
        · refine go_iconst (q := 25) dX7_violatesThird_24 rfl ?_
          refine go_istore_n (j := 3) (q := 26) (ls2 := [_, _, _, _]) rfl (by decide) rfl rfl dX7_violatesThird_25 rfl ?_
          have lp26 : ∀ (m26 : Nat) (z : Nat) (zi : Int) (ez : zi = z) (hz : z ≤ n) (hk : ∀ k, k < z → ¬ bad3 f x y k), m26 = n - z → gX7_violatesThird l D ck ad shA 26 [some (vR 45), some (vI xi), some (vI yi), some (vI zi)] [] w K := by
            intro m26
            induction m26 using Nat.strongRecOn with
            | _ m26 ih26 =>
            intro z zi ez hz hk em26
            refine go_iload_n (j := 3) (q := 27) rfl rfl dX7_violatesThird_26 rfl ?_
            refine go_aload_n (j := 0) (q := 28) rfl rfl dX7_violatesThird_27 rfl ?_
            refine go_getR (C0 := RX7) (T := TX7) (N := 16) (ci := 7) (i := 0) (q := 31) rfl igX7 (by first | assumption | rfl) (by decide) fl_X7_7 rfl dX7_violatesThird_28 rfl ?_
            refine go_iconst (q := 32) dX7_violatesThird_31 rfl ?_
            refine go_iald (j := 0) (q := 33) (by first | assumption | rfl) (wr_eq (by omega)) (by omega) dX7_violatesThird_32 rfl ?_
            refine go_icmp_ge2 (q := 36) (t := 84) dX7_violatesThird_33 (by decide) rfl (by omega) (fun c33 => ?_) (fun c33 => ?_)
            · refine go_iinc (j := 2) (q := 87) (ls2 := [_, _, _, _]) rfl (by decide) rfl rfl dX7_violatesThird_84 rfl ?_
              refine go_goto (q := 14) dX7_violatesThird_87 (by decide) ?_
              exact ih14 _ (by omega) (y + 1) _ _ (by omega) (by omega) (fun i h => all_lt (P := fun j => ∀ k, k < n → ¬ bad3 f x j k) hj (fun k h2 => hk k (by omega)) h) rfl
            · refine go_aload_n (j := 0) (q := 37) rfl rfl dX7_violatesThird_36 rfl ?_
              refine go_aload_n (j := 0) (q := 38) rfl rfl dX7_violatesThird_37 rfl ?_
              refine go_iload_n (j := 1) (q := 39) rfl rfl dX7_violatesThird_38 rfl ?_
              refine go_iload_n (j := 2) (q := 40) rfl rfl dX7_violatesThird_39 rfl ?_
              refine go_callVi (as := [_, _, _]) (As := [_, _]) (rest := [_]) (n := 2) (q := 43) dX7_violatesThird_40 lk_X7_67 (ci := 7) (N := 16) (T := TX7) rfl (by first | assumption | rfl) rfl rfl (by decide +kernel) rfl ⟨by decide, by decide⟩ ⟨rfl, rfl⟩ (Nat.le_of_ble_eq_true rfl) (em_times hT (x := x) (y := y) ex ey (by omega) (by omega)) rfl (fun x40 w40 h40 => ?_)
              obtain ⟨rfl, rfl⟩ := h40
              refine go_iload_n (j := 3) (q := 44) rfl rfl dX7_violatesThird_43 rfl ?_
              refine go_callVi (as := [_, _, _]) (As := [_, _]) (rest := []) (n := 2) (q := 47) dX7_violatesThird_44 lk_X7_67 (ci := 7) (N := 16) (T := TX7) rfl (by first | assumption | rfl) rfl rfl (by decide +kernel) rfl ⟨by decide, by decide⟩ ⟨rfl, rfl⟩ (Nat.le_of_ble_eq_true rfl) (em_times hT (x := f x y) (y := z) rfl ez (hr _ _ (by omega) (by omega)) (by omega)) rfl (fun x44 w44 h44 => ?_)
              obtain ⟨rfl, rfl⟩ := h44
              refine go_aload_n (j := 0) (q := 48) rfl rfl dX7_violatesThird_47 rfl ?_
              refine go_aload_n (j := 0) (q := 49) rfl rfl dX7_violatesThird_48 rfl ?_
              refine go_iload_n (j := 1) (q := 50) rfl rfl dX7_violatesThird_49 rfl ?_
              refine go_iload_n (j := 3) (q := 51) rfl rfl dX7_violatesThird_50 rfl ?_
              refine go_callVi (as := [_, _, _]) (As := [_, _]) (rest := [_, _]) (n := 2) (q := 54) dX7_violatesThird_51 lk_X7_67 (ci := 7) (N := 16) (T := TX7) rfl (by first | assumption | rfl) rfl rfl (by decide +kernel) rfl ⟨by decide, by decide⟩ ⟨rfl, rfl⟩ (Nat.le_of_ble_eq_true rfl) (em_times hT (x := x) (y := z) ex ez (by omega) (by omega)) rfl (fun x51 w51 h51 => ?_)
              obtain ⟨rfl, rfl⟩ := h51
              refine go_aload_n (j := 0) (q := 55) rfl rfl dX7_violatesThird_54 rfl ?_
              refine go_iload_n (j := 2) (q := 56) rfl rfl dX7_violatesThird_55 rfl ?_
              refine go_iload_n (j := 3) (q := 57) rfl rfl dX7_violatesThird_56 rfl ?_
              refine go_callVi (as := [_, _, _]) (As := [_, _]) (rest := [_, _, _]) (n := 2) (q := 60) dX7_violatesThird_57 lk_X7_67 (ci := 7) (N := 16) (T := TX7) rfl (by first | assumption | rfl) rfl rfl (by decide +kernel) rfl ⟨by decide, by decide⟩ ⟨rfl, rfl⟩ (Nat.le_of_ble_eq_true rfl) (em_times hT (x := y) (y := z) ey ez (by omega) (by omega)) rfl (fun x57 w57 h57 => ?_)
              obtain ⟨rfl, rfl⟩ := h57
              refine go_callVi (as := [_, _, _]) (As := [_, _]) (rest := [_]) (n := 2) (q := 63) dX7_violatesThird_60 lk_X7_67 (ci := 7) (N := 16) (T := TX7) rfl (by first | assumption | rfl) rfl rfl (by decide +kernel) rfl ⟨by decide, by decide⟩ ⟨rfl, rfl⟩ (Nat.le_of_ble_eq_true rfl) (em_times hT (x := f x z) (y := f y z) rfl rfl (hr _ _ (by omega) (by omega)) (hr _ _ (by omega) (by omega))) rfl (fun x60 w60 h60 => ?_)
              obtain ⟨rfl, rfl⟩ := h60
              have b1 := hr (f x y) z (hr _ _ (by omega) (by omega)) (by omega)
              have b2 := hr (f x z) (f y z) (hr _ _ (by omega) (by omega)) (hr _ _ (by omega) (by omega))
              refine go_icmp_eq2 (q := 66) (t := 78) dX7_violatesThird_63 (by decide) rfl (by omega) (fun c63 => ?_) (fun c63 => ?_)
              · refine go_iinc (j := 3) (q := 81) (ls2 := [_, _, _, _]) rfl (by decide) rfl rfl dX7_violatesThird_78 rfl ?_
                refine go_goto (q := 26) dX7_violatesThird_81 (by decide) ?_
                exact ih26 _ (by omega) (z + 1) _ (by omega) (by omega) (fun i h => all_lt hk (by unfold bad3; omega) h) rfl
              · refine go_bipush (q := 68) rfl dX7_violatesThird_66 rfl ?_
                refine go_iload_n (j := 1) (q := 69) rfl rfl dX7_violatesThird_68 rfl ?_
                refine go_imul (q := 70) dX7_violatesThird_69 rfl ?_
                refine go_bipush (q := 72) rfl dX7_violatesThird_70 rfl ?_
                refine go_iload_n (j := 2) (q := 73) rfl rfl dX7_violatesThird_72 rfl ?_
                refine go_imul (q := 74) dX7_violatesThird_73 rfl ?_
                refine go_iadd (q := 75) dX7_violatesThird_74 rfl ?_
                refine go_iload_n (j := 3) (q := 76) rfl rfl dX7_violatesThird_75 rfl ?_
                refine go_iadd (q := 77) dX7_violatesThird_76 rfl ?_
                refine go_iret dX7_violatesThird_77 ?_
                subst hK
                refine ⟨_, rfl, Or.inl ⟨x, y, z, ⟨by omega, by omega, by omega⟩, by omega, by unfold bad3; omega, ?_⟩, rfl⟩
                intro i j k h1 h2 h3 h4
                rcases h4 with h4 | ⟨h4, h5 | ⟨h5, h6⟩⟩
                · exact hi i h4 j k h2 h3
                · subst h4; exact hj j h5 k h3
                · subst h4; subst h5; exact hk k h6
          exact lp26 _ 0 0 rfl (by omega) (fun i h => absurd h (Nat.not_lt_zero i)) rfl
      exact lp14 _ 0 0 _ rfl (by omega) (fun i h => absurd h (Nat.not_lt_zero i)) rfl
  exact lp2 _ 0 0 _ _ rfl (by omega) (fun i h => absurd h (Nat.not_lt_zero i)) rfl
theorem em_violates (hT : TMv (w 46) (wN W) (wF W)) {k : Int} (hk : 1 ≤ k ∧ k ≤ 3) : eX7_violates l D ck ad shA [vR 45, vI k] w (Pi fun v w1 => v = vio W k ∧ w = w1) := by
  refine ev_of_goK (own := RX7) (ls := [some (vR 45), some (vI k)]) (by decide +kernel) rfl rfl (Nat.le_of_ble_eq_true rfl) rkI ?_
  intro K hK
  refine go_iload_n (j := 1) (q := 1) rfl rfl dX7_violates_0 rfl ?_
  refine go_iconst (q := 2) dX7_violates_1 rfl ?_
  refine go_icmp_ne2 (q := 5) (t := 12) dX7_violates_2 (by decide) rfl (by omega) (fun c2 => ?_) (fun c2 => ?_)
  · refine go_iload_n (j := 1) (q := 13) rfl rfl dX7_violates_12 rfl ?_
    refine go_iconst (q := 14) dX7_violates_13 rfl ?_
    refine go_icmp_ne2 (q := 17) (t := 24) dX7_violates_14 (by decide) rfl (by omega) (fun c14 => ?_) (fun c14 => ?_)
    · refine go_aload_n (j := 0) (q := 25) rfl rfl dX7_violates_24 rfl ?_
      refine go_callVi (as := [_]) (As := []) (rest := []) (n := 0) (q := 28) dX7_violates_25 lk_X7_84 (ci := 7) (N := 16) (T := TX7) rfl (by first | assumption | rfl) rfl rfl (by decide +kernel) rfl ⟨by decide, by decide⟩ ⟨rfl, rfl⟩ (Nat.le_of_ble_eq_true rfl) (em_violatesThird hT) rfl (fun x25 w25 h25 => ?_)
      obtain ⟨h25, rfl⟩ := h25
      refine go_iret dX7_violates_28 ?_
      subst hK
      first
      | exact ⟨_, rfl, by unfold vio; rw [if_pos (by omega)]; exact the_eq h6 (fun u hu => low_u hu h6), rfl⟩
      | exact ⟨_, rfl, by unfold vio; rw [if_neg (by omega), if_pos (by omega)]; exact the_eq h18 (fun u hu => low_u hu h18), rfl⟩
      | exact ⟨_, rfl, by unfold vio; rw [if_neg (by omega), if_neg (by omega), if_pos (by omega)]; exact the_eq h25 (fun u hu => low3_u hu h25), rfl⟩
    · refine go_aload_n (j := 0) (q := 18) rfl rfl dX7_violates_17 rfl ?_
      refine go_callVi (as := [_]) (As := []) (rest := []) (n := 0) (q := 21) dX7_violates_18 lk_X7_81 (ci := 7) (N := 16) (T := TX7) rfl (by first | assumption | rfl) rfl rfl (by decide +kernel) rfl ⟨by decide, by decide⟩ ⟨rfl, rfl⟩ (Nat.le_of_ble_eq_true rfl) (em_violatesSecond hT) rfl (fun x18 w18 h18 => ?_)
      obtain ⟨h18, rfl⟩ := h18
      refine go_goto (q := 28) dX7_violates_21 (by decide) ?_
      refine go_iret dX7_violates_28 ?_
      subst hK
      first
      | exact ⟨_, rfl, by unfold vio; rw [if_pos (by omega)]; exact the_eq h6 (fun u hu => low_u hu h6), rfl⟩
      | exact ⟨_, rfl, by unfold vio; rw [if_neg (by omega), if_pos (by omega)]; exact the_eq h18 (fun u hu => low_u hu h18), rfl⟩
      | exact ⟨_, rfl, by unfold vio; rw [if_neg (by omega), if_neg (by omega), if_pos (by omega)]; exact the_eq h25 (fun u hu => low3_u hu h25), rfl⟩
  · refine go_aload_n (j := 0) (q := 6) rfl rfl dX7_violates_5 rfl ?_
    refine go_callVi (as := [_]) (As := []) (rest := []) (n := 0) (q := 9) dX7_violates_6 lk_X7_77 (ci := 7) (N := 16) (T := TX7) rfl (by first | assumption | rfl) rfl rfl (by decide +kernel) rfl ⟨by decide, by decide⟩ ⟨rfl, rfl⟩ (Nat.le_of_ble_eq_true rfl) (em_violatesFirst hT) rfl (fun x6 w6 h6 => ?_)
    obtain ⟨h6, rfl⟩ := h6
    refine go_goto (q := 28) dX7_violates_9 (by decide) ?_
    refine go_iret dX7_violates_28 ?_
    subst hK
    first
    | exact ⟨_, rfl, by unfold vio; rw [if_pos (by omega)]; exact the_eq h6 (fun u hu => low_u hu h6), rfl⟩
    | exact ⟨_, rfl, by unfold vio; rw [if_neg (by omega), if_pos (by omega)]; exact the_eq h18 (fun u hu => low_u hu h18), rfl⟩
    | exact ⟨_, rfl, by unfold vio; rw [if_neg (by omega), if_neg (by omega), if_pos (by omega)]; exact the_eq h25 (fun u hu => low3_u hu h25), rfl⟩
theorem em6 (hP : PMW w W) : eX7_size l D ck ad shA [vR 45] w (Pi (MR w (op6 W))) := by
  have hT : TMv (w 46) (wN W) (wF W) := hP.1.1
  refine ev_of_goK (own := RX7) (ls := [some (vR 45)]) (by decide +kernel) rfl rfl (Nat.le_of_ble_eq_true rfl) rkI ?_
  intro K hK
  refine go_aload_n (j := 0) (q := 1) rfl rfl dX7_size_0 rfl ?_
  refine go_getR (C0 := RX7) (T := TX7) (N := 16) (ci := 7) (i := 0) (q := 4) rfl igX7 (by first | assumption | rfl) (by decide) fl_X7_7 rfl dX7_size_1 rfl ?_
  refine go_iconst (q := 5) dX7_size_4 rfl ?_
  refine go_iald (j := 0) (q := 6) (by first | assumption | rfl) (wr_eq (by omega)) (by omega) dX7_size_5 rfl ?_
  refine go_iret dX7_size_6 ?_
  subst hK; exact ⟨_, rfl, hT.1, hP, fun c k _ => rfl⟩
theorem em7 (hP : PMW w W) {x y : Int} (hx : rng x) (hy : rng y) : eX7_product l D ck ad shA [vR 45, vI x, vI y] w (Pi (MR w (op7 W x y))) := by
  have hT : TMv (w 46) (wN W) (wF W) := hP.1.1
  refine ev_of_goK (own := RX7) (ls := [some (vR 45), some (vI x), some (vI y)]) (by decide +kernel) rfl rfl (Nat.le_of_ble_eq_true rfl) rkI ?_
  intro K hK
  refine go_aload_n (j := 0) (q := 1) rfl rfl dX7_product_0 rfl ?_
  refine go_iload_n (j := 1) (q := 2) rfl rfl dX7_product_1 rfl ?_
  refine go_callVz (as := [_, _]) (As := [_]) (rest := []) (n := 1) (q := 5) dX7_product_2 lk_X7_63 (ci := 7) (N := 16) (T := TX7) rfl (by first | assumption | rfl) rfl rfl (by decide +kernel) rfl ⟨by decide, by decide⟩ ⟨rfl, rfl⟩ (Nat.le_of_ble_eq_true rfl) (em_isElement hT hx) rfl (fun w2 h2 => ?_) (fun w2 h2 => ?_)
  · obtain ⟨rfl, h2⟩ := h2
    refine go_if_eqF (q := 8) (t := 25) dX7_product_5 rfl (by decide) (by decide) ?_
    refine go_aload_n (j := 0) (q := 9) rfl rfl dX7_product_8 rfl ?_
    refine go_iload_n (j := 2) (q := 10) rfl rfl dX7_product_9 rfl ?_
    refine go_callVz (as := [_, _]) (As := [_]) (rest := []) (n := 1) (q := 13) dX7_product_10 lk_X7_63 (ci := 7) (N := 16) (T := TX7) rfl (by first | assumption | rfl) rfl rfl (by decide +kernel) rfl ⟨by decide, by decide⟩ ⟨rfl, rfl⟩ (Nat.le_of_ble_eq_true rfl) (em_isElement hT hy) rfl (fun w10 h10 => ?_) (fun w10 h10 => ?_)
    · obtain ⟨rfl, h10⟩ := h10
      refine go_if_eqF (q := 16) (t := 25) dX7_product_13 rfl (by decide) (by decide) ?_
      refine go_aload_n (j := 0) (q := 17) rfl rfl dX7_product_16 rfl ?_
      refine go_iload_n (j := 1) (q := 18) rfl rfl dX7_product_17 rfl ?_
      refine go_iload_n (j := 2) (q := 19) rfl rfl dX7_product_18 rfl ?_
      refine go_callVi (as := [_, _, _]) (As := [_, _]) (rest := []) (n := 2) (q := 22) dX7_product_19 lk_X7_67 (ci := 7) (N := 16) (T := TX7) rfl (by first | assumption | rfl) rfl rfl (by decide +kernel) rfl ⟨by decide, by decide⟩ ⟨rfl, rfl⟩ (Nat.le_of_ble_eq_true rfl) (em_times hT (x := x.toNat) (y := y.toNat) (by omega) (by omega) (by omega) (by omega)) rfl (fun x19 w19 h19 => ?_)
      obtain ⟨rfl, rfl⟩ := h19
      refine go_goto (q := 26) dX7_product_22 (by decide) ?_
      refine go_iret dX7_product_26 ?_
      subst hK
      unfold op7
      first
      | (rw [cif_t (by omega)]; exact ⟨_, rfl, rfl, hP, fun c k _ => rfl⟩)
      | (rw [cif_f (by omega)]; exact ⟨_, rfl, rfl, hP, fun c k _ => rfl⟩)
    · obtain ⟨rfl, h10⟩ := h10
      refine go_if_eqT (t := 25) dX7_product_13 (by decide) (by decide) ?_
      refine go_iconst (q := 26) dX7_product_25 rfl ?_
      refine go_iret dX7_product_26 ?_
      subst hK
      unfold op7
      first
      | (rw [cif_t (by omega)]; exact ⟨_, rfl, rfl, hP, fun c k _ => rfl⟩)
      | (rw [cif_f (by omega)]; exact ⟨_, rfl, rfl, hP, fun c k _ => rfl⟩)
  · obtain ⟨rfl, h2⟩ := h2
    refine go_if_eqT (t := 25) dX7_product_5 (by decide) (by decide) ?_
    refine go_iconst (q := 26) dX7_product_25 rfl ?_
    refine go_iret dX7_product_26 ?_
    subst hK
    unfold op7
    first
    | (rw [cif_t (by omega)]; exact ⟨_, rfl, rfl, hP, fun c k _ => rfl⟩)
    | (rw [cif_f (by omega)]; exact ⟨_, rfl, rfl, hP, fun c k _ => rfl⟩)
theorem em8 (hP : PMW w W) {x y : Int} (hx : rng x) (hy : rng y) : eX7_quotient l D ck ad shA [vR 45, vI x, vI y] w (Pi (MR w (op8 W x y))) := by
  have hT : TMv (w 46) (wN W) (wF W) := hP.1.1
  refine ev_of_goK (own := RX7) (ls := [some (vR 45), some (vI x), some (vI y)]) (by decide +kernel) rfl rfl (Nat.le_of_ble_eq_true rfl) rkI ?_
  intro K hK
  refine go_aload_n (j := 0) (q := 1) rfl rfl dX7_quotient_0 rfl ?_
  refine go_iload_n (j := 1) (q := 2) rfl rfl dX7_quotient_1 rfl ?_
  refine go_callVz (as := [_, _]) (As := [_]) (rest := []) (n := 1) (q := 5) dX7_quotient_2 lk_X7_63 (ci := 7) (N := 16) (T := TX7) rfl (by first | assumption | rfl) rfl rfl (by decide +kernel) rfl ⟨by decide, by decide⟩ ⟨rfl, rfl⟩ (Nat.le_of_ble_eq_true rfl) (em_isElement hT hx) rfl (fun w2 h2 => ?_) (fun w2 h2 => ?_)
  · obtain ⟨rfl, h2⟩ := h2
    refine go_if_eqF (q := 8) (t := 25) dX7_quotient_5 rfl (by decide) (by decide) ?_
    refine go_aload_n (j := 0) (q := 9) rfl rfl dX7_quotient_8 rfl ?_
    refine go_iload_n (j := 2) (q := 10) rfl rfl dX7_quotient_9 rfl ?_
    refine go_callVz (as := [_, _]) (As := [_]) (rest := []) (n := 1) (q := 13) dX7_quotient_10 lk_X7_63 (ci := 7) (N := 16) (T := TX7) rfl (by first | assumption | rfl) rfl rfl (by decide +kernel) rfl ⟨by decide, by decide⟩ ⟨rfl, rfl⟩ (Nat.le_of_ble_eq_true rfl) (em_isElement hT hy) rfl (fun w10 h10 => ?_) (fun w10 h10 => ?_)
    · obtain ⟨rfl, h10⟩ := h10
      refine go_if_eqF (q := 16) (t := 25) dX7_quotient_13 rfl (by decide) (by decide) ?_
      refine go_aload_n (j := 0) (q := 17) rfl rfl dX7_quotient_16 rfl ?_
      refine go_iload_n (j := 1) (q := 18) rfl rfl dX7_quotient_17 rfl ?_
      refine go_iload_n (j := 2) (q := 19) rfl rfl dX7_quotient_18 rfl ?_
      refine go_callVi (as := [_, _, _]) (As := [_, _]) (rest := []) (n := 2) (q := 22) dX7_quotient_19 lk_X7_87 (ci := 7) (N := 16) (T := TX7) rfl (by first | assumption | rfl) rfl rfl (by decide +kernel) rfl ⟨by decide, by decide⟩ ⟨rfl, rfl⟩ (Nat.le_of_ble_eq_true rfl) (em_dividedBy hT (x := x.toNat) (y := y.toNat) (by omega) (by omega) (by omega) (by omega)) rfl (fun x19 w19 h19 => ?_)
      obtain ⟨h19, rfl⟩ := h19
      refine go_goto (q := 26) dX7_quotient_22 (by decide) ?_
      refine go_iret dX7_quotient_26 ?_
      subst hK
      unfold op8
      first
      | (rw [cif_t (by omega)]; exact ⟨_, rfl, the_eq h19 (fun u hu => low_u hu h19), hP, fun c k _ => rfl⟩)
      | (rw [cif_f (by omega)]; exact ⟨_, rfl, rfl, hP, fun c k _ => rfl⟩)
    · obtain ⟨rfl, h10⟩ := h10
      refine go_if_eqT (t := 25) dX7_quotient_13 (by decide) (by decide) ?_
      refine go_iconst (q := 26) dX7_quotient_25 rfl ?_
      refine go_iret dX7_quotient_26 ?_
      subst hK
      unfold op8
      first
      | (rw [cif_t (by omega)]; exact ⟨_, rfl, the_eq h19 (fun u hu => low_u hu h19), hP, fun c k _ => rfl⟩)
      | (rw [cif_f (by omega)]; exact ⟨_, rfl, rfl, hP, fun c k _ => rfl⟩)
  · obtain ⟨rfl, h2⟩ := h2
    refine go_if_eqT (t := 25) dX7_quotient_5 (by decide) (by decide) ?_
    refine go_iconst (q := 26) dX7_quotient_25 rfl ?_
    refine go_iret dX7_quotient_26 ?_
    subst hK
    unfold op8
    first
    | (rw [cif_t (by omega)]; exact ⟨_, rfl, the_eq h19 (fun u hu => low_u hu h19), hP, fun c k _ => rfl⟩)
    | (rw [cif_f (by omega)]; exact ⟨_, rfl, rfl, hP, fun c k _ => rfl⟩)
theorem em9 (hP : PMW w W) {x : Int} (hx : rng x) : eX7_violation l D ck ad shA [vR 45, vI x] w (Pi (MR w (op9 W x))) := by
  have hT : TMv (w 46) (wN W) (wF W) := hP.1.1
  refine ev_of_goK (own := RX7) (ls := [some (vR 45), some (vI x)]) (by decide +kernel) rfl rfl (Nat.le_of_ble_eq_true rfl) rkI ?_
  intro K hK
  refine go_iload_n (j := 1) (q := 1) rfl rfl dX7_violation_0 rfl ?_
  refine go_iconst (q := 2) dX7_violation_1 rfl ?_
  refine go_iconst (q := 3) dX7_violation_2 rfl ?_
  refine go_callSz (as := [_, _, _]) (rest := []) (n := 3) (q := 6) dX7_violation_3 lk_X7_35 rfl (by decide +kernel) rfl ⟨by decide, by decide⟩ ⟨rfl, rfl⟩ (Nat.le_of_ble_eq_true rfl) (em_within (by omega)) rfl (fun w3 h3 => ?_) (fun w3 h3 => ?_)
  · obtain ⟨rfl, h3⟩ := h3
    refine go_if_eqF (q := 9) (t := 17) dX7_violation_6 rfl (by decide) (by decide) ?_
    refine go_aload_n (j := 0) (q := 10) rfl rfl dX7_violation_9 rfl ?_
    refine go_iload_n (j := 1) (q := 11) rfl rfl dX7_violation_10 rfl ?_
    refine go_callVi (as := [_, _]) (As := [_]) (rest := []) (n := 1) (q := 14) dX7_violation_11 lk_X7_90 (ci := 7) (N := 16) (T := TX7) rfl (by first | assumption | rfl) rfl rfl (by decide +kernel) rfl ⟨by decide, by decide⟩ ⟨rfl, rfl⟩ (Nat.le_of_ble_eq_true rfl) (em_violates hT (by omega)) rfl (fun x11 w11 h11 => ?_)
    obtain ⟨rfl, rfl⟩ := h11
    refine go_goto (q := 18) dX7_violation_14 (by decide) ?_
    refine go_iret dX7_violation_18 ?_
    subst hK
    first
    | exact ⟨_, rfl, rfl, hP, fun c k _ => rfl⟩
    | exact ⟨_, rfl, by unfold op9 vio; rw [if_neg (by omega), if_neg (by omega), if_neg (by omega)], hP, fun c k _ => rfl⟩
  · obtain ⟨rfl, h3⟩ := h3
    refine go_if_eqT (t := 17) dX7_violation_6 (by decide) (by decide) ?_
    refine go_iconst (q := 18) dX7_violation_17 rfl ?_
    refine go_iret dX7_violation_18 ?_
    subst hK
    first
    | exact ⟨_, rfl, rfl, hP, fun c k _ => rfl⟩
    | exact ⟨_, rfl, by unfold op9 vio; rw [if_neg (by omega), if_neg (by omega), if_neg (by omega)], hP, fun c k _ => rfl⟩
end M2
