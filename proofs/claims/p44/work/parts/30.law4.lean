/-! numbers on bits, for any that fit -/
theorem oiN (n : Nat) : Int32.ofInt (n : Int) = nI n := (oi_ofNat n).symm
theorem sh_b : ∀ k : Fin 31, ((Int32.ofInt ((k : Nat) : Int) &&& 31).toBitVec.smod 32).toNat = k := by decide +kernel
theorem shrN {a k : Nat} (ha : a < 2147483648) (hk : k < 31) : shrZ (a : Int) (k : Int) = ((a / 2 ^ k : Nat) : Int) := by
  unfold shrZ
  rw [oiN a, pk_shrN ha _ k (sh_b ⟨k, hk⟩)]
  exact nI_toInt (Nat.lt_of_le_of_lt (Nat.div_le_self _ _) ha)
theorem shlN {a k : Nat} (ha : a * 2 ^ k < 2147483648) (hk : k < 31) : shlZ (a : Int) (k : Int) = ((a * 2 ^ k : Nat) : Int) := by
  unfold shlZ
  rw [oiN a, pk_shlN _ k (sh_b ⟨k, hk⟩) (by omega)]
  exact nI_toInt ha
theorem and7N {a : Nat} (ha : a < 2147483648) : andZ (a : Int) 7 = ((a % 8 : Nat) : Int) := by
  unfold andZ
  rw [oiN a, pk_andN (by omega) 3 (by decide +kernel)]
  exact nI_toInt (show a % 8 < 2147483648 by omega)
theorem orN {a b : Nat} (ha : a < 2147483648) (hb : b < 2147483648) : orZ (a : Int) (b : Int) = ((a ||| b : Nat) : Int) := by
  have hab : a ||| b < 2 ^ 31 := Nat.or_lt_two_pow ha hb
  unfold orZ
  rw [oiN a, oiN b]
  have h1 : (nI a ||| nI b).toBitVec.toNat = a ||| b := by rw [Int32.toBitVec_or, BitVec.toNat_or, pk_tn (by omega), pk_tn (by omega)]
  show (nI a ||| nI b).toBitVec.toInt = _
  rw [BitVec.toInt_eq_toNat_of_lt (by rw [h1]; omega), h1]
/-! rows of digits, three bits each -/
def cd (c : Nat → Nat) (k : Nat) : Nat := fN (fun x m => m ||| c x * 2 ^ (3 * x)) 0 k
theorem cd_lt {c : Nat → Nat} : ∀ k, (∀ x, x < k → c x < 8) → cd c k < 2 ^ (3 * k)
  | 0, _ => by show 0 < 2 ^ (3 * 0); decide
  | k + 1, h => by
    have h1 := cd_lt (c := c) k (fun x hx => h x (by omega))
    have h2 := h k (by omega)
    show cd c k ||| c k * 2 ^ (3 * k) < 2 ^ (3 * (k + 1))
    have e : 2 ^ (3 * (k + 1)) = 8 * 2 ^ (3 * k) := by rw [show 3 * (k + 1) = 3 + 3 * k by omega, Nat.pow_add]
    have h3 : c k * 2 ^ (3 * k) ≤ 7 * 2 ^ (3 * k) := Nat.mul_le_mul_right _ (by omega)
    have h4 := Nat.two_pow_pos (3 * k)
    exact or_lt (by rw [e]; omega) (by rw [e]; omega)
theorem cd_s {c : Nat → Nat} {k : Nat} (h : ∀ x, x < k → c x < 8) : cd c (k + 1) = 2 ^ (3 * k) * c k + cd c k := by
  rw [Nat.two_pow_add_eq_or_of_lt (cd_lt k h)]
  show cd c k ||| c k * 2 ^ (3 * k) = _
  rw [Nat.mul_comm (c k), Nat.or_comm]
theorem cd_dig {c : Nat → Nat} : ∀ k, (∀ x, x < k → c x < 8) → ∀ x, x < k → cd c k / 2 ^ (3 * x) % 8 = c x
  | 0, _, x, h => absurd h (Nat.not_lt_zero x)
  | k + 1, h, x, hx => by
    have hk := fun x (hx : x < k) => h x (by omega)
    rw [cd_s hk]
    by_cases q : x = k
    · subst q
      rw [Nat.mul_add_div (Nat.two_pow_pos _), Nat.div_eq_of_lt (cd_lt x hk)]
      have := h x (by omega)
      omega
    · have e : 2 ^ (3 * k) = 2 ^ (3 * x) * (8 * 2 ^ (3 * (k - x - 1))) := by
        have e1 : 3 * k = 3 * x + (3 + 3 * (k - x - 1)) := by omega
        rw [e1, Nat.pow_add, Nat.pow_add]
      rw [e, Nat.mul_assoc, Nat.mul_add_div (Nat.two_pow_pos _), Nat.mul_assoc, Nat.mul_add_mod]
      exact cd_dig k hk x (by omega)
theorem cd_congr {c c2 : Nat → Nat} : ∀ k, (∀ x, x < k → c x = c2 x) → cd c k = cd c2 k
  | 0, _ => rfl
  | k + 1, h => by
    show cd c k ||| c k * 2 ^ (3 * k) = cd c2 k ||| c2 k * 2 ^ (3 * k)
    rw [cd_congr k (fun x hx => h x (by omega)), h k (by omega)]
theorem cd_18 {c : Nat → Nat} {k : Nat} (hk : k ≤ 6) (h : ∀ x, x < k → c x < 8) : cd c k < 262144 :=
  Nat.lt_of_lt_of_le (cd_lt k h) (Nat.pow_le_pow_right (n := 2) (by decide) (show 3 * k ≤ 18 by omega))
theorem cdv_18 {v x : Nat} (hv : v < 8) (hx : x < 6) : v * 2 ^ (3 * x) < 262144 := by
  have h1 : v * 2 ^ (3 * x) ≤ 7 * 2 ^ (3 * x) := Nat.mul_le_mul_right _ (by omega)
  have h2 : 2 ^ (3 * x) ≤ 2 ^ 15 := Nat.pow_le_pow_right (by decide) (by omega)
  omega
def cdL (n : Nat) (L : List Nat) : Nat := cd (ix L) n
theorem perm_8 {n : Nat} {L : List Nat} (hn : n ≤ 6) (h : permL n L) : ∀ x, x < n → ix L x < 8 := fun x hx => by have := ix_lt h hx; omega
theorem cdL_inj {n : Nat} {L M : List Nat} (hn : n ≤ 6) (hL : permL n L) (hM : permL n M) (e : cdL n L = cdL n M) : L = M := by
  refine ix_ext (by rw [hL.1, hM.1]) (fun i hi => ?_)
  rw [hL.1] at hi
  have h1 := cd_dig n (perm_8 hn hL) i hi
  have h2 := cd_dig n (perm_8 hn hM) i hi
  unfold cdL at e
  rw [e] at h1
  exact h1.symm.trans h2
theorem idL_ix : ∀ n : Fin 7, ∀ i : Fin 6, (i : Nat) < n → ix (idL n) i = i := by decide +kernel
/-! how the found ones grow -/
theorem bfsP_len {f : Nat → Nat → Nat} {p : List Nat} {y : Nat} {Q : List (List Nat)} : Q.length ≤ (bfsP f p y Q).length := by
  unfold bfsP; split
  · exact Nat.le_refl _
  · rw [List.length_append]; omega
theorem bfsY_len {f : Nat → Nat → Nat} {p : List Nat} {Q : List (List Nat)} {j : Nat} : ∀ k, j ≤ k → (bfsY f p Q j).length ≤ (bfsY f p Q k).length
  | 0, h => by rw [show j = 0 by omega]; exact Nat.le_refl _
  | k + 1, h => by
    by_cases q : j = k + 1
    · rw [q]; exact Nat.le_refl _
    · exact Nat.le_trans (bfsY_len k (by omega)) bfsP_len
theorem bfsH_len {n : Nat} {f : Nat → Nat → Nat} {h : Nat} : ∀ k, h ≤ k → (bfsH n f h).length ≤ (bfsH n f k).length
  | 0, hk => by rw [show h = 0 by omega]; exact Nat.le_refl _
  | k + 1, hk => by
    by_cases q : h = k + 1
    · rw [q]; exact Nat.le_refl _
    · refine Nat.le_trans (bfsH_len k (by omega)) ?_
      show _ ≤ (if k < (bfsH n f k).length then bfsY f ((bfsH n f k).getD k []) (bfsH n f k) n else bfsH n f k).length
      split
      · exact bfsY_len (j := 0) n (Nat.zero_le n)
      · exact Nat.le_refl _
section LAW4
variable {l : Launch} {D : va_G} {ck : Nat → ClassId} {ad : Nat → Nat} {sh : List Shp} {w : Mem} {n : Nat} {f : Nat → Nat → Nat}
theorem el_group (hT : TB w 45 n f) : eL_group l D ck ad shA [vR 45, vR 46] w (Pi fun v w1 => (((¬ ∀ y, y < n → prm n f y) ∧ v = -6) ∨ ((∀ y, y < n → prm n f y) ∧ ((grpN n f ≤ 60 ∧ v = (grpN n f : Int)) ∨ (60 < grpN n f ∧ v = 99)))) ∧ ∀ c k, c < 48 → w1 c k = w c k) := by
  have g0 : w 45 0 = (n : Int) := hT.1
  have hn := hT.2.1
  have hr : ∀ i j, i < n → j < n → f i j < n := fun i j hi hj => (hT.2.2 i j hi hj).2
  refine ev_of_goBK (B := 1) ⟨Nat.le_of_ble_eq_true rfl, Nat.le_of_ble_eq_true rfl⟩ (own := RL) (ls := [some (vR 45), some (vR 46), none, none, none, none, none, none, none]) (by decide +kernel) rfl rfl (Nat.le_of_ble_eq_true rfl) rkI ?_
  intro K hK
  refine go_iconst (q := 1) dL_group_0 rfl ?_
  refine go_aload_n (j := 0) (q := 2) rfl rfl dL_group_1 rfl ?_
  refine go_aload_n (j := 1) (q := 3) rfl rfl dL_group_2 rfl ?_
  refine go_callSi (as := [_, _, _]) (rest := []) (n := 3) (q := 6) dL_group_3 lk_L_22 rfl (by decide +kernel) rfl ⟨by decide, by decide⟩ ⟨rfl, rfl⟩ (Nat.le_of_ble_eq_true rfl) (el_vio2 hT) rfl (fun x3 w3 h3 => ?_)
  obtain ⟨h3, rfl⟩ := h3
  refine go_bipush (q := 8) rfl dL_group_6 rfl ?_
  refine go_icmp_eq2 (q := 11) (t := 14) dL_group_8 (by decide) rfl (by rcases h3 with ⟨z, z1, z2, z3, z4⟩ | ⟨z1, z2⟩ <;> omega) (fun c8 => ?_) (fun c8 => ?_)
  · have hpr : ∀ y, y < n → prm n f y := by
      rcases h3 with ⟨z, z1, z2, z3, z4⟩ | ⟨z1, z2⟩
      · omega
      · exact fun y hy => Classical.not_not.mp (z2 y hy)
    refine go_bipush (q := 16) rfl dL_group_14 rfl ?_
    refine go_newa (n := 48) (N := 64) (q := 18) shA_len (by decide) ⟨by decide +kernel, by decide⟩ rfl rfl shA_ne dL_group_16 rfl (fun x16 => ?_)
    have hs48 : (shA ++ [rInt 64])[48]? = some (rInt 64) := rfl
    have hs45 : (shA ++ [rInt 64])[45]? = some (rInt 3) := rfl
    have hs46 : (shA ++ [rInt 64])[46]? = some (rInt 36) := rfl
    refine go_astore_n (j := 2) (q := 19) (ls2 := [_, _, _, _, _, _, _, _, _]) rfl (by decide) rfl rfl dL_group_18 rfl ?_
    refine go_iconst (q := 20) dL_group_19 rfl ?_
    refine go_istore_n (j := 3) (q := 21) (ls2 := [_, _, _, _, _, _, _, _, _]) rfl (by decide) rfl rfl dL_group_20 rfl ?_
    refine go_iconst (q := 22) dL_group_21 rfl ?_
    refine go_istore (j := 4) (q := 24) (ls2 := [_, _, _, _, _, _, _, _, _]) (by decide) rfl rfl dL_group_22 rfl ?_
    have lp24 : ∀ (m24 : Nat) (x : Nat) (xi : Int) (a b c d : Option MV) (w2 : Mem) (ex : xi = x) (hx : x ≤ n) (h0 : w2 48 0 = (cd (fun i => i) x : Nat)) (hf2 : ∀ c k, c ≠ 48 → w2 c k = w c k), m24 = n - x → gL_group l D ck (adx ad 48 x16) (shA ++ [rInt 64]) 0 (VW D ck ad shA) 24 [some (vR 45), some (vR 46), some (vR 48), some (vI 1), some (vI xi), a, b, c, d] [] w2 K := by
      intro m24
      induction m24 using Nat.strongRecOn with
      | _ m24 ih24 =>
      intro x xi a b c d w2 ex hx h0 hf2 em24
      have g02 : w2 45 0 = (n : Int) := by rw [hf2 _ _ (by omega)]; exact g0
      refine go_iload (j := 4) (q := 26) rfl dL_group_24 rfl ?_
      refine go_aload_n (j := 0) (q := 27) rfl rfl dL_group_26 rfl ?_
      refine go_iconst (q := 28) dL_group_27 rfl ?_
      refine go_iald (j := 0) (q := 29) (by first | assumption | rfl) (wr_eq (by omega)) (by omega) dL_group_28 rfl ?_
      refine go_icmp_ge2 (q := 32) (t := 51) dL_group_29 (by decide) rfl (by omega) (fun c29 => ?_) (fun c29 => ?_)
      · refine go_iconst (q := 52) dL_group_51 rfl ?_
        refine go_istore (j := 4) (q := 54) (ls2 := [_, _, _, _, _, _, _, _, _]) (by decide) rfl rfl dL_group_52 rfl ?_
        have lp54 : ∀ (m54 : Nat) (k : Nat) (Ni ki : Int) (a b c d : Option MV) (w3 : Mem) (Q : List (List Nat)) (eQ : Q = bfsH n f k) (hk : k ≤ Q.length) (hQ60 : Q.length ≤ 60) (gQ : goodQ n Q) (ek : ki = k) (eN : Ni = (Q.length : Nat)) (hq : ∀ i, i < Q.length → w3 48 i = (cdL n (Q.getD i []) : Int)) (hf3 : ∀ c k, c ≠ 48 → w3 c k = w c k), m54 = 61 - k → gL_group l D ck (adx ad 48 x16) (shA ++ [rInt 64]) 0 (VW D ck ad shA) 54 [some (vR 45), some (vR 46), some (vR 48), some (vI Ni), some (vI ki), a, b, c, d] [] w3 K := by
          intro m54
          induction m54 using Nat.strongRecOn with
          | _ m54 ih54 =>
          intro k Ni ki a b c d w3 Q eQ hk hQ60 gQ ek eN hq hf3 em54
          refine go_iload (j := 4) (q := 56) rfl dL_group_54 rfl ?_
          refine go_iload_n (j := 3) (q := 57) rfl rfl dL_group_56 rfl ?_
          refine go_icmp_ge2 (q := 60) (t := 197) dL_group_57 (by decide) rfl (by omega) (fun c57 => ?_) (fun c57 => ?_)
          · refine go_iload_n (j := 3) (q := 198) rfl rfl dL_group_197 rfl ?_
            refine go_iret dL_group_198 ?_
            subst hK
            have e8 : k = Q.length := by omega
            have hst := bfs_stop (n := n) (f := f) (h := k) (by rw [← eQ]; omega) 720 (by omega)
            have eg : grpN n f = Q.length := by unfold grpN; rw [hst, ← eQ]
            exact ⟨_, rfl, Or.inr ⟨hpr, Or.inl ⟨by omega, by rw [eg]; exact eN⟩⟩, fun c k h => hf3 c k (by omega)⟩
          · have hmem := gD_mem (Q := Q) (i := k) (by omega)
            have hpp := gQ.2 _ hmem
            have hp8 := perm_8 hn.2 hpp
            have hc18 := cd_18 (k := n) hn.2 hp8
            refine go_iconst (q := 61) dL_group_60 rfl ?_
            refine go_istore (j := 5) (q := 63) (ls2 := [_, _, _, _, _, _, _, _, _]) (by decide) rfl rfl dL_group_61 rfl ?_
            have lp63 : ∀ (m63 : Nat) (y : Nat) (Mi yi : Int) (b c d : Option MV) (w4 : Mem) (P : List (List Nat)) (eP : P = bfsY f (Q.getD k []) Q y) (hy : y ≤ n) (gP : goodQ n P) (hle : Q.length ≤ P.length) (hP60 : P.length ≤ 60) (ey : yi = y) (eM : Mi = (P.length : Nat)) (hpk : w4 48 k = ((cd (ix (Q.getD k [])) n : Nat) : Int)) (hq4 : ∀ i, i < P.length → w4 48 i = (cdL n (P.getD i []) : Int)) (hf4 : ∀ c k, c ≠ 48 → w4 c k = w c k), m63 = n - y → gL_group l D ck (adx ad 48 x16) (shA ++ [rInt 64]) 0 (VW D ck ad shA) 63 [some (vR 45), some (vR 46), some (vR 48), some (vI Mi), some (vI ki), some (vI yi), b, c, d] [] w4 K := by
              intro m63
              induction m63 using Nat.strongRecOn with
              | _ m63 ih63 =>
              intro y Mi yi b c d w4 P eP hy gP hle hP60 ey eM hpk hq4 hf4 em63
              have g04 : w4 45 0 = (n : Int) := by rw [hf4 _ _ (by omega)]; exact g0
              refine go_iload (j := 5) (q := 65) rfl dL_group_63 rfl ?_
              refine go_aload_n (j := 0) (q := 66) rfl rfl dL_group_65 rfl ?_
              refine go_iconst (q := 67) dL_group_66 rfl ?_
              refine go_iald (j := 0) (q := 68) (by first | assumption | rfl) (wr_eq (by omega)) (by omega) dL_group_67 rfl ?_
              refine go_icmp_ge2 (q := 71) (t := 191) dL_group_68 (by decide) rfl (by omega) (fun c68 => ?_) (fun c68 => ?_)
              · refine go_iinc (j := 4) (q := 194) (ls2 := [_, _, _, _, _, _, _, _, _]) rfl (by decide) rfl rfl dL_group_191 rfl ?_
                refine go_goto (q := 54) dL_group_194 (by decide) ?_
                exact ih54 _ (by omega) (k + 1) _ _ _ _ _ _ _ P (by show P = (if k < (bfsH n f k).length then _ else _); rw [← eQ, if_pos (by omega), eP, show y = n by omega]) (by omega) hP60 gP (by omega) eM hq4 hf4 rfl
              · refine go_iconst (q := 72) dL_group_71 rfl ?_
                refine go_istore (j := 6) (q := 74) (ls2 := [_, _, _, _, _, _, _, _, _]) (by decide) rfl rfl dL_group_72 rfl ?_
                refine go_iconst (q := 75) dL_group_74 rfl ?_
                refine go_istore (j := 7) (q := 77) (ls2 := [_, _, _, _, _, _, _, _, _]) (by decide) rfl rfl dL_group_75 rfl ?_
                have lp77 : ∀ (m77 : Nat) (x : Nat) (vi xi : Int) (d : Option MV) (ex : xi = x) (hx : x ≤ n) (ev : vi = ((cd (fun i => f (ix (Q.getD k []) i) y) x : Nat) : Int)), m77 = n - x → gL_group l D ck (adx ad 48 x16) (shA ++ [rInt 64]) 0 (VW D ck ad shA) 77 [some (vR 45), some (vR 46), some (vR 48), some (vI Mi), some (vI ki), some (vI yi), some (vI vi), some (vI xi), d] [] w4 K := by
                  intro m77
                  induction m77 using Nat.strongRecOn with
                  | _ m77 ih77 =>
                  intro x vi xi d ex hx ev em77
                  refine go_iload (j := 7) (q := 79) rfl dL_group_77 rfl ?_
                  refine go_aload_n (j := 0) (q := 80) rfl rfl dL_group_79 rfl ?_
                  refine go_iconst (q := 81) dL_group_80 rfl ?_
                  refine go_iald (j := 0) (q := 82) (by first | assumption | rfl) (wr_eq (by omega)) (by omega) dL_group_81 rfl ?_
                  refine go_icmp_ge2 (q := 85) (t := 121) dL_group_82 (by decide) rfl (by omega) (fun c82 => ?_) (fun c82 => ?_)
                  · obtain ⟨nx, hnx⟩ : ∃ nx, nx = nxtL f (Q.getD k []) y := ⟨_, rfl⟩
                    have hnp : permL n nx := by rw [hnx]; exact nxt_perm hn.2 hr (hpr y (by omega)) hpp (show y < n by omega)
                    have hn18 := cd_18 (k := n) hn.2 (perm_8 hn.2 hnp)
                    have evn : vi = ((cdL n nx : Nat) : Int) := by
                      rw [ev, show x = n by omega, hnx]
                      unfold cdL
                      rw [cd_congr n (c2 := ix (nxtL f (Q.getD k []) y)) (fun i hi => (ix_map (by rw [hpp.1]; exact hi)).symm)]
                    have hgs := goodQ_step hn.2 hr (hpr y (by omega)) hpp (show y < n by omega) gP
                    refine go_iconst (q := 122) dL_group_121 rfl ?_
                    refine go_istore (j := 7) (q := 124) (ls2 := [_, _, _, _, _, _, _, _, _]) (by decide) rfl rfl dL_group_122 rfl ?_
                    refine go_iconst (q := 125) dL_group_124 rfl ?_
                    refine go_istore (j := 8) (q := 127) (ls2 := [_, _, _, _, _, _, _, _, _]) (by decide) rfl rfl dL_group_125 rfl ?_
                    have lp127 : ∀ (m127 : Nat) (i : Nat) (oi ii : Int) (ei : ii = i) (hi : i ≤ P.length) (ho : (oi = 1 ∧ nx ∈ P) ∨ (oi = 0 ∧ ∀ j, j < i → P.getD j [] ≠ nx)), m127 = P.length - i → gL_group l D ck (adx ad 48 x16) (shA ++ [rInt 64]) 0 (VW D ck ad shA) 127 [some (vR 45), some (vR 46), some (vR 48), some (vI Mi), some (vI ki), some (vI yi), some (vI vi), some (vI oi), some (vI ii)] [] w4 K := by
                      intro m127
                      induction m127 using Nat.strongRecOn with
                      | _ m127 ih127 =>
                      intro i oi ii ei hi ho em127
                      refine go_iload (j := 8) (q := 129) rfl dL_group_127 rfl ?_
                      refine go_iload_n (j := 3) (q := 130) rfl rfl dL_group_129 rfl ?_
                      refine go_icmp_ge2 (q := 133) (t := 160) dL_group_130 (by decide) rfl (by omega) (fun c130 => ?_) (fun c130 => ?_)
                      · refine go_iload (j := 7) (q := 162) rfl dL_group_160 rfl ?_
                        refine go_if_eq2 (q := 165) (t := 168) dL_group_162 (by decide) rfl (by rcases ho with ho | ho <;> omega) (fun c162 => ?_) (fun c162 => ?_)
                        · have hni : ¬ nx ∈ P := by
                            rcases ho with ho | ho
                            · omega
                            · intro z
                              obtain ⟨j, hj, e⟩ := List.mem_iff_getElem.mp z
                              exact ho.2 j (by omega) (by rw [List.getD_eq_getElem?_getD, List.getElem?_eq_getElem hj]; exact e)
                          have eB : bfsP f (Q.getD k []) y P = P ++ [nx] := by unfold bfsP; rw [← hnx, if_neg hni]
                          rw [eB] at hgs
                          refine go_iload_n (j := 3) (q := 169) rfl rfl dL_group_168 rfl ?_
                          refine go_bipush (q := 171) rfl dL_group_169 rfl ?_
                          refine go_icmp_ne2 (q := 174) (t := 177) dL_group_171 (by decide) rfl (by omega) (fun c171 => ?_) (fun c171 => ?_)
                          · refine go_aload_n (j := 2) (q := 178) rfl rfl dL_group_177 rfl ?_
                            refine go_iload_n (j := 3) (q := 179) rfl rfl dL_group_178 rfl ?_
                            refine go_iinc (j := 3) (q := 182) (ls2 := [_, _, _, _, _, _, _, _, _]) rfl (by decide) rfl rfl dL_group_179 rfl ?_
                            refine go_iload (j := 6) (q := 184) rfl dL_group_182 rfl ?_
                            refine go_iast (j := P.length) (q := 185) (by first | assumption | rfl) (wr_eq (by omega)) (by omega) dL_group_184 rfl ?_
                            refine go_iinc (j := 5) (q := 188) (ls2 := [_, _, _, _, _, _, _, _, _]) rfl (by decide) rfl rfl dL_group_185 rfl ?_
                            refine go_goto (q := 63) dL_group_188 (by decide) ?_
                            first
                            | exact ih63 _ (by omega) (y + 1) _ _ _ _ _ _ P (by show P = bfsP f _ y (bfsY f _ Q y); rw [← eP, eB]) (by omega) gP hle hP60 (by omega) eM hpk hq4 hf4 rfl
                            | exact ih63 _ (by omega) (y + 1) _ _ _ _ _ _ (P ++ [nx]) (by show _ = bfsP f _ y (bfsY f _ Q y); rw [← eP, eB]) (by omega) hgs (by rw [List.length_append]; omega) (by rw [List.length_append, List.length_singleton]; omega) (by omega) (by rw [List.length_append, List.length_singleton]; omega) (by rw [mup_ne (by omega)]; exact hpk) (fun i z => by
                                rw [List.length_append, List.length_singleton] at z
                                by_cases q : i = P.length
                                · subst q; rw [mup_eq, gD_r]; exact evn
                                · rw [mup_ne (by omega), gD_l (by omega)]; exact hq4 i (by omega)) (fun c k h => by rw [mup_ne (Or.inl h)]; exact hf4 c k h) rfl
                          · refine go_bipush (q := 176) rfl dL_group_174 rfl ?_
                            refine go_iret dL_group_176 ?_
                            subst hK
                            have hlen := bfsY_len (f := f) (p := Q.getD k []) (Q := Q) (j := y + 1) n (by omega)
                            have e1 : bfsY f (Q.getD k []) Q (y + 1) = P ++ [nx] := by show bfsP f _ y (bfsY f _ Q y) = _; rw [← eP, eB]
                            rw [e1, List.length_append, List.length_singleton] at hlen
                            have e2 : bfsH n f (k + 1) = bfsY f (Q.getD k []) Q n := by show (if k < (bfsH n f k).length then _ else _) = _; rw [← eQ, if_pos (by omega)]
                            have h720 := bfsH_len (n := n) (f := f) (h := k + 1) 720 (by omega)
                            rw [e2] at h720
                            exact ⟨_, rfl, Or.inr ⟨hpr, Or.inr ⟨by unfold grpN; omega, rfl⟩⟩, fun c k h => hf4 c k (by omega)⟩
                        · have hin : nx ∈ P := ho.elim (fun z => z.2) (fun z => absurd z.1 c162)
                          have eB : bfsP f (Q.getD k []) y P = P := by unfold bfsP; rw [← hnx, if_pos hin]
                          refine go_goto (q := 185) dL_group_165 (by decide) ?_
                          refine go_iinc (j := 5) (q := 188) (ls2 := [_, _, _, _, _, _, _, _, _]) rfl (by decide) rfl rfl dL_group_185 rfl ?_
                          refine go_goto (q := 63) dL_group_188 (by decide) ?_
                          first
                          | exact ih63 _ (by omega) (y + 1) _ _ _ _ _ _ P (by show P = bfsP f _ y (bfsY f _ Q y); rw [← eP, eB]) (by omega) gP hle hP60 (by omega) eM hpk hq4 hf4 rfl
                          | exact ih63 _ (by omega) (y + 1) _ _ _ _ _ _ (P ++ [nx]) (by show _ = bfsP f _ y (bfsY f _ Q y); rw [← eP, eB]) (by omega) hgs (by rw [List.length_append]; omega) (by rw [List.length_append, List.length_singleton]; omega) (by omega) (by rw [List.length_append, List.length_singleton]; omega) (by rw [mup_ne (by omega)]; exact hpk) (fun i z => by
                              rw [List.length_append, List.length_singleton] at z
                              by_cases q : i = P.length
                              · subst q; rw [mup_eq, gD_r]; exact evn
                              · rw [mup_ne (by omega), gD_l (by omega)]; exact hq4 i (by omega)) (fun c k h => by rw [mup_ne (Or.inl h)]; exact hf4 c k h) rfl
                      · refine go_iload (j := 7) (q := 135) rfl dL_group_133 rfl ?_
                        refine go_if_ne2 (q := 138) (t := 147) dL_group_135 (by decide) rfl (by rcases ho with ho | ho <;> omega) (fun c135 => ?_) (fun c135 => ?_)
                        · have hso : nx ∈ P := ho.elim (fun z => z.2) (fun z => absurd z.1 c135)
                          refine go_iconst (q := 148) dL_group_147 rfl ?_
                          refine go_goto (q := 152) dL_group_148 (by decide) ?_
                          refine go_istore (j := 7) (q := 154) (ls2 := [_, _, _, _, _, _, _, _, _]) (by decide) rfl rfl dL_group_152 rfl ?_
                          refine go_iinc (j := 8) (q := 157) (ls2 := [_, _, _, _, _, _, _, _, _]) rfl (by decide) rfl rfl dL_group_154 rfl ?_
                          refine go_goto (q := 127) dL_group_157 (by decide) ?_
                          first
                          | exact ih127 _ (by omega) (i + 1) _ _ (by omega) (by omega) (Or.inl ⟨rfl, hso⟩) rfl
                          | exact ih127 _ (by omega) (i + 1) _ _ (by omega) (by omega) (Or.inr ⟨rfl, hsn⟩) rfl
                        · have hmi := gD_mem (Q := P) (i := i) (by omega)
                          have hpi := gP.2 _ hmi
                          have hi18 := cd_18 (k := n) hn.2 (perm_8 hn.2 hpi)
                          have hqi := hq4 i (by omega)
                          unfold cdL at hqi evn
                          refine go_aload_n (j := 2) (q := 139) rfl rfl dL_group_138 rfl ?_
                          refine go_iload (j := 8) (q := 141) rfl dL_group_139 rfl ?_
                          refine go_iald (j := i) (q := 142) (by first | assumption | rfl) (wr_eq (by omega)) (by omega) dL_group_141 rfl ?_
                          rw [hqi]
                          refine go_iload (j := 6) (q := 144) rfl dL_group_142 rfl ?_
                          refine go_icmp_ne2 (q := 147) (t := 151) dL_group_144 (by decide) rfl (by omega) (fun c144 => ?_) (fun c144 => ?_)
                          · have hsn : ∀ j, j < i + 1 → P.getD j [] ≠ nx := by
                              rcases ho with ho | ho
                              · exact absurd ho.1 (by omega)
                              · intro j hj
                                by_cases q : j = i
                                · rw [q]; intro z2; apply c144; rw [z2]; exact evn.symm
                                · exact ho.2 j (by omega)
                            refine go_iconst (q := 152) dL_group_151 rfl ?_
                            refine go_istore (j := 7) (q := 154) (ls2 := [_, _, _, _, _, _, _, _, _]) (by decide) rfl rfl dL_group_152 rfl ?_
                            refine go_iinc (j := 8) (q := 157) (ls2 := [_, _, _, _, _, _, _, _, _]) rfl (by decide) rfl rfl dL_group_154 rfl ?_
                            refine go_goto (q := 127) dL_group_157 (by decide) ?_
                            first
                            | exact ih127 _ (by omega) (i + 1) _ _ (by omega) (by omega) (Or.inl ⟨rfl, hso⟩) rfl
                            | exact ih127 _ (by omega) (i + 1) _ _ (by omega) (by omega) (Or.inr ⟨rfl, hsn⟩) rfl
                          · have hso : nx ∈ P := by
                              have e0 : cdL n nx = cdL n (P.getD i []) := by unfold cdL; omega
                              have e1 := cdL_inj hn.2 hnp hpi e0
                              rw [e1]; exact hmi
                            refine go_iconst (q := 148) dL_group_147 rfl ?_
                            refine go_goto (q := 152) dL_group_148 (by decide) ?_
                            refine go_istore (j := 7) (q := 154) (ls2 := [_, _, _, _, _, _, _, _, _]) (by decide) rfl rfl dL_group_152 rfl ?_
                            refine go_iinc (j := 8) (q := 157) (ls2 := [_, _, _, _, _, _, _, _, _]) rfl (by decide) rfl rfl dL_group_154 rfl ?_
                            refine go_goto (q := 127) dL_group_157 (by decide) ?_
                            first
                            | exact ih127 _ (by omega) (i + 1) _ _ (by omega) (by omega) (Or.inl ⟨rfl, hso⟩) rfl
                            | exact ih127 _ (by omega) (i + 1) _ _ (by omega) (by omega) (Or.inr ⟨rfl, hsn⟩) rfl
                    exact lp127 _ 0 _ _ rfl (by omega) (Or.inr ⟨rfl, fun j h => absurd h (Nat.not_lt_zero j)⟩) rfl
                  · have hix := ix_lt hpp (show x < n by omega)
                    have hd := hT.2.2 (ix (Q.getD k []) x) y hix (by omega)
                    have hd1 : w4 46 (6 * ix (Q.getD k []) x + y) = (f (ix (Q.getD k []) x) y : Int) := by rw [hf4 _ _ (by omega)]; exact hd.1
                    have hcd := cd_18 (c := fun i => f (ix (Q.getD k []) i) y) (k := x) (by omega) (fun i hi => by have := hr _ y (ix_lt hpp (show i < n by omega)) (by omega); omega)
                    have hcv := cdv_18 (v := f (ix (Q.getD k []) x) y) (x := x) (by omega) (by omega)
                    have e98 : shrZ ((cd (ix (Q.getD k [])) n : Nat) : Int) (3 * xi) = ((cd (ix (Q.getD k [])) n / 2 ^ (3 * x) : Nat) : Int) := by rw [ex, show (3 : Int) * (x : Int) = ((3 * x : Nat) : Int) by omega, shrN (by omega) (by omega)]
                    have e101 : andZ (shrZ ((cd (ix (Q.getD k [])) n : Nat) : Int) (3 * xi)) 7 = (ix (Q.getD k []) x : Int) := by
                      rw [e98, and7N (Nat.lt_of_le_of_lt (Nat.div_le_self _ _) (by omega)), cd_dig n hp8 x (by omega)]
                    have e111 : shlZ (f (ix (Q.getD k []) x) y : Int) (3 * xi) = ((f (ix (Q.getD k []) x) y * 2 ^ (3 * x) : Nat) : Int) := by rw [ex, show (3 : Int) * (x : Int) = ((3 * x : Nat) : Int) by omega, shlN (by omega) (by omega)]
                    refine go_iload (j := 6) (q := 87) rfl dL_group_85 rfl ?_
                    refine go_aload_n (j := 1) (q := 88) rfl rfl dL_group_87 rfl ?_
                    refine go_bipush (q := 90) rfl dL_group_88 rfl ?_
                    refine go_aload_n (j := 2) (q := 91) rfl rfl dL_group_90 rfl ?_
                    refine go_iload (j := 4) (q := 93) rfl dL_group_91 rfl ?_
                    refine go_iald (j := k) (q := 94) (by first | assumption | rfl) (wr_eq (by omega)) (by omega) dL_group_93 rfl ?_
                    rw [hpk]
                    refine go_iconst (q := 95) dL_group_94 rfl ?_
                    refine go_iload (j := 7) (q := 97) rfl dL_group_95 rfl ?_
                    refine go_imul (q := 98) dL_group_97 rfl ?_
                    refine go_ishr (q := 99) dL_group_98 rfl ?_
                    refine go_bipush (q := 101) rfl dL_group_99 rfl ?_
                    refine go_iand (q := 102) dL_group_101 rfl ?_
                    rw [e101]
                    refine go_imul (q := 103) dL_group_102 rfl ?_
                    refine go_iload (j := 5) (q := 105) rfl dL_group_103 rfl ?_
                    refine go_iadd (q := 106) dL_group_105 rfl ?_
                    refine go_iald (j := 6 * ix (Q.getD k []) x + y) (q := 107) (by first | assumption | rfl) (wr_eq (by omega)) (by omega) dL_group_106 rfl ?_
                    rw [hd1]
                    refine go_iconst (q := 108) dL_group_107 rfl ?_
                    refine go_iload (j := 7) (q := 110) rfl dL_group_108 rfl ?_
                    refine go_imul (q := 111) dL_group_110 rfl ?_
                    refine go_ishl (q := 112) dL_group_111 rfl ?_
                    rw [e111, ev]
                    refine go_ior (q := 113) dL_group_112 rfl ?_
                    rw [orN (by omega) (by omega)]
                    refine go_istore (j := 6) (q := 115) (ls2 := [_, _, _, _, _, _, _, _, _]) (by decide) rfl rfl dL_group_113 rfl ?_
                    refine go_iinc (j := 7) (q := 118) (ls2 := [_, _, _, _, _, _, _, _, _]) rfl (by decide) rfl rfl dL_group_115 rfl ?_
                    refine go_goto (q := 77) dL_group_118 (by decide) ?_
                    exact ih77 _ (by omega) (x + 1) _ _ _ (by omega) (by omega) rfl rfl
                exact lp77 _ 0 _ _ _ rfl (by omega) rfl rfl
            exact lp63 _ 0 _ _ _ _ _ _ Q rfl (by omega) gQ (Nat.le_refl _) hQ60 rfl eN (hq k (by omega)) hq hf3 rfl
        exact lp54 _ 0 _ _ _ _ _ _ _ [idL n] rfl (by simp) (by simp) (goodQ_0 hn.2) rfl rfl (fun i h => by
          rw [List.length_singleton] at h
          rw [show i = 0 by omega, h0, show x = n by omega]
          show ((cd (fun i => i) n : Nat) : Int) = ((cd (ix (idL n)) n : Nat) : Int)
          rw [cd_congr n (c2 := ix (idL n)) (fun i hi => (idL_ix ⟨n, by omega⟩ ⟨i, by omega⟩ hi).symm)]) hf2 rfl
      · have hcd := cd_18 (c := fun i => i) (k := x) (by omega) (fun i hi => by omega)
        have hcv := cdv_18 (v := x) (x := x) (by omega) (by omega)
        have e42 : shlZ xi (3 * xi) = ((x * 2 ^ (3 * x) : Nat) : Int) := by rw [ex, show (3 : Int) * (x : Int) = ((3 * x : Nat) : Int) by omega, shlN (by omega) (by omega)]
        refine go_aload_n (j := 2) (q := 33) rfl rfl dL_group_32 rfl ?_
        refine go_iconst (q := 34) dL_group_33 rfl ?_
        refine go_dup2 (q := 35) (fun _ z => by cases z) (fun _ z => by cases z) dL_group_34 rfl ?_
        refine go_iald (j := 0) (q := 36) (by first | assumption | rfl) (wr_eq (by omega)) (by omega) dL_group_35 rfl ?_
        refine go_iload (j := 4) (q := 38) rfl dL_group_36 rfl ?_
        refine go_iconst (q := 39) dL_group_38 rfl ?_
        refine go_iload (j := 4) (q := 41) rfl dL_group_39 rfl ?_
        refine go_imul (q := 42) dL_group_41 rfl ?_
        refine go_ishl (q := 43) dL_group_42 rfl ?_
        rw [e42, h0]
        refine go_ior (q := 44) dL_group_43 rfl ?_
        rw [orN (by omega) (by omega)]
        refine go_iast (j := 0) (q := 45) (by first | assumption | rfl) (wr_eq (by omega)) (by omega) dL_group_44 rfl ?_
        refine go_iinc (j := 4) (q := 48) (ls2 := [_, _, _, _, _, _, _, _, _]) rfl (by decide) rfl rfl dL_group_45 rfl ?_
        refine go_goto (q := 24) dL_group_48 (by decide) ?_
        exact ih24 _ (by omega) (x + 1) _ _ _ _ _ _ (by omega) (by omega) (by rw [mup_eq]; rfl) (fun c k h => by rw [mup_ne (Or.inl h)]; exact hf2 c k h) rfl
    exact lp24 _ 0 _ _ _ _ _ _ rfl (by omega) mz_eq (fun c k h => mz_ne h) rfl
  · refine go_bipush (q := 13) rfl dL_group_11 rfl ?_
    refine go_iret dL_group_13 ?_
    subst hK
    refine ⟨_, rfl, Or.inl ⟨?_, rfl⟩, fun c k _ => rfl⟩
    rcases h3 with ⟨z, z1, z2, z3, z4⟩ | ⟨z1, z2⟩
    · exact fun q => z3 (q z z1)
    · omega
end LAW4
