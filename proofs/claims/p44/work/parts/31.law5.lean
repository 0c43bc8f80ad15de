/-! the next permutation, by exchanging from behind -/
def di (c : Nat → Nat) : Nat → Nat
  | 0 => 0
  | k + 1 => if c (k + 1) < c k then di c k else k + 1
def dj (c : Nat → Nat) (v : Nat) : Nat → Nat
  | 0 => 0
  | j + 1 => if c (j + 1) < v then dj c v j else j + 1
def swq (c : Nat → Nat) (i j : Nat) : Nat → Nat := fun x => if x = i then c j else if x = j then c i else c x
def nxS (n : Nat) (c : Nat → Nat) (i j : Nat) (x : Nat) : Nat := if x ≤ i then swq c i j x else swq c i j (n + i - x)
def nxP (n : Nat) (c : Nat → Nat) (x : Nat) : Nat := nxS n c (di c (n - 1) - 1) (dj c (c (di c (n - 1) - 1)) (n - 1)) x
def chk5 (n r : Nat) : Bool := if di (ix (unr n r)) (n - 1) = 0 then decide (r + 1 = fcN n) else (decide (r + 1 < fcN n) && (List.range n).all (fun x => decide (nxP n (ix (unr n r)) x = ix (unr n (r + 1)) x)))
theorem p5_b : ∀ n : Fin 7, ∀ r : Fin 720, 1 ≤ (n : Nat) → (r : Nat) < fcN n → chk5 n r = true := by decide +kernel
theorem p5 {n r : Nat} (hn : 1 ≤ n ∧ n ≤ 6) (hr : r < fcN n) : chk5 n r = true := by
  have h7 := fcN_le ⟨n, by omega⟩
  simp only at h7
  exact p5_b ⟨n, by omega⟩ ⟨r, by omega⟩ hn.1 hr
theorem nx_last {n r : Nat} (hn : 1 ≤ n ∧ n ≤ 6) (hr : r < fcN n) (h : di (ix (unr n r)) (n - 1) = 0) : r + 1 = fcN n := by
  have := p5 hn hr
  unfold chk5 at this
  rw [if_pos h] at this
  simpa using this
theorem nx_next {n r : Nat} (hn : 1 ≤ n ∧ n ≤ 6) (hr : r < fcN n) (h : di (ix (unr n r)) (n - 1) ≠ 0) : r + 1 < fcN n ∧ ∀ x, x < n → nxP n (ix (unr n r)) x = ix (unr n (r + 1)) x := by
  have := p5 hn hr
  unfold chk5 at this
  rw [if_neg h, Bool.and_eq_true, List.all_eq_true] at this
  refine ⟨by simpa using this.1, fun x hx => ?_⟩
  have h2 := this.2 x (List.mem_range.mpr hx)
  simpa using h2
theorem dm {n k : Nat} (hn : 1 ≤ n) (hk : k < n * n) : k / n < n ∧ k % n < n := ⟨Nat.div_lt_of_lt_mul hk, Nat.mod_lt _ (by omega)⟩
theorem md {n x y : Nat} (hy : y < n) : (x * n + y) / n = x ∧ (x * n + y) % n = y := by
  refine ⟨?_, ?_⟩
  · rw [Nat.mul_comm, Nat.mul_add_div (by omega), Nat.div_eq_of_lt hy]; rfl
  · rw [Nat.mul_comm, Nat.mul_add_mod, Nat.mod_eq_of_lt hy]
theorem mdl {n x y : Nat} (hx : x < n) (hy : y < n) : x * n + y < n * n := by
  have : (x + 1) * n ≤ n * n := Nat.mul_le_mul_right n hx
  rw [Nat.succ_mul] at this; omega
section LAW5
variable {l : Launch} {D : va_G} {ck : Nat → ClassId} {ad : Nat → Nat} {sh : List Shp} {w : Mem} {n : Nat} {f : Nat → Nat → Nat}
theorem el_auts (hT : TB w 45 n f) : eL_automorphisms l D ck ad shA [vR 45, vR 46] w (Pi fun v w1 => v = (autN n f : Int) ∧ ∀ c k, c < 48 → w1 c k = w c k) := by
  have g0 : w 45 0 = (n : Int) := hT.1
  have hn := hT.2.1
  obtain ⟨c1, c2, c3, c4⟩ := cubZ hn
  have hr0 : ∀ i j, i < n → j < n → f i j < n := fun i j hi hj => (hT.2.2 i j hi hj).2
  have hfp : 1 ≤ fcN n := by
    rcases (show n = 1 ∨ n = 2 ∨ n = 3 ∨ n = 4 ∨ n = 5 ∨ n = 6 by omega) with rfl | rfl | rfl | rfl | rfl | rfl <;> decide
  have hfl := fcN_le ⟨n, by omega⟩
  simp only at hfl
  refine ev_of_goBK (B := 1) ⟨Nat.le_of_ble_eq_true rfl, Nat.le_of_ble_eq_true rfl⟩ (own := RL) (ls := [some (vR 45), some (vR 46), none, none, none, none, none, none, none, none]) (by decide +kernel) rfl rfl (Nat.le_of_ble_eq_true rfl) rkI ?_
  intro K hK
  refine go_aload_n (j := 0) (q := 1) rfl rfl dL_automorphisms_0 rfl ?_
  refine go_iconst (q := 2) dL_automorphisms_1 rfl ?_
  refine go_iald (j := 0) (q := 3) (by first | assumption | rfl) (wr_eq (by omega)) (by omega) dL_automorphisms_2 rfl ?_
  rw [g0]
  refine go_istore_n (j := 2) (q := 4) (ls2 := [_, _, _, _, _, _, _, _, _, _]) rfl (by decide) rfl rfl dL_automorphisms_3 rfl ?_
  refine go_bipush (q := 6) rfl dL_automorphisms_4 rfl ?_
  refine go_newa (n := 48) (N := 6) (q := 8) shA_len (by decide) ⟨by decide +kernel, by decide⟩ rfl rfl shA_ne dL_automorphisms_6 rfl (fun x6 => ?_)
  have hs48 : (shA ++ [rInt 6])[48]? = some (rInt 6) := rfl
  have hs45 : (shA ++ [rInt 6])[45]? = some (rInt 3) := rfl
  have hs46 : (shA ++ [rInt 6])[46]? = some (rInt 36) := rfl
  refine go_astore_n (j := 3) (q := 9) (ls2 := [_, _, _, _, _, _, _, _, _, _]) rfl (by decide) rfl rfl dL_automorphisms_8 rfl ?_
  refine go_iconst (q := 10) dL_automorphisms_9 rfl ?_
  refine go_istore (j := 4) (q := 12) (ls2 := [_, _, _, _, _, _, _, _, _, _]) (by decide) rfl rfl dL_automorphisms_10 rfl ?_
  refine go_iconst (q := 13) dL_automorphisms_12 rfl ?_
  refine go_istore (j := 5) (q := 15) (ls2 := [_, _, _, _, _, _, _, _, _, _]) (by decide) rfl rfl dL_automorphisms_13 rfl ?_
  have lp15 : ∀ (m15 : Nat) (x : Nat) (xi : Int) (b c d e : Option MV) (w2 : Mem) (ex : xi = x) (hx : x ≤ 6) (h2 : ∀ j, j < x → w2 48 j = (j : Int)) (hf2 : ∀ c k, c ≠ 48 → w2 c k = w c k), m15 = 6 - x → gL_automorphisms l D ck (adx ad 48 x6) (shA ++ [rInt 6]) 0 (VW D ck ad shA) 15 [some (vR 45), some (vR 46), (some (vI ((n : Nat) : Int))), some (vR 48), some (vI 0), some (vI xi), b, c, d, e] [] w2 K := by
    intro m15
    induction m15 using Nat.strongRecOn with
    | _ m15 ih15 =>
    intro x xi b c d e w2 ex hx h2 hf2 em15
    refine go_iload (j := 5) (q := 17) rfl dL_automorphisms_15 rfl ?_
    refine go_bipush (q := 19) rfl dL_automorphisms_17 rfl ?_
    refine go_icmp_ge2 (q := 22) (t := 34) dL_automorphisms_19 (by decide) rfl (by omega) (fun c19 => ?_) (fun c19 => ?_)
    · have lp34 : ∀ (m34 : Nat) (r : Nat) (mi : Int) (a b c d e : Option MV) (w3 : Mem) (hr : r < fcN n) (em : mi = (cN (fun r => keepsB n f (unr n r)) r : Nat)) (hp : ∀ i, i < n → w3 48 i = (ix (unr n r) i : Int)) (hf3 : ∀ c k, c ≠ 48 → w3 c k = w c k), m34 = fcN n - r → gL_automorphisms l D ck (adx ad 48 x6) (shA ++ [rInt 6]) 0 (VW D ck ad shA) 34 [some (vR 45), some (vR 46), (some (vI ((n : Nat) : Int))), some (vR 48), some (vI mi), a, b, c, d, e] [] w3 K := by
        intro m34
        induction m34 using Nat.strongRecOn with
        | _ m34 ih34 =>
        intro r mi a b c d e w3 hr em hp hf3 em34
        have hpl := (p1 (n := n) hn.2 hr).1
        have hcn := cN_le (fun r => keepsB n f (unr n r)) r
        refine go_iconst (q := 35) dL_automorphisms_34 rfl ?_
        refine go_istore (j := 5) (q := 37) (ls2 := [_, _, _, _, _, _, _, _, _, _]) (by decide) rfl rfl dL_automorphisms_35 rfl ?_
        refine go_iconst (q := 38) dL_automorphisms_37 rfl ?_
        refine go_istore (j := 6) (q := 40) (ls2 := [_, _, _, _, _, _, _, _, _, _]) (by decide) rfl rfl dL_automorphisms_38 rfl ?_
        have lp40 : ∀ (m40 : Nat) (k : Nat) (si ki : Int) (c d e : Option MV) (ek : ki = k) (hk : k ≤ n * n) (hs : (si = 1 ∧ ∀ j, j < k → ix (unr n r) (f (j / n) (j % n)) = f (ix (unr n r) (j / n)) (ix (unr n r) (j % n))) ∨ (si = 0 ∧ ¬ keepsL n f (unr n r))), m40 = n * n - k → gL_automorphisms l D ck (adx ad 48 x6) (shA ++ [rInt 6]) 0 (VW D ck ad shA) 40 [some (vR 45), some (vR 46), (some (vI ((n : Nat) : Int))), some (vR 48), some (vI mi), some (vI si), some (vI ki), c, d, e] [] w3 K := by
          intro m40
          induction m40 using Nat.strongRecOn with
          | _ m40 ih40 =>
          intro k si ki c d e ek hk hs em40
          refine go_iload (j := 6) (q := 42) rfl dL_automorphisms_40 rfl ?_
          refine go_iload_n (j := 2) (q := 43) rfl rfl dL_automorphisms_42 rfl ?_
          refine go_iload_n (j := 2) (q := 44) rfl rfl dL_automorphisms_43 rfl ?_
          refine go_imul (q := 45) dL_automorphisms_44 rfl ?_
          rw [c1]
          refine go_icmp_ge2 (q := 48) (t := 103) dL_automorphisms_45 (by decide) rfl (by omega) (fun c45 => ?_) (fun c45 => ?_)
          · refine go_iload (j := 4) (q := 105) rfl dL_automorphisms_103 rfl ?_
            refine go_iload (j := 5) (q := 107) rfl dL_automorphisms_105 rfl ?_
            refine go_if_eq2 (q := 110) (t := 114) dL_automorphisms_107 (by decide) rfl (by rcases hs with hs | hs <;> omega) (fun c107 => ?_) (fun c107 => ?_)
            · have ek1 : mi + 0 = (cN (fun r => keepsB n f (unr n r)) (r + 1) : Nat) := by
                have hkl : ¬ keepsB n f (unr n r) = true := by
                  rcases hs with hs | hs
                  · omega
                  · exact fun q => hs.2 (keepsB_iff.mp q)
                simp only [cN, if_neg hkl]; omega
              refine go_iconst (q := 115) dL_automorphisms_114 rfl ?_
              refine go_iadd (q := 116) dL_automorphisms_115 rfl ?_
              refine go_istore (j := 4) (q := 118) (ls2 := [_, _, _, _, _, _, _, _, _, _]) (by decide) rfl rfl dL_automorphisms_116 rfl ?_
              refine go_iload_n (j := 2) (q := 119) rfl rfl dL_automorphisms_118 rfl ?_
              refine go_iconst (q := 120) dL_automorphisms_119 rfl ?_
              refine go_isub (q := 121) dL_automorphisms_120 rfl ?_
              refine go_istore (j := 6) (q := 123) (ls2 := [_, _, _, _, _, _, _, _, _, _]) (by decide) rfl rfl dL_automorphisms_121 rfl ?_
              have lp123 : ∀ (m123 : Nat) (u : Nat) (mv si ii : Int) (c d e : Option MV) (emv : mv = (cN (fun r => keepsB n f (unr n r)) (r + 1) : Nat)) (ei : ii = (u : Int) - 1) (hu : u ≤ n - 1) (hdi : di (ix (unr n r)) u = di (ix (unr n r)) (n - 1)), m123 = u → gL_automorphisms l D ck (adx ad 48 x6) (shA ++ [rInt 6]) 0 (VW D ck ad shA) 123 [some (vR 45), some (vR 46), (some (vI ((n : Nat) : Int))), some (vR 48), some (vI mv), some (vI si), some (vI ii), c, d, e] [] w3 K := by
                intro m123
                induction m123 using Nat.strongRecOn with
                | _ m123 ih123 =>
                intro u mv si ii c d e emv ei hu hdi em123
                refine go_iload (j := 6) (q := 125) rfl dL_automorphisms_123 rfl ?_
                refine go_if_lt2 (q := 128) (t := 147) dL_automorphisms_125 (by decide) rfl (by omega) (fun c125 => ?_) (fun c125 => ?_)
                · refine go_iload (j := 6) (q := 149) rfl dL_automorphisms_147 rfl ?_
                  refine go_if_ge2 (q := 152) (t := 155) dL_automorphisms_149 (by decide) rfl (by omega) (fun c149 => absurd c149 (by omega)) (fun c149 => ?_)
                  refine go_iload (j := 4) (q := 154) rfl dL_automorphisms_152 rfl ?_
                  refine go_iret dL_automorphisms_154 ?_
                  subst hK
                  have hu0 : u = 0 := by omega
                  rw [hu0] at hdi
                  have hl := nx_last hn hr hdi.symm
                  exact ⟨_, rfl, by rw [emv, hl]; rfl, fun c k h => hf3 c k (by omega)⟩
                · have j1 := ix_lt hpl (show u - 1 < n by omega)
                  have j2 := ix_lt hpl (show u < n by omega)
                  refine go_aload_n (j := 3) (q := 129) rfl rfl dL_automorphisms_128 rfl ?_
                  refine go_iload (j := 6) (q := 131) rfl dL_automorphisms_129 rfl ?_
                  refine go_iald (j := u - 1) (q := 132) (by first | assumption | rfl) (wr_eq (by omega)) (by omega) dL_automorphisms_131 rfl ?_
                  rw [hp (u - 1) (by omega)]
                  refine go_aload_n (j := 3) (q := 133) rfl rfl dL_automorphisms_132 rfl ?_
                  refine go_iload (j := 6) (q := 135) rfl dL_automorphisms_133 rfl ?_
                  refine go_iconst (q := 136) dL_automorphisms_135 rfl ?_
                  refine go_iadd (q := 137) dL_automorphisms_136 rfl ?_
                  refine go_iald (j := u) (q := 138) (by first | assumption | rfl) (wr_eq (by omega)) (by omega) dL_automorphisms_137 rfl ?_
                  rw [hp u (by omega)]
                  refine go_icmp_le2 (q := 141) (t := 147) dL_automorphisms_138 (by decide) rfl (by omega) (fun c138 => ?_) (fun c138 => ?_)
                  · refine go_iload (j := 6) (q := 149) rfl dL_automorphisms_147 rfl ?_
                    refine go_if_ge2 (q := 152) (t := 155) dL_automorphisms_149 (by decide) rfl (by omega) (fun c149 => ?_) (fun c149 => ?_)
                    · have hdu : di (ix (unr n r)) (n - 1) = u := by
                        rw [← hdi]
                        obtain ⟨k2, rfl⟩ : ∃ k2, u = k2 + 1 := ⟨u - 1, by omega⟩
                        show (if ix (unr n r) (k2 + 1) < ix (unr n r) k2 then _ else k2 + 1) = k2 + 1
                        rw [show k2 + 1 - 1 = k2 from rfl] at c138
                        rw [if_neg (by omega)]
                      obtain ⟨hr1, hnx⟩ := nx_next hn hr (by omega)
                      refine go_iload_n (j := 2) (q := 156) rfl rfl dL_automorphisms_155 rfl ?_
                      refine go_iconst (q := 157) dL_automorphisms_156 rfl ?_
                      refine go_isub (q := 158) dL_automorphisms_157 rfl ?_
                      refine go_istore (j := 7) (q := 160) (ls2 := [_, _, _, _, _, _, _, _, _, _]) (by decide) rfl rfl dL_automorphisms_158 rfl ?_
                      have lp160 : ∀ (m160 : Nat) (j : Nat) (ji : Int) (d e : Option MV) (ej : ji = j) (hj : u ≤ j ∧ j ≤ n - 1) (hdj : dj (ix (unr n r)) (ix (unr n r) (u - 1)) j = dj (ix (unr n r)) (ix (unr n r) (u - 1)) (n - 1)), m160 = j → gL_automorphisms l D ck (adx ad 48 x6) (shA ++ [rInt 6]) 0 (VW D ck ad shA) 160 [some (vR 45), some (vR 46), (some (vI ((n : Nat) : Int))), some (vR 48), some (vI mv), some (vI si), some (vI ii), some (vI ji), d, e] [] w3 K := by
                        intro m160
                        induction m160 using Nat.strongRecOn with
                        | _ m160 ih160 =>
                        intro j ji d e ej hj hdj em160
                        have j3 := ix_lt hpl (show j < n by omega)
                        refine go_aload_n (j := 3) (q := 161) rfl rfl dL_automorphisms_160 rfl ?_
                        refine go_iload (j := 7) (q := 163) rfl dL_automorphisms_161 rfl ?_
                        refine go_iald (j := j) (q := 164) (by first | assumption | rfl) (wr_eq (by omega)) (by omega) dL_automorphisms_163 rfl ?_
                        rw [hp j (by omega)]
                        refine go_aload_n (j := 3) (q := 165) rfl rfl dL_automorphisms_164 rfl ?_
                        refine go_iload (j := 6) (q := 167) rfl dL_automorphisms_165 rfl ?_
                        refine go_iald (j := u - 1) (q := 168) (by first | assumption | rfl) (wr_eq (by omega)) (by omega) dL_automorphisms_167 rfl ?_
                        rw [hp (u - 1) (by omega)]
                        refine go_icmp_ge2 (q := 171) (t := 177) dL_automorphisms_168 (by decide) rfl (by omega) (fun c168 => ?_) (fun c168 => ?_)
                        · have hdv : dj (ix (unr n r)) (ix (unr n r) (u - 1)) (n - 1) = j := by
                            rw [← hdj]
                            obtain ⟨k2, rfl⟩ : ∃ k2, j = k2 + 1 := ⟨j - 1, by omega⟩
                            show (if ix (unr n r) (k2 + 1) < ix (unr n r) (u - 1) then _ else k2 + 1) = k2 + 1
                            rw [if_neg (by omega)]
                          have hnx2 : ∀ x, x < n → nxS n (ix (unr n r)) (u - 1) j x = ix (unr n (r + 1)) x := fun x hx => by
                            have := hnx x hx
                            unfold nxP at this
                            rw [hdu, hdv] at this; exact this
                          refine go_aload_n (j := 3) (q := 178) rfl rfl dL_automorphisms_177 rfl ?_
                          refine go_iload (j := 6) (q := 180) rfl dL_automorphisms_178 rfl ?_
                          refine go_iald (j := u - 1) (q := 181) (by first | assumption | rfl) (wr_eq (by omega)) (by omega) dL_automorphisms_180 rfl ?_
                          rw [hp (u - 1) (by omega)]
                          refine go_istore (j := 8) (q := 183) (ls2 := [_, _, _, _, _, _, _, _, _, _]) (by decide) rfl rfl dL_automorphisms_181 rfl ?_
                          refine go_aload_n (j := 3) (q := 184) rfl rfl dL_automorphisms_183 rfl ?_
                          refine go_iload (j := 6) (q := 186) rfl dL_automorphisms_184 rfl ?_
                          refine go_aload_n (j := 3) (q := 187) rfl rfl dL_automorphisms_186 rfl ?_
                          refine go_iload (j := 7) (q := 189) rfl dL_automorphisms_187 rfl ?_
                          refine go_iald (j := j) (q := 190) (by first | assumption | rfl) (wr_eq (by omega)) (by omega) dL_automorphisms_189 rfl ?_
                          rw [hp j (by omega)]
                          refine go_iast (j := u - 1) (q := 191) (by first | assumption | rfl) (wr_eq (by omega)) (by omega) dL_automorphisms_190 rfl ?_
                          refine go_aload_n (j := 3) (q := 192) rfl rfl dL_automorphisms_191 rfl ?_
                          refine go_iload (j := 7) (q := 194) rfl dL_automorphisms_192 rfl ?_
                          refine go_iload (j := 8) (q := 196) rfl dL_automorphisms_194 rfl ?_
                          refine go_iast (j := j) (q := 197) (by first | assumption | rfl) (wr_eq (by omega)) (by omega) dL_automorphisms_196 rfl ?_
                          refine go_iconst (q := 198) dL_automorphisms_197 rfl ?_
                          refine go_istore (j := 9) (q := 200) (ls2 := [_, _, _, _, _, _, _, _, _, _]) (by decide) rfl rfl dL_automorphisms_198 rfl ?_
                          have lp200 : ∀ (m200 : Nat) (k : Nat) (vi kk : Int) (w5 : Mem) (ekk : kk = k) (hk2 : 1 ≤ k ∧ k ≤ n) (hp5 : ∀ x, x < n → w5 48 x = ((if u ≤ x ∧ (x < u - 1 + k ∨ n - k < x) then swq (ix (unr n r)) (u - 1) j (n + (u - 1) - x) else swq (ix (unr n r)) (u - 1) j x : Nat) : Int)) (hf5 : ∀ c k, c ≠ 48 → w5 c k = w c k), m200 = n - k → gL_automorphisms l D ck (adx ad 48 x6) (shA ++ [rInt 6]) 0 (VW D ck ad shA) 200 [some (vR 45), some (vR 46), (some (vI ((n : Nat) : Int))), some (vR 48), some (vI mv), some (vI si), some (vI ii), some (vI ji), some (vI vi), some (vI kk)] [] w5 K := by
                            intro m200
                            induction m200 using Nat.strongRecOn with
                            | _ m200 ih200 =>
                            intro k vi kk w5 ekk hk2 hp5 hf5 em200
                            refine go_iload (j := 6) (q := 202) rfl dL_automorphisms_200 rfl ?_
                            refine go_iload (j := 9) (q := 204) rfl dL_automorphisms_202 rfl ?_
                            refine go_iadd (q := 205) dL_automorphisms_204 rfl ?_
                            refine go_iload_n (j := 2) (q := 206) rfl rfl dL_automorphisms_205 rfl ?_
                            refine go_iload (j := 9) (q := 208) rfl dL_automorphisms_206 rfl ?_
                            refine go_isub (q := 209) dL_automorphisms_208 rfl ?_
                            refine go_icmp_ge2 (q := 212) (t := 248) dL_automorphisms_209 (by decide) rfl (by omega) (fun c209 => ?_) (fun c209 => ?_)
                            · refine go_goto (q := 34) dL_automorphisms_248 (by decide) ?_
                              exact ih34 _ (by omega) (r + 1) _ _ _ _ _ _ _ hr1 emv (by
                                intro x hx
                                rw [hp5 x hx, ← hnx2 x hx]
                                unfold nxS
                                by_cases q : x ≤ u - 1
                                · rw [if_pos q, if_neg (by omega)]
                                · rw [if_neg q]
                                  by_cases q2 : u ≤ x ∧ (x < u - 1 + k ∨ n - k < x)
                                  · rw [if_pos q2]
                                  · rw [if_neg q2, show n + (u - 1) - x = x by omega]) hf5 rfl
                            · have a1 := hp5 (u - 1 + k) (by omega)
                              rw [if_neg (by omega)] at a1
                              have a2 := hp5 (n - k) (by omega)
                              rw [if_neg (by omega)] at a2
                              refine go_aload_n (j := 3) (q := 213) rfl rfl dL_automorphisms_212 rfl ?_
                              refine go_iload (j := 6) (q := 215) rfl dL_automorphisms_213 rfl ?_
                              refine go_iload (j := 9) (q := 217) rfl dL_automorphisms_215 rfl ?_
                              refine go_iadd (q := 218) dL_automorphisms_217 rfl ?_
                              refine go_iald (j := u - 1 + k) (q := 219) (by first | assumption | rfl) (wr_eq (by omega)) (by omega) dL_automorphisms_218 rfl ?_
                              rw [a1]
                              refine go_istore (j := 8) (q := 221) (ls2 := [_, _, _, _, _, _, _, _, _, _]) (by decide) rfl rfl dL_automorphisms_219 rfl ?_
                              refine go_aload_n (j := 3) (q := 222) rfl rfl dL_automorphisms_221 rfl ?_
                              refine go_iload (j := 6) (q := 224) rfl dL_automorphisms_222 rfl ?_
                              refine go_iload (j := 9) (q := 226) rfl dL_automorphisms_224 rfl ?_
                              refine go_iadd (q := 227) dL_automorphisms_226 rfl ?_
                              refine go_aload_n (j := 3) (q := 228) rfl rfl dL_automorphisms_227 rfl ?_
                              refine go_iload_n (j := 2) (q := 229) rfl rfl dL_automorphisms_228 rfl ?_
                              refine go_iload (j := 9) (q := 231) rfl dL_automorphisms_229 rfl ?_
                              refine go_isub (q := 232) dL_automorphisms_231 rfl ?_
                              refine go_iald (j := n - k) (q := 233) (by first | assumption | rfl) (wr_eq (by omega)) (by omega) dL_automorphisms_232 rfl ?_
                              rw [a2]
                              refine go_iast (j := u - 1 + k) (q := 234) (by first | assumption | rfl) (wr_eq (by omega)) (by omega) dL_automorphisms_233 rfl ?_
                              refine go_aload_n (j := 3) (q := 235) rfl rfl dL_automorphisms_234 rfl ?_
                              refine go_iload_n (j := 2) (q := 236) rfl rfl dL_automorphisms_235 rfl ?_
                              refine go_iload (j := 9) (q := 238) rfl dL_automorphisms_236 rfl ?_
                              refine go_isub (q := 239) dL_automorphisms_238 rfl ?_
                              refine go_iload (j := 8) (q := 241) rfl dL_automorphisms_239 rfl ?_
                              refine go_iast (j := n - k) (q := 242) (by first | assumption | rfl) (wr_eq (by omega)) (by omega) dL_automorphisms_241 rfl ?_
                              refine go_iinc (j := 9) (q := 245) (ls2 := [_, _, _, _, _, _, _, _, _, _]) rfl (by decide) rfl rfl dL_automorphisms_242 rfl ?_
                              refine go_goto (q := 200) dL_automorphisms_245 (by decide) ?_
                              exact ih200 _ (by omega) (k + 1) _ _ _ (by omega) (by omega) (by
                                intro x hx
                                by_cases q1 : x = n - k
                                · rw [q1, mup_eq, if_pos (by omega), show n + (u - 1) - (n - k) = u - 1 + k by omega]
                                · rw [mup_ne (by omega)]
                                  by_cases q2 : x = u - 1 + k
                                  · rw [q2, mup_eq, if_pos (by omega), show n + (u - 1) - (u - 1 + k) = n - k by omega]
                                  · rw [mup_ne (by omega), hp5 x hx]
                                    by_cases q3 : u ≤ x ∧ (x < u - 1 + k ∨ n - k < x)
                                    · rw [if_pos q3, if_pos (by omega)]
                                    · rw [if_neg q3, if_neg (by omega)]) (fun c k h => by rw [mup_ne (Or.inl h), mup_ne (Or.inl h)]; exact hf5 c k h) rfl
                          exact lp200 _ 1 _ _ _ rfl (by omega) (by
                            intro x hx
                            rw [if_neg (by omega)]
                            unfold swq
                            by_cases q2 : x = j
                            · rw [q2, mup_eq, if_neg (by omega), if_pos rfl]
                            · rw [mup_ne (by omega)]
                              by_cases q1 : x = u - 1
                              · rw [q1, mup_eq, if_pos rfl]
                              · rw [mup_ne (by omega), if_neg q1, if_neg q2]; exact hp x hx) (fun c k h => by rw [mup_ne (Or.inl h), mup_ne (Or.inl h)]; exact hf3 c k h) rfl
                        · refine go_iinc (j := 7) (q := 174) (ls2 := [_, _, _, _, _, _, _, _, _, _]) rfl (by decide) rfl rfl dL_automorphisms_171 rfl ?_
                          refine go_goto (q := 160) dL_automorphisms_174 (by decide) ?_
                          exact ih160 _ (by omega) (j - 1) _ _ _ (by omega) (by
                            have : j ≠ u := fun q => by rw [q] at c168; omega
                            omega) (by
                            rw [← hdj]
                            obtain ⟨k2, rfl⟩ : ∃ k2, j = k2 + 1 := ⟨j - 1, by omega⟩
                            show dj _ _ k2 = (if ix (unr n r) (k2 + 1) < ix (unr n r) (u - 1) then _ else _)
                            rw [if_pos (by omega)]) rfl
                      exact lp160 _ (n - 1) _ _ _ (by omega) (by omega) rfl rfl
                    · exact absurd c149 (by omega)
                  · refine go_iinc (j := 6) (q := 144) (ls2 := [_, _, _, _, _, _, _, _, _, _]) rfl (by decide) rfl rfl dL_automorphisms_141 rfl ?_
                    refine go_goto (q := 123) dL_automorphisms_144 (by decide) ?_
                    exact ih123 _ (by omega) (u - 1) _ _ _ _ _ _ emv (by omega) (by omega) (by
                      rw [← hdi]
                      obtain ⟨k2, rfl⟩ : ∃ k2, u = k2 + 1 := ⟨u - 1, by omega⟩
                      show di _ k2 = (if ix (unr n r) (k2 + 1) < ix (unr n r) k2 then _ else _)
                      rw [show k2 + 1 - 1 = k2 from rfl] at c138
                      rw [if_pos (by omega)]) rfl
              exact lp123 _ (n - 1) _ _ _ _ _ _ ek1 (by omega) (by omega) rfl rfl
            · have ek1 : mi + 1 = (cN (fun r => keepsB n f (unr n r)) (r + 1) : Nat) := by
                have hkl : keepsB n f (unr n r) = true := by
                  rcases hs with hs | hs
                  · refine keepsB_iff.mpr (fun x y hx hy => ?_)
                    have h1 := hs.2 (x * n + y) (by have := mdl hx hy; omega)
                    rw [(md hy).1, (md hy).2] at h1; exact h1
                  · exact absurd hs.1 c107
                simp only [cN, if_pos hkl]; omega
              refine go_iconst (q := 111) dL_automorphisms_110 rfl ?_
              refine go_goto (q := 115) dL_automorphisms_111 (by decide) ?_
              refine go_iadd (q := 116) dL_automorphisms_115 rfl ?_
              refine go_istore (j := 4) (q := 118) (ls2 := [_, _, _, _, _, _, _, _, _, _]) (by decide) rfl rfl dL_automorphisms_116 rfl ?_
              refine go_iload_n (j := 2) (q := 119) rfl rfl dL_automorphisms_118 rfl ?_
              refine go_iconst (q := 120) dL_automorphisms_119 rfl ?_
              refine go_isub (q := 121) dL_automorphisms_120 rfl ?_
              refine go_istore (j := 6) (q := 123) (ls2 := [_, _, _, _, _, _, _, _, _, _]) (by decide) rfl rfl dL_automorphisms_121 rfl ?_
              have lp123 : ∀ (m123 : Nat) (u : Nat) (mv si ii : Int) (c d e : Option MV) (emv : mv = (cN (fun r => keepsB n f (unr n r)) (r + 1) : Nat)) (ei : ii = (u : Int) - 1) (hu : u ≤ n - 1) (hdi : di (ix (unr n r)) u = di (ix (unr n r)) (n - 1)), m123 = u → gL_automorphisms l D ck (adx ad 48 x6) (shA ++ [rInt 6]) 0 (VW D ck ad shA) 123 [some (vR 45), some (vR 46), (some (vI ((n : Nat) : Int))), some (vR 48), some (vI mv), some (vI si), some (vI ii), c, d, e] [] w3 K := by
                intro m123
                induction m123 using Nat.strongRecOn with
                | _ m123 ih123 =>
                intro u mv si ii c d e emv ei hu hdi em123
                refine go_iload (j := 6) (q := 125) rfl dL_automorphisms_123 rfl ?_
                refine go_if_lt2 (q := 128) (t := 147) dL_automorphisms_125 (by decide) rfl (by omega) (fun c125 => ?_) (fun c125 => ?_)
                · refine go_iload (j := 6) (q := 149) rfl dL_automorphisms_147 rfl ?_
                  refine go_if_ge2 (q := 152) (t := 155) dL_automorphisms_149 (by decide) rfl (by omega) (fun c149 => absurd c149 (by omega)) (fun c149 => ?_)
                  refine go_iload (j := 4) (q := 154) rfl dL_automorphisms_152 rfl ?_
                  refine go_iret dL_automorphisms_154 ?_
                  subst hK
                  have hu0 : u = 0 := by omega
                  rw [hu0] at hdi
                  have hl := nx_last hn hr hdi.symm
                  exact ⟨_, rfl, by rw [emv, hl]; rfl, fun c k h => hf3 c k (by omega)⟩
                · have j1 := ix_lt hpl (show u - 1 < n by omega)
                  have j2 := ix_lt hpl (show u < n by omega)
                  refine go_aload_n (j := 3) (q := 129) rfl rfl dL_automorphisms_128 rfl ?_
                  refine go_iload (j := 6) (q := 131) rfl dL_automorphisms_129 rfl ?_
                  refine go_iald (j := u - 1) (q := 132) (by first | assumption | rfl) (wr_eq (by omega)) (by omega) dL_automorphisms_131 rfl ?_
                  rw [hp (u - 1) (by omega)]
                  refine go_aload_n (j := 3) (q := 133) rfl rfl dL_automorphisms_132 rfl ?_
                  refine go_iload (j := 6) (q := 135) rfl dL_automorphisms_133 rfl ?_
                  refine go_iconst (q := 136) dL_automorphisms_135 rfl ?_
                  refine go_iadd (q := 137) dL_automorphisms_136 rfl ?_
                  refine go_iald (j := u) (q := 138) (by first | assumption | rfl) (wr_eq (by omega)) (by omega) dL_automorphisms_137 rfl ?_
                  rw [hp u (by omega)]
                  refine go_icmp_le2 (q := 141) (t := 147) dL_automorphisms_138 (by decide) rfl (by omega) (fun c138 => ?_) (fun c138 => ?_)
                  · refine go_iload (j := 6) (q := 149) rfl dL_automorphisms_147 rfl ?_
                    refine go_if_ge2 (q := 152) (t := 155) dL_automorphisms_149 (by decide) rfl (by omega) (fun c149 => ?_) (fun c149 => ?_)
                    · have hdu : di (ix (unr n r)) (n - 1) = u := by
                        rw [← hdi]
                        obtain ⟨k2, rfl⟩ : ∃ k2, u = k2 + 1 := ⟨u - 1, by omega⟩
                        show (if ix (unr n r) (k2 + 1) < ix (unr n r) k2 then _ else k2 + 1) = k2 + 1
                        rw [show k2 + 1 - 1 = k2 from rfl] at c138
                        rw [if_neg (by omega)]
                      obtain ⟨hr1, hnx⟩ := nx_next hn hr (by omega)
                      refine go_iload_n (j := 2) (q := 156) rfl rfl dL_automorphisms_155 rfl ?_
                      refine go_iconst (q := 157) dL_automorphisms_156 rfl ?_
                      refine go_isub (q := 158) dL_automorphisms_157 rfl ?_
                      refine go_istore (j := 7) (q := 160) (ls2 := [_, _, _, _, _, _, _, _, _, _]) (by decide) rfl rfl dL_automorphisms_158 rfl ?_
                      have lp160 : ∀ (m160 : Nat) (j : Nat) (ji : Int) (d e : Option MV) (ej : ji = j) (hj : u ≤ j ∧ j ≤ n - 1) (hdj : dj (ix (unr n r)) (ix (unr n r) (u - 1)) j = dj (ix (unr n r)) (ix (unr n r) (u - 1)) (n - 1)), m160 = j → gL_automorphisms l D ck (adx ad 48 x6) (shA ++ [rInt 6]) 0 (VW D ck ad shA) 160 [some (vR 45), some (vR 46), (some (vI ((n : Nat) : Int))), some (vR 48), some (vI mv), some (vI si), some (vI ii), some (vI ji), d, e] [] w3 K := by
                        intro m160
                        induction m160 using Nat.strongRecOn with
                        | _ m160 ih160 =>
                        intro j ji d e ej hj hdj em160
                        have j3 := ix_lt hpl (show j < n by omega)
                        refine go_aload_n (j := 3) (q := 161) rfl rfl dL_automorphisms_160 rfl ?_
                        refine go_iload (j := 7) (q := 163) rfl dL_automorphisms_161 rfl ?_
                        refine go_iald (j := j) (q := 164) (by first | assumption | rfl) (wr_eq (by omega)) (by omega) dL_automorphisms_163 rfl ?_
                        rw [hp j (by omega)]
                        refine go_aload_n (j := 3) (q := 165) rfl rfl dL_automorphisms_164 rfl ?_
                        refine go_iload (j := 6) (q := 167) rfl dL_automorphisms_165 rfl ?_
                        refine go_iald (j := u - 1) (q := 168) (by first | assumption | rfl) (wr_eq (by omega)) (by omega) dL_automorphisms_167 rfl ?_
                        rw [hp (u - 1) (by omega)]
                        refine go_icmp_ge2 (q := 171) (t := 177) dL_automorphisms_168 (by decide) rfl (by omega) (fun c168 => ?_) (fun c168 => ?_)
                        · have hdv : dj (ix (unr n r)) (ix (unr n r) (u - 1)) (n - 1) = j := by
                            rw [← hdj]
                            obtain ⟨k2, rfl⟩ : ∃ k2, j = k2 + 1 := ⟨j - 1, by omega⟩
                            show (if ix (unr n r) (k2 + 1) < ix (unr n r) (u - 1) then _ else k2 + 1) = k2 + 1
                            rw [if_neg (by omega)]
                          have hnx2 : ∀ x, x < n → nxS n (ix (unr n r)) (u - 1) j x = ix (unr n (r + 1)) x := fun x hx => by
                            have := hnx x hx
                            unfold nxP at this
                            rw [hdu, hdv] at this; exact this
                          refine go_aload_n (j := 3) (q := 178) rfl rfl dL_automorphisms_177 rfl ?_
                          refine go_iload (j := 6) (q := 180) rfl dL_automorphisms_178 rfl ?_
                          refine go_iald (j := u - 1) (q := 181) (by first | assumption | rfl) (wr_eq (by omega)) (by omega) dL_automorphisms_180 rfl ?_
                          rw [hp (u - 1) (by omega)]
                          refine go_istore (j := 8) (q := 183) (ls2 := [_, _, _, _, _, _, _, _, _, _]) (by decide) rfl rfl dL_automorphisms_181 rfl ?_
                          refine go_aload_n (j := 3) (q := 184) rfl rfl dL_automorphisms_183 rfl ?_
                          refine go_iload (j := 6) (q := 186) rfl dL_automorphisms_184 rfl ?_
                          refine go_aload_n (j := 3) (q := 187) rfl rfl dL_automorphisms_186 rfl ?_
                          refine go_iload (j := 7) (q := 189) rfl dL_automorphisms_187 rfl ?_
                          refine go_iald (j := j) (q := 190) (by first | assumption | rfl) (wr_eq (by omega)) (by omega) dL_automorphisms_189 rfl ?_
                          rw [hp j (by omega)]
                          refine go_iast (j := u - 1) (q := 191) (by first | assumption | rfl) (wr_eq (by omega)) (by omega) dL_automorphisms_190 rfl ?_
                          refine go_aload_n (j := 3) (q := 192) rfl rfl dL_automorphisms_191 rfl ?_
                          refine go_iload (j := 7) (q := 194) rfl dL_automorphisms_192 rfl ?_
                          refine go_iload (j := 8) (q := 196) rfl dL_automorphisms_194 rfl ?_
                          refine go_iast (j := j) (q := 197) (by first | assumption | rfl) (wr_eq (by omega)) (by omega) dL_automorphisms_196 rfl ?_
                          refine go_iconst (q := 198) dL_automorphisms_197 rfl ?_
                          refine go_istore (j := 9) (q := 200) (ls2 := [_, _, _, _, _, _, _, _, _, _]) (by decide) rfl rfl dL_automorphisms_198 rfl ?_
                          have lp200 : ∀ (m200 : Nat) (k : Nat) (vi kk : Int) (w5 : Mem) (ekk : kk = k) (hk2 : 1 ≤ k ∧ k ≤ n) (hp5 : ∀ x, x < n → w5 48 x = ((if u ≤ x ∧ (x < u - 1 + k ∨ n - k < x) then swq (ix (unr n r)) (u - 1) j (n + (u - 1) - x) else swq (ix (unr n r)) (u - 1) j x : Nat) : Int)) (hf5 : ∀ c k, c ≠ 48 → w5 c k = w c k), m200 = n - k → gL_automorphisms l D ck (adx ad 48 x6) (shA ++ [rInt 6]) 0 (VW D ck ad shA) 200 [some (vR 45), some (vR 46), (some (vI ((n : Nat) : Int))), some (vR 48), some (vI mv), some (vI si), some (vI ii), some (vI ji), some (vI vi), some (vI kk)] [] w5 K := by
                            intro m200
                            induction m200 using Nat.strongRecOn with
                            | _ m200 ih200 =>
                            intro k vi kk w5 ekk hk2 hp5 hf5 em200
                            refine go_iload (j := 6) (q := 202) rfl dL_automorphisms_200 rfl ?_
                            refine go_iload (j := 9) (q := 204) rfl dL_automorphisms_202 rfl ?_
                            refine go_iadd (q := 205) dL_automorphisms_204 rfl ?_
                            refine go_iload_n (j := 2) (q := 206) rfl rfl dL_automorphisms_205 rfl ?_
                            refine go_iload (j := 9) (q := 208) rfl dL_automorphisms_206 rfl ?_
                            refine go_isub (q := 209) dL_automorphisms_208 rfl ?_
                            refine go_icmp_ge2 (q := 212) (t := 248) dL_automorphisms_209 (by decide) rfl (by omega) (fun c209 => ?_) (fun c209 => ?_)
                            · refine go_goto (q := 34) dL_automorphisms_248 (by decide) ?_
                              exact ih34 _ (by omega) (r + 1) _ _ _ _ _ _ _ hr1 emv (by
                                intro x hx
                                rw [hp5 x hx, ← hnx2 x hx]
                                unfold nxS
                                by_cases q : x ≤ u - 1
                                · rw [if_pos q, if_neg (by omega)]
                                · rw [if_neg q]
                                  by_cases q2 : u ≤ x ∧ (x < u - 1 + k ∨ n - k < x)
                                  · rw [if_pos q2]
                                  · rw [if_neg q2, show n + (u - 1) - x = x by omega]) hf5 rfl
                            · have a1 := hp5 (u - 1 + k) (by omega)
                              rw [if_neg (by omega)] at a1
                              have a2 := hp5 (n - k) (by omega)
                              rw [if_neg (by omega)] at a2
                              refine go_aload_n (j := 3) (q := 213) rfl rfl dL_automorphisms_212 rfl ?_
                              refine go_iload (j := 6) (q := 215) rfl dL_automorphisms_213 rfl ?_
                              refine go_iload (j := 9) (q := 217) rfl dL_automorphisms_215 rfl ?_
                              refine go_iadd (q := 218) dL_automorphisms_217 rfl ?_
                              refine go_iald (j := u - 1 + k) (q := 219) (by first | assumption | rfl) (wr_eq (by omega)) (by omega) dL_automorphisms_218 rfl ?_
                              rw [a1]
                              refine go_istore (j := 8) (q := 221) (ls2 := [_, _, _, _, _, _, _, _, _, _]) (by decide) rfl rfl dL_automorphisms_219 rfl ?_
                              refine go_aload_n (j := 3) (q := 222) rfl rfl dL_automorphisms_221 rfl ?_
                              refine go_iload (j := 6) (q := 224) rfl dL_automorphisms_222 rfl ?_
                              refine go_iload (j := 9) (q := 226) rfl dL_automorphisms_224 rfl ?_
                              refine go_iadd (q := 227) dL_automorphisms_226 rfl ?_
                              refine go_aload_n (j := 3) (q := 228) rfl rfl dL_automorphisms_227 rfl ?_
                              refine go_iload_n (j := 2) (q := 229) rfl rfl dL_automorphisms_228 rfl ?_
                              refine go_iload (j := 9) (q := 231) rfl dL_automorphisms_229 rfl ?_
                              refine go_isub (q := 232) dL_automorphisms_231 rfl ?_
                              refine go_iald (j := n - k) (q := 233) (by first | assumption | rfl) (wr_eq (by omega)) (by omega) dL_automorphisms_232 rfl ?_
                              rw [a2]
                              refine go_iast (j := u - 1 + k) (q := 234) (by first | assumption | rfl) (wr_eq (by omega)) (by omega) dL_automorphisms_233 rfl ?_
                              refine go_aload_n (j := 3) (q := 235) rfl rfl dL_automorphisms_234 rfl ?_
                              refine go_iload_n (j := 2) (q := 236) rfl rfl dL_automorphisms_235 rfl ?_
                              refine go_iload (j := 9) (q := 238) rfl dL_automorphisms_236 rfl ?_
                              refine go_isub (q := 239) dL_automorphisms_238 rfl ?_
                              refine go_iload (j := 8) (q := 241) rfl dL_automorphisms_239 rfl ?_
                              refine go_iast (j := n - k) (q := 242) (by first | assumption | rfl) (wr_eq (by omega)) (by omega) dL_automorphisms_241 rfl ?_
                              refine go_iinc (j := 9) (q := 245) (ls2 := [_, _, _, _, _, _, _, _, _, _]) rfl (by decide) rfl rfl dL_automorphisms_242 rfl ?_
                              refine go_goto (q := 200) dL_automorphisms_245 (by decide) ?_
                              exact ih200 _ (by omega) (k + 1) _ _ _ (by omega) (by omega) (by
                                intro x hx
                                by_cases q1 : x = n - k
                                · rw [q1, mup_eq, if_pos (by omega), show n + (u - 1) - (n - k) = u - 1 + k by omega]
                                · rw [mup_ne (by omega)]
                                  by_cases q2 : x = u - 1 + k
                                  · rw [q2, mup_eq, if_pos (by omega), show n + (u - 1) - (u - 1 + k) = n - k by omega]
                                  · rw [mup_ne (by omega), hp5 x hx]
                                    by_cases q3 : u ≤ x ∧ (x < u - 1 + k ∨ n - k < x)
                                    · rw [if_pos q3, if_pos (by omega)]
                                    · rw [if_neg q3, if_neg (by omega)]) (fun c k h => by rw [mup_ne (Or.inl h), mup_ne (Or.inl h)]; exact hf5 c k h) rfl
                          exact lp200 _ 1 _ _ _ rfl (by omega) (by
                            intro x hx
                            rw [if_neg (by omega)]
                            unfold swq
                            by_cases q2 : x = j
                            · rw [q2, mup_eq, if_neg (by omega), if_pos rfl]
                            · rw [mup_ne (by omega)]
                              by_cases q1 : x = u - 1
                              · rw [q1, mup_eq, if_pos rfl]
                              · rw [mup_ne (by omega), if_neg q1, if_neg q2]; exact hp x hx) (fun c k h => by rw [mup_ne (Or.inl h), mup_ne (Or.inl h)]; exact hf3 c k h) rfl
                        · refine go_iinc (j := 7) (q := 174) (ls2 := [_, _, _, _, _, _, _, _, _, _]) rfl (by decide) rfl rfl dL_automorphisms_171 rfl ?_
                          refine go_goto (q := 160) dL_automorphisms_174 (by decide) ?_
                          exact ih160 _ (by omega) (j - 1) _ _ _ (by omega) (by
                            have : j ≠ u := fun q => by rw [q] at c168; omega
                            omega) (by
                            rw [← hdj]
                            obtain ⟨k2, rfl⟩ : ∃ k2, j = k2 + 1 := ⟨j - 1, by omega⟩
                            show dj _ _ k2 = (if ix (unr n r) (k2 + 1) < ix (unr n r) (u - 1) then _ else _)
                            rw [if_pos (by omega)]) rfl
                      exact lp160 _ (n - 1) _ _ _ (by omega) (by omega) rfl rfl
                    · exact absurd c149 (by omega)
                  · refine go_iinc (j := 6) (q := 144) (ls2 := [_, _, _, _, _, _, _, _, _, _]) rfl (by decide) rfl rfl dL_automorphisms_141 rfl ?_
                    refine go_goto (q := 123) dL_automorphisms_144 (by decide) ?_
                    exact ih123 _ (by omega) (u - 1) _ _ _ _ _ _ emv (by omega) (by omega) (by
                      rw [← hdi]
                      obtain ⟨k2, rfl⟩ : ∃ k2, u = k2 + 1 := ⟨u - 1, by omega⟩
                      show di _ k2 = (if ix (unr n r) (k2 + 1) < ix (unr n r) k2 then _ else _)
                      rw [show k2 + 1 - 1 = k2 from rfl] at c138
                      rw [if_pos (by omega)]) rfl
              exact lp123 _ (n - 1) _ _ _ _ _ _ ek1 (by omega) (by omega) rfl rfl
          · obtain ⟨x, hx⟩ : ∃ x, x = k / n := ⟨_, rfl⟩
            obtain ⟨y, hy⟩ : ∃ y, y = k % n := ⟨_, rfl⟩
            have hdm := dm (n := n) (k := k) hn.1 (by omega)
            rw [← hx, ← hy] at hdm
            have e60 : ki.tdiv (n : Int) = (x : Int) := by rw [ek, hx]; exact (Int.ofNat_tdiv _ _).symm
            have e65 : ki.tmod (n : Int) = (y : Int) := by rw [ek, hy]; exact (Int.ofNat_tmod _ _).symm
            have d1 := hT.2.2 x y hdm.1 hdm.2
            have d1' : w3 46 (6 * x + y) = (f x y : Int) := by rw [hf3 _ _ (by omega)]; exact d1.1
            have i1 := ix_lt hpl hdm.1
            have i2 := ix_lt hpl hdm.2
            have i3 := ix_lt hpl d1.2
            have d2 := hT.2.2 _ _ i1 i2
            have d2' : w3 46 (6 * ix (unr n r) x + ix (unr n r) y) = (f (ix (unr n r) x) (ix (unr n r) y) : Int) := by rw [hf3 _ _ (by omega)]; exact d2.1
            refine go_iload (j := 5) (q := 50) rfl dL_automorphisms_48 rfl ?_
            refine go_if_eq2 (q := 53) (t := 94) dL_automorphisms_50 (by decide) rfl (by rcases hs with hs | hs <;> omega) (fun c50 => ?_) (fun c50 => ?_)
            · have hs2 : ¬ keepsL n f (unr n r) := by
                rcases hs with hs | hs
                · omega
                · exact hs.2
              refine go_iconst (q := 95) dL_automorphisms_94 rfl ?_
              refine go_istore (j := 5) (q := 97) (ls2 := [_, _, _, _, _, _, _, _, _, _]) (by decide) rfl rfl dL_automorphisms_95 rfl ?_
              refine go_iinc (j := 6) (q := 100) (ls2 := [_, _, _, _, _, _, _, _, _, _]) rfl (by decide) rfl rfl dL_automorphisms_97 rfl ?_
              refine go_goto (q := 40) dL_automorphisms_100 (by decide) ?_
              first
              | exact ih40 _ (by omega) (k + 1) _ _ _ _ _ (by omega) (by omega) (Or.inl ⟨rfl, hs3⟩) rfl
              | exact ih40 _ (by omega) (k + 1) _ _ _ _ _ (by omega) (by omega) (Or.inr ⟨rfl, hs2⟩) rfl
            · refine go_aload_n (j := 3) (q := 54) rfl rfl dL_automorphisms_53 rfl ?_
              refine go_aload_n (j := 1) (q := 55) rfl rfl dL_automorphisms_54 rfl ?_
              refine go_bipush (q := 57) rfl dL_automorphisms_55 rfl ?_
              refine go_iload (j := 6) (q := 59) rfl dL_automorphisms_57 rfl ?_
              refine go_iload_n (j := 2) (q := 60) rfl rfl dL_automorphisms_59 rfl ?_
              refine go_idiv2 (q := 61) (by omega) (by omega) dL_automorphisms_60 rfl ?_
              rw [e60]
              refine go_imul (q := 62) dL_automorphisms_61 rfl ?_
              refine go_iload (j := 6) (q := 64) rfl dL_automorphisms_62 rfl ?_
              refine go_iload_n (j := 2) (q := 65) rfl rfl dL_automorphisms_64 rfl ?_
              refine go_irem2 (q := 66) (by omega) (by omega) dL_automorphisms_65 rfl ?_
              rw [e65]
              refine go_iadd (q := 67) dL_automorphisms_66 rfl ?_
              refine go_iald (j := 6 * x + y) (q := 68) (by first | assumption | rfl) (wr_eq (by omega)) (by omega) dL_automorphisms_67 rfl ?_
              rw [d1']
              refine go_iald (j := f x y) (q := 69) (by first | assumption | rfl) (wr_eq (by omega)) (by omega) dL_automorphisms_68 rfl ?_
              rw [hp _ d1.2]
              refine go_aload_n (j := 1) (q := 70) rfl rfl dL_automorphisms_69 rfl ?_
              refine go_bipush (q := 72) rfl dL_automorphisms_70 rfl ?_
              refine go_aload_n (j := 3) (q := 73) rfl rfl dL_automorphisms_72 rfl ?_
              refine go_iload (j := 6) (q := 75) rfl dL_automorphisms_73 rfl ?_
              refine go_iload_n (j := 2) (q := 76) rfl rfl dL_automorphisms_75 rfl ?_
              refine go_idiv2 (q := 77) (by omega) (by omega) dL_automorphisms_76 rfl ?_
              rw [e60]
              refine go_iald (j := x) (q := 78) (by first | assumption | rfl) (wr_eq (by omega)) (by omega) dL_automorphisms_77 rfl ?_
              rw [hp _ hdm.1]
              refine go_imul (q := 79) dL_automorphisms_78 rfl ?_
              refine go_aload_n (j := 3) (q := 80) rfl rfl dL_automorphisms_79 rfl ?_
              refine go_iload (j := 6) (q := 82) rfl dL_automorphisms_80 rfl ?_
              refine go_iload_n (j := 2) (q := 83) rfl rfl dL_automorphisms_82 rfl ?_
              refine go_irem2 (q := 84) (by omega) (by omega) dL_automorphisms_83 rfl ?_
              rw [e65]
              refine go_iald (j := y) (q := 85) (by first | assumption | rfl) (wr_eq (by omega)) (by omega) dL_automorphisms_84 rfl ?_
              rw [hp _ hdm.2]
              refine go_iadd (q := 86) dL_automorphisms_85 rfl ?_
              refine go_iald (j := 6 * ix (unr n r) x + ix (unr n r) y) (q := 87) (by first | assumption | rfl) (wr_eq (by omega)) (by omega) dL_automorphisms_86 rfl ?_
              rw [d2']
              refine go_icmp_ne2 (q := 90) (t := 94) dL_automorphisms_87 (by decide) rfl (by omega) (fun c87 => ?_) (fun c87 => ?_)
              · have hs2 : ¬ keepsL n f (unr n r) := fun q => by have := q x y hdm.1 hdm.2; omega
                refine go_iconst (q := 95) dL_automorphisms_94 rfl ?_
                refine go_istore (j := 5) (q := 97) (ls2 := [_, _, _, _, _, _, _, _, _, _]) (by decide) rfl rfl dL_automorphisms_95 rfl ?_
                refine go_iinc (j := 6) (q := 100) (ls2 := [_, _, _, _, _, _, _, _, _, _]) rfl (by decide) rfl rfl dL_automorphisms_97 rfl ?_
                refine go_goto (q := 40) dL_automorphisms_100 (by decide) ?_
                first
                | exact ih40 _ (by omega) (k + 1) _ _ _ _ _ (by omega) (by omega) (Or.inl ⟨rfl, hs3⟩) rfl
                | exact ih40 _ (by omega) (k + 1) _ _ _ _ _ (by omega) (by omega) (Or.inr ⟨rfl, hs2⟩) rfl
              · have hs3 : ∀ j, j < k + 1 → ix (unr n r) (f (j / n) (j % n)) = f (ix (unr n r) (j / n)) (ix (unr n r) (j % n)) := by
                  rcases hs with hs | hs
                  · exact fun j hj => all_lt (P := fun j => ix (unr n r) (f (j / n) (j % n)) = f (ix (unr n r) (j / n)) (ix (unr n r) (j % n))) hs.2 (by rw [← hx, ← hy]; omega) hj
                  · exact absurd hs.1 c50
                refine go_iconst (q := 91) dL_automorphisms_90 rfl ?_
                refine go_goto (q := 95) dL_automorphisms_91 (by decide) ?_
                refine go_istore (j := 5) (q := 97) (ls2 := [_, _, _, _, _, _, _, _, _, _]) (by decide) rfl rfl dL_automorphisms_95 rfl ?_
                refine go_iinc (j := 6) (q := 100) (ls2 := [_, _, _, _, _, _, _, _, _, _]) rfl (by decide) rfl rfl dL_automorphisms_97 rfl ?_
                refine go_goto (q := 40) dL_automorphisms_100 (by decide) ?_
                first
                | exact ih40 _ (by omega) (k + 1) _ _ _ _ _ (by omega) (by omega) (Or.inl ⟨rfl, hs3⟩) rfl
                | exact ih40 _ (by omega) (k + 1) _ _ _ _ _ (by omega) (by omega) (Or.inr ⟨rfl, hs2⟩) rfl
        exact lp40 _ 0 _ _ _ _ _ rfl (by omega) (Or.inl ⟨rfl, fun j h => absurd h (Nat.not_lt_zero j)⟩) rfl
      exact lp34 _ 0 _ _ _ _ _ _ _ (by omega) rfl (fun i hi => by
        rw [h2 i (by omega)]
        have := idL_ix ⟨n, by omega⟩ ⟨i, by omega⟩ hi
        simp only [idL] at this
        rw [this]) hf2 rfl
    · refine go_aload_n (j := 3) (q := 23) rfl rfl dL_automorphisms_22 rfl ?_
      refine go_iload (j := 5) (q := 25) rfl dL_automorphisms_23 rfl ?_
      refine go_iload (j := 5) (q := 27) rfl dL_automorphisms_25 rfl ?_
      refine go_iast (j := x) (q := 28) (by first | assumption | rfl) (wr_eq (by omega)) (by omega) dL_automorphisms_27 rfl ?_
      refine go_iinc (j := 5) (q := 31) (ls2 := [_, _, _, _, _, _, _, _, _, _]) rfl (by decide) rfl rfl dL_automorphisms_28 rfl ?_
      refine go_goto (q := 15) dL_automorphisms_31 (by decide) ?_
      exact ih15 _ (by omega) (x + 1) _ _ _ _ _ _ (by omega) (by omega) (by
        intro j hj
        by_cases q : j = x
        · rw [q, mup_eq]; exact ex
        · rw [mup_ne (by omega)]; exact h2 j (by omega)) (fun c k h => by rw [mup_ne (Or.inl h)]; exact hf2 c k h) rfl
  exact lp15 _ 0 _ _ _ _ _ _ rfl (by omega) (fun j h => absurd h (Nat.not_lt_zero j)) (fun c k h => mz_ne h) rfl
end LAW5
