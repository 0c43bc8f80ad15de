theorem go_more {l : Launch} {D : va_G} {ck : Nat → ClassId} {ad : Nat → Nat} {sh : List Shp} {own : String} {cc : ByteArray} {nL : Nat} {R : Room} {B B2 : Nat} {V : XW} {pc : Nat} {ls : List (Option MV)} {st : List MV} {w : Mem} {K : Post} (h : B2 ≤ B) (k : Go l D ck ad sh own cc nL R B2 V pc ls st w K) : Go l D ck ad sh own cc nL R B V pc ls st w K := by
  intro p e s m args below meth c A cells slots Q H locs lsR C hP hS hl hex
  exact k p e s m args below meth c A cells slots Q H locs lsR ⟨C.1, C.2.1, C.2.2.1, C.2.2.2.1, C.2.2.2.2.1, C.2.2.2.2.2.1, C.2.2.2.2.2.2.1, ⟨⟨by have := C.2.2.2.2.2.2.2.1.1.1; omega, by have := C.2.2.2.2.2.2.2.1.1.2; omega⟩, C.2.2.2.2.2.2.2.1.2⟩, C.2.2.2.2.2.2.2.2.1, C.2.2.2.2.2.2.2.2.2⟩ hP hS hl hex
def lsLe : List (Option MV) → List (Option MV) → Prop
  | [], _ => True
  | none :: a, _ :: b => lsLe a b
  | some v :: a, u :: b => u = some v ∧ lsLe a b
  | _ :: _, [] => False
theorem lsLe_at : ∀ {a b : List (Option MV)} {i : Nat} {v : MV}, lsLe a b → a[i]? = some (some v) → b[i]? = some (some v)
  | [], _, i, v, _, h => by simp at h
  | none :: a, [], i, v, hl, _ => absurd hl (fun z => z)
  | some u :: a, [], i, v, hl, _ => absurd hl (fun z => z)
  | none :: a, y :: b, 0, v, _, h => by simp at h
  | none :: a, y :: b, i + 1, v, hl, h => by
    rw [List.getElem?_cons_succ] at h ⊢
    exact lsLe_at (a := a) hl h
  | some u :: a, y :: b, 0, v, hl, h => by
    rw [List.getElem?_cons_zero] at h ⊢
    rw [hl.1]; exact h
  | some u :: a, y :: b, i + 1, v, hl, h => by
    rw [List.getElem?_cons_succ] at h ⊢
    exact lsLe_at (a := a) hl.2 h
/-- locals may be forgotten -/
theorem go_forget {l : Launch} {D : va_G} {ck : Nat → ClassId} {ad : Nat → Nat} {sh : List Shp} {own : String} {cc : ByteArray} {nL : Nat} {R : Room} {B : Nat} {V : XW} {pc : Nat} {ls ls2 : List (Option MV)} {st : List MV} {w : Mem} {K : Post} (h : lsLe ls2 ls) (k : Go l D ck ad sh own cc nL R B V pc ls2 st w K) : Go l D ck ad sh own cc nL R B V pc ls st w K := by
  intro p e s m args below meth c A cells slots Q H locs lsR C hP hS hl hex
  exact k p e s m args below meth c A cells slots Q H locs lsR C hP hS ⟨hl.1, hl.2.1, fun i v hv => hl.2.2 i v (lsLe_at h hv)⟩ hex
/-- behind a kind's act: the checks of the turn -/
def NxL (l : Launch) (D : va_G) (ck : Nat → ClassId) (ad : Nat → Nat) (B : Nat) (ti : Int) (K : Post) : Prop := ∀ (xi yi ki ni fi ai bi : Int) (o13 o14 o15 o16 o17 o18 o19 o20 : Option MV) (w : Mem) (W : WA), PXW w W → LX w W →
  gL_law l D ck ad shA B VT 1576 [some (vR 2000), some (vR 0), some (vR 45), some (vR 46), some (vR 47), some (vI ti), some (vI xi), some (vI yi), some (vI ki), some (vI ni), some (vI fi), some (vI ai), some (vI bi), o13, o14, o15, o16, o17, o18, o19, o20] [] w K
theorem linF_lt {n : Nat} {p : Int} {x y : Nat} (hn : 1 ≤ n) : linF n p x y < n := by
  unfold linF
  have h1 := Int.emod_nonneg (p * (x : Int) + (1 - p) * (y : Int)) (show (n : Int) ≠ 0 by omega)
  have h2 := Int.emod_lt_of_pos (p * (x : Int) + (1 - p) * (y : Int)) (show (0 : Int) < n by omega)
  omega
theorem linF_of {n : Nat} {p v c : Int} {x y : Nat} (hn : 1 ≤ n) (hv : 0 ≤ v) (e : v = p * (x : Int) + (1 - p) * (y : Int) + c * n) : v.tmod (n : Int) = (linF n p x y : Int) := by
  rw [Int.tmod_eq_emod_of_nonneg hv, e, Int.add_mul_emod_self_right]
  unfold linF
  have h1 := Int.emod_nonneg (p * (x : Int) + (1 - p) * (y : Int)) (show (n : Int) ≠ 0 by omega)
  omega
theorem dne {n j k : Nat} (h : j < k) (hn : 1 ≤ n) (hn6 : n ≤ 6) : 6 * (j / n) + j % n ≠ 6 * (k / n) + k % n := by
  intro e
  have h1 := Nat.mod_lt j (show 0 < n by omega)
  have h2 := Nat.mod_lt k (show 0 < n by omega)
  have d1 := Nat.div_add_mod j n
  have d2 := Nat.div_add_mod k n
  have e1 : j / n = k / n := by omega
  have e2 : j % n = k % n := by omega
  rw [e1, e2] at d1
  omega
section LAW8
variable {l : Launch} {D : va_G} {ck : Nat → ClassId} {ad : Nat → Nat} {w : Mem} {W : WA} {B : Nat} {K : Post} {ti xi yi ki ni fi ai bi : Int}
theorem lk_lin0 {n : Nat} {p vi : Int} (hN : NxL l D ck ad B ti K) (hP : PXW w (psh W (tS W n (linF n p)))) (hX : LX w W) (hn : 1 ≤ n ∧ n ≤ 6) (hv : vi = (wN W : Int)) (hp : (ki = 0 ∧ p = 1) ∨ (ki = 1 ∧ p = -1) ∨ (ki = 2 ∧ p = fi ∧ 0 ≤ fi ∧ fi ≤ 5)) :
    gL_law l D ck ad shA B VT 178 [some (vR 2000), some (vR 0), some (vR 45), some (vR 46), some (vR 47), some (vI ti), some (vI xi), some (vI yi), some (vI ki), (some (vI ((n : Nat) : Int))), some (vI fi), some (vI ai), some (vI bi), some (vI vi), none, none, none, none, none, none, none] [] w K := by
  have g0 : w 45 0 = (wN W : Int) := hX.1.1
  have hn0 := hX.1.2.1
  obtain ⟨c1, c2, c3, c4⟩ := cubZ hn
  refine go_iload (j := 13) (q := 180) rfl dL_law_178 rfl ?_
  refine go_aload_n (j := 2) (q := 181) rfl rfl dL_law_180 rfl ?_
  refine go_iconst (q := 182) dL_law_181 rfl ?_
  refine go_iald (j := 0) (q := 183) (by first | assumption | rfl) (wr_eq (by omega)) (by omega) dL_law_182 rfl ?_
  refine go_icmp_eq2 (q := 186) (t := 188) dL_law_183 (by decide) rfl (by omega) (fun c183 => ?_) (fun c183 => ?_)
  · refine go_aload_n (j := 2) (q := 189) rfl rfl dL_law_188 rfl ?_
    refine go_iconst (q := 190) dL_law_189 rfl ?_
    refine go_iload (j := 9) (q := 192) rfl dL_law_190 rfl ?_
    refine go_iast (j := 0) (q := 193) (by first | assumption | rfl) (wr_eq (by omega)) (by omega) dL_law_192 rfl ?_
    refine go_iconst (q := 194) dL_law_193 rfl ?_
    refine go_istore (j := 14) (q := 196) (ls2 := [_, _, _, _, _, _, _, _, _, _, _, _, _, _, _, _, _, _, _, _, _]) (by decide) rfl rfl dL_law_194 rfl ?_
    have lp196 : ∀ (m196 : Nat) (i : Nat) (ii : Int) (w1 : Mem) (ei : ii = i) (hi : i ≤ 36) (f1 : ∀ c k, c ≠ 46 → w1 c k = mup w 45 0 (n : Int) c k), m196 = 36 - i → gL_law l D ck ad shA B VT 196 [some (vR 2000), some (vR 0), some (vR 45), some (vR 46), some (vR 47), some (vI ti), some (vI xi), some (vI yi), some (vI ki), (some (vI ((n : Nat) : Int))), some (vI fi), some (vI ai), some (vI bi), some (vI vi), some (vI ii), none, none, none, none, none, none] [] w1 K := by
      intro m196
      induction m196 using Nat.strongRecOn with
      | _ m196 ih196 =>
      intro i ii w1 ei hi f1 em196
      refine go_iload (j := 14) (q := 198) rfl dL_law_196 rfl ?_
      refine go_bipush (q := 200) rfl dL_law_198 rfl ?_
      refine go_icmp_ge2 (q := 203) (t := 214) dL_law_200 (by decide) rfl (by omega) (fun c200 => ?_) (fun c200 => ?_)
      · refine go_iconst (q := 215) dL_law_214 rfl ?_
        refine go_istore (j := 14) (q := 217) (ls2 := [_, _, _, _, _, _, _, _, _, _, _, _, _, _, _, _, _, _, _, _, _]) (by decide) rfl rfl dL_law_215 rfl ?_
        have lp217 : ∀ (m217 : Nat) (k : Nat) (ci : Int) (o15 : Option MV) (w2 : Mem) (ek : ci = k) (hk : k ≤ n * n) (f2 : ∀ c k, c ≠ 46 → w2 c k = mup w 45 0 (n : Int) c k) (hd : ∀ j, j < k → w2 46 (6 * (j / n) + j % n) = (linF n p (j / n) (j % n) : Int)), m217 = n * n - k → gL_law l D ck ad shA B VT 217 [some (vR 2000), some (vR 0), some (vR 45), some (vR 46), some (vR 47), some (vI ti), some (vI xi), some (vI yi), some (vI ki), (some (vI ((n : Nat) : Int))), some (vI fi), some (vI ai), some (vI bi), some (vI vi), some (vI ci), o15, none, none, none, none, none] [] w2 K := by
          intro m217
          induction m217 using Nat.strongRecOn with
          | _ m217 ih217 =>
          intro k ci o15 w2 ek hk f2 hd em217
          refine go_iload (j := 14) (q := 219) rfl dL_law_217 rfl ?_
          refine go_iload (j := 9) (q := 221) rfl dL_law_219 rfl ?_
          refine go_iload (j := 9) (q := 223) rfl dL_law_221 rfl ?_
          refine go_imul (q := 224) dL_law_223 rfl ?_
          rw [c1]
          refine go_icmp_ge2 (q := 227) (t := 322) dL_law_224 (by decide) rfl (by omega) (fun c224 => ?_) (fun c224 => ?_)
          · refine go_goto (q := 1576) dL_law_322 (by decide) ?_
            refine hN _ _ _ _ _ _ _ _ _ _ _ _ _ _ _ w2 (psh W (tS W n (linF n p))) (PXW_q hP (fun c k h => by rw [f2 c k (by omega), mup_ne (by omega)])) ⟨⟨by rw [f2 _ _ (by omega), mup_eq]; rfl, hn, fun x y hx hy => ?_⟩, by rw [f2 _ _ (by omega), mup_ne (by omega)]; exact hX.2.1, LC_same hX.2.2 (by rw [f2 _ _ (by omega), mup_ne (by omega)]) (fun k => by rw [f2 _ _ (by omega), mup_ne (by omega)])⟩
            change x < n at hx
            change y < n at hy
            have h1 := hd (x * n + y) (by have := mdl hx hy; omega)
            rw [(md hy).1, (md hy).2] at h1
            exact ⟨h1, linF_lt hn.1⟩
          · obtain ⟨x, hx⟩ : ∃ x, x = k / n := ⟨_, rfl⟩
            obtain ⟨y, hy⟩ : ∃ y, y = k % n := ⟨_, rfl⟩
            have hdm := dm (n := n) (k := k) hn.1 (by omega)
            rw [← hx, ← hy] at hdm
            have ex : ci.tdiv (n : Int) = (x : Int) := by rw [ek, hx]; exact (Int.ofNat_tdiv _ _).symm
            have ey : ci.tmod (n : Int) = (y : Int) := by rw [ek, hy]; exact (Int.ofNat_tmod _ _).symm
            have lb1 := linb (p := fi) (x := (x : Int))
            have lb2 := linb (p := 1 - fi) (x := (y : Int))
            refine go_iload (j := 8) (q := 229) rfl dL_law_227 rfl ?_
            refine go_if_ne2 (q := 232) (t := 240) dL_law_229 (by decide) rfl (by rcases hp with h | h | h <;> omega) (fun c229 => ?_) (fun c229 => ?_)
            · refine go_iload (j := 8) (q := 242) rfl dL_law_240 rfl ?_
              refine go_iconst (q := 243) dL_law_242 rfl ?_
              refine go_icmp_ne2 (q := 246) (t := 268) dL_law_243 (by decide) rfl (by rcases hp with h | h | h <;> omega) (fun c243 => ?_) (fun c243 => ?_)
              · have hki : p = fi ∧ 0 ≤ fi ∧ fi ≤ 5 := by rcases hp with h | h | h <;> first | (exfalso; omega) | exact h.2
                have lb1 := lb1 (by omega)
                have lb2 := lb2 (by omega)
                have lb3 : 0 ≤ fi * (x : Int) := Int.mul_nonneg (by omega) (by omega)
                have hvl : (fi * (x : Int) + (1 - fi) * (y : Int) + 30 * (n : Int)).tmod (n : Int) = (linF n p x y : Int) := linF_of (c := 30) hn.1 (by omega) (by rw [hki.1])
                have hvr : -1000 ≤ fi * (x : Int) + (1 - fi) * (y : Int) + 30 * (n : Int) ∧ fi * (x : Int) + (1 - fi) * (y : Int) + 30 * (n : Int) ≤ 1000 := by omega
                refine go_iload (j := 10) (q := 270) rfl dL_law_268 rfl ?_
                refine go_iload (j := 14) (q := 272) rfl dL_law_270 rfl ?_
                refine go_iload (j := 9) (q := 274) rfl dL_law_272 rfl ?_
                refine go_idiv2 (q := 275) (by omega) (by omega) dL_law_274 rfl ?_
                rw [ex]
                refine go_imul (q := 276) dL_law_275 rfl ?_
                refine go_iconst (q := 277) dL_law_276 rfl ?_
                refine go_iload (j := 10) (q := 279) rfl dL_law_277 rfl ?_
                refine go_isub (q := 280) dL_law_279 rfl ?_
                refine go_iload (j := 14) (q := 282) rfl dL_law_280 rfl ?_
                refine go_iload (j := 9) (q := 284) rfl dL_law_282 rfl ?_
                refine go_irem2 (q := 285) (by omega) (by omega) dL_law_284 rfl ?_
                rw [ey]
                refine go_imul (q := 286) dL_law_285 rfl ?_
                refine go_iadd (q := 287) dL_law_286 rfl ?_
                refine go_bipush (q := 289) rfl dL_law_287 rfl ?_
                refine go_iload (j := 9) (q := 291) rfl dL_law_289 rfl ?_
                refine go_imul (q := 292) dL_law_291 rfl ?_
                refine go_iadd (q := 293) dL_law_292 rfl ?_
                refine go_istore (j := 15) (q := 295) (ls2 := [_, _, _, _, _, _, _, _, _, _, _, _, _, _, _, _, _, _, _, _, _]) (by decide) rfl rfl dL_law_293 rfl ?_
                refine go_aload_n (j := 3) (q := 296) rfl rfl dL_law_295 rfl ?_
                refine go_bipush (q := 298) rfl dL_law_296 rfl ?_
                refine go_iload (j := 14) (q := 300) rfl dL_law_298 rfl ?_
                refine go_iload (j := 9) (q := 302) rfl dL_law_300 rfl ?_
                refine go_idiv2 (q := 303) (by omega) (by omega) dL_law_302 rfl ?_
                rw [ex]
                refine go_imul (q := 304) dL_law_303 rfl ?_
                refine go_iload (j := 14) (q := 306) rfl dL_law_304 rfl ?_
                refine go_iload (j := 9) (q := 308) rfl dL_law_306 rfl ?_
                refine go_irem2 (q := 309) (by omega) (by omega) dL_law_308 rfl ?_
                rw [ey]
                refine go_iadd (q := 310) dL_law_309 rfl ?_
                refine go_iload (j := 15) (q := 312) rfl dL_law_310 rfl ?_
                refine go_iload (j := 9) (q := 314) rfl dL_law_312 rfl ?_
                refine go_irem2 (q := 315) (by omega) (by omega) dL_law_314 rfl ?_
                rw [hvl]
                refine go_iast (j := 6 * x + y) (q := 316) (by first | assumption | rfl) (wr_eq (by omega)) (by omega) dL_law_315 rfl ?_
                refine go_iinc (j := 14) (q := 319) (ls2 := [_, _, _, _, _, _, _, _, _, _, _, _, _, _, _, _, _, _, _, _, _]) rfl (by decide) rfl rfl dL_law_316 rfl ?_
                refine go_goto (q := 217) dL_law_319 (by decide) ?_
                exact ih217 _ (by omega) (k + 1) _ _ _ (by omega) (by omega) (fun c k h => by rw [mup_ne (Or.inl h)]; exact f2 c k h) (by
                  intro j hj
                  by_cases q : j = k
                  · rw [q, ← hx, ← hy, mup_eq]
                  · rw [mup_ne (Or.inr (by have := dne (n := n) (show j < k by omega) hn.1 hn.2; rw [← hx, ← hy] at this; exact this))]; exact hd j (by omega)) rfl
              · refine go_iconst (q := 247) dL_law_246 rfl ?_
                refine go_iload (j := 14) (q := 249) rfl dL_law_247 rfl ?_
                refine go_iload (j := 9) (q := 251) rfl dL_law_249 rfl ?_
                refine go_irem2 (q := 252) (by omega) (by omega) dL_law_251 rfl ?_
                rw [ey]
                refine go_imul (q := 253) dL_law_252 rfl ?_
                refine go_bipush (q := 255) rfl dL_law_253 rfl ?_
                refine go_iload (j := 9) (q := 257) rfl dL_law_255 rfl ?_
                refine go_imul (q := 258) dL_law_257 rfl ?_
                refine go_iadd (q := 259) dL_law_258 rfl ?_
                refine go_iload (j := 14) (q := 261) rfl dL_law_259 rfl ?_
                refine go_iload (j := 9) (q := 263) rfl dL_law_261 rfl ?_
                refine go_idiv2 (q := 264) (by omega) (by omega) dL_law_263 rfl ?_
                rw [ex]
                refine go_isub (q := 265) dL_law_264 rfl ?_
                have hvl : (2 * (y : Int) + 6 * (n : Int) - (x : Int)).tmod (n : Int) = (linF n p x y : Int) := linF_of (c := 6) hn.1 (by omega) (by rw [show p = -1 by rcases hp with h | h | h <;> omega]; omega)
                have hvr : -1000 ≤ 2 * (y : Int) + 6 * (n : Int) - (x : Int) ∧ 2 * (y : Int) + 6 * (n : Int) - (x : Int) ≤ 1000 := by omega
                refine go_goto (q := 293) dL_law_265 (by decide) ?_
                refine go_istore (j := 15) (q := 295) (ls2 := [_, _, _, _, _, _, _, _, _, _, _, _, _, _, _, _, _, _, _, _, _]) (by decide) rfl rfl dL_law_293 rfl ?_
                refine go_aload_n (j := 3) (q := 296) rfl rfl dL_law_295 rfl ?_
                refine go_bipush (q := 298) rfl dL_law_296 rfl ?_
                refine go_iload (j := 14) (q := 300) rfl dL_law_298 rfl ?_
                refine go_iload (j := 9) (q := 302) rfl dL_law_300 rfl ?_
                refine go_idiv2 (q := 303) (by omega) (by omega) dL_law_302 rfl ?_
                rw [ex]
                refine go_imul (q := 304) dL_law_303 rfl ?_
                refine go_iload (j := 14) (q := 306) rfl dL_law_304 rfl ?_
                refine go_iload (j := 9) (q := 308) rfl dL_law_306 rfl ?_
                refine go_irem2 (q := 309) (by omega) (by omega) dL_law_308 rfl ?_
                rw [ey]
                refine go_iadd (q := 310) dL_law_309 rfl ?_
                refine go_iload (j := 15) (q := 312) rfl dL_law_310 rfl ?_
                refine go_iload (j := 9) (q := 314) rfl dL_law_312 rfl ?_
                refine go_irem2 (q := 315) (by omega) (by omega) dL_law_314 rfl ?_
                rw [hvl]
                refine go_iast (j := 6 * x + y) (q := 316) (by first | assumption | rfl) (wr_eq (by omega)) (by omega) dL_law_315 rfl ?_
                refine go_iinc (j := 14) (q := 319) (ls2 := [_, _, _, _, _, _, _, _, _, _, _, _, _, _, _, _, _, _, _, _, _]) rfl (by decide) rfl rfl dL_law_316 rfl ?_
                refine go_goto (q := 217) dL_law_319 (by decide) ?_
                exact ih217 _ (by omega) (k + 1) _ _ _ (by omega) (by omega) (fun c k h => by rw [mup_ne (Or.inl h)]; exact f2 c k h) (by
                  intro j hj
                  by_cases q : j = k
                  · rw [q, ← hx, ← hy, mup_eq]
                  · rw [mup_ne (Or.inr (by have := dne (n := n) (show j < k by omega) hn.1 hn.2; rw [← hx, ← hy] at this; exact this))]; exact hd j (by omega)) rfl
            · refine go_iload (j := 14) (q := 234) rfl dL_law_232 rfl ?_
              refine go_iload (j := 9) (q := 236) rfl dL_law_234 rfl ?_
              refine go_idiv2 (q := 237) (by omega) (by omega) dL_law_236 rfl ?_
              rw [ex]
              have hvl : ((x : Int)).tmod (n : Int) = (linF n p x y : Int) := linF_of (c := 0) hn.1 (by omega) (by rw [show p = 1 by rcases hp with h | h | h <;> omega]; omega)
              have hvr : -1000 ≤ (x : Int) ∧ (x : Int) ≤ 1000 := by omega
              refine go_goto (q := 293) dL_law_237 (by decide) ?_
              refine go_istore (j := 15) (q := 295) (ls2 := [_, _, _, _, _, _, _, _, _, _, _, _, _, _, _, _, _, _, _, _, _]) (by decide) rfl rfl dL_law_293 rfl ?_
              refine go_aload_n (j := 3) (q := 296) rfl rfl dL_law_295 rfl ?_
              refine go_bipush (q := 298) rfl dL_law_296 rfl ?_
              refine go_iload (j := 14) (q := 300) rfl dL_law_298 rfl ?_
              refine go_iload (j := 9) (q := 302) rfl dL_law_300 rfl ?_
              refine go_idiv2 (q := 303) (by omega) (by omega) dL_law_302 rfl ?_
              rw [ex]
              refine go_imul (q := 304) dL_law_303 rfl ?_
              refine go_iload (j := 14) (q := 306) rfl dL_law_304 rfl ?_
              refine go_iload (j := 9) (q := 308) rfl dL_law_306 rfl ?_
              refine go_irem2 (q := 309) (by omega) (by omega) dL_law_308 rfl ?_
              rw [ey]
              refine go_iadd (q := 310) dL_law_309 rfl ?_
              refine go_iload (j := 15) (q := 312) rfl dL_law_310 rfl ?_
              refine go_iload (j := 9) (q := 314) rfl dL_law_312 rfl ?_
              refine go_irem2 (q := 315) (by omega) (by omega) dL_law_314 rfl ?_
              rw [hvl]
              refine go_iast (j := 6 * x + y) (q := 316) (by first | assumption | rfl) (wr_eq (by omega)) (by omega) dL_law_315 rfl ?_
              refine go_iinc (j := 14) (q := 319) (ls2 := [_, _, _, _, _, _, _, _, _, _, _, _, _, _, _, _, _, _, _, _, _]) rfl (by decide) rfl rfl dL_law_316 rfl ?_
              refine go_goto (q := 217) dL_law_319 (by decide) ?_
              exact ih217 _ (by omega) (k + 1) _ _ _ (by omega) (by omega) (fun c k h => by rw [mup_ne (Or.inl h)]; exact f2 c k h) (by
                intro j hj
                by_cases q : j = k
                · rw [q, ← hx, ← hy, mup_eq]
                · rw [mup_ne (Or.inr (by have := dne (n := n) (show j < k by omega) hn.1 hn.2; rw [← hx, ← hy] at this; exact this))]; exact hd j (by omega)) rfl
        exact lp217 _ 0 _ _ _ rfl (by omega) f1 (fun j h => absurd h (Nat.not_lt_zero j)) rfl
      · refine go_aload_n (j := 3) (q := 204) rfl rfl dL_law_203 rfl ?_
        refine go_iload (j := 14) (q := 206) rfl dL_law_204 rfl ?_
        refine go_iconst (q := 207) dL_law_206 rfl ?_
        refine go_iast (j := i) (q := 208) (by first | assumption | rfl) (wr_eq (by omega)) (by omega) dL_law_207 rfl ?_
        refine go_iinc (j := 14) (q := 211) (ls2 := [_, _, _, _, _, _, _, _, _, _, _, _, _, _, _, _, _, _, _, _, _]) rfl (by decide) rfl rfl dL_law_208 rfl ?_
        refine go_goto (q := 196) dL_law_211 (by decide) ?_
        exact ih196 _ (by omega) (i + 1) _ _ (by omega) (by omega) (fun c k h => by rw [mup_ne (Or.inl h)]; exact f1 c k h) rfl
    exact lp196 _ 0 _ _ rfl (by omega) (fun c k _ => rfl) rfl
  · exact absurd (hv.trans g0.symm) c183
theorem lk_lin (hN : NxL l D ck ad B ti K) (hP : PXW w W) (hX : LX w W) (hn : 1 ≤ ni ∧ ni ≤ 6) (hf : 0 ≤ fi ∧ fi ≤ 5) (hk : 0 ≤ ki ∧ ki < 3) :
    gL_law l D ck ad shA B VT 139 [some (vR 2000), some (vR 0), some (vR 45), some (vR 46), some (vR 47), some (vI ti), some (vI xi), some (vI yi), some (vI ki), some (vI ni), some (vI fi), some (vI ai), some (vI bi), none, none, none, none, none, none, none, none] [] w K := by
  obtain ⟨n, rfl⟩ : ∃ n : Nat, ni = (n : Int) := ⟨ni.toNat, by omega⟩
  refine go_iload (j := 8) (q := 141) rfl dL_law_139 rfl ?_
  refine go_if_ne2 (q := 144) (t := 153) dL_law_141 (by decide) rfl (by omega) (fun c141 => ?_) (fun c141 => ?_)
  · refine go_iload (j := 8) (q := 155) rfl dL_law_153 rfl ?_
    refine go_iconst (q := 156) dL_law_155 rfl ?_
    refine go_icmp_ne2 (q := 159) (t := 168) dL_law_156 (by decide) rfl (by omega) (fun c156 => ?_) (fun c156 => ?_)
    · refine go_aload_n (j := 1) (q := 169) rfl rfl dL_law_168 rfl ?_
      refine go_iload (j := 9) (q := 171) rfl dL_law_169 rfl ?_
      refine go_iload (j := 10) (q := 173) rfl dL_law_171 rfl ?_
      refine go_callVi (as := [_, _, _]) (As := [_, _]) (rest := []) (n := 2) (q := 176) dL_law_173 lk_L_141 (ci := 6) (N := 7) (T := TX6) rfl (by first | assumption | rfl) rfl rfl (by decide +kernel) rfl ⟨by decide, by decide⟩ ⟨rfl, rfl⟩ (Nat.le_of_ble_eq_true rfl) (ex2 hP (by omega) (by omega)) rfl (fun x173 w173 h173 => ?_)
      obtain ⟨e173, hP173, f173⟩ := h173
      have eo : op2 W (n : Int) fi = ((wN W : Int), psh W (tS W n (linF n fi))) := by unfold op2; rw [cif_t (by omega)]; rfl
      rw [eo] at e173 hP173
      refine go_istore (j := 13) (q := 178) (ls2 := [_, _, _, _, _, _, _, _, _, _, _, _, _, _, _, _, _, _, _, _, _]) (by decide) rfl rfl dL_law_176 rfl ?_
      exact lk_lin0 hN hP173 (LX_same hX (fun c k h1 _ => f173 c k h1)) (by omega) e173 (Or.inr (Or.inr ⟨by omega, rfl, hf⟩))
      skip
    · refine go_aload_n (j := 1) (q := 160) rfl rfl dL_law_159 rfl ?_
      refine go_iload (j := 9) (q := 162) rfl dL_law_160 rfl ?_
      refine go_callVi (as := [_, _]) (As := [_]) (rest := []) (n := 1) (q := 165) dL_law_162 lk_L_138 (ci := 6) (N := 7) (T := TX6) rfl (by first | assumption | rfl) rfl rfl (by decide +kernel) rfl ⟨by decide, by decide⟩ ⟨rfl, rfl⟩ (Nat.le_of_ble_eq_true rfl) (ex1 hP (by omega)) rfl (fun x162 w162 h162 => ?_)
      obtain ⟨e162, hP162, f162⟩ := h162
      have eo : op1 W (n : Int) = ((wN W : Int), psh W (tS W n (linF n (-1)))) := by unfold op1; rw [cif_t (by omega)]; rfl
      rw [eo] at e162 hP162
      refine go_goto (q := 176) dL_law_165 (by decide) ?_
      refine go_istore (j := 13) (q := 178) (ls2 := [_, _, _, _, _, _, _, _, _, _, _, _, _, _, _, _, _, _, _, _, _]) (by decide) rfl rfl dL_law_176 rfl ?_
      exact lk_lin0 hN hP162 (LX_same hX (fun c k h1 _ => f162 c k h1)) (by omega) e162 (Or.inr (Or.inl ⟨by omega, rfl⟩))
      skip
  · refine go_aload_n (j := 1) (q := 145) rfl rfl dL_law_144 rfl ?_
    refine go_iload (j := 9) (q := 147) rfl dL_law_145 rfl ?_
    refine go_callVi (as := [_, _]) (As := [_]) (rest := []) (n := 1) (q := 150) dL_law_147 lk_L_135 (ci := 6) (N := 7) (T := TX6) rfl (by first | assumption | rfl) rfl rfl (by decide +kernel) rfl ⟨by decide, by decide⟩ ⟨rfl, rfl⟩ (Nat.le_of_ble_eq_true rfl) (ex0 hP (by omega)) rfl (fun x147 w147 h147 => ?_)
    obtain ⟨e147, hP147, f147⟩ := h147
    have eo : op0 W (n : Int) = ((wN W : Int), psh W (tS W n (linF n 1))) := by unfold op0; rw [cif_t (by omega)]; rfl
    rw [eo] at e147 hP147
    refine go_goto (q := 176) dL_law_150 (by decide) ?_
    refine go_istore (j := 13) (q := 178) (ls2 := [_, _, _, _, _, _, _, _, _, _, _, _, _, _, _, _, _, _, _, _, _]) (by decide) rfl rfl dL_law_176 rfl ?_
    exact lk_lin0 hN hP147 (LX_same hX (fun c k h1 _ => f147 c k h1)) (by omega) e147 (Or.inl ⟨by omega, rfl⟩)
    skip
theorem lk_set (hN : NxL l D ck ad B ti K) (hP : PXW w W) (hX : LX w W) :
    gL_law l D ck ad shA B VT 584 [some (vR 2000), some (vR 0), some (vR 45), some (vR 46), some (vR 47), some (vI ti), some (vI xi), some (vI yi), some (vI ki), some (vI ni), some (vI fi), some (vI ai), some (vI bi), none, none, none, none, none, none, none, none] [] w K := by
  have g0 : w 45 0 = (wN W : Int) := hX.1.1
  have hn := hX.1.2.1
  refine go_iload (j := 7) (q := 586) rfl dL_law_584 rfl ?_
  refine go_aload_n (j := 2) (q := 587) rfl rfl dL_law_586 rfl ?_
  refine go_iconst (q := 588) dL_law_587 rfl ?_
  refine go_iald (j := 0) (q := 589) (by first | assumption | rfl) (wr_eq (by omega)) (by omega) dL_law_588 rfl ?_
  refine go_callSi (as := [_, _]) (rest := []) (n := 2) (q := 592) dL_law_589 lk_L_29 rfl (by decide +kernel) rfl ⟨by decide, by decide⟩ ⟨rfl, rfl⟩ (Nat.le_of_ble_eq_true rfl) (el_low (by omega)) rfl (fun x589 w589 h589 => ?_)
  obtain ⟨h589, rfl⟩ := h589
  refine go_istore (j := 13) (q := 594) (ls2 := [_, _, _, _, _, _, _, _, _, _, _, _, _, _, _, _, _, _, _, _, _]) (by decide) rfl rfl dL_law_592 rfl ?_
  refine go_iload (j := 7) (q := 596) rfl dL_law_594 rfl ?_
  refine go_iconst (q := 597) dL_law_596 rfl ?_
  refine go_ishr (q := 598) dL_law_597 rfl ?_
  refine go_aload_n (j := 2) (q := 599) rfl rfl dL_law_598 rfl ?_
  refine go_iconst (q := 600) dL_law_599 rfl ?_
  refine go_iald (j := 0) (q := 601) (by first | assumption | rfl) (wr_eq (by omega)) (by omega) dL_law_600 rfl ?_
  refine go_callSi (as := [_, _]) (rest := []) (n := 2) (q := 604) dL_law_601 lk_L_29 rfl (by decide +kernel) rfl ⟨by decide, by decide⟩ ⟨rfl, rfl⟩ (Nat.le_of_ble_eq_true rfl) (el_low (by omega)) rfl (fun x601 w601 h601 => ?_)
  obtain ⟨h601, rfl⟩ := h601
  refine go_istore (j := 14) (q := 606) (ls2 := [_, _, _, _, _, _, _, _, _, _, _, _, _, _, _, _, _, _, _, _, _]) (by decide) rfl rfl dL_law_604 rfl ?_
  refine go_iload (j := 7) (q := 608) rfl dL_law_606 rfl ?_
  refine go_bipush (q := 610) rfl dL_law_608 rfl ?_
  refine go_ishr (q := 611) dL_law_610 rfl ?_
  refine go_aload_n (j := 2) (q := 612) rfl rfl dL_law_611 rfl ?_
  refine go_iconst (q := 613) dL_law_612 rfl ?_
  refine go_iald (j := 0) (q := 614) (by first | assumption | rfl) (wr_eq (by omega)) (by omega) dL_law_613 rfl ?_
  refine go_callSi (as := [_, _]) (rest := []) (n := 2) (q := 617) dL_law_614 lk_L_29 rfl (by decide +kernel) rfl ⟨by decide, by decide⟩ ⟨rfl, rfl⟩ (Nat.le_of_ble_eq_true rfl) (el_low (by omega)) rfl (fun x614 w614 h614 => ?_)
  obtain ⟨h614, rfl⟩ := h614
  refine go_istore (j := 15) (q := 619) (ls2 := [_, _, _, _, _, _, _, _, _, _, _, _, _, _, _, _, _, _, _, _, _]) (by decide) rfl rfl dL_law_617 rfl ?_
  refine go_aload_n (j := 1) (q := 620) rfl rfl dL_law_619 rfl ?_
  refine go_iload (j := 13) (q := 622) rfl dL_law_620 rfl ?_
  refine go_iload (j := 14) (q := 624) rfl dL_law_622 rfl ?_
  refine go_iload (j := 15) (q := 626) rfl dL_law_624 rfl ?_
  refine go_callVi (as := [_, _, _, _]) (As := [_, _, _]) (rest := []) (n := 3) (q := 629) dL_law_626 lk_L_147 (ci := 6) (N := 7) (T := TX6) rfl (by first | assumption | rfl) rfl rfl (by decide +kernel) rfl ⟨by decide, by decide⟩ ⟨rfl, rfl⟩ (Nat.le_of_ble_eq_true rfl) (ex4 hP (by omega) (by omega) (by omega)) rfl (fun x626 w626 h626 => ?_)
  obtain ⟨e626, hP626, f626⟩ := h626
  have hX626 := LX_same hX (fun c k h1 _ => f626 c k h1)
  have eo : op4 W x589 x601 x614 = ((wF W x589.toNat x601.toNat : Int), psh W (tS W (wN W) (upF (wF W) x589.toNat x601.toNat x614.toNat))) := by unfold op4; rw [cif_t (by omega)]
  rw [eo] at e626 hP626
  have hd := hX626.1.2.2 x589.toNat x601.toNat (by omega) (by omega)
  have hd1 : w626 46 (6 * x589.toNat + x601.toNat) = (wF W x589.toNat x601.toNat : Int) := hd.1
  have e626b : x626 = (wF W x589.toNat x601.toNat : Int) := e626
  refine go_aload_n (j := 3) (q := 630) rfl rfl dL_law_629 rfl ?_
  refine go_bipush (q := 632) rfl dL_law_630 rfl ?_
  refine go_iload (j := 13) (q := 634) rfl dL_law_632 rfl ?_
  refine go_imul (q := 635) dL_law_634 rfl ?_
  refine go_iload (j := 14) (q := 637) rfl dL_law_635 rfl ?_
  refine go_iadd (q := 638) dL_law_637 rfl ?_
  refine go_iald (j := 6 * x589.toNat + x601.toNat) (q := 639) (by first | assumption | rfl) (wr_eq (by omega)) (by omega) dL_law_638 rfl ?_
  rw [hd1]
  refine go_icmp_eq2 (q := 642) (t := 644) dL_law_639 (by decide) rfl (by omega) (fun c639 => ?_) (fun c639 => ?_)
  · refine go_aload_n (j := 3) (q := 645) rfl rfl dL_law_644 rfl ?_
    refine go_bipush (q := 647) rfl dL_law_645 rfl ?_
    refine go_iload (j := 13) (q := 649) rfl dL_law_647 rfl ?_
    refine go_imul (q := 650) dL_law_649 rfl ?_
    refine go_iload (j := 14) (q := 652) rfl dL_law_650 rfl ?_
    refine go_iadd (q := 653) dL_law_652 rfl ?_
    refine go_iload (j := 15) (q := 655) rfl dL_law_653 rfl ?_
    refine go_iast (j := 6 * x589.toNat + x601.toNat) (q := 656) (by first | assumption | rfl) (wr_eq (by omega)) (by omega) dL_law_655 rfl ?_
    refine go_goto (q := 1576) dL_law_656 (by decide) ?_
    refine hN _ _ _ _ _ _ _ _ _ _ _ _ _ _ _ _ (psh W (tS W (wN W) (upF (wF W) x589.toNat x601.toNat x614.toNat))) (PXW_q hP626 (fun c k h => mup_ne (by omega))) ⟨⟨by rw [mup_ne (by omega)]; exact hX626.1.1, hn, fun i j hi hj => ?_⟩, by rw [mup_ne (by omega)]; exact hX626.2.1, LC_same hX626.2.2 (mup_ne (by omega)) (fun k => mup_ne (by omega))⟩
    change i < wN W at hi
    change j < wN W at hj
    show mup w626 46 (6 * x589.toNat + x601.toNat) x614 46 (6 * i + j) = ((if i = x589.toNat ∧ j = x601.toNat then x614.toNat else wF W i j : Nat) : Int) ∧ (if i = x589.toNat ∧ j = x601.toNat then x614.toNat else wF W i j) < wN W
    by_cases q : i = x589.toNat ∧ j = x601.toNat
    · rw [if_pos q, q.1, q.2, mup_eq]; omega
    · rw [if_neg q, mup_ne (by omega)]; exact hX626.1.2.2 i j hi hj
  · exact absurd e626b c639
theorem lk_new (hN : NxL l D ck ad B ti K) (hP : PXW w W) (hX : LX w W) :
    gL_law l D ck ad shA B VT 847 [some (vR 2000), some (vR 0), some (vR 45), some (vR 46), some (vR 47), some (vI ti), some (vI xi), some (vI yi), some (vI ki), some (vI ni), some (vI fi), some (vI ai), some (vI bi), none, none, none, none, none, none, none, none] [] w K := by
  have g1 : w 45 1 = (wA W : Int) := hX.2.1
  have hB := LB_of hP
  have ha := hB.1
  refine go_iconst (q := 848) dL_law_847 rfl ?_
  refine go_iload (j := 7) (q := 850) rfl dL_law_848 rfl ?_
  refine go_iconst (q := 851) dL_law_850 rfl ?_
  refine go_callSi (as := [_, _]) (rest := [_]) (n := 2) (q := 854) dL_law_851 lk_L_29 rfl (by decide +kernel) rfl ⟨by decide, by decide⟩ ⟨rfl, rfl⟩ (Nat.le_of_ble_eq_true rfl) (el_low (by omega)) rfl (fun x851 w851 h851 => ?_)
  obtain ⟨h851, rfl⟩ := h851
  refine go_iadd (q := 855) dL_law_854 rfl ?_
  refine go_istore (j := 13) (q := 857) (ls2 := [_, _, _, _, _, _, _, _, _, _, _, _, _, _, _, _, _, _, _, _, _]) (by decide) rfl rfl dL_law_855 rfl ?_
  refine go_aload_n (j := 1) (q := 858) rfl rfl dL_law_857 rfl ?_
  refine go_iload (j := 13) (q := 860) rfl dL_law_858 rfl ?_
  refine go_callVi (as := [_, _]) (As := [_]) (rest := []) (n := 1) (q := 863) dL_law_860 lk_L_154 (ci := 6) (N := 7) (T := TX6) rfl (by first | assumption | rfl) rfl rfl (by decide +kernel) rfl ⟨by decide, by decide⟩ ⟨rfl, rfl⟩ (Nat.le_of_ble_eq_true rfl) (ex18 hP (by omega)) rfl (fun x860 w860 h860 => ?_)
  obtain ⟨e860, hP860, f860⟩ := h860
  have hX860 := LX_same hX (fun c k h1 _ => f860 c k h1)
  have eo : op18 W (1 + x851) = ((wA W : Int), psh W (dS W (1 + x851).toNat 0 (wG W) (wS W))) := by unfold op18; rw [cif_t (by omega)]
  rw [eo] at e860 hP860
  have e860b : x860 = (wA W : Int) := e860
  have g1b : w860 45 1 = (wA W : Int) := hX860.2.1
  refine go_aload_n (j := 2) (q := 864) rfl rfl dL_law_863 rfl ?_
  refine go_iconst (q := 865) dL_law_864 rfl ?_
  refine go_iald (j := 1) (q := 866) (by first | assumption | rfl) (wr_eq (by omega)) (by omega) dL_law_865 rfl ?_
  refine go_icmp_eq2 (q := 869) (t := 871) dL_law_866 (by decide) rfl (by omega) (fun c866 => ?_) (fun c866 => ?_)
  · refine go_aload_n (j := 2) (q := 872) rfl rfl dL_law_871 rfl ?_
    refine go_iconst (q := 873) dL_law_872 rfl ?_
    refine go_iload (j := 13) (q := 875) rfl dL_law_873 rfl ?_
    refine go_iast (j := 1) (q := 876) (by first | assumption | rfl) (wr_eq (by omega)) (by omega) dL_law_875 rfl ?_
    refine go_aload_n (j := 2) (q := 877) rfl rfl dL_law_876 rfl ?_
    refine go_iconst (q := 878) dL_law_877 rfl ?_
    refine go_iconst (q := 879) dL_law_878 rfl ?_
    refine go_iast (j := 2) (q := 880) (by first | assumption | rfl) (wr_eq (by omega)) (by omega) dL_law_879 rfl ?_
    refine go_goto (q := 1576) dL_law_880 (by decide) ?_
    exact hN _ _ _ _ _ _ _ _ _ _ _ _ _ _ _ _ (psh W (dS W (1 + x851).toNat 0 (wG W) (wS W))) (PXW_q hP860 (fun c k h => by rw [mup_ne (by omega), mup_ne (by omega)])) ⟨TB_copy hX860.1 (by rw [mup_ne (by omega), mup_ne (by omega)]) (fun k _ => by rw [mup_ne (by omega), mup_ne (by omega)]), by rw [mup_ne (by omega), mup_eq]; show (1 + x851 : Int) = (((1 + x851).toNat : Nat) : Int); omega, ⟨by rw [mup_eq]; rfl, Nat.zero_le _, fun k hk => absurd hk (Nat.not_lt_zero k)⟩⟩
  · exact absurd (e860b.trans g1b.symm) c866
end LAW8
