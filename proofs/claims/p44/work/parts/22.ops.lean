/-! the whole state, and what each call answers and leaves -/
abbrev WA : Type := SS × ((Nat × (Nat → SS)) × (Nat × (Nat → Nat)))
abbrev wN (W : WA) : Nat := W.1.1.1
abbrev wF (W : WA) : Nat → Nat → Nat := W.1.1.2
abbrev wA (W : WA) : Nat := W.1.2.1.1
abbrev wC (W : WA) : Nat := W.1.2.1.2
abbrev wG (W : WA) : Nat → Nat → Nat := W.1.2.2.1
abbrev wS (W : WA) : Nat → Int := W.1.2.2.2
abbrev wHc (W : WA) : Nat := W.2.1.1
abbrev wH (W : WA) : Nat → SS := W.2.1.2
abbrev wL (W : WA) : Nat := W.2.2.1
abbrev wT (W : WA) : Nat → Nat := W.2.2.2
def psh (W : WA) (S : SS) : WA := (S, ((min (wHc W + 1) 6, hpush (wHc W) (wH W) W.1), W.2.2))
def tS (W : WA) (n : Nat) (f : Nat → Nat → Nat) : SS := ((n, f), W.1.2)
def dS (W : WA) (a c : Nat) (g : Nat → Nat → Nat) (s : Nat → Int) : SS := (W.1.1, ((a, c), (g, s)))
def txW (W : WA) (l : Nat) (t : Nat → Nat) : WA := (W.1, (W.2.1, (l, t)))
noncomputable def the (P : Int → Prop) : Int := Classical.epsilon P
theorem the_eq {P : Int → Prop} {v : Int} (h : P v) (hu : ∀ u, P u → u = v) : v = the P := (hu _ (Classical.epsilon_spec ⟨v, h⟩)).symm
noncomputable def cif {α : Type} (P : Prop) (a b : α) : α := @ite α P (Classical.propDecidable P) a b
theorem cif_t {α : Type} {P : Prop} {a b : α} (h : P) : cif P a b = a := @if_pos P (Classical.propDecidable P) h α a b
theorem cif_f {α : Type} {P : Prop} {a b : α} (h : ¬ P) : cif P a b = b := @if_neg P (Classical.propDecidable P) h α a b
abbrev el (n : Nat) (x : Int) : Prop := 0 ≤ x ∧ x < (n : Int)
def upF (f : Nat → Nat → Nat) (a b v : Nat) : Nat → Nat → Nat := fun i j => if i = a ∧ j = b then v else f i j
def sArc (q : Nat) : Nat := (L_arcs.getD q 0).toNat
def sSt (q : Nat) : Nat := (L_starts.getD q 0).toNat
def sCnt (q : Nat) : Nat := sSt (q + 1) - sSt q
def stG (q : Nat) : Nat → Nat → Nat := fun k p => (L_cross.getD (4 * (sSt q + k) + p) 0).toNat
def stS (q : Nat) : Nat → Int := fun k => L_cross.getD (4 * (sSt q + k) + 3) 0
def prt (g : Nat → Nat → Nat) (s : Nat → Int) (k p : Nat) : Int := if p = 3 then s k else (g k p : Int)
noncomputable def op0 (W : WA) (x : Int) : Int × WA := cif (1 ≤ x ∧ x ≤ 6) ((wN W : Int), psh W (tS W x.toNat (linF x.toNat 1))) (-2, W)
noncomputable def op1 (W : WA) (x : Int) : Int × WA := cif (1 ≤ x ∧ x ≤ 6) ((wN W : Int), psh W (tS W x.toNat (linF x.toNat (-1)))) (-2, W)
noncomputable def op2 (W : WA) (x y : Int) : Int × WA := cif ((1 ≤ x ∧ x ≤ 6) ∧ (0 ≤ y ∧ y ≤ 5)) ((wN W : Int), psh W (tS W x.toNat (linF x.toNat y))) (-2, W)
noncomputable def op3 (W : WA) (x : Int) : Int × WA := cif (2 ≤ x ∧ x ≤ 4) (((x.toNat * (x.toNat - 1) / 2 : Nat) : Int), psh W (tS W (x.toNat * (x.toNat - 1) / 2) (trF x.toNat))) (-2, W)
noncomputable def op4 (W : WA) (x y z : Int) : Int × WA := cif (el (wN W) x ∧ el (wN W) y ∧ el (wN W) z) ((wF W x.toNat y.toNat : Int), psh W (tS W (wN W) (upF (wF W) x.toNat y.toNat z.toNat))) (-1, W)
noncomputable def op5 (W : WA) : Int × WA := cif (∀ y, y < wN W → prm (wN W) (wF W) y) ((c2N (fun x y => decide (invF (wN W) (wF W) x y ≠ wF W x y)) (wN W) (wN W) : Int), psh W (tS W (wN W) (invF (wN W) (wF W)))) (-3, W)
def op6 (W : WA) : Int × WA := ((wN W : Int), W)
noncomputable def op7 (W : WA) (x y : Int) : Int × WA := (cif (el (wN W) x ∧ el (wN W) y) (wF W x.toNat y.toNat : Int) (-1), W)
noncomputable def op8 (W : WA) (x y : Int) : Int × WA := (cif (el (wN W) x ∧ el (wN W) y) (the (isLowP (wN W) (fun z => wF W z y.toNat = x.toNat))) (-1), W)
noncomputable def vio (W : WA) (k : Int) : Int := if k = 1 then the (isLowP (wN W) (fun z => ¬ wF W z z = z)) else if k = 2 then the (isLowP (wN W) (fun z => ¬ prm (wN W) (wF W) z)) else if k = 3 then the (isLow3 (wN W) (wF W)) else -1
noncomputable def op9 (W : WA) (k : Int) : Int × WA := (vio W k, W)
noncomputable def op10 (W : WA) (x : Int) : Int × WA := (cif (el (wN W) x) ((itN (rnd2 (stR (wF W)) (wN W)) (2 ^ x.toNat) (wN W) : Nat) : Int) (-1), W)
def op11 (W : WA) : Int × WA := (((ccF (wN W) (wF W) (wN W)).1 : Int), W)
noncomputable def op12 (W : WA) (x : Int) : Int × WA := (cif (0 ≤ x ∧ x ≤ ((2 ^ wN W - 1 : Nat) : Int)) ((itN (rnd2 (stK (wF W)) (wN W)) x.toNat (wN W) : Nat) : Int) (-2), W)
def op13 (W : WA) : Int × WA := ((lgF (wN W) (wF W) (2 ^ wN W) : Int), W)
noncomputable def op14 (W : WA) (y : Int) : Int × WA := (cif (el (wN W) y) (the (ordT (wN W) (wF W) y.toNat)) (-1), W)
noncomputable def op15 (W : WA) : Int × WA := ((cN (newT (wN W) (wF W)) (wN W) : Int), W)
noncomputable def op16 (W : WA) : Int × WA := (cif (∀ y, y < wN W → prm (wN W) (wF W) y) (grpN (wN W) (wF W) : Int) (-6), W)
noncomputable def op17 (W : WA) : Int × WA := ((autN (wN W) (wF W) : Int), W)
noncomputable def op18 (W : WA) (x : Int) : Int × WA := cif (1 ≤ x ∧ x ≤ 7) ((wA W : Int), psh W (dS W x.toNat 0 (wG W) (wS W))) (-2, W)
noncomputable def op19 (W : WA) (q : Int) : Int × WA := cif (0 ≤ q ∧ q ≤ 5) ((sCnt q.toNat : Int), psh W (dS W (sArc q.toNat) (sCnt q.toNat) (stG q.toNat) (stS q.toNat))) (-1, W)
noncomputable def op20 (W : WA) (o i u v : Int) : Int × WA := cif (el (wA W) o ∧ el (wA W) i ∧ el (wA W) u) (cif (v = 1 ∨ v = -1) (cif (wC W < 10) ((wC W : Int), psh W (dS W (wA W) (wC W + 1) (gap (wG W) (wC W) o.toNat i.toNat u.toNat) (sap (wS W) (wC W) v))) (-4, W)) (-2, W)) (-1, W)
noncomputable def op21 (W : WA) (q : Int) : Int × WA := cif (el (wC W) q) (((wC W - 1 : Nat) : Int), psh W (dS W (wA W) (wC W - 1) (grm (wG W) q.toNat) (srm (wS W) q.toNat))) (-1, W)
noncomputable def op22 (W : WA) (x v : Int) : Int × WA := cif (el (wA W) x) (cif (v = 1 ∨ v = -1) (cif (wA W < 7 ∧ wC W < 10) ((wA W : Int), psh W (dS W (wA W + 1) (wC W + 1) (gap (gmv (wG W) x.toNat (wA W)) (wC W) x.toNat x.toNat (wA W)) (sap (wS W) (wC W) v))) (-4, W)) (-2, W)) (-1, W)
noncomputable def op23 (W : WA) (x y : Int) : Int × WA := cif (el (wA W) x ∧ el (wA W) y) (cif (wA W ≤ 5 ∧ wC W ≤ 8) (((wA W + 2 : Nat) : Int), psh W (dS W (wA W + 2) (wC W + 2) (gap (gap (gmv (wG W) x.toNat (wA W + 1)) (wC W) y.toNat x.toNat (wA W)) (wC W + 1) y.toNat (wA W) (wA W + 1)) (sap (sap (wS W) (wC W) 1) (wC W + 1) (-1)))) (-4, W)) (-1, W)
def op24 (W : WA) : Int × WA := ((wA W : Int), W)
def op25 (W : WA) : Int × WA := ((wC W : Int), W)
noncomputable def op26 (W : WA) (k p : Int) : Int × WA := (cif (el (wC W) k) (cif (0 ≤ p ∧ p < 4) (prt (wG W) (wS W) k.toNat p.toNat) (-2)) (-1), W)
noncomputable def op27 (W : WA) : Int × WA := (cif (closedD (wA W) (wC W) (wG W)) ((ccG (cmpD (wA W) (wC W) (wG W)) (wA W)).1 : Int) (-6), W)
def op28 (W : WA) : Int × WA := (sumZ (wS W) (wC W) + 100, W)
noncomputable def op29 (W : WA) (x y : Int) : Int × WA := (cif (el (wA W) x ∧ el (wA W) y) (cif (closedD (wA W) (wC W) (wG W)) (lksD (wG W) (wS W) (cmpD (wA W) (wC W) (wG W) x.toNat) (cmpD (wA W) (wC W) (wG W) y.toNat) (wC W) + 100) (-6)) (-1), W)
noncomputable def cnW (W : WA) (E : (Nat → Nat) → Prop) : Int := (cntP (wN W) (wA W) (wC W) (wF W) (wG W) (wS W) E (wN W ^ wA W) : Int)
noncomputable def op30 (W : WA) : Int × WA := (cnW W tt, W)
noncomputable def op31 (W : WA) (x v : Int) : Int × WA := (cif (el (wA W) x ∧ el (wN W) v) (cnW W (eW x.toNat v.toNat)) (-1), W)
noncomputable def op32 (W : WA) (x y : Int) : Int × WA := (cif (el (wA W) x ∧ el (wA W) y) (cnW W (eA x.toNat y.toNat)) (-1), W)
noncomputable def op33 (W : WA) (u : Int) : Int × WA := (cif (1 ≤ u ∧ u ≤ 6) (cnW W (eU (wA W) u.toNat)) (-2), W)
noncomputable def op34 (W : WA) (i x : Int) : Int × WA := (cif (0 ≤ i ∧ el (wA W) x) (the (colA (wN W) (wA W) (wC W) (wF W) (wG W) (wS W) i.toNat x.toNat)) (-1), W)
noncomputable def op35 (W : WA) (x : Int) : Int × WA := cif (33 ≤ x ∧ x ≤ 126) (cif (wL W < 70) (((wL W + 1 : Nat) : Int), txW W (wL W + 1) (fun i => if i = wL W then x.toNat else wT W i)) (-4, W)) (-2, W)
def op36 (W : WA) : Int × WA := ((wL W : Int), txW W 0 (wT W))
noncomputable def op37 (W : WA) : Int × WA := (the (fErr (wL W) (wT W)), W)
noncomputable def op38 (W : WA) : Int × WA := cif (the (fErr (wL W) (wT W)) = -6) (((mxT (gTx (wT W)) ((wL W + 1) / 7) + 1 : Nat) : Int), txW (psh W (dS W (mxT (gTx (wT W)) ((wL W + 1) / 7) + 1) ((wL W + 1) / 7) (gTx (wT W)) (sTx (wT W)))) 0 (wT W)) (-5, W)
noncomputable def op39 (W : WA) : Int × WA := cif (wHc W = 0) (-3, W) (((wHc W - 1 : Nat) : Int), (wH W (wHc W - 1), ((wHc W - 1, wH W), W.2.2)))
def mixZ (h v : Int) : Int := 31 * h + wr v
noncomputable def hsT (W : WA) (h : Int) : Int :=
  mixZ (mixZ (mixZ (mixZ (mixZ (fN (fun k h => mixZ h (vio W ((k + 1 : Nat) : Int))) (fN (fun x h => fN (fun y h => mixZ h (wF W x y : Int)) h (wN W)) (mixZ h (wN W : Int)) (wN W)) 3) (op11 W).1) (op13 W).1) (op15 W).1) (op16 W).1) (op17 W).1
noncomputable def hsD (W : WA) (h : Int) : Int :=
  mixZ (mixZ (fN (fun k h => fN (fun p h => mixZ h (prt (wG W) (wS W) k p)) h 4) (mixZ (mixZ h (wA W : Int)) (wC W : Int)) (wC W)) (op27 W).1) (op28 W).1
noncomputable def hsC (W : WA) (h : Int) : Int := fN (fun u h => mixZ h (cnW W (eU (wA W) (u + 1)))) (mixZ h (cnW W tt)) 6
noncomputable def op40 (W : WA) : Int × WA := (hsC W (hsD W (hsT W 3102)), W)
theorem low_u {n : Nat} {P : Nat → Prop} {u v : Int} (h : isLowP n P u) (k : isLowP n P v) : u = v := by
  rcases h with ⟨z, h1, h2, h3, h4⟩ | ⟨h1, h2⟩
  · rcases k with ⟨y, k1, k2, k3, k4⟩ | ⟨k1, k2⟩
    · rcases Nat.lt_trichotomy z y with q | q | q
      · exact absurd h3 (k4 z q)
      · omega
      · exact absurd k3 (h4 y q)
    · exact absurd h3 (k2 z h1)
  · rcases k with ⟨y, k1, k2, k3, k4⟩ | ⟨k1, k2⟩
    · exact absurd k3 (h2 y k1)
    · omega
theorem low3_u {n : Nat} {f : Nat → Nat → Nat} {u v : Int} (h : isLow3 n f u) (k : isLow3 n f v) : u = v := by
  rcases h with ⟨x, y, z, h1, h2, h3, h4⟩ | ⟨h1, h2⟩
  · rcases k with ⟨x', y', z', k1, k2, k3, k4⟩ | ⟨k1, k2⟩
    · have a1 := fun q => h4 x' y' z' k1.1 k1.2.1 k1.2.2 q
      have a2 := fun q => k4 x y z h1.1 h1.2.1 h1.2.2 q
      have b1 : ¬ (x' < x ∨ (x' = x ∧ (y' < y ∨ (y' = y ∧ z' < z)))) := fun q => a1 q k3
      have b2 : ¬ (x < x' ∨ (x = x' ∧ (y < y' ∨ (y = y' ∧ z < z')))) := fun q => a2 q h3
      omega
    · exact absurd h3 (k2 x y z h1.1 h1.2.1 h1.2.2)
  · rcases k with ⟨x', y', z', k1, k2, k3, k4⟩ | ⟨k1, k2⟩
    · exact absurd k3 (h2 x' y' z' k1.1 k1.2.1 k1.2.2)
    · omega
theorem ord_u {n y : Nat} {f : Nat → Nat → Nat} {u v : Int} (h : ordT n f y u) (k : ordT n f y v) : u = v := by
  rcases h with ⟨h0, h1⟩ | ⟨h0, o, h1, h2, h3, h4⟩
  · rcases k with ⟨k0, k1⟩ | ⟨k0, o', k1, k2, k3, k4⟩
    · omega
    · exact absurd k0 h0
  · rcases k with ⟨k0, k1⟩ | ⟨k0, o', k1, k2, k3, k4⟩
    · exact absurd h0 k0
    · rcases Nat.lt_trichotomy o o' with q | q | q
      · rcases h4 with h4 | h4
        · omega
        · exact absurd h4 (k3 o h2.1 q)
      · omega
      · rcases k4 with k4 | k4
        · omega
        · exact absurd k4 (h3 o' k2.1 q)
theorem fErr_u {len : Nat} {ch : Nat → Nat} {u v : Int} (h : fErr len ch u) (k : fErr len ch v) : u = v := by
  rcases h with ⟨i, h1, h2, h3, h4⟩ | ⟨h1, h2⟩
  · rcases k with ⟨j, k1, k2, k3, k4⟩ | ⟨k1, k2⟩
    · rcases Nat.lt_trichotomy i j with q | q | q
      · exact absurd (k4 i q) h3
      · omega
      · exact absurd (h4 j q) k3
    · exact absurd (k1 i h1) h3
  · rcases k with ⟨j, k1, k2, k3, k4⟩ | ⟨k1, k2⟩
    · exact absurd (h1 j k1) k3
    · rw [h2, k2]
theorem cN_mono {p : Nat → Bool} {a b : Nat} (h : a ≤ b) : cN p a ≤ cN p b := by
  induction b with
  | zero => rw [show a = 0 by omega]; exact Nat.le_refl _
  | succ b ih =>
    by_cases q : a = b + 1
    · rw [q]; exact Nat.le_refl _
    · exact Nat.le_trans (ih (by omega)) (Nat.le_add_right _ _)
theorem cnt_one {n a c : Nat} {f g : Nat → Nat → Nat} {s : Nat → Int} {E : (Nat → Nat) → Prop} {col : Nat → Nat} (hga : ∀ k, k < c → lastA g k < a) (hE : cgr a E) (hc : ∀ i, i < a → col i < n) (hi : isColP c f g s col) (h : E col) : cntP n a c f g s E (Vn n col a + 1) = cntP n a c f g s E (Vn n col a) + 1 :=
  cnt_hit hga hE hc hi (Nat.le_refl _) (fun r h1 h2 => absurd h2 (by omega)) h
theorem colA_u {n a c i x : Nat} {f g : Nat → Nat → Nat} {s : Nat → Int} {u v : Int} (hga : ∀ k, k < c → lastA g k < a) (hx : x < a) (h : colA n a c f g s i x u) (k : colA n a c f g s i x v) : u = v := by
  have key : ∀ c1 c2 : Nat → Nat, (∀ j, j < a → c1 j < n) → isColP c f g s c1 → cntP n a c f g s tt (Vn n c1 a) = i → cntP n a c f g s tt (Vn n c2 a) = i → ¬ Vn n c1 a < Vn n c2 a := by
    intro c1 c2 h1 h2 h3 h4 q
    have e1 := cnt_one hga tt_cgr h1 h2 (show tt c1 from trivial)
    have e2 : cntP n a c f g s tt (Vn n c1 a + 1) ≤ cntP n a c f g s tt (Vn n c2 a) := cN_mono q
    omega
  have k2 : ∀ c1 : Nat → Nat, (∀ j, j < a → c1 j < n) → isColP c f g s c1 → cntP n a c f g s tt (Vn n c1 a) = i → cntP n a c f g s tt (n ^ a) ≤ i → False := by
    intro c1 h1 h2 h3 h4
    have e1 := cnt_one hga tt_cgr h1 h2 (show tt c1 from trivial)
    have e2 : cntP n a c f g s tt (Vn n c1 a + 1) ≤ cntP n a c f g s tt (n ^ a) := cN_mono (V_lt a h1)
    omega
  rcases h with ⟨c1, h1, h2, h3, h4⟩ | ⟨h1, h2⟩
  · rcases k with ⟨c2, j1, j2, j3, j4⟩ | ⟨j1, j2⟩
    · have q1 := key c1 c2 h1 h2 h3 j3
      have q2 := key c2 c1 j1 j2 j3 h3
      have e := V_inj a h1 j1 (by omega) x hx
      rw [h4, j4, e]
    · exact (k2 c1 h1 h2 h3 j1).elim
  · rcases k with ⟨c2, j1, j2, j3, j4⟩ | ⟨j1, j2⟩
    · exact (k2 c2 j1 j2 j3 h1).elim
    · rw [h2, j2]
