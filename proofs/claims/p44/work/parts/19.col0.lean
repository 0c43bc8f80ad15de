/-! words of digits, and the search through them -/
def Vn (n : Nat) (col : Nat → Nat) : Nat → Nat
  | 0 => 0
  | j + 1 => Vn n col j * n + col j
theorem V_congr {n : Nat} {c1 c2 : Nat → Nat} : ∀ j, (∀ i, i < j → c1 i = c2 i) → Vn n c1 j = Vn n c2 j
  | 0, _ => rfl
  | j + 1, h => by simp only [Vn]; rw [V_congr j (fun i hi => h i (by omega)), h j (by omega)]
theorem digs {n a b x y : Nat} (hx : x < n) (hy : y < n) (h : a * n + x = b * n + y) : a = b ∧ x = y := by
  have h1 : (a * n + x) / n = a := by rw [Nat.mul_comm, Nat.mul_add_div (by omega), Nat.div_eq_of_lt hx]; rfl
  have h2 : (b * n + y) / n = b := by rw [Nat.mul_comm, Nat.mul_add_div (by omega), Nat.div_eq_of_lt hy]; rfl
  have e : a = b := by rw [← h1, h, h2]
  subst e
  exact ⟨rfl, by omega⟩
theorem V_inj {n : Nat} {c1 c2 : Nat → Nat} : ∀ j, (∀ i, i < j → c1 i < n) → (∀ i, i < j → c2 i < n) → Vn n c1 j = Vn n c2 j → ∀ i, i < j → c1 i = c2 i
  | 0, _, _, _, i, h => absurd h (Nat.not_lt_zero i)
  | j + 1, h1, h2, h, i, hi => by
    obtain ⟨e1, e2⟩ := digs (h1 j (by omega)) (h2 j (by omega)) h
    by_cases q : i = j
    · rw [q]; exact e2
    · exact V_inj j (fun i hi => h1 i (by omega)) (fun i hi => h2 i (by omega)) e1 i (by omega)
theorem V_lt {n : Nat} {col : Nat → Nat} : ∀ j, (∀ i, i < j → col i < n) → Vn n col j < n ^ j
  | 0, _ => by simp [Vn]
  | j + 1, h => by
    have h1 := V_lt j (fun i hi => h i (by omega))
    have h2 := h j (by omega)
    have h3 : (Vn n col j + 1) * n ≤ n ^ j * n := Nat.mul_le_mul_right n h1
    rw [Nat.succ_mul] at h3
    rw [Nat.pow_succ]
    show Vn n col j * n + col j < _
    omega
theorem V_split {n m : Nat} {col : Nat → Nat} : ∀ d, (∀ i, i < m + d → col i < n) → Vn n col m * n ^ d ≤ Vn n col (m + d) ∧ Vn n col (m + d) < (Vn n col m + 1) * n ^ d
  | 0, _ => by simp
  | d + 1, h => by
    obtain ⟨h1, h2⟩ := V_split (m := m) d (fun i hi => h i (by omega))
    have h3 := h (m + d) (by omega)
    have h4 := Nat.mul_le_mul_right n h1
    have h5 : (Vn n col (m + d) + 1) * n ≤ (Vn n col m + 1) * n ^ d * n := Nat.mul_le_mul_right n h2
    rw [Nat.succ_mul] at h5
    rw [Nat.pow_succ, ← Nat.mul_assoc, ← Nat.mul_assoc]
    show _ ≤ Vn n col (m + d) * n + col (m + d) ∧ Vn n col (m + d) * n + col (m + d) < _
    omega
theorem V_pre {n m a X : Nat} {col : Nat → Nat} (hm : m ≤ a) (h : ∀ i, i < a → col i < n) (h1 : X * n ^ (a - m) ≤ Vn n col a) (h2 : Vn n col a < (X + 1) * n ^ (a - m)) : Vn n col m = X := by
  obtain ⟨h3, h4⟩ := V_split (n := n) (m := m) (col := col) (a - m) (fun i hi => h i (by omega))
  rw [show m + (a - m) = a by omega] at h3 h4
  have q1 : Vn n col m < X + 1 := Nat.lt_of_mul_lt_mul_right (Nat.lt_of_le_of_lt h3 h2)
  have q2 : X < Vn n col m + 1 := Nat.lt_of_mul_lt_mul_right (Nat.lt_of_le_of_lt h1 h4)
  omega
def cset (col : Nat → Nat) (j v : Nat) : Nat → Nat := fun i => if i = j then v else col i
theorem cset_eq {col : Nat → Nat} {j v : Nat} : cset col j v j = v := by simp [cset]
theorem cset_ne {col : Nat → Nat} {j v i : Nat} (h : i ≠ j) : cset col j v i = col i := by simp [cset, h]
def cdP (n a : Nat) (P : (Nat → Nat) → Prop) (r : Nat) : Prop := ∃ col, (∀ i, i < a → col i < n) ∧ Vn n col a = r ∧ P col
noncomputable def cdB (n a : Nat) (P : (Nat → Nat) → Prop) (r : Nat) : Bool := @decide (cdP n a P r) (Classical.propDecidable _)
theorem cdB_iff {n a : Nat} {P : (Nat → Nat) → Prop} {r : Nat} : cdB n a P r = true ↔ cdP n a P r := @decide_eq_true_iff _ (Classical.propDecidable _)
def cgr (a : Nat) (P : (Nat → Nat) → Prop) : Prop := ∀ c1 c2 : Nat → Nat, (∀ i, i < a → c1 i = c2 i) → P c1 → P c2
theorem cdP_at {n a : Nat} {P : (Nat → Nat) → Prop} {col : Nat → Nat} (hP : cgr a P) (h : ∀ i, i < a → col i < n) : cdP n a P (Vn n col a) ↔ P col := by
  constructor
  · rintro ⟨c2, h2, h3, h4⟩
    exact hP c2 col (V_inj a h2 h h3) h4
  · intro h2; exact ⟨col, h, rfl, h2⟩
theorem cN_gap {p : Nat → Bool} {a : Nat} : ∀ d, (∀ r, a ≤ r → r < a + d → p r = false) → cN p (a + d) = cN p a
  | 0, _ => rfl
  | d + 1, h => by
    show cN p (a + d) + (if p (a + d) then 1 else 0) = _
    rw [cN_gap d (fun r h1 h2 => h r h1 (by omega)), h (a + d) (by omega) (by omega)]; rfl
theorem cN_gap2 {p : Nat → Bool} {a b : Nat} (hab : a ≤ b) (h : ∀ r, a ≤ r → r < b → p r = false) : cN p b = cN p a := by
  have := cN_gap (p := p) (a := a) (b - a) (fun r h1 h2 => h r h1 (by omega))
  rw [show a + (b - a) = b by omega] at this; exact this
def metP (f g : Nat → Nat → Nat) (s : Nat → Int) (col : Nat → Nat) (k : Nat) : Prop := (s k = 1 → col (g k 2) = f (col (g k 1)) (col (g k 0))) ∧ (s k ≠ 1 → col (g k 1) = f (col (g k 2)) (col (g k 0)))
def lastA (g : Nat → Nat → Nat) (k : Nat) : Nat := max (g k 0) (max (g k 1) (g k 2))
def isColP (c : Nat) (f g : Nat → Nat → Nat) (s : Nat → Int) (col : Nat → Nat) : Prop := ∀ k, k < c → metP f g s col k
theorem metP_cgr {f g : Nat → Nat → Nat} {s : Nat → Int} {c1 c2 : Nat → Nat} {k : Nat} (h : ∀ i, i ≤ lastA g k → c1 i = c2 i) : metP f g s c1 k → metP f g s c2 k := by
  intro hm
  have h0 := h (g k 0) (by unfold lastA; omega)
  have h1 := h (g k 1) (by unfold lastA; omega)
  have h2 := h (g k 2) (by unfold lastA; omega)
  unfold metP at *
  rw [← h0, ← h1, ← h2]; exact hm
/-- the numbers of colourings with E -/
noncomputable def cntP (n a c : Nat) (f g : Nat → Nat → Nat) (s : Nat → Int) (E : (Nat → Nat) → Prop) (k : Nat) : Nat := cN (cdB n a (fun col => isColP c f g s col ∧ E col)) k
/-! how far a search is, and how much is left of it -/
def posW (n a : Nat) (jn : Nat) (col : Nat → Nat) (cn : Nat) : Nat := if jn = 0 then n ^ a else (Vn n col (jn - 1) * n + cn) * n ^ (a - jn)
def Tr (n : Nat) : Nat → Nat
  | 0 => 0
  | d + 1 => n * (1 + Tr n d) + 1
def Sr (n a : Nat) (col : Nat → Nat) : Nat → Nat
  | 0 => 0
  | i + 1 => Sr n a col i + ((n - 1 - col i) * (1 + Tr n (a - 1 - i)) + 1)
def remW (n a : Nat) (jn : Nat) (col : Nat → Nat) (cn : Nat) : Nat := if jn = 0 then 0 else (n - cn) * (1 + Tr n (a - jn)) + 1 + Sr n a col (jn - 1)
theorem Tr_b : ∀ n : Fin 7, ∀ a : Fin 8, Tr n a ≤ 391909 := by decide +kernel
theorem pow_b : ∀ n : Fin 7, ∀ a : Fin 8, (n : Nat) ^ (a : Nat) ≤ 279936 := by decide +kernel
theorem Sr_congr {n a : Nat} {c1 c2 : Nat → Nat} : ∀ j, (∀ i, i < j → c1 i = c2 i) → Sr n a c1 j = Sr n a c2 j
  | 0, _ => rfl
  | j + 1, h => by simp only [Sr]; rw [Sr_congr j (fun i hi => h i (by omega)), h j (by omega)]
theorem rem_back {n a j : Nat} {col : Nat → Nat} (hj : j < a) (hc : 0 < j → col (j - 1) < n) : remW n a j col (col (j - 1) + 1) + 1 ≤ remW n a (j + 1) col n := by
  unfold remW
  rcases j with _ | j
  · simp [Sr]
  · simp only [Nat.add_one_ne_zero, if_false, Nat.add_sub_cancel, Nat.sub_self, Nat.zero_mul]
    show _ ≤ _ + (Sr n a col j + ((n - 1 - col j) * (1 + Tr n (a - 1 - j)) + 1))
    rw [show n - (col j + 1) = n - 1 - col j by omega, show a - (j + 1) = a - 1 - j by omega]
    omega
theorem rem_try {n a j cn : Nat} {col : Nat → Nat} (hcn : cn < n) : remW n a (j + 1) col (cn + 1) + 1 ≤ remW n a (j + 1) col cn := by
  unfold remW
  simp only [Nat.add_one_ne_zero, if_false, Nat.add_sub_cancel]
  have e : (n - cn) * (1 + Tr n (a - (j + 1))) = (n - (cn + 1)) * (1 + Tr n (a - (j + 1))) + (1 + Tr n (a - (j + 1))) := by
    rw [show n - cn = (n - (cn + 1)) + 1 by omega, Nat.succ_mul]
  omega
theorem rem_down {n a j cn : Nat} {col : Nat → Nat} (hj : j + 1 < a) (hcn : cn < n) : remW n a (j + 2) (cset col j cn) 0 + 1 ≤ remW n a (j + 1) col cn := by
  unfold remW
  simp only [Nat.add_one_ne_zero, if_false, Nat.add_sub_cancel, Nat.sub_zero]
  rw [show j + 2 - 1 = j + 1 by omega]
  have e : (n - cn) * (1 + Tr n (a - (j + 1))) = (n - 1 - cn) * (1 + Tr n (a - (j + 1))) + (1 + Tr n (a - (j + 1))) := by
    rw [show n - cn = (n - 1 - cn) + 1 by omega, Nat.succ_mul]
  have e2 : Tr n (a - (j + 1)) = n * (1 + Tr n (a - (j + 2))) + 1 := by rw [show a - (j + 1) = (a - (j + 2)) + 1 by omega]; rfl
  have e3 : Sr n a (cset col j cn) (j + 1) = Sr n a col j + ((n - 1 - cn) * (1 + Tr n (a - 1 - j)) + 1) := by
    show Sr n a _ j + ((n - 1 - cset col j cn j) * _ + 1) = _
    rw [cset_eq, Sr_congr j (c2 := col) (fun i hi => cset_ne (by omega))]
  rw [e3, e, show a - 1 - j = a - (j + 1) by omega]
  generalize (n - 1 - cn) * (1 + Tr n (a - (j + 1))) = X at *
  omega
theorem pos_back {n a j : Nat} {col : Nat → Nat} (hj : j < a) : posW n a j col (col (j - 1) + 1) = posW n a (j + 1) col n := by
  unfold posW
  rcases j with _ | j
  · simp only [Nat.add_one_ne_zero, if_true, if_false, Nat.zero_add, Nat.sub_self, Vn, Nat.zero_mul]
    rw [Nat.mul_comm, ← Nat.pow_succ]; congr 1; omega
  · simp only [Nat.add_one_ne_zero, if_false, Nat.add_sub_cancel]
    show _ = ((Vn n col j * n + col j) * n + n) * _
    rw [← Nat.succ_mul, Nat.mul_assoc, Nat.mul_comm n (n ^ _), ← Nat.pow_succ, show (a - (j + 1 + 1)).succ = a - (j + 1) by omega]
    rfl
theorem pos_down {n a j cn : Nat} {col : Nat → Nat} (hj : j + 1 < a) : posW n a (j + 2) (cset col j cn) 0 = posW n a (j + 1) col cn := by
  unfold posW
  rw [if_neg (by omega), if_neg (by omega), show j + 2 - 1 = j + 1 by omega, show j + 1 - 1 = j by omega]
  show ((Vn n _ j * n + cset col j cn j) * n + 0) * _ = _
  rw [cset_eq, V_congr j (c2 := col) (fun i hi => cset_ne (by omega)), Nat.add_zero, Nat.mul_assoc, Nat.mul_comm n (n ^ _), ← Nat.pow_succ, show (a - (j + 2)).succ = a - (j + 1) by omega]
theorem pos_le {n a jn cn : Nat} {col : Nat → Nat} (hj : jn ≤ a) (hc : ∀ i, i < jn - 1 → col i < n) (hcn : cn ≤ n) : posW n a jn col cn ≤ n ^ a := by
  unfold posW
  split
  · exact Nat.le_refl _
  · have h1 := V_lt (jn - 1) hc
    have h2 : (Vn n col (jn - 1) + 1) * n ≤ n ^ (jn - 1) * n := Nat.mul_le_mul_right n h1
    rw [Nat.succ_mul, ← Nat.pow_succ, show (jn - 1).succ = jn by omega] at h2
    have h3 : (Vn n col (jn - 1) * n + cn) * n ^ (a - jn) ≤ n ^ jn * n ^ (a - jn) := Nat.mul_le_mul_right _ (by omega)
    rw [← Nat.pow_add, show jn + (a - jn) = a by omega] at h3
    exact h3
theorem gap_try {n a c j cn : Nat} {f g : Nat → Nat → Nat} {s : Nat → Int} {col : Nat → Nat} (hj : j < a) (hc : ∀ i, i < j → col i < n) (hcn : cn < n)
    (hn : ¬ ∀ k, k < c → lastA g k = j → metP f g s (cset col j cn) k) :
    ∀ r, posW n a (j + 1) col cn ≤ r → r < posW n a (j + 1) col (cn + 1) → ¬ cdP n a (isColP c f g s) r := by
  intro r h1 h2 hb
  obtain ⟨c2, h3, h4, h5⟩ := hb
  subst h4
  unfold posW at h1 h2
  rw [if_neg (by omega), show j + 1 - 1 = j by omega] at h1 h2
  have e := V_pre (m := j + 1) (by omega) h3 h1 h2
  have e2 : Vn n (cset col j cn) (j + 1) = Vn n col j * n + cn := by
    show Vn n _ j * n + cset col j cn j = _
    rw [cset_eq, V_congr j (c2 := col) (fun i hi => cset_ne (by omega))]
  have e3 := V_inj (n := n) (c1 := c2) (c2 := cset col j cn) (j + 1) (fun i hi => h3 i (by omega)) (fun i hi => by by_cases q : i = j; rw [q, cset_eq]; exact hcn; rw [cset_ne q]; exact hc i (by omega)) (e.trans e2.symm)
  exact hn (fun k hk hl => metP_cgr (fun i hi => e3 i (by omega)) (h5 k hk))
