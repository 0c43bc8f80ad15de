/-! folds and counts -/
def fN {α : Type} (g : Nat → α → α) (m : α) : Nat → α
  | 0 => m
  | k + 1 => g k (fN g m k)
def cN (p : Nat → Bool) : Nat → Nat
  | 0 => 0
  | k + 1 => cN p k + (if p k then 1 else 0)
theorem cN_congr {p q : Nat → Bool} : ∀ {n : Nat}, (∀ i, i < n → p i = q i) → cN p n = cN q n
  | 0, _ => rfl
  | n + 1, h => by
    simp only [cN]
    rw [cN_congr (n := n) (fun i hi => h i (by omega)), h n (by omega)]
theorem cN_le (p : Nat → Bool) : ∀ n, cN p n ≤ n
  | 0 => Nat.le_refl 0
  | n + 1 => by
    have := cN_le p n
    simp only [cN]; split <;> omega
/-! masks below 128 -/
def pc (m : Nat) : Nat := cN (fun i => m.testBit i) 7
def sb (a b : Nat) : Prop := a ||| b = b
theorem sb_iff {a b : Nat} : sb a b ↔ ∀ i, a.testBit i = true → b.testBit i = true := by
  constructor
  · intro h i hi
    have := congrArg (fun x => x.testBit i) h
    simp only [Nat.testBit_or, hi, Bool.true_or] at this
    exact this.symm
  · intro h
    apply Nat.eq_of_testBit_eq
    intro i
    rw [Nat.testBit_or]
    cases ha : a.testBit i with
    | false => simp
    | true => simp [h i ha]
theorem sb_rf (a : Nat) : sb a a := by simp [sb]
theorem sb_tr {a b c : Nat} (h : sb a b) (k : sb b c) : sb a c := sb_iff.mpr fun i hi => sb_iff.mp k i (sb_iff.mp h i hi)
theorem sb_as {a b : Nat} (h : sb a b) (k : sb b a) : a = b := by
  unfold sb at h k; rw [Nat.or_comm] at k; exact k.symm.trans h
theorem sb_l (a b : Nat) : sb a (a ||| b) := sb_iff.mpr fun i hi => by simp [Nat.testBit_or, hi]
theorem sb_r (a b : Nat) : sb b (a ||| b) := sb_iff.mpr fun i hi => by simp [Nat.testBit_or, hi]
theorem sb_or {a b c : Nat} (h : sb a c) (k : sb b c) : sb (a ||| b) c := sb_iff.mpr fun i hi => by
  rw [Nat.testBit_or, Bool.or_eq_true] at hi
  exact hi.elim (sb_iff.mp h i) (sb_iff.mp k i)
theorem sb_two {i m : Nat} : sb (2 ^ i) m ↔ m.testBit i = true := by
  rw [sb_iff]
  constructor
  · intro h; exact h i (by simp)
  · intro h j hj
    simp only [Nat.testBit_two_pow, decide_eq_true_eq] at hj
    subst hj; exact h
theorem pc_lt_b : ∀ a : Fin 128, ∀ b : Fin 128, ((a : Nat) ||| (b : Nat) = (b : Nat)) → ((a : Nat) ≠ (b : Nat)) → pc a < pc b := by decide +kernel
theorem pc_lt {a b : Nat} (ha : a < 128) (hb : b < 128) (h : sb a b) (hn : a ≠ b) : pc a < pc b := pc_lt_b ⟨a, ha⟩ ⟨b, hb⟩ h hn
theorem pc_full_b : ∀ N : Fin 8, ∀ a : Fin 128, (a : Nat) < 2 ^ (N : Nat) → (pc a ≤ N ∧ ((N : Nat) ≤ pc a → (a : Nat) = 2 ^ (N : Nat) - 1)) := by decide +kernel
theorem pc_full {N a : Nat} (hN : N ≤ 7) (ha : a < 2 ^ N) : pc a ≤ N ∧ (N ≤ pc a → a = 2 ^ N - 1) := by
  have h2 : 2 ^ N ≤ 2 ^ 7 := Nat.pow_le_pow_right (by decide) hN
  exact pc_full_b ⟨N, by omega⟩ ⟨a, by omega⟩ ha
def itN (r : Nat → Nat) (m : Nat) : Nat → Nat
  | 0 => m
  | k + 1 => r (itN r m k)
/-- rounds of a rule that only adds: after N of them, or more, the least closed set -/
theorem rounds {N : Nat} (hN : N ≤ 7) {r : Nat → Nat} {cl : Nat → Prop} (h1 : ∀ m, sb m (r m)) (h2 : ∀ m, m < 2 ^ N → r m < 2 ^ N) (h3 : ∀ m, m < 2 ^ N → r m = m → cl m)
    (h4 : ∀ m S, sb m S → cl S → sb (r m) S) {m : Nat} (hm : m < 2 ^ N) {k : Nat} (hk : N ≤ k) :
    sb m (itN r m k) ∧ itN r m k < 2 ^ N ∧ cl (itN r m k) ∧ ∀ S, sb m S → cl S → sb (itN r m k) S := by
  have h27 : 2 ^ N ≤ 2 ^ 7 := Nat.pow_le_pow_right (by decide) hN
  have a1 : ∀ k, sb m (itN r m k) ∧ itN r m k < 2 ^ N := by
    intro k
    induction k with
    | zero => exact ⟨sb_rf m, hm⟩
    | succ k ih => exact ⟨sb_tr ih.1 (h1 _), h2 _ ih.2⟩
  have a2 : ∀ k, cl (itN r m k) ∨ k ≤ pc (itN r m k) := by
    intro k
    induction k with
    | zero => exact Or.inr (Nat.zero_le _)
    | succ k ih =>
      rcases ih with ih | ih
      · left
        have e : r (itN r m k) = itN r m k := sb_as (h4 _ _ (sb_rf _) ih) (h1 _)
        show cl (r (itN r m k))
        rw [e]; exact ih
      · by_cases e : r (itN r m k) = itN r m k
        · left
          show cl (r (itN r m k))
          rw [e]; exact h3 _ (a1 k).2 e
        · right
          have := pc_lt (a := itN r m k) (b := r (itN r m k)) (by have := (a1 k).2; omega) (by have := h2 _ (a1 k).2; omega) (h1 _) (fun z => e z.symm)
          show k + 1 ≤ pc (r (itN r m k))
          omega
  have a3 : ∀ k S, sb m S → cl S → sb (itN r m k) S := by
    intro k S hs hc
    induction k with
    | zero => exact hs
    | succ k ih => exact h4 _ _ ih hc
  refine ⟨(a1 k).1, (a1 k).2, ?_, a3 k⟩
  rcases a2 k with h | h
  · exact h
  · have hf := (pc_full hN (a1 k).2).2 (by omega)
    refine h3 _ (a1 k).2 (sb_as ?_ (h1 _))
    have hr := h2 _ (a1 k).2
    rw [sb_iff]
    intro i hi
    rw [hf, Nat.testBit_two_pow_sub_one, decide_eq_true_eq]
    rcases Nat.lt_or_ge i N with h | h
    · exact h
    · have : r (itN r m k) < 2 ^ i := Nat.lt_of_lt_of_le hr (Nat.pow_le_pow_right (by decide) h)
      rw [Nat.testBit_lt_two_pow this] at hi; cases hi
/-- the numbers' own operations on masks -/
theorem shl_b : ∀ k : Fin 31, shlZ 1 (k : Nat) = ((2 ^ (k : Nat) : Nat) : Int) := by decide +kernel
theorem shl_eq {k : Nat} (h : k < 31) : shlZ 1 (k : Int) = ((2 ^ k : Nat) : Int) := shl_b ⟨k, h⟩
theorem or_b : ∀ a : Fin 128, ∀ b : Fin 128, orZ (a : Nat) (b : Nat) = (((a : Nat) ||| (b : Nat) : Nat) : Int) := by decide +kernel
theorem or_eq {a b : Nat} (ha : a < 128) (hb : b < 128) : orZ (a : Int) (b : Int) = ((a ||| b : Nat) : Int) := or_b ⟨a, ha⟩ ⟨b, hb⟩
theorem and_b : ∀ a : Fin 128, ∀ b : Fin 128, andZ (a : Nat) (b : Nat) = (((a : Nat) &&& (b : Nat) : Nat) : Int) := by decide +kernel
theorem and_eq {a b : Nat} (ha : a < 128) (hb : b < 128) : andZ (a : Int) (b : Int) = ((a &&& b : Nat) : Int) := and_b ⟨a, ha⟩ ⟨b, hb⟩
theorem bit_b : ∀ a : Fin 128, ∀ k : Fin 8, andZ (shrZ (a : Nat) (k : Nat)) 1 = (if (a : Nat).testBit k then 1 else 0) := by decide +kernel
theorem bit_eq {a k : Nat} (ha : a < 128) (hk : k < 8) : andZ (shrZ (a : Int) (k : Int)) 1 = (if a.testBit k then 1 else 0) := bit_b ⟨a, ha⟩ ⟨k, hk⟩
theorem or_lt {a b N : Nat} (ha : a < 2 ^ N) (hb : b < 2 ^ N) : a ||| b < 2 ^ N := Nat.or_lt_two_pow ha hb
theorem two_lt {i N : Nat} (h : i < N) : 2 ^ i < 2 ^ N := Nat.pow_lt_pow_right (by decide) h
theorem lt128 {m N : Nat} (hN : N ≤ 7) (h : m < 2 ^ N) : m < 128 := Nat.lt_of_lt_of_le h (Nat.pow_le_pow_right (by decide) hN)
