/-! the shapes of the two systems: cells in a fixed order -/
abbrev oTab (t : Nat) : Shp := .inl (5, [none, some (t + 1)])
abbrev oDia (t : Nat) : Shp := .inl (1, [none, none, some (t + 1)])
abbrev rInt (n : Nat) : Shp := .inr (.inl (0, n))
def shX : List Shp := [
  .inl (6, [some 1, some 3, some 5, some 10, some 12, some 16, some 18]),
  oTab 1, rInt 36, oTab 3, rInt 36,
  .inl (4, [some 6, some 7, some 8, some 9]), rInt 6, rInt 6, rInt 720, .inr (.inl (1, 720)),
  oDia 10, rInt 40,
  .inl (0, [some 1, some 10, some 13, some 14, some 15, none]), rInt 7, rInt 10, rInt 7,
  .inl (2, [none, some 17]), .inr (.inl (2, 70)),
  .inl (3, [none, none, some 19, some 20]), .inr (.inr (3, [21, 25, 29, 33, 37, 41])), .inr (.inr (4, [23, 27, 31, 35, 39, 43])),
  oTab 21, rInt 36, oDia 23, rInt 40,
  oTab 25, rInt 36, oDia 27, rInt 40,
  oTab 29, rInt 36, oDia 31, rInt 40,
  oTab 33, rInt 36, oDia 35, rInt 40,
  oTab 37, rInt 36, oDia 39, rInt 40,
  oTab 41, rInt 36, oDia 43, rInt 40]
/-- the class's cells, and the law's own: q, t, c -/
def shA : List Shp := shX ++ [rInt 3, rInt 36, rInt 40]
/-! a table in the cells t, t + 1: its size and its products -/
def TB (w : Mem) (t n : Nat) (f : Nat → Nat → Nat) : Prop := w t 0 = (n : Int) ∧ (1 ≤ n ∧ n ≤ 6) ∧ ∀ x y, x < n → y < n → w (t + 1) (6 * x + y) = (f x y : Int) ∧ f x y < n
theorem rkI {P : Int → Mem → Prop} : ∀ (r : Option MV) (w : Mem), Pi P r w → retOk (some .int) r := fun _ _ ⟨v, h, _⟩ => ⟨v, h⟩
theorem rkL {P : Int → Mem → Prop} : ∀ (r : Option MV) (w : Mem), Pl P r w → retOk (some .long) r := fun _ _ ⟨v, h, _⟩ => ⟨v, h⟩
theorem rkV {P : Mem → Prop} : ∀ (r : Option MV) (w : Mem), Pv P r w → retOk none r := fun _ _ h => h.1
theorem rkZ {P1 P0 : Mem → Prop} : ∀ (r : Option MV) (w : Mem), Pz P1 P0 r w → retOk (some .boolean) r := fun _ _ h => h.elim (fun z => Or.inr z.1) (fun z => Or.inl z.1)
/-- the lowest number below n with P, or -6 -/
def isLowP (n : Nat) (P : Nat → Prop) (v : Int) : Prop := (∃ z : Nat, z < n ∧ v = z ∧ P z ∧ ∀ i, i < z → ¬ P i) ∨ (v = -6 ∧ ∀ i, i < n → ¬ P i)
def msk (g : Nat → Nat) (n : Nat) : Nat := fN (fun x m => m ||| 2 ^ (g x)) 0 n
def prm (n : Nat) (f : Nat → Nat → Nat) (y : Nat) : Prop := msk (fun x => f x y) n = 2 ^ n - 1
theorem all_lt {i k : Nat} {P : Nat → Prop} (h : ∀ j, j < k → P j) (hk : P k) (hi : i < k + 1) : P i := by
  rcases Nat.lt_succ_iff_lt_or_eq.mp hi with h1 | rfl
  · exact h i h1
  · exact hk
