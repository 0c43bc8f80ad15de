theorem go_ts1 {l : Launch} {D : va_G} {ck : Nat → ClassId} {ad : Nat → Nat} {sh : List Shp} {own : String} {cc : ByteArray} {nL : Nat} {R : Room} {B : Nat} {V : XW} {pc : Nat} {ls : List (Option MV)} {st : List MV} {w : Mem} {K : Post} {x dflt lo hi off : Int} {offs : Array Int} {len t : Nat} {v : Int} (hd : decode cc pc = .ok (.tableswitch dflt lo hi offs, len)) (h1 : ¬ v < lo ∧ ¬ hi < v) (ho : offs[(v - lo).toNat]? = some off) (ht : (pc : Int) + off = (t : Int))
    (kt : wr x = v → Go l D ck ad sh own cc nL R B V t ls st w K) (kf : ¬ wr x = v → Go l D ck ad sh own cc nL R B V pc ls (vI x :: st) w K) : Go l D ck ad sh own cc nL R B V pc ls (vI x :: st) w K := by
  by_cases q : wr x = v
  · refine go_tsIn hd (by rw [q]; exact h1.1) (by rw [q]; exact h1.2) (by rw [q]; exact ho) ht (kt q)
  · exact kf q
/-! the text -/
abbrev oTxt (e : Nat) : Shp := .inl (2, [none, some (e + 1)])
abbrev rChr (n : Nat) : Shp := .inr (.inl (2, n))
def TX (w : Mem) (e len : Nat) (ch : Nat → Nat) : Prop := w e 0 = (len : Int) ∧ len ≤ 70 ∧ ∀ i, i < len → w (e + 1) i = (ch i : Int) ∧ 33 ≤ ch i ∧ ch i ≤ 126
def okc (i x : Nat) : Prop := i < 69 ∧ ((i % 7 = 1 ∨ i % 7 = 3) → x = 44) ∧ (i % 7 = 5 → x = 43 ∨ x = 45) ∧ (i % 7 = 6 → x = 59) ∧ ((i % 7 = 0 ∨ i % 7 = 2 ∨ i % 7 = 4) → 48 ≤ x ∧ x ≤ 54)
def fErr (len : Nat) (ch : Nat → Nat) (v : Int) : Prop := (∃ i : Nat, i < len ∧ v = i ∧ ¬ okc i (ch i) ∧ ∀ j, j < i → okc j (ch j)) ∨ ((∀ j, j < len → okc j (ch j)) ∧ v = (if len % 7 = 6 then -6 else (len : Int)))
theorem nar_c : ∀ x : Fin 127, narZ .char (x : Nat) = ((x : Nat) : Int) := by decide +kernel
def gTx (ch : Nat → Nat) : Nat → Nat → Nat := fun k p => ch (7 * k + 2 * p) - 48
def sTx (ch : Nat → Nat) : Nat → Int := fun k => if ch (7 * k + 5) = 43 then 1 else -1
def mxT (g : Nat → Nat → Nat) (c : Nat) : Nat := fN (fun k m => max (max (max m (g k 0)) (g k 1)) (g k 2)) 0 c
theorem mxT_b {g : Nat → Nat → Nat} {c : Nat} (h : ∀ k p, k < c → p < 3 → g k p < 7) : mxT g c < 7 ∧ ∀ k p, k < c → p < 3 → g k p ≤ mxT g c := by
  have key : ∀ j, j ≤ c → mxT g j < 7 ∧ ∀ k p, k < j → p < 3 → g k p ≤ mxT g j := by
    intro j
    induction j with
    | zero => intro _; exact ⟨by show 0 < 7; omega, fun k p h => absurd h (Nat.not_lt_zero k)⟩
    | succ j ih =>
      intro hj
      obtain ⟨h1, h2⟩ := ih (by omega)
      have e : mxT g (j + 1) = max (max (max (mxT g j) (g j 0)) (g j 1)) (g j 2) := rfl
      have a0 := h j 0 (by omega) (by omega)
      have a1 := h j 1 (by omega) (by omega)
      have a2 := h j 2 (by omega) (by omega)
      refine ⟨by rw [e]; omega, fun k p hk hp => ?_⟩
      rw [e]
      by_cases q : k = j
      · subst q
        have : p = 0 ∨ p = 1 ∨ p = 2 := by omega
        rcases this with rfl | rfl | rfl <;> omega
      · have := h2 k p (by omega) hp; omega
  exact key c (Nat.le_refl c)
theorem DG_congr {w : Mem} {d a c : Nat} {g g2 : Nat → Nat → Nat} {s s2 : Nat → Int} (h : DG w d a c g s) (he : ∀ k, k < c → g k 0 = g2 k 0 ∧ g k 1 = g2 k 1 ∧ g k 2 = g2 k 2 ∧ s k = s2 k) : DG w d a c g2 s2 := by
  refine ⟨h.1, h.2.1, h.2.2.1, fun k hk => ?_⟩
  obtain ⟨e0, e1, e2, e3⟩ := he k hk
  rw [← e0, ← e1, ← e2, ← e3]
  exact h.2.2.2 k hk
