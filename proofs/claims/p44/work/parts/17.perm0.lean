/-! permutations as lists; their numbers in the order of the words -/
def ix (L : List Nat) (i : Nat) : Nat := L.getD i 0
def fcN : Nat → Nat
  | 0 => 1
  | n + 1 => fcN n * (n + 1)
def unrS (r : Nat) : Nat → Nat × List Nat
  | 0 => (r, [])
  | k + 1 => ((unrS r k).1 / (k + 1), (unrS r k).1 % (k + 1) :: (unrS r k).2.map (fun v => if (unrS r k).1 % (k + 1) ≤ v then v + 1 else v))
def unr (n r : Nat) : List Nat := (unrS r n).2
def lwC (c : Nat → Nat) (x k : Nat) : Nat := cN (fun j => decide (c (x + 1 + j) < c x)) k
def rkT (n : Nat) (c : Nat → Nat) (k : Nat) : Nat := fN (fun x acc => acc * (n - x) + lwC c x (n - 1 - x)) 0 k
def rkF (n : Nat) (c : Nat → Nat) : Nat := rkT n c n
def permL (n : Nat) (L : List Nat) : Prop := L.length = n ∧ msk (ix L) n = 2 ^ n - 1
theorem unrS_len (r : Nat) : ∀ k, (unrS r k).2.length = k
  | 0 => rfl
  | k + 1 => by simp [unrS, unrS_len r k]
theorem unr_len (n r : Nat) : (unr n r).length = n := unrS_len r n
theorem ix_map {L : List Nat} {h : Nat → Nat} {i : Nat} (hi : i < L.length) : ix (L.map h) i = h (ix L i) := by
  simp [ix, hi]
theorem ix_ext {L M : List Nat} (hl : L.length = M.length) (h : ∀ i, i < L.length → ix L i = ix M i) : L = M := by
  apply List.ext_getElem hl
  intro i h1 h2
  have := h i h1
  simpa [ix, h1, h2] using this
theorem pc_or_b : ∀ m : Fin 128, ∀ i : Fin 7, pc ((m : Nat) ||| 2 ^ (i : Nat)) = pc m + (if (m : Nat).testBit i = true then 0 else 1) := by decide +kernel
theorem pc_or {m i : Nat} (hm : m < 128) (hi : i < 7) : pc (m ||| 2 ^ i) = pc m + (if m.testBit i = true then 0 else 1) := pc_or_b ⟨m, hm⟩ ⟨i, hi⟩
theorem pc_all : ∀ n : Fin 8, pc (2 ^ (n : Nat) - 1) = n := by decide +kernel
theorem msk_bit {g : Nat → Nat} {v : Nat} : ∀ k, (msk g k).testBit v = true ↔ ∃ i, i < k ∧ g i = v := by
  intro k
  induction k with
  | zero => simp [msk, fN]
  | succ k ih =>
    have e : msk g (k + 1) = msk g k ||| 2 ^ (g k) := rfl
    rw [e, Nat.testBit_or, Bool.or_eq_true, ih, Nat.testBit_two_pow, decide_eq_true_eq]
    constructor
    · rintro (⟨i, h1, h2⟩ | h)
      · exact ⟨i, by omega, h2⟩
      · exact ⟨k, by omega, h⟩
    · rintro ⟨i, h1, h2⟩
      by_cases q : i = k
      · subst q; exact Or.inr h2
      · exact Or.inl ⟨i, by omega, h2⟩
theorem msk_lt {g : Nat → Nat} {n : Nat} : ∀ k, (∀ i, i < k → g i < n) → msk g k < 2 ^ n := by
  intro k
  induction k with
  | zero => intro _; exact Nat.two_pow_pos n
  | succ k ih => intro h; exact or_lt (ih (fun i hi => h i (by omega))) (two_lt (h k (by omega)))
theorem msk_pc {g : Nat → Nat} : ∀ k, (∀ i, i < k → g i < 7) → pc (msk g k) ≤ k ∧ (pc (msk g k) = k ↔ ∀ i j, i < j → j < k → g i ≠ g j) := by
  intro k
  induction k with
  | zero => intro _; exact ⟨by show pc 0 ≤ 0; decide, ⟨fun _ i j h1 h2 => by omega, fun _ => by show pc 0 = 0; decide⟩⟩
  | succ k ih =>
    intro h
    obtain ⟨h1, h2⟩ := ih (fun i hi => h i (by omega))
    have e : msk g (k + 1) = msk g k ||| 2 ^ (g k) := rfl
    have hlt := msk_lt (n := 7) k (fun i hi => h i (by omega))
    rw [e, pc_or (by omega) (h k (by omega))]
    by_cases q : (msk g k).testBit (g k) = true
    · rw [if_pos q]
      refine ⟨by omega, ⟨fun z => by omega, fun z => ?_⟩⟩
      obtain ⟨i, h3, h4⟩ := (msk_bit k).mp q
      exact absurd h4 (z i k h3 (by omega))
    · rw [if_neg q]
      refine ⟨by omega, ⟨fun z i j hi hj => ?_, fun z => ?_⟩⟩
      · by_cases y : j = k
        · subst y; intro z2; exact q ((msk_bit j).mpr ⟨i, hi, z2⟩)
        · exact h2.mp (by omega) i j hi (by omega)
      · have := h2.mpr (fun i j hi hj => z i j hi (by omega)); omega
theorem msk_full {g : Nat → Nat} {n : Nat} (hn : n ≤ 6) (h : ∀ i, i < n → g i < 7) : msk g n = 2 ^ n - 1 ↔ ((∀ i, i < n → g i < n) ∧ ∀ i j, i < j → j < n → g i ≠ g j) := by
  have hp := pc_all ⟨n, by omega⟩
  simp only at hp
  constructor
  · intro z
    refine ⟨fun i hi => ?_, (msk_pc n h).2.mp (by rw [z, hp])⟩
    have := (msk_bit (g := g) (v := g i) n).mpr ⟨i, hi, rfl⟩
    rw [z, Nat.testBit_two_pow_sub_one, decide_eq_true_eq] at this
    exact this
  · rintro ⟨h1, h2⟩
    have h3 := (msk_pc n h).2.mpr h2
    exact (pc_full (by omega) (msk_lt n h1)).2 (by omega)
theorem ix_lt {L : List Nat} {n : Nat} (h : permL n L) {i : Nat} (hi : i < n) : ix L i < n := by
  have := (msk_bit (g := ix L) (v := ix L i) n).mpr ⟨i, hi, rfl⟩
  rw [h.2, Nat.testBit_two_pow_sub_one, decide_eq_true_eq] at this
  exact this
theorem ix_inj {L : List Nat} {n : Nat} (hn : n ≤ 6) (h : permL n L) : ∀ i j, i < j → j < n → ix L i ≠ ix L j :=
  ((msk_full hn (fun i hi => by have := ix_lt h hi; omega)).mp h.2).2
def chk1 (n r : Nat) : Bool := decide (msk (ix (unr n r)) n = 2 ^ n - 1) && decide (rkF n (ix (unr n r)) = r)
theorem p1_b : ∀ n : Fin 7, ∀ r : Fin 720, (r : Nat) < fcN n → chk1 n r = true := by decide +kernel
theorem fcN_le : ∀ n : Fin 7, fcN n ≤ 720 := by decide +kernel
theorem p1 {n r : Nat} (hn : n ≤ 6) (hr : r < fcN n) : permL n (unr n r) ∧ rkF n (ix (unr n r)) = r := by
  have h7 := fcN_le ⟨n, by omega⟩
  have := p1_b ⟨n, by omega⟩ ⟨r, by simp only at h7; omega⟩ hr
  simp only [chk1, Bool.and_eq_true, decide_eq_true_eq] at this
  exact ⟨⟨unr_len n r, this.1⟩, this.2⟩
def chk2 (L : List Nat) : Bool := decide (rkF L.length (ix L) < fcN L.length) && (unr L.length (rkF L.length (ix L)) == L)
def nin (x : Nat) (L : List Nat) : Bool := L.all (fun y => decide (x ≠ y))
theorem p2_1 : ∀ a : Fin 1, chk2 [a] = true := by decide +kernel
theorem p2_2 : ∀ a : Fin 2, ∀ b : Fin 2, nin b [a] = true → chk2 [a, b] = true := by decide +kernel
theorem p2_3 : ∀ a : Fin 3, ∀ b : Fin 3, nin b [a] = true → ∀ c : Fin 3, nin c [a, b] = true → chk2 [a, b, c] = true := by decide +kernel
theorem p2_4 : ∀ a : Fin 4, ∀ b : Fin 4, nin b [a] = true → ∀ c : Fin 4, nin c [a, b] = true → ∀ d : Fin 4, nin d [a, b, c] = true → chk2 [a, b, c, d] = true := by decide +kernel
theorem p2_5 : ∀ a : Fin 5, ∀ b : Fin 5, nin b [a] = true → ∀ c : Fin 5, nin c [a, b] = true → ∀ d : Fin 5, nin d [a, b, c] = true → ∀ e : Fin 5, nin e [a, b, c, d] = true → chk2 [a, b, c, d, e] = true := by decide +kernel
theorem p2_6 : ∀ a : Fin 6, ∀ b : Fin 6, nin b [a] = true → ∀ c : Fin 6, nin c [a, b] = true → ∀ d : Fin 6, nin d [a, b, c] = true → ∀ e : Fin 6, nin e [a, b, c, d] = true → ∀ f : Fin 6, nin f [a, b, c, d, e] = true → chk2 [a, b, c, d, e, f] = true := by decide +kernel
theorem p2 {n : Nat} {L : List Nat} (hn : 1 ≤ n ∧ n ≤ 6) (h : permL n L) : rkF n (ix L) < fcN n ∧ unr n (rkF n (ix L)) = L := by
  have hi := ix_inj hn.2 h
  have hl := fun i (hi : i < n) => ix_lt h hi
  have key : chk2 L = true := by
    have hlen := h.1
    have ne : ∀ i j, i < j → j < n → ix L j ≠ ix L i := fun i j h1 h2 z => hi i j h1 h2 z.symm
    rcases (show n = 1 ∨ n = 2 ∨ n = 3 ∨ n = 4 ∨ n = 5 ∨ n = 6 by omega) with rfl | rfl | rfl | rfl | rfl | rfl
    · obtain ⟨a, rfl⟩ : ∃ a, L = [a] := by
        rcases L with _ | ⟨a, _ | ⟨b, L⟩⟩ <;> simp at hlen; exact ⟨_, rfl⟩
      exact p2_1 ⟨a, hl 0 (by omega)⟩
    · obtain ⟨a, b, rfl⟩ : ∃ a b, L = [a, b] := by
        rcases L with _ | ⟨a, _ | ⟨b, _ | ⟨c, L⟩⟩⟩ <;> simp at hlen; exact ⟨_, _, rfl⟩
      have n01 : b ≠ a := ne 0 1 (by omega) (by omega)
      exact p2_2 ⟨a, hl 0 (by omega)⟩ ⟨b, hl 1 (by omega)⟩ (by simp [nin]; omega)
    · obtain ⟨a, b, c, rfl⟩ : ∃ a b c, L = [a, b, c] := by
        rcases L with _ | ⟨a, _ | ⟨b, _ | ⟨c, _ | ⟨d, L⟩⟩⟩⟩ <;> simp at hlen; exact ⟨_, _, _, rfl⟩
      have n01 : b ≠ a := ne 0 1 (by omega) (by omega)
      have n02 : c ≠ a := ne 0 2 (by omega) (by omega)
      have n12 : c ≠ b := ne 1 2 (by omega) (by omega)
      exact p2_3 ⟨a, hl 0 (by omega)⟩ ⟨b, hl 1 (by omega)⟩ (by simp [nin]; omega) ⟨c, hl 2 (by omega)⟩ (by simp [nin]; omega)
    · obtain ⟨a, b, c, d, rfl⟩ : ∃ a b c d, L = [a, b, c, d] := by
        rcases L with _ | ⟨a, _ | ⟨b, _ | ⟨c, _ | ⟨d, _ | ⟨e, L⟩⟩⟩⟩⟩ <;> simp at hlen; exact ⟨_, _, _, _, rfl⟩
      have n01 : b ≠ a := ne 0 1 (by omega) (by omega)
      have n02 : c ≠ a := ne 0 2 (by omega) (by omega)
      have n12 : c ≠ b := ne 1 2 (by omega) (by omega)
      have n03 : d ≠ a := ne 0 3 (by omega) (by omega)
      have n13 : d ≠ b := ne 1 3 (by omega) (by omega)
      have n23 : d ≠ c := ne 2 3 (by omega) (by omega)
      exact p2_4 ⟨a, hl 0 (by omega)⟩ ⟨b, hl 1 (by omega)⟩ (by simp [nin]; omega) ⟨c, hl 2 (by omega)⟩ (by simp [nin]; omega) ⟨d, hl 3 (by omega)⟩ (by simp [nin]; omega)
    · obtain ⟨a, b, c, d, e, rfl⟩ : ∃ a b c d e, L = [a, b, c, d, e] := by
        rcases L with _ | ⟨a, _ | ⟨b, _ | ⟨c, _ | ⟨d, _ | ⟨e, _ | ⟨f, L⟩⟩⟩⟩⟩⟩ <;> simp at hlen; exact ⟨_, _, _, _, _, rfl⟩
      have n01 : b ≠ a := ne 0 1 (by omega) (by omega)
      have n02 : c ≠ a := ne 0 2 (by omega) (by omega)
      have n12 : c ≠ b := ne 1 2 (by omega) (by omega)
      have n03 : d ≠ a := ne 0 3 (by omega) (by omega)
      have n13 : d ≠ b := ne 1 3 (by omega) (by omega)
      have n23 : d ≠ c := ne 2 3 (by omega) (by omega)
      have n04 : e ≠ a := ne 0 4 (by omega) (by omega)
      have n14 : e ≠ b := ne 1 4 (by omega) (by omega)
      have n24 : e ≠ c := ne 2 4 (by omega) (by omega)
      have n34 : e ≠ d := ne 3 4 (by omega) (by omega)
      exact p2_5 ⟨a, hl 0 (by omega)⟩ ⟨b, hl 1 (by omega)⟩ (by simp [nin]; omega) ⟨c, hl 2 (by omega)⟩ (by simp [nin]; omega) ⟨d, hl 3 (by omega)⟩ (by simp [nin]; omega) ⟨e, hl 4 (by omega)⟩ (by simp [nin]; omega)
    · obtain ⟨a, b, c, d, e, f, rfl⟩ : ∃ a b c d e f, L = [a, b, c, d, e, f] := by
        rcases L with _ | ⟨a, _ | ⟨b, _ | ⟨c, _ | ⟨d, _ | ⟨e, _ | ⟨f, _ | ⟨g, L⟩⟩⟩⟩⟩⟩⟩ <;> simp at hlen; exact ⟨_, _, _, _, _, _, rfl⟩
      have n01 : b ≠ a := ne 0 1 (by omega) (by omega)
      have n02 : c ≠ a := ne 0 2 (by omega) (by omega)
      have n12 : c ≠ b := ne 1 2 (by omega) (by omega)
      have n03 : d ≠ a := ne 0 3 (by omega) (by omega)
      have n13 : d ≠ b := ne 1 3 (by omega) (by omega)
      have n23 : d ≠ c := ne 2 3 (by omega) (by omega)
      have n04 : e ≠ a := ne 0 4 (by omega) (by omega)
      have n14 : e ≠ b := ne 1 4 (by omega) (by omega)
      have n24 : e ≠ c := ne 2 4 (by omega) (by omega)
      have n34 : e ≠ d := ne 3 4 (by omega) (by omega)
      have n05 : f ≠ a := ne 0 5 (by omega) (by omega)
      have n15 : f ≠ b := ne 1 5 (by omega) (by omega)
      have n25 : f ≠ c := ne 2 5 (by omega) (by omega)
      have n35 : f ≠ d := ne 3 5 (by omega) (by omega)
      have n45 : f ≠ e := ne 4 5 (by omega) (by omega)
      exact p2_6 ⟨a, hl 0 (by omega)⟩ ⟨b, hl 1 (by omega)⟩ (by simp [nin]; omega) ⟨c, hl 2 (by omega)⟩ (by simp [nin]; omega) ⟨d, hl 3 (by omega)⟩ (by simp [nin]; omega) ⟨e, hl 4 (by omega)⟩ (by simp [nin]; omega) ⟨f, hl 5 (by omega)⟩ (by simp [nin]; omega)
  simp only [chk2, h.1, Bool.and_eq_true, decide_eq_true_eq, beq_iff_eq] at key
  exact key
/-! the compositions of translations, found one behind another -/
def nxtL (f : Nat → Nat → Nat) (L : List Nat) (y : Nat) : List Nat := L.map (fun v => f v y)
def idL (n : Nat) : List Nat := unr n 0
def bfsP (f : Nat → Nat → Nat) (p : List Nat) (y : Nat) (Q : List (List Nat)) : List (List Nat) := if nxtL f p y ∈ Q then Q else Q ++ [nxtL f p y]
def bfsY (f : Nat → Nat → Nat) (p : List Nat) (Q : List (List Nat)) (k : Nat) : List (List Nat) := fN (bfsP f p) Q k
def bfsH (n : Nat) (f : Nat → Nat → Nat) : Nat → List (List Nat)
  | 0 => [idL n]
  | h + 1 => if h < (bfsH n f h).length then bfsY f ((bfsH n f h).getD h []) (bfsH n f h) n else bfsH n f h
def grpN (n : Nat) (f : Nat → Nat → Nat) : Nat := (bfsH n f 720).length
def goodQ (n : Nat) (Q : List (List Nat)) : Prop := Q.Nodup ∧ ∀ p ∈ Q, permL n p
theorem nxt_perm {n : Nat} {f : Nat → Nat → Nat} {L : List Nat} {y : Nat} (hn : n ≤ 6) (hf : ∀ i j, i < n → j < n → f i j < n) (hp : prm n f y) (hL : permL n L) (hy : y < n) : permL n (nxtL f L y) := by
  have hl : (nxtL f L y).length = n := by simp [nxtL, hL.1]
  have e : ∀ i, i < n → ix (nxtL f L y) i = f (ix L i) y := fun i hi => ix_map (by rw [hL.1]; exact hi)
  have b : ∀ i, i < n → ix (nxtL f L y) i < n := fun i hi => by rw [e i hi]; exact hf _ _ (ix_lt hL hi) hy
  refine ⟨hl, (msk_full hn (fun i hi => by have := b i hi; omega)).mpr ⟨b, fun i j hi hj => ?_⟩⟩
  rw [e i (by omega), e j hj]
  have h1 := ((msk_full (g := fun x => f x y) hn (fun i hi => by have := hf i y hi hy; omega)).mp hp).2
  have h2 := ix_inj hn hL i j hi hj
  rcases Nat.lt_or_gt_of_ne h2 with q | q
  · exact h1 _ _ q (ix_lt hL hj)
  · exact fun z => h1 _ _ q (ix_lt hL (by omega)) z.symm
theorem rk_inj {n : Nat} {L M : List Nat} (hn : 1 ≤ n ∧ n ≤ 6) (hL : permL n L) (hM : permL n M) (h : rkF n (ix L) = rkF n (ix M)) : L = M := by
  rw [← (p2 hn hL).2, h, (p2 hn hM).2]
theorem goodQ_len {n : Nat} {Q : List (List Nat)} (hn : 1 ≤ n ∧ n ≤ 6) (h : goodQ n Q) : Q.length ≤ 720 := by
  have h7 := fcN_le ⟨n, by omega⟩
  simp only at h7
  have h1 : (Q.map (fun p => rkF n (ix p))).Nodup := by
    rw [List.nodup_iff_pairwise_ne, List.pairwise_map]
    have := h.1
    rw [List.nodup_iff_pairwise_ne] at this
    exact this.imp_of_mem (fun ha hb hne z => hne (rk_inj hn (h.2 _ ha) (h.2 _ hb) z))
  have h2 := h1.length_le_of_subset (l₂ := List.range 720) (fun v hv => by
    obtain ⟨p, hp, rfl⟩ := List.mem_map.mp hv
    have := (p2 hn (h.2 p hp)).1
    exact List.mem_range.mpr (by omega))
  simpa using h2
theorem goodQ_step {n : Nat} {f : Nat → Nat → Nat} {p : List Nat} {y : Nat} {Q : List (List Nat)} (hn : n ≤ 6) (hf : ∀ i j, i < n → j < n → f i j < n) (hp : prm n f y) (hL : permL n p) (hy : y < n) (h : goodQ n Q) : goodQ n (bfsP f p y Q) := by
  unfold bfsP; split
  · exact h
  · next q =>
    refine ⟨List.nodup_append.mpr ⟨h.1, by simp, ?_⟩, fun p' hp' => ?_⟩
    · intro a ha b hb z
      rw [List.mem_singleton] at hb
      subst hb; subst z; exact q ha
    · rcases List.mem_append.mp hp' with z | z
      · exact h.2 _ z
      · rw [List.mem_singleton] at z; subst z; exact nxt_perm hn hf hp hL hy
theorem id_perm : ∀ n : Fin 7, msk (ix (idL n)) n = 2 ^ (n : Nat) - 1 := by decide +kernel
theorem goodQ_0 {n : Nat} (hn : n ≤ 6) : goodQ n [idL n] := ⟨by simp, fun p hp => by
  rw [List.mem_singleton] at hp; subst hp; exact ⟨unr_len n 0, id_perm ⟨n, by omega⟩⟩⟩
theorem bfs_stop {n : Nat} {f : Nat → Nat → Nat} {h : Nat} (hh : (bfsH n f h).length ≤ h) : ∀ k, h ≤ k → bfsH n f k = bfsH n f h := by
  intro k hk
  induction k with
  | zero => rw [show h = 0 by omega]
  | succ k ih =>
    by_cases q : h = k + 1
    · rw [q]
    · have e := ih (by omega)
      show (if k < (bfsH n f k).length then _ else bfsH n f k) = _
      rw [if_neg (by rw [e]; omega), e]
