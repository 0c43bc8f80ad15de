/-! rounds that have ended go on without change -/
theorem fN_ext {g : Nat → Nat → Nat} (h : ∀ a m, sb m (g a m)) (m : Nat) : ∀ k, sb m (fN g m k)
  | 0 => sb_rf m
  | k + 1 => sb_tr (fN_ext h m k) (h k _)
theorem fN_mono {g : Nat → Nat → Nat} (h : ∀ a m S, sb m S → sb (g a m) (g a S)) {m S : Nat} (hm : sb m S) : ∀ k, sb (fN g m k) (fN g S k)
  | 0 => hm
  | k + 1 => h k _ _ (fN_mono h hm k)
theorem fN_fix {g : Nat → Nat → Nat} (h : ∀ a m, sb m (g a m)) {m : Nat} : ∀ k, fN g m k = m → ∀ a, a < k → g a m = m
  | 0, _, a, ha => absurd ha (Nat.not_lt_zero a)
  | k + 1, e, a, ha => by
    have e0 : g k (fN g m k) = m := e
    have h1 := fN_ext h m k
    have h2 := h k (fN g m k)
    rw [e0] at h2
    have e1 : fN g m k = m := sb_as h2 h1
    by_cases q : a = k
    · rw [q]; rw [e1] at e0; exact e0
    · exact fN_fix h k e1 a (by omega)
theorem fN_least {g : Nat → Nat → Nat} {S : Nat} {n : Nat} (h : ∀ a m, a < n → sb m S → sb (g a m) S) {m : Nat} (hm : sb m S) : ∀ k, k ≤ n → sb (fN g m k) S
  | 0, _ => hm
  | k + 1, hk => h k _ (by omega) (fN_least h hm k (by omega))
theorem it_eq {N : Nat} (hN : N ≤ 7) {r : Nat → Nat} (h1 : ∀ m, sb m (r m)) (h2 : ∀ m, m < 2 ^ N → r m < 2 ^ N) (h3 : ∀ m S, sb m S → sb (r m) (r S)) {m : Nat} (hm : m < 2 ^ N) {k : Nat} (hk : N ≤ k) : itN r m k = itN r m N := by
  have h := (rounds hN (cl := fun m => r m = m) h1 h2 (fun m _ e => e) (fun m S q e => by have := h3 m S q; rwa [e] at this) hm (Nat.le_refl N)).2.2.1
  have key : ∀ d, itN r m (N + d) = itN r m N := by
    intro d
    induction d with
    | zero => rfl
    | succ d ih => show r (itN r m (N + d)) = _; rw [ih]; exact h
  rw [show k = N + (k - N) by omega]; exact key _
theorem sb_or2 {a b c d : Nat} (h : sb a c) (k : sb b d) : sb (a ||| b) (c ||| d) := sb_or (sb_tr h (sb_l c d)) (sb_tr k (sb_r c d))
theorem stR_ext {f : Nat → Nat → Nat} (a b m : Nat) : sb m (stR f a b m) := by unfold stR; split; exact sb_l _ _; exact sb_rf m
theorem stK_ext {f : Nat → Nat → Nat} (a b m : Nat) : sb m (stK f a b m) := by unfold stK; split; exact sb_l _ _; exact sb_rf m
theorem stC_ext {f : Nat → Nat → Nat} (a b m : Nat) : sb m (stC f a b m) := by unfold stC; split; exact sb_rf m; exact sb_l _ _
theorem stR_mono {f : Nat → Nat → Nat} (a b m S : Nat) (h : sb m S) : sb (stR f a b m) (stR f a b S) := by
  unfold stR
  by_cases q : m.testBit a = true
  · rw [if_pos q, if_pos (sb_iff.mp h a q)]; exact sb_or2 h (sb_rf _)
  · rw [if_neg q]; exact sb_tr h (stR_ext a b S)
theorem stK_mono {f : Nat → Nat → Nat} (a b m S : Nat) (h : sb m S) : sb (stK f a b m) (stK f a b S) := by
  unfold stK
  by_cases q : m.testBit a = true ∧ m.testBit b = true
  · rw [if_pos q, if_pos ⟨sb_iff.mp h a q.1, sb_iff.mp h b q.2⟩]; exact sb_or2 h (sb_rf _)
  · rw [if_neg q]; exact sb_tr h (stK_ext a b S)
theorem rnd2_ext {g : Nat → Nat → Nat → Nat} (h : ∀ a b m, sb m (g a b m)) (n m : Nat) : sb m (rnd2 g n m) := fN_ext (g := fun a m => fN (fun b m => g a b m) m n) (fun a m => fN_ext (g := fun b m => g a b m) (fun b m => h a b m) m n) m n
theorem rnd2_mono {g : Nat → Nat → Nat → Nat} (h : ∀ a b m S, sb m S → sb (g a b m) (g a b S)) (n m S : Nat) (hm : sb m S) : sb (rnd2 g n m) (rnd2 g n S) :=
  fN_mono (g := fun a m => fN (fun b m => g a b m) m n) (fun a m S hs => fN_mono (g := fun b m => g a b m) (fun b m S hs => h a b m S hs) hs n) hm n
theorem rnd2_fix {g : Nat → Nat → Nat → Nat} (h : ∀ a b m, sb m (g a b m)) {n m : Nat} (e : rnd2 g n m = m) : ∀ a b, a < n → b < n → g a b m = m := fun a b ha hb =>
  fN_fix (g := fun b m => g a b m) (fun b m => h a b m) n (fN_fix (g := fun a m => fN (fun b m => g a b m) m n) (fun a m => fN_ext (g := fun b m => g a b m) (fun b m => h a b m) m n) n e a ha) b hb
theorem reach6 {n : Nat} {f : Nat → Nat → Nat} (hn : n ≤ 6) (hr : ∀ i j, i < n → j < n → f i j < n) {m : Nat} (hm : m < 2 ^ n) : itN (rnd2 (stR f) n) m 6 = itN (rnd2 (stR f) n) m n :=
  it_eq (by omega) (rnd2_ext stR_ext n) (fun m hm => rnd2_lt (stR_lt hr) hm) (rnd2_mono stR_mono n) hm hn
theorem clo6 {n : Nat} {f : Nat → Nat → Nat} (hn : n ≤ 6) (hr : ∀ i j, i < n → j < n → f i j < n) {m : Nat} (hm : m < 2 ^ n) : itN (rnd2 (stK f) n) m 6 = itN (rnd2 (stK f) n) m n :=
  it_eq (by omega) (rnd2_ext stK_ext n) (fun m hm => rnd2_lt (stK_lt hr) hm) (rnd2_mono stK_mono n) hm hn
theorem stR_keep {f : Nat → Nat → Nat} {a m : Nat} (h : m.testBit a = true) : ∀ k, (fN (fun b m => stR f a b m) m k).testBit a = true
  | 0 => h
  | k + 1 => sb_iff.mp (stR_ext a k _) a (stR_keep h k)
theorem stR_skip {f : Nat → Nat → Nat} {a m : Nat} (h : ¬ m.testBit a = true) : ∀ k, fN (fun b m => stR f a b m) m k = m
  | 0 => rfl
  | k + 1 => by
    show stR f a k (fN (fun b m => stR f a b m) m k) = m
    rw [stR_skip h k]; unfold stR; rw [if_neg h]
theorem clo_0 {n : Nat} {f : Nat → Nat → Nat} : ∀ k, itN (rnd2 (stK f) n) 0 k = 0 := by
  have h1 : ∀ a k, fN (fun b m => stK f a b m) 0 k = 0 := by
    intro a k
    induction k with
    | zero => rfl
    | succ k ih => show stK f a k (fN (fun b m => stK f a b m) 0 k) = 0; rw [ih]; unfold stK; rw [if_neg (by simp)]
  have h2 : rnd2 (stK f) n 0 = 0 := by
    have : ∀ k, fN (fun a m => fN (fun b m => stK f a b m) m n) 0 k = 0 := by
      intro k
      induction k with
      | zero => rfl
      | succ k ih => show fN (fun b m => stK f k b m) (fN (fun a m => fN (fun b m => stK f a b m) m n) 0 k) n = 0; rw [ih]; exact h1 k n
    exact this n
  intro k
  induction k with
  | zero => rfl
  | succ k ih => show rnd2 (stK f) n (itN _ 0 k) = 0; rw [ih]; exact h2
/-! what is linked -/
def cnn (lk : Nat → Nat → Prop) (x y : Nat) : Prop := ∀ P : Nat → Prop, (∀ a b, lk a b → (P a ↔ P b)) → (P x ↔ P y)
theorem cnn_rf {lk : Nat → Nat → Prop} (x : Nat) : cnn lk x x := fun _ _ => Iff.rfl
theorem cnn_sy {lk : Nat → Nat → Prop} {x y : Nat} (h : cnn lk x y) : cnn lk y x := fun P hP => (h P hP).symm
theorem cnn_tr {lk : Nat → Nat → Prop} {x y z : Nat} (h : cnn lk x y) (k : cnn lk y z) : cnn lk x z := fun P hP => (h P hP).trans (k P hP)
theorem cnn_lk {lk : Nat → Nat → Prop} {x y : Nat} (h : lk x y) : cnn lk x y := fun _ hP => hP x y h
noncomputable def mkP (P : Nat → Prop) : Nat → Nat
  | 0 => 0
  | n + 1 => mkP P n ||| cif (P n) (2 ^ n) 0
theorem mkP_bit {P : Nat → Prop} {y : Nat} : ∀ n, (mkP P n).testBit y = true ↔ y < n ∧ P y
  | 0 => by simp [mkP]
  | n + 1 => by
    show (mkP P n ||| cif (P n) (2 ^ n) 0).testBit y = true ↔ _
    rw [Nat.testBit_or, Bool.or_eq_true, mkP_bit n]
    by_cases q : P n
    · rw [cif_t q, Nat.testBit_two_pow, decide_eq_true_eq]
      constructor
      · rintro (⟨h1, h2⟩ | h)
        · exact ⟨by omega, h2⟩
        · subst h; exact ⟨by omega, q⟩
      · rintro ⟨h1, h2⟩
        by_cases z : n = y
        · exact Or.inr z
        · exact Or.inl ⟨by omega, h2⟩
    · rw [cif_f q]
      constructor
      · rintro (⟨h1, h2⟩ | h)
        · exact ⟨by omega, h2⟩
        · simp at h
      · rintro ⟨h1, h2⟩
        have : y ≠ n := fun z => q (z ▸ h2)
        exact Or.inl ⟨by omega, h2⟩
/-- a set of linked places, closed under the links -/
def clL (lk : Nat → Nat → Prop) (m : Nat) : Prop := ∀ a b, lk a b → (m.testBit a = true ↔ m.testBit b = true)
theorem cmp_bit {N : Nat} (hN : N ≤ 7) {lk : Nat → Nat → Prop} (hlk : ∀ a b, lk a b → a < N ∧ b < N) {r : Nat → Nat} (h1 : ∀ m, sb m (r m)) (h2 : ∀ m, m < 2 ^ N → r m < 2 ^ N) (h3 : ∀ m, m < 2 ^ N → r m = m → clL lk m) (h4 : ∀ m S, sb m S → clL lk S → sb (r m) S) {x y : Nat} (hx : x < N) :
    (itN r (2 ^ x) N).testBit y = true ↔ y < N ∧ cnn lk x y := by
  obtain ⟨a1, a2, a3, a4⟩ := rounds hN h1 h2 h3 h4 (two_lt hx) (Nat.le_refl N)
  constructor
  · intro h
    have hS : clL lk (mkP (cnn lk x) N) := by
      intro a b hab
      obtain ⟨ha, hb⟩ := hlk a b hab
      rw [mkP_bit, mkP_bit]
      constructor
      · rintro ⟨_, q⟩; exact ⟨hb, cnn_tr q (cnn_lk hab)⟩
      · rintro ⟨_, q⟩; exact ⟨ha, cnn_tr q (cnn_sy (cnn_lk hab))⟩
    have := a4 (mkP (cnn lk x) N) (sb_two.mpr ((mkP_bit N).mpr ⟨hx, cnn_rf x⟩)) hS
    exact (mkP_bit N).mp (sb_iff.mp this y h)
  · rintro ⟨_, q⟩
    exact (q (fun z => (itN r (2 ^ x) N).testBit z = true) a3).mp (sb_two.mp a1)
theorem stC_cl {f : Nat → Nat → Nat} {a b m : Nat} (h : stC f a b m = m) : m.testBit a = true ↔ m.testBit (f a b) = true := by
  unfold stC at h
  split at h
  · next q =>
    have hb : ∀ i, (m &&& lnk f a b).testBit i = false := fun i => by rw [q]; simp
    have ha := hb a
    have hf := hb (f a b)
    unfold lnk at ha hf
    rw [Nat.testBit_and, Nat.testBit_or, Nat.testBit_two_pow] at ha hf
    simp at ha hf
    simp [ha, hf]
  · have h1 : m.testBit a = true := by rw [← h, Nat.testBit_or]; unfold lnk; simp [Nat.testBit_or]
    have h2 : m.testBit (f a b) = true := by rw [← h, Nat.testBit_or]; unfold lnk; simp [Nat.testBit_or]
    simp [h1, h2]
theorem and_bit {m L : Nat} (h : m &&& L ≠ 0) : ∃ i, m.testBit i = true ∧ L.testBit i = true := by
  apply Classical.byContradiction
  intro q
  apply h
  apply Nat.eq_of_testBit_eq
  intro i
  rw [Nat.testBit_and, Nat.zero_testBit]
  cases h1 : m.testBit i with
  | false => rfl
  | true =>
    cases h2 : L.testBit i with
    | false => rfl
    | true => exact absurd ⟨i, h1, h2⟩ q
theorem stC_least {f : Nat → Nat → Nat} {a b m S : Nat} (hS : S.testBit a = true ↔ S.testBit (f a b) = true) (h : sb m S) : sb (stC f a b m) S := by
  unfold stC
  split
  · exact h
  · next q =>
    obtain ⟨i, h1, h2⟩ := and_bit q
    unfold lnk at h2 ⊢
    rw [Nat.testBit_or, Bool.or_eq_true, Nat.testBit_two_pow, Nat.testBit_two_pow, decide_eq_true_eq, decide_eq_true_eq] at h2
    have h3 : S.testBit i = true := sb_iff.mp h i h1
    refine sb_or h (sb_or (sb_two.mpr ?_) (sb_two.mpr ?_))
    · rcases h2 with h2 | h2
      · rw [h2]; exact h3
      · exact hS.mpr (by rw [h2]; exact h3)
    · rcases h2 with h2 | h2
      · exact hS.mp (by rw [h2]; exact h3)
      · rw [h2]; exact h3
def lkT (n : Nat) (f : Nat → Nat → Nat) (x y : Nat) : Prop := ∃ i j, (i < n ∧ j < n) ∧ x = i ∧ y = f i j
theorem cmpT_bit {n : Nat} {f : Nat → Nat → Nat} (hn : n ≤ 6) (hr : ∀ i j, i < n → j < n → f i j < n) {x y : Nat} (hx : x < n) : (cmpT n f x).testBit y = true ↔ y < n ∧ cnn (lkT n f) x y := by
  refine cmp_bit (by omega) ?_ (rnd2_ext stC_ext n) (fun m hm => rnd2_lt (stC_lt hr) hm) ?_ ?_ hx
  · rintro a b ⟨i, j, ⟨hi, hj⟩, rfl, rfl⟩; exact ⟨hi, hr _ _ hi hj⟩
  · rintro m hm e a b ⟨i, j, ⟨hi, hj⟩, rfl, rfl⟩
    exact stC_cl (rnd2_fix stC_ext e a j hi hj)
  · intro m S hm hS
    exact fN_least (g := fun a m => fN (fun b m => stC f a b m) m n) (n := n) (fun a m ha hm => fN_least (g := fun b m => stC f a b m) (n := n) (fun b m hb hm => stC_least (hS a _ ⟨a, b, ⟨ha, hb⟩, rfl, rfl⟩) hm) hm n (Nat.le_refl n)) hm n (Nat.le_refl n)
def lkD (c : Nat) (g : Nat → Nat → Nat) (x y : Nat) : Prop := ∃ k, k < c ∧ x = g k 1 ∧ y = g k 2
theorem stD_eq {g : Nat → Nat → Nat} {k m : Nat} : stD g k m = stC (fun _ _ => g k 2) (g k 1) 0 m := rfl
theorem cmpD_bit {a c : Nat} {g : Nat → Nat → Nat} (ha : a ≤ 7) (hg : ∀ k, k < c → g k 1 < a ∧ g k 2 < a) {x y : Nat} (hx : x < a) : (cmpD a c g x).testBit y = true ↔ y < a ∧ cnn (lkD c g) x y := by
  have hext : ∀ k m, sb m (stD g k m) := fun k m => by rw [stD_eq]; exact stC_ext _ _ _
  refine cmp_bit ha ?_ (r := fun m => fN (stD g) m c) (fun m => fN_ext hext m c) (fun m hm => stD_lt hg hm c (Nat.le_refl c)) ?_ ?_ hx
  · rintro x y ⟨k, hk, rfl, rfl⟩; exact hg k hk
  · rintro m hm e x y ⟨k, hk, rfl, rfl⟩
    have := fN_fix hext c e k hk
    rw [stD_eq] at this
    exact stC_cl this
  · intro m S hm hS
    exact fN_least (n := c) (fun k m hk hm => by rw [stD_eq]; exact stC_least (hS _ _ ⟨k, hk, rfl, rfl⟩) hm) hm c (Nat.le_refl c)
/-- the first of those that it is linked with -/
def fst1 (lk : Nat → Nat → Prop) (x : Nat) : Prop := ∀ j, j < x → ¬ cnn lk j x
noncomputable def fstB (lk : Nat → Nat → Prop) (x : Nat) : Bool := @decide (fst1 lk x) (Classical.propDecidable _)
theorem fstB_iff {lk : Nat → Nat → Prop} {x : Nat} : fstB lk x = true ↔ fst1 lk x := @decide_eq_true_iff _ (Classical.propDecidable _)
theorem ccG_eq {N : Nat} {lk : Nat → Nat → Prop} {cmp : Nat → Nat} (h : ∀ x y, x < N → ((cmp x).testBit y = true ↔ y < N ∧ cnn lk x y)) : ∀ k, k ≤ N → (ccG cmp k).1 = cN (fstB lk) k ∧ ∀ y, (ccG cmp k).2.testBit y = true ↔ y < N ∧ ∃ j, j < k ∧ cnn lk j y := by
  intro k
  induction k with
  | zero => intro _; exact ⟨rfl, fun y => by simp [ccG, fN]⟩
  | succ k ih =>
    intro hk
    obtain ⟨h1, h2⟩ := ih (by omega)
    have e : ccG cmp (k + 1) = if (ccG cmp k).2.testBit k = true then ccG cmp k else ((ccG cmp k).1 + 1, (ccG cmp k).2 ||| cmp k) := rfl
    rw [e]
    by_cases q : (ccG cmp k).2.testBit k = true
    · rw [if_pos q]
      obtain ⟨_, j, h3, h4⟩ := (h2 k).mp q
      refine ⟨?_, fun y => ?_⟩
      · have : ¬ fstB lk k = true := fun z => fstB_iff.mp z j h3 h4
        simp only [cN, if_neg this]; exact h1
      · rw [h2 y]
        constructor
        · rintro ⟨h5, i, h6, h7⟩; exact ⟨h5, i, by omega, h7⟩
        · rintro ⟨h5, i, h6, h7⟩
          by_cases z : i = k
          · subst z; exact ⟨h5, j, h3, cnn_tr h4 h7⟩
          · exact ⟨h5, i, by omega, h7⟩
    · rw [if_neg q]
      refine ⟨?_, fun y => ?_⟩
      · have : fstB lk k = true := fstB_iff.mpr (fun j hj hc => q ((h2 k).mpr ⟨by omega, j, hj, hc⟩))
        simp only [cN, if_pos this, h1]
      · show ((ccG cmp k).2 ||| cmp k).testBit y = true ↔ _
        rw [Nat.testBit_or, Bool.or_eq_true, h2 y, h k y (by omega)]
        constructor
        · rintro (⟨h5, i, h6, h7⟩ | ⟨h5, h6⟩)
          · exact ⟨h5, i, by omega, h7⟩
          · exact ⟨h5, k, by omega, h6⟩
        · rintro ⟨h5, i, h6, h7⟩
          by_cases z : i = k
          · subst z; exact Or.inr ⟨h5, h7⟩
          · exact Or.inl ⟨h5, i, by omega, h7⟩
/-! labels, joined link by link -/
def jn (lab : Nat → Nat) (a b : Nat) : Nat → Nat := fun k => if lab k = max (lab a) (lab b) then min (lab a) (lab b) else lab k
def Lok (lk : Nat → Nat → Prop) (N : Nat) (lab : Nat → Nat) : Prop := ∀ k, k < N → lab k ≤ k ∧ lab (lab k) = lab k ∧ cnn lk (lab k) k
theorem Lok_id {lk : Nat → Nat → Prop} {N : Nat} : Lok lk N (fun k => k) := fun k _ => ⟨Nat.le_refl k, rfl, cnn_rf k⟩
theorem jn_ok {lk : Nat → Nat → Prop} {N a b : Nat} {lab : Nat → Nat} (h : Lok lk N lab) (ha : a < N) (hb : b < N) (hab : lk a b) : Lok lk N (jn lab a b) ∧ jn lab a b a = jn lab a b b ∧ ∀ x y, lab x = lab y → jn lab a b x = jn lab a b y := by
  obtain ⟨a1, a2, a3⟩ := h a ha
  obtain ⟨b1, b2, b3⟩ := h b hb
  have hc : cnn lk (lab a) (lab b) := cnn_tr a3 (cnn_tr (cnn_lk hab) (cnn_sy b3))
  have hmin : lab (min (lab a) (lab b)) = min (lab a) (lab b) := by
    rcases Nat.le_total (lab a) (lab b) with q | q
    · rw [Nat.min_eq_left q]; exact a2
    · rw [Nat.min_eq_right q]; exact b2
  have hcm : cnn lk (min (lab a) (lab b)) (max (lab a) (lab b)) := by
    rcases Nat.le_total (lab a) (lab b) with q | q
    · rw [Nat.min_eq_left q, Nat.max_eq_right q]; exact hc
    · rw [Nat.min_eq_right q, Nat.max_eq_left q]; exact cnn_sy hc
  refine ⟨fun k hk => ?_, ?_, fun x y e => by unfold jn; rw [e]⟩
  · obtain ⟨k1, k2, k3⟩ := h k hk
    unfold jn
    by_cases q : lab k = max (lab a) (lab b)
    · rw [if_pos q, hmin]
      refine ⟨by omega, ?_, ?_⟩
      · split <;> rfl
      · rw [q] at k3; exact cnn_tr hcm k3
    · rw [if_neg q, k2, if_neg q]
      exact ⟨k1, rfl, k3⟩
  · unfold jn
    by_cases q1 : lab a = max (lab a) (lab b)
    · rw [if_pos q1]
      by_cases q2 : lab b = max (lab a) (lab b)
      · rw [if_pos q2]
      · rw [if_neg q2]; omega
    · rw [if_neg q1, if_pos (by omega)]; omega
theorem lab_iff {lk : Nat → Nat → Prop} {N : Nat} {lab : Nat → Nat} (h : Lok lk N lab) (hp : ∀ a b, lk a b → lab a = lab b) {x y : Nat} (hx : x < N) (hy : y < N) : lab x = lab y ↔ cnn lk x y := by
  constructor
  · intro e
    have h1 := (h x hx).2.2
    have h2 := (h y hy).2.2
    rw [e] at h1
    exact cnn_tr (cnn_sy h1) h2
  · intro hc
    exact ((hc (fun z => lab z = lab y) (fun a b hab => by rw [hp a b hab])).mpr rfl)
theorem parts_eq {lk : Nat → Nat → Prop} {N : Nat} {lab : Nat → Nat} (h : Lok lk N lab) (hp : ∀ a b, lk a b → lab a = lab b) : cN (fun k => decide (lab k = k)) N = cN (fstB lk) N := by
  refine cN_congr (fun k hk => ?_)
  have key : lab k = k ↔ fst1 lk k := by
    constructor
    · intro e j hj hc
      have h1 := (lab_iff h hp (by omega) hk).mpr hc
      have h2 := (h j (by omega)).1
      omega
    · intro hf
      have h1 := (h k hk).1
      by_cases q : lab k = k
      · exact q
      · exact absurd (h k hk).2.2 (hf _ (by omega))
  by_cases q : lab k = k
  · rw [fstB_iff.mpr (key.mp q)]; simp [q]
  · have : fstB lk k = false := by
      cases hb : fstB lk k with
      | false => rfl
      | true => exact absurd (key.mpr (fstB_iff.mp hb)) q
    rw [this]; simp [q]
theorem ccF_parts {n : Nat} {f : Nat → Nat → Nat} {lab : Nat → Nat} (hn : n ≤ 6) (hr : ∀ i j, i < n → j < n → f i j < n) (h : Lok (lkT n f) n lab) (hp : ∀ i j, i < n → j < n → lab i = lab (f i j)) : cN (fun k => decide (lab k = k)) n = (ccF n f n).1 := by
  rw [parts_eq h (fun a b ⟨i, j, ⟨hi, hj⟩, ea, eb⟩ => by rw [ea, eb]; exact hp i j hi hj)]
  exact ((ccG_eq (fun x y hx => cmpT_bit hn hr hx) n (Nat.le_refl n)).1).symm
theorem ccD_parts {a c : Nat} {g : Nat → Nat → Nat} {lab : Nat → Nat} (ha : a ≤ 7) (hg : ∀ k, k < c → g k 1 < a ∧ g k 2 < a) (h : Lok (lkD c g) a lab) (hp : ∀ k, k < c → lab (g k 1) = lab (g k 2)) : cN (fun k => decide (lab k = k)) a = (ccG (cmpD a c g) a).1 := by
  rw [parts_eq h (fun x y ⟨k, hk, ea, eb⟩ => by rw [ea, eb]; exact hp k hk)]
  exact ((ccG_eq (fun x y hx => cmpD_bit ha hg hx) a (Nat.le_refl a)).1).symm
/-! a permutation of six or fewer comes back within six steps -/
def chk3 (L : List Nat) : Bool := (List.range 6).any (fun k => (List.range L.length).all (fun x => decide (itN (ix L) x (k + 1) = x)))
theorem p3_1 : ∀ a : Fin 1, chk3 [a] = true := by decide +kernel
theorem p3_2 : ∀ a : Fin 2, ∀ b : Fin 2, nin b [a] = true → chk3 [a, b] = true := by decide +kernel
theorem p3_3 : ∀ a : Fin 3, ∀ b : Fin 3, nin b [a] = true → ∀ c : Fin 3, nin c [a, b] = true → chk3 [a, b, c] = true := by decide +kernel
theorem p3_4 : ∀ a : Fin 4, ∀ b : Fin 4, nin b [a] = true → ∀ c : Fin 4, nin c [a, b] = true → ∀ d : Fin 4, nin d [a, b, c] = true → chk3 [a, b, c, d] = true := by decide +kernel
theorem p3_5 : ∀ a : Fin 5, ∀ b : Fin 5, nin b [a] = true → ∀ c : Fin 5, nin c [a, b] = true → ∀ d : Fin 5, nin d [a, b, c] = true → ∀ e : Fin 5, nin e [a, b, c, d] = true → chk3 [a, b, c, d, e] = true := by decide +kernel
theorem p3_6 : ∀ a : Fin 6, ∀ b : Fin 6, nin b [a] = true → ∀ c : Fin 6, nin c [a, b] = true → ∀ d : Fin 6, nin d [a, b, c] = true → ∀ e : Fin 6, nin e [a, b, c, d] = true → ∀ f : Fin 6, nin f [a, b, c, d, e] = true → chk3 [a, b, c, d, e, f] = true := by decide +kernel
theorem p3 {n : Nat} {L : List Nat} (hn : 1 ≤ n ∧ n ≤ 6) (h : permL n L) : chk3 L = true := by
  have hi := ix_inj hn.2 h
  have hl := fun i (hi : i < n) => ix_lt h hi
  have hlen := h.1
  have ne : ∀ i j, i < j → j < n → ix L j ≠ ix L i := fun i j h1 h2 z => hi i j h1 h2 z.symm
  rcases (show n = 1 ∨ n = 2 ∨ n = 3 ∨ n = 4 ∨ n = 5 ∨ n = 6 by omega) with rfl | rfl | rfl | rfl | rfl | rfl
  · obtain ⟨a, rfl⟩ : ∃ a, L = [a] := by
      rcases L with _ | ⟨a, _ | ⟨b, L⟩⟩ <;> simp at hlen; exact ⟨_, rfl⟩
    exact p3_1 ⟨a, hl 0 (by omega)⟩
  · obtain ⟨a, b, rfl⟩ : ∃ a b, L = [a, b] := by
      rcases L with _ | ⟨a, _ | ⟨b, _ | ⟨c, L⟩⟩⟩ <;> simp at hlen; exact ⟨_, _, rfl⟩
    have n01 : b ≠ a := ne 0 1 (by omega) (by omega)
    exact p3_2 ⟨a, hl 0 (by omega)⟩ ⟨b, hl 1 (by omega)⟩ (by simp [nin]; omega)
  · obtain ⟨a, b, c, rfl⟩ : ∃ a b c, L = [a, b, c] := by
      rcases L with _ | ⟨a, _ | ⟨b, _ | ⟨c, _ | ⟨d, L⟩⟩⟩⟩ <;> simp at hlen; exact ⟨_, _, _, rfl⟩
    have n01 : b ≠ a := ne 0 1 (by omega) (by omega)
    have n02 : c ≠ a := ne 0 2 (by omega) (by omega)
    have n12 : c ≠ b := ne 1 2 (by omega) (by omega)
    exact p3_3 ⟨a, hl 0 (by omega)⟩ ⟨b, hl 1 (by omega)⟩ (by simp [nin]; omega) ⟨c, hl 2 (by omega)⟩ (by simp [nin]; omega)
  · obtain ⟨a, b, c, d, rfl⟩ : ∃ a b c d, L = [a, b, c, d] := by
      rcases L with _ | ⟨a, _ | ⟨b, _ | ⟨c, _ | ⟨d, _ | ⟨e, L⟩⟩⟩⟩⟩ <;> simp at hlen; exact ⟨_, _, _, _, rfl⟩
    have n01 : b ≠ a := ne 0 1 (by omega) (by omega)
    have n02 : c ≠ a := ne 0 2 (by omega) (by omega)
    have n12 : c ≠ b := ne 1 2 (by omega) (by omega)
    have n03 : d ≠ a := ne 0 3 (by omega) (by omega)
    have n13 : d ≠ b := ne 1 3 (by omega) (by omega)
    have n23 : d ≠ c := ne 2 3 (by omega) (by omega)
    exact p3_4 ⟨a, hl 0 (by omega)⟩ ⟨b, hl 1 (by omega)⟩ (by simp [nin]; omega) ⟨c, hl 2 (by omega)⟩ (by simp [nin]; omega) ⟨d, hl 3 (by omega)⟩ (by simp [nin]; omega)
  · obtain ⟨a, b, c, d, e, rfl⟩ : ∃ a b c d e, L = [a, b, c, d, e] := by
      rcases L with _ | ⟨a, _ | ⟨b, _ | ⟨c, _ | ⟨d, _ | ⟨e, _ | ⟨f, L⟩⟩⟩⟩⟩⟩ <;> simp at hlen; exact ⟨_, _, _, _, _, rfl⟩
    have n01 : b ≠ a := ne 0 1 (by omega) (by omega)
    have n02 : c ≠ a := ne 0 2 (by omega) (by omega)
    have n12 : c ≠ b := ne 1 2 (by omega) (by omega)
    have n03 : d ≠ a := ne 0 3 (by omega) (by omega)
    have n13 : d ≠ b := ne 1 3 (by omega) (by omega)
    have n23 : d ≠ c := ne 2 3 (by omega) (by omega)
    have n04 : e ≠ a := ne 0 4 (by omega) (by omega)
    have n14 : e ≠ b := ne 1 4 (by omega) (by omega)
    have n24 : e ≠ c := ne 2 4 (by omega) (by omega)
    have n34 : e ≠ d := ne 3 4 (by omega) (by omega)
    exact p3_5 ⟨a, hl 0 (by omega)⟩ ⟨b, hl 1 (by omega)⟩ (by simp [nin]; omega) ⟨c, hl 2 (by omega)⟩ (by simp [nin]; omega) ⟨d, hl 3 (by omega)⟩ (by simp [nin]; omega) ⟨e, hl 4 (by omega)⟩ (by simp [nin]; omega)
  · obtain ⟨a, b, c, d, e, f, rfl⟩ : ∃ a b c d e f, L = [a, b, c, d, e, f] := by
      rcases L with _ | ⟨a, _ | ⟨b, _ | ⟨c, _ | ⟨d, _ | ⟨e, _ | ⟨f, _ | ⟨g, L⟩⟩⟩⟩⟩⟩⟩ <;> simp at hlen; exact ⟨_, _, _, _, _, _, rfl⟩
    have n01 : b ≠ a := ne 0 1 (by omega) (by omega)
    have n02 : c ≠ a := ne 0 2 (by omega) (by omega)
    have n12 : c ≠ b := ne 1 2 (by omega) (by omega)
    have n03 : d ≠ a := ne 0 3 (by omega) (by omega)
    have n13 : d ≠ b := ne 1 3 (by omega) (by omega)
    have n23 : d ≠ c := ne 2 3 (by omega) (by omega)
    have n04 : e ≠ a := ne 0 4 (by omega) (by omega)
    have n14 : e ≠ b := ne 1 4 (by omega) (by omega)
    have n24 : e ≠ c := ne 2 4 (by omega) (by omega)
    have n34 : e ≠ d := ne 3 4 (by omega) (by omega)
    have n05 : f ≠ a := ne 0 5 (by omega) (by omega)
    have n15 : f ≠ b := ne 1 5 (by omega) (by omega)
    have n25 : f ≠ c := ne 2 5 (by omega) (by omega)
    have n35 : f ≠ d := ne 3 5 (by omega) (by omega)
    have n45 : f ≠ e := ne 4 5 (by omega) (by omega)
    exact p3_6 ⟨a, hl 0 (by omega)⟩ ⟨b, hl 1 (by omega)⟩ (by simp [nin]; omega) ⟨c, hl 2 (by omega)⟩ (by simp [nin]; omega) ⟨d, hl 3 (by omega)⟩ (by simp [nin]; omega) ⟨e, hl 4 (by omega)⟩ (by simp [nin]; omega) ⟨f, hl 5 (by omega)⟩ (by simp [nin]; omega)
theorem ord6 {n y : Nat} {f : Nat → Nat → Nat} (hn : 1 ≤ n ∧ n ≤ 6) (hf : ∀ i, i < n → f i y < n) (hp : prm n f y) : ∃ k, (1 ≤ k ∧ k ≤ 6) ∧ idA n f y k := by
  have e : ∀ i, i < n → ix ((List.range n).map (fun x => f x y)) i = f i y := fun i hi => by simp [ix, hi]
  have hL : permL n ((List.range n).map (fun x => f x y)) := by
    refine ⟨by simp, ?_⟩
    rw [msk_congr n (c2 := fun x => f x y) e]; exact hp
  have h3 := p3 hn hL
  unfold chk3 at h3
  rw [List.any_eq_true] at h3
  obtain ⟨k, hk, h4⟩ := h3
  rw [List.mem_range] at hk
  rw [List.all_eq_true] at h4
  refine ⟨k + 1, by omega, fun x hx => ?_⟩
  have h5 := h4 x (by rw [List.mem_range]; simpa using hx)
  rw [decide_eq_true_eq] at h5
  have hit : ∀ j, itN (fun z => f z y) x j = itN (ix ((List.range n).map (fun x => f x y))) x j ∧ itN (fun z => f z y) x j < n := by
    intro j
    induction j with
    | zero => exact ⟨rfl, hx⟩
    | succ j ih =>
      refine ⟨?_, hf _ ih.2⟩
      show f (itN _ x j) y = ix _ (itN _ x j)
      rw [← ih.1, e _ ih.2]
  rw [(hit (k + 1)).1]; exact h5
theorem c2_swap {p : Nat → Nat → Bool} {n : Nat} : ∀ a, c2N p n a = fN (fun y (z : Nat) => z + cN (fun x => p x y) a) 0 n := by
  intro a
  induction a with
  | zero =>
    have : ∀ k, fN (fun y (z : Nat) => z + cN (fun x => p x y) 0) 0 k = 0 := by
      intro k
      induction k with
      | zero => rfl
      | succ k ih => show fN _ 0 k + 0 = 0; rw [ih]
    exact (this n).symm
  | succ a ih =>
    show c2N p n a + cN (p a) n = _
    rw [ih]
    have : ∀ k, fN (fun y (z : Nat) => z + cN (fun x => p x y) a) 0 k + cN (p a) k = fN (fun y (z : Nat) => z + cN (fun x => p x y) (a + 1)) 0 k := by
      intro k
      induction k with
      | zero => rfl
      | succ k ih2 =>
        show fN _ 0 k + cN (fun x => p x k) a + (cN (p a) k + (if p a k then 1 else 0)) = fN _ 0 k + (cN (fun x => p x k) a + (if p a k then 1 else 0))
        rw [← ih2]; omega
    exact this n
