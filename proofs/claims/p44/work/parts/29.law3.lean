/-! the law's diagram: the number of its crossings in q[2], their parts in c -/
def LC (w : Mem) (c : Nat) (g : Nat → Nat → Nat) (s : Nat → Int) : Prop := w 45 2 = (c : Int) ∧ c ≤ 10 ∧ ∀ k, k < c → w 47 (4 * k) = (g k 0 : Int) ∧ w 47 (4 * k + 1) = (g k 1 : Int) ∧ w 47 (4 * k + 2) = (g k 2 : Int) ∧ w 47 (4 * k + 3) = s k
def LB (a c : Nat) (g : Nat → Nat → Nat) (s : Nat → Int) : Prop := (1 ≤ a ∧ a ≤ 7) ∧ ∀ k, k < c → (g k 0 < a ∧ g k 1 < a ∧ g k 2 < a) ∧ (s k = 1 ∨ s k = -1)
theorem LC_same {w w1 : Mem} {c : Nat} {g : Nat → Nat → Nat} {s : Nat → Int} (h : LC w c g s) (h2 : w1 45 2 = w 45 2) (hs : ∀ k, w1 47 k = w 47 k) : LC w1 c g s :=
  ⟨by rw [h2]; exact h.1, h.2.1, fun k hk => by rw [hs, hs, hs, hs]; exact h.2.2 k hk⟩
theorem LC_congr {w : Mem} {c : Nat} {g g2 : Nat → Nat → Nat} {s s2 : Nat → Int} (h : LC w c g s) (he : ∀ k, k < c → g k 0 = g2 k 0 ∧ g k 1 = g2 k 1 ∧ g k 2 = g2 k 2 ∧ s k = s2 k) : LC w c g2 s2 :=
  ⟨h.1, h.2.1, fun k hk => by obtain ⟨e0, e1, e2, e3⟩ := he k hk; rw [← e0, ← e1, ← e2, ← e3]; exact h.2.2 k hk⟩
theorem cN_eq0 {p : Nat → Bool} : ∀ n, cN p n = 0 ↔ ∀ i, i < n → ¬ p i = true
  | 0 => ⟨fun _ i h => absurd h (Nat.not_lt_zero i), fun _ => rfl⟩
  | n + 1 => by
    have ih := cN_eq0 (p := p) n
    simp only [cN]
    constructor
    · intro e i hi
      by_cases q : p n = true
      · rw [if_pos q] at e; omega
      · by_cases z : i = n
        · rw [z]; exact q
        · exact ih.mp (by rw [if_neg q] at e; omega) i (by omega)
    · intro h
      rw [if_neg (h n (by omega)), ih.mpr (fun i hi => h i (by omega))]
theorem cN_one {p : Nat → Bool} {i : Nat} (hi : p i = true) : ∀ n, i < n → 1 ≤ cN p n
  | 0, h => absurd h (Nat.not_lt_zero i)
  | n + 1, h => by
    simp only [cN]
    by_cases z : i = n
    · subst z; rw [if_pos hi]; omega
    · have := cN_one hi n (by omega); omega
theorem cN_two {p : Nat → Bool} {i j : Nat} (hi : p i = true) (hj : p j = true) (hij : i < j) : ∀ n, j < n → 2 ≤ cN p n
  | 0, h => absurd h (Nat.not_lt_zero j)
  | n + 1, h => by
    simp only [cN]
    by_cases z : j = n
    · subst z; rw [if_pos hj]; have := cN_one hi j hij; omega
    · have := cN_two hi hj hij n (by omega); omega
theorem cAs_iff {g : Nat → Nat → Nat} {p x : Nat} : ∀ c, (∀ i j, i < j → j < c → g i p ≠ g j p) → cAs g p x c = if (msk (fun k => g k p) c).testBit x = true then 1 else 0 := by
  intro c
  induction c with
  | zero => intro _; simp [cAs, cN, msk, fN]
  | succ c ih =>
    intro h
    have ih := ih (fun i j h1 h2 => h i j h1 (by omega))
    have e : cAs g p x (c + 1) = cAs g p x c + (if decide (g c p = x) = true then 1 else 0) := rfl
    rw [e, ih]
    have hb := msk_bit (g := fun k => g k p) (v := x) c
    have hb1 := msk_bit (g := fun k => g k p) (v := x) (c + 1)
    by_cases q : g c p = x
    · have hn : ¬ (msk (fun k => g k p) c).testBit x = true := fun z => by
        obtain ⟨i, h1, h2⟩ := hb.mp z
        exact h i c h1 (by omega) (by show g i p = g c p; rw [q]; exact h2)
      rw [if_neg hn, if_pos (hb1.mpr ⟨c, by omega, q⟩), if_pos (by simpa using q)]
    · rw [if_neg (show ¬ decide (g c p = x) = true by simpa using q)]
      by_cases z : (msk (fun k => g k p) c).testBit x = true
      · obtain ⟨i, h1, h2⟩ := hb.mp z
        rw [if_pos z, if_pos (hb1.mpr ⟨i, by omega, h2⟩)]
      · rw [if_neg z, if_neg (fun z2 => by
          obtain ⟨i, h1, h2⟩ := hb1.mp z2
          by_cases y : i = c
          · subst y; exact q h2
          · exact z (hb.mpr ⟨i, by omega, h2⟩))]
theorem cls_dup {a c p i j : Nat} {g : Nat → Nat → Nat} (hp : p = 1 ∨ p = 2) (hij : i < j) (hj : j < c) (e : g i p = g j p) (ha : g j p < a) : ¬ closedD a c g := by
  intro h
  have h2 : 2 ≤ cAs g p (g j p) c := cN_two (p := fun k => decide (g k p = g j p)) (i := i) (j := j) (by simpa using e) (by simp) hij c hj
  have := h (g j p) ha
  rcases hp with rfl | rfl <;> omega
theorem cls_iff {a c : Nat} {g : Nat → Nat → Nat} (hl : ∀ k, k < c → g k 1 < a ∧ g k 2 < a) (h1 : ∀ i j, i < j → j < c → g i 1 ≠ g j 1) (h2 : ∀ i j, i < j → j < c → g i 2 ≠ g j 2) : msk (fun k => g k 1) c = msk (fun k => g k 2) c ↔ closedD a c g := by
  constructor
  · intro e x hx
    rw [cAs_iff c h1, cAs_iff c h2, e]
    split <;> omega
  · intro h
    apply Nat.eq_of_testBit_eq
    intro x
    by_cases hx : x < a
    · have := (h x hx).2
      rw [cAs_iff c h1, cAs_iff c h2] at this
      cases h3 : (msk (fun k => g k 1) c).testBit x <;> cases h4 : (msk (fun k => g k 2) c).testBit x <;> rw [h3, h4] at this <;> first | rfl | (simp at this)
    · have b1 : (msk (fun k => g k 1) c).testBit x = false := by
        cases h3 : (msk (fun k => g k 1) c).testBit x with
        | false => rfl
        | true => obtain ⟨i, q1, q2⟩ := (msk_bit c).mp h3; have := (hl i q1).1; omega
      have b2 : (msk (fun k => g k 2) c).testBit x = false := by
        cases h3 : (msk (fun k => g k 2) c).testBit x with
        | false => rfl
        | true => obtain ⟨i, q1, q2⟩ := (msk_bit c).mp h3; have := (hl i q1).2; omega
      rw [b1, b2]
theorem cmpD7 {a c : Nat} {g : Nat → Nat → Nat} (ha : a ≤ 7) (hg : ∀ k, k < c → g k 1 < a ∧ g k 2 < a) {x : Nat} (hx : x < a) : itN (fun m => fN (stD g) m c) (2 ^ x) 7 = cmpD a c g x := by
  have hext : ∀ k m, sb m (stD g k m) := fun k m => by rw [stD_eq]; exact stC_ext _ _ _
  have key := fun k (hk : a ≤ k) => rounds (cl := clL (lkD c g)) ha (r := fun m => fN (stD g) m c) (fun m => fN_ext hext m c) (fun m hm => stD_lt hg hm c (Nat.le_refl c)) (fun m hm e x y h => by
    obtain ⟨k, hk, rfl, rfl⟩ := h
    have := fN_fix hext c e k hk
    rw [stD_eq] at this
    exact stC_cl this) (fun m S hm hS => fN_least (n := c) (fun k m hk hm => by rw [stD_eq]; exact stC_least (hS _ _ ⟨k, hk, rfl, rfl⟩) hm) hm c (Nat.le_refl c)) (two_lt hx) hk
  obtain ⟨a1, a2, a3, a4⟩ := key 7 ha
  obtain ⟨b1, b2, b3, b4⟩ := key a (Nat.le_refl a)
  exact sb_as (a4 _ b1 b3) (b4 _ a1 a3)
theorem lnk0 {m : Nat} {g : Nat → Nat → Nat} {k : Nat} : m &&& lnkD g k = 0 ↔ ¬ m.testBit (g k 1) = true ∧ ¬ m.testBit (g k 2) = true := by
  constructor
  · intro h
    have hb : ∀ i, (m &&& lnkD g k).testBit i = false := fun i => by rw [h]; simp
    have h1 := hb (g k 1)
    have h2 := hb (g k 2)
    unfold lnkD at h1 h2
    rw [Nat.testBit_and, Nat.testBit_or, Nat.testBit_two_pow, Nat.testBit_two_pow] at h1 h2
    simp at h1 h2
    simp [h1, h2]
  · rintro ⟨h1, h2⟩
    apply Nat.eq_of_testBit_eq
    intro i
    unfold lnkD
    rw [Nat.testBit_and, Nat.testBit_or, Nat.testBit_two_pow, Nat.testBit_two_pow, Nat.zero_testBit]
    by_cases q1 : g k 1 = i
    · subst q1; simp [h1]
    · by_cases q2 : g k 2 = i
      · subst q2; simp [h2]
      · simp [q1, q2]
/-- a digit of a code -/
def dg (n a r j : Nat) : Nat := r / n ^ (a - 1 - j) % n
theorem dg_lt {n a r j : Nat} (hn : 1 ≤ n) : dg n a r j < n := Nat.mod_lt _ (by omega)
theorem dg_V {n a r : Nat} (hn : 1 ≤ n) (hr : r < n ^ a) : ∀ j, j ≤ a → Vn n (dg n a r) j = r / n ^ (a - j)
  | 0, _ => by simp [Vn, Nat.div_eq_of_lt hr]
  | j + 1, h => by
    show Vn n (dg n a r) j * n + dg n a r j = _
    rw [dg_V hn hr j (by omega)]
    have e : n ^ (a - j) = n ^ (a - (j + 1)) * n := by rw [← Nat.pow_succ]; congr 1; omega
    have e2 : a - 1 - j = a - (j + 1) := by omega
    unfold dg
    rw [e2, e, ← Nat.div_div_eq_div_mul]
    have := Nat.div_add_mod (r / n ^ (a - (j + 1))) n
    rw [Nat.mul_comm] at this; exact this
theorem dg_code {n a r : Nat} (hn : 1 ≤ n) (hr : r < n ^ a) : Vn n (dg n a r) a = r := by
  rw [dg_V hn hr a (Nat.le_refl a)]; simp
section LAW3
variable {l : Launch} {D : va_G} {ck : Nat → ClassId} {ad : Nat → Nat} {sh : List Shp} {w : Mem} {n a c : Nat} {f g : Nat → Nat → Nat} {s : Nat → Int}
theorem el_closed (hC : LC w c g s) (hB : LB a c g s) : eL_closed l D ck ad shA [vR 45, vR 47] w (Pz (fun w1 => w = w1 ∧ closedD a c g) (fun w1 => w = w1 ∧ ¬ closedD a c g)) := by
  have g2 : w 45 2 = (c : Int) := hC.1
  have hc10 := hC.2.1
  have ha := hB.1
  have h128 : 2 ^ a ≤ 2 ^ 7 := Nat.pow_le_pow_right (by decide) ha.2
  have hm1 := fun k (hk : k ≤ c) => msk_lt (g := fun k => g k 1) (n := a) k (fun i hi => (hB.2 i (by omega)).1.2.1)
  have hm2 := fun k (hk : k ≤ c) => msk_lt (g := fun k => g k 2) (n := a) k (fun i hi => (hB.2 i (by omega)).1.2.2)
  refine ev_of_goK (own := RL) (ls := [some (vR 45), some (vR 47), none, none, none]) (by decide +kernel) rfl rfl (Nat.le_of_ble_eq_true rfl) rkZ ?_
  intro K hK
  refine go_iconst (q := 1) dL_closed_0 rfl ?_
  refine go_istore_n (j := 2) (q := 2) (ls2 := [_, _, _, _, _]) rfl (by decide) rfl rfl dL_closed_1 rfl ?_
  refine go_iconst (q := 3) dL_closed_2 rfl ?_
  refine go_istore_n (j := 3) (q := 4) (ls2 := [_, _, _, _, _]) rfl (by decide) rfl rfl dL_closed_3 rfl ?_
  refine go_iconst (q := 5) dL_closed_4 rfl ?_
  refine go_istore (j := 4) (q := 7) (ls2 := [_, _, _, _, _]) (by decide) rfl rfl dL_closed_5 rfl ?_
  have lp7 : ∀ (m7 : Nat) (k : Nat) (ki ui vi : Int) (ek : ki = k) (hk : k ≤ c) (eu : ui = (msk (fun k => g k 1) k : Nat)) (ev : vi = (msk (fun k => g k 2) k : Nat)) (h1 : ∀ i j, i < j → j < k → g i 1 ≠ g j 1) (h2 : ∀ i j, i < j → j < k → g i 2 ≠ g j 2), m7 = c - k → gL_closed l D ck ad shA 7 [some (vR 45), some (vR 47), some (vI ui), some (vI vi), some (vI ki)] [] w K := by
    intro m7
    induction m7 using Nat.strongRecOn with
    | _ m7 ih7 =>
    intro k ki ui vi ek hk eu ev h1 h2 em7
    refine go_iload (j := 4) (q := 9) rfl dL_closed_7 rfl ?_
    refine go_aload_n (j := 0) (q := 10) rfl rfl dL_closed_9 rfl ?_
    refine go_iconst (q := 11) dL_closed_10 rfl ?_
    refine go_iald (j := 2) (q := 12) (by first | assumption | rfl) (wr_eq (by omega)) (by omega) dL_closed_11 rfl ?_
    refine go_icmp_ge2 (q := 15) (t := 81) dL_closed_12 (by decide) rfl (by omega) (fun c12 => ?_) (fun c12 => ?_)
    · have l1 := hm1 k (by omega)
      have l2 := hm2 k (by omega)
      have ekc : k = c := by omega
      have hiff := cls_iff (a := a) (c := c) (g := g) (fun k hk => ⟨(hB.2 k hk).1.2.1, (hB.2 k hk).1.2.2⟩) (by rw [← ekc]; exact h1) (by rw [← ekc]; exact h2)
      rw [← ekc] at hiff
      refine go_iload_n (j := 2) (q := 82) rfl rfl dL_closed_81 rfl ?_
      refine go_iload_n (j := 3) (q := 83) rfl rfl dL_closed_82 rfl ?_
      refine go_icmp_ne2 (q := 86) (t := 90) dL_closed_83 (by decide) rfl (by omega) (fun c83 => ?_) (fun c83 => ?_)
      · refine go_iconst (q := 91) dL_closed_90 rfl ?_
        refine go_iret dL_closed_91 ?_
        subst hK
        rw [ekc] at hiff
        first
        | exact Or.inl ⟨rfl, rfl, hiff.mp (by rw [← ekc]; omega)⟩
        | exact Or.inr ⟨rfl, rfl, fun q => by have := hiff.mpr q; rw [← ekc] at this; omega⟩
      · refine go_iconst (q := 87) dL_closed_86 rfl ?_
        refine go_goto (q := 91) dL_closed_87 (by decide) ?_
        refine go_iret dL_closed_91 ?_
        subst hK
        rw [ekc] at hiff
        first
        | exact Or.inl ⟨rfl, rfl, hiff.mp (by rw [← ekc]; omega)⟩
        | exact Or.inr ⟨rfl, rfl, fun q => by have := hiff.mpr q; rw [← ekc] at this; omega⟩
    · have hg := hC.2.2 k (by omega)
      have hb := (hB.2 k (by omega)).1
      have e1 : w 47 (4 * k + 1) = (g k 1 : Int) := hg.2.1
      have e2 : w 47 (4 * k + 2) = (g k 2 : Int) := hg.2.2.1
      have l1 := hm1 k (by omega)
      have l2 := hm2 k (by omega)
      have t1 := two_lt hb.2.1
      have t2 := two_lt hb.2.2
      have b1 := bit_eq (a := msk (fun k => g k 1) k) (k := g k 1) (by omega) (by omega)
      have b2 := bit_eq (a := msk (fun k => g k 2) k) (k := g k 2) (by omega) (by omega)
      rw [← eu] at b1
      rw [← ev] at b2
      refine go_iload_n (j := 2) (q := 16) rfl rfl dL_closed_15 rfl ?_
      refine go_aload_n (j := 1) (q := 17) rfl rfl dL_closed_16 rfl ?_
      refine go_iconst (q := 18) dL_closed_17 rfl ?_
      refine go_iload (j := 4) (q := 20) rfl dL_closed_18 rfl ?_
      refine go_imul (q := 21) dL_closed_20 rfl ?_
      refine go_iconst (q := 22) dL_closed_21 rfl ?_
      refine go_iadd (q := 23) dL_closed_22 rfl ?_
      refine go_iald (j := 4 * k + 1) (q := 24) (by first | assumption | rfl) (wr_eq (by omega)) (by omega) dL_closed_23 rfl ?_
      rw [e1]
      refine go_ishr (q := 25) dL_closed_24 rfl ?_
      refine go_iconst (q := 26) dL_closed_25 rfl ?_
      refine go_iand (q := 27) dL_closed_26 rfl ?_
      refine go_iconst (q := 28) dL_closed_27 rfl ?_
      refine go_icmp_eq2 (q := 31) (t := 47) dL_closed_28 (by decide) rfl (by rw [b1]; split <;> omega) (fun c28 => ?_) (fun c28 => ?_)
      · have hbt : (msk (fun k => g k 1) k).testBit (g k 1) = true := by rw [b1] at c28; by_cases q : (msk (fun k => g k 1) k).testBit (g k 1) = true; exact q; rw [if_neg q] at c28; omega
        obtain ⟨i, q1, q2⟩ := (msk_bit k).mp hbt
        have hno : ¬ closedD a c g := cls_dup (Or.inl rfl) q1 (by omega) q2 hb.2.1
        refine go_iconst (q := 48) dL_closed_47 rfl ?_
        refine go_iret dL_closed_48 ?_
        subst hK; exact Or.inr ⟨rfl, rfl, hno⟩
      · have hbt1 : ¬ (msk (fun k => g k 1) k).testBit (g k 1) = true := by rw [b1] at c28; intro q; rw [if_pos q] at c28; omega
        refine go_iload_n (j := 3) (q := 32) rfl rfl dL_closed_31 rfl ?_
        refine go_aload_n (j := 1) (q := 33) rfl rfl dL_closed_32 rfl ?_
        refine go_iconst (q := 34) dL_closed_33 rfl ?_
        refine go_iload (j := 4) (q := 36) rfl dL_closed_34 rfl ?_
        refine go_imul (q := 37) dL_closed_36 rfl ?_
        refine go_iconst (q := 38) dL_closed_37 rfl ?_
        refine go_iadd (q := 39) dL_closed_38 rfl ?_
        refine go_iald (j := 4 * k + 2) (q := 40) (by first | assumption | rfl) (wr_eq (by omega)) (by omega) dL_closed_39 rfl ?_
        rw [e2]
        refine go_ishr (q := 41) dL_closed_40 rfl ?_
        refine go_iconst (q := 42) dL_closed_41 rfl ?_
        refine go_iand (q := 43) dL_closed_42 rfl ?_
        refine go_iconst (q := 44) dL_closed_43 rfl ?_
        refine go_icmp_ne2 (q := 47) (t := 49) dL_closed_44 (by decide) rfl (by rw [b2]; split <;> omega) (fun c44 => ?_) (fun c44 => ?_)
        · have hbt2 : ¬ (msk (fun k => g k 2) k).testBit (g k 2) = true := by rw [b2] at c44; intro q; rw [if_pos q] at c44; omega
          refine go_iload_n (j := 2) (q := 50) rfl rfl dL_closed_49 rfl ?_
          refine go_iconst (q := 51) dL_closed_50 rfl ?_
          refine go_aload_n (j := 1) (q := 52) rfl rfl dL_closed_51 rfl ?_
          refine go_iconst (q := 53) dL_closed_52 rfl ?_
          refine go_iload (j := 4) (q := 55) rfl dL_closed_53 rfl ?_
          refine go_imul (q := 56) dL_closed_55 rfl ?_
          refine go_iconst (q := 57) dL_closed_56 rfl ?_
          refine go_iadd (q := 58) dL_closed_57 rfl ?_
          refine go_iald (j := 4 * k + 1) (q := 59) (by first | assumption | rfl) (wr_eq (by omega)) (by omega) dL_closed_58 rfl ?_
          rw [e1]
          refine go_ishl (q := 60) dL_closed_59 rfl ?_
          refine go_ior (q := 61) dL_closed_60 rfl ?_
          refine go_istore_n (j := 2) (q := 62) (ls2 := [_, _, _, _, _]) rfl (by decide) rfl rfl dL_closed_61 rfl ?_
          refine go_iload_n (j := 3) (q := 63) rfl rfl dL_closed_62 rfl ?_
          refine go_iconst (q := 64) dL_closed_63 rfl ?_
          refine go_aload_n (j := 1) (q := 65) rfl rfl dL_closed_64 rfl ?_
          refine go_iconst (q := 66) dL_closed_65 rfl ?_
          refine go_iload (j := 4) (q := 68) rfl dL_closed_66 rfl ?_
          refine go_imul (q := 69) dL_closed_68 rfl ?_
          refine go_iconst (q := 70) dL_closed_69 rfl ?_
          refine go_iadd (q := 71) dL_closed_70 rfl ?_
          refine go_iald (j := 4 * k + 2) (q := 72) (by first | assumption | rfl) (wr_eq (by omega)) (by omega) dL_closed_71 rfl ?_
          rw [e2]
          refine go_ishl (q := 73) dL_closed_72 rfl ?_
          refine go_ior (q := 74) dL_closed_73 rfl ?_
          refine go_istore_n (j := 3) (q := 75) (ls2 := [_, _, _, _, _]) rfl (by decide) rfl rfl dL_closed_74 rfl ?_
          refine go_iinc (j := 4) (q := 78) (ls2 := [_, _, _, _, _]) rfl (by decide) rfl rfl dL_closed_75 rfl ?_
          refine go_goto (q := 7) dL_closed_78 (by decide) ?_
          exact ih7 _ (by omega) (k + 1) _ _ _ (by omega) (by omega) (by rw [eu, shl_eq (by omega), or_eq (by omega) (by omega)]; rfl) (by rw [ev, shl_eq (by omega), or_eq (by omega) (by omega)]; rfl) (by
            intro i j hi hj
            by_cases q : j = k
            · subst q; exact fun z => hbt1 ((msk_bit j).mpr ⟨i, hi, z⟩)
            · exact h1 i j hi (by omega)) (by
            intro i j hi hj
            by_cases q : j = k
            · subst q; exact fun z => hbt2 ((msk_bit j).mpr ⟨i, hi, z⟩)
            · exact h2 i j hi (by omega)) rfl
        · have hbt : (msk (fun k => g k 2) k).testBit (g k 2) = true := by rw [b2] at c44; by_cases q : (msk (fun k => g k 2) k).testBit (g k 2) = true; exact q; rw [if_neg q] at c44; omega
          obtain ⟨i, q1, q2⟩ := (msk_bit k).mp hbt
          have hno : ¬ closedD a c g := cls_dup (Or.inr rfl) q1 (by omega) q2 hb.2.2
          refine go_iconst (q := 48) dL_closed_47 rfl ?_
          refine go_iret dL_closed_48 ?_
          subst hK; exact Or.inr ⟨rfl, rfl, hno⟩
  exact lp7 _ 0 _ _ _ rfl (by omega) rfl rfl (fun i j _ h => absurd h (Nat.not_lt_zero j)) (fun i j _ h => absurd h (Nat.not_lt_zero j)) rfl
theorem el_component {x : Nat} {xi : Int} (ex : xi = x) (hx : x < a) (hC : LC w c g s) (hB : LB a c g s) : eL_component l D ck ad shA [vI xi, vR 45, vR 47] w (Pi fun v w1 => v = ((cmpD a c g x : Nat) : Int) ∧ w = w1) := by
  have g2 : w 45 2 = (c : Int) := hC.1
  have hc10 := hC.2.1
  have ha := hB.1
  have h128 : 2 ^ a ≤ 2 ^ 7 := Nat.pow_le_pow_right (by decide) ha.2
  have hg12 := fun k (hk : k < c) => (⟨(hB.2 k hk).1.2.1, (hB.2 k hk).1.2.2⟩ : g k 1 < a ∧ g k 2 < a)
  refine ev_of_goK (own := RL) (ls := [some (vI xi), some (vR 45), some (vR 47), none, none, none]) (by decide +kernel) rfl rfl (Nat.le_of_ble_eq_true rfl) rkI ?_
  intro K hK
  refine go_iconst (q := 1) dL_component_0 rfl ?_
  refine go_iload_n (j := 0) (q := 2) rfl rfl dL_component_1 rfl ?_
  refine go_ishl (q := 3) dL_component_2 rfl ?_
  refine go_istore_n (j := 3) (q := 4) (ls2 := [_, _, _, _, _, _]) rfl (by decide) rfl rfl dL_component_3 rfl ?_
  refine go_iconst (q := 5) dL_component_4 rfl ?_
  refine go_istore (j := 4) (q := 7) (ls2 := [_, _, _, _, _, _]) (by decide) rfl rfl dL_component_5 rfl ?_
  have lp7 : ∀ (m7 : Nat) (t m : Nat) (ti mi : Int) (b : Option MV) (et : ti = t) (ht : t ≤ 7) (em : mi = m) (hm : m < 2 ^ a) (emt : m = itN (fun m => fN (stD g) m c) (2 ^ x) t), m7 = 7 - t → gL_component l D ck ad shA 7 [some (vI xi), some (vR 45), some (vR 47), some (vI mi), some (vI ti), b] [] w K := by
    intro m7
    induction m7 using Nat.strongRecOn with
    | _ m7 ih7 =>
    intro t m ti mi b et ht em hm emt em7
    refine go_iload (j := 4) (q := 9) rfl dL_component_7 rfl ?_
    refine go_bipush (q := 11) rfl dL_component_9 rfl ?_
    refine go_icmp_ge2 (q := 14) (t := 89) dL_component_11 (by decide) rfl (by omega) (fun c11 => ?_) (fun c11 => ?_)
    · refine go_iload_n (j := 3) (q := 90) rfl rfl dL_component_89 rfl ?_
      refine go_iret dL_component_90 ?_
      subst hK; exact ⟨_, rfl, by rw [em, emt, show t = 7 by omega, cmpD7 ha.2 hg12 hx], rfl⟩
    · refine go_iconst (q := 15) dL_component_14 rfl ?_
      refine go_istore (j := 5) (q := 17) (ls2 := [_, _, _, _, _, _]) (by decide) rfl rfl dL_component_15 rfl ?_
      have lp17 : ∀ (m17 : Nat) (k N : Nat) (ki ni : Int) (ek : ki = k) (hk : k ≤ c) (eN : ni = N) (hN : N < 2 ^ a) (eNf : N = fN (stD g) m k), m17 = c - k → gL_component l D ck ad shA 17 [some (vI xi), some (vR 45), some (vR 47), some (vI ni), some (vI ti), some (vI ki)] [] w K := by
        intro m17
        induction m17 using Nat.strongRecOn with
        | _ m17 ih17 =>
        intro k N ki ni ek hk eN hN eNf em17
        refine go_iload (j := 5) (q := 19) rfl dL_component_17 rfl ?_
        refine go_aload_n (j := 1) (q := 20) rfl rfl dL_component_19 rfl ?_
        refine go_iconst (q := 21) dL_component_20 rfl ?_
        refine go_iald (j := 2) (q := 22) (by first | assumption | rfl) (wr_eq (by omega)) (by omega) dL_component_21 rfl ?_
        refine go_icmp_ge2 (q := 25) (t := 83) dL_component_22 (by decide) rfl (by omega) (fun c22 => ?_) (fun c22 => ?_)
        · refine go_iinc (j := 4) (q := 86) (ls2 := [_, _, _, _, _, _]) rfl (by decide) rfl rfl dL_component_83 rfl ?_
          refine go_goto (q := 7) dL_component_86 (by decide) ?_
          exact ih7 _ (by omega) (t + 1) N _ _ _ (by omega) (by omega) eN hN (by rw [eNf, emt, show k = c by omega]; rfl) rfl
        · have hg := hC.2.2 k (by omega)
          have hb := (hB.2 k (by omega)).1
          have e1 : w 47 (4 * k + 1) = (g k 1 : Int) := hg.2.1
          have e2 : w 47 (4 * k + 2) = (g k 2 : Int) := hg.2.2.1
          have t1 := two_lt hb.2.1
          have t2 := two_lt hb.2.2
          have hlk : lnkD g k < 2 ^ a := or_lt t1 t2
          have b1 := bit_eq (a := N) (k := g k 1) (by omega) (by omega)
          have b2 := bit_eq (a := N) (k := g k 2) (by omega) (by omega)
          rw [← eN] at b1 b2
          have h0 := lnk0 (m := N) (g := g) (k := k)
          refine go_iload_n (j := 3) (q := 26) rfl rfl dL_component_25 rfl ?_
          refine go_aload_n (j := 2) (q := 27) rfl rfl dL_component_26 rfl ?_
          refine go_iconst (q := 28) dL_component_27 rfl ?_
          refine go_iload (j := 5) (q := 30) rfl dL_component_28 rfl ?_
          refine go_imul (q := 31) dL_component_30 rfl ?_
          refine go_iconst (q := 32) dL_component_31 rfl ?_
          refine go_iadd (q := 33) dL_component_32 rfl ?_
          refine go_iald (j := 4 * k + 1) (q := 34) (by first | assumption | rfl) (wr_eq (by omega)) (by omega) dL_component_33 rfl ?_
          rw [e1]
          refine go_ishr (q := 35) dL_component_34 rfl ?_
          refine go_iconst (q := 36) dL_component_35 rfl ?_
          refine go_iand (q := 37) dL_component_36 rfl ?_
          refine go_iload_n (j := 3) (q := 38) rfl rfl dL_component_37 rfl ?_
          refine go_aload_n (j := 2) (q := 39) rfl rfl dL_component_38 rfl ?_
          refine go_iconst (q := 40) dL_component_39 rfl ?_
          refine go_iload (j := 5) (q := 42) rfl dL_component_40 rfl ?_
          refine go_imul (q := 43) dL_component_42 rfl ?_
          refine go_iconst (q := 44) dL_component_43 rfl ?_
          refine go_iadd (q := 45) dL_component_44 rfl ?_
          refine go_iald (j := 4 * k + 2) (q := 46) (by first | assumption | rfl) (wr_eq (by omega)) (by omega) dL_component_45 rfl ?_
          rw [e2]
          refine go_ishr (q := 47) dL_component_46 rfl ?_
          refine go_iconst (q := 48) dL_component_47 rfl ?_
          refine go_iand (q := 49) dL_component_48 rfl ?_
          rw [b1, b2]
          refine go_iadd (q := 50) dL_component_49 rfl ?_
          refine go_if_le2 (q := 53) (t := 77) dL_component_50 (by decide) rfl (by split <;> split <;> omega) (fun c50 => ?_) (fun c50 => ?_)
          · have hz : N &&& lnkD g k = 0 := by
              refine h0.mpr ⟨fun q => ?_, fun q => ?_⟩
              · rw [if_pos q] at c50; split at c50 <;> omega
              · rw [if_pos q] at c50; split at c50 <;> omega
            refine go_iinc (j := 5) (q := 80) (ls2 := [_, _, _, _, _, _]) rfl (by decide) rfl rfl dL_component_77 rfl ?_
            refine go_goto (q := 17) dL_component_80 (by decide) ?_
            first
            | exact ih17 _ (by omega) (k + 1) N _ _ (by omega) (by omega) eN hN (by show N = stD g k _; rw [← eNf, stD, if_pos hz]) rfl
            | exact ih17 _ (by omega) (k + 1) (N ||| lnkD g k) _ _ (by omega) (by omega) rfl (or_lt hN hlk) (by show _ = stD g k _; rw [← eNf, stD, if_neg hz]) rfl
          · have hz : ¬ N &&& lnkD g k = 0 := by
              intro q
              obtain ⟨q1, q2⟩ := h0.mp q
              rw [if_neg q1, if_neg q2] at c50; omega
            refine go_iload_n (j := 3) (q := 54) rfl rfl dL_component_53 rfl ?_
            refine go_iconst (q := 55) dL_component_54 rfl ?_
            refine go_aload_n (j := 2) (q := 56) rfl rfl dL_component_55 rfl ?_
            refine go_iconst (q := 57) dL_component_56 rfl ?_
            refine go_iload (j := 5) (q := 59) rfl dL_component_57 rfl ?_
            refine go_imul (q := 60) dL_component_59 rfl ?_
            refine go_iconst (q := 61) dL_component_60 rfl ?_
            refine go_iadd (q := 62) dL_component_61 rfl ?_
            refine go_iald (j := 4 * k + 1) (q := 63) (by first | assumption | rfl) (wr_eq (by omega)) (by omega) dL_component_62 rfl ?_
            rw [e1]
            refine go_ishl (q := 64) dL_component_63 rfl ?_
            refine go_iconst (q := 65) dL_component_64 rfl ?_
            refine go_aload_n (j := 2) (q := 66) rfl rfl dL_component_65 rfl ?_
            refine go_iconst (q := 67) dL_component_66 rfl ?_
            refine go_iload (j := 5) (q := 69) rfl dL_component_67 rfl ?_
            refine go_imul (q := 70) dL_component_69 rfl ?_
            refine go_iconst (q := 71) dL_component_70 rfl ?_
            refine go_iadd (q := 72) dL_component_71 rfl ?_
            refine go_iald (j := 4 * k + 2) (q := 73) (by first | assumption | rfl) (wr_eq (by omega)) (by omega) dL_component_72 rfl ?_
            rw [e2]
            refine go_ishl (q := 74) dL_component_73 rfl ?_
            rw [shl_eq (by omega), shl_eq (by omega)]
            refine go_ior (q := 75) dL_component_74 rfl ?_
            rw [or_eq (by omega) (by omega)]
            refine go_ior (q := 76) dL_component_75 rfl ?_
            rw [eN, or_eq (by omega) (by show lnkD g k < 128; omega)]
            refine go_istore_n (j := 3) (q := 77) (ls2 := [_, _, _, _, _, _]) rfl (by decide) rfl rfl dL_component_76 rfl ?_
            refine go_iinc (j := 5) (q := 80) (ls2 := [_, _, _, _, _, _]) rfl (by decide) rfl rfl dL_component_77 rfl ?_
            refine go_goto (q := 17) dL_component_80 (by decide) ?_
            first
            | exact ih17 _ (by omega) (k + 1) N _ _ (by omega) (by omega) eN hN (by show N = stD g k _; rw [← eNf, stD, if_pos hz]) rfl
            | exact ih17 _ (by omega) (k + 1) (N ||| lnkD g k) _ _ (by omega) (by omega) rfl (or_lt hN hlk) (by show _ = stD g k _; rw [← eNf, stD, if_neg hz]) rfl
      exact lp17 _ 0 m _ _ rfl (by omega) em hm rfl rfl
  exact lp7 _ 0 (2 ^ x) _ _ _ rfl (by omega) (by rw [ex, shl_eq (by omega)]) (two_lt hx) rfl rfl
theorem el_digit {r j : Nat} {ri ji : Int} (h45 : sh[45]? = some (rInt 3)) (er : ri = r) (hr : r < 300000) (ej : ji = j) (hj : j < a) (h0 : w 45 0 = (n : Int)) (h1 : w 45 1 = (a : Int)) (hn : 1 ≤ n ∧ n ≤ 6) (ha : a ≤ 7) : eL_digit l D ck ad sh [vI ri, vI ji, vR 45] w (Pi fun v w1 => v = (dg n a r j : Int) ∧ w = w1) := by
  refine ev_of_goK (own := RL) (ls := [some (vI ri), some (vI ji), some (vR 45), none, none]) (by decide +kernel) rfl rfl (Nat.le_of_ble_eq_true rfl) rkI ?_
  intro K hK
  refine go_iload_n (j := 0) (q := 1) rfl rfl dL_digit_0 rfl ?_
  refine go_istore_n (j := 3) (q := 2) (ls2 := [_, _, _, _, _]) rfl (by decide) rfl rfl dL_digit_1 rfl ?_
  refine go_aload_n (j := 2) (q := 3) rfl rfl dL_digit_2 rfl ?_
  refine go_iconst (q := 4) dL_digit_3 rfl ?_
  refine go_iald (j := 1) (q := 5) (by first | assumption | rfl) (wr_eq (by omega)) (by omega) dL_digit_4 rfl ?_
  refine go_iconst (q := 6) dL_digit_5 rfl ?_
  refine go_isub (q := 7) dL_digit_6 rfl ?_
  refine go_istore (j := 4) (q := 9) (ls2 := [_, _, _, _, _]) (by decide) rfl rfl dL_digit_7 rfl ?_
  have lp9 : ∀ (m9 : Nat) (t v : Nat) (ki vi : Int) (ek : ki = (a : Int) - 1 - t) (ht : t + j + 1 ≤ a) (ev : vi = v) (hv : v ≤ r) (evt : v = r / n ^ t), m9 = a - 1 - j - t → gL_digit l D ck ad sh 9 [some (vI ri), some (vI ji), some (vR 45), some (vI vi), some (vI ki)] [] w K := by
    intro m9
    induction m9 using Nat.strongRecOn with
    | _ m9 ih9 =>
    intro t v ki vi ek ht ev hv evt em9
    refine go_iload (j := 4) (q := 11) rfl dL_digit_9 rfl ?_
    refine go_iload_n (j := 1) (q := 12) rfl rfl dL_digit_11 rfl ?_
    refine go_icmp_le2 (q := 15) (t := 27) dL_digit_12 (by decide) rfl (by omega) (fun c12 => ?_) (fun c12 => ?_)
    · refine go_iload_n (j := 3) (q := 28) rfl rfl dL_digit_27 rfl ?_
      refine go_aload_n (j := 2) (q := 29) rfl rfl dL_digit_28 rfl ?_
      refine go_iconst (q := 30) dL_digit_29 rfl ?_
      refine go_iald (j := 0) (q := 31) (by first | assumption | rfl) (wr_eq (by omega)) (by omega) dL_digit_30 rfl ?_
      rw [h0]
      refine go_irem2 (q := 32) (by omega) (by omega) dL_digit_31 rfl ?_
      refine go_iret dL_digit_32 ?_
      subst hK
      refine ⟨_, rfl, ?_, rfl⟩
      rw [ev, evt, show t = a - 1 - j by omega]
      exact (Int.ofNat_tmod _ _).symm
    · refine go_iload_n (j := 3) (q := 16) rfl rfl dL_digit_15 rfl ?_
      refine go_aload_n (j := 2) (q := 17) rfl rfl dL_digit_16 rfl ?_
      refine go_iconst (q := 18) dL_digit_17 rfl ?_
      refine go_iald (j := 0) (q := 19) (by first | assumption | rfl) (wr_eq (by omega)) (by omega) dL_digit_18 rfl ?_
      rw [h0]
      have e1 : vi.tdiv (n : Int) = ((v / n : Nat) : Int) := by rw [ev]; exact (Int.ofNat_tdiv _ _).symm
      obtain ⟨v2, hv2⟩ : ∃ v2, v2 = v / n := ⟨_, rfl⟩
      rw [← hv2] at e1
      have hle : v2 ≤ v := by rw [hv2]; exact Nat.div_le_self _ _
      refine go_idiv2 (q := 20) (by omega) (by omega) dL_digit_19 rfl ?_
      rw [e1]
      refine go_istore_n (j := 3) (q := 21) (ls2 := [_, _, _, _, _]) rfl (by decide) rfl rfl dL_digit_20 rfl ?_
      refine go_iinc (j := 4) (q := 24) (ls2 := [_, _, _, _, _]) rfl (by decide) rfl rfl dL_digit_21 rfl ?_
      refine go_goto (q := 9) dL_digit_24 (by decide) ?_
      exact ih9 _ (by omega) (t + 1) v2 _ _ (by omega) (by omega) rfl (by omega) (by rw [hv2, evt, Nat.div_div_eq_div_mul, Nat.pow_succ]) rfl
  exact lp9 _ 0 r _ _ (by omega) (by omega) er (by omega) (by simp) rfl
theorem el_good {r : Nat} {ri : Int} (h45 : sh[45]? = some (rInt 3)) (h46 : sh[46]? = some (rInt 36)) (h47 : sh[47]? = some (rInt 40)) (er : ri = r) (hr : r < 300000) (hT : TB w 45 n f) (h1 : w 45 1 = (a : Int)) (hC : LC w c g s) (hB : LB a c g s) : eL_good l D ck ad sh [vI ri, vR 45, vR 46, vR 47] w (Pz (fun w1 => w = w1 ∧ isColP c f g s (dg n a r)) (fun w1 => w = w1 ∧ ¬ isColP c f g s (dg n a r))) := by
  have g0 : w 45 0 = (n : Int) := hT.1
  have g2 : w 45 2 = (c : Int) := hC.1
  have hn := hT.2.1
  have ha := hB.1
  have hc10 := hC.2.1
  refine ev_of_goK (own := RL) (ls := [some (vI ri), some (vR 45), some (vR 46), some (vR 47), none, none, none, none]) (by decide +kernel) rfl rfl (Nat.le_of_ble_eq_true rfl) rkZ ?_
  intro K hK
  refine go_iconst (q := 1) dL_good_0 rfl ?_
  refine go_istore (j := 4) (q := 3) (ls2 := [_, _, _, _, _, _, _, _]) (by decide) rfl rfl dL_good_1 rfl ?_
  have lp3 : ∀ (m3 : Nat) (k : Nat) (ki : Int) (p q u : Option MV) (ek : ki = k) (hk : k ≤ c) (hm : ∀ i, i < k → metP f g s (dg n a r) i), m3 = c - k → gL_good l D ck ad sh 3 [some (vI ri), some (vR 45), some (vR 46), some (vR 47), some (vI ki), p, q, u] [] w K := by
    intro m3
    induction m3 using Nat.strongRecOn with
    | _ m3 ih3 =>
    intro k ki p q u ek hk hm em3
    refine go_iload (j := 4) (q := 5) rfl dL_good_3 rfl ?_
    refine go_aload_n (j := 1) (q := 6) rfl rfl dL_good_5 rfl ?_
    refine go_iconst (q := 7) dL_good_6 rfl ?_
    refine go_iald (j := 2) (q := 8) (by first | assumption | rfl) (wr_eq (by omega)) (by omega) dL_good_7 rfl ?_
    refine go_icmp_ge2 (q := 11) (t := 107) dL_good_8 (by decide) rfl (by omega) (fun c8 => ?_) (fun c8 => ?_)
    · refine go_iconst (q := 108) dL_good_107 rfl ?_
      refine go_iret dL_good_108 ?_
      subst hK; exact Or.inl ⟨rfl, rfl, fun i h => hm i (by omega)⟩
    · have hg := hC.2.2 k (by omega)
      have hb := (hB.2 k (by omega))
      obtain ⟨z0, z1, z2, z3⟩ := hg
      have d0 := dg_lt (a := a) (r := r) (j := g k 0) hn.1
      have d1 := dg_lt (a := a) (r := r) (j := g k 1) hn.1
      have d2 := dg_lt (a := a) (r := r) (j := g k 2) hn.1
      have t1 := hT.2.2 _ _ d1 d0
      have t2 := hT.2.2 _ _ d2 d0
      refine go_iload_n (j := 0) (q := 12) rfl rfl dL_good_11 rfl ?_
      refine go_aload_n (j := 3) (q := 13) rfl rfl dL_good_12 rfl ?_
      refine go_iconst (q := 14) dL_good_13 rfl ?_
      refine go_iload (j := 4) (q := 16) rfl dL_good_14 rfl ?_
      refine go_imul (q := 17) dL_good_16 rfl ?_
      refine go_iald (j := 4 * k) (q := 18) (by first | assumption | rfl) (wr_eq (by omega)) (by omega) dL_good_17 rfl ?_
      rw [z0]
      refine go_aload_n (j := 1) (q := 19) rfl rfl dL_good_18 rfl ?_
      refine go_callSi (as := [_, _, _]) (rest := []) (n := 3) (q := 22) dL_good_19 lk_L_25 rfl (by decide +kernel) rfl ⟨by decide, by decide⟩ ⟨rfl, rfl⟩ (Nat.le_of_ble_eq_true rfl) (el_digit h45 er hr (j := g k 0) rfl (by omega) g0 h1 hn ha.2) rfl (fun x19 w19 h19 => ?_)
      obtain ⟨rfl, rfl⟩ := h19
      refine go_istore (j := 5) (q := 24) (ls2 := [_, _, _, _, _, _, _, _]) (by decide) rfl rfl dL_good_22 rfl ?_
      refine go_iload_n (j := 0) (q := 25) rfl rfl dL_good_24 rfl ?_
      refine go_aload_n (j := 3) (q := 26) rfl rfl dL_good_25 rfl ?_
      refine go_iconst (q := 27) dL_good_26 rfl ?_
      refine go_iload (j := 4) (q := 29) rfl dL_good_27 rfl ?_
      refine go_imul (q := 30) dL_good_29 rfl ?_
      refine go_iconst (q := 31) dL_good_30 rfl ?_
      refine go_iadd (q := 32) dL_good_31 rfl ?_
      refine go_iald (j := 4 * k + 1) (q := 33) (by first | assumption | rfl) (wr_eq (by omega)) (by omega) dL_good_32 rfl ?_
      rw [z1]
      refine go_aload_n (j := 1) (q := 34) rfl rfl dL_good_33 rfl ?_
      refine go_callSi (as := [_, _, _]) (rest := []) (n := 3) (q := 37) dL_good_34 lk_L_25 rfl (by decide +kernel) rfl ⟨by decide, by decide⟩ ⟨rfl, rfl⟩ (Nat.le_of_ble_eq_true rfl) (el_digit h45 er hr (j := g k 1) rfl (by omega) g0 h1 hn ha.2) rfl (fun x34 w34 h34 => ?_)
      obtain ⟨rfl, rfl⟩ := h34
      refine go_istore (j := 6) (q := 39) (ls2 := [_, _, _, _, _, _, _, _]) (by decide) rfl rfl dL_good_37 rfl ?_
      refine go_iload_n (j := 0) (q := 40) rfl rfl dL_good_39 rfl ?_
      refine go_aload_n (j := 3) (q := 41) rfl rfl dL_good_40 rfl ?_
      refine go_iconst (q := 42) dL_good_41 rfl ?_
      refine go_iload (j := 4) (q := 44) rfl dL_good_42 rfl ?_
      refine go_imul (q := 45) dL_good_44 rfl ?_
      refine go_iconst (q := 46) dL_good_45 rfl ?_
      refine go_iadd (q := 47) dL_good_46 rfl ?_
      refine go_iald (j := 4 * k + 2) (q := 48) (by first | assumption | rfl) (wr_eq (by omega)) (by omega) dL_good_47 rfl ?_
      rw [z2]
      refine go_aload_n (j := 1) (q := 49) rfl rfl dL_good_48 rfl ?_
      refine go_callSi (as := [_, _, _]) (rest := []) (n := 3) (q := 52) dL_good_49 lk_L_25 rfl (by decide +kernel) rfl ⟨by decide, by decide⟩ ⟨rfl, rfl⟩ (Nat.le_of_ble_eq_true rfl) (el_digit h45 er hr (j := g k 2) rfl (by omega) g0 h1 hn ha.2) rfl (fun x49 w49 h49 => ?_)
      obtain ⟨rfl, rfl⟩ := h49
      refine go_istore (j := 7) (q := 54) (ls2 := [_, _, _, _, _, _, _, _]) (by decide) rfl rfl dL_good_52 rfl ?_
      refine go_aload_n (j := 3) (q := 55) rfl rfl dL_good_54 rfl ?_
      refine go_iconst (q := 56) dL_good_55 rfl ?_
      refine go_iload (j := 4) (q := 58) rfl dL_good_56 rfl ?_
      refine go_imul (q := 59) dL_good_58 rfl ?_
      refine go_iconst (q := 60) dL_good_59 rfl ?_
      refine go_iadd (q := 61) dL_good_60 rfl ?_
      refine go_iald (j := 4 * k + 3) (q := 62) (by first | assumption | rfl) (wr_eq (by omega)) (by omega) dL_good_61 rfl ?_
      rw [z3]
      refine go_iconst (q := 63) dL_good_62 rfl ?_
      refine go_icmp_ne2 (q := 66) (t := 84) dL_good_63 (by decide) rfl (by omega) (fun c63 => ?_) (fun c63 => ?_)
      · refine go_iload (j := 6) (q := 86) rfl dL_good_84 rfl ?_
        refine go_aload_n (j := 2) (q := 87) rfl rfl dL_good_86 rfl ?_
        refine go_bipush (q := 89) rfl dL_good_87 rfl ?_
        refine go_iload (j := 7) (q := 91) rfl dL_good_89 rfl ?_
        refine go_imul (q := 92) dL_good_91 rfl ?_
        refine go_iload (j := 5) (q := 94) rfl dL_good_92 rfl ?_
        refine go_iadd (q := 95) dL_good_94 rfl ?_
        refine go_iald (j := 6 * dg n a r (g k 2) + dg n a r (g k 0)) (q := 96) (by first | assumption | rfl) (wr_eq (by omega)) (by omega) dL_good_95 rfl ?_
        rw [show w 46 (6 * dg n a r (g k 2) + dg n a r (g k 0)) = _ from t2.1]
        refine go_icmp_eq2 (q := 99) (t := 101) dL_good_96 (by decide) rfl (by omega) (fun c96 => ?_) (fun c96 => ?_)
        · refine go_iinc (j := 4) (q := 104) (ls2 := [_, _, _, _, _, _, _, _]) rfl (by decide) rfl rfl dL_good_101 rfl ?_
          refine go_goto (q := 3) dL_good_104 (by decide) ?_
          exact ih3 _ (by omega) (k + 1) _ _ _ _ (by omega) (by omega) (fun i h => all_lt (P := fun i => metP f g s (dg n a r) i) hm (by unfold metP; omega) h) rfl
        · refine go_iconst (q := 100) dL_good_99 rfl ?_
          refine go_iret dL_good_100 ?_
          subst hK; exact Or.inr ⟨rfl, rfl, fun q => by have := q k (by omega); unfold metP at this; omega⟩
      · refine go_iload (j := 7) (q := 68) rfl dL_good_66 rfl ?_
        refine go_aload_n (j := 2) (q := 69) rfl rfl dL_good_68 rfl ?_
        refine go_bipush (q := 71) rfl dL_good_69 rfl ?_
        refine go_iload (j := 6) (q := 73) rfl dL_good_71 rfl ?_
        refine go_imul (q := 74) dL_good_73 rfl ?_
        refine go_iload (j := 5) (q := 76) rfl dL_good_74 rfl ?_
        refine go_iadd (q := 77) dL_good_76 rfl ?_
        refine go_iald (j := 6 * dg n a r (g k 1) + dg n a r (g k 0)) (q := 78) (by first | assumption | rfl) (wr_eq (by omega)) (by omega) dL_good_77 rfl ?_
        rw [show w 46 (6 * dg n a r (g k 1) + dg n a r (g k 0)) = _ from t1.1]
        refine go_icmp_eq2 (q := 81) (t := 101) dL_good_78 (by decide) rfl (by omega) (fun c78 => ?_) (fun c78 => ?_)
        · refine go_iinc (j := 4) (q := 104) (ls2 := [_, _, _, _, _, _, _, _]) rfl (by decide) rfl rfl dL_good_101 rfl ?_
          refine go_goto (q := 3) dL_good_104 (by decide) ?_
          exact ih3 _ (by omega) (k + 1) _ _ _ _ (by omega) (by omega) (fun i h => all_lt (P := fun i => metP f g s (dg n a r) i) hm (by unfold metP; omega) h) rfl
        · refine go_goto (q := 99) dL_good_81 (by decide) ?_
          refine go_iconst (q := 100) dL_good_99 rfl ?_
          refine go_iret dL_good_100 ?_
          subst hK; exact Or.inr ⟨rfl, rfl, fun q => by have := q k (by omega); unfold metP at this; omega⟩
  exact lp3 _ 0 _ _ _ _ rfl (by omega) (fun i h => absurd h (Nat.not_lt_zero i)) rfl
theorem el_add {o i u : Nat} {oi ii ui v : Int} (eo : oi = o) (ei : ii = i) (eu : ui = u) (hC : LC w c g s) (hc : c < 10) : eL_add l D ck ad shA [vI oi, vI ii, vI ui, vI v, vR 45, vR 47] w (Pv fun w1 => LC w1 (c + 1) (gap g c o i u) (sap s c v) ∧ (∀ k, k ≠ 2 → w1 45 k = w 45 k) ∧ ∀ c k, c ≠ 45 → c ≠ 47 → w1 c k = w c k) := by
  have g2 : w 45 2 = (c : Int) := hC.1
  refine ev_of_goK (own := RL) (ls := [some (vI oi), some (vI ii), some (vI ui), some (vI v), some (vR 45), some (vR 47)]) (by decide +kernel) rfl rfl (Nat.le_of_ble_eq_true rfl) rkV ?_
  intro K hK
  refine go_aload (j := 5) (q := 2) rfl dL_add_0 rfl ?_
  refine go_iconst (q := 3) dL_add_2 rfl ?_
  refine go_aload (j := 4) (q := 5) rfl dL_add_3 rfl ?_
  refine go_iconst (q := 6) dL_add_5 rfl ?_
  refine go_iald (j := 2) (q := 7) (by first | assumption | rfl) (wr_eq (by omega)) (by omega) dL_add_6 rfl ?_
  rw [g2]
  refine go_imul (q := 8) dL_add_7 rfl ?_
  refine go_iload_n (j := 0) (q := 9) rfl rfl dL_add_8 rfl ?_
  refine go_iast (j := 4 * c) (q := 10) (by first | assumption | rfl) (wr_eq (by omega)) (by omega) dL_add_9 rfl ?_
  refine go_aload (j := 5) (q := 12) rfl dL_add_10 rfl ?_
  refine go_iconst (q := 13) dL_add_12 rfl ?_
  refine go_aload (j := 4) (q := 15) rfl dL_add_13 rfl ?_
  refine go_iconst (q := 16) dL_add_15 rfl ?_
  refine go_iald (j := 2) (q := 17) (by first | assumption | rfl) (wr_eq (by omega)) (by omega) dL_add_16 rfl ?_
  rw [mup_ne (by omega), g2]
  refine go_imul (q := 18) dL_add_17 rfl ?_
  refine go_iconst (q := 19) dL_add_18 rfl ?_
  refine go_iadd (q := 20) dL_add_19 rfl ?_
  refine go_iload_n (j := 1) (q := 21) rfl rfl dL_add_20 rfl ?_
  refine go_iast (j := 4 * c + 1) (q := 22) (by first | assumption | rfl) (wr_eq (by omega)) (by omega) dL_add_21 rfl ?_
  refine go_aload (j := 5) (q := 24) rfl dL_add_22 rfl ?_
  refine go_iconst (q := 25) dL_add_24 rfl ?_
  refine go_aload (j := 4) (q := 27) rfl dL_add_25 rfl ?_
  refine go_iconst (q := 28) dL_add_27 rfl ?_
  refine go_iald (j := 2) (q := 29) (by first | assumption | rfl) (wr_eq (by omega)) (by omega) dL_add_28 rfl ?_
  rw [mup_ne (by omega), mup_ne (by omega), g2]
  refine go_imul (q := 30) dL_add_29 rfl ?_
  refine go_iconst (q := 31) dL_add_30 rfl ?_
  refine go_iadd (q := 32) dL_add_31 rfl ?_
  refine go_iload_n (j := 2) (q := 33) rfl rfl dL_add_32 rfl ?_
  refine go_iast (j := 4 * c + 2) (q := 34) (by first | assumption | rfl) (wr_eq (by omega)) (by omega) dL_add_33 rfl ?_
  refine go_aload (j := 5) (q := 36) rfl dL_add_34 rfl ?_
  refine go_iconst (q := 37) dL_add_36 rfl ?_
  refine go_aload (j := 4) (q := 39) rfl dL_add_37 rfl ?_
  refine go_iconst (q := 40) dL_add_39 rfl ?_
  refine go_iald (j := 2) (q := 41) (by first | assumption | rfl) (wr_eq (by omega)) (by omega) dL_add_40 rfl ?_
  rw [mup_ne (by omega), mup_ne (by omega), mup_ne (by omega), g2]
  refine go_imul (q := 42) dL_add_41 rfl ?_
  refine go_iconst (q := 43) dL_add_42 rfl ?_
  refine go_iadd (q := 44) dL_add_43 rfl ?_
  refine go_iload_n (j := 3) (q := 45) rfl rfl dL_add_44 rfl ?_
  refine go_iast (j := 4 * c + 3) (q := 46) (by first | assumption | rfl) (wr_eq (by omega)) (by omega) dL_add_45 rfl ?_
  refine go_aload (j := 4) (q := 48) rfl dL_add_46 rfl ?_
  refine go_iconst (q := 49) dL_add_48 rfl ?_
  refine go_dup2 (q := 50) (fun _ z => by cases z) (fun _ z => by cases z) dL_add_49 rfl ?_
  refine go_iald (j := 2) (q := 51) (by first | assumption | rfl) (wr_eq (by omega)) (by omega) dL_add_50 rfl ?_
  rw [mup_ne (by omega), mup_ne (by omega), mup_ne (by omega), mup_ne (by omega), g2]
  refine go_iconst (q := 52) dL_add_51 rfl ?_
  refine go_iadd (q := 53) dL_add_52 rfl ?_
  refine go_iast (j := 2) (q := 54) (by first | assumption | rfl) (wr_eq (by omega)) (by omega) dL_add_53 rfl ?_
  refine go_vret dL_add_54 ?_
  subst hK
  refine ⟨rfl, ⟨by rw [mup_eq]; omega, by omega, fun k hk => ?_⟩, fun k hk => ?_, fun c' k h1 h2 => ?_⟩
  · by_cases q : k = c
    · subst q
      refine ⟨?_, ?_, ?_, ?_⟩
      · rw [mup_ne (by omega), mup_ne (by omega), mup_ne (by omega), mup_ne (by omega), mup_eq]; simp [gap, eo]
      · rw [mup_ne (by omega), mup_ne (by omega), mup_ne (by omega), mup_eq]; simp [gap, ei]
      · rw [mup_ne (by omega), mup_ne (by omega), mup_eq]; simp [gap, eu]
      · rw [mup_ne (by omega), mup_eq]; simp [sap]
    · obtain ⟨q0, q1, q2, q3⟩ := hC.2.2 k (by omega)
      refine ⟨?_, ?_, ?_, ?_⟩
      · repeat rw [mup_ne (by omega)]
        simpa [gap, q] using q0
      · repeat rw [mup_ne (by omega)]
        simpa [gap, q] using q1
      · repeat rw [mup_ne (by omega)]
        simpa [gap, q] using q2
      · repeat rw [mup_ne (by omega)]
        simpa [sap, q] using q3
  · repeat rw [mup_ne (by omega)]
  · repeat rw [mup_ne (by omega)]
theorem el_moved {x y : Nat} {xi yi : Int} (ex : xi = x) (ey : yi = y) (hxy : x < 10 ∧ y < 10) (hC : LC w c g s) (hb : ∀ k, k < c → g k 1 < 10) : eL_moved l D ck ad shA [vI xi, vI yi, vR 45, vR 47] w (Pv fun w1 => LC w1 c (gmv g x y) s ∧ ∀ c k, c ≠ 47 → w1 c k = w c k) := by
  have g2 : w 45 2 = (c : Int) := hC.1
  have hc10 := hC.2.1
  refine ev_of_goK (own := RL) (ls := [some (vI xi), some (vI yi), some (vR 45), some (vR 47), none]) (by decide +kernel) rfl rfl (Nat.le_of_ble_eq_true rfl) rkV ?_
  intro K hK
  refine go_iconst (q := 1) dL_moved_0 rfl ?_
  refine go_istore (j := 4) (q := 3) (ls2 := [_, _, _, _, _]) (by decide) rfl rfl dL_moved_1 rfl ?_
  have lp3 : ∀ (m3 : Nat) (k : Nat) (ki : Int) (w1 : Mem) (ek : ki = k) (hk : k ≤ c) (hf : ∀ c k, c ≠ 47 → w1 c k = w c k) (hd : ∀ j, j < c → w1 47 (4 * j) = (g j 0 : Int) ∧ w1 47 (4 * j + 1) = ((if j < k then gmv g x y j 1 else g j 1 : Nat) : Int) ∧ w1 47 (4 * j + 2) = (g j 2 : Int) ∧ w1 47 (4 * j + 3) = s j), m3 = c - k → gL_moved l D ck ad shA 3 [some (vI xi), some (vI yi), some (vR 45), some (vR 47), some (vI ki)] [] w1 K := by
    intro m3
    induction m3 using Nat.strongRecOn with
    | _ m3 ih3 =>
    intro k ki w1 ek hk hf hd em3
    have g21 : w1 45 2 = (c : Int) := by rw [hf _ _ (by omega)]; exact g2
    refine go_iload (j := 4) (q := 5) rfl dL_moved_3 rfl ?_
    refine go_aload_n (j := 2) (q := 6) rfl rfl dL_moved_5 rfl ?_
    refine go_iconst (q := 7) dL_moved_6 rfl ?_
    refine go_iald (j := 2) (q := 8) (by first | assumption | rfl) (wr_eq (by omega)) (by omega) dL_moved_7 rfl ?_
    refine go_icmp_ge2 (q := 11) (t := 49) dL_moved_8 (by decide) rfl (by omega) (fun c8 => ?_) (fun c8 => ?_)
    · refine go_vret dL_moved_49 ?_
      subst hK
      refine ⟨rfl, ⟨g21, hc10, fun j hj => ?_⟩, hf⟩
      obtain ⟨q0, q1, q2, q3⟩ := hd j hj
      rw [if_pos (by omega)] at q1
      exact ⟨by rw [q0]; simp [gmv], q1, by rw [q2]; simp [gmv], q3⟩
    · have hdk := hd k (by omega)
      rw [if_neg (Nat.lt_irrefl k)] at hdk
      have hbk := hb k (by omega)
      have e1 : w1 47 (4 * k + 1) = (g k 1 : Int) := hdk.2.1
      refine go_aload_n (j := 3) (q := 12) rfl rfl dL_moved_11 rfl ?_
      refine go_iconst (q := 13) dL_moved_12 rfl ?_
      refine go_iload (j := 4) (q := 15) rfl dL_moved_13 rfl ?_
      refine go_imul (q := 16) dL_moved_15 rfl ?_
      refine go_iconst (q := 17) dL_moved_16 rfl ?_
      refine go_iadd (q := 18) dL_moved_17 rfl ?_
      refine go_aload_n (j := 3) (q := 19) rfl rfl dL_moved_18 rfl ?_
      refine go_iconst (q := 20) dL_moved_19 rfl ?_
      refine go_iload (j := 4) (q := 22) rfl dL_moved_20 rfl ?_
      refine go_imul (q := 23) dL_moved_22 rfl ?_
      refine go_iconst (q := 24) dL_moved_23 rfl ?_
      refine go_iadd (q := 25) dL_moved_24 rfl ?_
      refine go_iald (j := 4 * k + 1) (q := 26) (by first | assumption | rfl) (wr_eq (by omega)) (by omega) dL_moved_25 rfl ?_
      rw [e1]
      refine go_iload_n (j := 0) (q := 27) rfl rfl dL_moved_26 rfl ?_
      refine go_icmp_ne2 (q := 30) (t := 34) dL_moved_27 (by decide) rfl (by omega) (fun c27 => ?_) (fun c27 => ?_)
      · refine go_aload_n (j := 3) (q := 35) rfl rfl dL_moved_34 rfl ?_
        refine go_iconst (q := 36) dL_moved_35 rfl ?_
        refine go_iload (j := 4) (q := 38) rfl dL_moved_36 rfl ?_
        refine go_imul (q := 39) dL_moved_38 rfl ?_
        refine go_iconst (q := 40) dL_moved_39 rfl ?_
        refine go_iadd (q := 41) dL_moved_40 rfl ?_
        refine go_iald (j := 4 * k + 1) (q := 42) (by first | assumption | rfl) (wr_eq (by omega)) (by omega) dL_moved_41 rfl ?_
        try rw [e1]
        refine go_iast (j := 4 * k + 1) (q := 43) (by first | assumption | rfl) (wr_eq (by omega)) (by omega) dL_moved_42 rfl ?_
        refine go_iinc (j := 4) (q := 46) (ls2 := [_, _, _, _, _]) rfl (by decide) rfl rfl dL_moved_43 rfl ?_
        refine go_goto (q := 3) dL_moved_46 (by decide) ?_
        exact ih3 _ (by omega) (k + 1) _ _ (by omega) (by omega) (fun c k h => by rw [mup_ne (Or.inl h)]; exact hf c k h) (by
          intro j hj
          obtain ⟨q0, q1, q2, q3⟩ := hd j hj
          refine ⟨by rw [mup_ne (by omega)]; exact q0, ?_, by rw [mup_ne (by omega)]; exact q2, by rw [mup_ne (by omega)]; exact q3⟩
          by_cases q : j = k
          · subst q
            rw [mup_eq, if_pos (by omega)]
            unfold gmv
            first
            | (rw [if_pos ⟨rfl, by omega⟩]; omega)
            | (rw [if_neg (by omega)])
          · rw [mup_ne (by omega), q1]
            by_cases z : j < k
            · rw [if_pos z, if_pos (show j < k + 1 by omega)]
            · rw [if_neg z, if_neg (show ¬ j < k + 1 by omega)]) rfl
      · refine go_iload_n (j := 1) (q := 31) rfl rfl dL_moved_30 rfl ?_
        refine go_goto (q := 42) dL_moved_31 (by decide) ?_
        try rw [e1]
        refine go_iast (j := 4 * k + 1) (q := 43) (by first | assumption | rfl) (wr_eq (by omega)) (by omega) dL_moved_42 rfl ?_
        refine go_iinc (j := 4) (q := 46) (ls2 := [_, _, _, _, _]) rfl (by decide) rfl rfl dL_moved_43 rfl ?_
        refine go_goto (q := 3) dL_moved_46 (by decide) ?_
        exact ih3 _ (by omega) (k + 1) _ _ (by omega) (by omega) (fun c k h => by rw [mup_ne (Or.inl h)]; exact hf c k h) (by
          intro j hj
          obtain ⟨q0, q1, q2, q3⟩ := hd j hj
          refine ⟨by rw [mup_ne (by omega)]; exact q0, ?_, by rw [mup_ne (by omega)]; exact q2, by rw [mup_ne (by omega)]; exact q3⟩
          by_cases q : j = k
          · subst q
            rw [mup_eq, if_pos (by omega)]
            unfold gmv
            first
            | (rw [if_pos ⟨rfl, by omega⟩]; omega)
            | (rw [if_neg (by omega)])
          · rw [mup_ne (by omega), q1]
            by_cases z : j < k
            · rw [if_pos z, if_pos (show j < k + 1 by omega)]
            · rw [if_neg z, if_neg (show ¬ j < k + 1 by omega)]) rfl
  exact lp3 _ 0 _ _ rfl (by omega) (fun c k _ => rfl) (fun j hj => by rw [if_neg (Nat.not_lt_zero j)]; exact hC.2.2 j hj) rfl
end LAW3
