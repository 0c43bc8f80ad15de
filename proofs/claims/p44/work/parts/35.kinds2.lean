section LAW9
variable {l : Launch} {D : va_G} {ck : Nat → ClassId} {ad : Nat → Nat} {w : Mem} {W : WA} {B : Nat} {K : Post} {ti xi yi ki ni fi ai bi : Int}
/-- the law's crossings made one behind another -/
theorem LC_0 {w : Mem} {g : Nat → Nat → Nat} {s : Nat → Int} (h : w 45 2 = 0) : LC w 0 g s := ⟨h, Nat.zero_le _, fun k hk => absurd hk (Nat.not_lt_zero k)⟩
theorem lk_st0 {q : Nat} {vi : Int} {o14 : Option MV} (hq : q ≤ 5) (hN : NxL l D ck ad B ti K) (hP : PXW w W) (hT : TB w 45 (wN W) (wF W)) (h1 : w 45 1 = (sArc q : Int)) (hC : LC w (sCnt q) (stG q) (stS q)) (hv : vi = (q : Int)) :
    gL_law l D ck ad shA B VT 1128 [some (vR 2000), some (vR 0), some (vR 45), some (vR 46), some (vR 47), some (vI ti), some (vI xi), some (vI yi), some (vI ki), some (vI ni), some (vI fi), some (vI ai), some (vI bi), some (vI vi), (o14), none, none, none, none, none, none] [] w K := by
  have hcn := (st_a ⟨q, by omega⟩).2.1.1
  simp only at hcn
  refine go_aload_n (j := 1) (q := 1129) rfl rfl dL_law_1128 rfl ?_
  refine go_iload (j := 13) (q := 1131) rfl dL_law_1129 rfl ?_
  refine go_callVi (as := [_, _]) (As := [_]) (rest := []) (n := 1) (q := 1134) dL_law_1131 lk_L_161 (ci := 6) (N := 7) (T := TX6) rfl (by first | assumption | rfl) rfl rfl (by decide +kernel) rfl ⟨by decide, by decide⟩ ⟨rfl, rfl⟩ (Nat.le_of_ble_eq_true rfl) (ex19 hP (by omega)) rfl (fun x1131 w1131 h1131 => ?_)
  obtain ⟨e1131, hP1131, f1131⟩ := h1131
  have eo : op19 W vi = ((sCnt q : Int), psh W (dS W (sArc q) (sCnt q) (stG q) (stS q))) := by unfold op19; rw [cif_t (by omega), show vi.toNat = q by omega]
  rw [eo] at e1131 hP1131
  have e1131b : x1131 = (sCnt q : Int) := e1131
  have g2b : w1131 45 2 = (sCnt q : Int) := by rw [f1131 _ _ (by omega)]; exact hC.1
  refine go_aload_n (j := 2) (q := 1135) rfl rfl dL_law_1134 rfl ?_
  refine go_iconst (q := 1136) dL_law_1135 rfl ?_
  refine go_iald (j := 2) (q := 1137) (by first | assumption | rfl) (wr_eq (by omega)) (by omega) dL_law_1136 rfl ?_
  refine go_icmp_eq2 (q := 1140) (t := 1142) dL_law_1137 (by decide) rfl (by omega) (fun c1137 => ?_) (fun c1137 => ?_)
  · refine go_goto (q := 1576) dL_law_1142 (by decide) ?_
    exact hN _ _ _ _ _ _ _ _ _ _ _ _ _ _ _ _ (psh W (dS W (sArc q) (sCnt q) (stG q) (stS q))) hP1131 ⟨TB_same hT (fun k => f1131 _ _ (by omega)) (fun k => f1131 _ _ (by omega)), by rw [f1131 _ _ (by omega)]; exact h1, LC_same hC (f1131 _ _ (by omega)) (fun k => f1131 _ _ (by omega))⟩
  · exact absurd (e1131b.trans g2b.symm) c1137
theorem lk_st_0 (hN : NxL l D ck ad B ti K) (hP : PXW w W) (hX : LX w W) : gL_law l D ck ad shA B VT 899 [some (vR 2000), some (vR 0), some (vR 45), some (vR 46), some (vR 47), some (vI ti), some (vI xi), some (vI yi), some (vI ki), some (vI ni), some (vI fi), some (vI ai), some (vI bi), some (vI 0), none, none, none, none, none, none, none] [] w K := by
  have hT0 := hX.1
  refine go_aload_n (j := 2) (q := 900) rfl rfl dL_law_899 rfl ?_
  refine go_iconst (q := 901) dL_law_900 rfl ?_
  refine go_iload (j := 13) (q := 903) rfl dL_law_901 rfl ?_
  refine go_if_neF (q := 906) (t := 910) dL_law_903 rfl (by decide) (by decide) ?_
  refine go_iconst (q := 907) dL_law_906 rfl ?_
  refine go_goto (q := 941) dL_law_907 (by decide) ?_
  refine go_iast (j := 1) (q := 942) (by first | assumption | rfl) (wr_eq (by omega)) (by omega) dL_law_941 rfl ?_
  refine go_aload_n (j := 2) (q := 943) rfl rfl dL_law_942 rfl ?_
  refine go_iconst (q := 944) dL_law_943 rfl ?_
  refine go_iconst (q := 945) dL_law_944 rfl ?_
  refine go_iast (j := 2) (q := 946) (by first | assumption | rfl) (wr_eq (by omega)) (by omega) dL_law_945 rfl ?_
  have f0 := (fun c k (h : c ≠ 45) => by rw [mup_ne (Or.inl h), mup_ne (Or.inl h)] : ∀ c k, c ≠ 45 → mup (mup w 45 1 1) 45 2 0 c k = w c k)
  have hTb : TB (mup (mup w 45 1 1) 45 2 0) 45 (wN W) (wF W) := TB_copy hT0 (by rw [mup_ne (by omega), mup_ne (by omega)]) (fun k _ => f0 _ _ (by omega))
  have hPb : PXW (mup (mup w 45 1 1) 45 2 0) W := PXW_q hP (fun c k h => f0 c k (by omega))
  have h1b : mup (mup w 45 1 1) 45 2 0 45 1 = 1 := by rw [mup_ne (by omega), mup_eq]
  have hC0 : LC (mup (mup w 45 1 1) 45 2 0) 0 (stG 0) (stS 0) := LC_0 (mup_eq _ _ _ _)
  refine go_iload (j := 13) (q := 948) rfl dL_law_946 rfl ?_
  refine go_iconst (q := 949) dL_law_948 rfl ?_
  refine go_icmp_ne2 (q := 952) (t := 988) dL_law_949 (by decide) rfl (by omega) (fun _ => ?_) (fun z => absurd z (by decide))
  refine go_iload (j := 13) (q := 990) rfl dL_law_988 rfl ?_
  refine go_iconst (q := 991) dL_law_990 rfl ?_
  refine go_icmp_ne2 (q := 994) (t := 1034) dL_law_991 (by decide) rfl (by omega) (fun _ => ?_) (fun z => absurd z (by decide))
  refine go_iload (j := 13) (q := 1036) rfl dL_law_1034 rfl ?_
  refine go_iconst (q := 1037) dL_law_1036 rfl ?_
  refine go_icmp_ne2 (q := 1040) (t := 1090) dL_law_1037 (by decide) rfl (by omega) (fun _ => ?_) (fun z => absurd z (by decide))
  refine go_iload (j := 13) (q := 1092) rfl dL_law_1090 rfl ?_
  refine go_iconst (q := 1093) dL_law_1092 rfl ?_
  refine go_icmp_ne2 (q := 1096) (t := 1128) dL_law_1093 (by decide) rfl (by omega) (fun _ => ?_) (fun z => absurd z (by decide))
  exact lk_st0 (q := 0) (by decide) hN hPb hTb h1b hC0 rfl
theorem lk_st_1 (hN : NxL l D ck ad B ti K) (hP : PXW w W) (hX : LX w W) : gL_law l D ck ad shA B VT 899 [some (vR 2000), some (vR 0), some (vR 45), some (vR 46), some (vR 47), some (vI ti), some (vI xi), some (vI yi), some (vI ki), some (vI ni), some (vI fi), some (vI ai), some (vI bi), some (vI 1), none, none, none, none, none, none, none] [] w K := by
  have hT0 := hX.1
  refine go_aload_n (j := 2) (q := 900) rfl rfl dL_law_899 rfl ?_
  refine go_iconst (q := 901) dL_law_900 rfl ?_
  refine go_iload (j := 13) (q := 903) rfl dL_law_901 rfl ?_
  refine go_if_neT (t := 910) dL_law_903 (by decide) (by decide) ?_
  refine go_iload (j := 13) (q := 912) rfl dL_law_910 rfl ?_
  refine go_iconst (q := 913) dL_law_912 rfl ?_
  refine go_icmp_ne2 (q := 916) (t := 920) dL_law_913 (by decide) rfl (by omega) (fun z => absurd z (by decide)) (fun _ => ?_)
  refine go_iconst (q := 917) dL_law_916 rfl ?_
  refine go_goto (q := 941) dL_law_917 (by decide) ?_
  refine go_iast (j := 1) (q := 942) (by first | assumption | rfl) (wr_eq (by omega)) (by omega) dL_law_941 rfl ?_
  refine go_aload_n (j := 2) (q := 943) rfl rfl dL_law_942 rfl ?_
  refine go_iconst (q := 944) dL_law_943 rfl ?_
  refine go_iconst (q := 945) dL_law_944 rfl ?_
  refine go_iast (j := 2) (q := 946) (by first | assumption | rfl) (wr_eq (by omega)) (by omega) dL_law_945 rfl ?_
  have f0 := (fun c k (h : c ≠ 45) => by rw [mup_ne (Or.inl h), mup_ne (Or.inl h)] : ∀ c k, c ≠ 45 → mup (mup w 45 1 3) 45 2 0 c k = w c k)
  have hTb : TB (mup (mup w 45 1 3) 45 2 0) 45 (wN W) (wF W) := TB_copy hT0 (by rw [mup_ne (by omega), mup_ne (by omega)]) (fun k _ => f0 _ _ (by omega))
  have hPb : PXW (mup (mup w 45 1 3) 45 2 0) W := PXW_q hP (fun c k h => f0 c k (by omega))
  have h1b : mup (mup w 45 1 3) 45 2 0 45 1 = 3 := by rw [mup_ne (by omega), mup_eq]
  have hC0 : LC (mup (mup w 45 1 3) 45 2 0) 0 (stG 1) (stS 1) := LC_0 (mup_eq _ _ _ _)
  refine go_iload (j := 13) (q := 948) rfl dL_law_946 rfl ?_
  refine go_iconst (q := 949) dL_law_948 rfl ?_
  refine go_icmp_ne2 (q := 952) (t := 988) dL_law_949 (by decide) rfl (by omega) (fun z => absurd z (by decide)) (fun _ => ?_)
  refine go_iconst (q := 953) dL_law_952 rfl ?_
  refine go_istore (j := 14) (q := 955) (ls2 := [_, _, _, _, _, _, _, _, _, _, _, _, _, _, _, _, _, _, _, _, _]) (by decide) rfl rfl dL_law_953 rfl ?_
  have lp955 : ∀ (m955 : Nat) (i : Nat) (ii : Int) (w3 : Mem) (ei : ii = i) (hi : i ≤ 3) (hP3 : PXW w3 W) (hT3 : TB w3 45 (wN W) (wF W)) (h13 : w3 45 1 = 3) (hC3 : LC w3 i (stG 1) (stS 1)), m955 = 3 - i → gL_law l D ck ad shA B VT 955 [some (vR 2000), some (vR 0), some (vR 45), some (vR 46), some (vR 47), some (vI ti), some (vI xi), some (vI yi), some (vI ki), some (vI ni), some (vI fi), some (vI ai), some (vI bi), some (vI 1), some (vI ii), none, none, none, none, none, none] [] w3 K := by
    intro m955
    induction m955 using Nat.strongRecOn with
    | _ m955 ih955 =>
    intro i ii w3 ei hi hP3 hT3 h13 hC3 em955
    refine go_iload (j := 14) (q := 957) rfl dL_law_955 rfl ?_
    refine go_iconst (q := 958) dL_law_957 rfl ?_
    refine go_icmp_ge2 (q := 961) (t := 988) dL_law_958 (by decide) rfl (by omega) (fun c958 => ?_) (fun c958 => ?_)
    · refine go_iload (j := 13) (q := 990) rfl dL_law_988 rfl ?_
      refine go_iconst (q := 991) dL_law_990 rfl ?_
      refine go_icmp_ne2 (q := 994) (t := 1034) dL_law_991 (by decide) rfl (by omega) (fun _ => ?_) (fun z => absurd z (by decide))
      refine go_iload (j := 13) (q := 1036) rfl dL_law_1034 rfl ?_
      refine go_iconst (q := 1037) dL_law_1036 rfl ?_
      refine go_icmp_ne2 (q := 1040) (t := 1090) dL_law_1037 (by decide) rfl (by omega) (fun _ => ?_) (fun z => absurd z (by decide))
      refine go_iload (j := 13) (q := 1092) rfl dL_law_1090 rfl ?_
      refine go_iconst (q := 1093) dL_law_1092 rfl ?_
      refine go_icmp_ne2 (q := 1096) (t := 1128) dL_law_1093 (by decide) rfl (by omega) (fun _ => ?_) (fun z => absurd z (by decide))
      exact lk_st0 (q := 1) (by decide) hN hP3 hT3 h13 (by rw [show i = 3 by omega] at hC3; exact hC3) rfl
    · have hfin : ∀ k : Fin 3, stG 1 k 0 = k ∧ stG 1 k 1 = ((k : Nat) + 1) % 3 ∧ stG 1 k 2 = ((k : Nat) + 2) % 3 ∧ stS 1 k = 1 := by decide +kernel
      have hf := hfin ⟨i, by omega⟩
      simp only at hf
      have e968 : (ii + 1).tmod 3 = ((stG 1 i 1 : Nat) : Int) := by rw [hf.2.1, show ii + 1 = ((i + 1 : Nat) : Int) by omega]; exact (Int.ofNat_tmod _ _).symm
      have e974 : (ii + 2).tmod 3 = ((stG 1 i 2 : Nat) : Int) := by rw [hf.2.2.1, show ii + 2 = ((i + 2 : Nat) : Int) by omega]; exact (Int.ofNat_tmod _ _).symm
      refine go_iload (j := 14) (q := 963) rfl dL_law_961 rfl ?_
      refine go_iload (j := 14) (q := 965) rfl dL_law_963 rfl ?_
      refine go_iconst (q := 966) dL_law_965 rfl ?_
      refine go_iadd (q := 967) dL_law_966 rfl ?_
      refine go_iconst (q := 968) dL_law_967 rfl ?_
      refine go_irem2 (q := 969) (by omega) (by omega) dL_law_968 rfl ?_
      rw [e968]
      refine go_iload (j := 14) (q := 971) rfl dL_law_969 rfl ?_
      refine go_iconst (q := 972) dL_law_971 rfl ?_
      refine go_iadd (q := 973) dL_law_972 rfl ?_
      refine go_iconst (q := 974) dL_law_973 rfl ?_
      refine go_irem2 (q := 975) (by omega) (by omega) dL_law_974 rfl ?_
      rw [e974]
      refine go_iconst (q := 976) dL_law_975 rfl ?_
      refine go_aload_n (j := 2) (q := 977) rfl rfl dL_law_976 rfl ?_
      refine go_aload (j := 4) (q := 979) rfl dL_law_977 rfl ?_
      refine go_callSv (as := [_, _, _, _, _, _]) (rest := []) (n := 6) (q := 982) dL_law_979 lk_L_157 rfl (by decide +kernel) rfl ⟨by decide, by decide⟩ ⟨rfl, rfl⟩ (Nat.le_of_ble_eq_true rfl) (el_add (o := stG 1 i 0) (i := stG 1 i 1) (u := stG 1 i 2) (by rw [hf.1]; exact ei) rfl rfl hC3 (by omega)) rfl (fun w979 h979 => ?_)
      obtain ⟨hC979, u979, f979⟩ := h979
      have hs1 : stS 1 i = 1 := hf.2.2.2
      rw [← hs1] at hC979
      refine go_iinc (j := 14) (q := 985) (ls2 := [_, _, _, _, _, _, _, _, _, _, _, _, _, _, _, _, _, _, _, _, _]) rfl (by decide) rfl rfl dL_law_982 rfl ?_
      refine go_goto (q := 955) dL_law_985 (by decide) ?_
      exact ih955 _ (by omega) (i + 1) _ _ (by omega) (by omega) (PXW_q hP3 (fun c k h => f979 c k (by omega) (by omega))) (TB_copy hT3 (u979 0 (by decide)) (fun k _ => f979 _ _ (by omega) (by omega))) ((u979 1 (by decide)).trans h13) (LC_congr hC979 gap_st) rfl
  exact lp955 _ 0 _ _ rfl (by omega) hPb hTb h1b hC0 rfl
theorem lk_st_2 (hN : NxL l D ck ad B ti K) (hP : PXW w W) (hX : LX w W) : gL_law l D ck ad shA B VT 899 [some (vR 2000), some (vR 0), some (vR 45), some (vR 46), some (vR 47), some (vI ti), some (vI xi), some (vI yi), some (vI ki), some (vI ni), some (vI fi), some (vI ai), some (vI bi), some (vI 2), none, none, none, none, none, none, none] [] w K := by
  have hT0 := hX.1
  refine go_aload_n (j := 2) (q := 900) rfl rfl dL_law_899 rfl ?_
  refine go_iconst (q := 901) dL_law_900 rfl ?_
  refine go_iload (j := 13) (q := 903) rfl dL_law_901 rfl ?_
  refine go_if_neT (t := 910) dL_law_903 (by decide) (by decide) ?_
  refine go_iload (j := 13) (q := 912) rfl dL_law_910 rfl ?_
  refine go_iconst (q := 913) dL_law_912 rfl ?_
  refine go_icmp_ne2 (q := 916) (t := 920) dL_law_913 (by decide) rfl (by omega) (fun _ => ?_) (fun z => absurd z (by decide))
  refine go_iload (j := 13) (q := 922) rfl dL_law_920 rfl ?_
  refine go_iconst (q := 923) dL_law_922 rfl ?_
  refine go_icmp_ne2 (q := 926) (t := 930) dL_law_923 (by decide) rfl (by omega) (fun z => absurd z (by decide)) (fun _ => ?_)
  refine go_iconst (q := 927) dL_law_926 rfl ?_
  refine go_goto (q := 941) dL_law_927 (by decide) ?_
  refine go_iast (j := 1) (q := 942) (by first | assumption | rfl) (wr_eq (by omega)) (by omega) dL_law_941 rfl ?_
  refine go_aload_n (j := 2) (q := 943) rfl rfl dL_law_942 rfl ?_
  refine go_iconst (q := 944) dL_law_943 rfl ?_
  refine go_iconst (q := 945) dL_law_944 rfl ?_
  refine go_iast (j := 2) (q := 946) (by first | assumption | rfl) (wr_eq (by omega)) (by omega) dL_law_945 rfl ?_
  have f0 := (fun c k (h : c ≠ 45) => by rw [mup_ne (Or.inl h), mup_ne (Or.inl h)] : ∀ c k, c ≠ 45 → mup (mup w 45 1 4) 45 2 0 c k = w c k)
  have hTb : TB (mup (mup w 45 1 4) 45 2 0) 45 (wN W) (wF W) := TB_copy hT0 (by rw [mup_ne (by omega), mup_ne (by omega)]) (fun k _ => f0 _ _ (by omega))
  have hPb : PXW (mup (mup w 45 1 4) 45 2 0) W := PXW_q hP (fun c k h => f0 c k (by omega))
  have h1b : mup (mup w 45 1 4) 45 2 0 45 1 = 4 := by rw [mup_ne (by omega), mup_eq]
  have hC0 : LC (mup (mup w 45 1 4) 45 2 0) 0 (stG 2) (stS 2) := LC_0 (mup_eq _ _ _ _)
  refine go_iload (j := 13) (q := 948) rfl dL_law_946 rfl ?_
  refine go_iconst (q := 949) dL_law_948 rfl ?_
  refine go_icmp_ne2 (q := 952) (t := 988) dL_law_949 (by decide) rfl (by omega) (fun _ => ?_) (fun z => absurd z (by decide))
  refine go_iload (j := 13) (q := 990) rfl dL_law_988 rfl ?_
  refine go_iconst (q := 991) dL_law_990 rfl ?_
  refine go_icmp_ne2 (q := 994) (t := 1034) dL_law_991 (by decide) rfl (by omega) (fun z => absurd z (by decide)) (fun _ => ?_)
  refine go_iconst (q := 995) dL_law_994 rfl ?_
  refine go_iconst (q := 996) dL_law_995 rfl ?_
  refine go_iconst (q := 997) dL_law_996 rfl ?_
  refine go_iconst (q := 998) dL_law_997 rfl ?_
  refine go_aload_n (j := 2) (q := 999) rfl rfl dL_law_998 rfl ?_
  refine go_aload (j := 4) (q := 1001) rfl dL_law_999 rfl ?_
  refine go_callSv (as := [_, _, _, _, _, _]) (rest := []) (n := 6) (q := 1004) dL_law_1001 lk_L_157 rfl (by decide +kernel) rfl ⟨by decide, by decide⟩ ⟨rfl, rfl⟩ (Nat.le_of_ble_eq_true rfl) (el_add (o := stG 2 0 0) (i := stG 2 0 1) (u := stG 2 0 2) rfl rfl rfl hC0 (by decide)) rfl (fun w1001 h1001 => ?_)
  obtain ⟨hC1001, u1001, f1001⟩ := h1001
  have hC1001 : LC w1001 1 (stG 2) (stS 2) := LC_congr hC1001 (by
    intro k hk
    have : ∀ k : Fin 1, gap (stG 2) 0 (stG 2 0 0) (stG 2 0 1) (stG 2 0 2) k 0 = stG 2 k 0 ∧ gap (stG 2) 0 (stG 2 0 0) (stG 2 0 1) (stG 2 0 2) k 1 = stG 2 k 1 ∧ gap (stG 2) 0 (stG 2 0 0) (stG 2 0 1) (stG 2 0 2) k 2 = stG 2 k 2 ∧ sap (stS 2) 0 (stS 2 0) k = stS 2 k := by decide +kernel
    exact this ⟨k, hk⟩)
  have hT1001 : TB w1001 45 (wN W) (wF W) := TB_copy hTb (u1001 0 (by decide)) (fun k _ => f1001 _ _ (by omega) (by omega))
  have hP1001 : PXW w1001 W := PXW_q hPb (fun c k h => f1001 c k (by omega) (by omega))
  have h11001 : w1001 45 1 = 4 := (u1001 1 (by decide)).trans h1b
  refine go_iconst (q := 1005) dL_law_1004 rfl ?_
  refine go_iconst (q := 1006) dL_law_1005 rfl ?_
  refine go_iconst (q := 1007) dL_law_1006 rfl ?_
  refine go_iconst (q := 1008) dL_law_1007 rfl ?_
  refine go_aload_n (j := 2) (q := 1009) rfl rfl dL_law_1008 rfl ?_
  refine go_aload (j := 4) (q := 1011) rfl dL_law_1009 rfl ?_
  refine go_callSv (as := [_, _, _, _, _, _]) (rest := []) (n := 6) (q := 1014) dL_law_1011 lk_L_157 rfl (by decide +kernel) rfl ⟨by decide, by decide⟩ ⟨rfl, rfl⟩ (Nat.le_of_ble_eq_true rfl) (el_add (o := stG 2 1 0) (i := stG 2 1 1) (u := stG 2 1 2) rfl rfl rfl hC1001 (by decide)) rfl (fun w1011 h1011 => ?_)
  obtain ⟨hC1011, u1011, f1011⟩ := h1011
  have hC1011 : LC w1011 2 (stG 2) (stS 2) := LC_congr hC1011 (by
    intro k hk
    have : ∀ k : Fin 2, gap (stG 2) 1 (stG 2 1 0) (stG 2 1 1) (stG 2 1 2) k 0 = stG 2 k 0 ∧ gap (stG 2) 1 (stG 2 1 0) (stG 2 1 1) (stG 2 1 2) k 1 = stG 2 k 1 ∧ gap (stG 2) 1 (stG 2 1 0) (stG 2 1 1) (stG 2 1 2) k 2 = stG 2 k 2 ∧ sap (stS 2) 1 (stS 2 1) k = stS 2 k := by decide +kernel
    exact this ⟨k, hk⟩)
  have hT1011 : TB w1011 45 (wN W) (wF W) := TB_copy hT1001 (u1011 0 (by decide)) (fun k _ => f1011 _ _ (by omega) (by omega))
  have hP1011 : PXW w1011 W := PXW_q hP1001 (fun c k h => f1011 c k (by omega) (by omega))
  have h11011 : w1011 45 1 = 4 := (u1011 1 (by decide)).trans h11001
  refine go_iconst (q := 1015) dL_law_1014 rfl ?_
  refine go_iconst (q := 1016) dL_law_1015 rfl ?_
  refine go_iconst (q := 1017) dL_law_1016 rfl ?_
  refine go_iconst (q := 1018) dL_law_1017 rfl ?_
  refine go_aload_n (j := 2) (q := 1019) rfl rfl dL_law_1018 rfl ?_
  refine go_aload (j := 4) (q := 1021) rfl dL_law_1019 rfl ?_
  refine go_callSv (as := [_, _, _, _, _, _]) (rest := []) (n := 6) (q := 1024) dL_law_1021 lk_L_157 rfl (by decide +kernel) rfl ⟨by decide, by decide⟩ ⟨rfl, rfl⟩ (Nat.le_of_ble_eq_true rfl) (el_add (o := stG 2 2 0) (i := stG 2 2 1) (u := stG 2 2 2) rfl rfl rfl hC1011 (by decide)) rfl (fun w1021 h1021 => ?_)
  obtain ⟨hC1021, u1021, f1021⟩ := h1021
  have hC1021 : LC w1021 3 (stG 2) (stS 2) := LC_congr hC1021 (by
    intro k hk
    have : ∀ k : Fin 3, gap (stG 2) 2 (stG 2 2 0) (stG 2 2 1) (stG 2 2 2) k 0 = stG 2 k 0 ∧ gap (stG 2) 2 (stG 2 2 0) (stG 2 2 1) (stG 2 2 2) k 1 = stG 2 k 1 ∧ gap (stG 2) 2 (stG 2 2 0) (stG 2 2 1) (stG 2 2 2) k 2 = stG 2 k 2 ∧ sap (stS 2) 2 (stS 2 2) k = stS 2 k := by decide +kernel
    exact this ⟨k, hk⟩)
  have hT1021 : TB w1021 45 (wN W) (wF W) := TB_copy hT1011 (u1021 0 (by decide)) (fun k _ => f1021 _ _ (by omega) (by omega))
  have hP1021 : PXW w1021 W := PXW_q hP1011 (fun c k h => f1021 c k (by omega) (by omega))
  have h11021 : w1021 45 1 = 4 := (u1021 1 (by decide)).trans h11011
  refine go_iconst (q := 1025) dL_law_1024 rfl ?_
  refine go_iconst (q := 1026) dL_law_1025 rfl ?_
  refine go_iconst (q := 1027) dL_law_1026 rfl ?_
  refine go_iconst (q := 1028) dL_law_1027 rfl ?_
  refine go_aload_n (j := 2) (q := 1029) rfl rfl dL_law_1028 rfl ?_
  refine go_aload (j := 4) (q := 1031) rfl dL_law_1029 rfl ?_
  refine go_callSv (as := [_, _, _, _, _, _]) (rest := []) (n := 6) (q := 1034) dL_law_1031 lk_L_157 rfl (by decide +kernel) rfl ⟨by decide, by decide⟩ ⟨rfl, rfl⟩ (Nat.le_of_ble_eq_true rfl) (el_add (o := stG 2 3 0) (i := stG 2 3 1) (u := stG 2 3 2) rfl rfl rfl hC1021 (by decide)) rfl (fun w1031 h1031 => ?_)
  obtain ⟨hC1031, u1031, f1031⟩ := h1031
  have hC1031 : LC w1031 4 (stG 2) (stS 2) := LC_congr hC1031 (by
    intro k hk
    have : ∀ k : Fin 4, gap (stG 2) 3 (stG 2 3 0) (stG 2 3 1) (stG 2 3 2) k 0 = stG 2 k 0 ∧ gap (stG 2) 3 (stG 2 3 0) (stG 2 3 1) (stG 2 3 2) k 1 = stG 2 k 1 ∧ gap (stG 2) 3 (stG 2 3 0) (stG 2 3 1) (stG 2 3 2) k 2 = stG 2 k 2 ∧ sap (stS 2) 3 (stS 2 3) k = stS 2 k := by decide +kernel
    exact this ⟨k, hk⟩)
  have hT1031 : TB w1031 45 (wN W) (wF W) := TB_copy hT1021 (u1031 0 (by decide)) (fun k _ => f1031 _ _ (by omega) (by omega))
  have hP1031 : PXW w1031 W := PXW_q hP1021 (fun c k h => f1031 c k (by omega) (by omega))
  have h11031 : w1031 45 1 = 4 := (u1031 1 (by decide)).trans h11021
  refine go_iload (j := 13) (q := 1036) rfl dL_law_1034 rfl ?_
  refine go_iconst (q := 1037) dL_law_1036 rfl ?_
  refine go_icmp_ne2 (q := 1040) (t := 1090) dL_law_1037 (by decide) rfl (by omega) (fun _ => ?_) (fun z => absurd z (by decide))
  refine go_iload (j := 13) (q := 1092) rfl dL_law_1090 rfl ?_
  refine go_iconst (q := 1093) dL_law_1092 rfl ?_
  refine go_icmp_ne2 (q := 1096) (t := 1128) dL_law_1093 (by decide) rfl (by omega) (fun _ => ?_) (fun z => absurd z (by decide))
  exact lk_st0 (q := 2) (by decide) hN hP1031 hT1031 h11031 hC1031 rfl
theorem lk_st_3 (hN : NxL l D ck ad B ti K) (hP : PXW w W) (hX : LX w W) : gL_law l D ck ad shA B VT 899 [some (vR 2000), some (vR 0), some (vR 45), some (vR 46), some (vR 47), some (vI ti), some (vI xi), some (vI yi), some (vI ki), some (vI ni), some (vI fi), some (vI ai), some (vI bi), some (vI 3), none, none, none, none, none, none, none] [] w K := by
  have hT0 := hX.1
  refine go_aload_n (j := 2) (q := 900) rfl rfl dL_law_899 rfl ?_
  refine go_iconst (q := 901) dL_law_900 rfl ?_
  refine go_iload (j := 13) (q := 903) rfl dL_law_901 rfl ?_
  refine go_if_neT (t := 910) dL_law_903 (by decide) (by decide) ?_
  refine go_iload (j := 13) (q := 912) rfl dL_law_910 rfl ?_
  refine go_iconst (q := 913) dL_law_912 rfl ?_
  refine go_icmp_ne2 (q := 916) (t := 920) dL_law_913 (by decide) rfl (by omega) (fun _ => ?_) (fun z => absurd z (by decide))
  refine go_iload (j := 13) (q := 922) rfl dL_law_920 rfl ?_
  refine go_iconst (q := 923) dL_law_922 rfl ?_
  refine go_icmp_ne2 (q := 926) (t := 930) dL_law_923 (by decide) rfl (by omega) (fun _ => ?_) (fun z => absurd z (by decide))
  refine go_iload (j := 13) (q := 932) rfl dL_law_930 rfl ?_
  refine go_iconst (q := 933) dL_law_932 rfl ?_
  refine go_icmp_ne2 (q := 936) (t := 940) dL_law_933 (by decide) rfl (by omega) (fun z => absurd z (by decide)) (fun _ => ?_)
  refine go_iconst (q := 937) dL_law_936 rfl ?_
  refine go_goto (q := 941) dL_law_937 (by decide) ?_
  refine go_iast (j := 1) (q := 942) (by first | assumption | rfl) (wr_eq (by omega)) (by omega) dL_law_941 rfl ?_
  refine go_aload_n (j := 2) (q := 943) rfl rfl dL_law_942 rfl ?_
  refine go_iconst (q := 944) dL_law_943 rfl ?_
  refine go_iconst (q := 945) dL_law_944 rfl ?_
  refine go_iast (j := 2) (q := 946) (by first | assumption | rfl) (wr_eq (by omega)) (by omega) dL_law_945 rfl ?_
  have f0 := (fun c k (h : c ≠ 45) => by rw [mup_ne (Or.inl h), mup_ne (Or.inl h)] : ∀ c k, c ≠ 45 → mup (mup w 45 1 5) 45 2 0 c k = w c k)
  have hTb : TB (mup (mup w 45 1 5) 45 2 0) 45 (wN W) (wF W) := TB_copy hT0 (by rw [mup_ne (by omega), mup_ne (by omega)]) (fun k _ => f0 _ _ (by omega))
  have hPb : PXW (mup (mup w 45 1 5) 45 2 0) W := PXW_q hP (fun c k h => f0 c k (by omega))
  have h1b : mup (mup w 45 1 5) 45 2 0 45 1 = 5 := by rw [mup_ne (by omega), mup_eq]
  have hC0 : LC (mup (mup w 45 1 5) 45 2 0) 0 (stG 3) (stS 3) := LC_0 (mup_eq _ _ _ _)
  refine go_iload (j := 13) (q := 948) rfl dL_law_946 rfl ?_
  refine go_iconst (q := 949) dL_law_948 rfl ?_
  refine go_icmp_ne2 (q := 952) (t := 988) dL_law_949 (by decide) rfl (by omega) (fun _ => ?_) (fun z => absurd z (by decide))
  refine go_iload (j := 13) (q := 990) rfl dL_law_988 rfl ?_
  refine go_iconst (q := 991) dL_law_990 rfl ?_
  refine go_icmp_ne2 (q := 994) (t := 1034) dL_law_991 (by decide) rfl (by omega) (fun _ => ?_) (fun z => absurd z (by decide))
  refine go_iload (j := 13) (q := 1036) rfl dL_law_1034 rfl ?_
  refine go_iconst (q := 1037) dL_law_1036 rfl ?_
  refine go_icmp_ne2 (q := 1040) (t := 1090) dL_law_1037 (by decide) rfl (by omega) (fun z => absurd z (by decide)) (fun _ => ?_)
  refine go_iconst (q := 1041) dL_law_1040 rfl ?_
  refine go_iconst (q := 1042) dL_law_1041 rfl ?_
  refine go_iconst (q := 1043) dL_law_1042 rfl ?_
  refine go_iconst (q := 1044) dL_law_1043 rfl ?_
  refine go_aload_n (j := 2) (q := 1045) rfl rfl dL_law_1044 rfl ?_
  refine go_aload (j := 4) (q := 1047) rfl dL_law_1045 rfl ?_
  refine go_callSv (as := [_, _, _, _, _, _]) (rest := []) (n := 6) (q := 1050) dL_law_1047 lk_L_157 rfl (by decide +kernel) rfl ⟨by decide, by decide⟩ ⟨rfl, rfl⟩ (Nat.le_of_ble_eq_true rfl) (el_add (o := stG 3 0 0) (i := stG 3 0 1) (u := stG 3 0 2) rfl rfl rfl hC0 (by decide)) rfl (fun w1047 h1047 => ?_)
  obtain ⟨hC1047, u1047, f1047⟩ := h1047
  have hC1047 : LC w1047 1 (stG 3) (stS 3) := LC_congr hC1047 (by
    intro k hk
    have : ∀ k : Fin 1, gap (stG 3) 0 (stG 3 0 0) (stG 3 0 1) (stG 3 0 2) k 0 = stG 3 k 0 ∧ gap (stG 3) 0 (stG 3 0 0) (stG 3 0 1) (stG 3 0 2) k 1 = stG 3 k 1 ∧ gap (stG 3) 0 (stG 3 0 0) (stG 3 0 1) (stG 3 0 2) k 2 = stG 3 k 2 ∧ sap (stS 3) 0 (stS 3 0) k = stS 3 k := by decide +kernel
    exact this ⟨k, hk⟩)
  have hT1047 : TB w1047 45 (wN W) (wF W) := TB_copy hTb (u1047 0 (by decide)) (fun k _ => f1047 _ _ (by omega) (by omega))
  have hP1047 : PXW w1047 W := PXW_q hPb (fun c k h => f1047 c k (by omega) (by omega))
  have h11047 : w1047 45 1 = 5 := (u1047 1 (by decide)).trans h1b
  refine go_iconst (q := 1051) dL_law_1050 rfl ?_
  refine go_iconst (q := 1052) dL_law_1051 rfl ?_
  refine go_iconst (q := 1053) dL_law_1052 rfl ?_
  refine go_iconst (q := 1054) dL_law_1053 rfl ?_
  refine go_aload_n (j := 2) (q := 1055) rfl rfl dL_law_1054 rfl ?_
  refine go_aload (j := 4) (q := 1057) rfl dL_law_1055 rfl ?_
  refine go_callSv (as := [_, _, _, _, _, _]) (rest := []) (n := 6) (q := 1060) dL_law_1057 lk_L_157 rfl (by decide +kernel) rfl ⟨by decide, by decide⟩ ⟨rfl, rfl⟩ (Nat.le_of_ble_eq_true rfl) (el_add (o := stG 3 1 0) (i := stG 3 1 1) (u := stG 3 1 2) rfl rfl rfl hC1047 (by decide)) rfl (fun w1057 h1057 => ?_)
  obtain ⟨hC1057, u1057, f1057⟩ := h1057
  have hC1057 : LC w1057 2 (stG 3) (stS 3) := LC_congr hC1057 (by
    intro k hk
    have : ∀ k : Fin 2, gap (stG 3) 1 (stG 3 1 0) (stG 3 1 1) (stG 3 1 2) k 0 = stG 3 k 0 ∧ gap (stG 3) 1 (stG 3 1 0) (stG 3 1 1) (stG 3 1 2) k 1 = stG 3 k 1 ∧ gap (stG 3) 1 (stG 3 1 0) (stG 3 1 1) (stG 3 1 2) k 2 = stG 3 k 2 ∧ sap (stS 3) 1 (stS 3 1) k = stS 3 k := by decide +kernel
    exact this ⟨k, hk⟩)
  have hT1057 : TB w1057 45 (wN W) (wF W) := TB_copy hT1047 (u1057 0 (by decide)) (fun k _ => f1057 _ _ (by omega) (by omega))
  have hP1057 : PXW w1057 W := PXW_q hP1047 (fun c k h => f1057 c k (by omega) (by omega))
  have h11057 : w1057 45 1 = 5 := (u1057 1 (by decide)).trans h11047
  refine go_iconst (q := 1061) dL_law_1060 rfl ?_
  refine go_iconst (q := 1062) dL_law_1061 rfl ?_
  refine go_iconst (q := 1063) dL_law_1062 rfl ?_
  refine go_iconst (q := 1064) dL_law_1063 rfl ?_
  refine go_aload_n (j := 2) (q := 1065) rfl rfl dL_law_1064 rfl ?_
  refine go_aload (j := 4) (q := 1067) rfl dL_law_1065 rfl ?_
  refine go_callSv (as := [_, _, _, _, _, _]) (rest := []) (n := 6) (q := 1070) dL_law_1067 lk_L_157 rfl (by decide +kernel) rfl ⟨by decide, by decide⟩ ⟨rfl, rfl⟩ (Nat.le_of_ble_eq_true rfl) (el_add (o := stG 3 2 0) (i := stG 3 2 1) (u := stG 3 2 2) rfl rfl rfl hC1057 (by decide)) rfl (fun w1067 h1067 => ?_)
  obtain ⟨hC1067, u1067, f1067⟩ := h1067
  have hC1067 : LC w1067 3 (stG 3) (stS 3) := LC_congr hC1067 (by
    intro k hk
    have : ∀ k : Fin 3, gap (stG 3) 2 (stG 3 2 0) (stG 3 2 1) (stG 3 2 2) k 0 = stG 3 k 0 ∧ gap (stG 3) 2 (stG 3 2 0) (stG 3 2 1) (stG 3 2 2) k 1 = stG 3 k 1 ∧ gap (stG 3) 2 (stG 3 2 0) (stG 3 2 1) (stG 3 2 2) k 2 = stG 3 k 2 ∧ sap (stS 3) 2 (stS 3 2) k = stS 3 k := by decide +kernel
    exact this ⟨k, hk⟩)
  have hT1067 : TB w1067 45 (wN W) (wF W) := TB_copy hT1057 (u1067 0 (by decide)) (fun k _ => f1067 _ _ (by omega) (by omega))
  have hP1067 : PXW w1067 W := PXW_q hP1057 (fun c k h => f1067 c k (by omega) (by omega))
  have h11067 : w1067 45 1 = 5 := (u1067 1 (by decide)).trans h11057
  refine go_iconst (q := 1071) dL_law_1070 rfl ?_
  refine go_iconst (q := 1072) dL_law_1071 rfl ?_
  refine go_iconst (q := 1073) dL_law_1072 rfl ?_
  refine go_iconst (q := 1074) dL_law_1073 rfl ?_
  refine go_aload_n (j := 2) (q := 1075) rfl rfl dL_law_1074 rfl ?_
  refine go_aload (j := 4) (q := 1077) rfl dL_law_1075 rfl ?_
  refine go_callSv (as := [_, _, _, _, _, _]) (rest := []) (n := 6) (q := 1080) dL_law_1077 lk_L_157 rfl (by decide +kernel) rfl ⟨by decide, by decide⟩ ⟨rfl, rfl⟩ (Nat.le_of_ble_eq_true rfl) (el_add (o := stG 3 3 0) (i := stG 3 3 1) (u := stG 3 3 2) rfl rfl rfl hC1067 (by decide)) rfl (fun w1077 h1077 => ?_)
  obtain ⟨hC1077, u1077, f1077⟩ := h1077
  have hC1077 : LC w1077 4 (stG 3) (stS 3) := LC_congr hC1077 (by
    intro k hk
    have : ∀ k : Fin 4, gap (stG 3) 3 (stG 3 3 0) (stG 3 3 1) (stG 3 3 2) k 0 = stG 3 k 0 ∧ gap (stG 3) 3 (stG 3 3 0) (stG 3 3 1) (stG 3 3 2) k 1 = stG 3 k 1 ∧ gap (stG 3) 3 (stG 3 3 0) (stG 3 3 1) (stG 3 3 2) k 2 = stG 3 k 2 ∧ sap (stS 3) 3 (stS 3 3) k = stS 3 k := by decide +kernel
    exact this ⟨k, hk⟩)
  have hT1077 : TB w1077 45 (wN W) (wF W) := TB_copy hT1067 (u1077 0 (by decide)) (fun k _ => f1077 _ _ (by omega) (by omega))
  have hP1077 : PXW w1077 W := PXW_q hP1067 (fun c k h => f1077 c k (by omega) (by omega))
  have h11077 : w1077 45 1 = 5 := (u1077 1 (by decide)).trans h11067
  refine go_iconst (q := 1081) dL_law_1080 rfl ?_
  refine go_iconst (q := 1082) dL_law_1081 rfl ?_
  refine go_iconst (q := 1083) dL_law_1082 rfl ?_
  refine go_iconst (q := 1084) dL_law_1083 rfl ?_
  refine go_aload_n (j := 2) (q := 1085) rfl rfl dL_law_1084 rfl ?_
  refine go_aload (j := 4) (q := 1087) rfl dL_law_1085 rfl ?_
  refine go_callSv (as := [_, _, _, _, _, _]) (rest := []) (n := 6) (q := 1090) dL_law_1087 lk_L_157 rfl (by decide +kernel) rfl ⟨by decide, by decide⟩ ⟨rfl, rfl⟩ (Nat.le_of_ble_eq_true rfl) (el_add (o := stG 3 4 0) (i := stG 3 4 1) (u := stG 3 4 2) rfl rfl rfl hC1077 (by decide)) rfl (fun w1087 h1087 => ?_)
  obtain ⟨hC1087, u1087, f1087⟩ := h1087
  have hC1087 : LC w1087 5 (stG 3) (stS 3) := LC_congr hC1087 (by
    intro k hk
    have : ∀ k : Fin 5, gap (stG 3) 4 (stG 3 4 0) (stG 3 4 1) (stG 3 4 2) k 0 = stG 3 k 0 ∧ gap (stG 3) 4 (stG 3 4 0) (stG 3 4 1) (stG 3 4 2) k 1 = stG 3 k 1 ∧ gap (stG 3) 4 (stG 3 4 0) (stG 3 4 1) (stG 3 4 2) k 2 = stG 3 k 2 ∧ sap (stS 3) 4 (stS 3 4) k = stS 3 k := by decide +kernel
    exact this ⟨k, hk⟩)
  have hT1087 : TB w1087 45 (wN W) (wF W) := TB_copy hT1077 (u1087 0 (by decide)) (fun k _ => f1087 _ _ (by omega) (by omega))
  have hP1087 : PXW w1087 W := PXW_q hP1077 (fun c k h => f1087 c k (by omega) (by omega))
  have h11087 : w1087 45 1 = 5 := (u1087 1 (by decide)).trans h11077
  refine go_iload (j := 13) (q := 1092) rfl dL_law_1090 rfl ?_
  refine go_iconst (q := 1093) dL_law_1092 rfl ?_
  refine go_icmp_ne2 (q := 1096) (t := 1128) dL_law_1093 (by decide) rfl (by omega) (fun _ => ?_) (fun z => absurd z (by decide))
  exact lk_st0 (q := 3) (by decide) hN hP1087 hT1087 h11087 hC1087 rfl
theorem lk_st_4 (hN : NxL l D ck ad B ti K) (hP : PXW w W) (hX : LX w W) : gL_law l D ck ad shA B VT 899 [some (vR 2000), some (vR 0), some (vR 45), some (vR 46), some (vR 47), some (vI ti), some (vI xi), some (vI yi), some (vI ki), some (vI ni), some (vI fi), some (vI ai), some (vI bi), some (vI 4), none, none, none, none, none, none, none] [] w K := by
  have hT0 := hX.1
  refine go_aload_n (j := 2) (q := 900) rfl rfl dL_law_899 rfl ?_
  refine go_iconst (q := 901) dL_law_900 rfl ?_
  refine go_iload (j := 13) (q := 903) rfl dL_law_901 rfl ?_
  refine go_if_neT (t := 910) dL_law_903 (by decide) (by decide) ?_
  refine go_iload (j := 13) (q := 912) rfl dL_law_910 rfl ?_
  refine go_iconst (q := 913) dL_law_912 rfl ?_
  refine go_icmp_ne2 (q := 916) (t := 920) dL_law_913 (by decide) rfl (by omega) (fun _ => ?_) (fun z => absurd z (by decide))
  refine go_iload (j := 13) (q := 922) rfl dL_law_920 rfl ?_
  refine go_iconst (q := 923) dL_law_922 rfl ?_
  refine go_icmp_ne2 (q := 926) (t := 930) dL_law_923 (by decide) rfl (by omega) (fun _ => ?_) (fun z => absurd z (by decide))
  refine go_iload (j := 13) (q := 932) rfl dL_law_930 rfl ?_
  refine go_iconst (q := 933) dL_law_932 rfl ?_
  refine go_icmp_ne2 (q := 936) (t := 940) dL_law_933 (by decide) rfl (by omega) (fun _ => ?_) (fun z => absurd z (by decide))
  refine go_iconst (q := 941) dL_law_940 rfl ?_
  refine go_iast (j := 1) (q := 942) (by first | assumption | rfl) (wr_eq (by omega)) (by omega) dL_law_941 rfl ?_
  refine go_aload_n (j := 2) (q := 943) rfl rfl dL_law_942 rfl ?_
  refine go_iconst (q := 944) dL_law_943 rfl ?_
  refine go_iconst (q := 945) dL_law_944 rfl ?_
  refine go_iast (j := 2) (q := 946) (by first | assumption | rfl) (wr_eq (by omega)) (by omega) dL_law_945 rfl ?_
  have f0 := (fun c k (h : c ≠ 45) => by rw [mup_ne (Or.inl h), mup_ne (Or.inl h)] : ∀ c k, c ≠ 45 → mup (mup w 45 1 2) 45 2 0 c k = w c k)
  have hTb : TB (mup (mup w 45 1 2) 45 2 0) 45 (wN W) (wF W) := TB_copy hT0 (by rw [mup_ne (by omega), mup_ne (by omega)]) (fun k _ => f0 _ _ (by omega))
  have hPb : PXW (mup (mup w 45 1 2) 45 2 0) W := PXW_q hP (fun c k h => f0 c k (by omega))
  have h1b : mup (mup w 45 1 2) 45 2 0 45 1 = 2 := by rw [mup_ne (by omega), mup_eq]
  have hC0 : LC (mup (mup w 45 1 2) 45 2 0) 0 (stG 4) (stS 4) := LC_0 (mup_eq _ _ _ _)
  refine go_iload (j := 13) (q := 948) rfl dL_law_946 rfl ?_
  refine go_iconst (q := 949) dL_law_948 rfl ?_
  refine go_icmp_ne2 (q := 952) (t := 988) dL_law_949 (by decide) rfl (by omega) (fun _ => ?_) (fun z => absurd z (by decide))
  refine go_iload (j := 13) (q := 990) rfl dL_law_988 rfl ?_
  refine go_iconst (q := 991) dL_law_990 rfl ?_
  refine go_icmp_ne2 (q := 994) (t := 1034) dL_law_991 (by decide) rfl (by omega) (fun _ => ?_) (fun z => absurd z (by decide))
  refine go_iload (j := 13) (q := 1036) rfl dL_law_1034 rfl ?_
  refine go_iconst (q := 1037) dL_law_1036 rfl ?_
  refine go_icmp_ne2 (q := 1040) (t := 1090) dL_law_1037 (by decide) rfl (by omega) (fun _ => ?_) (fun z => absurd z (by decide))
  refine go_iload (j := 13) (q := 1092) rfl dL_law_1090 rfl ?_
  refine go_iconst (q := 1093) dL_law_1092 rfl ?_
  refine go_icmp_ne2 (q := 1096) (t := 1128) dL_law_1093 (by decide) rfl (by omega) (fun z => absurd z (by decide)) (fun _ => ?_)
  refine go_iconst (q := 1097) dL_law_1096 rfl ?_
  refine go_istore (j := 14) (q := 1099) (ls2 := [_, _, _, _, _, _, _, _, _, _, _, _, _, _, _, _, _, _, _, _, _]) (by decide) rfl rfl dL_law_1097 rfl ?_
  have lp1099 : ∀ (m1099 : Nat) (i : Nat) (ii : Int) (w3 : Mem) (ei : ii = i) (hi : i ≤ 2) (hP3 : PXW w3 W) (hT3 : TB w3 45 (wN W) (wF W)) (h13 : w3 45 1 = 2) (hC3 : LC w3 i (stG 4) (stS 4)), m1099 = 2 - i → gL_law l D ck ad shA B VT 1099 [some (vR 2000), some (vR 0), some (vR 45), some (vR 46), some (vR 47), some (vI ti), some (vI xi), some (vI yi), some (vI ki), some (vI ni), some (vI fi), some (vI ai), some (vI bi), some (vI 4), some (vI ii), none, none, none, none, none, none] [] w3 K := by
    intro m1099
    induction m1099 using Nat.strongRecOn with
    | _ m1099 ih1099 =>
    intro i ii w3 ei hi hP3 hT3 h13 hC3 em1099
    refine go_iload (j := 14) (q := 1101) rfl dL_law_1099 rfl ?_
    refine go_iconst (q := 1102) dL_law_1101 rfl ?_
    refine go_icmp_ge2 (q := 1105) (t := 1128) dL_law_1102 (by decide) rfl (by omega) (fun c1102 => ?_) (fun c1102 => ?_)
    · exact lk_st0 (q := 4) (by decide) hN hP3 hT3 h13 (by rw [show i = 2 by omega] at hC3; exact hC3) rfl
    · have hfin : ∀ k : Fin 2, stG 4 k 0 = k ∧ stG 4 k 1 = 1 - (k : Nat) ∧ stG 4 k 2 = 1 - (k : Nat) ∧ stS 4 k = 1 := by decide +kernel
      have hf := hfin ⟨i, by omega⟩
      simp only at hf
      refine go_iload (j := 14) (q := 1107) rfl dL_law_1105 rfl ?_
      refine go_iconst (q := 1108) dL_law_1107 rfl ?_
      refine go_iload (j := 14) (q := 1110) rfl dL_law_1108 rfl ?_
      refine go_isub (q := 1111) dL_law_1110 rfl ?_
      refine go_iconst (q := 1112) dL_law_1111 rfl ?_
      refine go_iload (j := 14) (q := 1114) rfl dL_law_1112 rfl ?_
      refine go_isub (q := 1115) dL_law_1114 rfl ?_
      refine go_iconst (q := 1116) dL_law_1115 rfl ?_
      refine go_aload_n (j := 2) (q := 1117) rfl rfl dL_law_1116 rfl ?_
      refine go_aload (j := 4) (q := 1119) rfl dL_law_1117 rfl ?_
      refine go_callSv (as := [_, _, _, _, _, _]) (rest := []) (n := 6) (q := 1122) dL_law_1119 lk_L_157 rfl (by decide +kernel) rfl ⟨by decide, by decide⟩ ⟨rfl, rfl⟩ (Nat.le_of_ble_eq_true rfl) (el_add (o := stG 4 i 0) (i := stG 4 i 1) (u := stG 4 i 2) (by rw [hf.1]; exact ei) (by rw [hf.2.1]; omega) (by rw [hf.2.2.1]; omega) hC3 (by omega)) rfl (fun w1119 h1119 => ?_)
      obtain ⟨hC1119, u1119, f1119⟩ := h1119
      have hs1 : stS 4 i = 1 := hf.2.2.2
      rw [← hs1] at hC1119
      refine go_iinc (j := 14) (q := 1125) (ls2 := [_, _, _, _, _, _, _, _, _, _, _, _, _, _, _, _, _, _, _, _, _]) rfl (by decide) rfl rfl dL_law_1122 rfl ?_
      refine go_goto (q := 1099) dL_law_1125 (by decide) ?_
      exact ih1099 _ (by omega) (i + 1) _ _ (by omega) (by omega) (PXW_q hP3 (fun c k h => f1119 c k (by omega) (by omega))) (TB_copy hT3 (u1119 0 (by decide)) (fun k _ => f1119 _ _ (by omega) (by omega))) ((u1119 1 (by decide)).trans h13) (LC_congr hC1119 gap_st) rfl
  exact lp1099 _ 0 _ _ rfl (by omega) hPb hTb h1b hC0 rfl
theorem lk_st_5 (hN : NxL l D ck ad B ti K) (hP : PXW w W) (hX : LX w W) : gL_law l D ck ad shA B VT 899 [some (vR 2000), some (vR 0), some (vR 45), some (vR 46), some (vR 47), some (vI ti), some (vI xi), some (vI yi), some (vI ki), some (vI ni), some (vI fi), some (vI ai), some (vI bi), some (vI 5), none, none, none, none, none, none, none] [] w K := by
  have hT0 := hX.1
  refine go_aload_n (j := 2) (q := 900) rfl rfl dL_law_899 rfl ?_
  refine go_iconst (q := 901) dL_law_900 rfl ?_
  refine go_iload (j := 13) (q := 903) rfl dL_law_901 rfl ?_
  refine go_if_neT (t := 910) dL_law_903 (by decide) (by decide) ?_
  refine go_iload (j := 13) (q := 912) rfl dL_law_910 rfl ?_
  refine go_iconst (q := 913) dL_law_912 rfl ?_
  refine go_icmp_ne2 (q := 916) (t := 920) dL_law_913 (by decide) rfl (by omega) (fun _ => ?_) (fun z => absurd z (by decide))
  refine go_iload (j := 13) (q := 922) rfl dL_law_920 rfl ?_
  refine go_iconst (q := 923) dL_law_922 rfl ?_
  refine go_icmp_ne2 (q := 926) (t := 930) dL_law_923 (by decide) rfl (by omega) (fun _ => ?_) (fun z => absurd z (by decide))
  refine go_iload (j := 13) (q := 932) rfl dL_law_930 rfl ?_
  refine go_iconst (q := 933) dL_law_932 rfl ?_
  refine go_icmp_ne2 (q := 936) (t := 940) dL_law_933 (by decide) rfl (by omega) (fun _ => ?_) (fun z => absurd z (by decide))
  refine go_iconst (q := 941) dL_law_940 rfl ?_
  refine go_iast (j := 1) (q := 942) (by first | assumption | rfl) (wr_eq (by omega)) (by omega) dL_law_941 rfl ?_
  refine go_aload_n (j := 2) (q := 943) rfl rfl dL_law_942 rfl ?_
  refine go_iconst (q := 944) dL_law_943 rfl ?_
  refine go_iconst (q := 945) dL_law_944 rfl ?_
  refine go_iast (j := 2) (q := 946) (by first | assumption | rfl) (wr_eq (by omega)) (by omega) dL_law_945 rfl ?_
  have f0 := (fun c k (h : c ≠ 45) => by rw [mup_ne (Or.inl h), mup_ne (Or.inl h)] : ∀ c k, c ≠ 45 → mup (mup w 45 1 2) 45 2 0 c k = w c k)
  have hTb : TB (mup (mup w 45 1 2) 45 2 0) 45 (wN W) (wF W) := TB_copy hT0 (by rw [mup_ne (by omega), mup_ne (by omega)]) (fun k _ => f0 _ _ (by omega))
  have hPb : PXW (mup (mup w 45 1 2) 45 2 0) W := PXW_q hP (fun c k h => f0 c k (by omega))
  have h1b : mup (mup w 45 1 2) 45 2 0 45 1 = 2 := by rw [mup_ne (by omega), mup_eq]
  have hC0 : LC (mup (mup w 45 1 2) 45 2 0) 0 (stG 5) (stS 5) := LC_0 (mup_eq _ _ _ _)
  refine go_iload (j := 13) (q := 948) rfl dL_law_946 rfl ?_
  refine go_iconst (q := 949) dL_law_948 rfl ?_
  refine go_icmp_ne2 (q := 952) (t := 988) dL_law_949 (by decide) rfl (by omega) (fun _ => ?_) (fun z => absurd z (by decide))
  refine go_iload (j := 13) (q := 990) rfl dL_law_988 rfl ?_
  refine go_iconst (q := 991) dL_law_990 rfl ?_
  refine go_icmp_ne2 (q := 994) (t := 1034) dL_law_991 (by decide) rfl (by omega) (fun _ => ?_) (fun z => absurd z (by decide))
  refine go_iload (j := 13) (q := 1036) rfl dL_law_1034 rfl ?_
  refine go_iconst (q := 1037) dL_law_1036 rfl ?_
  refine go_icmp_ne2 (q := 1040) (t := 1090) dL_law_1037 (by decide) rfl (by omega) (fun _ => ?_) (fun z => absurd z (by decide))
  refine go_iload (j := 13) (q := 1092) rfl dL_law_1090 rfl ?_
  refine go_iconst (q := 1093) dL_law_1092 rfl ?_
  refine go_icmp_ne2 (q := 1096) (t := 1128) dL_law_1093 (by decide) rfl (by omega) (fun _ => ?_) (fun z => absurd z (by decide))
  exact lk_st0 (q := 5) (by decide) hN hPb hTb h1b hC0 rfl
theorem lk_std (hN : NxL l D ck ad B ti K) (hP : PXW w W) (hX : LX w W) :
    gL_law l D ck ad shA B VT 890 [some (vR 2000), some (vR 0), some (vR 45), some (vR 46), some (vR 47), some (vI ti), some (vI xi), some (vI yi), some (vI ki), some (vI ni), some (vI fi), some (vI ai), some (vI bi), none, none, none, none, none, none, none, none] [] w K := by
  refine go_iload (j := 7) (q := 892) rfl dL_law_890 rfl ?_
  refine go_bipush (q := 894) rfl dL_law_892 rfl ?_
  refine go_callSi (as := [_, _]) (rest := []) (n := 2) (q := 897) dL_law_894 lk_L_29 rfl (by decide +kernel) rfl ⟨by decide, by decide⟩ ⟨rfl, rfl⟩ (Nat.le_of_ble_eq_true rfl) (el_low (by omega)) rfl (fun x894 w894 h894 => ?_)
  obtain ⟨h894, rfl⟩ := h894
  refine go_istore (j := 13) (q := 899) (ls2 := [_, _, _, _, _, _, _, _, _, _, _, _, _, _, _, _, _, _, _, _, _]) (by decide) rfl rfl dL_law_897 rfl ?_
  rcases (show x894 = 0 ∨ x894 = 1 ∨ x894 = 2 ∨ x894 = 3 ∨ x894 = 4 ∨ x894 = 5 by omega) with e | e | e | e | e | e <;> subst e
  · exact lk_st_0 hN hP hX
  · exact lk_st_1 hN hP hX
  · exact lk_st_2 hN hP hX
  · exact lk_st_3 hN hP hX
  · exact lk_st_4 hN hP hX
  · exact lk_st_5 hN hP hX
theorem lk_add0 {si : Int} (hN : NxL l D ck ad B ti K) (hP : PXW w W) (hX : LX w W) (hs : si = 1 ∨ si = -1) (ha : 0 ≤ ai ∧ ai < (wA W : Int)) (hb : 0 ≤ bi ∧ bi < (wA W : Int)) :
    gL_law l D ck ad shA B VT 1168 [some (vR 2000), some (vR 0), some (vR 45), some (vR 46), some (vR 47), some (vI ti), some (vI xi), some (vI yi), some (vI ki), some (vI ni), some (vI fi), some (vI ai), some (vI bi), some (vI si), none, none, none, none, none, none, none] [] w K := by
  have g1 : w 45 1 = (wA W : Int) := hX.2.1
  have g2 : w 45 2 = (wC W : Int) := hX.2.2.1
  have hB := LB_of hP
  have haw := hB.1
  have hc10 := hX.2.2.2.1
  refine go_iload (j := 7) (q := 1170) rfl dL_law_1168 rfl ?_
  refine go_iconst (q := 1171) dL_law_1170 rfl ?_
  refine go_ishr (q := 1172) dL_law_1171 rfl ?_
  refine go_aload_n (j := 2) (q := 1173) rfl rfl dL_law_1172 rfl ?_
  refine go_iconst (q := 1174) dL_law_1173 rfl ?_
  refine go_iald (j := 1) (q := 1175) (by first | assumption | rfl) (wr_eq (by omega)) (by omega) dL_law_1174 rfl ?_
  refine go_callSi (as := [_, _]) (rest := []) (n := 2) (q := 1178) dL_law_1175 lk_L_29 rfl (by decide +kernel) rfl ⟨by decide, by decide⟩ ⟨rfl, rfl⟩ (Nat.le_of_ble_eq_true rfl) (el_low (by omega)) rfl (fun x1175 w1175 h1175 => ?_)
  obtain ⟨h1175, rfl⟩ := h1175
  refine go_istore (j := 14) (q := 1180) (ls2 := [_, _, _, _, _, _, _, _, _, _, _, _, _, _, _, _, _, _, _, _, _]) (by decide) rfl rfl dL_law_1178 rfl ?_
  refine go_aload_n (j := 2) (q := 1181) rfl rfl dL_law_1180 rfl ?_
  refine go_iconst (q := 1182) dL_law_1181 rfl ?_
  refine go_iald (j := 2) (q := 1183) (by first | assumption | rfl) (wr_eq (by omega)) (by omega) dL_law_1182 rfl ?_
  refine go_bipush (q := 1185) rfl dL_law_1183 rfl ?_
  refine go_icmp_ge2 (q := 1188) (t := 1192) dL_law_1185 (by decide) rfl (by omega) (fun c1185 => ?_) (fun c1185 => ?_)
  · refine go_iconst (q := 1193) dL_law_1192 rfl ?_
    refine go_istore (j := 15) (q := 1195) (ls2 := [_, _, _, _, _, _, _, _, _, _, _, _, _, _, _, _, _, _, _, _, _]) (by decide) rfl rfl dL_law_1193 rfl ?_
    refine go_aload_n (j := 1) (q := 1196) rfl rfl dL_law_1195 rfl ?_
    refine go_iload (j := 14) (q := 1198) rfl dL_law_1196 rfl ?_
    refine go_iload (j := 11) (q := 1200) rfl dL_law_1198 rfl ?_
    refine go_iload (j := 12) (q := 1202) rfl dL_law_1200 rfl ?_
    refine go_iload (j := 13) (q := 1204) rfl dL_law_1202 rfl ?_
    refine go_callVi (as := [_, _, _, _, _]) (As := [_, _, _, _]) (rest := []) (n := 4) (q := 1207) dL_law_1204 lk_L_164 (ci := 6) (N := 7) (T := TX6) rfl (by first | assumption | rfl) rfl rfl (by decide +kernel) rfl ⟨by decide, by decide⟩ ⟨rfl, rfl⟩ (Nat.le_of_ble_eq_true rfl) (ex20 hP (by omega) (by omega) (by omega) (by omega)) rfl (fun x1204 w1204 h1204 => ?_)
    obtain ⟨e1204, hP1204, f1204⟩ := h1204
    have hX1204 := LX_same hX (fun c k h1 _ => f1204 c k h1)
    have g2b : w1204 45 2 = (wC W : Int) := hX1204.2.2.1
    refine go_iload (j := 15) (q := 1209) rfl dL_law_1207 rfl ?_
    first
    | (have hcan : wC W < 10 := by omega
       have eo : op20 W x1175 ai bi si = ((wC W : Int), psh W (dS W (wA W) (wC W + 1) (gap (wG W) (wC W) x1175.toNat ai.toNat bi.toNat) (sap (wS W) (wC W) si))) := by
         unfold op20; rw [cif_t (by omega), cif_t hs, cif_t hcan]
       rw [eo] at e1204 hP1204
       have e1204b : x1204 = (wC W : Int) := e1204)
    | (have hcan : ¬ wC W < 10 := by omega
       have eo : op20 W x1175 ai bi si = (-4, W) := by
         unfold op20; rw [cif_t (by omega), cif_t hs, cif_f hcan]
       rw [eo] at e1204 hP1204
       have e1204b : x1204 = -4 := e1204)
    refine go_if_eqT (t := 1218) dL_law_1209 (by decide) (by decide) ?_
    refine go_bipush (q := 1220) rfl dL_law_1218 rfl ?_
    refine go_icmp_eq2 (q := 1223) (t := 1225) dL_law_1220 (by decide) rfl (by omega) (fun c1220 => ?_) (fun c1220 => ?_)
    · refine go_iload (j := 15) (q := 1227) rfl dL_law_1225 rfl ?_
      refine go_if_eqT (t := 1244) dL_law_1227 (by decide) (by decide) ?_
      refine go_goto (q := 1576) dL_law_1244 (by decide) ?_
      first
      | exact hN _ _ _ _ _ _ _ _ _ _ _ _ _ _ _ w1241 (psh W (dS W (wA W) (wC W + 1) (gap (wG W) (wC W) x1175.toNat ai.toNat bi.toNat) (sap (wS W) (wC W) si))) (PXW_q hP1204 (fun c k h => f1241 c k (by omega) (by omega))) ⟨TB_copy hX1204.1 (u1241 0 (by decide)) (fun k _ => f1241 _ _ (by omega) (by omega)), (u1241 1 (by decide)).trans hX1204.2.1, hC1241⟩
      | exact hN _ _ _ _ _ _ _ _ _ _ _ _ _ _ _ w1204 W hP1204 hX1204
    · first
      | exact absurd (e1204b.trans g2b.symm) c1220
      | exact absurd e1204b c1220
  · refine go_iconst (q := 1189) dL_law_1188 rfl ?_
    refine go_goto (q := 1193) dL_law_1189 (by decide) ?_
    refine go_istore (j := 15) (q := 1195) (ls2 := [_, _, _, _, _, _, _, _, _, _, _, _, _, _, _, _, _, _, _, _, _]) (by decide) rfl rfl dL_law_1193 rfl ?_
    refine go_aload_n (j := 1) (q := 1196) rfl rfl dL_law_1195 rfl ?_
    refine go_iload (j := 14) (q := 1198) rfl dL_law_1196 rfl ?_
    refine go_iload (j := 11) (q := 1200) rfl dL_law_1198 rfl ?_
    refine go_iload (j := 12) (q := 1202) rfl dL_law_1200 rfl ?_
    refine go_iload (j := 13) (q := 1204) rfl dL_law_1202 rfl ?_
    refine go_callVi (as := [_, _, _, _, _]) (As := [_, _, _, _]) (rest := []) (n := 4) (q := 1207) dL_law_1204 lk_L_164 (ci := 6) (N := 7) (T := TX6) rfl (by first | assumption | rfl) rfl rfl (by decide +kernel) rfl ⟨by decide, by decide⟩ ⟨rfl, rfl⟩ (Nat.le_of_ble_eq_true rfl) (ex20 hP (by omega) (by omega) (by omega) (by omega)) rfl (fun x1204 w1204 h1204 => ?_)
    obtain ⟨e1204, hP1204, f1204⟩ := h1204
    have hX1204 := LX_same hX (fun c k h1 _ => f1204 c k h1)
    have g2b : w1204 45 2 = (wC W : Int) := hX1204.2.2.1
    refine go_iload (j := 15) (q := 1209) rfl dL_law_1207 rfl ?_
    first
    | (have hcan : wC W < 10 := by omega
       have eo : op20 W x1175 ai bi si = ((wC W : Int), psh W (dS W (wA W) (wC W + 1) (gap (wG W) (wC W) x1175.toNat ai.toNat bi.toNat) (sap (wS W) (wC W) si))) := by
         unfold op20; rw [cif_t (by omega), cif_t hs, cif_t hcan]
       rw [eo] at e1204 hP1204
       have e1204b : x1204 = (wC W : Int) := e1204)
    | (have hcan : ¬ wC W < 10 := by omega
       have eo : op20 W x1175 ai bi si = (-4, W) := by
         unfold op20; rw [cif_t (by omega), cif_t hs, cif_f hcan]
       rw [eo] at e1204 hP1204
       have e1204b : x1204 = -4 := e1204)
    refine go_if_eqF (q := 1212) (t := 1218) dL_law_1209 rfl (by decide) (by decide) ?_
    refine go_aload_n (j := 2) (q := 1213) rfl rfl dL_law_1212 rfl ?_
    refine go_iconst (q := 1214) dL_law_1213 rfl ?_
    refine go_iald (j := 2) (q := 1215) (by first | assumption | rfl) (wr_eq (by omega)) (by omega) dL_law_1214 rfl ?_
    refine go_goto (q := 1220) dL_law_1215 (by decide) ?_
    refine go_icmp_eq2 (q := 1223) (t := 1225) dL_law_1220 (by decide) rfl (by omega) (fun c1220 => ?_) (fun c1220 => ?_)
    · refine go_iload (j := 15) (q := 1227) rfl dL_law_1225 rfl ?_
      refine go_if_eqF (q := 1230) (t := 1244) dL_law_1227 rfl (by decide) (by decide) ?_
      refine go_iload (j := 14) (q := 1232) rfl dL_law_1230 rfl ?_
      refine go_iload (j := 11) (q := 1234) rfl dL_law_1232 rfl ?_
      refine go_iload (j := 12) (q := 1236) rfl dL_law_1234 rfl ?_
      refine go_iload (j := 13) (q := 1238) rfl dL_law_1236 rfl ?_
      refine go_aload_n (j := 2) (q := 1239) rfl rfl dL_law_1238 rfl ?_
      refine go_aload (j := 4) (q := 1241) rfl dL_law_1239 rfl ?_
      refine go_callSv (as := [_, _, _, _, _, _]) (rest := []) (n := 6) (q := 1244) dL_law_1241 lk_L_157 rfl (by decide +kernel) rfl ⟨by decide, by decide⟩ ⟨rfl, rfl⟩ (Nat.le_of_ble_eq_true rfl) (el_add (o := x1175.toNat) (i := ai.toNat) (u := bi.toNat) (by omega) (by omega) (by omega) hX1204.2.2 hcan) rfl (fun w1241 h1241 => ?_)
      obtain ⟨hC1241, u1241, f1241⟩ := h1241
      refine go_goto (q := 1576) dL_law_1244 (by decide) ?_
      first
      | exact hN _ _ _ _ _ _ _ _ _ _ _ _ _ _ _ w1241 (psh W (dS W (wA W) (wC W + 1) (gap (wG W) (wC W) x1175.toNat ai.toNat bi.toNat) (sap (wS W) (wC W) si))) (PXW_q hP1204 (fun c k h => f1241 c k (by omega) (by omega))) ⟨TB_copy hX1204.1 (u1241 0 (by decide)) (fun k _ => f1241 _ _ (by omega) (by omega)), (u1241 1 (by decide)).trans hX1204.2.1, hC1241⟩
      | exact hN _ _ _ _ _ _ _ _ _ _ _ _ _ _ _ w1204 W hP1204 hX1204
    · first
      | exact absurd (e1204b.trans g2b.symm) c1220
      | exact absurd e1204b c1220
theorem lk_add (hN : NxL l D ck ad B ti K) (hP : PXW w W) (hX : LX w W) (ha : 0 ≤ ai ∧ ai < (wA W : Int)) (hb : 0 ≤ bi ∧ bi < (wA W : Int)) :
    gL_law l D ck ad shA B VT 1152 [some (vR 2000), some (vR 0), some (vR 45), some (vR 46), some (vR 47), some (vI ti), some (vI xi), some (vI yi), some (vI ki), some (vI ni), some (vI fi), some (vI ai), some (vI bi), none, none, none, none, none, none, none, none] [] w K := by
  refine go_iload (j := 7) (q := 1154) rfl dL_law_1152 rfl ?_
  refine go_iconst (q := 1155) dL_law_1154 rfl ?_
  refine go_callSi (as := [_, _]) (rest := []) (n := 2) (q := 1158) dL_law_1155 lk_L_29 rfl (by decide +kernel) rfl ⟨by decide, by decide⟩ ⟨rfl, rfl⟩ (Nat.le_of_ble_eq_true rfl) (el_low (by omega)) rfl (fun x1155 w1155 h1155 => ?_)
  obtain ⟨h1155, rfl⟩ := h1155
  refine go_if_ne2 (q := 1161) (t := 1165) dL_law_1158 (by decide) rfl (by omega) (fun c1158 => ?_) (fun c1158 => ?_)
  · refine go_iconst (q := 1166) dL_law_1165 rfl ?_
    refine go_istore (j := 13) (q := 1168) (ls2 := [_, _, _, _, _, _, _, _, _, _, _, _, _, _, _, _, _, _, _, _, _]) (by decide) rfl rfl dL_law_1166 rfl ?_
    first
    | exact lk_add0 hN hP hX (Or.inl rfl) ha hb
    | exact lk_add0 hN hP hX (Or.inr rfl) ha hb
  · refine go_iconst (q := 1162) dL_law_1161 rfl ?_
    refine go_goto (q := 1166) dL_law_1162 (by decide) ?_
    refine go_istore (j := 13) (q := 1168) (ls2 := [_, _, _, _, _, _, _, _, _, _, _, _, _, _, _, _, _, _, _, _, _]) (by decide) rfl rfl dL_law_1166 rfl ?_
    first
    | exact lk_add0 hN hP hX (Or.inl rfl) ha hb
    | exact lk_add0 hN hP hX (Or.inr rfl) ha hb
theorem lk_rem1 {k : Nat} {vi : Int} (hN : NxL l D ck ad B ti K) (hP : PXW w W) (hX : LX w W) (hv : vi = (k : Int)) (hk : k < 10) (his : k < wC W) :
    gL_law l D ck ad shA B VT 1278 [some (vR 2000), some (vR 0), some (vR 45), some (vR 46), some (vR 47), some (vI ti), some (vI xi), some (vI yi), some (vI ki), some (vI ni), some (vI fi), some (vI ai), some (vI bi), some (vI vi), some (vI 1), none, none, none, none, none, none] [] w K := by
  have g2 : w 45 2 = (wC W : Int) := hX.2.2.1
  have hc10 := hX.2.2.2.1
  refine go_iconst (q := 1279) dL_law_1278 rfl ?_
  refine go_iload (j := 13) (q := 1281) rfl dL_law_1279 rfl ?_
  refine go_imul (q := 1282) dL_law_1281 rfl ?_
  refine go_istore (j := 15) (q := 1284) (ls2 := [_, _, _, _, _, _, _, _, _, _, _, _, _, _, _, _, _, _, _, _, _]) (by decide) rfl rfl dL_law_1282 rfl ?_
  have lp1284 : ∀ (m1284 : Nat) (i : Nat) (ii : Int) (w1 : Mem) (ei : ii = i) (hi : 4 * k ≤ i) (hi2 : i ≤ 4 * k ∨ i + 4 ≤ 4 * wC W) (f1 : ∀ c t, c ≠ 47 → w1 c t = w c t) (hd : ∀ t, w1 47 t = if 4 * k ≤ t ∧ t < i then w 47 (t + 4) else w 47 t), m1284 = 40 - i → gL_law l D ck ad shA B VT 1284 [some (vR 2000), some (vR 0), some (vR 45), some (vR 46), some (vR 47), some (vI ti), some (vI xi), some (vI yi), some (vI ki), some (vI ni), some (vI fi), some (vI ai), some (vI bi), some (vI vi), some (vI 1), some (vI ii), none, none, none, none, none] [] w1 K := by
    intro m1284
    induction m1284 using Nat.strongRecOn with
    | _ m1284 ih1284 =>
    intro i ii w1 ei hi hi2 f1 hd em1284
    have g2c : w1 45 2 = (wC W : Int) := by rw [f1 _ _ (by omega)]; exact g2
    refine go_iload (j := 15) (q := 1286) rfl dL_law_1284 rfl ?_
    refine go_iconst (q := 1287) dL_law_1286 rfl ?_
    refine go_aload_n (j := 2) (q := 1288) rfl rfl dL_law_1287 rfl ?_
    refine go_iconst (q := 1289) dL_law_1288 rfl ?_
    refine go_iald (j := 2) (q := 1290) (by first | assumption | rfl) (wr_eq (by omega)) (by omega) dL_law_1289 rfl ?_
    refine go_imul (q := 1291) dL_law_1290 rfl ?_
    refine go_iconst (q := 1292) dL_law_1291 rfl ?_
    refine go_isub (q := 1293) dL_law_1292 rfl ?_
    refine go_icmp_ge2 (q := 1296) (t := 1314) dL_law_1293 (by decide) rfl (by omega) (fun c1293 => ?_) (fun c1293 => ?_)
    · refine go_aload_n (j := 2) (q := 1315) rfl rfl dL_law_1314 rfl ?_
      refine go_iconst (q := 1316) dL_law_1315 rfl ?_
      refine go_dup2 (q := 1317) (fun _ z => by cases z) (fun _ z => by cases z) dL_law_1316 rfl ?_
      refine go_iald (j := 2) (q := 1318) (by first | assumption | rfl) (wr_eq (by omega)) (by omega) dL_law_1317 rfl ?_
      refine go_iload (j := 14) (q := 1320) rfl dL_law_1318 rfl ?_
      refine go_if_eqF (q := 1323) (t := 1327) dL_law_1320 rfl (by decide) (by decide) ?_
      refine go_iconst (q := 1324) dL_law_1323 rfl ?_
      refine go_goto (q := 1328) dL_law_1324 (by decide) ?_
      refine go_isub (q := 1329) dL_law_1328 rfl ?_
      refine go_iast (j := 2) (q := 1330) (by first | assumption | rfl) (wr_eq (by omega)) (by omega) dL_law_1329 rfl ?_
      have hP2 : PXW (mup w1 45 2 (w1 45 2 - 1)) W := PXW_q hP (fun c t h => by rw [mup_ne (by omega), f1 _ _ (by omega)])
      refine go_aload_n (j := 1) (q := 1331) rfl rfl dL_law_1330 rfl ?_
      refine go_iload (j := 13) (q := 1333) rfl dL_law_1331 rfl ?_
      refine go_callVi (as := [_, _]) (As := [_]) (rest := []) (n := 1) (q := 1336) dL_law_1333 lk_L_168 (ci := 6) (N := 7) (T := TX6) rfl (by first | assumption | rfl) rfl rfl (by decide +kernel) rfl ⟨by decide, by decide⟩ ⟨rfl, rfl⟩ (Nat.le_of_ble_eq_true rfl) (ex21 hP2 (by omega)) rfl (fun x1333 w1333 h1333 => ?_)
      obtain ⟨e1333, hP1333, f1333⟩ := h1333
      have eo : op21 W vi = (((wC W - 1 : Nat) : Int), psh W (dS W (wA W) (wC W - 1) (grm (wG W) k) (srm (wS W) k))) := by unfold op21; rw [cif_t (by omega), show vi.toNat = k by omega]
      rw [eo] at e1333 hP1333
      have e1333b : x1333 = ((wC W - 1 : Nat) : Int) := e1333
      have g2d : w1333 45 2 = ((wC W - 1 : Nat) : Int) := by rw [f1333 _ _ (by omega), mup_eq, g2c]; omega
      refine go_iload (j := 14) (q := 1338) rfl dL_law_1336 rfl ?_
      refine go_if_eqF (q := 1341) (t := 1347) dL_law_1338 rfl (by decide) (by decide) ?_
      refine go_aload_n (j := 2) (q := 1342) rfl rfl dL_law_1341 rfl ?_
      refine go_iconst (q := 1343) dL_law_1342 rfl ?_
      refine go_iald (j := 2) (q := 1344) (by first | assumption | rfl) (wr_eq (by omega)) (by omega) dL_law_1343 rfl ?_
      refine go_goto (q := 1348) dL_law_1344 (by decide) ?_
      refine go_icmp_eq2 (q := 1351) (t := 1353) dL_law_1348 (by decide) rfl (by omega) (fun c1348 => ?_) (fun c1348 => ?_)
      · refine go_goto (q := 1576) dL_law_1353 (by decide) ?_
        refine hN _ _ _ _ _ _ _ _ _ _ _ _ _ _ _ w1333 (psh W (dS W (wA W) (wC W - 1) (grm (wG W) k) (srm (wS W) k))) hP1333 ⟨TB_copy hX.1 (by rw [f1333 _ _ (by omega), mup_ne (by omega), f1 _ _ (by omega)]) (fun t _ => by rw [f1333 _ _ (by omega), mup_ne (by omega), f1 _ _ (by omega)]), by rw [f1333 _ _ (by omega), mup_ne (by omega), f1 _ _ (by omega)]; exact hX.2.1, ⟨g2d, by show wC W - 1 ≤ 10; omega, fun j hj => ?_⟩⟩
        change j < wC W - 1 at hj
        have e47 : ∀ t, w1333 47 t = if 4 * k ≤ t ∧ t < i then w 47 (t + 4) else w 47 t := fun t => by rw [f1333 _ _ (by omega), mup_ne (by omega)]; exact hd t
        show w1333 47 (4 * j) = (grm (wG W) k j 0 : Int) ∧ w1333 47 (4 * j + 1) = (grm (wG W) k j 1 : Int) ∧ w1333 47 (4 * j + 2) = (grm (wG W) k j 2 : Int) ∧ w1333 47 (4 * j + 3) = srm (wS W) k j
        by_cases q : j < k
        · have e : ∀ p, p < 4 → w1333 47 (4 * j + p) = w 47 (4 * j + p) := fun p hp => by rw [e47, if_neg (by omega)]
          obtain ⟨z0, z1, z2, z3⟩ := hX.2.2.2.2 j (by omega)
          rw [show 4 * j = 4 * j + 0 from rfl, e 0 (by omega), e 1 (by omega), e 2 (by omega), e 3 (by omega)]
          simp only [grm, srm, q, if_true]
          exact ⟨z0, z1, z2, z3⟩
        · have e : ∀ p, p < 4 → w1333 47 (4 * j + p) = w 47 (4 * (j + 1) + p) := fun p hp => by rw [e47, if_pos (by omega)]; congr 1; omega
          obtain ⟨z0, z1, z2, z3⟩ := hX.2.2.2.2 (j + 1) (by omega)
          rw [show 4 * j = 4 * j + 0 from rfl, e 0 (by omega), e 1 (by omega), e 2 (by omega), e 3 (by omega)]
          simp only [grm, srm, q, if_false]
          exact ⟨z0, z1, z2, z3⟩
      · exact absurd (e1333b.trans g2d.symm) c1348
    · refine go_aload (j := 4) (q := 1298) rfl dL_law_1296 rfl ?_
      refine go_iload (j := 15) (q := 1300) rfl dL_law_1298 rfl ?_
      refine go_aload (j := 4) (q := 1302) rfl dL_law_1300 rfl ?_
      refine go_iload (j := 15) (q := 1304) rfl dL_law_1302 rfl ?_
      refine go_iconst (q := 1305) dL_law_1304 rfl ?_
      refine go_iadd (q := 1306) dL_law_1305 rfl ?_
      refine go_iald (j := i + 4) (q := 1307) (by first | assumption | rfl) (wr_eq (by omega)) (by omega) dL_law_1306 rfl ?_
      rw [hd (i + 4), if_neg (by omega)]
      refine go_iast (j := i) (q := 1308) (by first | assumption | rfl) (wr_eq (by omega)) (by omega) dL_law_1307 rfl ?_
      refine go_iinc (j := 15) (q := 1311) (ls2 := [_, _, _, _, _, _, _, _, _, _, _, _, _, _, _, _, _, _, _, _, _]) rfl (by decide) rfl rfl dL_law_1308 rfl ?_
      refine go_goto (q := 1284) dL_law_1311 (by decide) ?_
      exact ih1284 _ (by omega) (i + 1) _ _ (by omega) (by omega) (by omega) (fun c t h => by rw [mup_ne (Or.inl h)]; exact f1 c t h) (by
        intro t
        by_cases q : t = i
        · rw [q, mup_eq, if_pos (by omega)]
        · rw [mup_ne (by omega), hd t]
          by_cases q2 : 4 * k ≤ t ∧ t < i
          · rw [if_pos q2, if_pos (by omega)]
          · rw [if_neg q2, if_neg (by omega)]) rfl
  exact lp1284 _ (4 * k) _ _ (by omega) (by omega) (by omega) (fun c t _ => rfl) (fun t => by rw [if_neg (by omega)]) rfl
theorem lk_rem0 {k : Nat} {vi : Int} (hN : NxL l D ck ad B ti K) (hP : PXW w W) (hX : LX w W) (hv : vi = (k : Int)) (hk : k < 10) (his : ¬ k < wC W) :
    gL_law l D ck ad shA B VT 1278 [some (vR 2000), some (vR 0), some (vR 45), some (vR 46), some (vR 47), some (vI ti), some (vI xi), some (vI yi), some (vI ki), some (vI ni), some (vI fi), some (vI ai), some (vI bi), some (vI vi), some (vI 0), none, none, none, none, none, none] [] w K := by
  have g2 : w 45 2 = (wC W : Int) := hX.2.2.1
  have hc10 := hX.2.2.2.1
  refine go_iconst (q := 1279) dL_law_1278 rfl ?_
  refine go_iload (j := 13) (q := 1281) rfl dL_law_1279 rfl ?_
  refine go_imul (q := 1282) dL_law_1281 rfl ?_
  refine go_istore (j := 15) (q := 1284) (ls2 := [_, _, _, _, _, _, _, _, _, _, _, _, _, _, _, _, _, _, _, _, _]) (by decide) rfl rfl dL_law_1282 rfl ?_
  have lp1284 : ∀ (m1284 : Nat) (i : Nat) (ii : Int) (w1 : Mem) (ei : ii = i) (hi : 4 * k ≤ i) (hi2 : i ≤ 4 * k ∨ i + 4 ≤ 4 * wC W) (f1 : ∀ c t, c ≠ 47 → w1 c t = w c t) (hd : ∀ t, w1 47 t = if 4 * k ≤ t ∧ t < i then w 47 (t + 4) else w 47 t), m1284 = 40 - i → gL_law l D ck ad shA B VT 1284 [some (vR 2000), some (vR 0), some (vR 45), some (vR 46), some (vR 47), some (vI ti), some (vI xi), some (vI yi), some (vI ki), some (vI ni), some (vI fi), some (vI ai), some (vI bi), some (vI vi), some (vI 0), some (vI ii), none, none, none, none, none] [] w1 K := by
    intro m1284
    induction m1284 using Nat.strongRecOn with
    | _ m1284 ih1284 =>
    intro i ii w1 ei hi hi2 f1 hd em1284
    have g2c : w1 45 2 = (wC W : Int) := by rw [f1 _ _ (by omega)]; exact g2
    refine go_iload (j := 15) (q := 1286) rfl dL_law_1284 rfl ?_
    refine go_iconst (q := 1287) dL_law_1286 rfl ?_
    refine go_aload_n (j := 2) (q := 1288) rfl rfl dL_law_1287 rfl ?_
    refine go_iconst (q := 1289) dL_law_1288 rfl ?_
    refine go_iald (j := 2) (q := 1290) (by first | assumption | rfl) (wr_eq (by omega)) (by omega) dL_law_1289 rfl ?_
    refine go_imul (q := 1291) dL_law_1290 rfl ?_
    refine go_iconst (q := 1292) dL_law_1291 rfl ?_
    refine go_isub (q := 1293) dL_law_1292 rfl ?_
    refine go_icmp_ge2 (q := 1296) (t := 1314) dL_law_1293 (by decide) rfl (by omega) (fun c1293 => ?_) (fun c1293 => ?_)
    · refine go_aload_n (j := 2) (q := 1315) rfl rfl dL_law_1314 rfl ?_
      refine go_iconst (q := 1316) dL_law_1315 rfl ?_
      refine go_dup2 (q := 1317) (fun _ z => by cases z) (fun _ z => by cases z) dL_law_1316 rfl ?_
      refine go_iald (j := 2) (q := 1318) (by first | assumption | rfl) (wr_eq (by omega)) (by omega) dL_law_1317 rfl ?_
      refine go_iload (j := 14) (q := 1320) rfl dL_law_1318 rfl ?_
      refine go_if_eqT (t := 1327) dL_law_1320 (by decide) (by decide) ?_
      refine go_iconst (q := 1328) dL_law_1327 rfl ?_
      refine go_isub (q := 1329) dL_law_1328 rfl ?_
      refine go_iast (j := 2) (q := 1330) (by first | assumption | rfl) (wr_eq (by omega)) (by omega) dL_law_1329 rfl ?_
      have hP2 : PXW (mup w1 45 2 (w1 45 2 - 0)) W := PXW_q hP (fun c t h => by rw [mup_ne (by omega), f1 _ _ (by omega)])
      refine go_aload_n (j := 1) (q := 1331) rfl rfl dL_law_1330 rfl ?_
      refine go_iload (j := 13) (q := 1333) rfl dL_law_1331 rfl ?_
      refine go_callVi (as := [_, _]) (As := [_]) (rest := []) (n := 1) (q := 1336) dL_law_1333 lk_L_168 (ci := 6) (N := 7) (T := TX6) rfl (by first | assumption | rfl) rfl rfl (by decide +kernel) rfl ⟨by decide, by decide⟩ ⟨rfl, rfl⟩ (Nat.le_of_ble_eq_true rfl) (ex21 hP2 (by omega)) rfl (fun x1333 w1333 h1333 => ?_)
      obtain ⟨e1333, hP1333, f1333⟩ := h1333
      have eo : op21 W vi = (-1, W) := by unfold op21; rw [cif_f (by omega)]
      rw [eo] at e1333 hP1333
      have e1333b : x1333 = -1 := e1333
      refine go_iload (j := 14) (q := 1338) rfl dL_law_1336 rfl ?_
      refine go_if_eqT (t := 1347) dL_law_1338 (by decide) (by decide) ?_
      refine go_iconst (q := 1348) dL_law_1347 rfl ?_
      refine go_icmp_eq2 (q := 1351) (t := 1353) dL_law_1348 (by decide) rfl (by omega) (fun c1348 => ?_) (fun c1348 => ?_)
      · refine go_goto (q := 1576) dL_law_1353 (by decide) ?_
        have ei4 : i ≤ 4 * k := by omega
        have e47 : ∀ t, w1333 47 t = w 47 t := fun t => by rw [f1333 _ _ (by omega), mup_ne (by omega), hd t, if_neg (by omega)]
        refine hN _ _ _ _ _ _ _ _ _ _ _ _ _ _ _ w1333 W hP1333 ⟨TB_copy hX.1 (by rw [f1333 _ _ (by omega), mup_ne (by omega), f1 _ _ (by omega)]) (fun t _ => by rw [f1333 _ _ (by omega), mup_ne (by omega), f1 _ _ (by omega)]), by rw [f1333 _ _ (by omega), mup_ne (by omega), f1 _ _ (by omega)]; exact hX.2.1, LC_same hX.2.2 (by rw [f1333 _ _ (by omega), mup_eq, f1 _ _ (by omega)]; omega) e47⟩
      · exact absurd e1333b c1348
    · refine go_aload (j := 4) (q := 1298) rfl dL_law_1296 rfl ?_
      refine go_iload (j := 15) (q := 1300) rfl dL_law_1298 rfl ?_
      refine go_aload (j := 4) (q := 1302) rfl dL_law_1300 rfl ?_
      refine go_iload (j := 15) (q := 1304) rfl dL_law_1302 rfl ?_
      refine go_iconst (q := 1305) dL_law_1304 rfl ?_
      refine go_iadd (q := 1306) dL_law_1305 rfl ?_
      refine go_iald (j := i + 4) (q := 1307) (by first | assumption | rfl) (wr_eq (by omega)) (by omega) dL_law_1306 rfl ?_
      rw [hd (i + 4), if_neg (by omega)]
      refine go_iast (j := i) (q := 1308) (by first | assumption | rfl) (wr_eq (by omega)) (by omega) dL_law_1307 rfl ?_
      refine go_iinc (j := 15) (q := 1311) (ls2 := [_, _, _, _, _, _, _, _, _, _, _, _, _, _, _, _, _, _, _, _, _]) rfl (by decide) rfl rfl dL_law_1308 rfl ?_
      refine go_goto (q := 1284) dL_law_1311 (by decide) ?_
      exact ih1284 _ (by omega) (i + 1) _ _ (by omega) (by omega) (by omega) (fun c t h => by rw [mup_ne (Or.inl h)]; exact f1 c t h) (by
        intro t
        by_cases q : t = i
        · rw [q, mup_eq, if_pos (by omega)]
        · rw [mup_ne (by omega), hd t]
          by_cases q2 : 4 * k ≤ t ∧ t < i
          · rw [if_pos q2, if_pos (by omega)]
          · rw [if_neg q2, if_neg (by omega)]) rfl
  exact lp1284 _ (4 * k) _ _ (by omega) (by omega) (by omega) (fun c t _ => rfl) (fun t => by rw [if_neg (by omega)]) rfl
theorem lk_rem (hN : NxL l D ck ad B ti K) (hP : PXW w W) (hX : LX w W) :
    gL_law l D ck ad shA B VT 1254 [some (vR 2000), some (vR 0), some (vR 45), some (vR 46), some (vR 47), some (vI ti), some (vI xi), some (vI yi), some (vI ki), some (vI ni), some (vI fi), some (vI ai), some (vI bi), none, none, none, none, none, none, none, none] [] w K := by
  have g2 : w 45 2 = (wC W : Int) := hX.2.2.1
  have hc10 := hX.2.2.2.1
  refine go_iload (j := 7) (q := 1256) rfl dL_law_1254 rfl ?_
  refine go_bipush (q := 1258) rfl dL_law_1256 rfl ?_
  refine go_callSi (as := [_, _]) (rest := []) (n := 2) (q := 1261) dL_law_1258 lk_L_29 rfl (by decide +kernel) rfl ⟨by decide, by decide⟩ ⟨rfl, rfl⟩ (Nat.le_of_ble_eq_true rfl) (el_low (by omega)) rfl (fun x1258 w1258 h1258 => ?_)
  obtain ⟨h1258, rfl⟩ := h1258
  refine go_istore (j := 13) (q := 1263) (ls2 := [_, _, _, _, _, _, _, _, _, _, _, _, _, _, _, _, _, _, _, _, _]) (by decide) rfl rfl dL_law_1261 rfl ?_
  refine go_iload (j := 13) (q := 1265) rfl dL_law_1263 rfl ?_
  refine go_aload_n (j := 2) (q := 1266) rfl rfl dL_law_1265 rfl ?_
  refine go_iconst (q := 1267) dL_law_1266 rfl ?_
  refine go_iald (j := 2) (q := 1268) (by first | assumption | rfl) (wr_eq (by omega)) (by omega) dL_law_1267 rfl ?_
  refine go_icmp_ge2 (q := 1271) (t := 1275) dL_law_1268 (by decide) rfl (by omega) (fun c1268 => ?_) (fun c1268 => ?_)
  · refine go_iconst (q := 1276) dL_law_1275 rfl ?_
    refine go_istore (j := 14) (q := 1278) (ls2 := [_, _, _, _, _, _, _, _, _, _, _, _, _, _, _, _, _, _, _, _, _]) (by decide) rfl rfl dL_law_1276 rfl ?_
    first
    | exact lk_rem1 (k := x1258.toNat) hN hP hX (by omega) (by omega) (by omega)
    | exact lk_rem0 (k := x1258.toNat) hN hP hX (by omega) (by omega) (by omega)
  · refine go_iconst (q := 1272) dL_law_1271 rfl ?_
    refine go_goto (q := 1276) dL_law_1272 (by decide) ?_
    refine go_istore (j := 14) (q := 1278) (ls2 := [_, _, _, _, _, _, _, _, _, _, _, _, _, _, _, _, _, _, _, _, _]) (by decide) rfl rfl dL_law_1276 rfl ?_
    first
    | exact lk_rem1 (k := x1258.toNat) hN hP hX (by omega) (by omega) (by omega)
    | exact lk_rem0 (k := x1258.toNat) hN hP hX (by omega) (by omega) (by omega)
theorem lk_kink0 {si : Int} (hN : NxL l D ck ad B ti K) (hP : PXW w W) (hX : LX w W) (hs : si = 1 ∨ si = -1) (ha : 0 ≤ ai ∧ ai < (wA W : Int)) :
    gL_law l D ck ad shA B VT 1379 [some (vR 2000), some (vR 0), some (vR 45), some (vR 46), some (vR 47), some (vI ti), some (vI xi), some (vI yi), some (vI ki), some (vI ni), some (vI fi), some (vI ai), some (vI bi), some (vI si), none, none, none, none, none, none, none] [] w K := by
  have g1 : w 45 1 = (wA W : Int) := hX.2.1
  have g2 : w 45 2 = (wC W : Int) := hX.2.2.1
  have hB := LB_of hP
  have haw := hB.1
  have hc10 := hX.2.2.2.1
  refine go_aload_n (j := 2) (q := 1380) rfl rfl dL_law_1379 rfl ?_
  refine go_iconst (q := 1381) dL_law_1380 rfl ?_
  refine go_iald (j := 1) (q := 1382) (by first | assumption | rfl) (wr_eq (by omega)) (by omega) dL_law_1381 rfl ?_
  refine go_bipush (q := 1384) rfl dL_law_1382 rfl ?_
  refine go_icmp_ge2 (q := 1387) (t := 1399) dL_law_1384 (by decide) rfl (by omega) (fun c1384 => ?_) (fun c1384 => ?_)
  · refine go_iconst (q := 1400) dL_law_1399 rfl ?_
    refine go_istore (j := 14) (q := 1402) (ls2 := [_, _, _, _, _, _, _, _, _, _, _, _, _, _, _, _, _, _, _, _, _]) (by decide) rfl rfl dL_law_1400 rfl ?_
    refine go_aload_n (j := 1) (q := 1403) rfl rfl dL_law_1402 rfl ?_
    refine go_iload (j := 11) (q := 1405) rfl dL_law_1403 rfl ?_
    refine go_iload (j := 13) (q := 1407) rfl dL_law_1405 rfl ?_
    refine go_callVi (as := [_, _, _]) (As := [_, _]) (rest := []) (n := 2) (q := 1410) dL_law_1407 lk_L_171 (ci := 6) (N := 7) (T := TX6) rfl (by first | assumption | rfl) rfl rfl (by decide +kernel) rfl ⟨by decide, by decide⟩ ⟨rfl, rfl⟩ (Nat.le_of_ble_eq_true rfl) (ex22 hP (by omega) (by omega)) rfl (fun x1407 w1407 h1407 => ?_)
    obtain ⟨e1407, hP1407, f1407⟩ := h1407
    have hX1407 := LX_same hX (fun c k h1 _ => f1407 c k h1)
    have g1b : w1407 45 1 = (wA W : Int) := hX1407.2.1
    refine go_iload (j := 14) (q := 1412) rfl dL_law_1410 rfl ?_
    first
    | (have hcan : wA W < 7 ∧ wC W < 10 := by omega
       have eo : op22 W ai si = ((wA W : Int), psh W (dS W (wA W + 1) (wC W + 1) (gap (gmv (wG W) ai.toNat (wA W)) (wC W) ai.toNat ai.toNat (wA W)) (sap (wS W) (wC W) si))) := by
         unfold op22; rw [cif_t (by omega), cif_t hs, cif_t hcan]
       rw [eo] at e1407 hP1407
       have e1407b : x1407 = (wA W : Int) := e1407)
    | (have hcan : ¬ (wA W < 7 ∧ wC W < 10) := by omega
       have eo : op22 W ai si = (-4, W) := by
         unfold op22; rw [cif_t (by omega), cif_t hs, cif_f hcan]
       rw [eo] at e1407 hP1407
       have e1407b : x1407 = -4 := e1407)
    refine go_if_eqT (t := 1421) dL_law_1412 (by decide) (by decide) ?_
    refine go_bipush (q := 1423) rfl dL_law_1421 rfl ?_
    refine go_icmp_eq2 (q := 1426) (t := 1428) dL_law_1423 (by decide) rfl (by omega) (fun c1423 => ?_) (fun c1423 => ?_)
    · refine go_iload (j := 14) (q := 1430) rfl dL_law_1428 rfl ?_
      refine go_if_eqT (t := 1466) dL_law_1430 (by decide) (by decide) ?_
      refine go_goto (q := 1576) dL_law_1466 (by decide) ?_
      first
      | exact hN _ _ _ _ _ _ _ _ _ _ _ _ _ _ _ (mup w1456 45 1 (w1456 45 1 + 1)) (psh W (dS W (wA W + 1) (wC W + 1) (gap (gmv (wG W) ai.toNat (wA W)) (wC W) ai.toNat ai.toNat (wA W)) (sap (wS W) (wC W) si))) (PXW_q hP1407 (fun c k h => by rw [mup_ne (by omega), f1456 c k (by omega) (by omega), f1441 c k (by omega)])) ⟨TB_copy hX1407.1 (by rw [mup_ne (by omega), u1456 0 (by decide), f1441 _ _ (by omega)]) (fun k _ => by rw [mup_ne (by omega), f1456 _ _ (by omega) (by omega), f1441 _ _ (by omega)]), by rw [mup_eq, g1d]; show ((wA W : Nat) : Int) + 1 = ((wA W + 1 : Nat) : Int); omega, LC_same hC1456 (mup_ne (by omega)) (fun k => mup_ne (by omega))⟩
      | exact hN _ _ _ _ _ _ _ _ _ _ _ _ _ _ _ w1407 W hP1407 hX1407
    · first
      | exact absurd (e1407b.trans g1b.symm) c1423
      | exact absurd e1407b c1423
  · refine go_aload_n (j := 2) (q := 1388) rfl rfl dL_law_1387 rfl ?_
    refine go_iconst (q := 1389) dL_law_1388 rfl ?_
    refine go_iald (j := 2) (q := 1390) (by first | assumption | rfl) (wr_eq (by omega)) (by omega) dL_law_1389 rfl ?_
    refine go_bipush (q := 1392) rfl dL_law_1390 rfl ?_
    refine go_icmp_ge2 (q := 1395) (t := 1399) dL_law_1392 (by decide) rfl (by omega) (fun c1392 => ?_) (fun c1392 => ?_)
    · refine go_iconst (q := 1400) dL_law_1399 rfl ?_
      refine go_istore (j := 14) (q := 1402) (ls2 := [_, _, _, _, _, _, _, _, _, _, _, _, _, _, _, _, _, _, _, _, _]) (by decide) rfl rfl dL_law_1400 rfl ?_
      refine go_aload_n (j := 1) (q := 1403) rfl rfl dL_law_1402 rfl ?_
      refine go_iload (j := 11) (q := 1405) rfl dL_law_1403 rfl ?_
      refine go_iload (j := 13) (q := 1407) rfl dL_law_1405 rfl ?_
      refine go_callVi (as := [_, _, _]) (As := [_, _]) (rest := []) (n := 2) (q := 1410) dL_law_1407 lk_L_171 (ci := 6) (N := 7) (T := TX6) rfl (by first | assumption | rfl) rfl rfl (by decide +kernel) rfl ⟨by decide, by decide⟩ ⟨rfl, rfl⟩ (Nat.le_of_ble_eq_true rfl) (ex22 hP (by omega) (by omega)) rfl (fun x1407 w1407 h1407 => ?_)
      obtain ⟨e1407, hP1407, f1407⟩ := h1407
      have hX1407 := LX_same hX (fun c k h1 _ => f1407 c k h1)
      have g1b : w1407 45 1 = (wA W : Int) := hX1407.2.1
      refine go_iload (j := 14) (q := 1412) rfl dL_law_1410 rfl ?_
      first
      | (have hcan : wA W < 7 ∧ wC W < 10 := by omega
         have eo : op22 W ai si = ((wA W : Int), psh W (dS W (wA W + 1) (wC W + 1) (gap (gmv (wG W) ai.toNat (wA W)) (wC W) ai.toNat ai.toNat (wA W)) (sap (wS W) (wC W) si))) := by
           unfold op22; rw [cif_t (by omega), cif_t hs, cif_t hcan]
         rw [eo] at e1407 hP1407
         have e1407b : x1407 = (wA W : Int) := e1407)
      | (have hcan : ¬ (wA W < 7 ∧ wC W < 10) := by omega
         have eo : op22 W ai si = (-4, W) := by
           unfold op22; rw [cif_t (by omega), cif_t hs, cif_f hcan]
         rw [eo] at e1407 hP1407
         have e1407b : x1407 = -4 := e1407)
      refine go_if_eqT (t := 1421) dL_law_1412 (by decide) (by decide) ?_
      refine go_bipush (q := 1423) rfl dL_law_1421 rfl ?_
      refine go_icmp_eq2 (q := 1426) (t := 1428) dL_law_1423 (by decide) rfl (by omega) (fun c1423 => ?_) (fun c1423 => ?_)
      · refine go_iload (j := 14) (q := 1430) rfl dL_law_1428 rfl ?_
        refine go_if_eqT (t := 1466) dL_law_1430 (by decide) (by decide) ?_
        refine go_goto (q := 1576) dL_law_1466 (by decide) ?_
        first
        | exact hN _ _ _ _ _ _ _ _ _ _ _ _ _ _ _ (mup w1456 45 1 (w1456 45 1 + 1)) (psh W (dS W (wA W + 1) (wC W + 1) (gap (gmv (wG W) ai.toNat (wA W)) (wC W) ai.toNat ai.toNat (wA W)) (sap (wS W) (wC W) si))) (PXW_q hP1407 (fun c k h => by rw [mup_ne (by omega), f1456 c k (by omega) (by omega), f1441 c k (by omega)])) ⟨TB_copy hX1407.1 (by rw [mup_ne (by omega), u1456 0 (by decide), f1441 _ _ (by omega)]) (fun k _ => by rw [mup_ne (by omega), f1456 _ _ (by omega) (by omega), f1441 _ _ (by omega)]), by rw [mup_eq, g1d]; show ((wA W : Nat) : Int) + 1 = ((wA W + 1 : Nat) : Int); omega, LC_same hC1456 (mup_ne (by omega)) (fun k => mup_ne (by omega))⟩
        | exact hN _ _ _ _ _ _ _ _ _ _ _ _ _ _ _ w1407 W hP1407 hX1407
      · first
        | exact absurd (e1407b.trans g1b.symm) c1423
        | exact absurd e1407b c1423
    · refine go_iconst (q := 1396) dL_law_1395 rfl ?_
      refine go_goto (q := 1400) dL_law_1396 (by decide) ?_
      refine go_istore (j := 14) (q := 1402) (ls2 := [_, _, _, _, _, _, _, _, _, _, _, _, _, _, _, _, _, _, _, _, _]) (by decide) rfl rfl dL_law_1400 rfl ?_
      refine go_aload_n (j := 1) (q := 1403) rfl rfl dL_law_1402 rfl ?_
      refine go_iload (j := 11) (q := 1405) rfl dL_law_1403 rfl ?_
      refine go_iload (j := 13) (q := 1407) rfl dL_law_1405 rfl ?_
      refine go_callVi (as := [_, _, _]) (As := [_, _]) (rest := []) (n := 2) (q := 1410) dL_law_1407 lk_L_171 (ci := 6) (N := 7) (T := TX6) rfl (by first | assumption | rfl) rfl rfl (by decide +kernel) rfl ⟨by decide, by decide⟩ ⟨rfl, rfl⟩ (Nat.le_of_ble_eq_true rfl) (ex22 hP (by omega) (by omega)) rfl (fun x1407 w1407 h1407 => ?_)
      obtain ⟨e1407, hP1407, f1407⟩ := h1407
      have hX1407 := LX_same hX (fun c k h1 _ => f1407 c k h1)
      have g1b : w1407 45 1 = (wA W : Int) := hX1407.2.1
      refine go_iload (j := 14) (q := 1412) rfl dL_law_1410 rfl ?_
      first
      | (have hcan : wA W < 7 ∧ wC W < 10 := by omega
         have eo : op22 W ai si = ((wA W : Int), psh W (dS W (wA W + 1) (wC W + 1) (gap (gmv (wG W) ai.toNat (wA W)) (wC W) ai.toNat ai.toNat (wA W)) (sap (wS W) (wC W) si))) := by
           unfold op22; rw [cif_t (by omega), cif_t hs, cif_t hcan]
         rw [eo] at e1407 hP1407
         have e1407b : x1407 = (wA W : Int) := e1407)
      | (have hcan : ¬ (wA W < 7 ∧ wC W < 10) := by omega
         have eo : op22 W ai si = (-4, W) := by
           unfold op22; rw [cif_t (by omega), cif_t hs, cif_f hcan]
         rw [eo] at e1407 hP1407
         have e1407b : x1407 = -4 := e1407)
      refine go_if_eqF (q := 1415) (t := 1421) dL_law_1412 rfl (by decide) (by decide) ?_
      refine go_aload_n (j := 2) (q := 1416) rfl rfl dL_law_1415 rfl ?_
      refine go_iconst (q := 1417) dL_law_1416 rfl ?_
      refine go_iald (j := 1) (q := 1418) (by first | assumption | rfl) (wr_eq (by omega)) (by omega) dL_law_1417 rfl ?_
      refine go_goto (q := 1423) dL_law_1418 (by decide) ?_
      refine go_icmp_eq2 (q := 1426) (t := 1428) dL_law_1423 (by decide) rfl (by omega) (fun c1423 => ?_) (fun c1423 => ?_)
      · refine go_iload (j := 14) (q := 1430) rfl dL_law_1428 rfl ?_
        refine go_if_eqF (q := 1433) (t := 1466) dL_law_1430 rfl (by decide) (by decide) ?_
        refine go_iload (j := 11) (q := 1435) rfl dL_law_1433 rfl ?_
        refine go_aload_n (j := 2) (q := 1436) rfl rfl dL_law_1435 rfl ?_
        refine go_iconst (q := 1437) dL_law_1436 rfl ?_
        refine go_iald (j := 1) (q := 1438) (by first | assumption | rfl) (wr_eq (by omega)) (by omega) dL_law_1437 rfl ?_
        refine go_aload_n (j := 2) (q := 1439) rfl rfl dL_law_1438 rfl ?_
        refine go_aload (j := 4) (q := 1441) rfl dL_law_1439 rfl ?_
        refine go_callSv (as := [_, _, _, _]) (rest := []) (n := 4) (q := 1444) dL_law_1441 lk_L_174 rfl (by decide +kernel) rfl ⟨by decide, by decide⟩ ⟨rfl, rfl⟩ (Nat.le_of_ble_eq_true rfl) (el_moved (x := ai.toNat) (y := wA W) (by omega) g1b (by omega) hX1407.2.2 (fun k hk => by have := (hB.2 k hk).1; omega)) rfl (fun w1441 h1441 => ?_)
        obtain ⟨hC1441, f1441⟩ := h1441
        have g1c : w1441 45 1 = (wA W : Int) := by rw [f1441 _ _ (by omega)]; exact g1b
        refine go_iload (j := 11) (q := 1446) rfl dL_law_1444 rfl ?_
        refine go_iload (j := 11) (q := 1448) rfl dL_law_1446 rfl ?_
        refine go_aload_n (j := 2) (q := 1449) rfl rfl dL_law_1448 rfl ?_
        refine go_iconst (q := 1450) dL_law_1449 rfl ?_
        refine go_iald (j := 1) (q := 1451) (by first | assumption | rfl) (wr_eq (by omega)) (by omega) dL_law_1450 rfl ?_
        refine go_iload (j := 13) (q := 1453) rfl dL_law_1451 rfl ?_
        refine go_aload_n (j := 2) (q := 1454) rfl rfl dL_law_1453 rfl ?_
        refine go_aload (j := 4) (q := 1456) rfl dL_law_1454 rfl ?_
        refine go_callSv (as := [_, _, _, _, _, _]) (rest := []) (n := 6) (q := 1459) dL_law_1456 lk_L_157 rfl (by decide +kernel) rfl ⟨by decide, by decide⟩ ⟨rfl, rfl⟩ (Nat.le_of_ble_eq_true rfl) (el_add (o := ai.toNat) (i := ai.toNat) (u := wA W) (by omega) (by omega) g1c hC1441 hcan.2) rfl (fun w1456 h1456 => ?_)
        obtain ⟨hC1456, u1456, f1456⟩ := h1456
        have g1d : w1456 45 1 = (wA W : Int) := (u1456 1 (by decide)).trans g1c
        refine go_aload_n (j := 2) (q := 1460) rfl rfl dL_law_1459 rfl ?_
        refine go_iconst (q := 1461) dL_law_1460 rfl ?_
        refine go_dup2 (q := 1462) (fun _ z => by cases z) (fun _ z => by cases z) dL_law_1461 rfl ?_
        refine go_iald (j := 1) (q := 1463) (by first | assumption | rfl) (wr_eq (by omega)) (by omega) dL_law_1462 rfl ?_
        refine go_iconst (q := 1464) dL_law_1463 rfl ?_
        refine go_iadd (q := 1465) dL_law_1464 rfl ?_
        refine go_iast (j := 1) (q := 1466) (by first | assumption | rfl) (wr_eq (by omega)) (by omega) dL_law_1465 rfl ?_
        refine go_goto (q := 1576) dL_law_1466 (by decide) ?_
        first
        | exact hN _ _ _ _ _ _ _ _ _ _ _ _ _ _ _ (mup w1456 45 1 (w1456 45 1 + 1)) (psh W (dS W (wA W + 1) (wC W + 1) (gap (gmv (wG W) ai.toNat (wA W)) (wC W) ai.toNat ai.toNat (wA W)) (sap (wS W) (wC W) si))) (PXW_q hP1407 (fun c k h => by rw [mup_ne (by omega), f1456 c k (by omega) (by omega), f1441 c k (by omega)])) ⟨TB_copy hX1407.1 (by rw [mup_ne (by omega), u1456 0 (by decide), f1441 _ _ (by omega)]) (fun k _ => by rw [mup_ne (by omega), f1456 _ _ (by omega) (by omega), f1441 _ _ (by omega)]), by rw [mup_eq, g1d]; show ((wA W : Nat) : Int) + 1 = ((wA W + 1 : Nat) : Int); omega, LC_same hC1456 (mup_ne (by omega)) (fun k => mup_ne (by omega))⟩
        | exact hN _ _ _ _ _ _ _ _ _ _ _ _ _ _ _ w1407 W hP1407 hX1407
      · first
        | exact absurd (e1407b.trans g1b.symm) c1423
        | exact absurd e1407b c1423
theorem lk_kink (hN : NxL l D ck ad B ti K) (hP : PXW w W) (hX : LX w W) (ha : 0 ≤ ai ∧ ai < (wA W : Int)) :
    gL_law l D ck ad shA B VT 1363 [some (vR 2000), some (vR 0), some (vR 45), some (vR 46), some (vR 47), some (vI ti), some (vI xi), some (vI yi), some (vI ki), some (vI ni), some (vI fi), some (vI ai), some (vI bi), none, none, none, none, none, none, none, none] [] w K := by
  refine go_iload (j := 7) (q := 1365) rfl dL_law_1363 rfl ?_
  refine go_iconst (q := 1366) dL_law_1365 rfl ?_
  refine go_callSi (as := [_, _]) (rest := []) (n := 2) (q := 1369) dL_law_1366 lk_L_29 rfl (by decide +kernel) rfl ⟨by decide, by decide⟩ ⟨rfl, rfl⟩ (Nat.le_of_ble_eq_true rfl) (el_low (by omega)) rfl (fun x1366 w1366 h1366 => ?_)
  obtain ⟨h1366, rfl⟩ := h1366
  refine go_if_ne2 (q := 1372) (t := 1376) dL_law_1369 (by decide) rfl (by omega) (fun c1369 => ?_) (fun c1369 => ?_)
  · refine go_iconst (q := 1377) dL_law_1376 rfl ?_
    refine go_istore (j := 13) (q := 1379) (ls2 := [_, _, _, _, _, _, _, _, _, _, _, _, _, _, _, _, _, _, _, _, _]) (by decide) rfl rfl dL_law_1377 rfl ?_
    first
    | exact lk_kink0 hN hP hX (Or.inl rfl) ha
    | exact lk_kink0 hN hP hX (Or.inr rfl) ha
  · refine go_iconst (q := 1373) dL_law_1372 rfl ?_
    refine go_goto (q := 1377) dL_law_1373 (by decide) ?_
    refine go_istore (j := 13) (q := 1379) (ls2 := [_, _, _, _, _, _, _, _, _, _, _, _, _, _, _, _, _, _, _, _, _]) (by decide) rfl rfl dL_law_1377 rfl ?_
    first
    | exact lk_kink0 hN hP hX (Or.inl rfl) ha
    | exact lk_kink0 hN hP hX (Or.inr rfl) ha
theorem lk_poke (hN : NxL l D ck ad B ti K) (hP : PXW w W) (hX : LX w W) (ha : 0 ≤ ai ∧ ai < (wA W : Int)) (hb : 0 ≤ bi ∧ bi < (wA W : Int)) :
    gL_law l D ck ad shA B VT 1469 [some (vR 2000), some (vR 0), some (vR 45), some (vR 46), some (vR 47), some (vI ti), some (vI xi), some (vI yi), some (vI ki), some (vI ni), some (vI fi), some (vI ai), some (vI bi), none, none, none, none, none, none, none, none] [] w K := by
  have g1 : w 45 1 = (wA W : Int) := hX.2.1
  have g2 : w 45 2 = (wC W : Int) := hX.2.2.1
  have hB := LB_of hP
  have haw := hB.1
  have hc10 := hX.2.2.2.1
  refine go_aload_n (j := 2) (q := 1470) rfl rfl dL_law_1469 rfl ?_
  refine go_iconst (q := 1471) dL_law_1470 rfl ?_
  refine go_iald (j := 1) (q := 1472) (by first | assumption | rfl) (wr_eq (by omega)) (by omega) dL_law_1471 rfl ?_
  refine go_bipush (q := 1474) rfl dL_law_1472 rfl ?_
  refine go_icmp_ge2 (q := 1477) (t := 1489) dL_law_1474 (by decide) rfl (by omega) (fun c1474 => ?_) (fun c1474 => ?_)
  · refine go_iconst (q := 1490) dL_law_1489 rfl ?_
    refine go_istore (j := 13) (q := 1492) (ls2 := [_, _, _, _, _, _, _, _, _, _, _, _, _, _, _, _, _, _, _, _, _]) (by decide) rfl rfl dL_law_1490 rfl ?_
    refine go_aload_n (j := 1) (q := 1493) rfl rfl dL_law_1492 rfl ?_
    refine go_iload (j := 11) (q := 1495) rfl dL_law_1493 rfl ?_
    refine go_iload (j := 12) (q := 1497) rfl dL_law_1495 rfl ?_
    refine go_callVi (as := [_, _, _]) (As := [_, _]) (rest := []) (n := 2) (q := 1500) dL_law_1497 lk_L_178 (ci := 6) (N := 7) (T := TX6) rfl (by first | assumption | rfl) rfl rfl (by decide +kernel) rfl ⟨by decide, by decide⟩ ⟨rfl, rfl⟩ (Nat.le_of_ble_eq_true rfl) (ex23 hP (by omega) (by omega)) rfl (fun x1497 w1497 h1497 => ?_)
    obtain ⟨e1497, hP1497, f1497⟩ := h1497
    have hX1497 := LX_same hX (fun c k h1 _ => f1497 c k h1)
    have g1b : w1497 45 1 = (wA W : Int) := hX1497.2.1
    refine go_iload (j := 13) (q := 1502) rfl dL_law_1500 rfl ?_
    first
    | (have hcan : wA W ≤ 5 ∧ wC W ≤ 8 := by omega
       have eo : op23 W ai bi = (((wA W + 2 : Nat) : Int), psh W (dS W (wA W + 2) (wC W + 2) (gap (gap (gmv (wG W) ai.toNat (wA W + 1)) (wC W) bi.toNat ai.toNat (wA W)) (wC W + 1) bi.toNat (wA W) (wA W + 1)) (sap (sap (wS W) (wC W) 1) (wC W + 1) (-1)))) := by
         unfold op23; rw [cif_t (by omega), cif_t hcan]
       rw [eo] at e1497 hP1497
       have e1497b : x1497 = ((wA W + 2 : Nat) : Int) := e1497)
    | (have hcan : ¬ (wA W ≤ 5 ∧ wC W ≤ 8) := by omega
       have eo : op23 W ai bi = (-4, W) := by
         unfold op23; rw [cif_t (by omega), cif_f hcan]
       rw [eo] at e1497 hP1497
       have e1497b : x1497 = -4 := e1497)
    refine go_if_eqT (t := 1513) dL_law_1502 (by decide) (by decide) ?_
    refine go_bipush (q := 1515) rfl dL_law_1513 rfl ?_
    refine go_icmp_eq2 (q := 1518) (t := 1520) dL_law_1515 (by decide) rfl (by omega) (fun c1515 => ?_) (fun c1515 => ?_)
    · refine go_iload (j := 13) (q := 1522) rfl dL_law_1520 rfl ?_
      refine go_if_eqT (t := 1576) dL_law_1522 (by decide) (by decide) ?_
      first
      | exact hN _ _ _ _ _ _ _ _ _ _ _ _ _ _ _ (mup w1566 45 1 (w1566 45 1 + 2)) (psh W (dS W (wA W + 2) (wC W + 2) (gap (gap (gmv (wG W) ai.toNat (wA W + 1)) (wC W) bi.toNat ai.toNat (wA W)) (wC W + 1) bi.toNat (wA W) (wA W + 1)) (sap (sap (wS W) (wC W) 1) (wC W + 1) (-1)))) (PXW_q hP1497 (fun c k h => by rw [mup_ne (by omega), f1566 c k (by omega) (by omega), f1549 c k (by omega) (by omega), f1535 c k (by omega)])) ⟨TB_copy hX1497.1 (by rw [mup_ne (by omega), u1566 0 (by decide), u1549 0 (by decide), f1535 _ _ (by omega)]) (fun k _ => by rw [mup_ne (by omega), f1566 _ _ (by omega) (by omega), f1549 _ _ (by omega) (by omega), f1535 _ _ (by omega)]), by rw [mup_eq, g1e]; show ((wA W : Nat) : Int) + 2 = ((wA W + 2 : Nat) : Int); omega, LC_same hC1566 (mup_ne (by omega)) (fun k => mup_ne (by omega))⟩
      | exact hN _ _ _ _ _ _ _ _ _ _ _ _ _ _ _ w1497 W hP1497 hX1497
    · first
      | exact absurd (show x1497 = w1497 45 1 + 2 by omega) c1515
      | exact absurd e1497b c1515
  · refine go_aload_n (j := 2) (q := 1478) rfl rfl dL_law_1477 rfl ?_
    refine go_iconst (q := 1479) dL_law_1478 rfl ?_
    refine go_iald (j := 2) (q := 1480) (by first | assumption | rfl) (wr_eq (by omega)) (by omega) dL_law_1479 rfl ?_
    refine go_bipush (q := 1482) rfl dL_law_1480 rfl ?_
    refine go_icmp_ge2 (q := 1485) (t := 1489) dL_law_1482 (by decide) rfl (by omega) (fun c1482 => ?_) (fun c1482 => ?_)
    · refine go_iconst (q := 1490) dL_law_1489 rfl ?_
      refine go_istore (j := 13) (q := 1492) (ls2 := [_, _, _, _, _, _, _, _, _, _, _, _, _, _, _, _, _, _, _, _, _]) (by decide) rfl rfl dL_law_1490 rfl ?_
      refine go_aload_n (j := 1) (q := 1493) rfl rfl dL_law_1492 rfl ?_
      refine go_iload (j := 11) (q := 1495) rfl dL_law_1493 rfl ?_
      refine go_iload (j := 12) (q := 1497) rfl dL_law_1495 rfl ?_
      refine go_callVi (as := [_, _, _]) (As := [_, _]) (rest := []) (n := 2) (q := 1500) dL_law_1497 lk_L_178 (ci := 6) (N := 7) (T := TX6) rfl (by first | assumption | rfl) rfl rfl (by decide +kernel) rfl ⟨by decide, by decide⟩ ⟨rfl, rfl⟩ (Nat.le_of_ble_eq_true rfl) (ex23 hP (by omega) (by omega)) rfl (fun x1497 w1497 h1497 => ?_)
      obtain ⟨e1497, hP1497, f1497⟩ := h1497
      have hX1497 := LX_same hX (fun c k h1 _ => f1497 c k h1)
      have g1b : w1497 45 1 = (wA W : Int) := hX1497.2.1
      refine go_iload (j := 13) (q := 1502) rfl dL_law_1500 rfl ?_
      first
      | (have hcan : wA W ≤ 5 ∧ wC W ≤ 8 := by omega
         have eo : op23 W ai bi = (((wA W + 2 : Nat) : Int), psh W (dS W (wA W + 2) (wC W + 2) (gap (gap (gmv (wG W) ai.toNat (wA W + 1)) (wC W) bi.toNat ai.toNat (wA W)) (wC W + 1) bi.toNat (wA W) (wA W + 1)) (sap (sap (wS W) (wC W) 1) (wC W + 1) (-1)))) := by
           unfold op23; rw [cif_t (by omega), cif_t hcan]
         rw [eo] at e1497 hP1497
         have e1497b : x1497 = ((wA W + 2 : Nat) : Int) := e1497)
      | (have hcan : ¬ (wA W ≤ 5 ∧ wC W ≤ 8) := by omega
         have eo : op23 W ai bi = (-4, W) := by
           unfold op23; rw [cif_t (by omega), cif_f hcan]
         rw [eo] at e1497 hP1497
         have e1497b : x1497 = -4 := e1497)
      refine go_if_eqT (t := 1513) dL_law_1502 (by decide) (by decide) ?_
      refine go_bipush (q := 1515) rfl dL_law_1513 rfl ?_
      refine go_icmp_eq2 (q := 1518) (t := 1520) dL_law_1515 (by decide) rfl (by omega) (fun c1515 => ?_) (fun c1515 => ?_)
      · refine go_iload (j := 13) (q := 1522) rfl dL_law_1520 rfl ?_
        refine go_if_eqT (t := 1576) dL_law_1522 (by decide) (by decide) ?_
        first
        | exact hN _ _ _ _ _ _ _ _ _ _ _ _ _ _ _ (mup w1566 45 1 (w1566 45 1 + 2)) (psh W (dS W (wA W + 2) (wC W + 2) (gap (gap (gmv (wG W) ai.toNat (wA W + 1)) (wC W) bi.toNat ai.toNat (wA W)) (wC W + 1) bi.toNat (wA W) (wA W + 1)) (sap (sap (wS W) (wC W) 1) (wC W + 1) (-1)))) (PXW_q hP1497 (fun c k h => by rw [mup_ne (by omega), f1566 c k (by omega) (by omega), f1549 c k (by omega) (by omega), f1535 c k (by omega)])) ⟨TB_copy hX1497.1 (by rw [mup_ne (by omega), u1566 0 (by decide), u1549 0 (by decide), f1535 _ _ (by omega)]) (fun k _ => by rw [mup_ne (by omega), f1566 _ _ (by omega) (by omega), f1549 _ _ (by omega) (by omega), f1535 _ _ (by omega)]), by rw [mup_eq, g1e]; show ((wA W : Nat) : Int) + 2 = ((wA W + 2 : Nat) : Int); omega, LC_same hC1566 (mup_ne (by omega)) (fun k => mup_ne (by omega))⟩
        | exact hN _ _ _ _ _ _ _ _ _ _ _ _ _ _ _ w1497 W hP1497 hX1497
      · first
        | exact absurd (show x1497 = w1497 45 1 + 2 by omega) c1515
        | exact absurd e1497b c1515
    · refine go_iconst (q := 1486) dL_law_1485 rfl ?_
      refine go_goto (q := 1490) dL_law_1486 (by decide) ?_
      refine go_istore (j := 13) (q := 1492) (ls2 := [_, _, _, _, _, _, _, _, _, _, _, _, _, _, _, _, _, _, _, _, _]) (by decide) rfl rfl dL_law_1490 rfl ?_
      refine go_aload_n (j := 1) (q := 1493) rfl rfl dL_law_1492 rfl ?_
      refine go_iload (j := 11) (q := 1495) rfl dL_law_1493 rfl ?_
      refine go_iload (j := 12) (q := 1497) rfl dL_law_1495 rfl ?_
      refine go_callVi (as := [_, _, _]) (As := [_, _]) (rest := []) (n := 2) (q := 1500) dL_law_1497 lk_L_178 (ci := 6) (N := 7) (T := TX6) rfl (by first | assumption | rfl) rfl rfl (by decide +kernel) rfl ⟨by decide, by decide⟩ ⟨rfl, rfl⟩ (Nat.le_of_ble_eq_true rfl) (ex23 hP (by omega) (by omega)) rfl (fun x1497 w1497 h1497 => ?_)
      obtain ⟨e1497, hP1497, f1497⟩ := h1497
      have hX1497 := LX_same hX (fun c k h1 _ => f1497 c k h1)
      have g1b : w1497 45 1 = (wA W : Int) := hX1497.2.1
      refine go_iload (j := 13) (q := 1502) rfl dL_law_1500 rfl ?_
      first
      | (have hcan : wA W ≤ 5 ∧ wC W ≤ 8 := by omega
         have eo : op23 W ai bi = (((wA W + 2 : Nat) : Int), psh W (dS W (wA W + 2) (wC W + 2) (gap (gap (gmv (wG W) ai.toNat (wA W + 1)) (wC W) bi.toNat ai.toNat (wA W)) (wC W + 1) bi.toNat (wA W) (wA W + 1)) (sap (sap (wS W) (wC W) 1) (wC W + 1) (-1)))) := by
           unfold op23; rw [cif_t (by omega), cif_t hcan]
         rw [eo] at e1497 hP1497
         have e1497b : x1497 = ((wA W + 2 : Nat) : Int) := e1497)
      | (have hcan : ¬ (wA W ≤ 5 ∧ wC W ≤ 8) := by omega
         have eo : op23 W ai bi = (-4, W) := by
           unfold op23; rw [cif_t (by omega), cif_f hcan]
         rw [eo] at e1497 hP1497
         have e1497b : x1497 = -4 := e1497)
      refine go_if_eqF (q := 1505) (t := 1513) dL_law_1502 rfl (by decide) (by decide) ?_
      refine go_aload_n (j := 2) (q := 1506) rfl rfl dL_law_1505 rfl ?_
      refine go_iconst (q := 1507) dL_law_1506 rfl ?_
      refine go_iald (j := 1) (q := 1508) (by first | assumption | rfl) (wr_eq (by omega)) (by omega) dL_law_1507 rfl ?_
      refine go_iconst (q := 1509) dL_law_1508 rfl ?_
      refine go_iadd (q := 1510) dL_law_1509 rfl ?_
      refine go_goto (q := 1515) dL_law_1510 (by decide) ?_
      refine go_icmp_eq2 (q := 1518) (t := 1520) dL_law_1515 (by decide) rfl (by omega) (fun c1515 => ?_) (fun c1515 => ?_)
      · refine go_iload (j := 13) (q := 1522) rfl dL_law_1520 rfl ?_
        refine go_if_eqF (q := 1525) (t := 1576) dL_law_1522 rfl (by decide) (by decide) ?_
        refine go_iload (j := 11) (q := 1527) rfl dL_law_1525 rfl ?_
        refine go_aload_n (j := 2) (q := 1528) rfl rfl dL_law_1527 rfl ?_
        refine go_iconst (q := 1529) dL_law_1528 rfl ?_
        refine go_iald (j := 1) (q := 1530) (by first | assumption | rfl) (wr_eq (by omega)) (by omega) dL_law_1529 rfl ?_
        refine go_iconst (q := 1531) dL_law_1530 rfl ?_
        refine go_iadd (q := 1532) dL_law_1531 rfl ?_
        refine go_aload_n (j := 2) (q := 1533) rfl rfl dL_law_1532 rfl ?_
        refine go_aload (j := 4) (q := 1535) rfl dL_law_1533 rfl ?_
        refine go_callSv (as := [_, _, _, _]) (rest := []) (n := 4) (q := 1538) dL_law_1535 lk_L_174 rfl (by decide +kernel) rfl ⟨by decide, by decide⟩ ⟨rfl, rfl⟩ (Nat.le_of_ble_eq_true rfl) (el_moved (x := ai.toNat) (y := wA W + 1) (by omega) (by omega) (by omega) hX1497.2.2 (fun k hk => by have := (hB.2 k hk).1; omega)) rfl (fun w1535 h1535 => ?_)
        obtain ⟨hC1535, f1535⟩ := h1535
        have g1c : w1535 45 1 = (wA W : Int) := by rw [f1535 _ _ (by omega)]; exact g1b
        refine go_iload (j := 12) (q := 1540) rfl dL_law_1538 rfl ?_
        refine go_iload (j := 11) (q := 1542) rfl dL_law_1540 rfl ?_
        refine go_aload_n (j := 2) (q := 1543) rfl rfl dL_law_1542 rfl ?_
        refine go_iconst (q := 1544) dL_law_1543 rfl ?_
        refine go_iald (j := 1) (q := 1545) (by first | assumption | rfl) (wr_eq (by omega)) (by omega) dL_law_1544 rfl ?_
        refine go_iconst (q := 1546) dL_law_1545 rfl ?_
        refine go_aload_n (j := 2) (q := 1547) rfl rfl dL_law_1546 rfl ?_
        refine go_aload (j := 4) (q := 1549) rfl dL_law_1547 rfl ?_
        refine go_callSv (as := [_, _, _, _, _, _]) (rest := []) (n := 6) (q := 1552) dL_law_1549 lk_L_157 rfl (by decide +kernel) rfl ⟨by decide, by decide⟩ ⟨rfl, rfl⟩ (Nat.le_of_ble_eq_true rfl) (el_add (o := bi.toNat) (i := ai.toNat) (u := wA W) (by omega) (by omega) g1c hC1535 (by omega)) rfl (fun w1549 h1549 => ?_)
        obtain ⟨hC1549, u1549, f1549⟩ := h1549
        have g1d : w1549 45 1 = (wA W : Int) := (u1549 1 (by decide)).trans g1c
        refine go_iload (j := 12) (q := 1554) rfl dL_law_1552 rfl ?_
        refine go_aload_n (j := 2) (q := 1555) rfl rfl dL_law_1554 rfl ?_
        refine go_iconst (q := 1556) dL_law_1555 rfl ?_
        refine go_iald (j := 1) (q := 1557) (by first | assumption | rfl) (wr_eq (by omega)) (by omega) dL_law_1556 rfl ?_
        refine go_aload_n (j := 2) (q := 1558) rfl rfl dL_law_1557 rfl ?_
        refine go_iconst (q := 1559) dL_law_1558 rfl ?_
        refine go_iald (j := 1) (q := 1560) (by first | assumption | rfl) (wr_eq (by omega)) (by omega) dL_law_1559 rfl ?_
        refine go_iconst (q := 1561) dL_law_1560 rfl ?_
        refine go_iadd (q := 1562) dL_law_1561 rfl ?_
        refine go_iconst (q := 1563) dL_law_1562 rfl ?_
        refine go_aload_n (j := 2) (q := 1564) rfl rfl dL_law_1563 rfl ?_
        refine go_aload (j := 4) (q := 1566) rfl dL_law_1564 rfl ?_
        refine go_callSv (as := [_, _, _, _, _, _]) (rest := []) (n := 6) (q := 1569) dL_law_1566 lk_L_157 rfl (by decide +kernel) rfl ⟨by decide, by decide⟩ ⟨rfl, rfl⟩ (Nat.le_of_ble_eq_true rfl) (el_add (o := bi.toNat) (i := wA W) (u := wA W + 1) (by omega) g1d (by omega) hC1549 (by omega)) rfl (fun w1566 h1566 => ?_)
        obtain ⟨hC1566, u1566, f1566⟩ := h1566
        have g1e : w1566 45 1 = (wA W : Int) := (u1566 1 (by decide)).trans g1d
        refine go_aload_n (j := 2) (q := 1570) rfl rfl dL_law_1569 rfl ?_
        refine go_iconst (q := 1571) dL_law_1570 rfl ?_
        refine go_dup2 (q := 1572) (fun _ z => by cases z) (fun _ z => by cases z) dL_law_1571 rfl ?_
        refine go_iald (j := 1) (q := 1573) (by first | assumption | rfl) (wr_eq (by omega)) (by omega) dL_law_1572 rfl ?_
        refine go_iconst (q := 1574) dL_law_1573 rfl ?_
        refine go_iadd (q := 1575) dL_law_1574 rfl ?_
        refine go_iast (j := 1) (q := 1576) (by first | assumption | rfl) (wr_eq (by omega)) (by omega) dL_law_1575 rfl ?_
        first
        | exact hN _ _ _ _ _ _ _ _ _ _ _ _ _ _ _ (mup w1566 45 1 (w1566 45 1 + 2)) (psh W (dS W (wA W + 2) (wC W + 2) (gap (gap (gmv (wG W) ai.toNat (wA W + 1)) (wC W) bi.toNat ai.toNat (wA W)) (wC W + 1) bi.toNat (wA W) (wA W + 1)) (sap (sap (wS W) (wC W) 1) (wC W + 1) (-1)))) (PXW_q hP1497 (fun c k h => by rw [mup_ne (by omega), f1566 c k (by omega) (by omega), f1549 c k (by omega) (by omega), f1535 c k (by omega)])) ⟨TB_copy hX1497.1 (by rw [mup_ne (by omega), u1566 0 (by decide), u1549 0 (by decide), f1535 _ _ (by omega)]) (fun k _ => by rw [mup_ne (by omega), f1566 _ _ (by omega) (by omega), f1549 _ _ (by omega) (by omega), f1535 _ _ (by omega)]), by rw [mup_eq, g1e]; show ((wA W : Nat) : Int) + 2 = ((wA W + 2 : Nat) : Int); omega, LC_same hC1566 (mup_ne (by omega)) (fun k => mup_ne (by omega))⟩
        | exact hN _ _ _ _ _ _ _ _ _ _ _ _ _ _ _ w1497 W hP1497 hX1497
      · first
        | exact absurd (show x1497 = w1497 45 1 + 2 by omega) c1515
        | exact absurd e1497b c1515
end LAW9
