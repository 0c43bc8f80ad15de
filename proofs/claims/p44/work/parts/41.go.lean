/-! the law's body behind its making -/
theorem law_go {l : Launch} {D : va_G} {ck : Nat → ClassId} {ad : Nat → Nat} : gL_law l D ck ad shA (4 * 24) VT 23 [some (vR 2000), some (vR 0), some (vR 45), some (vR 46), some (vR 47), none, none, none, none, none, none, none, none, none, none, none, none, none, none, none, none] [] w0 (fun r _ => r = some (vI 1)) := by
  refine go_aload_n (j := 2) (q := 24) rfl rfl dL_law_23 rfl ?_
  refine go_iconst (q := 25) dL_law_24 rfl ?_
  refine go_iconst (q := 26) dL_law_25 rfl ?_
  refine go_iast (j := 0) (q := 27) (by first | assumption | rfl) (wr_eq (by omega)) (by omega) dL_law_26 rfl ?_
  refine go_aload_n (j := 2) (q := 28) rfl rfl dL_law_27 rfl ?_
  refine go_iconst (q := 29) dL_law_28 rfl ?_
  refine go_iconst (q := 30) dL_law_29 rfl ?_
  refine go_iast (j := 1) (q := 31) (by first | assumption | rfl) (wr_eq (by omega)) (by omega) dL_law_30 rfl ?_
  refine go_iconst (q := 32) dL_law_31 rfl ?_
  refine go_istore (j := 5) (q := 34) (ls2 := [_, _, _, _, _, _, _, _, _, _, _, _, _, _, _, _, _, _, _, _, _]) (by decide) rfl rfl dL_law_32 rfl ?_
  have hz : ∀ c k, 45 ≤ c → c < 48 → w0 c k = 0 := by
    intro c k h1 h2
    rcases (show c = 45 ∨ c = 46 ∨ c = 47 by omega) with rfl | rfl | rfl <;> rfl
  refine lhead 24 0 (by decide) (by decide) _ _ _ _ _ _ _ _ _ _ _ _ _ _ _ _ W0 (PXW_q pxw0 (fun c k h => by rw [mup_ne (by omega), mup_ne (by omega)])) ⟨⟨by rw [mup_ne (by omega), mup_eq]; rfl, ⟨by decide, by decide⟩, fun x y hx hy => ⟨by rw [mup_ne (by omega), mup_ne (by omega), hz _ _ (by omega) (by omega)]; rfl, Nat.zero_lt_one⟩⟩, by rw [mup_eq]; rfl, LC_0 (by rw [mup_ne (by omega), mup_ne (by omega)]; exact hz _ _ (by omega) (by omega))⟩
