/-! the law's start (printed by wip/p44/gen/start.py) -/
theorem cl_L_20 : Cond.classLink RL 20 RX6 ∈ lw_gw := gw (tin1 (List.mem_of_getElem? (i := 11) (by decide +kernel))) rfl
theorem in_X6 : Cond.instantiable RX6 7 ∈ lw_gw := gw (tin1 (List.mem_of_getElem? (i := 12) (by decide +kernel))) rfl
theorem iz_X6 : Cond.initialized RX6 ∈ lw_gw := gw (tin1 (List.mem_of_getElem? (i := 1) (by decide +kernel))) rfl
theorem hf_X6 : ∀ j, j < 7 → defaultValue (tyX6 j) = vp_V [.null, .null, .null, .null, .null, .null, .null] j := fun j hj => by rcases (show j = 0 ∨ j = 1 ∨ j = 2 ∨ j = 3 ∨ j = 4 ∨ j = 5 ∨ j = 6 by omega) with rfl | rfl | rfl | rfl | rfl | rfl | rfl <;> rfl
theorem lki_L_130 : LkI RL 130 yX6_init cX6_init 1 := ⟨Or.inl (gw (tin1 (List.mem_of_getElem? (i := 13) (by decide +kernel))) rfl), gw (tin1 (List.mem_of_getElem? (i := 14) (by decide +kernel))) rfl, gw (tin1 (List.mem_of_getElem? (i := 1) (by decide +kernel))) rfl, gw (tin1 (List.mem_of_getElem? (i := 15) (by decide +kernel))) rfl, rfl, by decide +kernel, by decide +kernel⟩
def oWs (ck : Nat → ClassId) (z : Nat → Nat) : va_W := [(z 0, .inr (6, [.ref (z 1), .ref (z 3), .ref (z 5), .ref (z 10), .ref (z 12), .ref (z 16), .ref (z 18)])), (z 1, .inr (5, [.int 1, .ref (z 2)])), (z 2, .inl (ck 0, 36, .inl (fun _ => 0))), (z 3, .inr (5, [.int 1, .ref (z 4)])), (z 4, .inl (ck 0, 36, .inl (fun _ => 0))), (z 5, .inr (4, [.ref (z 6), .ref (z 7), .ref (z 8), .ref (z 9)])), (z 6, .inl (ck 0, 6, .inl (fun _ => 0))), (z 7, .inl (ck 0, 6, .inl (fun _ => 0))), (z 8, .inl (ck 0, 720, .inl (fun _ => 0))), (z 9, .inl (ck 1, 720, .inl (fun _ => 0))), (z 10, .inr (1, [.int 1, .int 0, .ref (z 11)])), (z 11, .inl (ck 0, 40, .inl (fun _ => 0))), (z 12, .inr (0, [.ref (z 1), .ref (z 10), .ref (z 13), .ref (z 14), .ref (z 15), .int 0])), (z 13, .inl (ck 0, 7, .inl (fun _ => 0))), (z 14, .inl (ck 0, 10, .inl (fun _ => 0))), (z 15, .inl (ck 0, 7, .inl (fun _ => 0))), (z 16, .inr (2, [.int 0, .ref (z 17)])), (z 17, .inl (ck 2, 70, .inl (fun _ => 0))), (z 18, .inr (3, [.int 0, .int 0, .ref (z 19), .ref (z 20)])), (z 19, .inl (ck 3, 6, .inr (.inr (.inr (.inr (va_up (va_up (va_up (va_up (va_up (va_up (fun _ => none) (Int32.toNatClampNeg 0) (some (z 21))) (Int32.toNatClampNeg 1) (some (z 25))) (Int32.toNatClampNeg 2) (some (z 29))) (Int32.toNatClampNeg 3) (some (z 33))) (Int32.toNatClampNeg 4) (some (z 37))) (Int32.toNatClampNeg 5) (some (z 41)))))))), (z 20, .inl (ck 4, 6, .inr (.inr (.inr (.inr (va_up (va_up (va_up (va_up (va_up (va_up (fun _ => none) (Int32.toNatClampNeg 0) (some (z 23))) (Int32.toNatClampNeg 1) (some (z 27))) (Int32.toNatClampNeg 2) (some (z 31))) (Int32.toNatClampNeg 3) (some (z 35))) (Int32.toNatClampNeg 4) (some (z 39))) (Int32.toNatClampNeg 5) (some (z 43)))))))), (z 21, .inr (5, [.int 1, .ref (z 22)])), (z 22, .inl (ck 0, 36, .inl (fun _ => 0))), (z 23, .inr (1, [.int 1, .int 0, .ref (z 24)])), (z 24, .inl (ck 0, 40, .inl (fun _ => 0))), (z 25, .inr (5, [.int 1, .ref (z 26)])), (z 26, .inl (ck 0, 36, .inl (fun _ => 0))), (z 27, .inr (1, [.int 1, .int 0, .ref (z 28)])), (z 28, .inl (ck 0, 40, .inl (fun _ => 0))), (z 29, .inr (5, [.int 1, .ref (z 30)])), (z 30, .inl (ck 0, 36, .inl (fun _ => 0))), (z 31, .inr (1, [.int 1, .int 0, .ref (z 32)])), (z 32, .inl (ck 0, 40, .inl (fun _ => 0))), (z 33, .inr (5, [.int 1, .ref (z 34)])), (z 34, .inl (ck 0, 36, .inl (fun _ => 0))), (z 35, .inr (1, [.int 1, .int 0, .ref (z 36)])), (z 36, .inl (ck 0, 40, .inl (fun _ => 0))), (z 37, .inr (5, [.int 1, .ref (z 38)])), (z 38, .inl (ck 0, 36, .inl (fun _ => 0))), (z 39, .inr (1, [.int 1, .int 0, .ref (z 40)])), (z 40, .inl (ck 0, 40, .inl (fun _ => 0))), (z 41, .inr (5, [.int 1, .ref (z 42)])), (z 42, .inl (ck 0, 36, .inl (fun _ => 0))), (z 43, .inr (1, [.int 1, .int 0, .ref (z 44)])), (z 44, .inl (ck 0, 40, .inl (fun _ => 0))), (z 45, .inl (ck 0, 3, .inl (fun _ => 0))), (z 46, .inl (ck 0, 36, .inl (fun _ => 0))), (z 47, .inl (ck 0, 40, .inl (fun _ => 0)))]
set_option maxRecDepth 100000 in
set_option maxHeartbeats 4000000 in
theorem law_init {l : Launch} {D : va_G} {ck : Nat → ClassId} {b : Nat} (g : Nat → Nat) : Cn l D ck RL cL_law 21 room_1 0 [(0, .ref b)] [] [] 0 0 (fun pc ls st ws cells slots => pc = 23 ∧ st = [] ∧ cells ≤ 1000 ∧ slots ≤ 100000 ∧ ∃ z : Nat → Nat, (∀ k, 48 ≤ k → z k = g k) ∧ ls = [(4, .ref (z 47)), (3, .ref (z 46)), (2, .ref (z 45)), (1, .ref (z 0)), (0, .ref b)] ∧ ws = oWs ck z) := by
  refine cn_new (ci := 6) (N := 7) rfl igX6 tyX6 tyX6_ok cl_L_20 in_X6 iz_X6 hf_X6 (Nat.le_of_ble_eq_true rfl) (Nat.le_of_ble_eq_true rfl) dL_law_0 rfl (fun x1 => ?_)
  show Cn l D ck RL cL_law 21 room_1 3 [(0, .ref b)] [.ref x1] [(x1, .inr (6, [.null, .null, .null, .null, .null, .null, .null]))] _ _ _
  refine cn_dup dL_law_3 rfl ?_
  refine cn_call (As := []) (rest := [.ref x1]) (wr := []) (x := (x1, .inr (6, [.null, .null, .null, .null, .null, .null, .null]))) dL_law_4 lki_L_130 rfl rfl rfl ⟨Nat.le_of_ble_eq_true rfl, Nat.le_of_ble_eq_true rfl⟩ (Nat.le_of_ble_eq_true rfl) ⟨Nat.le_of_ble_eq_true rfl, Nat.le_of_ble_eq_true rfl⟩ rfl (ct_X6_init (l := l) (D := D)) rfl (fun w1 hw => ?_)
  obtain ⟨x2, x3, x4, x5, x6, x7, x8, x9, x10, x11, x12, x13, x14, x15, x16, x17, x18, x19, x20, x21, x22, x23, x24, x25, x26, x27, x28, x29, x30, x31, x32, x33, x34, x35, x36, x37, x38, x39, x40, x41, x42, x43, x44, x45, rfl⟩ := hw
  show Cn l D ck RL cL_law 21 room_1 7 [(0, .ref b)] [.ref x1] [(x1, .inr (6, [.ref x2, .ref x4, .ref x6, .ref x11, .ref x13, .ref x17, .ref x19])), (x2, .inr (5, [.int 1, .ref x3])), (x3, .inl (ck 0, 36, .inl (fun _ => 0))), (x4, .inr (5, [.int 1, .ref x5])), (x5, .inl (ck 0, 36, .inl (fun _ => 0))), (x6, .inr (4, [.ref x7, .ref x8, .ref x9, .ref x10])), (x7, .inl (ck 0, 6, .inl (fun _ => 0))), (x8, .inl (ck 0, 6, .inl (fun _ => 0))), (x9, .inl (ck 0, 720, .inl (fun _ => 0))), (x10, .inl (ck 1, 720, .inl (fun _ => 0))), (x11, .inr (1, [.int 1, .int 0, .ref x12])), (x12, .inl (ck 0, 40, .inl (fun _ => 0))), (x13, .inr (0, [.ref x2, .ref x11, .ref x14, .ref x15, .ref x16, .int 0])), (x14, .inl (ck 0, 7, .inl (fun _ => 0))), (x15, .inl (ck 0, 10, .inl (fun _ => 0))), (x16, .inl (ck 0, 7, .inl (fun _ => 0))), (x17, .inr (2, [.int 0, .ref x18])), (x18, .inl (ck 2, 70, .inl (fun _ => 0))), (x19, .inr (3, [.int 0, .int 0, .ref x20, .ref x21])), (x20, .inl (ck 3, 6, .inr (.inr (.inr (.inr (va_up (va_up (va_up (va_up (va_up (va_up (fun _ => none) (Int32.toNatClampNeg 0) (some x22)) (Int32.toNatClampNeg 1) (some x26)) (Int32.toNatClampNeg 2) (some x30)) (Int32.toNatClampNeg 3) (some x34)) (Int32.toNatClampNeg 4) (some x38)) (Int32.toNatClampNeg 5) (some x42))))))), (x21, .inl (ck 4, 6, .inr (.inr (.inr (.inr (va_up (va_up (va_up (va_up (va_up (va_up (fun _ => none) (Int32.toNatClampNeg 0) (some x24)) (Int32.toNatClampNeg 1) (some x28)) (Int32.toNatClampNeg 2) (some x32)) (Int32.toNatClampNeg 3) (some x36)) (Int32.toNatClampNeg 4) (some x40)) (Int32.toNatClampNeg 5) (some x44))))))), (x22, .inr (5, [.int 1, .ref x23])), (x23, .inl (ck 0, 36, .inl (fun _ => 0))), (x24, .inr (1, [.int 1, .int 0, .ref x25])), (x25, .inl (ck 0, 40, .inl (fun _ => 0))), (x26, .inr (5, [.int 1, .ref x27])), (x27, .inl (ck 0, 36, .inl (fun _ => 0))), (x28, .inr (1, [.int 1, .int 0, .ref x29])), (x29, .inl (ck 0, 40, .inl (fun _ => 0))), (x30, .inr (5, [.int 1, .ref x31])), (x31, .inl (ck 0, 36, .inl (fun _ => 0))), (x32, .inr (1, [.int 1, .int 0, .ref x33])), (x33, .inl (ck 0, 40, .inl (fun _ => 0))), (x34, .inr (5, [.int 1, .ref x35])), (x35, .inl (ck 0, 36, .inl (fun _ => 0))), (x36, .inr (1, [.int 1, .int 0, .ref x37])), (x37, .inl (ck 0, 40, .inl (fun _ => 0))), (x38, .inr (5, [.int 1, .ref x39])), (x39, .inl (ck 0, 36, .inl (fun _ => 0))), (x40, .inr (1, [.int 1, .int 0, .ref x41])), (x41, .inl (ck 0, 40, .inl (fun _ => 0))), (x42, .inr (5, [.int 1, .ref x43])), (x43, .inl (ck 0, 36, .inl (fun _ => 0))), (x44, .inr (1, [.int 1, .int 0, .ref x45])), (x45, .inl (ck 0, 40, .inl (fun _ => 0)))] _ _ _
  refine cn_astore (ls2 := [(1, .ref x1), (0, .ref b)]) rfl (Nat.le_of_ble_eq_true rfl) rfl dL_law_7 rfl ?_
  refine cn_iconst (v := 3) dL_law_8 (by decide +kernel) rfl ?_
  refine cn_newa (atype := .int) (ty := .int) (N' := 3) 0 ac_int rfl rfl (Nat.le_of_ble_eq_true rfl) (fun _ => rfl) (by decide +kernel) (by decide +kernel) (Nat.le_of_ble_eq_true rfl) (Nat.le_of_ble_eq_true rfl) (Nat.le_of_ble_eq_true rfl) dL_law_9 rfl (fun x46 => ?_)
  show Cn l D ck RL cL_law 21 room_1 11 [(1, .ref x1), (0, .ref b)] [.ref x46] [(x1, .inr (6, [.ref x2, .ref x4, .ref x6, .ref x11, .ref x13, .ref x17, .ref x19])), (x2, .inr (5, [.int 1, .ref x3])), (x3, .inl (ck 0, 36, .inl (fun _ => 0))), (x4, .inr (5, [.int 1, .ref x5])), (x5, .inl (ck 0, 36, .inl (fun _ => 0))), (x6, .inr (4, [.ref x7, .ref x8, .ref x9, .ref x10])), (x7, .inl (ck 0, 6, .inl (fun _ => 0))), (x8, .inl (ck 0, 6, .inl (fun _ => 0))), (x9, .inl (ck 0, 720, .inl (fun _ => 0))), (x10, .inl (ck 1, 720, .inl (fun _ => 0))), (x11, .inr (1, [.int 1, .int 0, .ref x12])), (x12, .inl (ck 0, 40, .inl (fun _ => 0))), (x13, .inr (0, [.ref x2, .ref x11, .ref x14, .ref x15, .ref x16, .int 0])), (x14, .inl (ck 0, 7, .inl (fun _ => 0))), (x15, .inl (ck 0, 10, .inl (fun _ => 0))), (x16, .inl (ck 0, 7, .inl (fun _ => 0))), (x17, .inr (2, [.int 0, .ref x18])), (x18, .inl (ck 2, 70, .inl (fun _ => 0))), (x19, .inr (3, [.int 0, .int 0, .ref x20, .ref x21])), (x20, .inl (ck 3, 6, .inr (.inr (.inr (.inr (va_up (va_up (va_up (va_up (va_up (va_up (fun _ => none) (Int32.toNatClampNeg 0) (some x22)) (Int32.toNatClampNeg 1) (some x26)) (Int32.toNatClampNeg 2) (some x30)) (Int32.toNatClampNeg 3) (some x34)) (Int32.toNatClampNeg 4) (some x38)) (Int32.toNatClampNeg 5) (some x42))))))), (x21, .inl (ck 4, 6, .inr (.inr (.inr (.inr (va_up (va_up (va_up (va_up (va_up (va_up (fun _ => none) (Int32.toNatClampNeg 0) (some x24)) (Int32.toNatClampNeg 1) (some x28)) (Int32.toNatClampNeg 2) (some x32)) (Int32.toNatClampNeg 3) (some x36)) (Int32.toNatClampNeg 4) (some x40)) (Int32.toNatClampNeg 5) (some x44))))))), (x22, .inr (5, [.int 1, .ref x23])), (x23, .inl (ck 0, 36, .inl (fun _ => 0))), (x24, .inr (1, [.int 1, .int 0, .ref x25])), (x25, .inl (ck 0, 40, .inl (fun _ => 0))), (x26, .inr (5, [.int 1, .ref x27])), (x27, .inl (ck 0, 36, .inl (fun _ => 0))), (x28, .inr (1, [.int 1, .int 0, .ref x29])), (x29, .inl (ck 0, 40, .inl (fun _ => 0))), (x30, .inr (5, [.int 1, .ref x31])), (x31, .inl (ck 0, 36, .inl (fun _ => 0))), (x32, .inr (1, [.int 1, .int 0, .ref x33])), (x33, .inl (ck 0, 40, .inl (fun _ => 0))), (x34, .inr (5, [.int 1, .ref x35])), (x35, .inl (ck 0, 36, .inl (fun _ => 0))), (x36, .inr (1, [.int 1, .int 0, .ref x37])), (x37, .inl (ck 0, 40, .inl (fun _ => 0))), (x38, .inr (5, [.int 1, .ref x39])), (x39, .inl (ck 0, 36, .inl (fun _ => 0))), (x40, .inr (1, [.int 1, .int 0, .ref x41])), (x41, .inl (ck 0, 40, .inl (fun _ => 0))), (x42, .inr (5, [.int 1, .ref x43])), (x43, .inl (ck 0, 36, .inl (fun _ => 0))), (x44, .inr (1, [.int 1, .int 0, .ref x45])), (x45, .inl (ck 0, 40, .inl (fun _ => 0))), (x46, .inl (ck 0, 3, .inl (fun _ => 0)))] _ _ _
  refine cn_astore (ls2 := [(2, .ref x46), (1, .ref x1), (0, .ref b)]) rfl (Nat.le_of_ble_eq_true rfl) rfl dL_law_11 rfl ?_
  refine cn_bipush (v := 36) dL_law_12 (by decide +kernel) rfl ?_
  refine cn_newa (atype := .int) (ty := .int) (N' := 36) 0 ac_int rfl rfl (Nat.le_of_ble_eq_true rfl) (fun _ => rfl) (by decide +kernel) (by decide +kernel) (Nat.le_of_ble_eq_true rfl) (Nat.le_of_ble_eq_true rfl) (Nat.le_of_ble_eq_true rfl) dL_law_14 rfl (fun x47 => ?_)
  show Cn l D ck RL cL_law 21 room_1 16 [(2, .ref x46), (1, .ref x1), (0, .ref b)] [.ref x47] [(x1, .inr (6, [.ref x2, .ref x4, .ref x6, .ref x11, .ref x13, .ref x17, .ref x19])), (x2, .inr (5, [.int 1, .ref x3])), (x3, .inl (ck 0, 36, .inl (fun _ => 0))), (x4, .inr (5, [.int 1, .ref x5])), (x5, .inl (ck 0, 36, .inl (fun _ => 0))), (x6, .inr (4, [.ref x7, .ref x8, .ref x9, .ref x10])), (x7, .inl (ck 0, 6, .inl (fun _ => 0))), (x8, .inl (ck 0, 6, .inl (fun _ => 0))), (x9, .inl (ck 0, 720, .inl (fun _ => 0))), (x10, .inl (ck 1, 720, .inl (fun _ => 0))), (x11, .inr (1, [.int 1, .int 0, .ref x12])), (x12, .inl (ck 0, 40, .inl (fun _ => 0))), (x13, .inr (0, [.ref x2, .ref x11, .ref x14, .ref x15, .ref x16, .int 0])), (x14, .inl (ck 0, 7, .inl (fun _ => 0))), (x15, .inl (ck 0, 10, .inl (fun _ => 0))), (x16, .inl (ck 0, 7, .inl (fun _ => 0))), (x17, .inr (2, [.int 0, .ref x18])), (x18, .inl (ck 2, 70, .inl (fun _ => 0))), (x19, .inr (3, [.int 0, .int 0, .ref x20, .ref x21])), (x20, .inl (ck 3, 6, .inr (.inr (.inr (.inr (va_up (va_up (va_up (va_up (va_up (va_up (fun _ => none) (Int32.toNatClampNeg 0) (some x22)) (Int32.toNatClampNeg 1) (some x26)) (Int32.toNatClampNeg 2) (some x30)) (Int32.toNatClampNeg 3) (some x34)) (Int32.toNatClampNeg 4) (some x38)) (Int32.toNatClampNeg 5) (some x42))))))), (x21, .inl (ck 4, 6, .inr (.inr (.inr (.inr (va_up (va_up (va_up (va_up (va_up (va_up (fun _ => none) (Int32.toNatClampNeg 0) (some x24)) (Int32.toNatClampNeg 1) (some x28)) (Int32.toNatClampNeg 2) (some x32)) (Int32.toNatClampNeg 3) (some x36)) (Int32.toNatClampNeg 4) (some x40)) (Int32.toNatClampNeg 5) (some x44))))))), (x22, .inr (5, [.int 1, .ref x23])), (x23, .inl (ck 0, 36, .inl (fun _ => 0))), (x24, .inr (1, [.int 1, .int 0, .ref x25])), (x25, .inl (ck 0, 40, .inl (fun _ => 0))), (x26, .inr (5, [.int 1, .ref x27])), (x27, .inl (ck 0, 36, .inl (fun _ => 0))), (x28, .inr (1, [.int 1, .int 0, .ref x29])), (x29, .inl (ck 0, 40, .inl (fun _ => 0))), (x30, .inr (5, [.int 1, .ref x31])), (x31, .inl (ck 0, 36, .inl (fun _ => 0))), (x32, .inr (1, [.int 1, .int 0, .ref x33])), (x33, .inl (ck 0, 40, .inl (fun _ => 0))), (x34, .inr (5, [.int 1, .ref x35])), (x35, .inl (ck 0, 36, .inl (fun _ => 0))), (x36, .inr (1, [.int 1, .int 0, .ref x37])), (x37, .inl (ck 0, 40, .inl (fun _ => 0))), (x38, .inr (5, [.int 1, .ref x39])), (x39, .inl (ck 0, 36, .inl (fun _ => 0))), (x40, .inr (1, [.int 1, .int 0, .ref x41])), (x41, .inl (ck 0, 40, .inl (fun _ => 0))), (x42, .inr (5, [.int 1, .ref x43])), (x43, .inl (ck 0, 36, .inl (fun _ => 0))), (x44, .inr (1, [.int 1, .int 0, .ref x45])), (x45, .inl (ck 0, 40, .inl (fun _ => 0))), (x46, .inl (ck 0, 3, .inl (fun _ => 0))), (x47, .inl (ck 0, 36, .inl (fun _ => 0)))] _ _ _
  refine cn_astore (ls2 := [(3, .ref x47), (2, .ref x46), (1, .ref x1), (0, .ref b)]) rfl (Nat.le_of_ble_eq_true rfl) rfl dL_law_16 rfl ?_
  refine cn_bipush (v := 40) dL_law_17 (by decide +kernel) rfl ?_
  refine cn_newa (atype := .int) (ty := .int) (N' := 40) 0 ac_int rfl rfl (Nat.le_of_ble_eq_true rfl) (fun _ => rfl) (by decide +kernel) (by decide +kernel) (Nat.le_of_ble_eq_true rfl) (Nat.le_of_ble_eq_true rfl) (Nat.le_of_ble_eq_true rfl) dL_law_19 rfl (fun x48 => ?_)
  show Cn l D ck RL cL_law 21 room_1 21 [(3, .ref x47), (2, .ref x46), (1, .ref x1), (0, .ref b)] [.ref x48] [(x1, .inr (6, [.ref x2, .ref x4, .ref x6, .ref x11, .ref x13, .ref x17, .ref x19])), (x2, .inr (5, [.int 1, .ref x3])), (x3, .inl (ck 0, 36, .inl (fun _ => 0))), (x4, .inr (5, [.int 1, .ref x5])), (x5, .inl (ck 0, 36, .inl (fun _ => 0))), (x6, .inr (4, [.ref x7, .ref x8, .ref x9, .ref x10])), (x7, .inl (ck 0, 6, .inl (fun _ => 0))), (x8, .inl (ck 0, 6, .inl (fun _ => 0))), (x9, .inl (ck 0, 720, .inl (fun _ => 0))), (x10, .inl (ck 1, 720, .inl (fun _ => 0))), (x11, .inr (1, [.int 1, .int 0, .ref x12])), (x12, .inl (ck 0, 40, .inl (fun _ => 0))), (x13, .inr (0, [.ref x2, .ref x11, .ref x14, .ref x15, .ref x16, .int 0])), (x14, .inl (ck 0, 7, .inl (fun _ => 0))), (x15, .inl (ck 0, 10, .inl (fun _ => 0))), (x16, .inl (ck 0, 7, .inl (fun _ => 0))), (x17, .inr (2, [.int 0, .ref x18])), (x18, .inl (ck 2, 70, .inl (fun _ => 0))), (x19, .inr (3, [.int 0, .int 0, .ref x20, .ref x21])), (x20, .inl (ck 3, 6, .inr (.inr (.inr (.inr (va_up (va_up (va_up (va_up (va_up (va_up (fun _ => none) (Int32.toNatClampNeg 0) (some x22)) (Int32.toNatClampNeg 1) (some x26)) (Int32.toNatClampNeg 2) (some x30)) (Int32.toNatClampNeg 3) (some x34)) (Int32.toNatClampNeg 4) (some x38)) (Int32.toNatClampNeg 5) (some x42))))))), (x21, .inl (ck 4, 6, .inr (.inr (.inr (.inr (va_up (va_up (va_up (va_up (va_up (va_up (fun _ => none) (Int32.toNatClampNeg 0) (some x24)) (Int32.toNatClampNeg 1) (some x28)) (Int32.toNatClampNeg 2) (some x32)) (Int32.toNatClampNeg 3) (some x36)) (Int32.toNatClampNeg 4) (some x40)) (Int32.toNatClampNeg 5) (some x44))))))), (x22, .inr (5, [.int 1, .ref x23])), (x23, .inl (ck 0, 36, .inl (fun _ => 0))), (x24, .inr (1, [.int 1, .int 0, .ref x25])), (x25, .inl (ck 0, 40, .inl (fun _ => 0))), (x26, .inr (5, [.int 1, .ref x27])), (x27, .inl (ck 0, 36, .inl (fun _ => 0))), (x28, .inr (1, [.int 1, .int 0, .ref x29])), (x29, .inl (ck 0, 40, .inl (fun _ => 0))), (x30, .inr (5, [.int 1, .ref x31])), (x31, .inl (ck 0, 36, .inl (fun _ => 0))), (x32, .inr (1, [.int 1, .int 0, .ref x33])), (x33, .inl (ck 0, 40, .inl (fun _ => 0))), (x34, .inr (5, [.int 1, .ref x35])), (x35, .inl (ck 0, 36, .inl (fun _ => 0))), (x36, .inr (1, [.int 1, .int 0, .ref x37])), (x37, .inl (ck 0, 40, .inl (fun _ => 0))), (x38, .inr (5, [.int 1, .ref x39])), (x39, .inl (ck 0, 36, .inl (fun _ => 0))), (x40, .inr (1, [.int 1, .int 0, .ref x41])), (x41, .inl (ck 0, 40, .inl (fun _ => 0))), (x42, .inr (5, [.int 1, .ref x43])), (x43, .inl (ck 0, 36, .inl (fun _ => 0))), (x44, .inr (1, [.int 1, .int 0, .ref x45])), (x45, .inl (ck 0, 40, .inl (fun _ => 0))), (x46, .inl (ck 0, 3, .inl (fun _ => 0))), (x47, .inl (ck 0, 36, .inl (fun _ => 0))), (x48, .inl (ck 0, 40, .inl (fun _ => 0)))] _ _ _
  refine cn_astoreW (ls2 := [(4, .ref x48), (3, .ref x47), (2, .ref x46), (1, .ref x1), (0, .ref b)]) (Nat.le_of_ble_eq_true rfl) rfl dL_law_21 rfl ?_
  exact cn_end ⟨rfl, rfl, Nat.le_of_ble_eq_true rfl, Nat.le_of_ble_eq_true rfl, fun k => if k < 48 then [x1, x2, x3, x4, x5, x6, x7, x8, x9, x10, x11, x12, x13, x14, x15, x16, x17, x18, x19, x20, x21, x22, x23, x24, x25, x26, x27, x28, x29, x30, x31, x32, x33, x34, x35, x36, x37, x38, x39, x40, x41, x42, x43, x44, x45, x46, x47, x48].getD k 0 else g k, fun k hk => if_neg (by omega), rfl, rfl⟩
def w0 : Mem := fun c => bif [1, 3, 10, 21, 23, 25, 27, 29, 31, 33, 35, 37, 39, 41, 43].contains c then (fun k => if k = 0 then 1 else 0) else fun _ => 0
theorem va_up6 {a0 a1 a2 a3 a4 a5 : Nat} : va_up (va_up (va_up (va_up (va_up (va_up (fun _ => none) (Int32.toNatClampNeg 0) (some a0)) (Int32.toNatClampNeg 1) (some a1)) (Int32.toNatClampNeg 2) (some a2)) (Int32.toNatClampNeg 3) (some a3)) (Int32.toNatClampNeg 4) (some a4)) (Int32.toNatClampNeg 5) (some a5) = fun k => [a0, a1, a2, a3, a4, a5][k]? := by
  have e0 : Int32.toNatClampNeg 0 = 0 := by decide +kernel
  have e1 : Int32.toNatClampNeg 1 = 1 := by decide +kernel
  have e2 : Int32.toNatClampNeg 2 = 2 := by decide +kernel
  have e3 : Int32.toNatClampNeg 3 = 3 := by decide +kernel
  have e4 : Int32.toNatClampNeg 4 = 4 := by decide +kernel
  have e5 : Int32.toNatClampNeg 5 = 5 := by decide +kernel
  rw [e0, e1, e2, e3, e4, e5]
  funext k
  match k with
  | 0 => simp [va_up]
  | 1 => simp [va_up]
  | 2 => simp [va_up]
  | 3 => simp [va_up]
  | 4 => simp [va_up]
  | 5 => simp [va_up]
  | k + 6 => simp [va_up]
theorem map6 {ad : Nat → Nat} {a0 a1 a2 a3 a4 a5 : Nat} : (fun k : Nat => (([a0, a1, a2, a3, a4, a5] : List Nat)[k]?).map ad) = fun k : Nat => ([ad a0, ad a1, ad a2, ad a3, ad a4, ad a5] : List Nat)[k]? := by
  funext k
  rw [← List.getElem?_map]; rfl
theorem cell_0 (ck : Nat → ClassId) (z : Nat → Nat) : (oWs ck z)[0]? = (shA[0]?).map (fun x => (z 0, celE ck z (w0 0) x)) := rfl
theorem cell_1 (ck : Nat → ClassId) (z : Nat → Nat) : (oWs ck z)[1]? = (shA[1]?).map (fun x => (z 1, celE ck z (w0 1) x)) := rfl
theorem cell_2 (ck : Nat → ClassId) (z : Nat → Nat) : (oWs ck z)[2]? = (shA[2]?).map (fun x => (z 2, celE ck z (w0 2) x)) := rfl
theorem cell_3 (ck : Nat → ClassId) (z : Nat → Nat) : (oWs ck z)[3]? = (shA[3]?).map (fun x => (z 3, celE ck z (w0 3) x)) := rfl
theorem cell_4 (ck : Nat → ClassId) (z : Nat → Nat) : (oWs ck z)[4]? = (shA[4]?).map (fun x => (z 4, celE ck z (w0 4) x)) := rfl
theorem cell_5 (ck : Nat → ClassId) (z : Nat → Nat) : (oWs ck z)[5]? = (shA[5]?).map (fun x => (z 5, celE ck z (w0 5) x)) := rfl
theorem cell_6 (ck : Nat → ClassId) (z : Nat → Nat) : (oWs ck z)[6]? = (shA[6]?).map (fun x => (z 6, celE ck z (w0 6) x)) := rfl
theorem cell_7 (ck : Nat → ClassId) (z : Nat → Nat) : (oWs ck z)[7]? = (shA[7]?).map (fun x => (z 7, celE ck z (w0 7) x)) := rfl
theorem cell_8 (ck : Nat → ClassId) (z : Nat → Nat) : (oWs ck z)[8]? = (shA[8]?).map (fun x => (z 8, celE ck z (w0 8) x)) := rfl
theorem cell_9 (ck : Nat → ClassId) (z : Nat → Nat) : (oWs ck z)[9]? = (shA[9]?).map (fun x => (z 9, celE ck z (w0 9) x)) := rfl
theorem cell_10 (ck : Nat → ClassId) (z : Nat → Nat) : (oWs ck z)[10]? = (shA[10]?).map (fun x => (z 10, celE ck z (w0 10) x)) := rfl
theorem cell_11 (ck : Nat → ClassId) (z : Nat → Nat) : (oWs ck z)[11]? = (shA[11]?).map (fun x => (z 11, celE ck z (w0 11) x)) := rfl
theorem cell_12 (ck : Nat → ClassId) (z : Nat → Nat) : (oWs ck z)[12]? = (shA[12]?).map (fun x => (z 12, celE ck z (w0 12) x)) := rfl
theorem cell_13 (ck : Nat → ClassId) (z : Nat → Nat) : (oWs ck z)[13]? = (shA[13]?).map (fun x => (z 13, celE ck z (w0 13) x)) := rfl
theorem cell_14 (ck : Nat → ClassId) (z : Nat → Nat) : (oWs ck z)[14]? = (shA[14]?).map (fun x => (z 14, celE ck z (w0 14) x)) := rfl
theorem cell_15 (ck : Nat → ClassId) (z : Nat → Nat) : (oWs ck z)[15]? = (shA[15]?).map (fun x => (z 15, celE ck z (w0 15) x)) := rfl
theorem cell_16 (ck : Nat → ClassId) (z : Nat → Nat) : (oWs ck z)[16]? = (shA[16]?).map (fun x => (z 16, celE ck z (w0 16) x)) := rfl
theorem cell_17 (ck : Nat → ClassId) (z : Nat → Nat) : (oWs ck z)[17]? = (shA[17]?).map (fun x => (z 17, celE ck z (w0 17) x)) := rfl
theorem cell_18 (ck : Nat → ClassId) (z : Nat → Nat) : (oWs ck z)[18]? = (shA[18]?).map (fun x => (z 18, celE ck z (w0 18) x)) := rfl
theorem cell_19 (ck : Nat → ClassId) (z : Nat → Nat) : (oWs ck z)[19]? = (shA[19]?).map (fun x => (z 19, celE ck z (w0 19) x)) := by rw [show (oWs ck z)[19]? = some (z 19, .inl (ck 3, 6, .inr (.inr (.inr (.inr (va_up (va_up (va_up (va_up (va_up (va_up (fun _ => none) (Int32.toNatClampNeg 0) (some (z 21))) (Int32.toNatClampNeg 1) (some (z 25))) (Int32.toNatClampNeg 2) (some (z 29))) (Int32.toNatClampNeg 3) (some (z 33))) (Int32.toNatClampNeg 4) (some (z 37))) (Int32.toNatClampNeg 5) (some (z 41)))))))) from rfl, va_up6, show shA[19]? = some (.inr (.inr (3, [21, 25, 29, 33, 37, 41]))) from rfl]; show _ = some (z 19, (Sum.inl (ck 3, 6, .inr (.inr (.inr (.inr (fun k => (([21, 25, 29, 33, 37, 41] : List Nat)[k]?).map z))))) : va_E)); rw [map6]
theorem cell_20 (ck : Nat → ClassId) (z : Nat → Nat) : (oWs ck z)[20]? = (shA[20]?).map (fun x => (z 20, celE ck z (w0 20) x)) := by rw [show (oWs ck z)[20]? = some (z 20, .inl (ck 4, 6, .inr (.inr (.inr (.inr (va_up (va_up (va_up (va_up (va_up (va_up (fun _ => none) (Int32.toNatClampNeg 0) (some (z 23))) (Int32.toNatClampNeg 1) (some (z 27))) (Int32.toNatClampNeg 2) (some (z 31))) (Int32.toNatClampNeg 3) (some (z 35))) (Int32.toNatClampNeg 4) (some (z 39))) (Int32.toNatClampNeg 5) (some (z 43)))))))) from rfl, va_up6, show shA[20]? = some (.inr (.inr (4, [23, 27, 31, 35, 39, 43]))) from rfl]; show _ = some (z 20, (Sum.inl (ck 4, 6, .inr (.inr (.inr (.inr (fun k => (([23, 27, 31, 35, 39, 43] : List Nat)[k]?).map z))))) : va_E)); rw [map6]
theorem cell_21 (ck : Nat → ClassId) (z : Nat → Nat) : (oWs ck z)[21]? = (shA[21]?).map (fun x => (z 21, celE ck z (w0 21) x)) := rfl
theorem cell_22 (ck : Nat → ClassId) (z : Nat → Nat) : (oWs ck z)[22]? = (shA[22]?).map (fun x => (z 22, celE ck z (w0 22) x)) := rfl
theorem cell_23 (ck : Nat → ClassId) (z : Nat → Nat) : (oWs ck z)[23]? = (shA[23]?).map (fun x => (z 23, celE ck z (w0 23) x)) := rfl
theorem cell_24 (ck : Nat → ClassId) (z : Nat → Nat) : (oWs ck z)[24]? = (shA[24]?).map (fun x => (z 24, celE ck z (w0 24) x)) := rfl
theorem cell_25 (ck : Nat → ClassId) (z : Nat → Nat) : (oWs ck z)[25]? = (shA[25]?).map (fun x => (z 25, celE ck z (w0 25) x)) := rfl
theorem cell_26 (ck : Nat → ClassId) (z : Nat → Nat) : (oWs ck z)[26]? = (shA[26]?).map (fun x => (z 26, celE ck z (w0 26) x)) := rfl
theorem cell_27 (ck : Nat → ClassId) (z : Nat → Nat) : (oWs ck z)[27]? = (shA[27]?).map (fun x => (z 27, celE ck z (w0 27) x)) := rfl
theorem cell_28 (ck : Nat → ClassId) (z : Nat → Nat) : (oWs ck z)[28]? = (shA[28]?).map (fun x => (z 28, celE ck z (w0 28) x)) := rfl
theorem cell_29 (ck : Nat → ClassId) (z : Nat → Nat) : (oWs ck z)[29]? = (shA[29]?).map (fun x => (z 29, celE ck z (w0 29) x)) := rfl
theorem cell_30 (ck : Nat → ClassId) (z : Nat → Nat) : (oWs ck z)[30]? = (shA[30]?).map (fun x => (z 30, celE ck z (w0 30) x)) := rfl
theorem cell_31 (ck : Nat → ClassId) (z : Nat → Nat) : (oWs ck z)[31]? = (shA[31]?).map (fun x => (z 31, celE ck z (w0 31) x)) := rfl
theorem cell_32 (ck : Nat → ClassId) (z : Nat → Nat) : (oWs ck z)[32]? = (shA[32]?).map (fun x => (z 32, celE ck z (w0 32) x)) := rfl
theorem cell_33 (ck : Nat → ClassId) (z : Nat → Nat) : (oWs ck z)[33]? = (shA[33]?).map (fun x => (z 33, celE ck z (w0 33) x)) := rfl
theorem cell_34 (ck : Nat → ClassId) (z : Nat → Nat) : (oWs ck z)[34]? = (shA[34]?).map (fun x => (z 34, celE ck z (w0 34) x)) := rfl
theorem cell_35 (ck : Nat → ClassId) (z : Nat → Nat) : (oWs ck z)[35]? = (shA[35]?).map (fun x => (z 35, celE ck z (w0 35) x)) := rfl
theorem cell_36 (ck : Nat → ClassId) (z : Nat → Nat) : (oWs ck z)[36]? = (shA[36]?).map (fun x => (z 36, celE ck z (w0 36) x)) := rfl
theorem cell_37 (ck : Nat → ClassId) (z : Nat → Nat) : (oWs ck z)[37]? = (shA[37]?).map (fun x => (z 37, celE ck z (w0 37) x)) := rfl
theorem cell_38 (ck : Nat → ClassId) (z : Nat → Nat) : (oWs ck z)[38]? = (shA[38]?).map (fun x => (z 38, celE ck z (w0 38) x)) := rfl
theorem cell_39 (ck : Nat → ClassId) (z : Nat → Nat) : (oWs ck z)[39]? = (shA[39]?).map (fun x => (z 39, celE ck z (w0 39) x)) := rfl
theorem cell_40 (ck : Nat → ClassId) (z : Nat → Nat) : (oWs ck z)[40]? = (shA[40]?).map (fun x => (z 40, celE ck z (w0 40) x)) := rfl
theorem cell_41 (ck : Nat → ClassId) (z : Nat → Nat) : (oWs ck z)[41]? = (shA[41]?).map (fun x => (z 41, celE ck z (w0 41) x)) := rfl
theorem cell_42 (ck : Nat → ClassId) (z : Nat → Nat) : (oWs ck z)[42]? = (shA[42]?).map (fun x => (z 42, celE ck z (w0 42) x)) := rfl
theorem cell_43 (ck : Nat → ClassId) (z : Nat → Nat) : (oWs ck z)[43]? = (shA[43]?).map (fun x => (z 43, celE ck z (w0 43) x)) := rfl
theorem cell_44 (ck : Nat → ClassId) (z : Nat → Nat) : (oWs ck z)[44]? = (shA[44]?).map (fun x => (z 44, celE ck z (w0 44) x)) := rfl
theorem cell_45 (ck : Nat → ClassId) (z : Nat → Nat) : (oWs ck z)[45]? = (shA[45]?).map (fun x => (z 45, celE ck z (w0 45) x)) := rfl
theorem cell_46 (ck : Nat → ClassId) (z : Nat → Nat) : (oWs ck z)[46]? = (shA[46]?).map (fun x => (z 46, celE ck z (w0 46) x)) := rfl
theorem cell_47 (ck : Nat → ClassId) (z : Nat → Nat) : (oWs ck z)[47]? = (shA[47]?).map (fun x => (z 47, celE ck z (w0 47) x)) := rfl
theorem cells_at (ck : Nat → ClassId) (z : Nat → Nat) : ∀ k, k < 48 → (oWs ck z)[k]? = (shA[k]?).map (fun x => (z k, celE ck z (w0 k) x))
  | 0, _ => cell_0 ck z
  | 1, _ => cell_1 ck z
  | 2, _ => cell_2 ck z
  | 3, _ => cell_3 ck z
  | 4, _ => cell_4 ck z
  | 5, _ => cell_5 ck z
  | 6, _ => cell_6 ck z
  | 7, _ => cell_7 ck z
  | 8, _ => cell_8 ck z
  | 9, _ => cell_9 ck z
  | 10, _ => cell_10 ck z
  | 11, _ => cell_11 ck z
  | 12, _ => cell_12 ck z
  | 13, _ => cell_13 ck z
  | 14, _ => cell_14 ck z
  | 15, _ => cell_15 ck z
  | 16, _ => cell_16 ck z
  | 17, _ => cell_17 ck z
  | 18, _ => cell_18 ck z
  | 19, _ => cell_19 ck z
  | 20, _ => cell_20 ck z
  | 21, _ => cell_21 ck z
  | 22, _ => cell_22 ck z
  | 23, _ => cell_23 ck z
  | 24, _ => cell_24 ck z
  | 25, _ => cell_25 ck z
  | 26, _ => cell_26 ck z
  | 27, _ => cell_27 ck z
  | 28, _ => cell_28 ck z
  | 29, _ => cell_29 ck z
  | 30, _ => cell_30 ck z
  | 31, _ => cell_31 ck z
  | 32, _ => cell_32 ck z
  | 33, _ => cell_33 ck z
  | 34, _ => cell_34 ck z
  | 35, _ => cell_35 ck z
  | 36, _ => cell_36 ck z
  | 37, _ => cell_37 ck z
  | 38, _ => cell_38 ck z
  | 39, _ => cell_39 ck z
  | 40, _ => cell_40 ck z
  | 41, _ => cell_41 ck z
  | 42, _ => cell_42 ck z
  | 43, _ => cell_43 ck z
  | 44, _ => cell_44 ck z
  | 45, _ => cell_45 ck z
  | 46, _ => cell_46 ck z
  | 47, _ => cell_47 ck z
  | k + 48, h => absurd h (by omega)
theorem wld_of (ck : Nat → ClassId) (z : Nat → Nat) (k : Nat) (q : Nat × va_E) (h : (wld ck z shA w0)[k]? = some q) : (oWs ck z)[k]? = some q := by
  have hk : k < 48 := by
    have := (List.getElem?_eq_some_iff.mp h).1
    rw [← shA_len]; simpa [wld] using this
  rw [cells_at ck z k hk, ← h, wld, List.getElem?_mapIdx]
theorem oWs_at (ck : Nat → ClassId) (z : Nat → Nat) (k : Nat) (hk : k < 48) : ∃ e, (oWs ck z)[k]? = some (z k, e) := by
  have h2 : k < shA.length := by rw [shA_len]; exact hk
  exact ⟨celE ck z (w0 k) shA[k], by rw [cells_at ck z k hk, List.getElem?_eq_getElem h2]; rfl⟩
def W0 : WA := (((1, fun _ _ => 0), ((1, 0), (fun _ _ => 0, fun _ => 0))), ((0, fun _ => ((1, fun _ _ => 0), ((1, 0), (fun _ _ => 0, fun _ => 0)))), (0, fun _ => 0)))
theorem pxw0 : PXW w0 W0 := by
  refine ⟨⟨⟨rfl, ⟨by decide, by decide⟩, fun x y hx hy => ?_⟩, ⟨rfl, rfl, ⟨⟨by decide, by decide⟩, by decide⟩, fun k hk => absurd hk (Nat.not_lt_zero _)⟩⟩, ⟨rfl, Nat.zero_le _, 0, by decide, rfl, fun i hi => absurd hi (Nat.not_lt_zero _)⟩, ⟨rfl, Nat.zero_le _, fun i hi => absurd hi (Nat.not_lt_zero _)⟩⟩
  exact ⟨rfl, Nat.zero_lt_one⟩
theorem arr_of {s : State} {args : Array Value} {ty : FieldType} (h : (Cond.arrayClass ty).before args s = true) : ∃ cA, s.vm.findClass ("[" ++ ty.toString) = some cA ∧ ArrOfT s cA ty := by
  obtain ⟨cA, kA, comp, h1, h2, h3⟩ := Cond.arrayClass_spec h
  exact ⟨cA, h1, fun N z => ⟨(fun k h => by cases h), kA, h2, comp, h3⟩⟩
theorem ovr_of {s : State} {C : String} (h : va_AO C s) : ∃ cA, ArrOfT s cA (.object C) ∧ va_RA s cA (.object C) := by
  obtain ⟨comp, cA, kA, h1, h2, h3, h4, h5⟩ := Cond.arrayOver_spec h
  exact ⟨cA, fun N z => ⟨(fun k h => by cases h), kA, h3, comp, h4⟩, kA, comp, h3, h4, h1, h5⟩
